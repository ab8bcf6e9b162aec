/-- the state without what is only scratch -/
def cor (σ : Sg) : Sg := fun f i => if f < 22 then σ f i else 0
theorem cor_at (σ : Sg) {f : Nat} (hf : f < 22) (i : Nat) : cor σ f i = σ f i := by unfold cor; rw [if_pos hf]
theorem cor_eq {σ τ : Sg} (e : cor σ = cor τ) {f : Nat} (hf : f < 22) (i : Nat) : σ f i = τ f i := by rw [← cor_at σ hf, e, cor_at τ hf]
theorem cor_sF (σ : Sg) {k : Nat} (hk : 22 ≤ k) (g : Nat → Int) : cor (sF σ k g) = cor σ := by
  funext f i
  unfold cor sF
  by_cases c : f < 22
  · rw [if_pos c, if_pos c, if_neg (by omega)]
  · rw [if_neg c, if_neg c]
theorem cor_sg (σ : Sg) {k : Nat} (hk : 22 ≤ k) (j : Nat) (x : Int) : cor (sg σ k j x) = cor σ := by
  funext f i
  unfold cor sg
  by_cases c : f < 22
  · rw [if_pos c, if_pos c, if_neg (by omega)]
  · rw [if_neg c, if_neg c]
theorem cor_sg2 {σ τ : Sg} (e : cor σ = cor τ) (k j : Nat) (x : Int) : cor (sg σ k j x) = cor (sg τ k j x) := by
  funext f i
  unfold cor sg
  by_cases c : f < 22
  · rw [if_pos c, if_pos c]
    by_cases d : f = k ∧ i = j
    · rw [if_pos d, if_pos d]
    · rw [if_neg d, if_neg d]; exact cor_eq e c i
  · rw [if_neg c, if_neg c]
theorem cmg_cor (σ : Sg) (b : Nat) : ∀ i, cmg σ b i = cmg (cor σ) b i
  | 0 => rfl
  | i + 1 => by
    funext t
    unfold cmg
    rw [cmg_cor σ b i]
    rfl
theorem fnd_cor (σ : Sg) (b : Nat) : fnd σ b = fnd (cor σ) b := by
  unfold fnd
  rw [cmg_cor σ b]
  rfl
theorem bkF_cor (σ : Sg) (b : Nat) : ∀ (i e : Nat) (F : Nat → Int), bkF σ b i e F = bkF (cor σ) b i e F
  | 0, _, _ => rfl
  | i + 1, e, F => by
    unfold bkF
    rw [bkF_cor σ b i, cmg_cor σ b i]
    rfl
theorem pt_cor (σ : Sg) (b e j : Nat) : pt σ b e j = pt (cor σ) b e j := by
  unfold pt
  rw [bkF_cor σ b]
  rfl
theorem fnd_eq {σ τ : Sg} (e : cor σ = cor τ) (b : Nat) : fnd σ b = fnd τ b := by rw [fnd_cor, e, ← fnd_cor]
theorem WB_eq {σ τ : Sg} (e : cor σ = cor τ) (h : WB τ) : WB σ := by
  have h1 : WB (cor τ) := h
  rw [← e] at h1
  exact h1
theorem giv_eq {σ τ : Sg} (e : cor σ = cor τ) (b t : Nat) : cor (giv σ b t) = cor (giv τ b t) := by
  have e1 : ∀ σ : Sg, cor (giv σ b t) = cor (giv (cor σ) b t) := by
    intro σ
    funext f i
    unfold cor
    by_cases c : f < 22
    · rw [if_pos c, if_pos c]
      show giv σ b t f i = giv (cor σ) b t f i
      unfold giv
      rw [← pt_cor, show lgs (cor σ) b = lgs σ b from rfl, cor_at σ c]
    · rw [if_neg c, if_neg c]
  rw [e1 σ, e1 τ, e]
theorem WB_giv {σ : Sg} (hw : WB σ) {b t : Nat} (hb : (b : Int) < σ 9 0) (hf : fnd σ b = some t) : WB (giv σ b t) := by
  have h9 := hw.1.2.2.2.1
  have hlg := lgs_rng hw.1 (b := b) (by omega)
  refine ⟨?_, fun c hc => hw.2 c hc⟩
  obtain ⟨q1, q2, q3, q4, q5, q6, q7, q8, q9, q10⟩ := hw.1
  refine ⟨q1, q2, q3, q4, q5, q6, q7, q8, fun c hc => ?_, fun i hi => ⟨?_, (q10 i hi).2⟩⟩
  · obtain ⟨r1, r2, r3, r4, r5, r6, r7, r8, r9, r10⟩ := q9 c hc
    refine ⟨r1, r2, r3, r4, r5, r6, r7, r8, r9, ?_⟩
    show (if 19 = 19 ∧ c = b then (1 : Int) else σ 19 c) = 0 ∨ (if 19 = 19 ∧ c = b then (1 : Int) else σ 19 c) = 1
    split
    · exact Or.inr rfl
    · exact r10
  · have e : giv σ b t 20 i = if 8 * b ≤ i ∧ i ≤ 8 * b + (lgs σ b).toNat then pt σ b t (i - 8 * b) else σ 20 i := by unfold giv; simp
    rw [e]
    split
    · exact pt_rng hw.1 (by omega) hf _
    · exact (q10 i hi).1
theorem WB_19 {σ : Sg} (hw : WB σ) (b : Nat) : WB (sg σ 19 b 0) := by
  refine ⟨?_, hw.2⟩
  obtain ⟨q1, q2, q3, q4, q5, q6, q7, q8, q9, q10⟩ := hw.1
  refine ⟨q1, q2, q3, q4, q5, q6, q7, q8, fun c hc => ?_, q10⟩
  obtain ⟨r1, r2, r3, r4, r5, r6, r7, r8, r9, r10⟩ := q9 c hc
  refine ⟨r1, r2, r3, r4, r5, r6, r7, r8, r9, ?_⟩
  show (if 19 = 19 ∧ c = b then (0 : Int) else σ 19 c) = 0 ∨ (if 19 = 19 ∧ c = b then (0 : Int) else σ 19 c) = 1
  split
  · exact Or.inl rfl
  · exact r10
/-- a bid comes, with the one that it is linked to right behind it -/
def comeS (σ : Sg) (b : Nat) : Sg := match fnd σ b with
  | none => σ
  | some e => if σ 18 b = -1 then giv σ b e else match fnd (giv σ b e) (σ 18 b).toNat with
    | some e2 => giv (giv σ b e) (σ 18 b).toNat e2
    | none => sg (giv σ b e) 19 b 0
def clrS (σ : Sg) : Sg := fun f i => if f = 19 ∧ (i : Int) < σ 9 0 then 0 else σ f i
def LK (σ : Sg) : Prop := ∀ b : Nat, (b : Int) < σ 9 0 → σ 18 b = -1 ∨ (0 ≤ σ 18 b ∧ σ 18 b < σ 9 0)
def goF (σ : Sg) (f : Nat → Nat) : Nat → Sg × (Nat → Bool)
  | 0 => (clrS σ, fun _ => false)
  | k + 1 => if (goF σ f k).2 (f k) then goF σ f k else (comeS (goF σ f k).1 (f k), fun i => (goF σ f k).2 i || decide (i = f k) || decide ((i : Int) = σ 18 (f k)))
theorem comeS_WB {σ : Sg} (hw : WB σ) (hl : LK σ) {b : Nat} (hb : (b : Int) < σ 9 0) : WB (comeS σ b) ∧ ∀ f i, (f < 19 ∨ 20 < f) → comeS σ b f i = σ f i := by
  have gk : ∀ (σ : Sg) (b t f i : Nat), (f < 19 ∨ 20 < f) → giv σ b t f i = σ f i := by
    intro σ b t f i hf
    unfold giv
    rw [if_neg (fun z => by omega), if_neg (fun z => by omega)]
  unfold comeS
  cases h1 : fnd σ b with
  | none => exact ⟨hw, fun _ _ _ => rfl⟩
  | some e =>
    have hw1 := WB_giv hw hb h1
    simp only
    by_cases c : σ 18 b = -1
    · rw [if_pos c]
      exact ⟨hw1, fun f i hf => gk σ b e f i hf⟩
    · rw [if_neg c]
      have hlb := hl b hb
      cases h2 : fnd (giv σ b e) (σ 18 b).toNat with
      | none =>
        refine ⟨WB_19 hw1 b, fun f i hf => ?_⟩
        show sg (giv σ b e) 19 b 0 f i = _
        rw [sg_f _ _ _ _ (by omega), gk σ b e f i hf]
      | some e2 =>
        refine ⟨WB_giv hw1 (show (((σ 18 b).toNat : Nat) : Int) < σ 9 0 by omega) h2, fun f i hf => ?_⟩
        show giv (giv σ b e) (σ 18 b).toNat e2 f i = _
        rw [gk _ _ _ f i hf, gk σ b e f i hf]
theorem clrS_WB {σ : Sg} (hw : WB σ) : WB (clrS σ) := by
  refine ⟨?_, hw.2⟩
  obtain ⟨q1, q2, q3, q4, q5, q6, q7, q8, q9, q10⟩ := hw.1
  refine ⟨q1, q2, q3, q4, q5, q6, q7, q8, fun c hc => ?_, q10⟩
  obtain ⟨r1, r2, r3, r4, r5, r6, r7, r8, r9, r10⟩ := q9 c hc
  refine ⟨r1, r2, r3, r4, r5, r6, r7, r8, r9, ?_⟩
  show (if 19 = 19 ∧ (c : Int) < σ 9 0 then (0 : Int) else σ 19 c) = 0 ∨ (if 19 = 19 ∧ (c : Int) < σ 9 0 then (0 : Int) else σ 19 c) = 1
  split
  · exact Or.inl rfl
  · exact r10
theorem goF_WB {σ : Sg} (hw : WB σ) (hl : LK σ) {f : Nat → Nat} {n : Nat} (hf : ∀ k, k < n → (f k : Int) < σ 9 0) : ∀ k, k ≤ n → WB (goF σ f k).1 ∧ ∀ g i, (g < 19 ∨ 20 < g) → (goF σ f k).1 g i = σ g i
  | 0, _ => ⟨clrS_WB hw, fun g i hg => by
    show clrS σ g i = σ g i
    unfold clrS
    rw [if_neg (fun z => by omega)]⟩
  | k + 1, hk => by
    obtain ⟨h1, h2⟩ := goF_WB hw hl hf k (by omega)
    unfold goF
    by_cases c : (goF σ f k).2 (f k) = true
    · rw [if_pos c]; exact ⟨h1, h2⟩
    · rw [if_neg c]
      have e9 := h2 9 0 (by omega)
      have hl2 : LK (goF σ f k).1 := by
        intro b hb
        rw [e9] at hb
        rw [h2 18 b (by omega), e9]
        exact hl b hb
      obtain ⟨g1, g2⟩ := comeS_WB h1 hl2 (b := f k) (by rw [e9]; exact hf k (by omega))
      exact ⟨g1, fun g i hg => (g2 g i hg).trans (h2 g i hg)⟩
