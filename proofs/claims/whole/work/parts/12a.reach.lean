/-! what can still be reached -/
theorem sumI_s (f : Nat → Int) (n : Nat) : sumI f (n + 1) = sumI f n + f n := rfl
theorem sumI_upd {f g : Nat → Int} {b : Nat} (h : ∀ j, j ≠ b → f j = g j) : ∀ n, sumI f n = sumI g n + (if b < n then f b - g b else 0)
  | 0 => by simp [sumI]
  | n + 1 => by
    have ih := sumI_upd h n
    rw [sumI_s, sumI_s, ih]
    by_cases c : n = b
    · subst c
      rw [if_neg (Nat.lt_irrefl _), if_pos (Nat.lt_succ_self _)]
      omega
    · rw [h n c]
      by_cases d : b < n
      · rw [if_pos d, if_pos (show b < n + 1 by omega)]; omega
      · rw [if_neg d, if_neg (show ¬ b < n + 1 by omega)]; omega
def rch (κ : Sg) (n : Nat) (x : Sg × (Nat → Bool)) : Int := sumW x.1 + sumI (fun i => if x.2 i then 0 else κ 16 i) n
def unc (n : Nat) (x : Nat → Bool) : Int := cntI (fun i => !x i) n
def GX (κ : Sg) (n : Nat) (lk : Nat → Nat) (x : Sg × (Nat → Bool)) : Prop := WB x.1 ∧ (∀ f i, (f < 19 ∨ 20 < f) → x.1 f i = κ f i) ∧ (∀ i, i < n → x.2 i = false → x.1 19 i = 0) ∧ ∀ i, i < n → x.2 i = false → x.2 (lk i) = false
section
variable {κ : Sg} {n : Nat} {lk : Nat → Nat}
theorem lkN_ok (hl : LSy κ) (hn : (n : Int) = κ 9 0) {b : Nat} (hb : b < n) : lkN κ b < n ∧ lkN κ (lkN κ b) = b := by
  unfold lkN
  rcases hl b (by omega) with z | ⟨z1, z2, z3, z4⟩
  · rw [if_pos z]
    exact ⟨hb, by rw [if_pos z]⟩
  · rw [if_neg (by omega)]
    refine ⟨by omega, ?_⟩
    rw [z4, if_neg (by omega)]
    omega
theorem comeS_lv {s : Sg} (hw : WB s) (hl : LK s) {b c : Nat} (hb : (b : Int) < s 9 0) (hc : (c : Int) < s 9 0) (h1 : c ≠ b) (h2 : (c : Int) ≠ s 18 b) {j : Int} (j0 : 0 ≤ j) (j1 : j < lgs s c) : lv (comeS s b) c j = lv s c j := by
  have h9 := hw.1.2.2.2.1
  unfold comeS
  cases hf : fnd s b with
  | none => rfl
  | some e =>
    have hw1 := WB_giv hw hb hf
    simp only
    by_cases q : s 18 b = -1
    · rw [if_pos q, lv_giv hw.1 (by omega) (by omega) j0 j1, if_neg h1]
    · rw [if_neg q]
      have hlb := hl b hb
      have el : lgs (giv s b e) c = lgs s c := by unfold lgs; rw [giv_k _ _ _ _ (by omega), giv_k _ _ _ _ (by omega)]
      cases hf2 : fnd (giv s b e) (s 18 b).toNat with
      | none =>
        show lv (sg (giv s b e) 19 b 0) c j = _
        have e2 : lv (sg (giv s b e) 19 b 0) c j = lv (giv s b e) c j := sg_f _ _ _ _ (by decide)
        rw [e2, lv_giv hw.1 (by omega) (by omega) j0 j1, if_neg h1]
      | some e2 =>
        show lv (giv (giv s b e) (s 18 b).toNat e2) c j = _
        rw [lv_giv hw1.1 (by omega) (by omega) j0 (by rw [el]; exact j1), if_neg (by omega), lv_giv hw.1 (by omega) (by omega) j0 j1, if_neg h1]
theorem GX.step {x : Sg × (Nat → Bool)} (hx : GX κ n lk x) (hl : LSy κ) (hn : (n : Int) = κ 9 0) (hlk : ∀ b, b < n → lk b = lkN κ b) {b : Nat} (hb : b < n) (hc : x.2 b = false) : GX κ n lk (gs lk x b) ∧ gs lk x b = (comeS x.1 b, cU lk x.2 b) := by
  obtain ⟨h1, h2, h3, h4⟩ := hx
  have e : gs lk x b = (comeS x.1 b, cU lk x.2 b) := by unfold gs; rw [if_neg (by rw [hc]; simp)]
  refine ⟨?_, e⟩
  rw [e]
  have e9 := h2 9 0 (by omega)
  have e18 := h2 18 b (by omega)
  have hlx : LK x.1 := fun c hcc => by
    rw [e9] at hcc
    rw [h2 18 c (by omega), e9]
    exact hl.lk c hcc
  obtain ⟨w1, w2⟩ := comeS_WB h1 hlx (b := b) (by omega)
  have inv := fun c (hcn : c < n) => lkN_ok hl hn hcn
  have hlb := hl b (by omega)
  refine ⟨w1, fun f i hf => (w2 f i hf).trans (h2 f i hf), fun i hi z => ?_, fun i hi z => ?_⟩
  · simp only [cU, Bool.or_eq_false_iff, decide_eq_false_iff_not] at z
    show comeS x.1 b 19 i = 0
    rw [comeS_off (by rw [e18]; omega) z.1.2 ?_]
    · exact h3 i hi z.1.1
    · rw [e18]
      intro y
      apply z.2
      rw [hlk b hb]
      unfold lkN
      rw [if_neg (by omega)]
      omega
  · simp only [cU, Bool.or_eq_false_iff, decide_eq_false_iff_not] at z ⊢
    have i1 := inv i hi
    have b1 := inv b hb
    rw [hlk b hb] at z ⊢
    rw [hlk i hi]
    refine ⟨⟨by rw [← hlk i hi]; exact h4 i hi z.1.1, fun y => ?_⟩, fun y => ?_⟩
    · apply z.2
      rw [← y, i1.2]
    · apply z.1.2
      rw [← i1.2, y, b1.2]
theorem rch_step {x : Sg × (Nat → Bool)} (hx : GX κ n lk x) (hl : LSy κ) (hn : (n : Int) = κ 9 0) (hlk : ∀ b, b < n → lk b = lkN κ b) {b : Nat} (hb : b < n) (hc : x.2 b = false) : rch κ n (gs lk x b) = rch κ n x - lostS x.1 b := by
  obtain ⟨-, e⟩ := hx.step hl hn hlk hb hc
  obtain ⟨h1, h2, h3, h4⟩ := hx
  have e9 := h2 9 0 (by omega)
  have e18 := h2 18 b (by omega)
  have e16 : ∀ i, x.1 16 i = κ 16 i := fun i => h2 16 i (by omega)
  have hg := h3 b hb hc
  have hlb := hl b (by omega)
  have lb := hlk b hb
  rw [e]
  unfold rch
  show sumW (comeS x.1 b) + sumI (fun i => if cU lk x.2 b i then 0 else κ 16 i) n = _
  -- the worths that are left
  have hU : sumI (fun i => if cU lk x.2 b i then 0 else κ 16 i) n = sumI (fun i => if x.2 i then 0 else κ 16 i) n - κ 16 b - (if κ 18 b = -1 then 0 else κ 16 (κ 18 b).toNat) := by
    have s1 : sumI (fun i => if (x.2 i || decide (i = b)) then 0 else κ 16 i) n = sumI (fun i => if x.2 i then 0 else κ 16 i) n - κ 16 b := by
      rw [sumI_upd (f := fun i => if (x.2 i || decide (i = b)) then 0 else κ 16 i) (g := fun i => if x.2 i then 0 else κ 16 i) (b := b) (fun j hj => by simp [hj]) n, if_pos hb]
      simp [hc]
      omega
    by_cases q : κ 18 b = -1
    · have el : lk b = b := by rw [lb]; unfold lkN; rw [if_pos q]
      rw [if_pos q]
      have : (fun i => if cU lk x.2 b i then 0 else κ 16 i) = fun i => if (x.2 i || decide (i = b)) then 0 else κ 16 i := by
        funext i
        unfold cU
        rw [el, Bool.or_assoc, Bool.or_self]
      rw [this, s1]
      omega
    · rw [if_neg q]
      have el : lk b = (κ 18 b).toNat := by rw [lb]; unfold lkN; rw [if_neg q]
      have ho : (κ 18 b).toNat < n ∧ (κ 18 b).toNat ≠ b := by omega
      have hco := h4 b hb hc
      rw [el] at hco
      rw [sumI_upd (f := fun i => if cU lk x.2 b i then 0 else κ 16 i) (g := fun i => if (x.2 i || decide (i = b)) then 0 else κ 16 i) (b := (κ 18 b).toNat) (fun j hj => by simp [cU, el, hj]) n, if_pos ho.1, s1]
      simp [cU, el, hco, ho.2]
      omega
  -- what is given
  have wsum : ∀ (s s' : Sg) (c : Nat), s' 9 0 = s 9 0 → (∀ j, s' 16 j = s 16 j) → (∀ j, j ≠ c → s' 19 j = s 19 j) → (c : Int) < s 9 0 → sumW s' = sumW s + (wrt s' c - wrt s c) := fun s s' c y1 y2 y3 y4 => by
    unfold sumW
    rw [y1, sumI_upd (f := wrt s') (g := wrt s) (b := c) (fun j hj => by unfold wrt; rw [y2, y3 j hj]), if_pos (by omega)]
  have gsum : ∀ (s : Sg) (c e : Nat), (c : Int) < s 9 0 → s 19 c = 0 → sumW (giv s c e) = sumW s + s 16 c := fun s c e y1 y2 => by
    rw [wsum s (giv s c e) c (giv_k _ _ _ _ (by omega)) (fun j => giv_k _ _ _ _ (by omega)) (fun j hj => by rw [giv_19, if_neg hj]) y1]
    unfold wrt
    rw [giv_19, if_pos rfl, giv_k _ _ _ _ (by omega), y2]
    simp
  have hS : sumW (comeS x.1 b) = sumW x.1 + κ 16 b + (if κ 18 b = -1 then 0 else κ 16 (κ 18 b).toNat) - lostS x.1 b := by
    unfold comeS lostS
    rw [e18]
    cases hf : fnd x.1 b with
    | none =>
      simp only
      rw [e16, e16]
      by_cases q : κ 18 b = -1
      · rw [if_pos q, if_pos q]; omega
      · rw [if_neg q, if_neg q]; omega
    | some e1 =>
      simp only
      by_cases q : κ 18 b = -1
      · rw [if_pos q, if_pos q, if_pos q, gsum x.1 b e1 (by omega) hg, e16]; omega
      · rw [if_neg q, if_neg q, if_neg q]
        have ho : (κ 18 b).toNat < n ∧ (κ 18 b).toNat ≠ b := by omega
        have hgo : x.1 19 (κ 18 b).toNat = 0 := by
          have el : lk b = (κ 18 b).toNat := by rw [lb]; unfold lkN; rw [if_neg q]
          have := h4 b hb hc
          rw [el] at this
          exact h3 _ ho.1 this
        cases hf2 : fnd (giv x.1 b e1) (κ 18 b).toNat with
        | none =>
          show sumW (sg (giv x.1 b e1) 19 b 0) = sumW x.1 + κ 16 b + κ 16 (κ 18 b).toNat - (x.1 16 b + x.1 16 (κ 18 b).toNat)
          rw [wsum x.1 (sg (giv x.1 b e1) 19 b 0) b (by rw [sg_f _ _ _ _ (by decide), giv_k _ _ _ _ (by omega)]) (fun j => by rw [sg_f _ _ _ _ (by decide), giv_k _ _ _ _ (by omega)]) (fun j hj => by rw [sg_i _ _ _ hj, giv_19, if_neg hj]) (by omega)]
          unfold wrt
          rw [sg_eq, hg, e16, e16]
          simp
          omega
        | some e2 =>
          show sumW (giv (giv x.1 b e1) (κ 18 b).toNat e2) = sumW x.1 + κ 16 b + κ 16 (κ 18 b).toNat - 0
          rw [gsum _ _ e2 (by rw [giv_k _ _ _ _ (by omega)]; omega) (by rw [giv_19, if_neg ho.2]; exact hgo), gsum x.1 b e1 (by omega) hg, giv_k _ _ _ _ (by omega), e16, e16]
          omega
  rw [hS, hU]
  omega
theorem lost_rng {s : Sg} (hw : WF s) {b : Nat} (hb : b < 16) (hl : s 18 b = -1 ∨ (0 ≤ s 18 b ∧ s 18 b < 16)) : 0 ≤ lostS s b ∧ lostS s b ≤ 2000 := by
  have h1 := (hw.bid hb).2.2.2.2.2.2.1
  unfold lostS
  rcases hl with q | q
  · simp only [if_pos q]
    cases fnd s b with
    | none => simp only; omega
    | some e => simp only; omega
  · have h2 := (hw.bid (b := (s 18 b).toNat) (by omega)).2.2.2.2.2.2.1
    have qn : ¬ s 18 b = -1 := by omega
    simp only [if_neg qn]
    cases fnd s b with
    | none => simp only; omega
    | some e =>
      simp only
      cases fnd (giv s b e) (s 18 b).toNat with
      | none => simp only; omega
      | some e2 => simp only; omega
theorem rch_ge {x : Sg × (Nat → Bool)} (hw : WF κ) (hn : n ≤ 16) : sumW x.1 ≤ rch κ n x := by
  have := (sumI_rng (f := fun i => if x.2 i then 0 else κ 16 i) (c := 1000) (by omega) (n := n) (fun j hj => by
    have := (hw.bid (b := j) (by omega)).2.2.2.2.2.2.1
    split <;> omega)).1
  unfold rch
  omega
theorem rch_all {x : Sg × (Nat → Bool)} (h : ∀ i, i < n → x.2 i = true) : rch κ n x = sumW x.1 := by
  have : sumI (fun i => if x.2 i then 0 else κ 16 i) n = sumI (fun _ => 0) n := sumI_congr (fun j hj => by rw [h j hj]; rfl)
  have z : ∀ n, sumI (fun _ => 0) n = 0 := fun n => by
    induction n with
    | zero => rfl
    | succ n ih => rw [sumI_s, ih]; rfl
  unfold rch
  rw [this, z]
  omega
theorem leaf_le (hw : WF κ) (hl : LSy κ) (hn : (n : Int) = κ 9 0) (h16 : n ≤ 16) (hlk : ∀ b, b < n → lk b = lkN κ b) : ∀ (f : Nat) (x : Sg × (Nat → Bool)) (s : List Nat), GX κ n lk x → s ∈ dfL lk n f x.2 → sumW (s.foldl (gs lk) x).1 ≤ rch κ n x
  | 0, x, s, _, hs => by
    have : s = [] := by simpa [dfL] using hs
    subst this
    exact rch_ge hw h16
  | f + 1, x, s, hx, hs => by
    unfold dfL at hs
    split at hs
    · have : s = [] := by simpa using hs
      subst this
      exact rch_ge hw h16
    · rw [List.mem_flatMap] at hs
      obtain ⟨i, i1, i2⟩ := hs
      rw [List.mem_map] at i2
      obtain ⟨s', s1, s2⟩ := i2
      rw [List.mem_filter, List.mem_range] at i1
      have hc : x.2 i = false := by simpa using i1.2
      obtain ⟨g1, g2⟩ := hx.step hl hn hlk i1.1 hc
      have e2 : (gs lk x i).2 = cU lk x.2 i := by rw [g2]
      have ih := leaf_le hw hl hn h16 hlk f (gs lk x i) s' g1 (by rw [e2]; exact s1)
      rw [← s2]
      show sumW (s'.foldl (gs lk) (gs lk x i)).1 ≤ _
      have hlo := lost_rng (s := x.1) hx.1.1 (b := i) (by omega) (by
        rw [hx.2.1 18 i (by omega)]
        rcases hl i (by omega) with z | z
        · exact Or.inl z
        · exact Or.inr (by omega))
      have := rch_step hx hl hn hlk i1.1 hc
      omega
theorem cntI_lt {P Q : Nat → Bool} {b : Nat} (hP : P b = true) (hQ : Q b = false) (hPQ : ∀ j, Q j = true → P j = true) : ∀ n, b < n → cntI Q n + 1 ≤ cntI P n
  | 0, h => absurd h (Nat.not_lt_zero _)
  | n + 1, h => by
    rw [cntI_s, cntI_s]
    have mono : ∀ n, cntI Q n ≤ cntI P n := fun n => by
      induction n with
      | zero => exact Int.le_refl _
      | succ n ih =>
        rw [cntI_s, cntI_s]
        cases hq : Q n with
        | true => rw [hPQ n hq]; simp; exact ih
        | false => simp; split <;> omega
    by_cases c : b = n
    · subst c
      rw [hP, hQ]
      have := mono b
      simp
      exact this
    · have ih := cntI_lt hP hQ hPQ n (by omega)
      cases hq : Q n with
      | true => rw [hPQ n hq]; simp; omega
      | false => simp; split <;> omega
theorem unc_step {x : Nat → Bool} {b : Nat} (hb : b < n) (hc : x b = false) : unc n (cU lk x b) + 1 ≤ unc n x := by
  unfold unc
  refine cntI_lt (b := b) (by simp [hc]) (by simp [cU]) (fun j hj => ?_) n hb
  simp only [cU, Bool.not_or, Bool.and_eq_true] at hj
  exact hj.1.1
end
