/-! two states that give the same minutes: they may differ in what is written of bids without a path, and in scratch -/
def st (σ : Sg) : Sg := fun f i => if f < 22 ∧ f ≠ 20 then σ f i else 0
def EQ (σ τ : Sg) : Prop := (∀ f i, f < 22 → f ≠ 20 → σ f i = τ f i) ∧ ∀ (b : Nat) (i : Int), (b : Int) < σ 9 0 → σ 19 b ≠ 0 → 0 ≤ i → i < lgs σ b → lv σ b i = lv τ b i
theorem EQ.st {σ τ : Sg} (h : EQ σ τ) : st σ = st τ := by
  funext f i
  unfold _root_.Jvm.Pilot.CFreightPathsLaw_law_r8975_db95ec.st
  split
  · rename_i hh
    exact h.1 f i hh.1 hh.2
  · rfl
theorem EQ.rfl' (σ : Sg) : EQ σ σ := ⟨fun _ _ _ _ => rfl, fun _ _ _ _ _ _ => rfl⟩
theorem st_of {α : Type} (F : Sg → α) (hF : ∀ σ, F σ = F (st σ)) {σ τ : Sg} (h : EQ σ τ) : F σ = F τ := by rw [hF σ, h.st, ← hF τ]
theorem EQ.lgs {σ τ : Sg} (h : EQ σ τ) (b : Nat) : lgs σ b = lgs τ b := st_of (fun σ => _root_.Jvm.Pilot.CFreightPathsLaw_law_r8975_db95ec.lgs σ b) (fun _ => rfl) h
theorem EQ.sec {σ τ : Sg} (h : EQ σ τ) (b : Nat) (i : Int) : sec σ b i = sec τ b i := st_of (fun σ => _root_.Jvm.Pilot.CFreightPathsLaw_law_r8975_db95ec.sec σ b i) (fun _ => rfl) h
theorem EQ.stn {σ τ : Sg} (h : EQ σ τ) (b : Nat) (i : Int) : stn σ b i = stn τ b i := st_of (fun σ => _root_.Jvm.Pilot.CFreightPathsLaw_law_r8975_db95ec.stn σ b i) (fun _ => rfl) h
theorem EQ.lng {σ τ : Sg} (h : EQ σ τ) (b : Nat) (i : Int) : lng σ b i = lng τ b i := st_of (fun σ => _root_.Jvm.Pilot.CFreightPathsLaw_law_r8975_db95ec.lng σ b i) (fun _ => rfl) h
theorem EQ.bhd {σ τ : Sg} (h : EQ σ τ) : bhd σ = bhd τ := st_of (fun σ => _root_.Jvm.Pilot.CFreightPathsLaw_law_r8975_db95ec.bhd σ) (fun _ => rfl) h
theorem EQ.legO {σ τ : Sg} (h : EQ σ τ) (b : Nat) (s : Int) : legO σ b s = legO τ b s := st_of (fun σ => _root_.Jvm.Pilot.CFreightPathsLaw_law_r8975_db95ec.legO σ b s) (fun _ => rfl) h
theorem EQ.clsd {σ τ : Sg} (h : EQ σ τ) (s t : Int) : clsd σ s t = clsd τ s t := st_of (fun σ => _root_.Jvm.Pilot.CFreightPathsLaw_law_r8975_db95ec.clsd σ s t) (fun _ => rfl) h
theorem EQ.sumW {σ τ : Sg} (h : EQ σ τ) : sumW σ = sumW τ := st_of (fun σ => _root_.Jvm.Pilot.CFreightPathsLaw_law_r8975_db95ec.sumW σ) (fun _ => rfl) h
theorem EQ.cntG {σ τ : Sg} (h : EQ σ τ) : cntG σ = cntG τ := st_of (fun σ => _root_.Jvm.Pilot.CFreightPathsLaw_law_r8975_db95ec.cntG σ) (fun _ => rfl) h
theorem EQ.symm {σ τ : Sg} (h : EQ σ τ) : EQ τ σ := by
  refine ⟨fun f i h1 h2 => (h.1 f i h1 h2).symm, fun b i h1 h2 h3 h4 => (h.2 b i ?_ ?_ h3 ?_).symm⟩
  · rw [h.1 9 0 (by omega) (by omega)]; exact h1
  · rw [h.1 19 b (by omega) (by omega)]; exact h2
  · rw [h.lgs]; exact h4
theorem EQ.trans {σ τ υ : Sg} (h : EQ σ τ) (g : EQ τ υ) : EQ σ υ := by
  refine ⟨fun f i h1 h2 => (h.1 f i h1 h2).trans (g.1 f i h1 h2), fun b i h1 h2 h3 h4 => (h.2 b i h1 h2 h3 h4).trans (g.2 b i ?_ ?_ h3 ?_)⟩
  · rw [← h.1 9 0 (by omega) (by omega)]; exact h1
  · rw [← h.1 19 b (by omega) (by omega)]; exact h2
  · rw [← h.lgs]; exact h4
theorem EQ.of_cor {σ τ : Sg} (e : cor σ = cor τ) : EQ σ τ := ⟨fun f i h _ => cor_eq e h i, fun b i _ _ _ _ => cor_eq e (f := 20) (by omega) _⟩
theorem exB_congr {P Q : Nat → Bool} {n : Nat} (h : ∀ j, j < n → P j = Q j) : exB P n = exB Q n := by
  unfold exB
  rw [srch_congr (fun j _ hj => h j (by omega))]
theorem cntI_congr {P Q : Nat → Bool} : ∀ {n : Nat}, (∀ j, j < n → P j = Q j) → cntI P n = cntI Q n
  | 0, _ => rfl
  | n + 1, h => by
    unfold cntI
    rw [cntI_congr (fun j hj => h j (by omega)), h n (by omega)]
theorem EQ.blk {σ τ : Sg} (h : EQ σ τ) (b : Nat) (s t n : Int) (o : Nat) (ho : (o : Int) < σ 9 0) : blk σ b s t n o = blk τ b s t n o := by
  unfold _root_.Jvm.Pilot.CFreightPathsLaw_law_r8975_db95ec.blk
  rw [← h.1 19 o (by omega) (by omega), ← h.1 1 s.toNat (by omega) (by omega), ← h.1 11 o (by omega) (by omega), ← h.1 12 o (by omega) (by omega), ← h.1 11 b (by omega) (by omega), ← h.1 12 b (by omega) (by omega), ← h.legO, ← h.lng, ← h.bhd]
  by_cases c1 : σ 19 o = 0
  · simp [c1]
  by_cases c2 : _root_.Jvm.Pilot.CFreightPathsLaw_law_r8975_db95ec.legO σ o s = -1
  · simp [c2]
  obtain ⟨l1, l2, -⟩ := legO_some c2
  rw [h.2 o _ ho c1 l1 l2]
theorem EQ.canL {σ τ : Sg} (h : EQ σ τ) (b : Nat) (i t : Int) : canL σ b i t = canL τ b i t := by
  unfold _root_.Jvm.Pilot.CFreightPathsLaw_law_r8975_db95ec.canL
  rw [← h.sec, ← h.lng, ← h.1 9 0 (by omega) (by omega)]
  congr 2
  · exact exB_congr (fun d _ => h.clsd _ _)
  · exact exB_congr (fun o ho => h.blk _ _ _ _ _ (by omega))
theorem EQ.stds {σ τ : Sg} (h : EQ σ τ) (b : Nat) (hb : (b : Int) < σ 9 0) (hg : σ 19 b ≠ 0) (s t : Int) : stds σ b s t = stds τ b s t := by
  unfold _root_.Jvm.Pilot.CFreightPathsLaw_law_r8975_db95ec.stds
  rw [← h.lgs]
  refine exB_congr (fun j hj => ?_)
  unfold stP cmT
  rw [← h.stn, ← h.lng, h.2 b _ hb hg (by omega) (by omega), h.2 b _ hb hg (by omega) (by omega)]
theorem EQ.canS {σ τ : Sg} (h : EQ σ τ) (b : Nat) (s t : Int) : canS σ b s t = canS τ b s t := by
  unfold _root_.Jvm.Pilot.CFreightPathsLaw_law_r8975_db95ec.canS
  rw [← h.1 9 0 (by omega) (by omega), ← h.1 3 s.toNat (by omega) (by omega), cntI_congr (fun o ho => ?_)]
  unfold othP
  rw [← h.1 19 o (by omega) (by omega)]
  by_cases c1 : σ 19 o = 0
  · simp [c1]
  · rw [h.stds o (by omega) c1]
theorem rdyF_congr {c d s u : Nat → Bool} (h1 : c = d) (h2 : s = u) (t : Nat) : rdyF c s t = rdyF d u t := by rw [h1, h2]
theorem EQ.cmg {σ τ : Sg} (h : EQ σ τ) (b : Nat) : ∀ i, cmg σ b i = cmg τ b i
  | 0 => rfl
  | i + 1 => by
    funext t
    unfold _root_.Jvm.Pilot.CFreightPathsLaw_law_r8975_db95ec.cmg rdyA
    rw [h.cmg b i, h.lng, h.canL, h.1 14 b (by omega) (by omega), rdyF_congr rfl (funext fun u => by rw [h.canS, h.stn])]
theorem EQ.fnd {σ τ : Sg} (h : EQ σ τ) (b : Nat) : fnd σ b = fnd τ b := by
  unfold _root_.Jvm.Pilot.CFreightPathsLaw_law_r8975_db95ec.fnd
  rw [h.cmg b, h.lgs, h.1 15 b (by omega) (by omega)]
theorem EQ.bkF {σ τ : Sg} (h : EQ σ τ) (b : Nat) : ∀ (i e : Nat) (F : Nat → Int), bkF σ b i e F = bkF τ b i e F
  | 0, _, _ => rfl
  | i + 1, e, F => by
    unfold _root_.Jvm.Pilot.CFreightPathsLaw_law_r8975_db95ec.bkF
    rw [h.bkF b i, h.cmg b i, h.lng]
theorem EQ.pt {σ τ : Sg} (h : EQ σ τ) (b e j : Nat) : pt σ b e j = pt τ b e j := by
  unfold _root_.Jvm.Pilot.CFreightPathsLaw_law_r8975_db95ec.pt
  rw [h.bkF, h.lgs]
theorem lv_giv {σ : Sg} (hw : WF σ) {b e : Nat} (hb : b < 16) {c : Nat} (hc : c < 16) {i : Int} (h0 : 0 ≤ i) (h1 : i < lgs σ c) : lv (giv σ b e) c i = if c = b then pt σ b e i.toNat else lv σ c i := by
  have hlg := lgs_rng hw hc
  have hlb := lgs_rng hw hb
  unfold lv giv
  rw [if_neg (by omega)]
  by_cases q : c = b
  · subst q
    rw [if_pos rfl, if_pos ⟨rfl, by omega⟩, show (8 * (c : Int) + i).toNat - 8 * c = i.toNat by omega]
  · rw [if_neg q, if_neg (fun z => by omega)]
theorem giv_19 (σ : Sg) (b e c : Nat) : giv σ b e 19 c = if c = b then 1 else σ 19 c := by
  unfold giv
  by_cases q : c = b
  · rw [if_pos ⟨rfl, q⟩, if_pos q]
  · rw [if_neg (fun z => q z.2), if_neg (by omega), if_neg q]
theorem EQ.giv {σ τ : Sg} (h : EQ σ τ) (hw : WF σ) (hv : WF τ) (b e : Nat) (hb : b < 16) : EQ (giv σ b e) (giv τ b e) := by
  have h9 := hw.2.2.2.1
  have k : ∀ f i, f < 22 → f ≠ 20 → _root_.Jvm.Pilot.CFreightPathsLaw_law_r8975_db95ec.giv σ b e f i = _root_.Jvm.Pilot.CFreightPathsLaw_law_r8975_db95ec.giv τ b e f i := by
    intro f i h1 h2
    by_cases q : f = 19
    · subst q
      rw [giv_19, giv_19, h.1 19 i (by omega) (by omega)]
    · rw [giv_k _ _ _ _ (by omega), giv_k _ _ _ _ (by omega), h.1 f i h1 h2]
  refine ⟨k, fun c i h1 h2 h3 h4 => ?_⟩
  have h4' : i < _root_.Jvm.Pilot.CFreightPathsLaw_law_r8975_db95ec.lgs σ c := h4
  have h1' : (c : Int) < σ 9 0 := h1
  rw [lv_giv hw hb (by omega) h3 h4', lv_giv hv hb (by omega) h3 (by rw [← h.lgs]; exact h4'), h.pt]
  by_cases q : c = b
  · rw [if_pos q, if_pos q]
  · rw [giv_19, if_neg q] at h2
    rw [if_neg q, if_neg q, h.2 c i h1' h2 h3 h4']
theorem EQ.sg19 {σ τ : Sg} (h : EQ σ τ) (b : Nat) : EQ (sg σ 19 b 0) (sg τ 19 b 0) := by
  refine ⟨fun f i h1 h2 => ?_, fun c i h1 h2 h3 h4 => ?_⟩
  · unfold sg
    rw [h.1 f i h1 h2]
  · have h2' : (if 19 = 19 ∧ c = b then (0 : Int) else σ 19 c) ≠ 0 := h2
    by_cases q : c = b
    · rw [if_pos ⟨rfl, q⟩] at h2'
      exact absurd rfl h2'
    · rw [if_neg (fun z => q z.2)] at h2'
      exact h.2 c i h1 h2' h3 h4
theorem EQ.comeS {σ τ : Sg} (h : EQ σ τ) (hw : WB σ) (hv : WB τ) (hl : LK σ) (b : Nat) (hb : (b : Int) < σ 9 0) : EQ (comeS σ b) (comeS τ b) := by
  have h9 := hw.1.2.2.2.1
  have hlb := hl b hb
  unfold _root_.Jvm.Pilot.CFreightPathsLaw_law_r8975_db95ec.comeS
  rw [← h.fnd, ← h.1 18 b (by omega) (by omega)]
  cases hf : _root_.Jvm.Pilot.CFreightPathsLaw_law_r8975_db95ec.fnd σ b with
  | none => exact h
  | some e =>
    have g1 := h.giv hw.1 hv.1 b e (by omega)
    simp only
    by_cases c : σ 18 b = -1
    · rw [if_pos c, if_pos c]
      exact g1
    · rw [if_neg c, if_neg c, ← g1.fnd]
      cases hf2 : _root_.Jvm.Pilot.CFreightPathsLaw_law_r8975_db95ec.fnd (_root_.Jvm.Pilot.CFreightPathsLaw_law_r8975_db95ec.giv σ b e) (σ 18 b).toNat with
      | none => exact g1.sg19 b
      | some e2 =>
        have hw1 := WB_giv hw hb hf
        have hv1 := WB_giv hv (b := b) (t := e) (by rw [← h.1 9 0 (by omega) (by omega)]; exact hb) (by rw [← h.fnd]; exact hf)
        exact g1.giv hw1.1 hv1.1 _ e2 (by omega)
theorem EQ.WF {σ τ : Sg} (h : EQ σ τ) : LK σ → LK τ := by
  intro hl b hb
  rw [← h.1 9 0 (by omega) (by omega)] at hb ⊢
  rw [← h.1 18 b (by omega) (by omega)]
  exact hl b hb
/-- the same bids: all but what is given -/
def SB (σ τ : Sg) : Prop := (∀ f i, f < 22 → f ≠ 20 → f ≠ 19 → σ f i = τ f i) ∧ ∀ i : Nat, σ 9 0 ≤ i → σ 19 i = τ 19 i
theorem EQ.clr {σ τ : Sg} (h : SB σ τ) : EQ (clrS σ) (clrS τ) := by
  have e9 := h.1 9 0 (by omega) (by omega) (by omega)
  refine ⟨fun f i h1 h2 => ?_, fun c i h1 h2 h3 h4 => ?_⟩
  · unfold clrS
    rw [← e9]
    by_cases q : f = 19
    · subst q
      by_cases q2 : (i : Int) < σ 9 0
      · rw [if_pos ⟨rfl, q2⟩, if_pos ⟨rfl, q2⟩]
      · rw [if_neg (fun z => q2 z.2), if_neg (fun z => q2 z.2), h.2 i (by omega)]
    · rw [if_neg (fun z => q z.1), if_neg (fun z => q z.1), h.1 f i h1 h2 q]
  · have h2' : (if 19 = 19 ∧ (c : Int) < σ 9 0 then (0 : Int) else σ 19 c) ≠ 0 := h2
    rw [if_pos ⟨rfl, h1⟩] at h2'
    exact absurd rfl h2'
theorem EQ.goF {σ τ : Sg} (h : SB σ τ) (hw : WB σ) (hv : WB τ) (hl : LK σ) {f : Nat → Nat} {n : Nat} (hf : ∀ k, k < n → (f k : Int) < σ 9 0) : ∀ k, k ≤ n → EQ (goF σ f k).1 (goF τ f k).1 ∧ (goF σ f k).2 = (goF τ f k).2
  | 0, _ => ⟨EQ.clr h, rfl⟩
  | k + 1, hk => by
    obtain ⟨h1, h2⟩ := EQ.goF h hw hv hl hf k (by omega)
    have e9 := h.1 9 0 (by omega) (by omega) (by omega)
    have hlv : LK τ := by
      intro b hb
      rw [← e9] at hb ⊢
      rw [← h.1 18 b (by omega) (by omega) (by omega)]
      exact hl b hb
    obtain ⟨w1, k1⟩ := goF_WB hw hl hf k (by omega)
    obtain ⟨w2, k2⟩ := goF_WB hv hlv (f := f) (n := n) (fun k hk => by rw [← e9]; exact hf k hk) k (by omega)
    have hl2 : LK (_root_.Jvm.Pilot.CFreightPathsLaw_law_r8975_db95ec.goF σ f k).1 := by
      intro b hb
      rw [k1 9 0 (by omega)] at hb
      rw [k1 18 b (by omega), k1 9 0 (by omega)]
      exact hl b hb
    unfold _root_.Jvm.Pilot.CFreightPathsLaw_law_r8975_db95ec.goF
    rw [h2, h.1 18 (f k) (by omega) (by omega) (by omega)]
    split
    · exact ⟨h1, h2⟩
    · exact ⟨h1.comeS w1 w2 hl2 (f k) (by rw [k1 9 0 (by omega)]; exact hf k (by omega)), rfl⟩
theorem EQ.SB {σ τ : Sg} (h : EQ σ τ) : SB σ τ := ⟨fun f i h1 h2 _ => h.1 f i h1 h2, fun i _ => h.1 19 i (by omega) (by omega)⟩
theorem comeS_off {σ : Sg} {b i : Nat} (hr : -1 ≤ σ 18 b) (h1 : i ≠ b) (h2 : (i : Int) ≠ σ 18 b) : comeS σ b 19 i = σ 19 i := by
  unfold comeS
  cases hf : fnd σ b with
  | none => rfl
  | some e =>
    simp only
    by_cases c : σ 18 b = -1
    · rw [if_pos c, giv_19, if_neg h1]
    · rw [if_neg c]
      cases hf2 : fnd (giv σ b e) (σ 18 b).toNat with
      | none =>
        show sg (giv σ b e) 19 b 0 19 i = _
        rw [sg_i _ _ _ h1, giv_19, if_neg h1]
      | some e2 =>
        show giv (giv σ b e) (σ 18 b).toNat e2 19 i = _
        rw [giv_19, if_neg (by omega), giv_19, if_neg h1]
theorem goF_SB {σ : Sg} (hw : WB σ) (hl : LK σ) {f : Nat → Nat} {n : Nat} (hf : ∀ k, k < n → (f k : Int) < σ 9 0) : ∀ k, k ≤ n → SB σ (goF σ f k).1
  | 0, _ => by
    refine ⟨fun g i h1 h2 h3 => ?_, fun i hi => ?_⟩
    · show σ g i = clrS σ g i
      unfold clrS
      rw [if_neg (fun z => h3 z.1)]
    · show σ 19 i = clrS σ 19 i
      unfold clrS
      rw [if_neg (by omega)]
  | k + 1, hk => by
    have ih := goF_SB hw hl hf k (by omega)
    obtain ⟨w1, k1⟩ := goF_WB hw hl hf k (by omega)
    have hfk := hf k (by omega)
    have h9 := hw.1.2.2.2.1
    refine ⟨fun g i h1 h2 h3 => ((goF_WB hw hl hf (k + 1) hk).2 g i (by omega)).symm, fun i hi => ?_⟩
    rw [ih.2 i hi]
    have eg : goF σ f (k + 1) = if (goF σ f k).2 (f k) then goF σ f k else (comeS (goF σ f k).1 (f k), fun i => (goF σ f k).2 i || decide (i = f k) || decide ((i : Int) = σ 18 (f k))) := rfl
    rw [eg]
    by_cases hc : (goF σ f k).2 (f k) = true
    · rw [if_pos hc]
    · rw [if_neg hc]
      have hlb := hl (f k) hfk
      have e18 := k1 18 (f k) (by omega)
      show _ = comeS (goF σ f k).1 (f k) 19 i
      rw [comeS_off (by rw [e18]; omega) (by omega) (by rw [e18]; omega)]
