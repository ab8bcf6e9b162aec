/-! the first break -/
def ns (lo hi : Nat → Int) (P : Nat → Int → Bool) : Nat → Nat → Option Int
  | _, 0 => none
  | i, d + 1 => match srch (fun j => P i (lo i + (j : Int))) 0 (hi i - lo i).toNat with
    | some j => some (lo i + (j : Int))
    | none => ns lo hi P (i + 1) d
theorem lp_ns {α S : Type} {B : (S → Option α) → S → Option α} (st : Nat → S) (N : Nat) (lo hi : Nat → Int) (P : Nat → Int → Bool) (rt : Int → Option α) (re : Option α) (hs : ∀ i, i < N → ∀ k, B k (st i) = (match srch (fun j => P i (lo i + (j : Int))) 0 (hi i - lo i).toNat with | some j => rt (lo i + (j : Int)) | none => k (st (i + 1)))) (he : ∀ k, B k (st N) = re) :
    ∀ (d i n : Nat), i + d = N → d < n → lp B n (st i) = (match ns lo hi P i d with | some t => rt t | none => re)
  | 0, i, n, h1, h2 => by
    obtain ⟨n, rfl⟩ : ∃ k, n = k + 1 := ⟨n - 1, by omega⟩
    rw [lp_succ, show i = N by omega, he]
    rfl
  | d + 1, i, n, h1, h2 => by
    obtain ⟨n, rfl⟩ : ∃ k, n = k + 1 := ⟨n - 1, by omega⟩
    rw [lp_succ, hs i (by omega)]
    unfold ns
    cases hq : srch (fun j => P i (lo i + (j : Int))) 0 (hi i - lo i).toNat with
    | some j => rfl
    | none => exact lp_ns st N lo hi P rt re hs he d (i + 1) n (by omega) (by omega)
theorem ns_none {lo hi : Nat → Int} {P : Nat → Int → Bool} : ∀ {d i : Nat}, ns lo hi P i d = none → ∀ (j : Nat) (t : Int), i ≤ j → j < i + d → lo j ≤ t → t < hi j → P j t = false
  | 0, i, _, j, t, h1, h2, _, _ => by omega
  | d + 1, i, h, j, t, h1, h2, h3, h4 => by
    unfold ns at h
    cases hq : srch (fun j => P i (lo i + (j : Int))) 0 (hi i - lo i).toNat with
    | some j => rw [hq] at h; cases h
    | none =>
      rw [hq] at h
      by_cases c : j = i
      · subst c
        have := srch_none.1 hq (t - lo j).toNat (Nat.zero_le _) (by omega)
        rw [show lo j + (((t - lo j).toNat : Nat) : Int) = t by omega] at this
        exact this
      · exact ns_none h j t (by omega) (by omega) h3 h4
theorem ns_some {lo hi : Nat → Int} {P : Nat → Int → Bool} {t : Int} : ∀ {d i : Nat}, (∀ j j', i ≤ j → j < j' → j' < i + d → hi j ≤ lo j') → ns lo hi P i d = some t → (∃ j, i ≤ j ∧ j < i + d ∧ lo j ≤ t ∧ t < hi j ∧ P j t = true) ∧ ∀ (j : Nat) (u : Int), i ≤ j → j < i + d → lo j ≤ u → u < hi j → u < t → P j u = false
  | 0, i, _, h => by cases h
  | d + 1, i, hm, h => by
    unfold ns at h
    cases hq : srch (fun j => P i (lo i + (j : Int))) 0 (hi i - lo i).toNat with
    | some j =>
      rw [hq] at h
      have h' := Option.some.inj h
      obtain ⟨-, h2, h3, h4⟩ := srch_some.1 hq
      refine ⟨⟨i, Nat.le_refl _, by omega, by omega, by omega, by rw [← h']; exact h3⟩, fun j' u q1 q2 q3 q4 q5 => ?_⟩
      by_cases c : j' = i
      · subst c
        have := h4 (u - lo j').toNat (Nat.zero_le _) (by omega)
        rw [show lo j' + (((u - lo j').toNat : Nat) : Int) = u by omega] at this
        exact this
      · have := hm i j' (Nat.le_refl _) (by omega) (by omega)
        omega
    | none =>
      rw [hq] at h
      obtain ⟨⟨j, j1, j2, j3⟩, hb⟩ := ns_some (fun a b z1 z2 z3 => hm a b (by omega) z2 (by omega)) h
      refine ⟨⟨j, by omega, by omega, j3⟩, fun j' u q1 q2 q3 q4 q5 => ?_⟩
      by_cases c : j' = i
      · subst c
        have := srch_none.1 hq (u - lo j').toNat (Nat.zero_le _) (by omega)
        rw [show lo j' + (((u - lo j').toNat : Nat) : Int) = u by omega] at this
        exact this
      · exact hb j' u (by omega) (by omega) q3 q4 q5
def oI (o : Option Nat) : Int := match o with | some t => (t : Int) | none => -1
theorem ns_srch {lo hi : Nat → Int} {P : Nat → Int → Bool} {N : Nat} (Q : Nat → Bool) (hm : ∀ j j', j < j' → j' < N → hi j ≤ lo j') (h0 : ∀ j, j < N → 0 ≤ lo j ∧ hi j ≤ 240) (hQ : ∀ t : Nat, t < 240 → (Q t = true ↔ ∃ j, j < N ∧ lo j ≤ t ∧ t < hi j ∧ P j t = true)) : (match ns lo hi P 0 N with | some t => t | none => -1) = oI (srch Q 0 240) := by
  cases hn : ns lo hi P 0 N with
  | none =>
    have h1 := ns_none hn
    have : srch Q 0 240 = none := srch_none.2 (fun t _ ht => by
      cases hq : Q t with
      | false => rfl
      | true =>
        obtain ⟨j, j1, j2, j3, j4⟩ := (hQ t (by omega)).1 hq
        rw [h1 j t (Nat.zero_le _) (by omega) j2 j3] at j4
        cases j4)
    rw [this]
    rfl
  | some t =>
    obtain ⟨⟨j, j1, j2, j3, j4, j5⟩, h2⟩ := ns_some (fun a b _ z2 z3 => hm a b z2 (by omega)) hn
    have h3 := h0 j (by omega)
    have : srch Q 0 240 = some t.toNat := by
      refine srch_some.2 ⟨Nat.zero_le _, by omega, ?_, fun u _ hu => ?_⟩
      · refine (hQ _ (by omega)).2 ⟨j, by omega, ?_⟩
        rw [show ((t.toNat : Nat) : Int) = t by omega]
        exact ⟨j3, j4, j5⟩
      · cases hq : Q u with
        | false => rfl
        | true =>
          obtain ⟨i, i1, i2, i3, i4⟩ := (hQ u (by omega)).1 hq
          rw [h2 i u (Nat.zero_le _) (by omega) i2 i3 (by omega)] at i4
          cases i4
    rw [this]
    show t = ((t.toNat : Nat) : Int)
    omega
theorem EQ.brk {κ σ : Sg} (h : EQ κ σ) {b : Nat} (hb : (b : Int) < κ 9 0) (hg : κ 19 b ≠ 0) (r t : Int) : brk κ b r t = brk σ b r t := by
  unfold _root_.Jvm.Pilot.CFreightPathsLaw_law_r8975_db95ec.brk
  rw [← h.lgs, ← h.1 9 0 (by omega) (by omega)]
  by_cases c : r = 3
  · rw [if_pos c, if_pos c]
    refine exB_congr (fun j _ => ?_)
    rw [← h.stn, h.stds b hb hg, h.canS]
  · rw [if_neg c, if_neg c]
    refine exB_congr (fun i hi => ?_)
    rw [h.2 b i hb hg (by omega) (by omega), h.lng, h.sec, h.clsd]
    congr 2
    refine exB_congr (fun o ho => ?_)
    unfold hldB
    rw [← h.1 19 o (by omega) (by omega), ← h.1 1 _ (by omega) (by omega), ← h.1 11 o (by omega) (by omega), ← h.1 12 o (by omega) (by omega), ← h.1 11 b (by omega) (by omega), ← h.1 12 b (by omega) (by omega), ← h.legO, ← h.lng, ← h.bhd]
    by_cases c1 : κ 19 o = 0
    · simp [c1]
    by_cases c2 : _root_.Jvm.Pilot.CFreightPathsLaw_law_r8975_db95ec.legO κ o (_root_.Jvm.Pilot.CFreightPathsLaw_law_r8975_db95ec.sec σ b i) = -1
    · simp [c2]
    obtain ⟨l1, l2, -⟩ := legO_some c2
    rw [h.2 o _ (by omega) c1 l1 l2]
theorem EQ.whyS {κ σ : Sg} (h : EQ κ σ) : whyS κ = whyS σ := by
  have h9 := h.1 9 0 (by omega) (by omega)
  have hT : ∀ (b r : Nat), (b : Int) < κ 9 0 → κ 19 b ≠ 0 → whyT κ b r = whyT σ b r := fun b r hb hg => by
    unfold whyT
    exact srch_congr (fun t _ _ => h.brk hb hg r t)
  have hR : ∀ b : Nat, (b : Int) < κ 9 0 → whyR κ b = whyR σ b := fun b hb => by
    unfold whyR
    rw [← h.1 19 b (by omega) (by omega)]
    by_cases c : κ 19 b = 0
    · rw [if_pos c, if_pos c]
    · rw [if_neg c, if_neg c]
      simp only [hT b _ hb c]
  unfold _root_.Jvm.Pilot.CFreightPathsLaw_law_r8975_db95ec.whyS
  rw [← h9, srch_congr (P := fun b => (whyR κ b).isSome) (Q := fun b => (whyR σ b).isSome) (fun b _ hb => by rw [hR b (by omega)])]
  cases hs : srch (fun b => (whyR σ b).isSome) 0 (κ 9 0).toNat with
  | none => rfl
  | some b =>
    obtain ⟨-, h2, -⟩ := srch_some.1 hs
    show Option.map _ (whyR κ b) = Option.map _ (whyR σ b)
    rw [hR b (by omega)]
theorem cntI_all {P Q : Nat → Bool} {b : Nat} (hP : P b = true) (hQ : Q b = false) (hPQ : ∀ j, j ≠ b → P j = Q j) : ∀ n, cntI P n = cntI Q n + (if b < n then 1 else 0)
  | 0 => by simp [cntI]
  | n + 1 => by
    have ih := cntI_all hP hQ hPQ n
    rw [cntI_s, cntI_s]
    by_cases c : n = b
    · subst c
      rw [hP, hQ, ih, if_neg (Nat.lt_irrefl _), if_pos (Nat.lt_succ_self _)]
      simp
    · rw [hPQ n c, ih]
      by_cases d : b < n
      · rw [if_pos d, if_pos (show b < n + 1 by omega)]; omega
      · rw [if_neg d, if_neg (show ¬ b < n + 1 by omega)]; omega
section
variable {h : Hp} {A : CA} {κ σ : Sg} {h' : Hp} {m : Nat} {ρ : Nat → Nat}
/-- the path of b goes on in time -/
def MB (κ : Sg) (b : Nat) : Prop := (∀ i : Int, 1 ≤ i → i < lgs κ b → cmT κ b i ≤ lv κ b i) ∧ cmT κ b (lgs κ b) ≤ 239
theorem RLx.mb (hr : RLx h A κ σ) {b : Nat} (hb : b < A.n) (hg : κ 19 b ≠ 0) : MB κ b := by
  obtain ⟨n1, n2⟩ := hr.n
  have hn := hr.1.1.2.2
  have hg2 : σ 19 b ≠ 0 := by rw [← hr.e (by omega) (by omega)]; exact hg
  have hlg := lgs_rng hr.1.1.1.1 (b := b) (by omega)
  have hl1 := hr.1.1.1.lgs (b := b) (by omega)
  have ecm : ∀ i : Int, 1 ≤ i → i ≤ lgs κ b → cmT κ b i = cmT σ b i := fun i i1 i2 => by
    unfold cmT
    rw [hr.2.1.2 b (i - 1) (by omega) hg (by omega) (by omega), hr.2.1.lng]
  obtain ⟨a1, a2⟩ := hr.2.2.2.2.1.1 b (by omega) hg2
  have elg := hr.2.1.lgs b
  refine ⟨fun i i1 i2 => ?_, ?_⟩
  · rw [ecm i i1 (by omega), hr.2.1.2 b i (by omega) hg (by omega) i2]
    exact a2 i i1 (by omega)
  · rw [ecm _ hl1 (Int.le_refl _), elg, ← a1]
    exact (lv_rng hr.2.2.1.1 (b := b) (by omega) (by omega) (by omega)).2
theorem MB.ord (hw : WB κ) {b : Nat} (hb : (b : Int) < κ 9 0) (hm : MB κ b) : ∀ (d : Nat) (i : Int), 0 ≤ i → i + 1 + d < lgs κ b → cmT κ b (i + 1) ≤ lv κ b (i + 1 + d)
  | 0, i, h0, h1 => by
    have := hm.1 (i + 1) (by omega) (by omega)
    rw [show i + 1 + ((0 : Nat) : Int) = i + 1 by omega]
    exact this
  | d + 1, i, h0, h1 => by
    have h9 := hw.1.2.2.2.1
    have ih := MB.ord hw hb hm d i h0 (by omega)
    have h2 := hm.1 (i + 1 + d + 1) (by omega) (by omega)
    have hln := lng_rng hw.1 (b := b) (i := i + 1 + d) (by omega) (by omega) (by omega)
    unfold cmT at h2 ⊢
    unfold cmT at ih
    rw [show i + 1 + (d : Int) + 1 - 1 = i + 1 + d by omega] at h2
    rw [show i + 1 + ((d + 1 : Nat) : Int) = i + 1 + d + 1 by omega]
    omega
theorem MB.top (hw : WB κ) {b : Nat} (hb : (b : Int) < κ 9 0) (hm : MB κ b) {i : Int} (h0 : 1 ≤ i) (h1 : i ≤ lgs κ b) : cmT κ b i ≤ 239 := by
  have h9 := hw.1.2.2.2.1
  by_cases c : i = lgs κ b
  · rw [c]; exact hm.2
  · have h2 := MB.ord hw hb hm (lgs κ b - 1 - i).toNat (i - 1) (by omega) (by omega)
    have hln := lng_rng hw.1 (b := b) (i := lgs κ b - 1) (by omega) (by omega) (by omega)
    have h3 := hm.2
    rw [show i - 1 + 1 + (((lgs κ b - 1 - i).toNat : Nat) : Int) = lgs κ b - 1 by omega, show i - 1 + 1 = i by omega] at h2
    have h4 : cmT κ b (lgs κ b) = lv κ b (lgs κ b - 1) + lng κ b (lgs κ b - 1) := rfl
    omega
theorem k_isHeld (hk : KI h A κ ρ) {b : Nat} (hb : b < A.n) (s t : Int) (hs : 0 ≤ s ∧ s < 8) (ht : -1000 ≤ t ∧ t ≤ 1000) : f_X2_isHeldByOther (A.x + 22) (some (A.b b)) (iI s) (iI t) (CH h A κ) = some (iI (b2 (exB (hldB κ b s t) A.n = true)), CH h A κ) := by
  obtain ⟨⟨hw, hl, hn⟩, hc, -, -⟩ := hk
  have h16 := hl.1
  have hbh := bhd_rng hw.1
  unfold f_X2_isHeldByOther f_X2_isHeldByOther_3
  rw [iI_0]
  refine (lp_search (B := fun k3 u => fb_X2_isHeldByOther_3 k3 u.1 u.2.1 u.2.2.1 u.2.2.2.1 u.2.2.2.2.1 u.2.2.2.2.2) (fun o => (some (A.x + 22), some (A.b b), iI s, iI t, iI (o : Int), CH h A κ)) A.n (hldB κ b s t) (fun o => some (iI 1, CH h A κ)) (some (iI 0, CH h A κ)) (fun o ho k => ?_) (fun k => ?_) A.n 0 FU (by omega) (by rw [FU_eq]; omega)).trans ?_
  · show fb_X2_isHeldByOther_3 k (some (A.x + 22)) (some (A.b b)) (iI s) (iI t) (iI (o : Int)) (CH h A κ) = _
    have h19 := (hw.1.bid (b := o) (by omega)).2.2.2.2.2.2.2.2.2
    have hlo := legO_rng hw.1 (b := o) (by omega) (s := s)
    unfold fb_X2_isHeldByOther_3 f_X2_isHeldByOther_110
    simp (maxSteps := 1000000) (disch := omega) only [iL239, cV0, cR0_0, cR0_1, cR0_2, cR0_3, cR0_4, cR0_5, cV1, cR1_1, cR1_2, cR1_3, cR1_4, cR1_5, cR1_6, cR1_7, cI1_0, cI1_8, cP1_8, cI1_9, cP1_9, cV9, cR9_0, cR9_1, cV10, cV11, cV12, cR12_0, cR12_1, cR12_2, cR12_3, cR12_4, cR12_5, cR12_6, cV18, cR18_0, cR18_1, cR18_2, cR18_3, cR18_4, cI18_5, cP18_5, cI18_6, cP18_6, cV22, cR22_0, cR22_1, cI22_2, cP22_2, cI22_3, cP22_3, cI22_4, cP22_4, cV23, cR23_0, cR23_1, cR23_3, cR23_4, cR23_5, cR23_6, cR23_7, cR23_8, cR23_9, cR23_10, cI23_2, cP23_2, cR10_1, cI10_2, cR11_1, cI11_2, cL2, cS2, cL3, cS3, cL4, cS4, cL5, cS5, cL6, cS6, cL7, cS7, cL8, cS8, cL13, cS13, cL14, cS14, cL15, cS15, cL16, cS16, cL17, cS17, cL19, cS19, cL20, cS20, cL21, cS21, cL24, cS24, cL25, cS25, cL26, cS26, cL27, cS27, cL28, cS28, cL29, cS29, cL30, cS30, cL31, cS31, bV, bK, bI0, bI1, bI2, bI3, bI4, bI5, bI6, bI7, bI8, bI9, bI10, bR11, bR12, bR13, bP9, bP10, bL1, bS1, bL2, bS2, bL3, bS3, iI_0, iI_1, iI_neg, iL2, iL3, iL4, iL5, iL6, iL7, iL8, iL9, iL10, iL11, iL12, iL13, iL14, iL15, iL16, iL17, iL30, iL31, iL60, iL99, iL100, iL240, iL480, iL1000, iL1920, iL10000, iI_add, iI_sub, iI_mul, iI_div, iI_le, iI_lt, iI_eq, bd_s, k_size, k_get hl, k_stepInSection hw.1, k_isShared hw.1, k_holdBehind hw.1, A.inj, spC_legO, iI_b2, rt0, rt1, Int.natCast_succ]
    rw [if_neg (by omega)]
    by_cases c1 : o = b
    · rw [if_pos c1, if_neg (by simp [hldB, c1])]
    · rw [if_neg c1]
      by_cases c2 : κ 19 o = 0
      · rw [if_pos c2, if_neg (by simp [hldB, c2])]
      · rw [if_neg c2]
        by_cases c3 : legO κ o s = -1
        · rw [if_pos c3, if_neg (by simp [hldB, c3])]
        · rw [if_neg c3]
          obtain ⟨l1, l2, -⟩ := legO_some c3
          have hlv := lv_rng hw.1 (b := o) (i := legO κ o s) (by omega) (by omega) (by omega)
          have hln := lng_rng hw.1 (b := o) (i := legO κ o s) (by omega) (by omega) (by omega)
          have ecv : cv κ o (legO κ o s + 1) = lv κ o (legO κ o s) + lng κ o (legO κ o s) := by
            rw [hc o _ (by omega) c2 (by omega) (by omega)]
            unfold cmT
            rw [show legO κ o s + 1 - 1 = legO κ o s by omega]
          by_cases c4 : κ 1 s.toNat = 0 ∨ (κ 11 o < κ 12 o) = (κ 11 b < κ 12 b)
          · rw [if_neg (fun z => z c4)]
            simp (disch := omega) only [iL239, cV0, cR0_0, cR0_1, cR0_2, cR0_3, cR0_4, cR0_5, cV1, cR1_1, cR1_2, cR1_3, cR1_4, cR1_5, cR1_6, cR1_7, cI1_0, cI1_8, cP1_8, cI1_9, cP1_9, cV9, cR9_0, cR9_1, cV10, cV11, cV12, cR12_0, cR12_1, cR12_2, cR12_3, cR12_4, cR12_5, cR12_6, cV18, cR18_0, cR18_1, cR18_2, cR18_3, cR18_4, cI18_5, cP18_5, cI18_6, cP18_6, cV22, cR22_0, cR22_1, cI22_2, cP22_2, cI22_3, cP22_3, cI22_4, cP22_4, cV23, cR23_0, cR23_1, cR23_3, cR23_4, cR23_5, cR23_6, cR23_7, cR23_8, cR23_9, cR23_10, cI23_2, cP23_2, cR10_1, cI10_2, cR11_1, cI11_2, cL2, cS2, cL3, cS3, cL4, cS4, cL5, cS5, cL6, cS6, cL7, cS7, cL8, cS8, cL13, cS13, cL14, cS14, cL15, cS15, cL16, cS16, cL17, cS17, cL19, cS19, cL20, cS20, cL21, cS21, cL24, cS24, cL25, cS25, cL26, cS26, cL27, cS27, cL28, cS28, cL29, cS29, cL30, cS30, cL31, cS31, bV, bK, bI0, bI1, bI2, bI3, bI4, bI5, bI6, bI7, bI8, bI9, bI10, bR11, bR12, bR13, bP9, bP10, bL1, bS1, bL2, bS2, bL3, bS3, iI_0, iI_1, iI_neg, iL2, iL3, iL4, iL5, iL6, iL7, iL8, iL9, iL10, iL11, iL12, iL13, iL14, iL15, iL16, iL17, iL30, iL31, iL60, iL99, iL100, iL240, iL480, iL1000, iL1920, iL10000, iI_add, iI_sub, iI_mul, iI_div, iI_le, iI_lt, iI_eq, bd_s, ecv]
            by_cases c5 : lv κ o (legO κ o s) ≤ t ∧ t ≤ lv κ o (legO κ o s) + lng κ o (legO κ o s) - 1 + bhd κ
            · rw [if_neg (by omega), if_neg (by omega), if_pos]
              simp only [hldB, decide_eq_true_eq]
              exact ⟨c1, c2, c4, c3, c5⟩
            · have hf : hldB κ b s t o = false := by
                simp only [hldB, decide_eq_false_iff_not]
                rintro ⟨-, -, -, -, q⟩
                exact c5 q
              rw [hf]
              by_cases c6 : t < lv κ o (legO κ o s)
              · rw [if_pos c6]; rfl
              · rw [if_neg c6, if_pos (by omega)]; rfl
          · have hf : hldB κ b s t o = false := by
              simp only [hldB, decide_eq_false_iff_not]
              rintro ⟨-, -, q, -, -⟩
              exact c4 q
            rw [if_pos c4, hf]
            rfl
  · show fb_X2_isHeldByOther_3 k (some (A.x + 22)) (some (A.b b)) (iI s) (iI t) (iI (A.n : Int)) (CH h A κ) = _
    unfold fb_X2_isHeldByOther_3
    simp (maxSteps := 1000000) (disch := omega) only [iL239, cV0, cR0_0, cR0_1, cR0_2, cR0_3, cR0_4, cR0_5, cV1, cR1_1, cR1_2, cR1_3, cR1_4, cR1_5, cR1_6, cR1_7, cI1_0, cI1_8, cP1_8, cI1_9, cP1_9, cV9, cR9_0, cR9_1, cV10, cV11, cV12, cR12_0, cR12_1, cR12_2, cR12_3, cR12_4, cR12_5, cR12_6, cV18, cR18_0, cR18_1, cR18_2, cR18_3, cR18_4, cI18_5, cP18_5, cI18_6, cP18_6, cV22, cR22_0, cR22_1, cI22_2, cP22_2, cI22_3, cP22_3, cI22_4, cP22_4, cV23, cR23_0, cR23_1, cR23_3, cR23_4, cR23_5, cR23_6, cR23_7, cR23_8, cR23_9, cR23_10, cI23_2, cP23_2, cR10_1, cI10_2, cR11_1, cI11_2, cL2, cS2, cL3, cS3, cL4, cS4, cL5, cS5, cL6, cS6, cL7, cS7, cL8, cS8, cL13, cS13, cL14, cS14, cL15, cS15, cL16, cS16, cL17, cS17, cL19, cS19, cL20, cS20, cL21, cS21, cL24, cS24, cL25, cS25, cL26, cS26, cL27, cS27, cL28, cS28, cL29, cS29, cL30, cS30, cL31, cS31, bV, bK, bI0, bI1, bI2, bI3, bI4, bI5, bI6, bI7, bI8, bI9, bI10, bR11, bR12, bR13, bP9, bP10, bL1, bS1, bL2, bS2, bL3, bS3, iI_0, iI_1, iI_neg, iL2, iL3, iL4, iL5, iL6, iL7, iL8, iL9, iL10, iL11, iL12, iL13, iL14, iL15, iL16, iL17, iL30, iL31, iL60, iL99, iL100, iL240, iL480, iL1000, iL1920, iL10000, iI_add, iI_sub, iI_mul, iI_div, iI_le, iI_lt, iI_eq, bd_s, k_size, rt0]
    rw [if_pos (by omega)]
  · unfold exB
    cases srch (hldB κ b s t) 0 A.n with
    | none => rw [b2_f (by simp)]
    | some j => rw [b2_t (by simp)]
theorem k_firstClosed (hk : KI h A κ ρ) {b : Nat} (hb : b < A.n) (hg : κ 19 b ≠ 0) (hm : MB κ b) : f_X2_firstClosed (A.x + 22) (some (A.b b)) (CH h A κ) = some (iI (oI (whyT κ b 1)), CH h A κ) := by
  have hki := hk
  obtain ⟨⟨hw, hl, hn⟩, hc, -, -⟩ := hk
  have h16 := hl.1
  have hlg := lgs_rng hw.1 (b := b) (by omega)
  have hb9 : (b : Int) < κ 9 0 := by omega
  unfold f_X2_firstClosed f_X2_firstClosed_2
  rw [iI_0]
  have ecv : ∀ i : Nat, (i : Int) < lgs κ b → cv κ b ((i : Int) + 1) = lv κ b i + lng κ b i := fun i hi => by
    rw [hc b _ hb9 hg (by omega) (by omega)]
    unfold cmT
    rw [show (i : Int) + 1 - 1 = i by omega]
  have hr : ∀ i : Nat, (i : Int) < lgs κ b → (0 ≤ lv κ b i ∧ lv κ b i ≤ 239) ∧ (1 ≤ lng κ b i ∧ lng κ b i ≤ 30) ∧ (0 ≤ sec κ b i ∧ sec κ b i ≤ 6) := fun i hi => ⟨lv_rng hw.1 (by omega) (by omega) (by omega), lng_rng hw.1 (by omega) (by omega) hi, sec_rng hw.1 (by omega) (by omega) hi⟩
  refine (lp_ns (B := fun k2 u => fb_X2_firstClosed_2 k2 u.1 u.2.1 u.2.2.1 u.2.2.2) (fun i => (some (A.x + 22), some (A.b b), iI (i : Int), CH h A κ)) (lgs κ b).toNat (fun i => lv κ b i) (fun i => lv κ b i + lng κ b i) (fun i t => clsd κ (sec κ b i) t) (fun t => some (iI t, CH h A κ)) (some (iI (-1), CH h A κ)) (fun i hi k => ?_) (fun k => ?_) (lgs κ b).toNat 0 FU (by omega) (by rw [FU_eq]; omega)).trans ?_
  · obtain ⟨r1, r2, r3⟩ := hr i (by omega)
    have ec := ecv i (by omega)
    show fb_X2_firstClosed_2 k (some (A.x + 22)) (some (A.b b)) (iI (i : Int)) (CH h A κ) = _
    unfold fb_X2_firstClosed_2 f_X2_firstClosed_17
    simp (disch := omega) only [iL239, cV0, cR0_0, cR0_1, cR0_2, cR0_3, cR0_4, cR0_5, cV1, cR1_1, cR1_2, cR1_3, cR1_4, cR1_5, cR1_6, cR1_7, cI1_0, cI1_8, cP1_8, cI1_9, cP1_9, cV9, cR9_0, cR9_1, cV10, cV11, cV12, cR12_0, cR12_1, cR12_2, cR12_3, cR12_4, cR12_5, cR12_6, cV18, cR18_0, cR18_1, cR18_2, cR18_3, cR18_4, cI18_5, cP18_5, cI18_6, cP18_6, cV22, cR22_0, cR22_1, cI22_2, cP22_2, cI22_3, cP22_3, cI22_4, cP22_4, cV23, cR23_0, cR23_1, cR23_3, cR23_4, cR23_5, cR23_6, cR23_7, cR23_8, cR23_9, cR23_10, cI23_2, cP23_2, cR10_1, cI10_2, cR11_1, cI11_2, cL2, cS2, cL3, cS3, cL4, cS4, cL5, cS5, cL6, cS6, cL7, cS7, cL8, cS8, cL13, cS13, cL14, cS14, cL15, cS15, cL16, cS16, cL17, cS17, cL19, cS19, cL20, cS20, cL21, cS21, cL24, cS24, cL25, cS25, cL26, cS26, cL27, cS27, cL28, cS28, cL29, cS29, cL30, cS30, cL31, cS31, bV, bK, bI0, bI1, bI2, bI3, bI4, bI5, bI6, bI7, bI8, bI9, bI10, bR11, bR12, bR13, bP9, bP10, bL1, bS1, bL2, bS2, bL3, bS3, iI_0, iI_1, iI_neg, iL2, iL3, iL4, iL5, iL6, iL7, iL8, iL9, iL10, iL11, iL12, iL13, iL14, iL15, iL16, iL17, iL30, iL31, iL60, iL99, iL100, iL240, iL480, iL1000, iL1920, iL10000, iI_add, iI_sub, iI_mul, iI_div, iI_le, iI_lt, iI_eq, bd_s, k_steps hw.1]
    rw [if_neg (by omega)]
    have hin := lp_search (B := fun k17 u => fb_X2_firstClosed_17 k k17 u.1 u.2.1 u.2.2.1 u.2.2.2.1 u.2.2.2.2) (fun j => (some (A.x + 22), some (A.b b), iI (i : Int), iI (lv κ b i + (j : Int)), CH h A κ)) (lng κ b i).toNat (fun j => clsd κ (sec κ b i) (lv κ b i + (j : Int))) (fun j => some (iI (lv κ b i + (j : Int)), CH h A κ)) (k (some (A.x + 22), some (A.b b), iI ((i + 1 : Nat) : Int), CH h A κ))
      (fun j hj k17 => by
        show fb_X2_firstClosed_17 k k17 (some (A.x + 22)) (some (A.b b)) (iI (i : Int)) (iI (lv κ b i + (j : Int))) (CH h A κ) = _
        unfold fb_X2_firstClosed_17
        simp (disch := omega) only [iL239, cV0, cR0_0, cR0_1, cR0_2, cR0_3, cR0_4, cR0_5, cV1, cR1_1, cR1_2, cR1_3, cR1_4, cR1_5, cR1_6, cR1_7, cI1_0, cI1_8, cP1_8, cI1_9, cP1_9, cV9, cR9_0, cR9_1, cV10, cV11, cV12, cR12_0, cR12_1, cR12_2, cR12_3, cR12_4, cR12_5, cR12_6, cV18, cR18_0, cR18_1, cR18_2, cR18_3, cR18_4, cI18_5, cP18_5, cI18_6, cP18_6, cV22, cR22_0, cR22_1, cI22_2, cP22_2, cI22_3, cP22_3, cI22_4, cP22_4, cV23, cR23_0, cR23_1, cR23_3, cR23_4, cR23_5, cR23_6, cR23_7, cR23_8, cR23_9, cR23_10, cI23_2, cP23_2, cR10_1, cI10_2, cR11_1, cI11_2, cL2, cS2, cL3, cS3, cL4, cS4, cL5, cS5, cL6, cS6, cL7, cS7, cL8, cS8, cL13, cS13, cL14, cS14, cL15, cS15, cL16, cS16, cL17, cS17, cL19, cS19, cL20, cS20, cL21, cS21, cL24, cS24, cL25, cS25, cL26, cS26, cL27, cS27, cL28, cS28, cL29, cS29, cL30, cS30, cL31, cS31, bV, bK, bI0, bI1, bI2, bI3, bI4, bI5, bI6, bI7, bI8, bI9, bI10, bR11, bR12, bR13, bP9, bP10, bL1, bS1, bL2, bS2, bL3, bS3, iI_0, iI_1, iI_neg, iL2, iL3, iL4, iL5, iL6, iL7, iL8, iL9, iL10, iL11, iL12, iL13, iL14, iL15, iL16, iL17, iL30, iL31, iL60, iL99, iL100, iL240, iL480, iL1000, iL1920, iL10000, iI_add, iI_sub, iI_mul, iI_div, iI_le, iI_lt, iI_eq, bd_s, ec, k_sectionAt hw.1, k_isClosed hw.1, iI_b2, Int.natCast_succ]
        rw [if_neg (by omega)]
        cases clsd κ (sec κ b i) (lv κ b i + (j : Int)) with
        | true => rw [if_neg (by simp)]; rfl
        | false => rw [if_pos (by simp), Int.add_assoc]; rfl)
      (fun k17 => by
        show fb_X2_firstClosed_17 k k17 (some (A.x + 22)) (some (A.b b)) (iI (i : Int)) (iI (lv κ b i + ((lng κ b i).toNat : Int))) (CH h A κ) = _
        unfold fb_X2_firstClosed_17
        simp (disch := omega) only [iL239, cV0, cR0_0, cR0_1, cR0_2, cR0_3, cR0_4, cR0_5, cV1, cR1_1, cR1_2, cR1_3, cR1_4, cR1_5, cR1_6, cR1_7, cI1_0, cI1_8, cP1_8, cI1_9, cP1_9, cV9, cR9_0, cR9_1, cV10, cV11, cV12, cR12_0, cR12_1, cR12_2, cR12_3, cR12_4, cR12_5, cR12_6, cV18, cR18_0, cR18_1, cR18_2, cR18_3, cR18_4, cI18_5, cP18_5, cI18_6, cP18_6, cV22, cR22_0, cR22_1, cI22_2, cP22_2, cI22_3, cP22_3, cI22_4, cP22_4, cV23, cR23_0, cR23_1, cR23_3, cR23_4, cR23_5, cR23_6, cR23_7, cR23_8, cR23_9, cR23_10, cI23_2, cP23_2, cR10_1, cI10_2, cR11_1, cI11_2, cL2, cS2, cL3, cS3, cL4, cS4, cL5, cS5, cL6, cS6, cL7, cS7, cL8, cS8, cL13, cS13, cL14, cS14, cL15, cS15, cL16, cS16, cL17, cS17, cL19, cS19, cL20, cS20, cL21, cS21, cL24, cS24, cL25, cS25, cL26, cS26, cL27, cS27, cL28, cS28, cL29, cS29, cL30, cS30, cL31, cS31, bV, bK, bI0, bI1, bI2, bI3, bI4, bI5, bI6, bI7, bI8, bI9, bI10, bR11, bR12, bR13, bP9, bP10, bL1, bS1, bL2, bS2, bL3, bS3, iI_0, iI_1, iI_neg, iL2, iL3, iL4, iL5, iL6, iL7, iL8, iL9, iL10, iL11, iL12, iL13, iL14, iL15, iL16, iL17, iL30, iL31, iL60, iL99, iL100, iL240, iL480, iL1000, iL1920, iL10000, iI_add, iI_sub, iI_mul, iI_div, iI_le, iI_lt, iI_eq, bd_s, ec, Int.natCast_succ]
        rw [if_pos (by omega)]) (lng κ b i).toNat 0 FU (by omega) (by rw [FU_eq]; omega)
    rw [show lv κ b (i : Int) + ((0 : Nat) : Int) = lv κ b i by omega] at hin
    rw [hin, show (lv κ b (i : Int) + lng κ b i - lv κ b i).toNat = (lng κ b i).toNat by omega]
    generalize srch _ 0 (lng κ b i).toNat = os
    cases os <;> rfl
  · show fb_X2_firstClosed_2 k (some (A.x + 22)) (some (A.b b)) (iI ((lgs κ b).toNat : Int)) (CH h A κ) = _
    unfold fb_X2_firstClosed_2
    simp (disch := omega) only [iL239, cV0, cR0_0, cR0_1, cR0_2, cR0_3, cR0_4, cR0_5, cV1, cR1_1, cR1_2, cR1_3, cR1_4, cR1_5, cR1_6, cR1_7, cI1_0, cI1_8, cP1_8, cI1_9, cP1_9, cV9, cR9_0, cR9_1, cV10, cV11, cV12, cR12_0, cR12_1, cR12_2, cR12_3, cR12_4, cR12_5, cR12_6, cV18, cR18_0, cR18_1, cR18_2, cR18_3, cR18_4, cI18_5, cP18_5, cI18_6, cP18_6, cV22, cR22_0, cR22_1, cI22_2, cP22_2, cI22_3, cP22_3, cI22_4, cP22_4, cV23, cR23_0, cR23_1, cR23_3, cR23_4, cR23_5, cR23_6, cR23_7, cR23_8, cR23_9, cR23_10, cI23_2, cP23_2, cR10_1, cI10_2, cR11_1, cI11_2, cL2, cS2, cL3, cS3, cL4, cS4, cL5, cS5, cL6, cS6, cL7, cS7, cL8, cS8, cL13, cS13, cL14, cS14, cL15, cS15, cL16, cS16, cL17, cS17, cL19, cS19, cL20, cS20, cL21, cS21, cL24, cS24, cL25, cS25, cL26, cS26, cL27, cS27, cL28, cS28, cL29, cS29, cL30, cS30, cL31, cS31, bV, bK, bI0, bI1, bI2, bI3, bI4, bI5, bI6, bI7, bI8, bI9, bI10, bR11, bR12, bR13, bP9, bP10, bL1, bS1, bL2, bS2, bL3, bS3, iI_0, iI_1, iI_neg, iL2, iL3, iL4, iL5, iL6, iL7, iL8, iL9, iL10, iL11, iL12, iL13, iL14, iL15, iL16, iL17, iL30, iL31, iL60, iL99, iL100, iL240, iL480, iL1000, iL1920, iL10000, iI_add, iI_sub, iI_mul, iI_div, iI_le, iI_lt, iI_eq, bd_s, k_steps hw.1]
    rw [if_pos (by omega)]
    rfl
  · have := ns_srch (lo := fun i => lv κ b i) (hi := fun i => lv κ b i + lng κ b i) (P := fun i t => clsd κ (sec κ b i) t) (N := (lgs κ b).toNat) (fun t => brk κ b 1 t)
      (fun j j' q1 q2 => by
        have := MB.ord hw hb9 hm (j' - j - 1) j (by omega) (by omega)
        rw [show (j : Int) + 1 + ((j' - j - 1 : Nat) : Int) = j' by omega] at this
        unfold cmT at this
        rw [show (j : Int) + 1 - 1 = j by omega] at this
        exact this)
      (fun j hj => by
        have := MB.top hw hb9 hm (i := j + 1) (by omega) (by omega)
        unfold cmT at this
        rw [show (j : Int) + 1 - 1 = j by omega] at this
        have := (hr j (by omega)).1.1
        omega)
      (fun t ht => by
        unfold brk
        rw [if_neg (by decide), exB_iff]
        simp only [if_true, Bool.and_eq_true, decide_eq_true_eq]
        constructor
        · rintro ⟨j, j1, j2, j3⟩; exact ⟨j, j1, j2.1, by omega, j3⟩
        · rintro ⟨j, j1, j2, j3, j4⟩; exact ⟨j, j1, ⟨j2, by omega⟩, j4⟩)
    unfold whyT
    have e : (fun t : Nat => brk κ b ((1 : Nat) : Int) t) = fun t : Nat => brk κ b 1 t := rfl
    rw [e, ← this]
    cases ns (fun i => lv κ b i) (fun i => lv κ b i + lng κ b i) (fun i t => clsd κ (sec κ b i) t) 0 (lgs κ b).toNat <;> rfl
theorem k_firstHeld (hk : KI h A κ ρ) {b : Nat} (hb : b < A.n) (hg : κ 19 b ≠ 0) (hm : MB κ b) : f_X2_firstHeld (A.x + 22) (some (A.b b)) (CH h A κ) = some (iI (oI (whyT κ b 2)), CH h A κ) := by
  have hki := hk
  obtain ⟨⟨hw, hl, hn⟩, hc, -, -⟩ := hk
  have h16 := hl.1
  have hlg := lgs_rng hw.1 (b := b) (by omega)
  have hb9 : (b : Int) < κ 9 0 := by omega
  unfold f_X2_firstHeld f_X2_firstHeld_2
  rw [iI_0]
  have ecv : ∀ i : Nat, (i : Int) < lgs κ b → cv κ b ((i : Int) + 1) = lv κ b i + lng κ b i := fun i hi => by
    rw [hc b _ hb9 hg (by omega) (by omega)]
    unfold cmT
    rw [show (i : Int) + 1 - 1 = i by omega]
  have hr : ∀ i : Nat, (i : Int) < lgs κ b → (0 ≤ lv κ b i ∧ lv κ b i ≤ 239) ∧ (1 ≤ lng κ b i ∧ lng κ b i ≤ 30) ∧ (0 ≤ sec κ b i ∧ sec κ b i ≤ 6) := fun i hi => ⟨lv_rng hw.1 (by omega) (by omega) (by omega), lng_rng hw.1 (by omega) (by omega) hi, sec_rng hw.1 (by omega) (by omega) hi⟩
  refine (lp_ns (B := fun k2 u => fb_X2_firstHeld_2 k2 u.1 u.2.1 u.2.2.1 u.2.2.2) (fun i => (some (A.x + 22), some (A.b b), iI (i : Int), CH h A κ)) (lgs κ b).toNat (fun i => lv κ b i) (fun i => lv κ b i + lng κ b i) (fun i t => exB (hldB κ b (sec κ b i) t) A.n) (fun t => some (iI t, CH h A κ)) (some (iI (-1), CH h A κ)) (fun i hi k => ?_) (fun k => ?_) (lgs κ b).toNat 0 FU (by omega) (by rw [FU_eq]; omega)).trans ?_
  · obtain ⟨r1, r2, r3⟩ := hr i (by omega)
    have ec := ecv i (by omega)
    show fb_X2_firstHeld_2 k (some (A.x + 22)) (some (A.b b)) (iI (i : Int)) (CH h A κ) = _
    unfold fb_X2_firstHeld_2 f_X2_firstHeld_17
    simp (disch := omega) only [iL239, cV0, cR0_0, cR0_1, cR0_2, cR0_3, cR0_4, cR0_5, cV1, cR1_1, cR1_2, cR1_3, cR1_4, cR1_5, cR1_6, cR1_7, cI1_0, cI1_8, cP1_8, cI1_9, cP1_9, cV9, cR9_0, cR9_1, cV10, cV11, cV12, cR12_0, cR12_1, cR12_2, cR12_3, cR12_4, cR12_5, cR12_6, cV18, cR18_0, cR18_1, cR18_2, cR18_3, cR18_4, cI18_5, cP18_5, cI18_6, cP18_6, cV22, cR22_0, cR22_1, cI22_2, cP22_2, cI22_3, cP22_3, cI22_4, cP22_4, cV23, cR23_0, cR23_1, cR23_3, cR23_4, cR23_5, cR23_6, cR23_7, cR23_8, cR23_9, cR23_10, cI23_2, cP23_2, cR10_1, cI10_2, cR11_1, cI11_2, cL2, cS2, cL3, cS3, cL4, cS4, cL5, cS5, cL6, cS6, cL7, cS7, cL8, cS8, cL13, cS13, cL14, cS14, cL15, cS15, cL16, cS16, cL17, cS17, cL19, cS19, cL20, cS20, cL21, cS21, cL24, cS24, cL25, cS25, cL26, cS26, cL27, cS27, cL28, cS28, cL29, cS29, cL30, cS30, cL31, cS31, bV, bK, bI0, bI1, bI2, bI3, bI4, bI5, bI6, bI7, bI8, bI9, bI10, bR11, bR12, bR13, bP9, bP10, bL1, bS1, bL2, bS2, bL3, bS3, iI_0, iI_1, iI_neg, iL2, iL3, iL4, iL5, iL6, iL7, iL8, iL9, iL10, iL11, iL12, iL13, iL14, iL15, iL16, iL17, iL30, iL31, iL60, iL99, iL100, iL240, iL480, iL1000, iL1920, iL10000, iI_add, iI_sub, iI_mul, iI_div, iI_le, iI_lt, iI_eq, bd_s, k_steps hw.1]
    rw [if_neg (by omega)]
    have hin := lp_search (B := fun k17 u => fb_X2_firstHeld_17 k k17 u.1 u.2.1 u.2.2.1 u.2.2.2.1 u.2.2.2.2) (fun j => (some (A.x + 22), some (A.b b), iI (i : Int), iI (lv κ b i + (j : Int)), CH h A κ)) (lng κ b i).toNat (fun j => exB (hldB κ b (sec κ b i) (lv κ b i + (j : Int))) A.n) (fun j => some (iI (lv κ b i + (j : Int)), CH h A κ)) (k (some (A.x + 22), some (A.b b), iI ((i + 1 : Nat) : Int), CH h A κ))
      (fun j hj k17 => by
        show fb_X2_firstHeld_17 k k17 (some (A.x + 22)) (some (A.b b)) (iI (i : Int)) (iI (lv κ b i + (j : Int))) (CH h A κ) = _
        unfold fb_X2_firstHeld_17
        simp (disch := omega) only [iL239, cV0, cR0_0, cR0_1, cR0_2, cR0_3, cR0_4, cR0_5, cV1, cR1_1, cR1_2, cR1_3, cR1_4, cR1_5, cR1_6, cR1_7, cI1_0, cI1_8, cP1_8, cI1_9, cP1_9, cV9, cR9_0, cR9_1, cV10, cV11, cV12, cR12_0, cR12_1, cR12_2, cR12_3, cR12_4, cR12_5, cR12_6, cV18, cR18_0, cR18_1, cR18_2, cR18_3, cR18_4, cI18_5, cP18_5, cI18_6, cP18_6, cV22, cR22_0, cR22_1, cI22_2, cP22_2, cI22_3, cP22_3, cI22_4, cP22_4, cV23, cR23_0, cR23_1, cR23_3, cR23_4, cR23_5, cR23_6, cR23_7, cR23_8, cR23_9, cR23_10, cI23_2, cP23_2, cR10_1, cI10_2, cR11_1, cI11_2, cL2, cS2, cL3, cS3, cL4, cS4, cL5, cS5, cL6, cS6, cL7, cS7, cL8, cS8, cL13, cS13, cL14, cS14, cL15, cS15, cL16, cS16, cL17, cS17, cL19, cS19, cL20, cS20, cL21, cS21, cL24, cS24, cL25, cS25, cL26, cS26, cL27, cS27, cL28, cS28, cL29, cS29, cL30, cS30, cL31, cS31, bV, bK, bI0, bI1, bI2, bI3, bI4, bI5, bI6, bI7, bI8, bI9, bI10, bR11, bR12, bR13, bP9, bP10, bL1, bS1, bL2, bS2, bL3, bS3, iI_0, iI_1, iI_neg, iL2, iL3, iL4, iL5, iL6, iL7, iL8, iL9, iL10, iL11, iL12, iL13, iL14, iL15, iL16, iL17, iL30, iL31, iL60, iL99, iL100, iL240, iL480, iL1000, iL1920, iL10000, iI_add, iI_sub, iI_mul, iI_div, iI_le, iI_lt, iI_eq, bd_s, ec, k_sectionAt hw.1, k_isHeld hki hb, iI_b2, Int.natCast_succ]
        rw [if_neg (by omega)]
        cases exB (hldB κ b (sec κ b i) (lv κ b i + (j : Int))) A.n with
        | true => rw [if_neg (by simp)]; rfl
        | false => rw [if_pos (by simp), Int.add_assoc]; rfl)
      (fun k17 => by
        show fb_X2_firstHeld_17 k k17 (some (A.x + 22)) (some (A.b b)) (iI (i : Int)) (iI (lv κ b i + ((lng κ b i).toNat : Int))) (CH h A κ) = _
        unfold fb_X2_firstHeld_17
        simp (disch := omega) only [iL239, cV0, cR0_0, cR0_1, cR0_2, cR0_3, cR0_4, cR0_5, cV1, cR1_1, cR1_2, cR1_3, cR1_4, cR1_5, cR1_6, cR1_7, cI1_0, cI1_8, cP1_8, cI1_9, cP1_9, cV9, cR9_0, cR9_1, cV10, cV11, cV12, cR12_0, cR12_1, cR12_2, cR12_3, cR12_4, cR12_5, cR12_6, cV18, cR18_0, cR18_1, cR18_2, cR18_3, cR18_4, cI18_5, cP18_5, cI18_6, cP18_6, cV22, cR22_0, cR22_1, cI22_2, cP22_2, cI22_3, cP22_3, cI22_4, cP22_4, cV23, cR23_0, cR23_1, cR23_3, cR23_4, cR23_5, cR23_6, cR23_7, cR23_8, cR23_9, cR23_10, cI23_2, cP23_2, cR10_1, cI10_2, cR11_1, cI11_2, cL2, cS2, cL3, cS3, cL4, cS4, cL5, cS5, cL6, cS6, cL7, cS7, cL8, cS8, cL13, cS13, cL14, cS14, cL15, cS15, cL16, cS16, cL17, cS17, cL19, cS19, cL20, cS20, cL21, cS21, cL24, cS24, cL25, cS25, cL26, cS26, cL27, cS27, cL28, cS28, cL29, cS29, cL30, cS30, cL31, cS31, bV, bK, bI0, bI1, bI2, bI3, bI4, bI5, bI6, bI7, bI8, bI9, bI10, bR11, bR12, bR13, bP9, bP10, bL1, bS1, bL2, bS2, bL3, bS3, iI_0, iI_1, iI_neg, iL2, iL3, iL4, iL5, iL6, iL7, iL8, iL9, iL10, iL11, iL12, iL13, iL14, iL15, iL16, iL17, iL30, iL31, iL60, iL99, iL100, iL240, iL480, iL1000, iL1920, iL10000, iI_add, iI_sub, iI_mul, iI_div, iI_le, iI_lt, iI_eq, bd_s, ec, Int.natCast_succ]
        rw [if_pos (by omega)]) (lng κ b i).toNat 0 FU (by omega) (by rw [FU_eq]; omega)
    rw [show lv κ b (i : Int) + ((0 : Nat) : Int) = lv κ b i by omega] at hin
    rw [hin, show (lv κ b (i : Int) + lng κ b i - lv κ b i).toNat = (lng κ b i).toNat by omega]
    generalize srch _ 0 (lng κ b i).toNat = os
    cases os <;> rfl
  · show fb_X2_firstHeld_2 k (some (A.x + 22)) (some (A.b b)) (iI ((lgs κ b).toNat : Int)) (CH h A κ) = _
    unfold fb_X2_firstHeld_2
    simp (disch := omega) only [iL239, cV0, cR0_0, cR0_1, cR0_2, cR0_3, cR0_4, cR0_5, cV1, cR1_1, cR1_2, cR1_3, cR1_4, cR1_5, cR1_6, cR1_7, cI1_0, cI1_8, cP1_8, cI1_9, cP1_9, cV9, cR9_0, cR9_1, cV10, cV11, cV12, cR12_0, cR12_1, cR12_2, cR12_3, cR12_4, cR12_5, cR12_6, cV18, cR18_0, cR18_1, cR18_2, cR18_3, cR18_4, cI18_5, cP18_5, cI18_6, cP18_6, cV22, cR22_0, cR22_1, cI22_2, cP22_2, cI22_3, cP22_3, cI22_4, cP22_4, cV23, cR23_0, cR23_1, cR23_3, cR23_4, cR23_5, cR23_6, cR23_7, cR23_8, cR23_9, cR23_10, cI23_2, cP23_2, cR10_1, cI10_2, cR11_1, cI11_2, cL2, cS2, cL3, cS3, cL4, cS4, cL5, cS5, cL6, cS6, cL7, cS7, cL8, cS8, cL13, cS13, cL14, cS14, cL15, cS15, cL16, cS16, cL17, cS17, cL19, cS19, cL20, cS20, cL21, cS21, cL24, cS24, cL25, cS25, cL26, cS26, cL27, cS27, cL28, cS28, cL29, cS29, cL30, cS30, cL31, cS31, bV, bK, bI0, bI1, bI2, bI3, bI4, bI5, bI6, bI7, bI8, bI9, bI10, bR11, bR12, bR13, bP9, bP10, bL1, bS1, bL2, bS2, bL3, bS3, iI_0, iI_1, iI_neg, iL2, iL3, iL4, iL5, iL6, iL7, iL8, iL9, iL10, iL11, iL12, iL13, iL14, iL15, iL16, iL17, iL30, iL31, iL60, iL99, iL100, iL240, iL480, iL1000, iL1920, iL10000, iI_add, iI_sub, iI_mul, iI_div, iI_le, iI_lt, iI_eq, bd_s, k_steps hw.1]
    rw [if_pos (by omega)]
    rfl
  · have := ns_srch (lo := fun i => lv κ b i) (hi := fun i => lv κ b i + lng κ b i) (P := fun i t => exB (hldB κ b (sec κ b i) t) A.n) (N := (lgs κ b).toNat) (fun t => brk κ b 2 t)
      (fun j j' q1 q2 => by
        have := MB.ord hw hb9 hm (j' - j - 1) j (by omega) (by omega)
        rw [show (j : Int) + 1 + ((j' - j - 1 : Nat) : Int) = j' by omega] at this
        unfold cmT at this
        rw [show (j : Int) + 1 - 1 = j by omega] at this
        exact this)
      (fun j hj => by
        have := MB.top hw hb9 hm (i := j + 1) (by omega) (by omega)
        unfold cmT at this
        rw [show (j : Int) + 1 - 1 = j by omega] at this
        have := (hr j (by omega)).1.1
        omega)
      (fun t ht => by
        unfold brk
        rw [if_neg (by decide), exB_iff, hn, Int.toNat_natCast]
        simp only [show ¬ ((2 : Int) = 1) by decide, if_false, Bool.and_eq_true, decide_eq_true_eq]
        constructor
        · rintro ⟨j, j1, j2, j3⟩; exact ⟨j, j1, j2.1, by omega, j3⟩
        · rintro ⟨j, j1, j2, j3, j4⟩; exact ⟨j, j1, ⟨j2, by omega⟩, j4⟩)
    unfold whyT
    have e : (fun t : Nat => brk κ b ((2 : Nat) : Int) t) = fun t : Nat => brk κ b 2 t := rfl
    rw [e, ← this]
    cases ns (fun i => lv κ b i) (fun i => lv κ b i + lng κ b i) (fun i t => exB (hldB κ b (sec κ b i) t) A.n) 0 (lgs κ b).toNat <;> rfl
end
