/-! the spreading of comings -/
theorem cmg_eq {σ τ : Sg} (e : cor σ = cor τ) (b i : Nat) : cmg σ b i = cmg τ b i := by rw [cmg_cor σ b i, e, ← cmg_cor τ b i]
theorem canL_eq {σ τ : Sg} (e : cor σ = cor τ) (b : Nat) (i t : Int) : canL σ b i t = canL τ b i t := by
  have h : ∀ σ : Sg, canL σ b i t = canL (cor σ) b i t := fun _ => rfl
  rw [h σ, e, ← h τ]
theorem othP_eq {σ τ : Sg} (e : cor σ = cor τ) (b : Nat) (s t : Int) : othP σ b s t = othP τ b s t := by
  have h : ∀ σ : Sg, othP σ b s t = othP (cor σ) b s t := fun _ => rfl
  rw [h σ, e, ← h τ]
theorem bkF_eq {σ τ : Sg} (e : cor σ = cor τ) (b i t : Nat) (F : Nat → Int) : bkF σ b i t F = bkF τ b i t F := by rw [bkF_cor σ b i t F, e, ← bkF_cor τ b i t F]
theorem cmg_lo {κ : Sg} {b : Nat} (hw : WF κ) (hb : b < 16) : ∀ i : Nat, (i : Int) ≤ lgs κ b → (∀ t : Nat, cmg κ b i t = true → κ 14 b ≤ t) ∧ ∀ t : Nat, rdy κ b i t = true → κ 14 b ≤ t
  | 0, _ => ⟨fun t h => (by cases h), fun t h => by rw [rdy_0] at h; simpa using h⟩
  | i + 1, hi => by
    have ih := cmg_lo hw hb i (by omega)
    have hg := lng_rng hw hb (i := i) (by omega) (by omega)
    have h1 : ∀ t : Nat, cmg κ b (i + 1) t = true → κ 14 b ≤ t := fun t h => by
      obtain ⟨c1, c2, -⟩ := cmg_inv h
      have := ih.2 _ c2
      omega
    refine ⟨h1, fun t h => ?_⟩
    obtain ⟨u, u1, u2⟩ := rdy_ex h
    have := h1 u u2
    omega
theorem b2_i0 (p : Bool) : (iI (b2 (p = true)) = iI 0) = (p = false) := by
  cases p
  · exact propext ⟨fun _ => rfl, fun _ => rfl⟩
  · exact propext ⟨fun z => absurd z (by decide), fun z => by cases z⟩
def tbF (κ : Sg) (b i : Nat) : Nat → Bool
  | 0 => decide (i = 0)
  | j + 1 => decide (i = 0) || (rdy κ b i ((κ 14 b).toNat + j) && canS κ b (stn κ b i) ((κ 14 b).toNat + j : Nat))
theorem tbF_rdy {κ : Sg} {b : Nat} (hw : WF κ) (hb : b < 16) {i : Nat} (hi : (i : Int) ≤ lgs κ b) (j : Nat) : rdy κ b i ((κ 14 b).toNat + j) = (tbF κ b i j || (decide (0 < i) && cmg κ b i ((κ 14 b).toNat + j))) := by
  have h14 := (hw.bid hb).2.2.2.2.1
  cases i with
  | zero =>
    rw [rdy_0]
    have e : decide (κ 14 b ≤ (((κ 14 b).toNat + j : Nat) : Int)) = true := by simp; omega
    rw [e]
    cases j <;> simp [tbF]
  | succ i =>
    cases j with
    | zero =>
      show rdy κ b (i + 1) (κ 14 b).toNat = (decide (i + 1 = 0) || (decide (0 < i + 1) && cmg κ b (i + 1) ((κ 14 b).toNat)))
      cases hE : (κ 14 b).toNat with
      | zero => rw [rdy_p0]; simp
      | succ e =>
        rw [rdy_ps]
        have : rdy κ b (i + 1) e = false := by
          cases hr : rdy κ b (i + 1) e with
          | false => rfl
          | true =>
            have := (cmg_lo hw hb (i + 1) hi).2 e hr
            omega
        rw [this]
        simp
    | succ j =>
      rw [show (κ 14 b).toNat + (j + 1) = ((κ 14 b).toNat + j) + 1 by omega, rdy_ps]
      simp only [tbF]
      simp only [Nat.add_eq_zero_iff, Nat.succ_ne_zero, and_false, decide_false, Bool.false_or, Nat.zero_lt_succ, decide_true, Bool.true_and]
      rw [Bool.or_comm]
section
variable {h : Hp} {A : CA} {κ : Sg} {ρ : Nat → Nat}
theorem k_spreadComings (hk : KO h A κ ρ) {b : Nat} (hb : b < A.n) {i : Nat} (i1 : (i : Int) < lgs κ b)
    (hB : ∀ t : Nat, κ 14 b ≤ t → t ≤ κ 15 b → κ 43 t = b2 (canL κ b i t = false)) (hS : ∀ t : Nat, κ 14 b ≤ t → t ≤ κ 15 b → κ 44 t = cntI (othP κ b (stn κ b i) t) A.n)
    (hC : 0 < i → ∀ t : Nat, κ 14 b ≤ t → t ≤ κ 15 b → κ 42 (240 * i + t) = b2 (cmg κ b i t = true)) (hZ : ∀ t : Nat, κ 14 b ≤ t → t ≤ κ 15 b → κ 42 (240 * (i + 1) + t) = 0) :
    ∃ τ, Ex [42] κ τ ∧ (∀ u : Nat, u < 240 * (i + 1) → τ 42 u = κ 42 u) ∧ (∀ t : Nat, κ 14 b ≤ t → t ≤ κ 15 b → τ 42 (240 * (i + 1) + t) = b2 (cmg κ b (i + 1) t = true)) ∧ f_X4_spreadComings (A.x + 12) (some (A.b b)) (iI i) (CH h A κ) = some ((), CH h A τ) := by
  obtain ⟨hw, hl, hn⟩ := hk
  have h16 := hl.1
  have hlg := lgs_rng hw.1 (b := b) (by omega)
  have hg := lng_rng hw.1 (b := b) (i := i) (by omega) (by omega) i1
  have hs := stn_rng hw.1 (b := b) (i := i) (by omega) (by omega) (by omega)
  obtain ⟨-, -, -, -, g14, g15, -⟩ := hw.1.bid (b := b) (by omega)
  have h3 := hw.1.2.2.2.2.2.2.1 (stn κ b i).toNat (by omega)
  have hlo := cmg_lo hw.1 (b := b) (by omega) i (by omega)
  have hlo1 := (cmg_lo hw.1 (b := b) (by omega) (i + 1) (by omega)).1
  have hstep : ∀ t : Nat, cmg κ b (i + 1) (t + (lng κ b i).toNat) = (rdy κ b i t && canL κ b i t) := fun t => cmg_step κ b i t _ rfl (by omega)
  have hcS : ∀ t : Nat, κ 14 b ≤ t → t ≤ κ 15 b → canS κ b (stn κ b i) t = decide (κ 44 t < κ 3 (stn κ b i).toNat) := fun t q1 q2 => by
    unfold canS
    rw [hS t q1 q2, hn]
    congr 1
    exact propext (by simp only [Int.toNat_natCast]; omega)
  have h44 : ∀ t : Nat, κ 14 b ≤ t → t ≤ κ 15 b → 0 ≤ κ 44 t ∧ κ 44 t ≤ 16 := fun t q1 q2 => by
    have := cntI_rng (othP κ b (stn κ b i) t) A.n
    rw [hS t q1 q2]
    omega
  have htr := fun j => tbF_rdy hw.1 (b := b) (by omega) (i := i) (by omega) j
  have htb : ∀ j, tbF κ b i (j + 1) = (decide (i = 0) || (rdy κ b i ((κ 14 b).toNat + j) && canS κ b (stn κ b i) ((κ 14 b).toNat + j : Nat))) := fun j => rfl
  have hr0 : i = 0 → ∀ j, rdy κ b i ((κ 14 b).toNat + j) = true := fun e j => by
    subst e
    rw [rdy_0]
    simp
    omega
  have hin : ∀ t : Nat, κ 14 b ≤ t → (t : Int) < κ 14 b + lng κ b i → cmg κ b (i + 1) t = false := fun t q1 q2 => by
    cases hq : cmg κ b (i + 1) t with
    | false => rfl
    | true =>
      obtain ⟨c1, c2, -⟩ := cmg_inv hq
      have := hlo.2 _ c2
      omega
  unfold f_X4_spreadComings f_X4_spreadComings_51 f_X4_spreadComings_59
  simp (disch := omega) only [iL239, cV0, cR0_0, cR0_1, cR0_2, cR0_3, cR0_4, cR0_5, cV1, cR1_1, cR1_2, cR1_3, cR1_4, cR1_5, cR1_6, cR1_7, cI1_0, cI1_8, cP1_8, cI1_9, cP1_9, cV9, cR9_0, cR9_1, cV10, cV11, cV12, cR12_0, cR12_1, cR12_2, cR12_3, cR12_4, cR12_5, cR12_6, cV18, cR18_0, cR18_1, cR18_2, cR18_3, cR18_4, cI18_5, cP18_5, cI18_6, cP18_6, cV22, cR22_0, cR22_1, cI22_2, cP22_2, cI22_3, cP22_3, cI22_4, cP22_4, cV23, cR23_0, cR23_1, cR23_3, cR23_4, cR23_5, cR23_6, cR23_7, cR23_8, cR23_9, cR23_10, cI23_2, cP23_2, cR10_1, cI10_2, cR11_1, cI11_2, cL2, cS2, cL3, cS3, cL4, cS4, cL5, cS5, cL6, cS6, cL7, cS7, cL8, cS8, cL13, cS13, cL14, cS14, cL15, cS15, cL16, cS16, cL17, cS17, cL19, cS19, cL20, cS20, cL21, cS21, cL24, cS24, cL25, cS25, cL26, cS26, cL27, cS27, cL28, cS28, cL29, cS29, cL30, cS30, cL31, cS31, bV, bK, bI0, bI1, bI2, bI3, bI4, bI5, bI6, bI7, bI8, bI9, bI10, bR11, bR12, bR13, bP9, bP10, bL1, bS1, bL2, bS2, bL3, bS3, k_stationAt hw.1, k_lengthOf hw.1, bd_s]
  generalize hst : stn κ b i = s at *
  generalize hln : lng κ b i = n at *
  generalize hrm : κ 3 s.toNat = rm at *
  obtain ⟨⟨τ, q⟩, t1, t2⟩ := lp_rel (B := fun k59 u => fb_X4_spreadComings_59 k59 u.1 u.2.1 u.2.2.1 u.2.2.2.1 u.2.2.2.2.1 u.2.2.2.2.2.1 u.2.2.2.2.2.2.1 u.2.2.2.2.2.2.2.1 u.2.2.2.2.2.2.2.2.1 u.2.2.2.2.2.2.2.2.2) (T := Sg × Bool) (fun j (p : Sg × Bool) => (some (A.x + 12), some (A.b b), iI (i : Int), iI n, iI rm, iI ((i : Int) * 240), iI ((i : Int) * 240 + 240 + n), iI (b2 (p.2 = true)), iI (κ 14 b + (j : Int)), CH h A p.1)) (fun j p => (Ex [42] κ p.1 ∧ ∀ u : Nat, u < 240 * (i + 1) → p.1 42 u = κ 42 u) ∧ p.2 = tbF κ b i j ∧ ∀ t : Nat, κ 14 b ≤ t → t ≤ κ 15 b → p.1 42 (240 * (i + 1) + t) = if (t : Int) < κ 14 b + j + n then b2 (cmg κ b (i + 1) t = true) else 0) (κ 15 b - n + 1 - κ 14 b).toNat (fun p => some ((), CH h A p.1))
    (fun j p hj hI => by
      obtain ⟨τ, q⟩ := p
      obtain ⟨⟨hx, hu⟩, rfl, hT⟩ := hI
      simp only at hx hu hT
      have e15 := hx 15 b (by decide)
      obtain ⟨t0, ht0, ht1⟩ : ∃ t0 : Nat, t0 = (κ 14 b).toNat + j ∧ (t0 : Int) = κ 14 b + j := ⟨_, rfl, by omega⟩
      have e43 : τ 43 (κ 14 b + (j : Int)).toNat = b2 (canL κ b i t0 = false) := by
        rw [hx 43 _ (by decide), show (κ 14 b + (j : Int)).toNat = t0 by omega]
        exact hB t0 (by omega) (by omega)
      have hSt := h44 t0 (by omega) (by omega)
      have hcT := hcS t0 (by omega) (by omega)
      have htj := htr j
      have htbj := htb j
      rw [← ht0] at htj htbj
      have h42 : 0 < i → τ 42 ((i : Int) * 240 + (κ 14 b + (j : Int))).toNat = b2 (cmg κ b i t0 = true) := fun z => by
        rw [show ((i : Int) * 240 + (κ 14 b + (j : Int))).toNat = 240 * i + t0 by omega, hu _ (by omega)]
        exact hC z t0 (by omega) (by omega)
      generalize htq : tbF κ b i j = q at *
      generalize hrq : rdy κ b i t0 = r at *
      -- the tail
      have h125 : ∀ (k : _ → Option (Unit × Hp)) (υ : Sg), Ex [42] κ υ → f_X4_spreadComings_125 k (some (A.x + 12)) (some (A.b b)) (iI (i : Int)) (iI n) (iI rm) (iI ((i : Int) * 240)) (iI ((i : Int) * 240 + 240 + n)) (iI (b2 (r = true))) (iI (κ 14 b + (j : Int))) (CH h A υ) = k (some (A.x + 12), some (A.b b), iI (i : Int), iI n, iI rm, iI ((i : Int) * 240), iI ((i : Int) * 240 + 240 + n), iI (b2 (tbF κ b i (j + 1) = true)), iI (κ 14 b + ((j + 1 : Nat) : Int)), CH h A υ) := by
        intro k υ hυ
        have e44 : υ 44 (κ 14 b + (j : Int)).toNat = κ 44 t0 := by
          rw [hυ 44 _ (by decide), show (κ 14 b + (j : Int)).toNat = t0 by omega]
        unfold f_X4_spreadComings_125 f_X4_spreadComings_144
        simp (disch := omega) only [iL239, cV0, cR0_0, cR0_1, cR0_2, cR0_3, cR0_4, cR0_5, cV1, cR1_1, cR1_2, cR1_3, cR1_4, cR1_5, cR1_6, cR1_7, cI1_0, cI1_8, cP1_8, cI1_9, cP1_9, cV9, cR9_0, cR9_1, cV10, cV11, cV12, cR12_0, cR12_1, cR12_2, cR12_3, cR12_4, cR12_5, cR12_6, cV18, cR18_0, cR18_1, cR18_2, cR18_3, cR18_4, cI18_5, cP18_5, cI18_6, cP18_6, cV22, cR22_0, cR22_1, cI22_2, cP22_2, cI22_3, cP22_3, cI22_4, cP22_4, cV23, cR23_0, cR23_1, cR23_3, cR23_4, cR23_5, cR23_6, cR23_7, cR23_8, cR23_9, cR23_10, cI23_2, cP23_2, cR10_1, cI10_2, cR11_1, cI11_2, cL2, cS2, cL3, cS3, cL4, cS4, cL5, cS5, cL6, cS6, cL7, cS7, cL8, cS8, cL13, cS13, cL14, cS14, cL15, cS15, cL16, cS16, cL17, cS17, cL19, cS19, cL20, cS20, cL21, cS21, cL24, cS24, cL25, cS25, cL26, cS26, cL27, cS27, cL28, cS28, cL29, cS29, cL30, cS30, cL31, cS31, bV, bK, bI0, bI1, bI2, bI3, bI4, bI5, bI6, bI7, bI8, bI9, bI10, bR11, bR12, bR13, bP9, bP10, bL1, bS1, bL2, bS2, bL3, bS3, iI_0, iI_1, iI_neg, iL2, iL3, iL4, iL5, iL6, iL7, iL8, iL9, iL10, iL11, iL12, iL13, iL14, iL15, iL16, iL17, iL30, iL31, iL60, iL99, iL100, iL240, iL480, iL1000, iL1920, iL10000, iI_add, iI_sub, iI_mul, iI_div, iI_le, iI_lt, iI_eq, bd_s, e44, Int.natCast_succ, Int.add_assoc]
        rw [htbj, hcT]
        by_cases c0 : i = 0
        · rw [if_pos (by omega)]
          have hrt : r = true := by rw [← hrq, ht0]; exact hr0 c0 j
          simp [c0, hrt]
        · rw [if_neg (by omega)]
          by_cases c1 : κ 44 t0 < rm
          · rw [if_pos c1]; simp [c0, c1]
          · rw [if_neg c1]; simp [c0, c1, b2]
      refine ⟨(if r = true ∧ canL κ b i t0 = true then sg τ 42 ((i : Int) * 240 + 240 + n + (κ 14 b + (j : Int))).toNat 1 else τ, tbF κ b i (j + 1)), ⟨⟨?_, fun u hu2 => ?_⟩, rfl, fun t q1 q2 => ?_⟩, fun k => ?_⟩
      · show Ex [42] κ (if r = true ∧ canL κ b i t0 = true then sg τ 42 ((i : Int) * 240 + 240 + n + (κ 14 b + (j : Int))).toNat 1 else τ)
        split
        · exact hx.sg (by decide) _ _
        · exact hx
      · show (if r = true ∧ canL κ b i t0 = true then sg τ 42 ((i : Int) * 240 + 240 + n + (κ 14 b + (j : Int))).toNat 1 else τ) 42 u = _
        split
        · rw [sg_i _ _ _ (by omega)]; exact hu u hu2
        · exact hu u hu2
      · have hst2 := hstep t0
        rw [hrq] at hst2
        show (if r = true ∧ canL κ b i t0 = true then sg τ 42 ((i : Int) * 240 + 240 + n + (κ 14 b + (j : Int))).toNat 1 else τ) 42 (240 * (i + 1) + t) = _
        by_cases ct : t = t0 + n.toNat
        · rw [if_pos (show (t : Int) < κ 14 b + ((j + 1 : Nat) : Int) + n by omega), ct, hst2]
          by_cases c : r = true ∧ canL κ b i t0 = true
          · rw [if_pos c, show 240 * (i + 1) + (t0 + n.toNat) = ((i : Int) * 240 + 240 + n + (κ 14 b + (j : Int))).toNat by omega, sg_eq, c.1, c.2]
            rfl
          · rw [if_neg c, ← ct, hT t q1 q2, if_neg (by omega), b2_f]
            simpa using c
        · have e : (if r = true ∧ canL κ b i t0 = true then sg τ 42 ((i : Int) * 240 + 240 + n + (κ 14 b + (j : Int))).toNat 1 else τ) 42 (240 * (i + 1) + t) = τ 42 (240 * (i + 1) + t) := by
            split
            · rw [sg_i _ _ _ (by omega)]
            · rfl
          rw [e, hT t q1 q2]
          by_cases c : (t : Int) < κ 14 b + j + n
          · rw [if_pos c, if_pos (by omega)]
          · rw [if_neg c, if_neg (by omega)]
      · -- the body
        have h97 : f_X4_spreadComings_97 k (iI (b2 (r = true))) (some (A.x + 12)) (some (A.b b)) (iI (i : Int)) (iI n) (iI rm) (iI ((i : Int) * 240)) (iI ((i : Int) * 240 + 240 + n)) (iI (κ 14 b + (j : Int))) (CH h A τ) = k (some (A.x + 12), some (A.b b), iI (i : Int), iI n, iI rm, iI ((i : Int) * 240), iI ((i : Int) * 240 + 240 + n), iI (b2 (tbF κ b i (j + 1) = true)), iI (κ 14 b + ((j + 1 : Nat) : Int)), CH h A (if r = true ∧ canL κ b i t0 = true then sg τ 42 ((i : Int) * 240 + 240 + n + (κ 14 b + (j : Int))).toNat 1 else τ)) := by
          unfold f_X4_spreadComings_97
          simp (disch := omega) only [iL239, cV0, cR0_0, cR0_1, cR0_2, cR0_3, cR0_4, cR0_5, cV1, cR1_1, cR1_2, cR1_3, cR1_4, cR1_5, cR1_6, cR1_7, cI1_0, cI1_8, cP1_8, cI1_9, cP1_9, cV9, cR9_0, cR9_1, cV10, cV11, cV12, cR12_0, cR12_1, cR12_2, cR12_3, cR12_4, cR12_5, cR12_6, cV18, cR18_0, cR18_1, cR18_2, cR18_3, cR18_4, cI18_5, cP18_5, cI18_6, cP18_6, cV22, cR22_0, cR22_1, cI22_2, cP22_2, cI22_3, cP22_3, cI22_4, cP22_4, cV23, cR23_0, cR23_1, cR23_3, cR23_4, cR23_5, cR23_6, cR23_7, cR23_8, cR23_9, cR23_10, cI23_2, cP23_2, cR10_1, cI10_2, cR11_1, cI11_2, cL2, cS2, cL3, cS3, cL4, cS4, cL5, cS5, cL6, cS6, cL7, cS7, cL8, cS8, cL13, cS13, cL14, cS14, cL15, cS15, cL16, cS16, cL17, cS17, cL19, cS19, cL20, cS20, cL21, cS21, cL24, cS24, cL25, cS25, cL26, cS26, cL27, cS27, cL28, cS28, cL29, cS29, cL30, cS30, cL31, cS31, bV, bK, bI0, bI1, bI2, bI3, bI4, bI5, bI6, bI7, bI8, bI9, bI10, bR11, bR12, bR13, bP9, bP10, bL1, bS1, bL2, bS2, bL3, bS3, iI_0, iI_1, iI_neg, iL2, iL3, iL4, iL5, iL6, iL7, iL8, iL9, iL10, iL11, iL12, iL13, iL14, iL15, iL16, iL17, iL30, iL31, iL60, iL99, iL100, iL240, iL480, iL1000, iL1920, iL10000, iI_add, iI_sub, iI_mul, iI_div, iI_le, iI_lt, iI_eq, bd_s, e43, b2_i0, iI_b2, h125 k τ hx, h125 k _ (hx.sg (f := 42) (by decide) ((i : Int) * 240 + 240 + n + (κ 14 b + (j : Int))).toNat 1)]
          cases r <;> cases canL κ b i t0 <;> simp
        show fb_X4_spreadComings_59 k (some (A.x + 12)) (some (A.b b)) (iI (i : Int)) (iI n) (iI rm) (iI ((i : Int) * 240)) (iI ((i : Int) * 240 + 240 + n)) (iI (b2 (q = true))) (iI (κ 14 b + (j : Int))) (CH h A τ) = _
        refine Eq.trans ?_ h97
        unfold fb_X4_spreadComings_59 f_X4_spreadComings_96 f_X4_spreadComings_92
        simp (disch := omega) only [iL239, cV0, cR0_0, cR0_1, cR0_2, cR0_3, cR0_4, cR0_5, cV1, cR1_1, cR1_2, cR1_3, cR1_4, cR1_5, cR1_6, cR1_7, cI1_0, cI1_8, cP1_8, cI1_9, cP1_9, cV9, cR9_0, cR9_1, cV10, cV11, cV12, cR12_0, cR12_1, cR12_2, cR12_3, cR12_4, cR12_5, cR12_6, cV18, cR18_0, cR18_1, cR18_2, cR18_3, cR18_4, cI18_5, cP18_5, cI18_6, cP18_6, cV22, cR22_0, cR22_1, cI22_2, cP22_2, cI22_3, cP22_3, cI22_4, cP22_4, cV23, cR23_0, cR23_1, cR23_3, cR23_4, cR23_5, cR23_6, cR23_7, cR23_8, cR23_9, cR23_10, cI23_2, cP23_2, cR10_1, cI10_2, cR11_1, cI11_2, cL2, cS2, cL3, cS3, cL4, cS4, cL5, cS5, cL6, cS6, cL7, cS7, cL8, cS8, cL13, cS13, cL14, cS14, cL15, cS15, cL16, cS16, cL17, cS17, cL19, cS19, cL20, cS20, cL21, cS21, cL24, cS24, cL25, cS25, cL26, cS26, cL27, cS27, cL28, cS28, cL29, cS29, cL30, cS30, cL31, cS31, bV, bK, bI0, bI1, bI2, bI3, bI4, bI5, bI6, bI7, bI8, bI9, bI10, bR11, bR12, bR13, bP9, bP10, bL1, bS1, bL2, bS2, bL3, bS3, iI_0, iI_1, iI_neg, iL2, iL3, iL4, iL5, iL6, iL7, iL8, iL9, iL10, iL11, iL12, iL13, iL14, iL15, iL16, iL17, iL30, iL31, iL60, iL99, iL100, iL240, iL480, iL1000, iL1920, iL10000, iI_add, iI_sub, iI_mul, iI_div, iI_le, iI_lt, iI_eq, bd_s, e15, b2_i0]
        rw [if_neg (by omega), htj]
        by_cases c0 : i = 0
        · cases q <;> simp [c0, b2]
        · have hi0 : 0 < i := by omega
          simp only [h42 hi0, b2_i0, if_neg (show ¬ (i : Int) ≤ 0 by omega)]
          cases q <;> cases cmg κ b i t0 <;> simp [hi0, b2])
    (fun p k hI => by
      obtain ⟨τ, q⟩ := p
      have e15 := hI.1.1 15 b (by decide)
      simp only at e15
      show fb_X4_spreadComings_59 k (some (A.x + 12)) (some (A.b b)) (iI (i : Int)) (iI n) (iI rm) (iI ((i : Int) * 240)) (iI ((i : Int) * 240 + 240 + n)) (iI (b2 (q = true))) (iI (κ 14 b + ((κ 15 b - n + 1 - κ 14 b).toNat : Int))) (CH h A τ) = _
      unfold fb_X4_spreadComings_59
      simp (disch := omega) only [iL239, cV0, cR0_0, cR0_1, cR0_2, cR0_3, cR0_4, cR0_5, cV1, cR1_1, cR1_2, cR1_3, cR1_4, cR1_5, cR1_6, cR1_7, cI1_0, cI1_8, cP1_8, cI1_9, cP1_9, cV9, cR9_0, cR9_1, cV10, cV11, cV12, cR12_0, cR12_1, cR12_2, cR12_3, cR12_4, cR12_5, cR12_6, cV18, cR18_0, cR18_1, cR18_2, cR18_3, cR18_4, cI18_5, cP18_5, cI18_6, cP18_6, cV22, cR22_0, cR22_1, cI22_2, cP22_2, cI22_3, cP22_3, cI22_4, cP22_4, cV23, cR23_0, cR23_1, cR23_3, cR23_4, cR23_5, cR23_6, cR23_7, cR23_8, cR23_9, cR23_10, cI23_2, cP23_2, cR10_1, cI10_2, cR11_1, cI11_2, cL2, cS2, cL3, cS3, cL4, cS4, cL5, cS5, cL6, cS6, cL7, cS7, cL8, cS8, cL13, cS13, cL14, cS14, cL15, cS15, cL16, cS16, cL17, cS17, cL19, cS19, cL20, cS20, cL21, cS21, cL24, cS24, cL25, cS25, cL26, cS26, cL27, cS27, cL28, cS28, cL29, cS29, cL30, cS30, cL31, cS31, bV, bK, bI0, bI1, bI2, bI3, bI4, bI5, bI6, bI7, bI8, bI9, bI10, bR11, bR12, bR13, bP9, bP10, bL1, bS1, bL2, bS2, bL3, bS3, iI_0, iI_1, iI_neg, iL2, iL3, iL4, iL5, iL6, iL7, iL8, iL9, iL10, iL11, iL12, iL13, iL14, iL15, iL16, iL17, iL30, iL31, iL60, iL99, iL100, iL240, iL480, iL1000, iL1920, iL10000, iI_add, iI_sub, iI_mul, iI_div, iI_le, iI_lt, iI_eq, bd_s, e15]
      rw [if_pos (by omega)]
      rfl) (κ 15 b - n + 1 - κ 14 b).toNat 0 FU (κ, decide (i = 0)) (by omega) (by rw [FU_eq]; omega) ⟨⟨Ex.refl _ _, fun _ _ => rfl⟩, rfl, fun t q1 q2 => by
        show κ 42 (240 * (i + 1) + t) = _
        rw [hZ t q1 q2]
        by_cases c : (t : Int) < κ 14 b + ((0 : Nat) : Int) + n
        · rw [if_pos c, hin t q1 (by omega)]; rfl
        · rw [if_neg c]⟩
  refine ⟨τ, t1.1.1, t1.1.2, fun t q1 q2 => ?_, ?_⟩
  · have := t1.2.2 t q1 q2
    rw [if_pos (by omega)] at this
    exact this
  · rw [show κ 14 b + ((0 : Nat) : Int) = κ 14 b by omega] at t2
    simp (disch := omega) only [iI_0, iI_1, iI_neg, iL2, iL3, iL4, iL5, iL6, iL7, iL8, iL9, iL10, iL11, iL12, iL13, iL14, iL15, iL16, iL17, iL30, iL31, iL60, iL99, iL100, iL240, iL480, iL1000, iL1920, iL10000, iI_add, iI_sub, iI_mul, iI_div, iI_le, iI_lt, iI_eq, bd_s]
    by_cases c0 : i = 0
    · rw [if_pos (by omega)]
      rw [show decide (i = 0) = true by simp [c0]] at t2
      exact t2
    · rw [if_neg (by omega)]
      rw [show decide (i = 0) = false by simp [c0]] at t2
      exact t2
end
