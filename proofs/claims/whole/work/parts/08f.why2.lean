/-! the crowded minutes, and the first break of all -/
section
variable {h : Hp} {A : CA} {κ σ : Sg} {h' : Hp} {m : Nat} {ρ : Nat → Nat}
def allP (κ : Sg) (s t : Int) (o : Nat) : Bool := decide (κ 19 o ≠ 0) && stds κ o s t
theorem k_standingAt (hk : KI h A κ ρ) (s t : Int) (hs : 0 ≤ s ∧ s < 8) (ht : -1000 ≤ t ∧ t ≤ 1000) : f_X2_standingAt (A.x + 22) (iI s) (iI t) (CH h A κ) = some (iI (cntI (allP κ s t) A.n), CH h A κ) := by
  obtain ⟨⟨hw, hl, hn⟩, hc, -, -⟩ := hk
  have h16 := hl.1
  have hcr := cntI_rng (allP κ s t)
  unfold f_X2_standingAt f_X2_standingAt_5
  rw [iI_0]
  refine (lp_count (B := fun k5 u => fb_X2_standingAt_5 k5 u.1 u.2.1 u.2.2.1 u.2.2.2.1 u.2.2.2.2.1 u.2.2.2.2.2) (fun o => (some (A.x + 22), iI s, iI t, iI (cntI (allP κ s t) o), iI (o : Int), CH h A κ)) A.n (some (iI (cntI (allP κ s t) A.n), CH h A κ)) (fun o ho k => ?_) (fun k => ?_) A.n 0 FU (by omega) (by rw [FU_eq]; omega))
  · have hco := hcr o
    have h19 := (hw.1.bid (b := o) (by omega)).2.2.2.2.2.2.2.2.2
    have hlg := lgs_rng hw.1 (b := o) (by omega)
    have hsr : -1 ≤ spS κ o s ∧ spS κ o s ≤ 7 := by
      by_cases q : spS κ o s = -1
      · omega
      · have := spS_some q; omega
    show fb_X2_standingAt_5 k (some (A.x + 22)) (iI s) (iI t) (iI (cntI (allP κ s t) o)) (iI (o : Int)) (CH h A κ) = k (some (A.x + 22), iI s, iI t, iI (cntI (allP κ s t) (o + 1)), iI ((o + 1 : Nat) : Int), CH h A κ)
    unfold fb_X2_standingAt_5 f_X2_standingAt_92
    simp (maxSteps := 1000000) (disch := omega) only [iL239, cV0, cR0_0, cR0_1, cR0_2, cR0_3, cR0_4, cR0_5, cV1, cR1_1, cR1_2, cR1_3, cR1_4, cR1_5, cR1_6, cR1_7, cI1_0, cI1_8, cP1_8, cI1_9, cP1_9, cV9, cR9_0, cR9_1, cV10, cV11, cV12, cR12_0, cR12_1, cR12_2, cR12_3, cR12_4, cR12_5, cR12_6, cV18, cR18_0, cR18_1, cR18_2, cR18_3, cR18_4, cI18_5, cP18_5, cI18_6, cP18_6, cV22, cR22_0, cR22_1, cI22_2, cP22_2, cI22_3, cP22_3, cI22_4, cP22_4, cV23, cR23_0, cR23_1, cR23_3, cR23_4, cR23_5, cR23_6, cR23_7, cR23_8, cR23_9, cR23_10, cI23_2, cP23_2, cR10_1, cI10_2, cR11_1, cI11_2, cL2, cS2, cL3, cS3, cL4, cS4, cL5, cS5, cL6, cS6, cL7, cS7, cL8, cS8, cL13, cS13, cL14, cS14, cL15, cS15, cL16, cS16, cL17, cS17, cL19, cS19, cL20, cS20, cL21, cS21, cL24, cS24, cL25, cS25, cL26, cS26, cL27, cS27, cL28, cS28, cL29, cS29, cL30, cS30, cL31, cS31, bV, bK, bI0, bI1, bI2, bI3, bI4, bI5, bI6, bI7, bI8, bI9, bI10, bR11, bR12, bR13, bP9, bP10, bL1, bS1, bL2, bS2, bL3, bS3, iI_0, iI_1, iI_neg, iL2, iL3, iL4, iL5, iL6, iL7, iL8, iL9, iL10, iL11, iL12, iL13, iL14, iL15, iL16, iL17, iL30, iL31, iL60, iL99, iL100, iL240, iL480, iL1000, iL1920, iL10000, iI_add, iI_sub, iI_mul, iI_div, iI_le, iI_lt, iI_eq, bd_s, k_size, k_get hl, k_stepAtStation hw.1, k_steps hw.1, Int.natCast_succ, cntI_s]
    rw [if_neg (by omega)]
    by_cases c : κ 19 o ≠ 0 ∧ 0 < spS κ o s ∧ spS κ o s < lgs κ o
    · obtain ⟨c1, c2, c3⟩ := c
      have ecv : cv κ o (spS κ o s) = cmT κ o (spS κ o s) := hc o _ (by omega) c1 (by omega) (by omega)
      have hlv := lv_rng hw.1 (b := o) (i := spS κ o s) (by omega) (by omega) (by omega)
      have hlv2 := lv_rng hw.1 (b := o) (i := spS κ o s - 1) (by omega) (by omega) (by omega)
      have hln := lng_rng hw.1 (b := o) (i := spS κ o s - 1) (by omega) (by omega) (by omega)
      have hcm : 0 ≤ cmT κ o (spS κ o s) ∧ cmT κ o (spS κ o s) ≤ 300 := by unfold cmT; omega
      rw [if_neg c1, if_neg (by omega), if_neg (by omega)]
      simp (maxSteps := 1000000) (disch := omega) only [iL239, cV0, cR0_0, cR0_1, cR0_2, cR0_3, cR0_4, cR0_5, cV1, cR1_1, cR1_2, cR1_3, cR1_4, cR1_5, cR1_6, cR1_7, cI1_0, cI1_8, cP1_8, cI1_9, cP1_9, cV9, cR9_0, cR9_1, cV10, cV11, cV12, cR12_0, cR12_1, cR12_2, cR12_3, cR12_4, cR12_5, cR12_6, cV18, cR18_0, cR18_1, cR18_2, cR18_3, cR18_4, cI18_5, cP18_5, cI18_6, cP18_6, cV22, cR22_0, cR22_1, cI22_2, cP22_2, cI22_3, cP22_3, cI22_4, cP22_4, cV23, cR23_0, cR23_1, cR23_3, cR23_4, cR23_5, cR23_6, cR23_7, cR23_8, cR23_9, cR23_10, cI23_2, cP23_2, cR10_1, cI10_2, cR11_1, cI11_2, cL2, cS2, cL3, cS3, cL4, cS4, cL5, cS5, cL6, cS6, cL7, cS7, cL8, cS8, cL13, cS13, cL14, cS14, cL15, cS15, cL16, cS16, cL17, cS17, cL19, cS19, cL20, cS20, cL21, cS21, cL24, cS24, cL25, cS25, cL26, cS26, cL27, cS27, cL28, cS28, cL29, cS29, cL30, cS30, cL31, cS31, bV, bK, bI0, bI1, bI2, bI3, bI4, bI5, bI6, bI7, bI8, bI9, bI10, bR11, bR12, bR13, bP9, bP10, bL1, bS1, bL2, bS2, bL3, bS3, iI_0, iI_1, iI_neg, iL2, iL3, iL4, iL5, iL6, iL7, iL8, iL9, iL10, iL11, iL12, iL13, iL14, iL15, iL16, iL17, iL30, iL31, iL60, iL99, iL100, iL240, iL480, iL1000, iL1920, iL10000, iI_add, iI_sub, iI_mul, iI_div, iI_le, iI_lt, iI_eq, bd_s, ecv]
      by_cases q : cmT κ o (spS κ o s) ≤ t ∧ t < lv κ o (spS κ o s)
      · rw [if_neg (by omega), if_neg (by omega), show allP κ s t o = true by simp only [allP, Bool.and_eq_true, decide_eq_true_eq, stds_sp]; exact ⟨c1, c2, c3, q.1, q.2⟩]
        rfl
      · have hf : allP κ s t o = false := by
          cases hq : allP κ s t o with
          | false => rfl
          | true =>
            simp only [allP, Bool.and_eq_true, decide_eq_true_eq, stds_sp] at hq
            exact absurd hq.2.2.2 q
        rw [hf]
        by_cases q1 : t < cmT κ o (spS κ o s)
        · rw [if_pos q1]; simp
        · rw [if_neg q1, if_pos (by omega)]; simp
    · have hf : allP κ s t o = false := by
        cases hq : allP κ s t o with
        | false => rfl
        | true =>
          simp only [allP, Bool.and_eq_true, decide_eq_true_eq, stds_sp] at hq
          exact absurd ⟨hq.1, hq.2.1, hq.2.2.1⟩ c
      rw [hf]
      by_cases c1 : κ 19 o = 0
      · rw [if_pos c1]; simp
      · rw [if_neg c1]
        by_cases c2 : spS κ o s ≤ 0
        · rw [if_pos c2]; simp
        · rw [if_neg c2, if_pos (by
            by_cases c3 : lgs κ o ≤ spS κ o s
            · exact c3
            · exact absurd ⟨c1, by omega, by omega⟩ c)]
          simp
  · have hco := hcr A.n
    show fb_X2_standingAt_5 k (some (A.x + 22)) (iI s) (iI t) (iI (cntI (allP κ s t) A.n)) (iI (A.n : Int)) (CH h A κ) = _
    unfold fb_X2_standingAt_5
    simp (maxSteps := 1000000) (disch := omega) only [iL239, cV0, cR0_0, cR0_1, cR0_2, cR0_3, cR0_4, cR0_5, cV1, cR1_1, cR1_2, cR1_3, cR1_4, cR1_5, cR1_6, cR1_7, cI1_0, cI1_8, cP1_8, cI1_9, cP1_9, cV9, cR9_0, cR9_1, cV10, cV11, cV12, cR12_0, cR12_1, cR12_2, cR12_3, cR12_4, cR12_5, cR12_6, cV18, cR18_0, cR18_1, cR18_2, cR18_3, cR18_4, cI18_5, cP18_5, cI18_6, cP18_6, cV22, cR22_0, cR22_1, cI22_2, cP22_2, cI22_3, cP22_3, cI22_4, cP22_4, cV23, cR23_0, cR23_1, cR23_3, cR23_4, cR23_5, cR23_6, cR23_7, cR23_8, cR23_9, cR23_10, cI23_2, cP23_2, cR10_1, cI10_2, cR11_1, cI11_2, cL2, cS2, cL3, cS3, cL4, cS4, cL5, cS5, cL6, cS6, cL7, cS7, cL8, cS8, cL13, cS13, cL14, cS14, cL15, cS15, cL16, cS16, cL17, cS17, cL19, cS19, cL20, cS20, cL21, cS21, cL24, cS24, cL25, cS25, cL26, cS26, cL27, cS27, cL28, cS28, cL29, cS29, cL30, cS30, cL31, cS31, bV, bK, bI0, bI1, bI2, bI3, bI4, bI5, bI6, bI7, bI8, bI9, bI10, bR11, bR12, bR13, bP9, bP10, bL1, bS1, bL2, bS2, bL3, bS3, iI_0, iI_1, iI_neg, iL2, iL3, iL4, iL5, iL6, iL7, iL8, iL9, iL10, iL11, iL12, iL13, iL14, iL15, iL16, iL17, iL30, iL31, iL60, iL99, iL100, iL240, iL480, iL1000, iL1920, iL10000, iI_add, iI_sub, iI_mul, iI_div, iI_le, iI_lt, iI_eq, bd_s, k_size]
    rw [if_pos (by omega)]
    rfl
theorem k_firstCrowded (hk : KI h A κ ρ) {b : Nat} (hb : b < A.n) (hg : κ 19 b ≠ 0) (hm : MB κ b) : f_X2_firstCrowded (A.x + 22) (some (A.b b)) (CH h A κ) = some (iI (oI (whyT κ b 3)), CH h A κ) := by
  have hki := hk
  obtain ⟨⟨hw, hl, hn⟩, hc, -, -⟩ := hk
  have h16 := hl.1
  have hlg := lgs_rng hw.1 (b := b) (by omega)
  have hb9 : (b : Int) < κ 9 0 := by omega
  have hl1 := hw.lgs hb9
  unfold f_X2_firstCrowded f_X2_firstCrowded_2
  have hr : ∀ i : Nat, (i : Int) + 1 < lgs κ b → (0 ≤ lv κ b (i + 1) ∧ lv κ b (i + 1) ≤ 239) ∧ (0 ≤ cmT κ b (i + 1) ∧ cmT κ b (i + 1) ≤ 239) ∧ (0 ≤ stn κ b (i + 1) ∧ stn κ b (i + 1) < 8) ∧ cv κ b (i + 1) = cmT κ b (i + 1) := fun i hi => by
    refine ⟨lv_rng hw.1 (by omega) (by omega) (by omega), ⟨?_, MB.top hw hb9 hm (by omega) (by omega)⟩, stn_rng hw.1 (by omega) (by omega) (by omega), hc b _ hb9 hg (by omega) (by omega)⟩
    have h1 := lv_rng hw.1 (b := b) (i := (i : Int) + 1 - 1) (by omega) (by omega) (by omega)
    have h2 := lng_rng hw.1 (b := b) (i := (i : Int) + 1 - 1) (by omega) (by omega) (by omega)
    unfold cmT
    omega
  have h3 := hw.1.2.2.2.2.2.2.1
  refine (lp_ns (B := fun k2 u => fb_X2_firstCrowded_2 k2 u.1 u.2.1 u.2.2.1 u.2.2.2) (fun i => (some (A.x + 22), some (A.b b), iI ((i : Int) + 1), CH h A κ)) (lgs κ b - 1).toNat (fun i => cmT κ b ((i : Int) + 1)) (fun i => lv κ b ((i : Int) + 1)) (fun i t => decide (κ 3 (stn κ b ((i : Int) + 1)).toNat < cntI (allP κ (stn κ b ((i : Int) + 1)) t) A.n)) (fun t => some (iI t, CH h A κ)) (some (iI (-1), CH h A κ)) (fun i hi k => ?_) (fun k => ?_) (lgs κ b - 1).toNat 0 FU (by omega) (by rw [FU_eq]; omega)).trans ?_
  · obtain ⟨r1, r2, r3, r4⟩ := hr i (by omega)
    show fb_X2_firstCrowded_2 k (some (A.x + 22)) (some (A.b b)) (iI ((i : Int) + 1)) (CH h A κ) = _
    unfold fb_X2_firstCrowded_2 f_X2_firstCrowded_24
    simp (disch := omega) only [iL239, cV0, cR0_0, cR0_1, cR0_2, cR0_3, cR0_4, cR0_5, cV1, cR1_1, cR1_2, cR1_3, cR1_4, cR1_5, cR1_6, cR1_7, cI1_0, cI1_8, cP1_8, cI1_9, cP1_9, cV9, cR9_0, cR9_1, cV10, cV11, cV12, cR12_0, cR12_1, cR12_2, cR12_3, cR12_4, cR12_5, cR12_6, cV18, cR18_0, cR18_1, cR18_2, cR18_3, cR18_4, cI18_5, cP18_5, cI18_6, cP18_6, cV22, cR22_0, cR22_1, cI22_2, cP22_2, cI22_3, cP22_3, cI22_4, cP22_4, cV23, cR23_0, cR23_1, cR23_3, cR23_4, cR23_5, cR23_6, cR23_7, cR23_8, cR23_9, cR23_10, cI23_2, cP23_2, cR10_1, cI10_2, cR11_1, cI11_2, cL2, cS2, cL3, cS3, cL4, cS4, cL5, cS5, cL6, cS6, cL7, cS7, cL8, cS8, cL13, cS13, cL14, cS14, cL15, cS15, cL16, cS16, cL17, cS17, cL19, cS19, cL20, cS20, cL21, cS21, cL24, cS24, cL25, cS25, cL26, cS26, cL27, cS27, cL28, cS28, cL29, cS29, cL30, cS30, cL31, cS31, bV, bK, bI0, bI1, bI2, bI3, bI4, bI5, bI6, bI7, bI8, bI9, bI10, bR11, bR12, bR13, bP9, bP10, bL1, bS1, bL2, bS2, bL3, bS3, iI_0, iI_1, iI_neg, iL2, iL3, iL4, iL5, iL6, iL7, iL8, iL9, iL10, iL11, iL12, iL13, iL14, iL15, iL16, iL17, iL30, iL31, iL60, iL99, iL100, iL240, iL480, iL1000, iL1920, iL10000, iI_add, iI_sub, iI_mul, iI_div, iI_le, iI_lt, iI_eq, bd_s, k_steps hw.1, k_stationAt hw.1, r4]
    rw [if_neg (by omega)]
    have hin := lp_search (B := fun k24 u => fb_X2_firstCrowded_24 k k24 u.1 u.2.1 u.2.2.1 u.2.2.2.1 u.2.2.2.2.1 u.2.2.2.2.2) (fun j => (some (A.x + 22), some (A.b b), iI ((i : Int) + 1), iI (stn κ b ((i : Int) + 1)), iI (cmT κ b ((i : Int) + 1) + (j : Int)), CH h A κ)) (lv κ b ((i : Int) + 1) - cmT κ b ((i : Int) + 1)).toNat (fun j => decide (κ 3 (stn κ b ((i : Int) + 1)).toNat < cntI (allP κ (stn κ b ((i : Int) + 1)) (cmT κ b ((i : Int) + 1) + (j : Int))) A.n)) (fun j => some (iI (cmT κ b ((i : Int) + 1) + (j : Int)), CH h A κ)) (k (some (A.x + 22), some (A.b b), iI (((i + 1 : Nat) : Int) + 1), CH h A κ))
      (fun j hj k24 => by
        have hcr := cntI_rng (allP κ (stn κ b ((i : Int) + 1)) (cmT κ b ((i : Int) + 1) + (j : Int))) A.n
        have h3s := h3 (stn κ b ((i : Int) + 1)).toNat (by omega)
        show fb_X2_firstCrowded_24 k k24 (some (A.x + 22)) (some (A.b b)) (iI ((i : Int) + 1)) (iI (stn κ b ((i : Int) + 1))) (iI (cmT κ b ((i : Int) + 1) + (j : Int))) (CH h A κ) = _
        unfold fb_X2_firstCrowded_24
        simp (disch := omega) only [iL239, cV0, cR0_0, cR0_1, cR0_2, cR0_3, cR0_4, cR0_5, cV1, cR1_1, cR1_2, cR1_3, cR1_4, cR1_5, cR1_6, cR1_7, cI1_0, cI1_8, cP1_8, cI1_9, cP1_9, cV9, cR9_0, cR9_1, cV10, cV11, cV12, cR12_0, cR12_1, cR12_2, cR12_3, cR12_4, cR12_5, cR12_6, cV18, cR18_0, cR18_1, cR18_2, cR18_3, cR18_4, cI18_5, cP18_5, cI18_6, cP18_6, cV22, cR22_0, cR22_1, cI22_2, cP22_2, cI22_3, cP22_3, cI22_4, cP22_4, cV23, cR23_0, cR23_1, cR23_3, cR23_4, cR23_5, cR23_6, cR23_7, cR23_8, cR23_9, cR23_10, cI23_2, cP23_2, cR10_1, cI10_2, cR11_1, cI11_2, cL2, cS2, cL3, cS3, cL4, cS4, cL5, cS5, cL6, cS6, cL7, cS7, cL8, cS8, cL13, cS13, cL14, cS14, cL15, cS15, cL16, cS16, cL17, cS17, cL19, cS19, cL20, cS20, cL21, cS21, cL24, cS24, cL25, cS25, cL26, cS26, cL27, cS27, cL28, cS28, cL29, cS29, cL30, cS30, cL31, cS31, bV, bK, bI0, bI1, bI2, bI3, bI4, bI5, bI6, bI7, bI8, bI9, bI10, bR11, bR12, bR13, bP9, bP10, bL1, bS1, bL2, bS2, bL3, bS3, iI_0, iI_1, iI_neg, iL2, iL3, iL4, iL5, iL6, iL7, iL8, iL9, iL10, iL11, iL12, iL13, iL14, iL15, iL16, iL17, iL30, iL31, iL60, iL99, iL100, iL240, iL480, iL1000, iL1920, iL10000, iI_add, iI_sub, iI_mul, iI_div, iI_le, iI_lt, iI_eq, bd_s, k_standingAt hki, Int.natCast_succ, decide_eq_true_eq]
        rw [if_neg (by omega)]
        by_cases q : κ 3 (stn κ b ((i : Int) + 1)).toNat < cntI (allP κ (stn κ b ((i : Int) + 1)) (cmT κ b ((i : Int) + 1) + (j : Int))) A.n
        · rw [if_neg (by omega), if_pos q]; rfl
        · rw [if_pos (by omega), if_neg q, Int.add_assoc])
      (fun k24 => by
        show fb_X2_firstCrowded_24 k k24 (some (A.x + 22)) (some (A.b b)) (iI ((i : Int) + 1)) (iI (stn κ b ((i : Int) + 1))) (iI (cmT κ b ((i : Int) + 1) + ((lv κ b ((i : Int) + 1) - cmT κ b ((i : Int) + 1)).toNat : Int))) (CH h A κ) = _
        have hmm := hm.1 ((i : Int) + 1) (by omega) (by omega)
        unfold fb_X2_firstCrowded_24
        simp (disch := omega) only [iL239, cV0, cR0_0, cR0_1, cR0_2, cR0_3, cR0_4, cR0_5, cV1, cR1_1, cR1_2, cR1_3, cR1_4, cR1_5, cR1_6, cR1_7, cI1_0, cI1_8, cP1_8, cI1_9, cP1_9, cV9, cR9_0, cR9_1, cV10, cV11, cV12, cR12_0, cR12_1, cR12_2, cR12_3, cR12_4, cR12_5, cR12_6, cV18, cR18_0, cR18_1, cR18_2, cR18_3, cR18_4, cI18_5, cP18_5, cI18_6, cP18_6, cV22, cR22_0, cR22_1, cI22_2, cP22_2, cI22_3, cP22_3, cI22_4, cP22_4, cV23, cR23_0, cR23_1, cR23_3, cR23_4, cR23_5, cR23_6, cR23_7, cR23_8, cR23_9, cR23_10, cI23_2, cP23_2, cR10_1, cI10_2, cR11_1, cI11_2, cL2, cS2, cL3, cS3, cL4, cS4, cL5, cS5, cL6, cS6, cL7, cS7, cL8, cS8, cL13, cS13, cL14, cS14, cL15, cS15, cL16, cS16, cL17, cS17, cL19, cS19, cL20, cS20, cL21, cS21, cL24, cS24, cL25, cS25, cL26, cS26, cL27, cS27, cL28, cS28, cL29, cS29, cL30, cS30, cL31, cS31, bV, bK, bI0, bI1, bI2, bI3, bI4, bI5, bI6, bI7, bI8, bI9, bI10, bR11, bR12, bR13, bP9, bP10, bL1, bS1, bL2, bS2, bL3, bS3, iI_0, iI_1, iI_neg, iL2, iL3, iL4, iL5, iL6, iL7, iL8, iL9, iL10, iL11, iL12, iL13, iL14, iL15, iL16, iL17, iL30, iL31, iL60, iL99, iL100, iL240, iL480, iL1000, iL1920, iL10000, iI_add, iI_sub, iI_mul, iI_div, iI_le, iI_lt, iI_eq, bd_s, Int.natCast_succ]
        rw [if_pos (by omega)]) (lv κ b ((i : Int) + 1) - cmT κ b ((i : Int) + 1)).toNat 0 FU (by omega) (by rw [FU_eq]; omega)
    rw [show cmT κ b ((i : Int) + 1) + ((0 : Nat) : Int) = cmT κ b ((i : Int) + 1) by omega] at hin
    rw [hin]
    generalize srch _ 0 (lv κ b ((i : Int) + 1) - cmT κ b ((i : Int) + 1)).toNat = os
    cases os <;> rfl
  · show fb_X2_firstCrowded_2 k (some (A.x + 22)) (some (A.b b)) (iI (((lgs κ b - 1).toNat : Int) + 1)) (CH h A κ) = _
    unfold fb_X2_firstCrowded_2
    simp (disch := omega) only [iL239, cV0, cR0_0, cR0_1, cR0_2, cR0_3, cR0_4, cR0_5, cV1, cR1_1, cR1_2, cR1_3, cR1_4, cR1_5, cR1_6, cR1_7, cI1_0, cI1_8, cP1_8, cI1_9, cP1_9, cV9, cR9_0, cR9_1, cV10, cV11, cV12, cR12_0, cR12_1, cR12_2, cR12_3, cR12_4, cR12_5, cR12_6, cV18, cR18_0, cR18_1, cR18_2, cR18_3, cR18_4, cI18_5, cP18_5, cI18_6, cP18_6, cV22, cR22_0, cR22_1, cI22_2, cP22_2, cI22_3, cP22_3, cI22_4, cP22_4, cV23, cR23_0, cR23_1, cR23_3, cR23_4, cR23_5, cR23_6, cR23_7, cR23_8, cR23_9, cR23_10, cI23_2, cP23_2, cR10_1, cI10_2, cR11_1, cI11_2, cL2, cS2, cL3, cS3, cL4, cS4, cL5, cS5, cL6, cS6, cL7, cS7, cL8, cS8, cL13, cS13, cL14, cS14, cL15, cS15, cL16, cS16, cL17, cS17, cL19, cS19, cL20, cS20, cL21, cS21, cL24, cS24, cL25, cS25, cL26, cS26, cL27, cS27, cL28, cS28, cL29, cS29, cL30, cS30, cL31, cS31, bV, bK, bI0, bI1, bI2, bI3, bI4, bI5, bI6, bI7, bI8, bI9, bI10, bR11, bR12, bR13, bP9, bP10, bL1, bS1, bL2, bS2, bL3, bS3, iI_0, iI_1, iI_neg, iL2, iL3, iL4, iL5, iL6, iL7, iL8, iL9, iL10, iL11, iL12, iL13, iL14, iL15, iL16, iL17, iL30, iL31, iL60, iL99, iL100, iL240, iL480, iL1000, iL1920, iL10000, iI_add, iI_sub, iI_mul, iI_div, iI_le, iI_lt, iI_eq, bd_s, k_steps hw.1]
    rw [if_pos (by omega)]
    rfl
  · have := ns_srch (lo := fun i => cmT κ b ((i : Int) + 1)) (hi := fun i => lv κ b ((i : Int) + 1)) (P := fun i t => decide (κ 3 (stn κ b ((i : Int) + 1)).toNat < cntI (allP κ (stn κ b ((i : Int) + 1)) t) A.n)) (N := (lgs κ b - 1).toNat) (fun t => brk κ b 3 t)
      (fun j j' q1 q2 => by
        have h1 := MB.ord hw hb9 hm (j' - j - 1) (j + 1) (by omega) (by omega)
        rw [show (j : Int) + 1 + 1 + ((j' - j - 1 : Nat) : Int) = j' + 1 by omega] at h1
        have h2 := lng_rng hw.1 (b := b) (i := j + 1) (by omega) (by omega) (by omega)
        have h4 := lng_rng hw.1 (b := b) (i := (j' : Int) + 1 - 1) (by omega) (by omega) (by omega)
        by_cases e : j' = j + 1
        · subst e
          show lv κ b ((j : Int) + 1) ≤ cmT κ b (((j + 1 : Nat) : Int) + 1)
          unfold cmT
          rw [show (((j + 1 : Nat) : Int) + 1 - 1) = (j : Int) + 1 by omega]
          have := lng_rng hw.1 (b := b) (i := (j : Int) + 1) (by omega) (by omega) (by omega)
          omega
        · have h5 := MB.ord hw hb9 hm (j' - j - 2) (j + 1) (by omega) (by omega)
          rw [show (j : Int) + 1 + 1 + ((j' - j - 2 : Nat) : Int) = j' by omega] at h5
          show lv κ b ((j : Int) + 1) ≤ cmT κ b ((j' : Int) + 1)
          unfold cmT at h5 ⊢
          rw [show ((j : Int) + 1 + 1 - 1) = (j : Int) + 1 by omega] at h5
          rw [show ((j' : Int) + 1 - 1) = j' by omega]
          rw [show ((j' : Int) + 1 - 1) = j' by omega] at h4
          omega)
      (fun j hj => by
        have := hr j (by omega)
        omega)
      (fun t ht => by
        unfold brk
        rw [if_pos rfl, exB_iff]
        have key : ∀ j : Nat, (j : Int) + 1 < lgs κ b → (stds κ b (stn κ b ((j : Int) + 1)) t = true ↔ cmT κ b ((j : Int) + 1) ≤ t ∧ t < lv κ b ((j : Int) + 1)) := fun j hj => by
          rw [stds_sp, spS_stn (by omega) (by omega)]
          exact ⟨fun z => z.2.2, fun z => ⟨by omega, hj, z⟩⟩
        have key2 : ∀ j : Nat, stds κ b (stn κ b ((j : Int) + 1)) t = true → (canS κ b (stn κ b ((j : Int) + 1)) t = false ↔ κ 3 (stn κ b ((j : Int) + 1)).toNat < cntI (allP κ (stn κ b ((j : Int) + 1)) t) A.n) := fun j hst => by
          have ec := cntI_all (P := allP κ (stn κ b ((j : Int) + 1)) t) (Q := othP κ b (stn κ b ((j : Int) + 1)) t) (b := b) (by simp [allP, hg, hst]) (by simp [othP]) (fun o ho => by simp [allP, othP, ho]) A.n
          rw [if_pos hb] at ec
          unfold canS
          rw [hn, Int.toNat_natCast, ec]
          simp only [decide_eq_false_iff_not]
          omega
        simp only [Bool.and_eq_true, Bool.not_eq_true', decide_eq_true_eq]
        constructor
        · rintro ⟨j, j1, j2, j3⟩
          have k1 := (key j (by omega)).1 j2
          exact ⟨j, j1, k1.1, k1.2, (key2 j j2).1 j3⟩
        · rintro ⟨j, j1, j2, j3, j4⟩
          have k1 := (key j (by omega)).2 ⟨j2, j3⟩
          exact ⟨j, j1, k1, (key2 j k1).2 j4⟩)
    unfold whyT
    have e : (fun t : Nat => brk κ b ((3 : Nat) : Int) t) = fun t : Nat => brk κ b 3 t := rfl
    rw [e, ← this]
    generalize ns _ _ _ 0 (lgs κ b - 1).toNat = os
    cases os <;> rfl
theorem k_firstMinute (hk : KI h A κ ρ) {b : Nat} (hb : b < A.n) (hg : κ 19 b ≠ 0) (hm : MB κ b) {r : Nat} (hr : 1 ≤ r ∧ r ≤ 3) : f_X2_firstMinute (A.x + 22) (some (A.b b)) (iI r) (CH h A κ) = some (iI (oI (whyT κ b r)), CH h A κ) := by
  unfold f_X2_firstMinute f_X2_firstMinute_29
  simp (disch := omega) only [iL239, cV0, cR0_0, cR0_1, cR0_2, cR0_3, cR0_4, cR0_5, cV1, cR1_1, cR1_2, cR1_3, cR1_4, cR1_5, cR1_6, cR1_7, cI1_0, cI1_8, cP1_8, cI1_9, cP1_9, cV9, cR9_0, cR9_1, cV10, cV11, cV12, cR12_0, cR12_1, cR12_2, cR12_3, cR12_4, cR12_5, cR12_6, cV18, cR18_0, cR18_1, cR18_2, cR18_3, cR18_4, cI18_5, cP18_5, cI18_6, cP18_6, cV22, cR22_0, cR22_1, cI22_2, cP22_2, cI22_3, cP22_3, cI22_4, cP22_4, cV23, cR23_0, cR23_1, cR23_3, cR23_4, cR23_5, cR23_6, cR23_7, cR23_8, cR23_9, cR23_10, cI23_2, cP23_2, cR10_1, cI10_2, cR11_1, cI11_2, cL2, cS2, cL3, cS3, cL4, cS4, cL5, cS5, cL6, cS6, cL7, cS7, cL8, cS8, cL13, cS13, cL14, cS14, cL15, cS15, cL16, cS16, cL17, cS17, cL19, cS19, cL20, cS20, cL21, cS21, cL24, cS24, cL25, cS25, cL26, cS26, cL27, cS27, cL28, cS28, cL29, cS29, cL30, cS30, cL31, cS31, bV, bK, bI0, bI1, bI2, bI3, bI4, bI5, bI6, bI7, bI8, bI9, bI10, bR11, bR12, bR13, bP9, bP10, bL1, bS1, bL2, bS2, bL3, bS3, iI_0, iI_1, iI_neg, iL2, iL3, iL4, iL5, iL6, iL7, iL8, iL9, iL10, iL11, iL12, iL13, iL14, iL15, iL16, iL17, iL30, iL31, iL60, iL99, iL100, iL240, iL480, iL1000, iL1920, iL10000, iI_add, iI_sub, iI_mul, iI_div, iI_le, iI_lt, iI_eq, bd_s, k_firstClosed hk hb hg hm, k_firstHeld hk hb hg hm, k_firstCrowded hk hb hg hm]
  have : r = 1 ∨ r = 2 ∨ r = 3 := by omega
  rcases this with rfl | rfl | rfl <;> rfl
theorem k_seekFirst (hk : KI h A κ ρ) (hm : ∀ b, b < A.n → κ 19 b ≠ 0 → MB κ b) : f_X2_seekFirst (A.x + 22) (CH h A κ) = (match whyS κ with
    | some q => some (iI 1, CH h A (sg (sg (sg κ 52 0 q.1) 53 0 q.2.1) 54 0 q.2.2))
    | none => some (iI 0, CH h A κ)) := by
  have hki := hk
  obtain ⟨⟨hw, hl, hn⟩, hc, -, -⟩ := hk
  have h16 := hl.1
  have hT : ∀ b r t, whyT κ b r = some t → t < 240 := fun b r t hq => by
    obtain ⟨-, h2, -⟩ := srch_some.1 hq
    omega
  unfold f_X2_seekFirst f_X2_seekFirst_2
  rw [iI_0]
  refine (lp_search (B := fun k2 u => fb_X2_seekFirst_2 k2 u.1 u.2.1 u.2.2) (fun b => (some (A.x + 22), iI (b : Int), CH h A κ)) A.n (fun b => (whyR κ b).isSome) (fun b => match whyR κ b with | some q => some (iI 1, CH h A (sg (sg (sg κ 52 0 b) 53 0 q.1) 54 0 q.2)) | none => none) (some (iI 0, CH h A κ)) (fun b hb k => ?_) (fun k => ?_) A.n 0 FU (by omega) (by rw [FU_eq]; omega)).trans ?_
  · have h19 := (hw.1.bid (b := b) (by omega)).2.2.2.2.2.2.2.2.2
    show fb_X2_seekFirst_2 k (some (A.x + 22)) (iI (b : Int)) (CH h A κ) = _
    unfold fb_X2_seekFirst_2 f_X2_seekFirst_30
    simp (disch := omega) only [iL239, cV0, cR0_0, cR0_1, cR0_2, cR0_3, cR0_4, cR0_5, cV1, cR1_1, cR1_2, cR1_3, cR1_4, cR1_5, cR1_6, cR1_7, cI1_0, cI1_8, cP1_8, cI1_9, cP1_9, cV9, cR9_0, cR9_1, cV10, cV11, cV12, cR12_0, cR12_1, cR12_2, cR12_3, cR12_4, cR12_5, cR12_6, cV18, cR18_0, cR18_1, cR18_2, cR18_3, cR18_4, cI18_5, cP18_5, cI18_6, cP18_6, cV22, cR22_0, cR22_1, cI22_2, cP22_2, cI22_3, cP22_3, cI22_4, cP22_4, cV23, cR23_0, cR23_1, cR23_3, cR23_4, cR23_5, cR23_6, cR23_7, cR23_8, cR23_9, cR23_10, cI23_2, cP23_2, cR10_1, cI10_2, cR11_1, cI11_2, cL2, cS2, cL3, cS3, cL4, cS4, cL5, cS5, cL6, cS6, cL7, cS7, cL8, cS8, cL13, cS13, cL14, cS14, cL15, cS15, cL16, cS16, cL17, cS17, cL19, cS19, cL20, cS20, cL21, cS21, cL24, cS24, cL25, cS25, cL26, cS26, cL27, cS27, cL28, cS28, cL29, cS29, cL30, cS30, cL31, cS31, bV, bK, bI0, bI1, bI2, bI3, bI4, bI5, bI6, bI7, bI8, bI9, bI10, bR11, bR12, bR13, bP9, bP10, bL1, bS1, bL2, bS2, bL3, bS3, iI_0, iI_1, iI_neg, iL2, iL3, iL4, iL5, iL6, iL7, iL8, iL9, iL10, iL11, iL12, iL13, iL14, iL15, iL16, iL17, iL30, iL31, iL60, iL99, iL100, iL240, iL480, iL1000, iL1920, iL10000, iI_add, iI_sub, iI_mul, iI_div, iI_le, iI_lt, iI_eq, bd_s, k_size, k_get hl]
    rw [if_neg (by omega)]
    by_cases hg : κ 19 b = 0
    · have eR : whyR κ b = none := by unfold whyR; rw [if_pos hg]
      rw [eR, FU_eq, show (5000 : Nat) = 4999 + 1 from rfl, lp_succ]
      generalize lp _ 4999 = k2
      show fb_X2_seekFirst_30 k k2 (some (A.x + 22)) (iI (b : Int)) (some (A.b b)) (iI 1) (CH h A κ) = _
      unfold fb_X2_seekFirst_30 f_X2_seekFirst_80
      simp (disch := omega) only [iL239, cV0, cR0_0, cR0_1, cR0_2, cR0_3, cR0_4, cR0_5, cV1, cR1_1, cR1_2, cR1_3, cR1_4, cR1_5, cR1_6, cR1_7, cI1_0, cI1_8, cP1_8, cI1_9, cP1_9, cV9, cR9_0, cR9_1, cV10, cV11, cV12, cR12_0, cR12_1, cR12_2, cR12_3, cR12_4, cR12_5, cR12_6, cV18, cR18_0, cR18_1, cR18_2, cR18_3, cR18_4, cI18_5, cP18_5, cI18_6, cP18_6, cV22, cR22_0, cR22_1, cI22_2, cP22_2, cI22_3, cP22_3, cI22_4, cP22_4, cV23, cR23_0, cR23_1, cR23_3, cR23_4, cR23_5, cR23_6, cR23_7, cR23_8, cR23_9, cR23_10, cI23_2, cP23_2, cR10_1, cI10_2, cR11_1, cI11_2, cL2, cS2, cL3, cS3, cL4, cS4, cL5, cS5, cL6, cS6, cL7, cS7, cL8, cS8, cL13, cS13, cL14, cS14, cL15, cS15, cL16, cS16, cL17, cS17, cL19, cS19, cL20, cS20, cL21, cS21, cL24, cS24, cL25, cS25, cL26, cS26, cL27, cS27, cL28, cS28, cL29, cS29, cL30, cS30, cL31, cS31, bV, bK, bI0, bI1, bI2, bI3, bI4, bI5, bI6, bI7, bI8, bI9, bI10, bR11, bR12, bR13, bP9, bP10, bL1, bS1, bL2, bS2, bL3, bS3, iI_0, iI_1, iI_neg, iL2, iL3, iL4, iL5, iL6, iL7, iL8, iL9, iL10, iL11, iL12, iL13, iL14, iL15, iL16, iL17, iL30, iL31, iL60, iL99, iL100, iL240, iL480, iL1000, iL1920, iL10000, iI_add, iI_sub, iI_mul, iI_div, iI_le, iI_lt, iI_eq, bd_s]
      rw [if_neg (by omega), if_pos hg]
      rfl
    · have hin := lp_search (B := fun k30 u => fb_X2_seekFirst_30 k k30 u.1 u.2.1 u.2.2.1 u.2.2.2.1 u.2.2.2.2) (fun j => (some (A.x + 22), iI (b : Int), some (A.b b), iI ((j : Int) + 1), CH h A κ)) 3 (fun j => (whyT κ b (j + 1)).isSome) (fun j => match whyT κ b (j + 1) with | some t => some (iI 1, CH h A (sg (sg (sg κ 52 0 b) 53 0 ((j + 1 : Nat) : Int)) 54 0 t)) | none => none) (k (some (A.x + 22), iI ((b + 1 : Nat) : Int), CH h A κ))
        (fun j hj k30 => by
          show fb_X2_seekFirst_30 k k30 (some (A.x + 22)) (iI (b : Int)) (some (A.b b)) (iI ((j : Int) + 1)) (CH h A κ) = _
          have hfm := k_firstMinute hki hb hg (hm b hb hg) (r := j + 1) (by omega)
          rw [Int.natCast_succ] at hfm
          unfold fb_X2_seekFirst_30
          simp (disch := omega) only [iL239, cV0, cR0_0, cR0_1, cR0_2, cR0_3, cR0_4, cR0_5, cV1, cR1_1, cR1_2, cR1_3, cR1_4, cR1_5, cR1_6, cR1_7, cI1_0, cI1_8, cP1_8, cI1_9, cP1_9, cV9, cR9_0, cR9_1, cV10, cV11, cV12, cR12_0, cR12_1, cR12_2, cR12_3, cR12_4, cR12_5, cR12_6, cV18, cR18_0, cR18_1, cR18_2, cR18_3, cR18_4, cI18_5, cP18_5, cI18_6, cP18_6, cV22, cR22_0, cR22_1, cI22_2, cP22_2, cI22_3, cP22_3, cI22_4, cP22_4, cV23, cR23_0, cR23_1, cR23_3, cR23_4, cR23_5, cR23_6, cR23_7, cR23_8, cR23_9, cR23_10, cI23_2, cP23_2, cR10_1, cI10_2, cR11_1, cI11_2, cL2, cS2, cL3, cS3, cL4, cS4, cL5, cS5, cL6, cS6, cL7, cS7, cL8, cS8, cL13, cS13, cL14, cS14, cL15, cS15, cL16, cS16, cL17, cS17, cL19, cS19, cL20, cS20, cL21, cS21, cL24, cS24, cL25, cS25, cL26, cS26, cL27, cS27, cL28, cS28, cL29, cS29, cL30, cS30, cL31, cS31, bV, bK, bI0, bI1, bI2, bI3, bI4, bI5, bI6, bI7, bI8, bI9, bI10, bR11, bR12, bR13, bP9, bP10, bL1, bS1, bL2, bS2, bL3, bS3, iI_0, iI_1, iI_neg, iL2, iL3, iL4, iL5, iL6, iL7, iL8, iL9, iL10, iL11, iL12, iL13, iL14, iL15, iL16, iL17, iL30, iL31, iL60, iL99, iL100, iL240, iL480, iL1000, iL1920, iL10000, iI_add, iI_sub, iI_mul, iI_div, iI_le, iI_lt, iI_eq, bd_s, hfm]
          rw [if_neg (by omega), if_neg hg]
          cases hq : whyT κ b (j + 1) with
          | none =>
            rw [if_pos (by rfl)]
            rfl
          | some t =>
            have ht := hT b (j + 1) t hq
            rw [if_neg (by show ¬ (iI (t : Int) = iI (-1)); rw [iI_eq (by omega) (by omega) (by omega) (by omega)]; omega), rt1]
            rfl)
        (fun k30 => by
          show fb_X2_seekFirst_30 k k30 (some (A.x + 22)) (iI (b : Int)) (some (A.b b)) (iI (((3 : Nat) : Int) + 1)) (CH h A κ) = _
          unfold fb_X2_seekFirst_30 f_X2_seekFirst_80
          simp (disch := omega) only [iL239, cV0, cR0_0, cR0_1, cR0_2, cR0_3, cR0_4, cR0_5, cV1, cR1_1, cR1_2, cR1_3, cR1_4, cR1_5, cR1_6, cR1_7, cI1_0, cI1_8, cP1_8, cI1_9, cP1_9, cV9, cR9_0, cR9_1, cV10, cV11, cV12, cR12_0, cR12_1, cR12_2, cR12_3, cR12_4, cR12_5, cR12_6, cV18, cR18_0, cR18_1, cR18_2, cR18_3, cR18_4, cI18_5, cP18_5, cI18_6, cP18_6, cV22, cR22_0, cR22_1, cI22_2, cP22_2, cI22_3, cP22_3, cI22_4, cP22_4, cV23, cR23_0, cR23_1, cR23_3, cR23_4, cR23_5, cR23_6, cR23_7, cR23_8, cR23_9, cR23_10, cI23_2, cP23_2, cR10_1, cI10_2, cR11_1, cI11_2, cL2, cS2, cL3, cS3, cL4, cS4, cL5, cS5, cL6, cS6, cL7, cS7, cL8, cS8, cL13, cS13, cL14, cS14, cL15, cS15, cL16, cS16, cL17, cS17, cL19, cS19, cL20, cS20, cL21, cS21, cL24, cS24, cL25, cS25, cL26, cS26, cL27, cS27, cL28, cS28, cL29, cS29, cL30, cS30, cL31, cS31, bV, bK, bI0, bI1, bI2, bI3, bI4, bI5, bI6, bI7, bI8, bI9, bI10, bR11, bR12, bR13, bP9, bP10, bL1, bS1, bL2, bS2, bL3, bS3, iI_0, iI_1, iI_neg, iL2, iL3, iL4, iL5, iL6, iL7, iL8, iL9, iL10, iL11, iL12, iL13, iL14, iL15, iL16, iL17, iL30, iL31, iL60, iL99, iL100, iL240, iL480, iL1000, iL1920, iL10000, iI_add, iI_sub, iI_mul, iI_div, iI_le, iI_lt, iI_eq, bd_s, Int.natCast_succ]
          rw [if_pos (by omega)]) 3 0 FU (by omega) (by rw [FU_eq]; omega)
      have e1 : iI (((0 : Nat) : Int) + 1) = iI 1 := rfl
      rw [e1] at hin
      rw [hin]
      unfold whyR
      rw [if_neg hg]
      cases hs : srch (fun j => (whyT κ b (j + 1)).isSome) 0 3 with
      | none => rfl
      | some j =>
        obtain ⟨-, -, h3, -⟩ := srch_some.1 hs
        cases hq : whyT κ b (j + 1) with
        | none => rw [hq] at h3; cases h3
        | some t =>
          simp [hq]
  · show fb_X2_seekFirst_2 k (some (A.x + 22)) (iI (A.n : Int)) (CH h A κ) = _
    unfold fb_X2_seekFirst_2
    simp (disch := omega) only [iL239, cV0, cR0_0, cR0_1, cR0_2, cR0_3, cR0_4, cR0_5, cV1, cR1_1, cR1_2, cR1_3, cR1_4, cR1_5, cR1_6, cR1_7, cI1_0, cI1_8, cP1_8, cI1_9, cP1_9, cV9, cR9_0, cR9_1, cV10, cV11, cV12, cR12_0, cR12_1, cR12_2, cR12_3, cR12_4, cR12_5, cR12_6, cV18, cR18_0, cR18_1, cR18_2, cR18_3, cR18_4, cI18_5, cP18_5, cI18_6, cP18_6, cV22, cR22_0, cR22_1, cI22_2, cP22_2, cI22_3, cP22_3, cI22_4, cP22_4, cV23, cR23_0, cR23_1, cR23_3, cR23_4, cR23_5, cR23_6, cR23_7, cR23_8, cR23_9, cR23_10, cI23_2, cP23_2, cR10_1, cI10_2, cR11_1, cI11_2, cL2, cS2, cL3, cS3, cL4, cS4, cL5, cS5, cL6, cS6, cL7, cS7, cL8, cS8, cL13, cS13, cL14, cS14, cL15, cS15, cL16, cS16, cL17, cS17, cL19, cS19, cL20, cS20, cL21, cS21, cL24, cS24, cL25, cS25, cL26, cS26, cL27, cS27, cL28, cS28, cL29, cS29, cL30, cS30, cL31, cS31, bV, bK, bI0, bI1, bI2, bI3, bI4, bI5, bI6, bI7, bI8, bI9, bI10, bR11, bR12, bR13, bP9, bP10, bL1, bS1, bL2, bS2, bL3, bS3, iI_0, iI_1, iI_neg, iL2, iL3, iL4, iL5, iL6, iL7, iL8, iL9, iL10, iL11, iL12, iL13, iL14, iL15, iL16, iL17, iL30, iL31, iL60, iL99, iL100, iL240, iL480, iL1000, iL1920, iL10000, iI_add, iI_sub, iI_mul, iI_div, iI_le, iI_lt, iI_eq, bd_s, k_size, rt0]
    rw [if_pos (by omega)]
  · unfold whyS
    rw [hn, Int.toNat_natCast]
    cases hs : srch (fun b => (whyR κ b).isSome) 0 A.n with
    | none => rfl
    | some b =>
      obtain ⟨-, -, h3, -⟩ := srch_some.1 hs
      cases hq : whyR κ b with
      | none => rw [hq] at h3; cases h3
      | some q => simp [hq]
theorem o_why (hr : RLx h A κ σ) (w : Int) (hww : I32 w) : OP h A κ σ h' m (f_X7_why A.x (iI w)) (f_X8_why m (iI w)) := by
  have hS := s_why (h := h') (m := m) hr.2.2.1.1 w hww
  unfold I32 at hww
  have hsk := k_seekFirst hr.1 (fun b hb hg => hr.mb hb hg)
  rw [hr.2.1.whyS] at hsk
  unfold OP
  rw [hS]
  unfold f_X7_why f_X7_why_19 f_X7_why_55
  simp (disch := omega) only [iL239, cV0, cR0_0, cR0_1, cR0_2, cR0_3, cR0_4, cR0_5, cV1, cR1_1, cR1_2, cR1_3, cR1_4, cR1_5, cR1_6, cR1_7, cI1_0, cI1_8, cP1_8, cI1_9, cP1_9, cV9, cR9_0, cR9_1, cV10, cV11, cV12, cR12_0, cR12_1, cR12_2, cR12_3, cR12_4, cR12_5, cR12_6, cV18, cR18_0, cR18_1, cR18_2, cR18_3, cR18_4, cI18_5, cP18_5, cI18_6, cP18_6, cV22, cR22_0, cR22_1, cI22_2, cP22_2, cI22_3, cP22_3, cI22_4, cP22_4, cV23, cR23_0, cR23_1, cR23_3, cR23_4, cR23_5, cR23_6, cR23_7, cR23_8, cR23_9, cR23_10, cI23_2, cP23_2, cR10_1, cI10_2, cR11_1, cI11_2, cL2, cS2, cL3, cS3, cL4, cS4, cL5, cS5, cL6, cS6, cL7, cS7, cL8, cS8, cL13, cS13, cL14, cS14, cL15, cS15, cL16, cS16, cL17, cS17, cL19, cS19, cL20, cS20, cL21, cS21, cL24, cS24, cL25, cS25, cL26, cS26, cL27, cS27, cL28, cS28, cL29, cS29, cL30, cS30, cL31, cS31, bV, bK, bI0, bI1, bI2, bI3, bI4, bI5, bI6, bI7, bI8, bI9, bI10, bR11, bR12, bR13, bP9, bP10, bL1, bS1, bL2, bS2, bL3, bS3, iI_0, iI_1, iI_neg, iL2, iL3, iL4, iL5, iL6, iL7, iL8, iL9, iL10, iL11, iL12, iL13, iL14, iL15, iL16, iL17, iL30, iL31, iL60, iL99, iL100, iL240, iL480, iL1000, iL1920, iL10000, iI_add, iI_sub, iI_mul, iI_div, iI_le, iI_lt, iI_eq, bd_s, k_isWithin, iI_b2, hsk]
  by_cases c : 0 ≤ w ∧ w ≤ 2
  · rw [if_pos c, if_neg (fun z => z c)]
    cases hq : whyS σ with
    | none =>
      refine ⟨_, κ, σ, hr, ?_, rfl⟩
      simp only [bd_s, if_true]
      rfl
    | some q =>
      have x1 : Ex [52, 53, 54] κ (sg (sg (sg κ 52 0 q.1) 53 0 q.2.1) 54 0 q.2.2) := (((Ex.refl _ _).sg (by decide) _ _).sg (by decide) _ _).sg (by decide) _ _
      have hk2 := hr.1.ex x1 (by decide)
      have hr2 := hr.scr x1 (by decide) hk2 (σ' := σ) rfl
      refine ⟨_, _, σ, hr2, ?_, rfl⟩
      simp only [bd_s]
      rw [if_neg (show ¬ (iI 1 = iI 0) by decide)]
      simp (disch := omega) only [iL239, cV0, cR0_0, cR0_1, cR0_2, cR0_3, cR0_4, cR0_5, cV1, cR1_1, cR1_2, cR1_3, cR1_4, cR1_5, cR1_6, cR1_7, cI1_0, cI1_8, cP1_8, cI1_9, cP1_9, cV9, cR9_0, cR9_1, cV10, cV11, cV12, cR12_0, cR12_1, cR12_2, cR12_3, cR12_4, cR12_5, cR12_6, cV18, cR18_0, cR18_1, cR18_2, cR18_3, cR18_4, cI18_5, cP18_5, cI18_6, cP18_6, cV22, cR22_0, cR22_1, cI22_2, cP22_2, cI22_3, cP22_3, cI22_4, cP22_4, cV23, cR23_0, cR23_1, cR23_3, cR23_4, cR23_5, cR23_6, cR23_7, cR23_8, cR23_9, cR23_10, cI23_2, cP23_2, cR10_1, cI10_2, cR11_1, cI11_2, cL2, cS2, cL3, cS3, cL4, cS4, cL5, cS5, cL6, cS6, cL7, cS7, cL8, cS8, cL13, cS13, cL14, cS14, cL15, cS15, cL16, cS16, cL17, cS17, cL19, cS19, cL20, cS20, cL21, cS21, cL24, cS24, cL25, cS25, cL26, cS26, cL27, cS27, cL28, cS28, cL29, cS29, cL30, cS30, cL31, cS31, bV, bK, bI0, bI1, bI2, bI3, bI4, bI5, bI6, bI7, bI8, bI9, bI10, bR11, bR12, bR13, bP9, bP10, bL1, bS1, bL2, bS2, bL3, bS3, rtI]
      unfold pick
      by_cases c0 : w = 0
      · rw [if_pos c0, if_pos c0]; rfl
      · rw [if_neg c0, if_neg c0]
        by_cases c1 : w = 1
        · rw [if_pos c1, if_pos c1]; rfl
        · rw [if_neg c1, if_neg c1]; rfl
  · rw [if_neg c, if_pos c]
    exact ⟨_, κ, σ, hr, rfl, rfl⟩
end
