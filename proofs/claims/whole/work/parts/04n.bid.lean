def okB (σ : Sg) (w t wo rk : Int) : Prop := (0 ≤ w ∧ 0 ≤ t) ∧ w - w / 10 * 10 = 0 ∧ w / 10000 < 6 ∧ w / 1000 - w / 1000 / 10 * 10 < σ 0 0 ∧ w / 100 - w / 100 / 10 * 10 < σ 0 0 ∧ ¬ (w / 1000 - w / 1000 / 10 * 10 = w / 100 - w / 100 / 10 * 10) ∧ w / 10 - w / 10 / 10 * 10 ≤ 1 ∧ t / 1000 < 240 ∧ t - t / 1000 * 1000 < 240 ∧ (0 ≤ wo ∧ wo ≤ 1000) ∧ (0 ≤ rk ∧ rk ≤ 99) ∧ σ 9 0 < 16
def bidS (σ : Sg) (w t wo rk : Int) : Sg := sg (sg (sg (sg (sg (sg (sg (sg (sg σ 10 (σ 9 0).toNat (w / 10000)) 11 (σ 9 0).toNat (w / 1000 - w / 1000 / 10 * 10)) 12 (σ 9 0).toNat (w / 100 - w / 100 / 10 * 10)) 13 (σ 9 0).toNat (w / 10 - w / 10 / 10 * 10)) 14 (σ 9 0).toNat (t / 1000)) 15 (σ 9 0).toNat (t - t / 1000 * 1000)) 16 (σ 9 0).toNat wo) 17 (σ 9 0).toNat rk) 9 0 (σ 9 0 + 1)
section
variable {h : Hp} {m : Nat} {σ : Sg}
set_option maxHeartbeats 4000000 in
theorem s_bid (hw : WF σ) (w t wo rk : Int) (hw1 : I32 w) (ht : I32 t) (hwo : I32 wo) (hrk : I32 rk) : (okB σ w t wo rk → f_X8_bid m (iI w) (iI t) (iI wo) (iI rk) (MH h m σ) = some (iI (σ 9 0), MH h m (bidS σ w t wo rk))) ∧ (¬ okB σ w t wo rk → f_X8_bid m (iI w) (iI t) (iI wo) (iI rk) (MH h m σ) = some (iI (-1), MH h m σ)) := by
  unfold I32 at hw1 ht hwo hrk
  have h9 := hw.2.2.2.1
  have h0 := hw.1
  unfold f_X8_bid f_X8_bid_88 f_X8_bid_143
  constructor
  · intro hok
    obtain ⟨⟨q0, q1⟩, q2, q3, q4, q5, q6, q7, q8, q9, q10, q11, q12⟩ := hok
    have q13 : ¬ σ 9 0 = 16 := by omega
    have e1 : (¬ (w < 0)) := by omega
    have e2 : (¬ (t < 0)) := by omega
    have e3 : ¬ (6 ≤ w / 10000) := by omega
    have e4 : ¬ (σ 0 0 ≤ w / 1000 - w / 1000 / 10 * 10) := by omega
    have e5 : ¬ (σ 0 0 ≤ w / 100 - w / 100 / 10 * 10) := by omega
    have e6 : ¬ (240 ≤ t / 1000) := by omega
    have e7 : ¬ (240 ≤ t - t / 1000 * 1000) := by omega
    simp (disch := omega) only [rcv_M, mR0, mS0, mR1, mL1, mS1, mR2, mL2, mS2, mR3, mL3, mS3, mR4, mS4, mR5, mS5, mR6, mL6, mS6, mR7, mL7, mS7, mR8, mL8, mS8, mR9, mS9, mR10, mL10, mS10, mR11, mL11, mS11, mR12, mL12, mS12, mR13, mL13, mS13, mR14, mL14, mS14, mR15, mL15, mS15, mR16, mL16, mS16, mR17, mL17, mS17, mR18, mL18, mS18, mR19, mL19, mS19, mR20, mL20, mS20, mR21, mL21, mS21, mR22, mL22, mS22, mR23, mL23, mS23, mR24, mL24, mS24, mR25, mL25, mS25, mR26, mL26, mS26, mR27, mL27, mS27, mR28, mL28, mS28, mR29, mL29, mS29, mR30, mL30, mS30, mR31, mL31, mS31, mR32, mL32, mS32, mR33, mL33, mS33, iI_0, iI_1, iI_neg, iL2, iL3, iL4, iL5, iL6, iL7, iL8, iL9, iL10, iL11, iL12, iL13, iL14, iL15, iL16, iL17, iL30, iL31, iL60, iL99, iL100, iL240, iL480, iL1000, iL1920, iL10000, iI_add, iI_sub, iI_mul, iI_div, iI_le, iI_lt, iI_eq, bd_s, s_in, iI_b2, q2, q6, q7, q10, q11, q13, e1, e2, e3, e4, e5, e6, e7, and_self, not_true_eq_false, not_false_eq_true, if_true, if_false, and_true, true_and, sg_f, sg_eq]
    unfold rtI bidS
    rw [show σ 9 0 + 1 - 1 = σ 9 0 by omega]
  · intro hok
    unfold okB at hok
    by_cases c0 : w < 0
    · rw [if_pos (show iI w < (0 : Int32) by rw [iI_0, iI_lt (by omega) (by omega) (by omega) (by omega)]; exact c0)]
      show some ((-1 : Int32), _) = _
      rw [iI_m1]
    · rw [if_neg (show ¬ iI w < (0 : Int32) by rw [iI_0, iI_lt (by omega) (by omega) (by omega) (by omega)]; exact c0)]
      by_cases c1 : t < 0
      · rw [if_pos (show iI t < (0 : Int32) by rw [iI_0, iI_lt (by omega) (by omega) (by omega) (by omega)]; exact c1)]
        show some ((-1 : Int32), _) = _
        rw [iI_m1]
      · rw [if_neg (show ¬ iI t < (0 : Int32) by rw [iI_0, iI_lt (by omega) (by omega) (by omega) (by omega)]; exact c1)]
        have em : rtI (-1) (MH h m σ) = some (iI (-1), MH h m σ) := by rw [iI_m1]; rfl
        by_cases c2 : w - w / 10 * 10 = 0
        · rw [if_pos (by simp (disch := omega) only [iI_0, iI_1, iI_neg, iL2, iL3, iL4, iL5, iL6, iL7, iL8, iL9, iL10, iL11, iL12, iL13, iL14, iL15, iL16, iL17, iL30, iL31, iL60, iL99, iL100, iL240, iL480, iL1000, iL1920, iL10000, iI_add, iI_sub, iI_mul, iI_div, iI_le, iI_lt, iI_eq, bd_s, c2])]
          by_cases c3 : 6 ≤ w / 10000
          · rw [if_pos (by simp (disch := omega) only [iI_0, iI_1, iI_neg, iL2, iL3, iL4, iL5, iL6, iL7, iL8, iL9, iL10, iL11, iL12, iL13, iL14, iL15, iL16, iL17, iL30, iL31, iL60, iL99, iL100, iL240, iL480, iL1000, iL1920, iL10000, iI_add, iI_sub, iI_mul, iI_div, iI_le, iI_lt, iI_eq, bd_s, c3]), em]
          · rw [if_neg (by simp (disch := omega) only [iI_0, iI_1, iI_neg, iL2, iL3, iL4, iL5, iL6, iL7, iL8, iL9, iL10, iL11, iL12, iL13, iL14, iL15, iL16, iL17, iL30, iL31, iL60, iL99, iL100, iL240, iL480, iL1000, iL1920, iL10000, iI_add, iI_sub, iI_mul, iI_div, iI_le, iI_lt, iI_eq, bd_s, c3, not_false_eq_true]), mR0]
            by_cases c4 : σ 0 0 ≤ w / 1000 - w / 1000 / 10 * 10
            · rw [if_pos (by simp (disch := omega) only [iI_0, iI_1, iI_neg, iL2, iL3, iL4, iL5, iL6, iL7, iL8, iL9, iL10, iL11, iL12, iL13, iL14, iL15, iL16, iL17, iL30, iL31, iL60, iL99, iL100, iL240, iL480, iL1000, iL1920, iL10000, iI_add, iI_sub, iI_mul, iI_div, iI_le, iI_lt, iI_eq, bd_s, c4]), em]
            · rw [if_neg (by simp (disch := omega) only [iI_0, iI_1, iI_neg, iL2, iL3, iL4, iL5, iL6, iL7, iL8, iL9, iL10, iL11, iL12, iL13, iL14, iL15, iL16, iL17, iL30, iL31, iL60, iL99, iL100, iL240, iL480, iL1000, iL1920, iL10000, iI_add, iI_sub, iI_mul, iI_div, iI_le, iI_lt, iI_eq, bd_s, c4, not_false_eq_true]), mR0]
              by_cases c5 : σ 0 0 ≤ w / 100 - w / 100 / 10 * 10
              · rw [if_pos (by simp (disch := omega) only [iI_0, iI_1, iI_neg, iL2, iL3, iL4, iL5, iL6, iL7, iL8, iL9, iL10, iL11, iL12, iL13, iL14, iL15, iL16, iL17, iL30, iL31, iL60, iL99, iL100, iL240, iL480, iL1000, iL1920, iL10000, iI_add, iI_sub, iI_mul, iI_div, iI_le, iI_lt, iI_eq, bd_s, c5]), em]
              · rw [if_neg (by simp (disch := omega) only [iI_0, iI_1, iI_neg, iL2, iL3, iL4, iL5, iL6, iL7, iL8, iL9, iL10, iL11, iL12, iL13, iL14, iL15, iL16, iL17, iL30, iL31, iL60, iL99, iL100, iL240, iL480, iL1000, iL1920, iL10000, iI_add, iI_sub, iI_mul, iI_div, iI_le, iI_lt, iI_eq, bd_s, c5, not_false_eq_true])]
                by_cases c6 : w / 1000 - w / 1000 / 10 * 10 = w / 100 - w / 100 / 10 * 10
                · rw [if_pos (by simp (disch := omega) only [iI_0, iI_1, iI_neg, iL2, iL3, iL4, iL5, iL6, iL7, iL8, iL9, iL10, iL11, iL12, iL13, iL14, iL15, iL16, iL17, iL30, iL31, iL60, iL99, iL100, iL240, iL480, iL1000, iL1920, iL10000, iI_add, iI_sub, iI_mul, iI_div, iI_le, iI_lt, iI_eq, bd_s, c6]), em]
                · rw [if_neg (by simp (disch := omega) only [iI_0, iI_1, iI_neg, iL2, iL3, iL4, iL5, iL6, iL7, iL8, iL9, iL10, iL11, iL12, iL13, iL14, iL15, iL16, iL17, iL30, iL31, iL60, iL99, iL100, iL240, iL480, iL1000, iL1920, iL10000, iI_add, iI_sub, iI_mul, iI_div, iI_le, iI_lt, iI_eq, bd_s, c6, not_false_eq_true])]
                  by_cases c7 : w / 10 - w / 10 / 10 * 10 ≤ 1
                  · rw [if_pos (by simp (disch := omega) only [iI_0, iI_1, iI_neg, iL2, iL3, iL4, iL5, iL6, iL7, iL8, iL9, iL10, iL11, iL12, iL13, iL14, iL15, iL16, iL17, iL30, iL31, iL60, iL99, iL100, iL240, iL480, iL1000, iL1920, iL10000, iI_add, iI_sub, iI_mul, iI_div, iI_le, iI_lt, iI_eq, bd_s, c7])]
                    by_cases c8 : 240 ≤ t / 1000
                    · rw [if_pos (by simp (disch := omega) only [iI_0, iI_1, iI_neg, iL2, iL3, iL4, iL5, iL6, iL7, iL8, iL9, iL10, iL11, iL12, iL13, iL14, iL15, iL16, iL17, iL30, iL31, iL60, iL99, iL100, iL240, iL480, iL1000, iL1920, iL10000, iI_add, iI_sub, iI_mul, iI_div, iI_le, iI_lt, iI_eq, bd_s, c8]), em]
                    · rw [if_neg (by simp (disch := omega) only [iI_0, iI_1, iI_neg, iL2, iL3, iL4, iL5, iL6, iL7, iL8, iL9, iL10, iL11, iL12, iL13, iL14, iL15, iL16, iL17, iL30, iL31, iL60, iL99, iL100, iL240, iL480, iL1000, iL1920, iL10000, iI_add, iI_sub, iI_mul, iI_div, iI_le, iI_lt, iI_eq, bd_s, c8, not_false_eq_true])]
                      by_cases c9 : 240 ≤ t - t / 1000 * 1000
                      · rw [if_pos (by simp (disch := omega) only [iI_0, iI_1, iI_neg, iL2, iL3, iL4, iL5, iL6, iL7, iL8, iL9, iL10, iL11, iL12, iL13, iL14, iL15, iL16, iL17, iL30, iL31, iL60, iL99, iL100, iL240, iL480, iL1000, iL1920, iL10000, iI_add, iI_sub, iI_mul, iI_div, iI_le, iI_lt, iI_eq, bd_s, c9]), em]
                      · rw [if_neg (by simp (disch := omega) only [iI_0, iI_1, iI_neg, iL2, iL3, iL4, iL5, iL6, iL7, iL8, iL9, iL10, iL11, iL12, iL13, iL14, iL15, iL16, iL17, iL30, iL31, iL60, iL99, iL100, iL240, iL480, iL1000, iL1920, iL10000, iI_add, iI_sub, iI_mul, iI_div, iI_le, iI_lt, iI_eq, bd_s, c9, not_false_eq_true])]
                        rw [iI_0, iL1000, s_in _ _ _ _ (by omega) (by omega) (by omega), bd_s]
                        by_cases c10 : 0 ≤ wo ∧ wo ≤ 1000
                        · rw [if_neg (by rw [iI_b2]; exact fun z => z c10)]
                          rw [iL99, s_in _ _ _ _ (by omega) (by omega) (by omega), bd_s]
                          by_cases c11 : 0 ≤ rk ∧ rk ≤ 99
                          · rw [if_neg (by rw [iI_b2]; exact fun z => z c11), mR9]
                            rw [if_pos (by rw [iL16, iI_eq (by omega) (by omega) (by omega) (by omega)]; omega), em]
                          · rw [if_pos (by rw [iI_b2]; exact c11), em]
                        · rw [if_pos (by rw [iI_b2]; exact c10), em]
                  · rw [if_neg (by simp (disch := omega) only [iI_0, iI_1, iI_neg, iL2, iL3, iL4, iL5, iL6, iL7, iL8, iL9, iL10, iL11, iL12, iL13, iL14, iL15, iL16, iL17, iL30, iL31, iL60, iL99, iL100, iL240, iL480, iL1000, iL1920, iL10000, iI_add, iI_sub, iI_mul, iI_div, iI_le, iI_lt, iI_eq, bd_s, c7, not_false_eq_true]), em]
        · rw [if_neg (by simp (disch := omega) only [iI_0, iI_1, iI_neg, iL2, iL3, iL4, iL5, iL6, iL7, iL8, iL9, iL10, iL11, iL12, iL13, iL14, iL15, iL16, iL17, iL30, iL31, iL60, iL99, iL100, iL240, iL480, iL1000, iL1920, iL10000, iI_add, iI_sub, iI_mul, iI_div, iI_le, iI_lt, iI_eq, bd_s, c2, not_false_eq_true]), em]
end
