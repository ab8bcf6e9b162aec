section
variable {h : Hp} {m : Nat} {σ : Sg}
theorem s_canLeave50 (hw : WF σ) (b : Nat) (hb : b < 16) (s t n : Int) (hs : 0 ≤ s ∧ s < 8) (ht : 0 ≤ t ∧ t ≤ 1000) (hn : 0 ≤ n ∧ n ≤ 1000) : f_X8_canLeave_50 (some m) (iI b) (iI t) (iI s) (iI n) (iI 0) (MH h m σ) = some (iI (b2 (exB (blk σ b s t n) (σ 9 0).toNat = false)), MH h m σ) := by
  obtain ⟨-, -, -, h9, h1, -⟩ := id hw
  have hd := h1 s.toNat
  have hbh := bhd_rng hw
  unfold f_X8_canLeave_50
  have := lp_search (B := fun k2 u => fb_X8_canLeave_50 k2 u.1 u.2.1 u.2.2.1 u.2.2.2.1 u.2.2.2.2.1 u.2.2.2.2.2.1 u.2.2.2.2.2.2) (fun o => (some m, iI b, iI t, iI s, iI n, iI (o : Int), MH h m σ)) (σ 9 0).toNat (blk σ b s t n) (fun _ => some (iI 0, MH h m σ)) (some (iI 1, MH h m σ))
    (fun o hlt k => by
      obtain ⟨-, -, -, -, -, -, -, -, -, hg⟩ := hw.bid (b := o) (by omega)
      have hlo := legO_rng hw (b := o) (by omega) (s := s)
      show fb_X8_canLeave_50 k (some m) (iI b) (iI t) (iI s) (iI n) (iI (o : Int)) (MH h m σ) = if blk σ b s t n o = true then some (iI 0, MH h m σ) else k (some m, iI b, iI t, iI s, iI n, iI ((o + 1 : Nat) : Int), MH h m σ)
      have h98 : f_X8_canLeave_98 k (some m) (iI b) (iI t) (iI s) (iI n) (iI (o : Int)) (MH h m σ) = if legO σ o s ≠ -1 ∧ ¬ (lv σ o (legO σ o s) + lng σ o (legO σ o s) + bhd σ ≤ t ∨ t + n + bhd σ ≤ lv σ o (legO σ o s)) then some (iI 0, MH h m σ) else k (some m, iI b, iI t, iI s, iI n, iI ((o : Int) + 1), MH h m σ) := by
        unfold f_X8_canLeave_98 f_X8_canLeave_147
        simp (disch := omega) only [rcv_M, mR0, mS0, mR1, mL1, mS1, mR2, mL2, mS2, mR3, mL3, mS3, mR4, mS4, mR5, mS5, mR6, mL6, mS6, mR7, mL7, mS7, mR8, mL8, mS8, mR9, mS9, mR10, mL10, mS10, mR11, mL11, mS11, mR12, mL12, mS12, mR13, mL13, mS13, mR14, mL14, mS14, mR15, mL15, mS15, mR16, mL16, mS16, mR17, mL17, mS17, mR18, mL18, mS18, mR19, mL19, mS19, mR20, mL20, mS20, mR21, mL21, mS21, mR22, mL22, mS22, mR23, mL23, mS23, mR24, mL24, mS24, mR25, mL25, mS25, mR26, mL26, mS26, mR27, mL27, mS27, mR28, mL28, mS28, mR29, mL29, mS29, mR30, mL30, mS30, mR31, mL31, mS31, mR32, mL32, mS32, mR33, mL33, mS33, iI_0, iI_1, iI_neg, iL2, iL3, iL4, iL5, iL6, iL7, iL8, iL9, iL10, iL11, iL12, iL13, iL14, iL15, iL16, iL17, iL30, iL31, iL60, iL99, iL100, iL240, iL480, iL1000, iL1920, iL10000, iI_add, iI_sub, iI_mul, iI_div, iI_le, iI_lt, iI_eq, bd_s, s_legOver hw]
        by_cases c : legO σ o s = -1
        · rw [if_pos c, if_neg (fun z => z.1 c)]
        · rw [if_neg c]
          have hl := legO_some c
          have hlg := lgs_rng hw (b := o) (by omega)
          have h6 := lv_rng hw (b := o) (by omega) (i := legO σ o s) (by omega) (by omega)
          have h7 := lng_rng hw (b := o) (by omega) (i := legO σ o s) (by omega) (by omega)
          have e8 : σ 20 (8 * (o : Int) + legO σ o s).toNat = lv σ o (legO σ o s) := rfl
          simp (disch := omega) only [rcv_M, mR0, mS0, mR1, mL1, mS1, mR2, mL2, mS2, mR3, mL3, mS3, mR4, mS4, mR5, mS5, mR6, mL6, mS6, mR7, mL7, mS7, mR8, mL8, mS8, mR9, mS9, mR10, mL10, mS10, mR11, mL11, mS11, mR12, mL12, mS12, mR13, mL13, mS13, mR14, mL14, mS14, mR15, mL15, mS15, mR16, mL16, mS16, mR17, mL17, mS17, mR18, mL18, mS18, mR19, mL19, mS19, mR20, mL20, mS20, mR21, mL21, mS21, mR22, mL22, mS22, mR23, mL23, mS23, mR24, mL24, mS24, mR25, mL25, mS25, mR26, mL26, mS26, mR27, mL27, mS27, mR28, mL28, mS28, mR29, mL29, mS29, mR30, mL30, mS30, mR31, mL31, mS31, mR32, mL32, mS32, mR33, mL33, mS33, iI_0, iI_1, iI_neg, iL2, iL3, iL4, iL5, iL6, iL7, iL8, iL9, iL10, iL11, iL12, iL13, iL14, iL15, iL16, iL17, iL30, iL31, iL60, iL99, iL100, iL240, iL480, iL1000, iL1920, iL10000, iI_add, iI_sub, iI_mul, iI_div, iI_le, iI_lt, iI_eq, bd_s, s_longOf hw, e8, s_areApart hw, rt0]
          by_cases c2 : lv σ o (legO σ o s) + lng σ o (legO σ o s) + bhd σ ≤ t ∨ t + n + bhd σ ≤ lv σ o (legO σ o s)
          · rw [if_pos c2, if_neg (show ¬ (1 : Int) = 0 by decide), if_neg (fun z => z.2 c2)]
          · rw [if_neg c2, if_pos rfl, if_pos ⟨c, c2⟩]
      unfold fb_X8_canLeave_50 f_X8_canLeave_147
      simp (disch := omega) only [rcv_M, mR0, mS0, mR1, mL1, mS1, mR2, mL2, mS2, mR3, mL3, mS3, mR4, mS4, mR5, mS5, mR6, mL6, mS6, mR7, mL7, mS7, mR8, mL8, mS8, mR9, mS9, mR10, mL10, mS10, mR11, mL11, mS11, mR12, mL12, mS12, mR13, mL13, mS13, mR14, mL14, mS14, mR15, mL15, mS15, mR16, mL16, mS16, mR17, mL17, mS17, mR18, mL18, mS18, mR19, mL19, mS19, mR20, mL20, mS20, mR21, mL21, mS21, mR22, mL22, mS22, mR23, mL23, mS23, mR24, mL24, mS24, mR25, mL25, mS25, mR26, mL26, mS26, mR27, mL27, mS27, mR28, mL28, mS28, mR29, mL29, mS29, mR30, mL30, mS30, mR31, mL31, mS31, mR32, mL32, mS32, mR33, mL33, mS33, iI_0, iI_1, iI_neg, iL2, iL3, iL4, iL5, iL6, iL7, iL8, iL9, iL10, iL11, iL12, iL13, iL14, iL15, iL16, iL17, iL30, iL31, iL60, iL99, iL100, iL240, iL480, iL1000, iL1920, iL10000, iI_add, iI_sub, iI_mul, iI_div, iI_le, iI_lt, iI_eq, bd_s, s_isSameWay hw, Int.toNat_natCast, h98, Int.natCast_succ, rt0, rt1]
      unfold blk
      simp only [decide_eq_true_eq]
      by_cases c1 : (o : Int) = b
      · rw [if_neg (by omega), if_pos c1, if_neg (fun z => z.1 (by omega))]
      · rw [if_neg (by omega), if_neg c1]
        by_cases c2 : σ 19 o = 0
        · rw [if_pos c2, if_neg (fun z => z.2.1 c2)]
        · rw [if_neg c2]
          by_cases c3 : σ 1 s.toNat = 0
          · rw [if_pos c3]
            by_cases c4 : legO σ o s ≠ -1 ∧ ¬ (lv σ o (legO σ o s) + lng σ o (legO σ o s) + bhd σ ≤ t ∨ t + n + bhd σ ≤ lv σ o (legO σ o s))
            · rw [if_pos c4, if_pos ⟨by omega, c2, Or.inl c3, c4⟩]
            · rw [if_neg c4, if_neg (fun z => c4 z.2.2.2)]
          · rw [if_neg c3]
            by_cases c5 : (σ 11 o < σ 12 o) = (σ 11 b < σ 12 b)
            · rw [if_pos c5, if_neg (show ¬ (1 : Int) = 0 by decide)]
              by_cases c4 : legO σ o s ≠ -1 ∧ ¬ (lv σ o (legO σ o s) + lng σ o (legO σ o s) + bhd σ ≤ t ∨ t + n + bhd σ ≤ lv σ o (legO σ o s))
              · rw [if_pos c4, if_pos ⟨by omega, c2, Or.inr c5, c4⟩]
              · rw [if_neg c4, if_neg (fun z => c4 z.2.2.2)]
            · rw [if_neg c5, if_pos rfl, if_neg (fun z => z.2.2.1.elim c3 c5)])
    (fun k => by
      show fb_X8_canLeave_50 k (some m) (iI b) (iI t) (iI s) (iI n) (iI ((σ 9 0).toNat : Int)) (MH h m σ) = _
      unfold fb_X8_canLeave_50
      simp (disch := omega) only [rcv_M, mR0, mS0, mR1, mL1, mS1, mR2, mL2, mS2, mR3, mL3, mS3, mR4, mS4, mR5, mS5, mR6, mL6, mS6, mR7, mL7, mS7, mR8, mL8, mS8, mR9, mS9, mR10, mL10, mS10, mR11, mL11, mS11, mR12, mL12, mS12, mR13, mL13, mS13, mR14, mL14, mS14, mR15, mL15, mS15, mR16, mL16, mS16, mR17, mL17, mS17, mR18, mL18, mS18, mR19, mL19, mS19, mR20, mL20, mS20, mR21, mL21, mS21, mR22, mL22, mS22, mR23, mL23, mS23, mR24, mL24, mS24, mR25, mL25, mS25, mR26, mL26, mS26, mR27, mL27, mS27, mR28, mL28, mS28, mR29, mL29, mS29, mR30, mL30, mS30, mR31, mL31, mS31, mR32, mL32, mS32, mR33, mL33, mS33, iI_0, iI_1, iI_neg, iL2, iL3, iL4, iL5, iL6, iL7, iL8, iL9, iL10, iL11, iL12, iL13, iL14, iL15, iL16, iL17, iL30, iL31, iL60, iL99, iL100, iL240, iL480, iL1000, iL1920, iL10000, iI_add, iI_sub, iI_mul, iI_div, iI_le, iI_lt, iI_eq, bd_s, rt1]
      rw [if_pos (by omega)]) (σ 9 0).toNat 0 FU (by omega) (by rw [FU_eq]; omega)
  refine this.trans ?_
  unfold exB
  cases hq : srch (blk σ b s t n) 0 (σ 9 0).toNat with
  | none => rw [b2_t (by simp)]
  | some j => rw [b2_f (by simp)]
theorem s_canLeave (hw : WF σ) (b : Nat) (hb : b < 16) (i t : Int) (h0 : 0 ≤ i) (h1 : i < lgs σ b) (ht : 0 ≤ t ∧ t ≤ 500) : f_X8_canLeave m (iI b) (iI i) (iI t) (MH h m σ) = some (iI (b2 (canL σ b i t = true)), MH h m σ) := by
  have hlg := lgs_rng hw hb
  have hse := sec_rng hw hb h0 h1
  have hln := lng_rng hw hb h0 h1
  unfold f_X8_canLeave
  simp (disch := omega) only [rcv_M, mR0, mS0, mR1, mL1, mS1, mR2, mL2, mS2, mR3, mL3, mS3, mR4, mS4, mR5, mS5, mR6, mL6, mS6, mR7, mL7, mS7, mR8, mL8, mS8, mR9, mS9, mR10, mL10, mS10, mR11, mL11, mS11, mR12, mL12, mS12, mR13, mL13, mS13, mR14, mL14, mS14, mR15, mL15, mS15, mR16, mL16, mS16, mR17, mL17, mS17, mR18, mL18, mS18, mR19, mL19, mS19, mR20, mL20, mS20, mR21, mL21, mS21, mR22, mL22, mS22, mR23, mL23, mS23, mR24, mL24, mS24, mR25, mL25, mS25, mR26, mL26, mS26, mR27, mL27, mS27, mR28, mL28, mS28, mR29, mL29, mS29, mR30, mL30, mS30, mR31, mL31, mS31, mR32, mL32, mS32, mR33, mL33, mS33, iI_0, iI_1, iI_neg, iL2, iL3, iL4, iL5, iL6, iL7, iL8, iL9, iL10, iL11, iL12, iL13, iL14, iL15, iL16, iL17, iL30, iL31, iL60, iL99, iL100, iL240, iL480, iL1000, iL1920, iL10000, iI_add, iI_sub, iI_mul, iI_div, iI_le, iI_lt, iI_eq, bd_s, s_sectionOf hw, s_longOf hw]
  unfold f_X8_canLeave_19
  have := lp_search (B := fun k2 u => fb_X8_canLeave_19 k2 u.1 u.2.1 u.2.2.1 u.2.2.2.1 u.2.2.2.2.1 u.2.2.2.2.2.1 u.2.2.2.2.2.2) (fun d => (some m, iI b, iI t, iI (sec σ b i), iI (lng σ b i), iI (t + (d : Int)), MH h m σ)) (lng σ b i).toNat (fun d => clsd σ (sec σ b i) (t + d)) (fun _ => some (iI 0, MH h m σ)) (some (iI (b2 (exB (blk σ b (sec σ b i) t (lng σ b i)) (σ 9 0).toNat = false)), MH h m σ))
    (fun d hlt k => by
      show fb_X8_canLeave_19 k (some m) (iI b) (iI t) (iI (sec σ b i)) (iI (lng σ b i)) (iI (t + (d : Int))) (MH h m σ) = _
      unfold fb_X8_canLeave_19
      simp (disch := omega) only [rcv_M, mR0, mS0, mR1, mL1, mS1, mR2, mL2, mS2, mR3, mL3, mS3, mR4, mS4, mR5, mS5, mR6, mL6, mS6, mR7, mL7, mS7, mR8, mL8, mS8, mR9, mS9, mR10, mL10, mS10, mR11, mL11, mS11, mR12, mL12, mS12, mR13, mL13, mS13, mR14, mL14, mS14, mR15, mL15, mS15, mR16, mL16, mS16, mR17, mL17, mS17, mR18, mL18, mS18, mR19, mL19, mS19, mR20, mL20, mS20, mR21, mL21, mS21, mR22, mL22, mS22, mR23, mL23, mS23, mR24, mL24, mS24, mR25, mL25, mS25, mR26, mL26, mS26, mR27, mL27, mS27, mR28, mL28, mS28, mR29, mL29, mS29, mR30, mL30, mS30, mR31, mL31, mS31, mR32, mL32, mS32, mR33, mL33, mS33, iI_0, iI_1, iI_neg, iL2, iL3, iL4, iL5, iL6, iL7, iL8, iL9, iL10, iL11, iL12, iL13, iL14, iL15, iL16, iL17, iL30, iL31, iL60, iL99, iL100, iL240, iL480, iL1000, iL1920, iL10000, iI_add, iI_sub, iI_mul, iI_div, iI_le, iI_lt, iI_eq, bd_s, s_isClosed hw, iI_b2, rt0, Int.natCast_succ]
      rw [if_neg (by omega)]
      cases clsd σ (sec σ b i) (t + d) <;> simp [Int.add_assoc])
    (fun k => by
      show fb_X8_canLeave_19 k (some m) (iI b) (iI t) (iI (sec σ b i)) (iI (lng σ b i)) (iI (t + ((lng σ b i).toNat : Int))) (MH h m σ) = _
      unfold fb_X8_canLeave_19
      simp (disch := omega) only [rcv_M, mR0, mS0, mR1, mL1, mS1, mR2, mL2, mS2, mR3, mL3, mS3, mR4, mS4, mR5, mS5, mR6, mL6, mS6, mR7, mL7, mS7, mR8, mL8, mS8, mR9, mS9, mR10, mL10, mS10, mR11, mL11, mS11, mR12, mL12, mS12, mR13, mL13, mS13, mR14, mL14, mS14, mR15, mL15, mS15, mR16, mL16, mS16, mR17, mL17, mS17, mR18, mL18, mS18, mR19, mL19, mS19, mR20, mL20, mS20, mR21, mL21, mS21, mR22, mL22, mS22, mR23, mL23, mS23, mR24, mL24, mS24, mR25, mL25, mS25, mR26, mL26, mS26, mR27, mL27, mS27, mR28, mL28, mS28, mR29, mL29, mS29, mR30, mL30, mS30, mR31, mL31, mS31, mR32, mL32, mS32, mR33, mL33, mS33, iI_0, iI_1, iI_neg, iL2, iL3, iL4, iL5, iL6, iL7, iL8, iL9, iL10, iL11, iL12, iL13, iL14, iL15, iL16, iL17, iL30, iL31, iL60, iL99, iL100, iL240, iL480, iL1000, iL1920, iL10000, iI_add, iI_sub, iI_mul, iI_div, iI_le, iI_lt, iI_eq, bd_s, s_canLeave50 hw]
      rw [if_pos (by omega)]) (lng σ b i).toNat 0 FU (by omega) (by rw [FU_eq]; omega)
  simp only [Int.natCast_zero, Int.add_zero] at this
  refine this.trans ?_
  unfold canL
  cases hq : srch (fun d : Nat => clsd σ (sec σ b i) (t + d)) 0 (lng σ b i).toNat with
  | none =>
    have e : exB (fun d : Nat => clsd σ (sec σ b i) (t + d)) (lng σ b i).toNat = false := by unfold exB; rw [hq]; rfl
    rw [e]
    simp only
    rw [b2_iff (q := (!false && !exB (blk σ b (sec σ b i) t (lng σ b i)) (σ 9 0).toNat) = true) (by simp)]
  | some j =>
    have e : exB (fun d : Nat => clsd σ (sec σ b i) (t + d)) (lng σ b i).toNat = true := by unfold exB; rw [hq]; rfl
    rw [e, b2_f (p := (!true && _) = true) (by simp)]
end
