def inP (σ : Sg) (b : Nat) (i t : Int) : Prop := lv σ b i ≤ t ∧ t ≤ lv σ b i + lng σ b i - 1
def hldB (σ : Sg) (b : Nat) (s t : Int) (o : Nat) : Bool := decide (o ≠ b ∧ σ 19 o ≠ 0 ∧ (σ 1 s.toNat = 0 ∨ (σ 11 o < σ 12 o) = (σ 11 b < σ 12 b)) ∧ legO σ o s ≠ -1 ∧ (lv σ o (legO σ o s) ≤ t ∧ t ≤ lv σ o (legO σ o s) + lng σ o (legO σ o s) - 1 + bhd σ))
def brk (σ : Sg) (b : Nat) (r : Int) (t : Int) : Bool :=
  if r = 3 then exB (fun j => stds σ b (stn σ b (j + 1)) t && !canS σ b (stn σ b (j + 1)) t) (lgs σ b - 1).toNat
  else exB (fun i => decide (lv σ b i ≤ t ∧ t ≤ lv σ b i + lng σ b i - 1) && (if r = 1 then clsd σ (sec σ b i) t else exB (hldB σ b (sec σ b i) t) (σ 9 0).toNat)) (lgs σ b).toNat
section
variable {h : Hp} {m : Nat} {σ : Sg}
theorem s_isIn (hw : WF σ) (b : Nat) (hb : b < 16) (i t : Int) (h0 : 0 ≤ i) (h1 : i < lgs σ b) (ht : -1000 ≤ t ∧ t ≤ 1000) : f_X8_isIn m (iI b) (iI i) (iI t) (MH h m σ) = some (iI (b2 (lv σ b i ≤ t ∧ t ≤ lv σ b i + lng σ b i - 1)), MH h m σ) := by
  have hlg := lgs_rng hw hb
  have h6 := lv_rng hw hb (i := i) (by omega) (by omega)
  have h7 := lng_rng hw hb h0 h1
  have e8 : σ 20 (8 * (b : Int) + i).toNat = lv σ b i := rfl
  unfold f_X8_isIn
  simp (disch := omega) only [rcv_M, mR0, mS0, mR1, mL1, mS1, mR2, mL2, mS2, mR3, mL3, mS3, mR4, mS4, mR5, mS5, mR6, mL6, mS6, mR7, mL7, mS7, mR8, mL8, mS8, mR9, mS9, mR10, mL10, mS10, mR11, mL11, mS11, mR12, mL12, mS12, mR13, mL13, mS13, mR14, mL14, mS14, mR15, mL15, mS15, mR16, mL16, mS16, mR17, mL17, mS17, mR18, mL18, mS18, mR19, mL19, mS19, mR20, mL20, mS20, mR21, mL21, mS21, mR22, mL22, mS22, mR23, mL23, mS23, mR24, mL24, mS24, mR25, mL25, mS25, mR26, mL26, mS26, mR27, mL27, mS27, mR28, mL28, mS28, mR29, mL29, mS29, mR30, mL30, mS30, mR31, mL31, mS31, mR32, mL32, mS32, mR33, mL33, mS33, iI_0, iI_1, iI_neg, iL2, iL3, iL4, iL5, iL6, iL7, iL8, iL9, iL10, iL11, iL12, iL13, iL14, iL15, iL16, iL17, iL30, iL31, iL60, iL99, iL100, iL240, iL480, iL1000, iL1920, iL10000, iI_add, iI_sub, iI_mul, iI_div, iI_le, iI_lt, iI_eq, bd_s, s_longOf hw, e8, s_in]
  rw [rtZ_i (b2_01 _)]
theorem s_holds (hw : WF σ) (b : Nat) (hb : b < 16) (s t : Int) (hs : 0 ≤ s ∧ s < 8) (ht : -1000 ≤ t ∧ t ≤ 1000) : f_X8_holds m (iI b) (iI s) (iI t) (MH h m σ) = some (iI (b2 (legO σ b s ≠ -1 ∧ (lv σ b (legO σ b s) ≤ t ∧ t ≤ lv σ b (legO σ b s) + lng σ b (legO σ b s) - 1 + bhd σ))), MH h m σ) := by
  have hlo := legO_rng hw hb (s := s)
  have hbh := bhd_rng hw
  unfold f_X8_holds f_X8_holds_30 f_X8_holds_68 f_X8_holds_69
  simp (disch := omega) only [rcv_M, mR0, mS0, mR1, mL1, mS1, mR2, mL2, mS2, mR3, mL3, mS3, mR4, mS4, mR5, mS5, mR6, mL6, mS6, mR7, mL7, mS7, mR8, mL8, mS8, mR9, mS9, mR10, mL10, mS10, mR11, mL11, mS11, mR12, mL12, mS12, mR13, mL13, mS13, mR14, mL14, mS14, mR15, mL15, mS15, mR16, mL16, mS16, mR17, mL17, mS17, mR18, mL18, mS18, mR19, mL19, mS19, mR20, mL20, mS20, mR21, mL21, mS21, mR22, mL22, mS22, mR23, mL23, mS23, mR24, mL24, mS24, mR25, mL25, mS25, mR26, mL26, mS26, mR27, mL27, mS27, mR28, mL28, mS28, mR29, mL29, mS29, mR30, mL30, mS30, mR31, mL31, mS31, mR32, mL32, mS32, mR33, mL33, mS33, iI_0, iI_1, iI_neg, iL2, iL3, iL4, iL5, iL6, iL7, iL8, iL9, iL10, iL11, iL12, iL13, iL14, iL15, iL16, iL17, iL30, iL31, iL60, iL99, iL100, iL240, iL480, iL1000, iL1920, iL10000, iI_add, iI_sub, iI_mul, iI_div, iI_le, iI_lt, iI_eq, bd_s, s_legOver hw, rt0]
  by_cases c : legO σ b s = -1
  · rw [if_pos c, if_pos c, b2_f (fun z => z.1 c)]
  · rw [if_neg c]
    have hl := legO_some c
    have hlg := lgs_rng hw hb
    have h6 := lv_rng hw hb (i := legO σ b s) (by omega) (by omega)
    have h7 := lng_rng hw hb (i := legO σ b s) (by omega) (by omega)
    have e8 : σ 20 (8 * (b : Int) + legO σ b s).toNat = lv σ b (legO σ b s) := rfl
    simp (disch := omega) only [rcv_M, mR0, mS0, mR1, mL1, mS1, mR2, mL2, mS2, mR3, mL3, mS3, mR4, mS4, mR5, mS5, mR6, mL6, mS6, mR7, mL7, mS7, mR8, mL8, mS8, mR9, mS9, mR10, mL10, mS10, mR11, mL11, mS11, mR12, mL12, mS12, mR13, mL13, mS13, mR14, mL14, mS14, mR15, mL15, mS15, mR16, mL16, mS16, mR17, mL17, mS17, mR18, mL18, mS18, mR19, mL19, mS19, mR20, mL20, mS20, mR21, mL21, mS21, mR22, mL22, mS22, mR23, mL23, mS23, mR24, mL24, mS24, mR25, mL25, mS25, mR26, mL26, mS26, mR27, mL27, mS27, mR28, mL28, mS28, mR29, mL29, mS29, mR30, mL30, mS30, mR31, mL31, mS31, mR32, mL32, mS32, mR33, mL33, mS33, iI_0, iI_1, iI_neg, iL2, iL3, iL4, iL5, iL6, iL7, iL8, iL9, iL10, iL11, iL12, iL13, iL14, iL15, iL16, iL17, iL30, iL31, iL60, iL99, iL100, iL240, iL480, iL1000, iL1920, iL10000, iI_add, iI_sub, iI_mul, iI_div, iI_le, iI_lt, iI_eq, bd_s, s_longOf hw, s_behind hw, e8, s_in, iI_b2, c, and_self, not_true_eq_false, not_false_eq_true, if_true, if_false, and_true, true_and, rt0, rt1]
    by_cases c2 : lv σ b (legO σ b s) ≤ t ∧ t ≤ lv σ b (legO σ b s) + lng σ b (legO σ b s) - 1 + bhd σ
    · rw [if_neg (fun z => z c2), b2_t ⟨c, c2⟩]
    · rw [if_pos c2, b2_f (fun z => c2 z.2)]
theorem s_breaks3 (hw : WF σ) (b : Nat) (hb : b < 16) (t : Int) (ht : -1000 ≤ t ∧ t ≤ 1000) : f_X8_breaks m (iI b) (iI 3) (iI t) (MH h m σ) = some (iI (b2 (brk σ b 3 t = true)), MH h m σ) := by
  have hlg := lgs_rng hw hb
  unfold f_X8_breaks
  rw [iL3, if_pos rfl, iI_1]
  unfold f_X8_breaks_8
  have := lp_search (B := fun k2 u => fb_X8_breaks_8 k2 u.1 u.2.1 u.2.2.1 u.2.2.2.1 u.2.2.2.2) (fun j => (some m, iI b, iI t, iI ((j : Int) + 1), MH h m σ)) (lgs σ b - 1).toNat (fun j => stds σ b (stn σ b (j + 1)) t && !canS σ b (stn σ b (j + 1)) t) (fun _ => some (iI 1, MH h m σ)) (some (iI 0, MH h m σ))
    (fun j hj k => by
      have hst := stn_rng hw hb (i := (j : Int) + 1) (by omega) (by omega)
      show fb_X8_breaks_8 k (some m) (iI b) (iI t) (iI ((j : Int) + 1)) (MH h m σ) = _
      unfold fb_X8_breaks_8 f_X8_breaks_51
      simp (disch := omega) only [rcv_M, mR0, mS0, mR1, mL1, mS1, mR2, mL2, mS2, mR3, mL3, mS3, mR4, mS4, mR5, mS5, mR6, mL6, mS6, mR7, mL7, mS7, mR8, mL8, mS8, mR9, mS9, mR10, mL10, mS10, mR11, mL11, mS11, mR12, mL12, mS12, mR13, mL13, mS13, mR14, mL14, mS14, mR15, mL15, mS15, mR16, mL16, mS16, mR17, mL17, mS17, mR18, mL18, mS18, mR19, mL19, mS19, mR20, mL20, mS20, mR21, mL21, mS21, mR22, mL22, mS22, mR23, mL23, mS23, mR24, mL24, mS24, mR25, mL25, mS25, mR26, mL26, mS26, mR27, mL27, mS27, mR28, mL28, mS28, mR29, mL29, mS29, mR30, mL30, mS30, mR31, mL31, mS31, mR32, mL32, mS32, mR33, mL33, mS33, iI_0, iI_1, iI_neg, iL2, iL3, iL4, iL5, iL6, iL7, iL8, iL9, iL10, iL11, iL12, iL13, iL14, iL15, iL16, iL17, iL30, iL31, iL60, iL99, iL100, iL240, iL480, iL1000, iL1920, iL10000, iI_add, iI_sub, iI_mul, iI_div, iI_le, iI_lt, iI_eq, bd_s, s_legs hw, s_stationOf hw, s_isStanding hw, s_canStand hw, iI_b2, rt0, rt1, Int.natCast_succ]
      rw [if_neg (by omega)]
      cases stds σ b (stn σ b ((j : Int) + 1)) t <;> cases canS σ b (stn σ b ((j : Int) + 1)) t <;> simp)
    (fun k => by
      show fb_X8_breaks_8 k (some m) (iI b) (iI t) (iI (((lgs σ b - 1).toNat : Int) + 1)) (MH h m σ) = _
      unfold fb_X8_breaks_8
      simp (disch := omega) only [rcv_M, mR0, mS0, mR1, mL1, mS1, mR2, mL2, mS2, mR3, mL3, mS3, mR4, mS4, mR5, mS5, mR6, mL6, mS6, mR7, mL7, mS7, mR8, mL8, mS8, mR9, mS9, mR10, mL10, mS10, mR11, mL11, mS11, mR12, mL12, mS12, mR13, mL13, mS13, mR14, mL14, mS14, mR15, mL15, mS15, mR16, mL16, mS16, mR17, mL17, mS17, mR18, mL18, mS18, mR19, mL19, mS19, mR20, mL20, mS20, mR21, mL21, mS21, mR22, mL22, mS22, mR23, mL23, mS23, mR24, mL24, mS24, mR25, mL25, mS25, mR26, mL26, mS26, mR27, mL27, mS27, mR28, mL28, mS28, mR29, mL29, mS29, mR30, mL30, mS30, mR31, mL31, mS31, mR32, mL32, mS32, mR33, mL33, mS33, iI_0, iI_1, iI_neg, iL2, iL3, iL4, iL5, iL6, iL7, iL8, iL9, iL10, iL11, iL12, iL13, iL14, iL15, iL16, iL17, iL30, iL31, iL60, iL99, iL100, iL240, iL480, iL1000, iL1920, iL10000, iI_add, iI_sub, iI_mul, iI_div, iI_le, iI_lt, iI_eq, bd_s, s_legs hw, rt0]
      rw [if_pos (by omega)]) (lgs σ b - 1).toNat 0 FU (by omega) (by rw [FU_eq]; omega)
  refine this.trans ?_
  unfold brk exB
  rw [if_pos rfl]
  cases srch (fun j : Nat => stds σ b (stn σ b (j + 1)) t && !canS σ b (stn σ b (j + 1)) t) 0 (lgs σ b - 1).toNat with
  | none => rw [b2_f (by simp)]
  | some j => rw [b2_t (by simp)]
theorem s_breaks115 (hw : WF σ) (b : Nat) (hb : b < 16) (r t i s : Int) (hr : r = 1 ∨ r = 2) (ht : -1000 ≤ t ∧ t ≤ 1000) (hi : 0 ≤ i ∧ i ≤ 10) (hs : 0 ≤ s ∧ s < 8) (k62 : Option Nat × Int32 × Int32 × Int32 × Int32 × Hp → Option (Int32 × Hp)) : f_X8_breaks_115 k62 (some m) (iI b) (iI r) (iI t) (iI i) (iI s) (iI 0) (MH h m σ) = if r = 2 ∧ exB (hldB σ b s t) (σ 9 0).toNat = true then some (iI 1, MH h m σ) else k62 (some m, iI b, iI r, iI t, iI (i + 1), MH h m σ) := by
  have h9 := hw.2.2.2.1
  have hd := hw.2.2.2.2.1 s.toNat
  unfold f_X8_breaks_115
  by_cases hr2 : r = 2
  · have := lp_search (B := fun k2 u => fb_X8_breaks_115 k62 k2 u.1 u.2.1 u.2.2.1 u.2.2.2.1 u.2.2.2.2.1 u.2.2.2.2.2.1 u.2.2.2.2.2.2.1 u.2.2.2.2.2.2.2) (fun o => (some m, iI b, iI r, iI t, iI i, iI s, iI (o : Int), MH h m σ)) (σ 9 0).toNat (hldB σ b s t) (fun _ => some (iI 1, MH h m σ)) (k62 (some m, iI b, iI r, iI t, iI (i + 1), MH h m σ))
      (fun o ho k => by
        have hg := (hw.bid (b := o) (by omega)).2.2.2.2.2.2.2.2.2
        show fb_X8_breaks_115 k62 k (some m) (iI b) (iI r) (iI t) (iI i) (iI s) (iI (o : Int)) (MH h m σ) = if hldB σ b s t o = true then some (iI 1, MH h m σ) else k (some m, iI b, iI r, iI t, iI i, iI s, iI ((o + 1 : Nat) : Int), MH h m σ)
        unfold fb_X8_breaks_115 f_X8_breaks_179 f_X8_breaks_165 f_X8_breaks_179
        simp (disch := omega) only [rcv_M, mR0, mS0, mR1, mL1, mS1, mR2, mL2, mS2, mR3, mL3, mS3, mR4, mS4, mR5, mS5, mR6, mL6, mS6, mR7, mL7, mS7, mR8, mL8, mS8, mR9, mS9, mR10, mL10, mS10, mR11, mL11, mS11, mR12, mL12, mS12, mR13, mL13, mS13, mR14, mL14, mS14, mR15, mL15, mS15, mR16, mL16, mS16, mR17, mL17, mS17, mR18, mL18, mS18, mR19, mL19, mS19, mR20, mL20, mS20, mR21, mL21, mS21, mR22, mL22, mS22, mR23, mL23, mS23, mR24, mL24, mS24, mR25, mL25, mS25, mR26, mL26, mS26, mR27, mL27, mS27, mR28, mL28, mS28, mR29, mL29, mS29, mR30, mL30, mS30, mR31, mL31, mS31, mR32, mL32, mS32, mR33, mL33, mS33, iI_0, iI_1, iI_neg, iL2, iL3, iL4, iL5, iL6, iL7, iL8, iL9, iL10, iL11, iL12, iL13, iL14, iL15, iL16, iL17, iL30, iL31, iL60, iL99, iL100, iL240, iL480, iL1000, iL1920, iL10000, iI_add, iI_sub, iI_mul, iI_div, iI_le, iI_lt, iI_eq, bd_s, s_isSameWay hw, s_holds hw, iI_b2, Int.toNat_natCast, rt1, Int.natCast_succ, hr2]
        unfold hldB
        simp only [decide_eq_true_eq]
        rw [if_neg (by omega), if_pos trivial]
        by_cases c1 : (o : Int) = b
        · rw [if_pos c1, if_neg (fun z => z.1 (by omega))]
        · rw [if_neg c1]
          by_cases c2 : σ 19 o = 0
          · rw [if_pos c2, if_neg (fun z => z.2.1 c2)]
          · rw [if_neg c2]
            by_cases c4 : legO σ o s ≠ -1 ∧ (lv σ o (legO σ o s) ≤ t ∧ t ≤ lv σ o (legO σ o s) + lng σ o (legO σ o s) - 1 + bhd σ)
            · by_cases c3 : σ 1 s.toNat = 0
              · rw [if_pos c3, if_neg (fun z => z c4), if_pos ⟨by omega, c2, Or.inl c3, c4⟩]
              · rw [if_neg c3]
                by_cases c5 : (σ 11 o < σ 12 o) = (σ 11 b < σ 12 b)
                · rw [if_pos c5, if_neg (show ¬ (1 : Int) = 0 by decide), if_neg (fun z => z c4), if_pos ⟨by omega, c2, Or.inr c5, c4⟩]
                · rw [if_neg c5, if_pos rfl, if_neg (fun z => z.2.2.1.elim c3 c5)]
            · rw [if_neg (show ¬ (o ≠ b ∧ σ 19 o ≠ 0 ∧ _ ∧ _) from fun z => c4 z.2.2.2)]
              by_cases c3 : σ 1 s.toNat = 0
              · rw [if_pos c3, if_pos c4]
              · rw [if_neg c3]
                by_cases c5 : (σ 11 o < σ 12 o) = (σ 11 b < σ 12 b)
                · rw [if_pos c5, if_neg (show ¬ (1 : Int) = 0 by decide), if_pos c4]
                · rw [if_neg c5, if_pos rfl])
      (fun k => by
        show fb_X8_breaks_115 k62 k (some m) (iI b) (iI r) (iI t) (iI i) (iI s) (iI ((σ 9 0).toNat : Int)) (MH h m σ) = _
        unfold fb_X8_breaks_115 f_X8_breaks_185
        rw [mR9, if_pos (by rw [iI_le (by omega) (by omega) (by omega) (by omega)]; omega), iI_1, iI_add]) (σ 9 0).toNat 0 FU (by omega) (by rw [FU_eq]; omega)
    refine this.trans ?_
    unfold exB
    cases srch (hldB σ b s t) 0 (σ 9 0).toNat with
    | none => rw [if_neg (by simp)]
    | some j => rw [if_pos (by simp [hr2])]
  · rw [if_neg (fun z => hr2 z.1), FU_eq, lp_succ]
    show fb_X8_breaks_115 k62 _ (some m) (iI b) (iI r) (iI t) (iI i) (iI s) (iI 0) (MH h m σ) = _
    unfold fb_X8_breaks_115 f_X8_breaks_185
    rw [mR9, iL2, if_neg (show ¬ iI r = iI 2 by rw [iI_eq (by omega) (by omega) (by omega) (by omega)]; exact hr2), iI_1, iI_add]
    split <;> rfl
theorem s_breaks12 (hw : WF σ) (b : Nat) (hb : b < 16) (r t : Int) (hr : r = 1 ∨ r = 2) (ht : -1000 ≤ t ∧ t ≤ 1000) : f_X8_breaks m (iI b) (iI r) (iI t) (MH h m σ) = some (iI (b2 (brk σ b r t = true)), MH h m σ) := by
  have hlg := lgs_rng hw hb
  unfold f_X8_breaks
  rw [iL3, if_neg (show ¬ iI r = iI 3 by rw [iI_eq (by omega) (by omega) (by omega) (by omega)]; omega), iI_0]
  unfold f_X8_breaks_62
  have := lp_search (B := fun k2 u => fb_X8_breaks_62 k2 u.1 u.2.1 u.2.2.1 u.2.2.2.1 u.2.2.2.2.1 u.2.2.2.2.2) (fun i => (some m, iI b, iI r, iI t, iI (i : Int), MH h m σ)) (lgs σ b).toNat (fun i => decide (lv σ b i ≤ t ∧ t ≤ lv σ b i + lng σ b i - 1) && (if r = 1 then clsd σ (sec σ b i) t else exB (hldB σ b (sec σ b i) t) (σ 9 0).toNat)) (fun _ => some (iI 1, MH h m σ)) (some (iI 0, MH h m σ))
    (fun i hi k => by
      have hse := sec_rng hw hb (i := (i : Int)) (by omega) (by omega)
      show fb_X8_breaks_62 k (some m) (iI b) (iI r) (iI t) (iI (i : Int)) (MH h m σ) = if _ then _ else k (some m, iI b, iI r, iI t, iI ((i + 1 : Nat) : Int), MH h m σ)
      unfold fb_X8_breaks_62 f_X8_breaks_112 f_X8_breaks_185
      simp (disch := omega) only [rcv_M, mR0, mS0, mR1, mL1, mS1, mR2, mL2, mS2, mR3, mL3, mS3, mR4, mS4, mR5, mS5, mR6, mL6, mS6, mR7, mL7, mS7, mR8, mL8, mS8, mR9, mS9, mR10, mL10, mS10, mR11, mL11, mS11, mR12, mL12, mS12, mR13, mL13, mS13, mR14, mL14, mS14, mR15, mL15, mS15, mR16, mL16, mS16, mR17, mL17, mS17, mR18, mL18, mS18, mR19, mL19, mS19, mR20, mL20, mS20, mR21, mL21, mS21, mR22, mL22, mS22, mR23, mL23, mS23, mR24, mL24, mS24, mR25, mL25, mS25, mR26, mL26, mS26, mR27, mL27, mS27, mR28, mL28, mS28, mR29, mL29, mS29, mR30, mL30, mS30, mR31, mL31, mS31, mR32, mL32, mS32, mR33, mL33, mS33, iI_0, iI_1, iI_neg, iL2, iL3, iL4, iL5, iL6, iL7, iL8, iL9, iL10, iL11, iL12, iL13, iL14, iL15, iL16, iL17, iL30, iL31, iL60, iL99, iL100, iL240, iL480, iL1000, iL1920, iL10000, iI_add, iI_sub, iI_mul, iI_div, iI_le, iI_lt, iI_eq, bd_s, s_legs hw, s_isIn hw, s_sectionOf hw, s_isClosed hw, s_breaks115 hw b hb r t _ _ hr, iI_b2, rt0, rt1, Int.natCast_succ]
      rw [if_neg (by omega)]
      by_cases c1 : lv σ b i ≤ t ∧ t ≤ lv σ b i + lng σ b i - 1
      · rw [if_neg (fun z => z c1)]
        rcases hr with rfl | rfl
        · cases hc : clsd σ (sec σ b i) t <;> simp [c1]
        · cases hc : exB (hldB σ b (sec σ b i) t) (σ 9 0).toNat <;> simp [c1, hc]
      · rw [if_pos c1]
        simp only [c1, decide_false, Bool.false_and]
        simp)
    (fun k => by
      show fb_X8_breaks_62 k (some m) (iI b) (iI r) (iI t) (iI ((lgs σ b).toNat : Int)) (MH h m σ) = _
      unfold fb_X8_breaks_62
      rw [rcv_M, s_legs hw b hb, bd_s, if_pos (by rw [iI_le (by omega) (by omega) (by omega) (by omega)]; omega), iI_0, rt0]) (lgs σ b).toNat 0 FU (by omega) (by rw [FU_eq]; omega)
  refine this.trans ?_
  have e : brk σ b r t = exB (fun i => decide (lv σ b i ≤ t ∧ t ≤ lv σ b i + lng σ b i - 1) && (if r = 1 then clsd σ (sec σ b i) t else exB (hldB σ b (sec σ b i) t) (σ 9 0).toNat)) (lgs σ b).toNat := by unfold brk; rw [if_neg (by omega)]
  rw [e]
  generalize (fun i : Nat => decide (lv σ b i ≤ t ∧ t ≤ lv σ b i + lng σ b i - 1) && (if r = 1 then clsd σ (sec σ b i) t else exB (hldB σ b (sec σ b i) t) (σ 9 0).toNat)) = P
  unfold exB
  cases srch P 0 (lgs σ b).toNat with
  | none => rw [b2_f (by simp)]
  | some j => rw [b2_t (by simp)]
end
