def whyT (σ : Sg) (b : Nat) (r : Nat) : Option Nat := srch (fun t => brk σ b r t) 0 240
def whyR (σ : Sg) (b : Nat) : Option (Nat × Nat) := if σ 19 b = 0 then none else match srch (fun j => (whyT σ b (j + 1)).isSome) 0 3 with
  | some j => (whyT σ b (j + 1)).map (fun t => (j + 1, t))
  | none => none
def whyS (σ : Sg) : Option (Nat × Nat × Nat) := match srch (fun b => (whyR σ b).isSome) 0 (σ 9 0).toNat with
  | some b => (whyR σ b).map (fun q => (b, q.1, q.2))
  | none => none
def pick (w : Int) (b r t : Nat) : Int := if w = 0 then b else if w = 1 then r else t
section
variable {h : Hp} {m : Nat} {σ : Sg}
theorem s_breaks (hw : WF σ) (b : Nat) (hb : b < 16) (r : Nat) (t : Int) (hr : 1 ≤ r ∧ r ≤ 3) (ht : -1000 ≤ t ∧ t ≤ 1000) : f_X8_breaks m (iI b) (iI r) (iI t) (MH h m σ) = some (iI (b2 (brk σ b r t = true)), MH h m σ) := by
  by_cases h3 : r = 3
  · subst h3; exact s_breaks3 hw b hb t ht
  · exact s_breaks12 hw b hb r t (by omega) ht
theorem s_why40 (hw : WF σ) (w : Int) (hww : 0 ≤ w ∧ w ≤ 2) (b r : Nat) (hb : b < 16) (hr : 1 ≤ r ∧ r ≤ 3) (k13 : Option Nat × Int32 × Int32 × Hp → Option (Int32 × Hp)) (k23 : Option Nat × Int32 × Int32 × Int32 × Hp → Option (Int32 × Hp)) : f_X8_why_40 k13 k23 (some m) (iI w) (iI b) (iI r) (iI 0) (MH h m σ) = (match whyT σ b r with | some t => some (iI (pick w b r t), MH h m σ) | none => k23 (some m, iI w, iI b, iI ((r : Int) + 1), MH h m σ)) := by
  unfold f_X8_why_40
  have := lp_search (B := fun k2 u => fb_X8_why_40 k13 k23 k2 u.1 u.2.1 u.2.2.1 u.2.2.2.1 u.2.2.2.2.1 u.2.2.2.2.2) (fun t => (some m, iI w, iI b, iI r, iI (t : Int), MH h m σ)) 240 (fun t => brk σ b r t) (fun t => some (iI (pick w b r t), MH h m σ)) (k23 (some m, iI w, iI b, iI ((r : Int) + 1), MH h m σ))
    (fun t ht k => by
      show fb_X8_why_40 k13 k23 k (some m) (iI w) (iI b) (iI r) (iI (t : Int)) (MH h m σ) = if _ then _ else k (some m, iI w, iI b, iI r, iI ((t + 1 : Nat) : Int), MH h m σ)
      unfold fb_X8_why_40 f_X8_why_78
      simp (disch := omega) only [rcv_M, mR0, mS0, mR1, mL1, mS1, mR2, mL2, mS2, mR3, mL3, mS3, mR4, mS4, mR5, mS5, mR6, mL6, mS6, mR7, mL7, mS7, mR8, mL8, mS8, mR9, mS9, mR10, mL10, mS10, mR11, mL11, mS11, mR12, mL12, mS12, mR13, mL13, mS13, mR14, mL14, mS14, mR15, mL15, mS15, mR16, mL16, mS16, mR17, mL17, mS17, mR18, mL18, mS18, mR19, mL19, mS19, mR20, mL20, mS20, mR21, mL21, mS21, mR22, mL22, mS22, mR23, mL23, mS23, mR24, mL24, mS24, mR25, mL25, mS25, mR26, mL26, mS26, mR27, mL27, mS27, mR28, mL28, mS28, mR29, mL29, mS29, mR30, mL30, mS30, mR31, mL31, mS31, mR32, mL32, mS32, mR33, mL33, mS33, iI_0, iI_1, iI_neg, iL2, iL3, iL4, iL5, iL6, iL7, iL8, iL9, iL10, iL11, iL12, iL13, iL14, iL15, iL16, iL17, iL30, iL31, iL60, iL99, iL100, iL240, iL480, iL1000, iL1920, iL10000, iI_add, iI_sub, iI_mul, iI_div, iI_le, iI_lt, iI_eq, bd_s, s_breaks hw, iI_b2, Int.natCast_succ]
      rw [if_neg (by omega)]
      cases brk σ b r t with
      | false => simp
      | true =>
        simp only [not_true_eq_false, if_false, if_true]
        unfold pick rtI
        (repeat' split) <;> rfl)
    (fun k => by
      show fb_X8_why_40 k13 k23 k (some m) (iI w) (iI b) (iI r) (iI ((240 : Nat) : Int)) (MH h m σ) = _
      unfold fb_X8_why_40
      rw [if_pos (by decide), iI_1, iI_add]) 240 0 FU (by omega) (by rw [FU_eq]; omega)
  refine this.trans ?_
  unfold whyT
  cases srch (fun t : Nat => brk σ b r t) 0 240 <;> rfl
theorem s_why23 (hw : WF σ) (w : Int) (hww : 0 ≤ w ∧ w ≤ 2) (b : Nat) (hb : b < 16) (k13 : Option Nat × Int32 × Int32 × Hp → Option (Int32 × Hp)) : f_X8_why_23 k13 (some m) (iI w) (iI b) (iI 1) (MH h m σ) = (match whyR σ b with | some q => some (iI (pick w b q.1 q.2), MH h m σ) | none => k13 (some m, iI w, iI ((b : Int) + 1), MH h m σ)) := by
  have hg := (hw.bid hb).2.2.2.2.2.2.2.2.2
  unfold f_X8_why_23
  by_cases c : σ 19 b = 0
  · unfold whyR
    rw [if_pos c, FU_eq, lp_succ]
    show fb_X8_why_23 k13 _ (some m) (iI w) (iI b) (iI 1) (MH h m σ) = _
    unfold fb_X8_why_23 f_X8_why_91
    simp (disch := omega) only [rcv_M, mR0, mS0, mR1, mL1, mS1, mR2, mL2, mS2, mR3, mL3, mS3, mR4, mS4, mR5, mS5, mR6, mL6, mS6, mR7, mL7, mS7, mR8, mL8, mS8, mR9, mS9, mR10, mL10, mS10, mR11, mL11, mS11, mR12, mL12, mS12, mR13, mL13, mS13, mR14, mL14, mS14, mR15, mL15, mS15, mR16, mL16, mS16, mR17, mL17, mS17, mR18, mL18, mS18, mR19, mL19, mS19, mR20, mL20, mS20, mR21, mL21, mS21, mR22, mL22, mS22, mR23, mL23, mS23, mR24, mL24, mS24, mR25, mL25, mS25, mR26, mL26, mS26, mR27, mL27, mS27, mR28, mL28, mS28, mR29, mL29, mS29, mR30, mL30, mS30, mR31, mL31, mS31, mR32, mL32, mS32, mR33, mL33, mS33, iI_0, iI_1, iI_neg, iL2, iL3, iL4, iL5, iL6, iL7, iL8, iL9, iL10, iL11, iL12, iL13, iL14, iL15, iL16, iL17, iL30, iL31, iL60, iL99, iL100, iL240, iL480, iL1000, iL1920, iL10000, iI_add, iI_sub, iI_mul, iI_div, iI_le, iI_lt, iI_eq, bd_s, Int.toNat_natCast]
    rw [if_neg (by omega), if_pos c]
  · have := lp_search (B := fun k2 u => fb_X8_why_23 k13 k2 u.1 u.2.1 u.2.2.1 u.2.2.2.1 u.2.2.2.2) (fun j => (some m, iI w, iI b, iI ((j : Int) + 1), MH h m σ)) 3 (fun j => (whyT σ b (j + 1)).isSome) (fun j => match whyT σ b (j + 1) with | some t => some (iI (pick w b (j + 1) t), MH h m σ) | none => none) (k13 (some m, iI w, iI ((b : Int) + 1), MH h m σ))
      (fun j hj k => by
        show fb_X8_why_23 k13 k (some m) (iI w) (iI b) (iI ((j : Int) + 1)) (MH h m σ) = if _ then _ else k (some m, iI w, iI b, iI (((j + 1 : Nat) : Int) + 1), MH h m σ)
        unfold fb_X8_why_23
        have e40 := s_why40 (h := h) (m := m) hw w hww b (j + 1) hb (by omega) k13 k
        rw [show (((j + 1 : Nat) : Int)) = (j : Int) + 1 by omega] at e40
        simp (disch := omega) only [rcv_M, mR0, mS0, mR1, mL1, mS1, mR2, mL2, mS2, mR3, mL3, mS3, mR4, mS4, mR5, mS5, mR6, mL6, mS6, mR7, mL7, mS7, mR8, mL8, mS8, mR9, mS9, mR10, mL10, mS10, mR11, mL11, mS11, mR12, mL12, mS12, mR13, mL13, mS13, mR14, mL14, mS14, mR15, mL15, mS15, mR16, mL16, mS16, mR17, mL17, mS17, mR18, mL18, mS18, mR19, mL19, mS19, mR20, mL20, mS20, mR21, mL21, mS21, mR22, mL22, mS22, mR23, mL23, mS23, mR24, mL24, mS24, mR25, mL25, mS25, mR26, mL26, mS26, mR27, mL27, mS27, mR28, mL28, mS28, mR29, mL29, mS29, mR30, mL30, mS30, mR31, mL31, mS31, mR32, mL32, mS32, mR33, mL33, mS33, iI_0, iI_1, iI_neg, iL2, iL3, iL4, iL5, iL6, iL7, iL8, iL9, iL10, iL11, iL12, iL13, iL14, iL15, iL16, iL17, iL30, iL31, iL60, iL99, iL100, iL240, iL480, iL1000, iL1920, iL10000, iI_add, iI_sub, iI_mul, iI_div, iI_le, iI_lt, iI_eq, bd_s, Int.toNat_natCast]
        rw [if_neg (by omega), if_neg c, e40]
        cases whyT σ b (j + 1) with
        | none => simp
        | some t => simp)
      (fun k => by
        show fb_X8_why_23 k13 k (some m) (iI w) (iI b) (iI (((3 : Nat) : Int) + 1)) (MH h m σ) = _
        unfold fb_X8_why_23 f_X8_why_91
        rw [if_pos (by decide), iI_1, iI_add]) 3 0 FU (by omega) (by rw [FU_eq]; omega)
    refine this.trans ?_
    unfold whyR
    rw [if_neg c]
    cases hs : srch (fun j => (whyT σ b (j + 1)).isSome) 0 3 with
    | none => rfl
    | some j =>
      have h3 := (srch_some.mp hs).2.2.1
      cases ht : whyT σ b (j + 1) with
      | none => rw [ht] at h3; cases h3
      | some t => simp [ht]
theorem s_why (hw : WF σ) (w : Int) (hww : I32 w) : f_X8_why m (iI w) (MH h m σ) = some (iI (if 0 ≤ w ∧ w ≤ 2 then (match whyS σ with | some q => pick w q.1 q.2.1 q.2.2 | none => -1) else -1), MH h m σ) := by
  unfold I32 at hww
  have h9 := hw.2.2.2.1
  unfold f_X8_why
  by_cases c : 0 ≤ w ∧ w ≤ 2
  · rw [if_pos c, iI_0, iL2, s_in _ _ _ _ (by omega) (by omega) (by omega), bd_s, if_neg (by rw [iI_b2]; exact fun z => z c)]
    unfold f_X8_why_13
    have := lp_search (B := fun k2 u => fb_X8_why_13 k2 u.1 u.2.1 u.2.2.1 u.2.2.2) (fun b => (some m, iI w, iI (b : Int), MH h m σ)) (σ 9 0).toNat (fun b => (whyR σ b).isSome) (fun b => match whyR σ b with | some q => some (iI (pick w b q.1 q.2), MH h m σ) | none => none) (some (iI (-1), MH h m σ))
      (fun b hb k => by
        show fb_X8_why_13 k (some m) (iI w) (iI (b : Int)) (MH h m σ) = if _ then _ else k (some m, iI w, iI ((b + 1 : Nat) : Int), MH h m σ)
        unfold fb_X8_why_13
        rw [mR9, if_neg (by rw [iI_le (by omega) (by omega) (by omega) (by omega)]; omega), iI_1, s_why23 hw w c b (by omega)]
        cases whyR σ b with
        | none => simp
        | some q => simp)
      (fun k => by
        show fb_X8_why_13 k (some m) (iI w) (iI ((σ 9 0).toNat : Int)) (MH h m σ) = _
        unfold fb_X8_why_13
        rw [mR9, if_pos (by rw [iI_le (by omega) (by omega) (by omega) (by omega)]; omega), iI_m1]
        rfl) (σ 9 0).toNat 0 FU (by omega) (by rw [FU_eq]; omega)
    refine this.trans ?_
    unfold whyS
    cases hs : srch (fun b => (whyR σ b).isSome) 0 (σ 9 0).toNat with
    | none => rfl
    | some b =>
      have h3 := (srch_some.mp hs).2.2.1
      cases ht : whyR σ b with
      | none => rw [ht] at h3; cases h3
      | some q => simp [ht]
  · rw [if_neg c, iI_0, iL2, s_in _ _ _ _ (by omega) (by omega) (by omega), bd_s, if_pos (by rw [iI_b2]; exact c), iI_m1]
    rfl
end
