theorem jle {α : Type} {a b : Int} (a1 : -2147483648 ≤ a) (a2 : a < 2147483648) (b1 : -2147483648 ≤ b) (b2 : b < 2147483648) (A B : α) : (if iI a ≤ iI b then A else B) = if a ≤ b then A else B := by simp only [iI_le a1 a2 b1 b2]
theorem jlt {α : Type} {a b : Int} (a1 : -2147483648 ≤ a) (a2 : a < 2147483648) (b1 : -2147483648 ≤ b) (b2 : b < 2147483648) (A B : α) : (if iI a < iI b then A else B) = if a < b then A else B := by simp only [iI_lt a1 a2 b1 b2]
theorem jeq {α : Type} {a b : Int} (a1 : -2147483648 ≤ a) (a2 : a < 2147483648) (b1 : -2147483648 ≤ b) (b2 : b < 2147483648) (A B : α) : (if iI a = iI b then A else B) = if a = b then A else B := by simp only [iI_eq a1 a2 b1 b2]
/-! the run: fields 26 leg, 27 until, 28 came, 29 left, 30 wentIn, 31 own, 32 nobody, 33 blamed of ρ; what is given in σ -/
def hlP (σ ρ : Sg) (b : Nat) (s t : Int) (o : Nat) : Bool := decide (o ≠ b ∧ σ 19 o ≠ 0 ∧ (σ 1 s.toNat = 0 ∨ (σ 11 o < σ 12 o) = (σ 11 b < σ 12 b)) ∧ legO σ o s ≠ -1 ∧ ρ 30 (8 * o + legO σ o s).toNat ≠ -1 ∧ ρ 30 (8 * o + legO σ o s).toNat ≤ t ∧ t ≤ ρ 30 (8 * o + legO σ o s).toNat + lng σ o (legO σ o s) - 1 + bhd σ)
def hlR (σ ρ : Sg) (b : Nat) (s t : Int) : Option Nat := srch (hlP σ ρ b s t) 0 (σ 9 0).toNat
def rstep (σ ρ : Sg) (b : Nat) (t : Int) : Sg :=
  if ρ 27 b ≤ t then
    if ρ 26 b = lgs σ b then (if ρ 28 b = -1 then sg ρ 28 b (ρ 27 b) else ρ)
    else if lv σ b (ρ 26 b) ≤ t then
      if ρ 29 (8 * b + stn σ b (ρ 26 b)).toNat ≤ 0 then
        if clsd σ (sec σ b (ρ 26 b)) t = true then sg ρ 32 b (ρ 32 b + 1)
        else match hlR σ ρ b (sec σ b (ρ 26 b)) t with
          | some o => sg ρ 33 (16 * b + o) (ρ 33 (16 * b + o) + 1)
          | none => sg (sg (sg ρ 30 (8 * b + ρ 26 b).toNat t) 27 b (t + lng σ b (ρ 26 b))) 26 b (ρ 26 b + 1)
      else sg (sg ρ 29 (8 * b + stn σ b (ρ 26 b)).toNat (ρ 29 (8 * b + stn σ b (ρ 26 b)).toNat - 1)) 31 b (ρ 31 b + 1)
    else ρ
  else ρ
def RW (σ ρ : Sg) : Prop := ∀ b : Nat, (b : Int) < σ 9 0 → (0 ≤ ρ 26 b ∧ ρ 26 b ≤ lgs σ b) ∧ (0 ≤ ρ 27 b ∧ ρ 27 b ≤ 600) ∧ (-1 ≤ ρ 28 b ∧ ρ 28 b ≤ 600) ∧ ∀ i : Nat, i < 8 → (0 ≤ ρ 29 (8 * b + i) ∧ ρ 29 (8 * b + i) ≤ 60) ∧ (-1 ≤ ρ 30 (8 * b + i) ∧ ρ 30 (8 * b + i) ≤ 479)
section
variable {h : Hp} {m : Nat} {σ : Sg}
set_option maxHeartbeats 4000000 in
theorem s_holder (hw : WF σ) (hr : RW σ σ) (b : Nat) (hb : (b : Int) < σ 9 0) (s t : Int) (hs : 0 ≤ s ∧ s < 8) (ht : 0 ≤ t ∧ t ≤ 1000) : f_X8_holder m (iI b) (iI s) (iI t) (MH h m σ) = some (iI (match hlR σ σ b s t with | some o => (o : Int) | none => -1), MH h m σ) := by
  have h9 := hw.2.2.2.1
  have hbh := bhd_rng hw
  unfold f_X8_holder f_X8_holder_3
  refine (lp_search (B := fun k3 u => fb_X8_holder_3 k3 u.1 u.2.1 u.2.2.1 u.2.2.2.1 u.2.2.2.2.1 u.2.2.2.2.2) (fun o => (some m, iI (b : Int), iI s, iI t, iI (o : Int), MH h m σ)) (σ 9 0).toNat (hlP σ σ b s t) (fun o => some (iI (o : Int), MH h m σ)) (some (iI (-1), MH h m σ)) (fun o ho k => ?_) (fun k => ?_) (σ 9 0).toNat 0 FU (by omega) (by rw [FU_eq]; omega)).trans ?_
  · have hB : o < 16 := by omega
    have hg := (hw.bid hB).2.2.2.2.2.2.2.2.2
    have hlo := legO_rng hw hB (s := s)
    have hd := hw.2.2.2.2.1 s.toNat
    obtain ⟨-, -, -, hro⟩ := hr o (by omega)
    have h121 : f_X8_holder_121 k (some m) (iI b) (iI s) (iI t) (iI (o : Int)) (MH h m σ) = k (some m, iI b, iI s, iI t, iI ((o + 1 : Nat) : Int), MH h m σ) := by
      unfold f_X8_holder_121
      rw [iI_1, iI_add, Int.natCast_succ]
    have h47 : f_X8_holder_47 k (some m) (iI b) (iI s) (iI t) (iI (o : Int)) (MH h m σ) = k (some m, iI b, iI s, iI t, iI ((o + 1 : Nat) : Int), MH h m σ) := by
      unfold f_X8_holder_47 f_X8_holder_58 f_X8_holder_83
      rw [if_pos rfl, if_pos rfl, h121]
    have h51 : ∀ (hne : o ≠ b) (hgv : σ 19 o ≠ 0) (hsh : σ 1 s.toNat = 0 ∨ (σ 11 o < σ 12 o) = (σ 11 b < σ 12 b)), f_X8_holder_51 k (some m) (iI b) (iI s) (iI t) (iI (o : Int)) (MH h m σ) = if hlP σ σ b s t o = true then some (iI (o : Int), MH h m σ) else k (some m, iI b, iI s, iI t, iI ((o + 1 : Nat) : Int), MH h m σ) := by
      intro hne hgv hsh
      unfold f_X8_holder_51 f_X8_holder_58 f_X8_holder_83
      rw [rcv_M, s_legOver hw o hB s (by omega), bd_s]
      by_cases c1 : legO σ o s = -1
      · rw [c1, if_pos (by decide), if_pos (by decide), h121, if_neg (by simp [hlP, c1])]
      · obtain ⟨l1, l2, -⟩ := legO_some c1
        have hlr := hro (legO σ o s).toNat (by omega)
        have e8 : (8 * (o : Int) + legO σ o s).toNat = 8 * o + (legO σ o s).toNat := by omega
        have hln := lng_rng hw hB l1 l2
        simp (disch := omega) only [rcv_M, mR0, mS0, mR1, mL1, mS1, mR2, mL2, mS2, mR3, mL3, mS3, mR4, mS4, mR5, mS5, mR6, mL6, mS6, mR7, mL7, mS7, mR8, mL8, mS8, mR9, mS9, mR10, mL10, mS10, mR11, mL11, mS11, mR12, mL12, mS12, mR13, mL13, mS13, mR14, mL14, mS14, mR15, mL15, mS15, mR16, mL16, mS16, mR17, mL17, mS17, mR18, mL18, mS18, mR19, mL19, mS19, mR20, mL20, mS20, mR21, mL21, mS21, mR22, mL22, mS22, mR23, mL23, mS23, mR24, mL24, mS24, mR25, mL25, mS25, mR26, mL26, mS26, mR27, mL27, mS27, mR28, mL28, mS28, mR29, mL29, mS29, mR30, mL30, mS30, mR31, mL31, mS31, mR32, mL32, mS32, mR33, mL33, mS33, iI_0, iI_1, iI_neg, iL2, iL3, iL4, iL5, iL6, iL7, iL8, iL9, iL10, iL11, iL12, iL13, iL14, iL15, iL16, iL17, iL30, iL31, iL60, iL99, iL100, iL240, iL480, iL1000, iL1920, iL10000, iI_add, iI_sub, iI_mul, iI_div, iI_le, iI_lt, iI_eq, bd_s, iI_m1, e8, s_longOf hw o hB _ l1 l2, s_behind hw, s_in, iI_b2, h121]
        rw [if_neg c1]
        by_cases c2 : σ 30 (8 * o + (legO σ o s).toNat) = -1
        · rw [if_pos c2, if_neg (by simp [hlP, e8, c2])]
        · rw [if_neg c2]
          simp only [hlP, e8, decide_eq_true_eq]
          by_cases c3 : σ 30 (8 * o + (legO σ o s).toNat) ≤ t ∧ t ≤ σ 30 (8 * o + (legO σ o s).toNat) + lng σ o (legO σ o s) - 1 + bhd σ
          · rw [if_neg (fun z => z c3), if_pos ⟨hne, hgv, hsh, c1, c2, c3⟩]
            rfl
          · rw [if_pos c3, if_neg (fun z => c3 z.2.2.2.2.2)]
    show fb_X8_holder_3 k (some m) (iI b) (iI s) (iI t) (iI (o : Int)) (MH h m σ) = _
    unfold fb_X8_holder_3
    simp (disch := omega) only [rcv_M, mR0, mS0, mR1, mL1, mS1, mR2, mL2, mS2, mR3, mL3, mS3, mR4, mS4, mR5, mS5, mR6, mL6, mS6, mR7, mL7, mS7, mR8, mL8, mS8, mR9, mS9, mR10, mL10, mS10, mR11, mL11, mS11, mR12, mL12, mS12, mR13, mL13, mS13, mR14, mL14, mS14, mR15, mL15, mS15, mR16, mL16, mS16, mR17, mL17, mS17, mR18, mL18, mS18, mR19, mL19, mS19, mR20, mL20, mS20, mR21, mL21, mS21, mR22, mL22, mS22, mR23, mL23, mS23, mR24, mL24, mS24, mR25, mL25, mS25, mR26, mL26, mS26, mR27, mL27, mS27, mR28, mL28, mS28, mR29, mL29, mS29, mR30, mL30, mS30, mR31, mL31, mS31, mR32, mL32, mS32, mR33, mL33, mS33, iI_0, iI_1, iI_neg, iL2, iL3, iL4, iL5, iL6, iL7, iL8, iL9, iL10, iL11, iL12, iL13, iL14, iL15, iL16, iL17, iL30, iL31, iL60, iL99, iL100, iL240, iL480, iL1000, iL1920, iL10000, iI_add, iI_sub, iI_mul, iI_div, iI_le, iI_lt, iI_eq, bd_s, Int.toNat_natCast, h47, s_isSameWay hw]
    rw [if_neg (by omega)]
    by_cases c1 : (o : Int) = b
    · rw [if_pos c1, if_neg (by simp [hlP]; omega)]
    · rw [if_neg c1]
      by_cases c2 : σ 19 o = 0
      · rw [if_pos c2, if_neg (by simp [hlP, c2])]
      · rw [if_neg c2]
        by_cases c3 : σ 1 s.toNat = 0
        · rw [if_pos c3, h51 (by omega) c2 (Or.inl c3)]
        · rw [if_neg c3]
          by_cases c4 : (σ 11 o < σ 12 o) = (σ 11 b < σ 12 b)
          · rw [if_pos c4, if_neg (by omega), h51 (by omega) c2 (Or.inr c4)]
          · rw [if_neg c4, if_pos rfl, if_neg (by simp only [hlP, decide_eq_true_eq]; exact fun z => z.2.2.1.elim c3 c4)]
  · show fb_X8_holder_3 k (some m) (iI b) (iI s) (iI t) (iI ((σ 9 0).toNat : Int)) (MH h m σ) = _
    unfold fb_X8_holder_3
    simp (disch := omega) only [rcv_M, mR0, mS0, mR1, mL1, mS1, mR2, mL2, mS2, mR3, mL3, mS3, mR4, mS4, mR5, mS5, mR6, mL6, mS6, mR7, mL7, mS7, mR8, mL8, mS8, mR9, mS9, mR10, mL10, mS10, mR11, mL11, mS11, mR12, mL12, mS12, mR13, mL13, mS13, mR14, mL14, mS14, mR15, mL15, mS15, mR16, mL16, mS16, mR17, mL17, mS17, mR18, mL18, mS18, mR19, mL19, mS19, mR20, mL20, mS20, mR21, mL21, mS21, mR22, mL22, mS22, mR23, mL23, mS23, mR24, mL24, mS24, mR25, mL25, mS25, mR26, mL26, mS26, mR27, mL27, mS27, mR28, mL28, mS28, mR29, mL29, mS29, mR30, mL30, mS30, mR31, mL31, mS31, mR32, mL32, mS32, mR33, mL33, mS33, iI_0, iI_1, iI_neg, iL2, iL3, iL4, iL5, iL6, iL7, iL8, iL9, iL10, iL11, iL12, iL13, iL14, iL15, iL16, iL17, iL30, iL31, iL60, iL99, iL100, iL240, iL480, iL1000, iL1920, iL10000, iI_add, iI_sub, iI_mul, iI_div, iI_le, iI_lt, iI_eq, bd_s]
    rw [if_pos (by omega)]
    rfl
  · unfold hlR
    cases srch (hlP σ σ b s t) 0 (σ 9 0).toNat <;> rfl
set_option maxHeartbeats 4000000 in
theorem s_steps (hw : WB σ) (hr : RW σ σ) (b : Nat) (hb : (b : Int) < σ 9 0) (t : Int) (ht : 0 ≤ t ∧ t ≤ 479) : f_X8_steps m (iI b) (iI t) (MH h m σ) = some ((), MH h m (rstep σ σ b t)) := by
  have h9 := hw.1.2.2.2.1
  have hB : b < 16 := by omega
  have hlg := lgs_rng hw.1 hB
  obtain ⟨r1, r2, r3, r4⟩ := hr b hb
  unfold f_X8_steps f_X8_steps_49 f_X8_steps_214 rstep
  rw [mR27, mL27 (by omega) (by omega), Int.toNat_natCast, jle (by omega) (by omega) (by omega) (by omega)]
  by_cases c1 : σ 27 b ≤ t
  · rw [if_pos c1, if_pos c1, mR26, mL26 (by omega) (by omega), Int.toNat_natCast, rcv_M, s_legs hw.1 b hB, bd_s, jeq (by omega) (by omega) (by omega) (by omega)]
    by_cases c2 : σ 26 b = lgs σ b
    · rw [if_pos c2, if_pos c2, mR28, mL28 (by omega) (by omega), Int.toNat_natCast, iI_m1, jeq (by omega) (by omega) (by omega) (by omega)]
      by_cases c3 : σ 28 b = -1
      · rw [if_pos c3, if_pos c3, mR28, mR27, mL27 (by omega) (by omega), Int.toNat_natCast, mS28 (by omega) (by omega), Int.toNat_natCast]
        rfl
      · rw [if_neg c3, if_neg c3]
        rfl
    · have hlt : σ 26 b < lgs σ b := by omega
      have hlv := lv_rng hw.1 hB (i := σ 26 b) (by omega) (by omega)
      have hse := sec_rng hw.1 hB (i := σ 26 b) (by omega) hlt
      have hst := stn_rng hw.1 hB (i := σ 26 b) (by omega) (by omega)
      have hle := hr b hb |>.2.2.2 (stn σ b (σ 26 b)).toNat (by omega)
      have e8 : (8 * (b : Int) + stn σ b (σ 26 b)).toNat = 8 * b + (stn σ b (σ 26 b)).toNat := by omega
      rw [← e8] at hle
      have elv : σ 20 (8 * (b : Int) + σ 26 b).toNat = lv σ b (σ 26 b) := rfl
      rw [if_neg c2, if_neg c2, mR20, iL8, iI_mul, iI_add, mL20 (by omega) (by omega), elv, jle (by omega) (by omega) (by omega) (by omega)]
      by_cases c3 : lv σ b (σ 26 b) ≤ t
      · rw [if_pos c3, if_pos c3, rcv_M, s_sectionOf hw.1 b hB _ (by omega), bd_s, rcv_M, s_stationOf hw.1 b hB _ (by omega), bd_s, rcv_M, s_holder hw.1 hr b hb _ _ (by omega) (by omega), bd_s, mR29, iI_add, mL29 (by omega) (by omega), iI_0, jle (by omega) (by omega) (by omega) (by omega)]
        by_cases c4 : σ 29 (8 * (b : Int) + stn σ b (σ 26 b)).toNat ≤ 0
        · rw [if_pos c4, if_pos c4, rcv_M, s_isClosed hw.1 _ _ (by omega) (by omega), bd_s]
          simp only [iI_b2]
          by_cases c5 : clsd σ (sec σ b (σ 26 b)) t = true
          · rw [if_neg (fun z => z c5), if_pos c5, mR32, mL32 (by omega) (by omega), iI_1, iI_add, mS32 (by omega) (by omega), Int.toNat_natCast]
            rfl
          · rw [if_pos c5, if_neg c5]
            cases hq : hlR σ σ b (sec σ b (σ 26 b)) t with
            | none =>
              simp only
              rw [iI_m1, if_pos rfl, mR30, mS30 (by omega) (by omega), mR27, rcv_M]
              have hw2 : WF (sg σ 30 (8 * (b : Int) + σ 26 b).toNat t) := hw.1
              rw [s_longOf hw2 b hB _ (by omega) hlt, bd_s, iI_add, mS27 (by omega) (by omega), mR26, iI_1, iI_add, mS26 (by omega) (by omega), Int.toNat_natCast]
              rfl
            | some o =>
              have ho := (srch_some.mp hq).2.1
              simp only
              have e16 : (16 * (b : Int) + (o : Int)).toNat = 16 * b + o := by omega
              rw [iI_m1, if_neg (by rw [iI_eq (by omega) (by omega) (by omega) (by omega)]; omega), mR33, iL16, iI_mul, iI_add, mL33 (by omega) (by omega), iI_1, iI_add, mS33 (by omega) (by omega), e16]
              rfl
        · rw [if_neg c4, if_neg c4, mR29, mL29 (by omega) (by omega), iI_1, iI_sub, mS29 (by omega) (by omega), mR31, mL31 (by omega) (by omega), iI_add, mS31 (by omega) (by omega), Int.toNat_natCast]
          rfl
      · rw [if_neg c3, if_neg c3]
        rfl
  · rw [if_neg c1, if_neg c1]
    rfl
end
