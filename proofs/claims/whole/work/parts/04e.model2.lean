theorem iI_b2 (p : Prop) [Decidable p] : (iI (b2 p) = iI 0) ↔ ¬ p := by
  unfold b2
  by_cases hp : p
  · rw [if_pos hp]; exact ⟨fun z => absurd z (by decide), fun z => absurd hp z⟩
  · rw [if_neg hp]; exact ⟨fun _ => hp, fun _ => rfl⟩
theorem b2_t {p : Prop} [Decidable p] (hp : p) : b2 p = 1 := if_pos hp
theorem b2_f {p : Prop} [Decidable p] (hp : ¬ p) : b2 p = 0 := if_neg hp
theorem b2_iff {p q : Prop} [Decidable p] [Decidable q] (e : p ↔ q) : b2 p = b2 q := by
  unfold b2
  by_cases hp : p
  · rw [if_pos hp, if_pos (e.mp hp)]
  · rw [if_neg hp, if_neg (fun z => hp (e.mpr z))]
/-- some j below n -/
def exB (P : Nat → Bool) (n : Nat) : Bool := (srch P 0 n).isSome
theorem exB_iff {P : Nat → Bool} {n : Nat} : exB P n = true ↔ ∃ j, j < n ∧ P j = true := by
  unfold exB
  cases hs : srch P 0 n with
  | none =>
    have := srch_none.mp hs
    exact ⟨fun z => (by cases z), fun ⟨j, h1, h2⟩ => by rw [this j (Nat.zero_le _) (by omega)] at h2; cases h2⟩
  | some j =>
    have := srch_some.mp hs
    exact ⟨fun _ => ⟨j, by omega, this.2.2.1⟩, fun _ => rfl⟩
theorem rt0 (h : Hp) : rtZ (iI 0) h = some (iI 0, h) := rtZ_i (Or.inl rfl) h
theorem rt1 (h : Hp) : rtZ (iI 1) h = some (iI 1, h) := rtZ_i (Or.inr rfl) h
def clsP (σ : Sg) (s t : Int) (w : Nat) : Bool := decide (σ 6 w = s ∧ σ 7 w ≤ t ∧ t < σ 8 w)
def clsd (σ : Sg) (s t : Int) : Bool := exB (clsP σ s t) (σ 5 0).toNat
def bhd (σ : Sg) : Int := if σ 4 0 ≤ 0 then 0 else σ 4 0 - 1
def apart (σ : Sg) (a la b lb : Int) : Prop := b + lb + bhd σ ≤ a ∨ a + la + bhd σ ≤ b
def same (σ : Sg) (a b : Nat) : Prop := (σ 11 a < σ 12 a) ↔ (σ 11 b < σ 12 b)
section
variable {h : Hp} {m : Nat} {σ : Sg}
theorem WF.bid (hw : WF σ) {b : Nat} (hb : b < 16) : (0 ≤ σ 10 b ∧ σ 10 b ≤ 5) ∧ (0 ≤ σ 11 b ∧ σ 11 b ≤ 7) ∧ (0 ≤ σ 12 b ∧ σ 12 b ≤ 7) ∧ (0 ≤ σ 13 b ∧ σ 13 b ≤ 1) ∧ (0 ≤ σ 14 b ∧ σ 14 b ≤ 239) ∧ (0 ≤ σ 15 b ∧ σ 15 b ≤ 239) ∧ (0 ≤ σ 16 b ∧ σ 16 b ≤ 1000) ∧ (0 ≤ σ 17 b ∧ σ 17 b ≤ 99) ∧ (-1 ≤ σ 18 b ∧ σ 18 b ≤ 15) ∧ (σ 19 b = 0 ∨ σ 19 b = 1) := hw.2.2.2.2.2.2.2.2.1 b hb
theorem s_stationOf (hw : WF σ) (b : Nat) (hb : b < 16) (i : Int) (hi : -1000 ≤ i ∧ i ≤ 1000) : f_X8_stationOf m (iI b) (iI i) (MH h m σ) = some (iI (stn σ b i), MH h m σ) := by
  obtain ⟨-, h1, h2, -⟩ := hw.bid hb
  unfold f_X8_stationOf f_X8_stationOf_34
  simp (disch := omega) only [rcv_M, mR0, mS0, mR1, mL1, mS1, mR2, mL2, mS2, mR3, mL3, mS3, mR4, mS4, mR5, mS5, mR6, mL6, mS6, mR7, mL7, mS7, mR8, mL8, mS8, mR9, mS9, mR10, mL10, mS10, mR11, mL11, mS11, mR12, mL12, mS12, mR13, mL13, mS13, mR14, mL14, mS14, mR15, mL15, mS15, mR16, mL16, mS16, mR17, mL17, mS17, mR18, mL18, mS18, mR19, mL19, mS19, mR20, mL20, mS20, mR21, mL21, mS21, mR22, mL22, mS22, mR23, mL23, mS23, mR24, mL24, mS24, mR25, mL25, mS25, mR26, mL26, mS26, mR27, mL27, mS27, mR28, mL28, mS28, mR29, mL29, mS29, mR30, mL30, mS30, mR31, mL31, mS31, mR32, mL32, mS32, mR33, mL33, mS33, iI_0, iI_1, iI_neg, iL2, iL3, iL4, iL5, iL6, iL7, iL8, iL9, iL10, iL11, iL12, iL13, iL14, iL15, iL16, iL17, iL30, iL31, iL60, iL99, iL100, iL240, iL480, iL1000, iL1920, iL10000, iI_add, iI_sub, iI_mul, iI_div, iI_le, iI_lt, iI_eq, bd_s, Int.toNat_natCast]
  unfold stn
  by_cases hc : σ 11 b < σ 12 b
  · rw [if_neg (by omega), if_pos hc]; rfl
  · rw [if_pos (by omega), if_neg hc]; rfl
theorem s_sectionOf (hw : WF σ) (b : Nat) (hb : b < 16) (i : Int) (hi : -1000 ≤ i ∧ i ≤ 1000) : f_X8_sectionOf m (iI b) (iI i) (MH h m σ) = some (iI (sec σ b i), MH h m σ) := by
  obtain ⟨-, h1, h2, -⟩ := hw.bid hb
  unfold f_X8_sectionOf f_X8_sectionOf_36
  simp (disch := omega) only [rcv_M, mR0, mS0, mR1, mL1, mS1, mR2, mL2, mS2, mR3, mL3, mS3, mR4, mS4, mR5, mS5, mR6, mL6, mS6, mR7, mL7, mS7, mR8, mL8, mS8, mR9, mS9, mR10, mL10, mS10, mR11, mL11, mS11, mR12, mL12, mS12, mR13, mL13, mS13, mR14, mL14, mS14, mR15, mL15, mS15, mR16, mL16, mS16, mR17, mL17, mS17, mR18, mL18, mS18, mR19, mL19, mS19, mR20, mL20, mS20, mR21, mL21, mS21, mR22, mL22, mS22, mR23, mL23, mS23, mR24, mL24, mS24, mR25, mL25, mS25, mR26, mL26, mS26, mR27, mL27, mS27, mR28, mL28, mS28, mR29, mL29, mS29, mR30, mL30, mS30, mR31, mL31, mS31, mR32, mL32, mS32, mR33, mL33, mS33, iI_0, iI_1, iI_neg, iL2, iL3, iL4, iL5, iL6, iL7, iL8, iL9, iL10, iL11, iL12, iL13, iL14, iL15, iL16, iL17, iL30, iL31, iL60, iL99, iL100, iL240, iL480, iL1000, iL1920, iL10000, iI_add, iI_sub, iI_mul, iI_div, iI_le, iI_lt, iI_eq, bd_s, Int.toNat_natCast]
  unfold sec
  by_cases hc : σ 11 b < σ 12 b
  · rw [if_neg (by omega), if_pos hc]; rfl
  · rw [if_pos (by omega), if_neg hc]; rfl
theorem sec_rng (hw : WF σ) {b : Nat} (hb : b < 16) {i : Int} (h0 : 0 ≤ i) (h1 : i < lgs σ b) : 0 ≤ sec σ b i ∧ sec σ b i ≤ 6 := by
  obtain ⟨-, g1, g2, -⟩ := hw.bid hb
  unfold lgs at h1
  unfold sec
  split at h1 <;> omega
theorem lgs_rng (hw : WF σ) {b : Nat} (hb : b < 16) : 0 ≤ lgs σ b ∧ lgs σ b ≤ 7 := by
  obtain ⟨-, g1, g2, -⟩ := hw.bid hb
  unfold lgs
  split <;> omega
theorem lng_rng (hw : WF σ) {b : Nat} (hb : b < 16) {i : Int} (h0 : 0 ≤ i) (h1 : i < lgs σ b) : 1 ≤ lng σ b i ∧ lng σ b i ≤ 30 := by
  have h2 := sec_rng hw hb h0 h1
  obtain ⟨-, -, -, g3, -⟩ := hw.bid hb
  exact hw.2.2.2.2.2.1 _ (by omega)
theorem s_longOf (hw : WF σ) (b : Nat) (hb : b < 16) (i : Int) (h0 : 0 ≤ i) (h1 : i < lgs σ b) : f_X8_longOf m (iI b) (iI i) (MH h m σ) = some (iI (lng σ b i), MH h m σ) := by
  have h2 := sec_rng hw hb h0 h1
  have h3 := lgs_rng hw hb
  obtain ⟨-, -, -, g3, -⟩ := hw.bid hb
  unfold f_X8_longOf
  simp (disch := omega) only [rcv_M, mR0, mS0, mR1, mL1, mS1, mR2, mL2, mS2, mR3, mL3, mS3, mR4, mS4, mR5, mS5, mR6, mL6, mS6, mR7, mL7, mS7, mR8, mL8, mS8, mR9, mS9, mR10, mL10, mS10, mR11, mL11, mS11, mR12, mL12, mS12, mR13, mL13, mS13, mR14, mL14, mS14, mR15, mL15, mS15, mR16, mL16, mS16, mR17, mL17, mS17, mR18, mL18, mS18, mR19, mL19, mS19, mR20, mL20, mS20, mR21, mL21, mS21, mR22, mL22, mS22, mR23, mL23, mS23, mR24, mL24, mS24, mR25, mL25, mS25, mR26, mL26, mS26, mR27, mL27, mS27, mR28, mL28, mS28, mR29, mL29, mS29, mR30, mL30, mS30, mR31, mL31, mS31, mR32, mL32, mS32, mR33, mL33, mS33, iI_0, iI_1, iI_neg, iL2, iL3, iL4, iL5, iL6, iL7, iL8, iL9, iL10, iL11, iL12, iL13, iL14, iL15, iL16, iL17, iL30, iL31, iL60, iL99, iL100, iL240, iL480, iL1000, iL1920, iL10000, iI_add, iI_sub, iI_mul, iI_div, iI_le, iI_lt, iI_eq, bd_s, Int.toNat_natCast, s_sectionOf hw]
  rfl
theorem s_behind (hw : WF σ) : f_X8_behind m (MH h m σ) = some (iI (bhd σ), MH h m σ) := by
  obtain ⟨-, h4, -⟩ := hw
  unfold f_X8_behind f_X8_behind_17 bhd
  simp (disch := omega) only [rcv_M, mR0, mS0, mR1, mL1, mS1, mR2, mL2, mS2, mR3, mL3, mS3, mR4, mS4, mR5, mS5, mR6, mL6, mS6, mR7, mL7, mS7, mR8, mL8, mS8, mR9, mS9, mR10, mL10, mS10, mR11, mL11, mS11, mR12, mL12, mS12, mR13, mL13, mS13, mR14, mL14, mS14, mR15, mL15, mS15, mR16, mL16, mS16, mR17, mL17, mS17, mR18, mL18, mS18, mR19, mL19, mS19, mR20, mL20, mS20, mR21, mL21, mS21, mR22, mL22, mS22, mR23, mL23, mS23, mR24, mL24, mS24, mR25, mL25, mS25, mR26, mL26, mS26, mR27, mL27, mS27, mR28, mL28, mS28, mR29, mL29, mS29, mR30, mL30, mS30, mR31, mL31, mS31, mR32, mL32, mS32, mR33, mL33, mS33, iI_0, iI_1, iI_neg, iL2, iL3, iL4, iL5, iL6, iL7, iL8, iL9, iL10, iL11, iL12, iL13, iL14, iL15, iL16, iL17, iL30, iL31, iL60, iL99, iL100, iL240, iL480, iL1000, iL1920, iL10000, iI_add, iI_sub, iI_mul, iI_div, iI_le, iI_lt, iI_eq, bd_s]
  split <;> rfl
theorem bhd_rng (hw : WF σ) : 0 ≤ bhd σ ∧ bhd σ ≤ 8 := by
  obtain ⟨-, h4, -⟩ := hw
  unfold bhd
  split <;> omega
theorem s_areApart (hw : WF σ) (a la b lb : Int) (ha : 0 ≤ a ∧ a ≤ 1000) (hla : 0 ≤ la ∧ la ≤ 1000) (hb : 0 ≤ b ∧ b ≤ 1000) (hlb : 0 ≤ lb ∧ lb ≤ 1000) : f_X8_areApart m (iI a) (iI la) (iI b) (iI lb) (MH h m σ) = some (iI (if b + lb + bhd σ ≤ a ∨ a + la + bhd σ ≤ b then 1 else 0), MH h m σ) := by
  have h4 := bhd_rng hw
  unfold f_X8_areApart f_X8_areApart_25 f_X8_areApart_30
  simp (disch := omega) only [rcv_M, mR0, mS0, mR1, mL1, mS1, mR2, mL2, mS2, mR3, mL3, mS3, mR4, mS4, mR5, mS5, mR6, mL6, mS6, mR7, mL7, mS7, mR8, mL8, mS8, mR9, mS9, mR10, mL10, mS10, mR11, mL11, mS11, mR12, mL12, mS12, mR13, mL13, mS13, mR14, mL14, mS14, mR15, mL15, mS15, mR16, mL16, mS16, mR17, mL17, mS17, mR18, mL18, mS18, mR19, mL19, mS19, mR20, mL20, mS20, mR21, mL21, mS21, mR22, mL22, mS22, mR23, mL23, mS23, mR24, mL24, mS24, mR25, mL25, mS25, mR26, mL26, mS26, mR27, mL27, mS27, mR28, mL28, mS28, mR29, mL29, mS29, mR30, mL30, mS30, mR31, mL31, mS31, mR32, mL32, mS32, mR33, mL33, mS33, iI_0, iI_1, iI_neg, iL2, iL3, iL4, iL5, iL6, iL7, iL8, iL9, iL10, iL11, iL12, iL13, iL14, iL15, iL16, iL17, iL30, iL31, iL60, iL99, iL100, iL240, iL480, iL1000, iL1920, iL10000, iI_add, iI_sub, iI_mul, iI_div, iI_le, iI_lt, iI_eq, bd_s, s_behind hw, rt0, rt1]
  (repeat' split) <;> first | rfl | omega
theorem s_isSameWay (hw : WF σ) (a b : Nat) (ha : a < 16) (hb : b < 16) : f_X8_isSameWay m (iI a) (iI b) (MH h m σ) = some (iI (if (σ 11 a < σ 12 a) = (σ 11 b < σ 12 b) then 1 else 0), MH h m σ) := by
  obtain ⟨-, g1, g2, -⟩ := hw.bid ha
  obtain ⟨-, k1, k2, -⟩ := hw.bid hb
  unfold f_X8_isSameWay f_X8_isSameWay_20 f_X8_isSameWay_40 f_X8_isSameWay_48
  simp (disch := omega) only [rcv_M, mR0, mS0, mR1, mL1, mS1, mR2, mL2, mS2, mR3, mL3, mS3, mR4, mS4, mR5, mS5, mR6, mL6, mS6, mR7, mL7, mS7, mR8, mL8, mS8, mR9, mS9, mR10, mL10, mS10, mR11, mL11, mS11, mR12, mL12, mS12, mR13, mL13, mS13, mR14, mL14, mS14, mR15, mL15, mS15, mR16, mL16, mS16, mR17, mL17, mS17, mR18, mL18, mS18, mR19, mL19, mS19, mR20, mL20, mS20, mR21, mL21, mS21, mR22, mL22, mS22, mR23, mL23, mS23, mR24, mL24, mS24, mR25, mL25, mS25, mR26, mL26, mS26, mR27, mL27, mS27, mR28, mL28, mS28, mR29, mL29, mS29, mR30, mL30, mS30, mR31, mL31, mS31, mR32, mL32, mS32, mR33, mL33, mS33, iI_0, iI_1, iI_neg, iL2, iL3, iL4, iL5, iL6, iL7, iL8, iL9, iL10, iL11, iL12, iL13, iL14, iL15, iL16, iL17, iL30, iL31, iL60, iL99, iL100, iL240, iL480, iL1000, iL1920, iL10000, iI_add, iI_sub, iI_mul, iI_div, iI_le, iI_lt, iI_eq, bd_s, Int.toNat_natCast, rt0, rt1]
  by_cases c1 : σ 11 a < σ 12 a <;> by_cases c2 : σ 11 b < σ 12 b <;> simp [c1, c2, Int.not_le.mpr, Int.not_lt.mp]
theorem s_isClosed (hw : WF σ) (s t : Int) (hs : -2147483648 ≤ s ∧ s < 2147483648) (ht : -2147483648 ≤ t ∧ t < 2147483648) : f_X8_isClosed m (iI s) (iI t) (MH h m σ) = some (iI (b2 (clsd σ s t = true)), MH h m σ) := by
  obtain ⟨-, -, h5, -, -, -, -, h8, -⟩ := hw
  unfold f_X8_isClosed f_X8_isClosed_2
  have := lp_search (B := fun k2 u => fb_X8_isClosed_2 k2 u.1 u.2.1 u.2.2.1 u.2.2.2.1 u.2.2.2.2) (fun w => (some m, iI s, iI t, iI (w : Int), MH h m σ)) (σ 5 0).toNat (clsP σ s t) (fun _ => some (iI 1, MH h m σ)) (some (iI 0, MH h m σ))
    (fun w hw k => by
      obtain ⟨p1, p2, p3⟩ := h8 w (by omega)
      show fb_X8_isClosed_2 k (some m) (iI s) (iI t) (iI (w : Int)) (MH h m σ) = _
      unfold fb_X8_isClosed_2 f_X8_isClosed_43 clsP
      simp (disch := omega) only [rcv_M, mR0, mS0, mR1, mL1, mS1, mR2, mL2, mS2, mR3, mL3, mS3, mR4, mS4, mR5, mS5, mR6, mL6, mS6, mR7, mL7, mS7, mR8, mL8, mS8, mR9, mS9, mR10, mL10, mS10, mR11, mL11, mS11, mR12, mL12, mS12, mR13, mL13, mS13, mR14, mL14, mS14, mR15, mL15, mS15, mR16, mL16, mS16, mR17, mL17, mS17, mR18, mL18, mS18, mR19, mL19, mS19, mR20, mL20, mS20, mR21, mL21, mS21, mR22, mL22, mS22, mR23, mL23, mS23, mR24, mL24, mS24, mR25, mL25, mS25, mR26, mL26, mS26, mR27, mL27, mS27, mR28, mL28, mS28, mR29, mL29, mS29, mR30, mL30, mS30, mR31, mL31, mS31, mR32, mL32, mS32, mR33, mL33, mS33, iI_0, iI_1, iI_neg, iL2, iL3, iL4, iL5, iL6, iL7, iL8, iL9, iL10, iL11, iL12, iL13, iL14, iL15, iL16, iL17, iL30, iL31, iL60, iL99, iL100, iL240, iL480, iL1000, iL1920, iL10000, iI_add, iI_sub, iI_mul, iI_div, iI_le, iI_lt, iI_eq, bd_s, Int.toNat_natCast, s_in, iI_b2, rt0, rt1, decide_eq_true_eq, Int.natCast_succ]
      (repeat' split) <;> first | rfl | omega)
    (fun k => by
      show fb_X8_isClosed_2 k (some m) (iI s) (iI t) (iI ((σ 5 0).toNat : Int)) (MH h m σ) = _
      unfold fb_X8_isClosed_2
      simp (disch := omega) only [rcv_M, mR0, mS0, mR1, mL1, mS1, mR2, mL2, mS2, mR3, mL3, mS3, mR4, mS4, mR5, mS5, mR6, mL6, mS6, mR7, mL7, mS7, mR8, mL8, mS8, mR9, mS9, mR10, mL10, mS10, mR11, mL11, mS11, mR12, mL12, mS12, mR13, mL13, mS13, mR14, mL14, mS14, mR15, mL15, mS15, mR16, mL16, mS16, mR17, mL17, mS17, mR18, mL18, mS18, mR19, mL19, mS19, mR20, mL20, mS20, mR21, mL21, mS21, mR22, mL22, mS22, mR23, mL23, mS23, mR24, mL24, mS24, mR25, mL25, mS25, mR26, mL26, mS26, mR27, mL27, mS27, mR28, mL28, mS28, mR29, mL29, mS29, mR30, mL30, mS30, mR31, mL31, mS31, mR32, mL32, mS32, mR33, mL33, mS33, iI_0, iI_1, iI_neg, iL2, iL3, iL4, iL5, iL6, iL7, iL8, iL9, iL10, iL11, iL12, iL13, iL14, iL15, iL16, iL17, iL30, iL31, iL60, iL99, iL100, iL240, iL480, iL1000, iL1920, iL10000, iI_add, iI_sub, iI_mul, iI_div, iI_le, iI_lt, iI_eq, bd_s, rt0]
      rw [if_pos (by omega)]) (σ 5 0).toNat 0 FU (by omega) (by rw [FU_eq]; omega)
  rw [iI_0]
  refine this.trans ?_
  unfold clsd exB
  cases hq : srch (clsP σ s t) 0 (σ 5 0).toNat with
  | none => rw [b2_f (by simp)]
  | some j => rw [b2_t (by simp)]
end
