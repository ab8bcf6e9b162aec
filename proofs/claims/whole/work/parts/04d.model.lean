/-! the reference's small methods -/
def WF (σ : Sg) : Prop := (2 ≤ σ 0 0 ∧ σ 0 0 ≤ 8) ∧ (0 ≤ σ 4 0 ∧ σ 4 0 ≤ 9) ∧ (0 ≤ σ 5 0 ∧ σ 5 0 ≤ 10) ∧ (0 ≤ σ 9 0 ∧ σ 9 0 ≤ 16) ∧
  (∀ i : Nat, σ 1 i = 0 ∨ σ 1 i = 1) ∧ (∀ i : Nat, i < 16 → 1 ≤ σ 2 i ∧ σ 2 i ≤ 30) ∧ (∀ i : Nat, i < 8 → 0 ≤ σ 3 i ∧ σ 3 i ≤ 9) ∧
  (∀ i : Nat, i < 10 → (0 ≤ σ 6 i ∧ σ 6 i ≤ 7) ∧ (0 ≤ σ 7 i ∧ σ 7 i ≤ 480) ∧ (0 ≤ σ 8 i ∧ σ 8 i ≤ 480)) ∧
  (∀ b : Nat, b < 16 → (0 ≤ σ 10 b ∧ σ 10 b ≤ 5) ∧ (0 ≤ σ 11 b ∧ σ 11 b ≤ 7) ∧ (0 ≤ σ 12 b ∧ σ 12 b ≤ 7) ∧ (0 ≤ σ 13 b ∧ σ 13 b ≤ 1) ∧ (0 ≤ σ 14 b ∧ σ 14 b ≤ 239) ∧ (0 ≤ σ 15 b ∧ σ 15 b ≤ 239) ∧ (0 ≤ σ 16 b ∧ σ 16 b ≤ 1000) ∧ (0 ≤ σ 17 b ∧ σ 17 b ≤ 99) ∧ (-1 ≤ σ 18 b ∧ σ 18 b ≤ 15) ∧ (σ 19 b = 0 ∨ σ 19 b = 1)) ∧
  (∀ i : Nat, i < 128 → (0 ≤ σ 20 i ∧ σ 20 i ≤ 239) ∧ (0 ≤ σ 21 i ∧ σ 21 i ≤ 60))
def b2 (p : Prop) [Decidable p] : Int := if p then 1 else 0
theorem b2_01 (p : Prop) [Decidable p] : b2 p = 0 ∨ b2 p = 1 := by unfold b2; split <;> simp
def lgs (σ : Sg) (b : Nat) : Int := if σ 11 b < σ 12 b then σ 12 b - σ 11 b else σ 11 b - σ 12 b
def stn (σ : Sg) (b : Nat) (i : Int) : Int := if σ 11 b < σ 12 b then σ 11 b + i else σ 11 b - i
def sec (σ : Sg) (b : Nat) (i : Int) : Int := if σ 11 b < σ 12 b then σ 11 b + i else σ 11 b - i - 1
def lng (σ : Sg) (b : Nat) (i : Int) : Int := σ 2 (2 * sec σ b i + σ 13 b).toNat
section
variable {h : Hp} {m : Nat} {σ : Sg}
theorem s_in (v a b : Int) (h : Hp) (hv : -2147483648 ≤ v ∧ v < 2147483648) (ha : -2147483648 ≤ a ∧ a < 2147483648) (hb : -2147483648 ≤ b ∧ b < 2147483648) : f_X8_in (iI v) (iI a) (iI b) h = some (iI (b2 (a ≤ v ∧ v ≤ b)), h) := by
  unfold f_X8_in f_X8_in_14 f_X8_in_15
  simp (disch := omega) only [iI_0, iI_1, iI_neg, iL2, iL3, iL4, iL5, iL6, iL7, iL8, iL9, iL10, iL11, iL12, iL13, iL14, iL15, iL16, iL17, iL30, iL31, iL60, iL99, iL100, iL240, iL480, iL1000, iL1920, iL10000, iI_add, iI_sub, iI_mul, iI_div, iI_le, iI_lt, iI_eq, bd_s]
  by_cases h1 : v < a
  · rw [if_pos h1, rtZ_i (Or.inl rfl), b2, if_neg (by omega)]
  · rw [if_neg h1]
    by_cases h2 : b < v
    · rw [if_pos h2, rtZ_i (Or.inl rfl), b2, if_neg (by omega)]
    · rw [if_neg h2, rtZ_i (Or.inr rfl), b2, if_pos (by omega)]
theorem s_isBid (hw : WF σ) (b : Int) (hb : -2147483648 ≤ b ∧ b < 2147483648) : f_X8_isBid m (iI b) (MH h m σ) = some (iI (b2 (0 ≤ b ∧ b < σ 9 0)), MH h m σ) := by
  obtain ⟨-, -, -, hn, -⟩ := hw
  unfold f_X8_isBid
  simp (disch := omega) only [rcv_M, mR0, mS0, mR1, mL1, mS1, mR2, mL2, mS2, mR3, mL3, mS3, mR4, mS4, mR5, mS5, mR6, mL6, mS6, mR7, mL7, mS7, mR8, mL8, mS8, mR9, mS9, mR10, mL10, mS10, mR11, mL11, mS11, mR12, mL12, mS12, mR13, mL13, mS13, mR14, mL14, mS14, mR15, mL15, mS15, mR16, mL16, mS16, mR17, mL17, mS17, mR18, mL18, mS18, mR19, mL19, mS19, mR20, mL20, mS20, mR21, mL21, mS21, mR22, mL22, mS22, mR23, mL23, mS23, mR24, mL24, mS24, mR25, mL25, mS25, mR26, mL26, mS26, mR27, mL27, mS27, mR28, mL28, mS28, mR29, mL29, mS29, mR30, mL30, mS30, mR31, mL31, mS31, mR32, mL32, mS32, mR33, mL33, mS33, iI_0, iI_1, iI_neg, iL2, iL3, iL4, iL5, iL6, iL7, iL8, iL9, iL10, iL11, iL12, iL13, iL14, iL15, iL16, iL17, iL30, iL31, iL60, iL99, iL100, iL240, iL480, iL1000, iL1920, iL10000, iI_add, iI_sub, iI_mul, iI_div, iI_le, iI_lt, iI_eq, bd_s, s_in]
  rw [rtZ_i (b2_01 _)]
  congr 3
  simp only [b2]
  congr 1
  exact propext (by omega)
theorem s_legs (hw : WF σ) (b : Nat) (hb : b < 16) : f_X8_legs m (iI b) (MH h m σ) = some (iI (lgs σ b), MH h m σ) := by
  obtain ⟨-, h1, h2, -⟩ := hw.2.2.2.2.2.2.2.2.1 b hb
  unfold f_X8_legs f_X8_legs_44
  simp (disch := omega) only [rcv_M, mR0, mS0, mR1, mL1, mS1, mR2, mL2, mS2, mR3, mL3, mS3, mR4, mS4, mR5, mS5, mR6, mL6, mS6, mR7, mL7, mS7, mR8, mL8, mS8, mR9, mS9, mR10, mL10, mS10, mR11, mL11, mS11, mR12, mL12, mS12, mR13, mL13, mS13, mR14, mL14, mS14, mR15, mL15, mS15, mR16, mL16, mS16, mR17, mL17, mS17, mR18, mL18, mS18, mR19, mL19, mS19, mR20, mL20, mS20, mR21, mL21, mS21, mR22, mL22, mS22, mR23, mL23, mS23, mR24, mL24, mS24, mR25, mL25, mS25, mR26, mL26, mS26, mR27, mL27, mS27, mR28, mL28, mS28, mR29, mL29, mS29, mR30, mL30, mS30, mR31, mL31, mS31, mR32, mL32, mS32, mR33, mL33, mS33, iI_0, iI_1, iI_neg, iL2, iL3, iL4, iL5, iL6, iL7, iL8, iL9, iL10, iL11, iL12, iL13, iL14, iL15, iL16, iL17, iL30, iL31, iL60, iL99, iL100, iL240, iL480, iL1000, iL1920, iL10000, iI_add, iI_sub, iI_mul, iI_div, iI_le, iI_lt, iI_eq, bd_s, Int.toNat_natCast]
  unfold lgs
  by_cases hc : σ 11 b < σ 12 b
  · rw [if_neg (by omega), if_pos hc]; rfl
  · rw [if_pos (by omega), if_neg hc]; rfl
end
