/-! the lists, and the class's small methods -/
def LH (h : Hp) (A : CA) (ρ : Nat → Nat) : Prop := A.n ≤ 16 ∧ cn A A.la = none ∧ cn A A.lb = none ∧ (∃ c, A.n ≤ c ∧ h.2 A.la = some (eR c (fun i => if i < A.n then some (A.b i) else none))) ∧ ∃ c, A.n ≤ c ∧ h.2 A.lb = some (eR c (fun i => if i < A.n then some (A.b (ρ i)) else none))
def atR (A : CA) (a : Int) : Option Nat := if 0 ≤ a ∧ a < A.n then some (A.b a.toNat) else none
theorem ldR_L {α : Type} {h : Hp} {A : CA} {κ : Sg} {l c : Nat} {F : Nat → Option Nat} (hn : cn A l = none) (he : h.2 l = some (eR c F)) {i : Nat} (hi : i < c) (hi2 : i < 1000) (K : Option Nat → Option α) : ldR (CH h A κ) (some l) (iI i) K = K (F i) := by
  simp only [ldR, arR, CH, hn, he]
  rw [iI_toInt (by omega) (by omega), if_pos (by omega), iI_clamp (by omega) (by omega)]
  rfl
section
variable {h : Hp} {A : CA} {κ : Sg} {ρ : Nat → Nat}
theorem k_lsize : f_Jx4a65c_size_8abf5 (A.x + 10) (CH h A κ) = some (iI A.n, CH h A κ) := by
  unfold f_Jx4a65c_size_8abf5
  simp only [iL239, cV0, cR0_0, cR0_1, cR0_2, cR0_3, cR0_4, cR0_5, cV1, cR1_1, cR1_2, cR1_3, cR1_4, cR1_5, cR1_6, cR1_7, cI1_0, cI1_8, cP1_8, cI1_9, cP1_9, cV9, cR9_0, cR9_1, cV10, cV11, cV12, cR12_0, cR12_1, cR12_2, cR12_3, cR12_4, cR12_5, cR12_6, cV18, cR18_0, cR18_1, cR18_2, cR18_3, cR18_4, cI18_5, cP18_5, cI18_6, cP18_6, cV22, cR22_0, cR22_1, cI22_2, cP22_2, cI22_3, cP22_3, cI22_4, cP22_4, cV23, cR23_0, cR23_1, cR23_3, cR23_4, cR23_5, cR23_6, cR23_7, cR23_8, cR23_9, cR23_10, cI23_2, cP23_2, cR10_1, cI10_2, cR11_1, cI11_2, cL2, cS2, cL3, cS3, cL4, cS4, cL5, cS5, cL6, cS6, cL7, cS7, cL8, cS8, cL13, cS13, cL14, cS14, cL15, cS15, cL16, cS16, cL17, cS17, cL19, cS19, cL20, cS20, cL21, cS21, cL24, cS24, cL25, cS25, cL26, cS26, cL27, cS27, cL28, cS28, cL29, cS29, cL30, cS30, cL31, cS31, bV, bK, bI0, bI1, bI2, bI3, bI4, bI5, bI6, bI7, bI8, bI9, bI10, bR11, bR12, bR13, bP9, bP10, bL1, bS1, bL2, bS2, bL3, bS3]
  rfl
theorem k_rsize : f_Jx4a65c_size_8abf5 (A.x + 11) (CH h A κ) = some (iI A.n, CH h A κ) := by
  unfold f_Jx4a65c_size_8abf5
  simp only [iL239, cV0, cR0_0, cR0_1, cR0_2, cR0_3, cR0_4, cR0_5, cV1, cR1_1, cR1_2, cR1_3, cR1_4, cR1_5, cR1_6, cR1_7, cI1_0, cI1_8, cP1_8, cI1_9, cP1_9, cV9, cR9_0, cR9_1, cV10, cV11, cV12, cR12_0, cR12_1, cR12_2, cR12_3, cR12_4, cR12_5, cR12_6, cV18, cR18_0, cR18_1, cR18_2, cR18_3, cR18_4, cI18_5, cP18_5, cI18_6, cP18_6, cV22, cR22_0, cR22_1, cI22_2, cP22_2, cI22_3, cP22_3, cI22_4, cP22_4, cV23, cR23_0, cR23_1, cR23_3, cR23_4, cR23_5, cR23_6, cR23_7, cR23_8, cR23_9, cR23_10, cI23_2, cP23_2, cR10_1, cI10_2, cR11_1, cI11_2, cL2, cS2, cL3, cS3, cL4, cS4, cL5, cS5, cL6, cS6, cL7, cS7, cL8, cS8, cL13, cS13, cL14, cS14, cL15, cS15, cL16, cS16, cL17, cS17, cL19, cS19, cL20, cS20, cL21, cS21, cL24, cS24, cL25, cS25, cL26, cS26, cL27, cS27, cL28, cS28, cL29, cS29, cL30, cS30, cL31, cS31, bV, bK, bI0, bI1, bI2, bI3, bI4, bI5, bI6, bI7, bI8, bI9, bI10, bR11, bR12, bR13, bP9, bP10, bL1, bS1, bL2, bS2, bL3, bS3]
  rfl
theorem k_get (hl : LH h A ρ) {i : Nat} (hi : i < A.n) : f_Jx4a65c_get_915e3 (A.x + 10) (iI i) (CH h A κ) = some (some (A.b i), CH h A κ) := by
  obtain ⟨h1, h2, -, ⟨c, h3, h4⟩, -⟩ := hl
  unfold f_Jx4a65c_get_915e3 f_J15_checkIndex_7cf53 f_J3_checkIndex_8e157 f_Jx4a65c_elementData_915e3
  simp (disch := omega) only [iL239, cV0, cR0_0, cR0_1, cR0_2, cR0_3, cR0_4, cR0_5, cV1, cR1_1, cR1_2, cR1_3, cR1_4, cR1_5, cR1_6, cR1_7, cI1_0, cI1_8, cP1_8, cI1_9, cP1_9, cV9, cR9_0, cR9_1, cV10, cV11, cV12, cR12_0, cR12_1, cR12_2, cR12_3, cR12_4, cR12_5, cR12_6, cV18, cR18_0, cR18_1, cR18_2, cR18_3, cR18_4, cI18_5, cP18_5, cI18_6, cP18_6, cV22, cR22_0, cR22_1, cI22_2, cP22_2, cI22_3, cP22_3, cI22_4, cP22_4, cV23, cR23_0, cR23_1, cR23_3, cR23_4, cR23_5, cR23_6, cR23_7, cR23_8, cR23_9, cR23_10, cI23_2, cP23_2, cR10_1, cI10_2, cR11_1, cI11_2, cL2, cS2, cL3, cS3, cL4, cS4, cL5, cS5, cL6, cS6, cL7, cS7, cL8, cS8, cL13, cS13, cL14, cS14, cL15, cS15, cL16, cS16, cL17, cS17, cL19, cS19, cL20, cS20, cL21, cS21, cL24, cS24, cL25, cS25, cL26, cS26, cL27, cS27, cL28, cS28, cL29, cS29, cL30, cS30, cL31, cS31, bV, bK, bI0, bI1, bI2, bI3, bI4, bI5, bI6, bI7, bI8, bI9, bI10, bR11, bR12, bR13, bP9, bP10, bL1, bS1, bL2, bS2, bL3, bS3, iI_0, iI_1, iI_neg, iL2, iL3, iL4, iL5, iL6, iL7, iL8, iL9, iL10, iL11, iL12, iL13, iL14, iL15, iL16, iL17, iL30, iL31, iL60, iL99, iL100, iL240, iL480, iL1000, iL1920, iL10000, iI_add, iI_sub, iI_mul, iI_div, iI_le, iI_lt, iI_eq, bd_s, rtI]
  rw [if_neg (by omega), if_pos (by omega)]
  simp only [iL239, cV0, cR0_0, cR0_1, cR0_2, cR0_3, cR0_4, cR0_5, cV1, cR1_1, cR1_2, cR1_3, cR1_4, cR1_5, cR1_6, cR1_7, cI1_0, cI1_8, cP1_8, cI1_9, cP1_9, cV9, cR9_0, cR9_1, cV10, cV11, cV12, cR12_0, cR12_1, cR12_2, cR12_3, cR12_4, cR12_5, cR12_6, cV18, cR18_0, cR18_1, cR18_2, cR18_3, cR18_4, cI18_5, cP18_5, cI18_6, cP18_6, cV22, cR22_0, cR22_1, cI22_2, cP22_2, cI22_3, cP22_3, cI22_4, cP22_4, cV23, cR23_0, cR23_1, cR23_3, cR23_4, cR23_5, cR23_6, cR23_7, cR23_8, cR23_9, cR23_10, cI23_2, cP23_2, cR10_1, cI10_2, cR11_1, cI11_2, cL2, cS2, cL3, cS3, cL4, cS4, cL5, cS5, cL6, cS6, cL7, cS7, cL8, cS8, cL13, cS13, cL14, cS14, cL15, cS15, cL16, cS16, cL17, cS17, cL19, cS19, cL20, cS20, cL21, cS21, cL24, cS24, cL25, cS25, cL26, cS26, cL27, cS27, cL28, cS28, cL29, cS29, cL30, cS30, cL31, cS31, bV, bK, bI0, bI1, bI2, bI3, bI4, bI5, bI6, bI7, bI8, bI9, bI10, bR11, bR12, bR13, bP9, bP10, bL1, bS1, bL2, bS2, bL3, bS3, bd_s, ldR_L h2 h4 (show i < c by omega) (by omega), if_pos hi, rtR]
theorem k_getR (hl : LH h A ρ) {i : Nat} (hi : i < A.n) : f_Jx4a65c_get_915e3 (A.x + 11) (iI i) (CH h A κ) = some (some (A.b (ρ i)), CH h A κ) := by
  obtain ⟨h1, -, h2, -, ⟨c, h3, h4⟩⟩ := hl
  unfold f_Jx4a65c_get_915e3 f_J15_checkIndex_7cf53 f_J3_checkIndex_8e157 f_Jx4a65c_elementData_915e3
  simp (disch := omega) only [iL239, cV0, cR0_0, cR0_1, cR0_2, cR0_3, cR0_4, cR0_5, cV1, cR1_1, cR1_2, cR1_3, cR1_4, cR1_5, cR1_6, cR1_7, cI1_0, cI1_8, cP1_8, cI1_9, cP1_9, cV9, cR9_0, cR9_1, cV10, cV11, cV12, cR12_0, cR12_1, cR12_2, cR12_3, cR12_4, cR12_5, cR12_6, cV18, cR18_0, cR18_1, cR18_2, cR18_3, cR18_4, cI18_5, cP18_5, cI18_6, cP18_6, cV22, cR22_0, cR22_1, cI22_2, cP22_2, cI22_3, cP22_3, cI22_4, cP22_4, cV23, cR23_0, cR23_1, cR23_3, cR23_4, cR23_5, cR23_6, cR23_7, cR23_8, cR23_9, cR23_10, cI23_2, cP23_2, cR10_1, cI10_2, cR11_1, cI11_2, cL2, cS2, cL3, cS3, cL4, cS4, cL5, cS5, cL6, cS6, cL7, cS7, cL8, cS8, cL13, cS13, cL14, cS14, cL15, cS15, cL16, cS16, cL17, cS17, cL19, cS19, cL20, cS20, cL21, cS21, cL24, cS24, cL25, cS25, cL26, cS26, cL27, cS27, cL28, cS28, cL29, cS29, cL30, cS30, cL31, cS31, bV, bK, bI0, bI1, bI2, bI3, bI4, bI5, bI6, bI7, bI8, bI9, bI10, bR11, bR12, bR13, bP9, bP10, bL1, bS1, bL2, bS2, bL3, bS3, iI_0, iI_1, iI_neg, iL2, iL3, iL4, iL5, iL6, iL7, iL8, iL9, iL10, iL11, iL12, iL13, iL14, iL15, iL16, iL17, iL30, iL31, iL60, iL99, iL100, iL240, iL480, iL1000, iL1920, iL10000, iI_add, iI_sub, iI_mul, iI_div, iI_le, iI_lt, iI_eq, bd_s, rtI]
  rw [if_neg (by omega), if_pos (by omega)]
  simp only [iL239, cV0, cR0_0, cR0_1, cR0_2, cR0_3, cR0_4, cR0_5, cV1, cR1_1, cR1_2, cR1_3, cR1_4, cR1_5, cR1_6, cR1_7, cI1_0, cI1_8, cP1_8, cI1_9, cP1_9, cV9, cR9_0, cR9_1, cV10, cV11, cV12, cR12_0, cR12_1, cR12_2, cR12_3, cR12_4, cR12_5, cR12_6, cV18, cR18_0, cR18_1, cR18_2, cR18_3, cR18_4, cI18_5, cP18_5, cI18_6, cP18_6, cV22, cR22_0, cR22_1, cI22_2, cP22_2, cI22_3, cP22_3, cI22_4, cP22_4, cV23, cR23_0, cR23_1, cR23_3, cR23_4, cR23_5, cR23_6, cR23_7, cR23_8, cR23_9, cR23_10, cI23_2, cP23_2, cR10_1, cI10_2, cR11_1, cI11_2, cL2, cS2, cL3, cS3, cL4, cS4, cL5, cS5, cL6, cS6, cL7, cS7, cL8, cS8, cL13, cS13, cL14, cS14, cL15, cS15, cL16, cS16, cL17, cS17, cL19, cS19, cL20, cS20, cL21, cS21, cL24, cS24, cL25, cS25, cL26, cS26, cL27, cS27, cL28, cS28, cL29, cS29, cL30, cS30, cL31, cS31, bV, bK, bI0, bI1, bI2, bI3, bI4, bI5, bI6, bI7, bI8, bI9, bI10, bR11, bR12, bR13, bP9, bP10, bL1, bS1, bL2, bS2, bL3, bS3, bd_s, ldR_L h2 h4 (show i < c by omega) (by omega), if_pos hi, rtR]
theorem k_size : f_X1_size (A.x + 9) (CH h A κ) = some (iI A.n, CH h A κ) := by
  unfold f_X1_size
  simp only [iL239, cV0, cR0_0, cR0_1, cR0_2, cR0_3, cR0_4, cR0_5, cV1, cR1_1, cR1_2, cR1_3, cR1_4, cR1_5, cR1_6, cR1_7, cI1_0, cI1_8, cP1_8, cI1_9, cP1_9, cV9, cR9_0, cR9_1, cV10, cV11, cV12, cR12_0, cR12_1, cR12_2, cR12_3, cR12_4, cR12_5, cR12_6, cV18, cR18_0, cR18_1, cR18_2, cR18_3, cR18_4, cI18_5, cP18_5, cI18_6, cP18_6, cV22, cR22_0, cR22_1, cI22_2, cP22_2, cI22_3, cP22_3, cI22_4, cP22_4, cV23, cR23_0, cR23_1, cR23_3, cR23_4, cR23_5, cR23_6, cR23_7, cR23_8, cR23_9, cR23_10, cI23_2, cP23_2, cR10_1, cI10_2, cR11_1, cI11_2, cL2, cS2, cL3, cS3, cL4, cS4, cL5, cS5, cL6, cS6, cL7, cS7, cL8, cS8, cL13, cS13, cL14, cS14, cL15, cS15, cL16, cS16, cL17, cS17, cL19, cS19, cL20, cS20, cL21, cS21, cL24, cS24, cL25, cS25, cL26, cS26, cL27, cS27, cL28, cS28, cL29, cS29, cL30, cS30, cL31, cS31, bV, bK, bI0, bI1, bI2, bI3, bI4, bI5, bI6, bI7, bI8, bI9, bI10, bR11, bR12, bR13, bP9, bP10, bL1, bS1, bL2, bS2, bL3, bS3, k_lsize, bd_s, rtI]
theorem k_at (hl : LH h A ρ) (a : Int) (ha : -2147483648 ≤ a ∧ a < 2147483648) : f_X1_at (A.x + 9) (iI a) (CH h A κ) = some (atR A a, CH h A κ) := by
  have h1 := hl.1
  unfold f_X1_at f_X1_at_29 f_X1_at_30 atR
  simp (disch := omega) only [iL239, cV0, cR0_0, cR0_1, cR0_2, cR0_3, cR0_4, cR0_5, cV1, cR1_1, cR1_2, cR1_3, cR1_4, cR1_5, cR1_6, cR1_7, cI1_0, cI1_8, cP1_8, cI1_9, cP1_9, cV9, cR9_0, cR9_1, cV10, cV11, cV12, cR12_0, cR12_1, cR12_2, cR12_3, cR12_4, cR12_5, cR12_6, cV18, cR18_0, cR18_1, cR18_2, cR18_3, cR18_4, cI18_5, cP18_5, cI18_6, cP18_6, cV22, cR22_0, cR22_1, cI22_2, cP22_2, cI22_3, cP22_3, cI22_4, cP22_4, cV23, cR23_0, cR23_1, cR23_3, cR23_4, cR23_5, cR23_6, cR23_7, cR23_8, cR23_9, cR23_10, cI23_2, cP23_2, cR10_1, cI10_2, cR11_1, cI11_2, cL2, cS2, cL3, cS3, cL4, cS4, cL5, cS5, cL6, cS6, cL7, cS7, cL8, cS8, cL13, cS13, cL14, cS14, cL15, cS15, cL16, cS16, cL17, cS17, cL19, cS19, cL20, cS20, cL21, cS21, cL24, cS24, cL25, cS25, cL26, cS26, cL27, cS27, cL28, cS28, cL29, cS29, cL30, cS30, cL31, cS31, bV, bK, bI0, bI1, bI2, bI3, bI4, bI5, bI6, bI7, bI8, bI9, bI10, bR11, bR12, bR13, bP9, bP10, bL1, bS1, bL2, bS2, bL3, bS3, iI_0, iI_1, iI_neg, iL2, iL3, iL4, iL5, iL6, iL7, iL8, iL9, iL10, iL11, iL12, iL13, iL14, iL15, iL16, iL17, iL30, iL31, iL60, iL99, iL100, iL240, iL480, iL1000, iL1920, iL10000, iI_add, iI_sub, iI_mul, iI_div, iI_le, iI_lt, iI_eq, bd_s, k_lsize]
  by_cases c1 : a < 0
  · rw [if_pos c1, if_neg (by omega)]; rfl
  · rw [if_neg c1]
    by_cases c2 : (A.n : Int) ≤ a
    · rw [if_pos c2, if_neg (by omega)]; rfl
    · rw [if_neg c2, if_pos (by omega)]
      have := k_get (κ := κ) hl (i := a.toNat) (by omega)
      rw [show ((a.toNat : Nat) : Int) = a by omega] at this
      rw [this, bd_s, bK (by omega)]
      rfl
theorem k_steps (hw : WF κ) (b : Nat) (hb : b < A.n) (hb2 : b < 16) : f_X0_steps (A.b b) (CH h A κ) = some (iI (lgs κ b), CH h A κ) := by
  obtain ⟨-, h1, h2, -⟩ := hw.bid hb2
  unfold f_X0_steps f_X0_steps_32
  simp (disch := omega) only [iL239, cV0, cR0_0, cR0_1, cR0_2, cR0_3, cR0_4, cR0_5, cV1, cR1_1, cR1_2, cR1_3, cR1_4, cR1_5, cR1_6, cR1_7, cI1_0, cI1_8, cP1_8, cI1_9, cP1_9, cV9, cR9_0, cR9_1, cV10, cV11, cV12, cR12_0, cR12_1, cR12_2, cR12_3, cR12_4, cR12_5, cR12_6, cV18, cR18_0, cR18_1, cR18_2, cR18_3, cR18_4, cI18_5, cP18_5, cI18_6, cP18_6, cV22, cR22_0, cR22_1, cI22_2, cP22_2, cI22_3, cP22_3, cI22_4, cP22_4, cV23, cR23_0, cR23_1, cR23_3, cR23_4, cR23_5, cR23_6, cR23_7, cR23_8, cR23_9, cR23_10, cI23_2, cP23_2, cR10_1, cI10_2, cR11_1, cI11_2, cL2, cS2, cL3, cS3, cL4, cS4, cL5, cS5, cL6, cS6, cL7, cS7, cL8, cS8, cL13, cS13, cL14, cS14, cL15, cS15, cL16, cS16, cL17, cS17, cL19, cS19, cL20, cS20, cL21, cS21, cL24, cS24, cL25, cS25, cL26, cS26, cL27, cS27, cL28, cS28, cL29, cS29, cL30, cS30, cL31, cS31, bV, bK, bI0, bI1, bI2, bI3, bI4, bI5, bI6, bI7, bI8, bI9, bI10, bR11, bR12, bR13, bP9, bP10, bL1, bS1, bL2, bS2, bL3, bS3, iI_0, iI_1, iI_neg, iL2, iL3, iL4, iL5, iL6, iL7, iL8, iL9, iL10, iL11, iL12, iL13, iL14, iL15, iL16, iL17, iL30, iL31, iL60, iL99, iL100, iL240, iL480, iL1000, iL1920, iL10000, iI_add, iI_sub, iI_mul, iI_div, iI_le, iI_lt, iI_eq, bd_s, Int.toNat_natCast]
  unfold lgs
  by_cases hc : κ 11 b < κ 12 b
  · rw [if_neg (by omega), if_pos hc]; rfl
  · rw [if_pos (by omega), if_neg hc]; rfl
theorem k_way (hw : WF κ) (b : Nat) (hb : b < A.n) (hb2 : b < 16) : f_X0_way (A.b b) (CH h A κ) = some (iI (if κ 11 b < κ 12 b then 1 else -1), CH h A κ) := by
  obtain ⟨-, h1, h2, -⟩ := hw.bid hb2
  unfold f_X0_way f_X0_way_16
  simp (disch := omega) only [iL239, cV0, cR0_0, cR0_1, cR0_2, cR0_3, cR0_4, cR0_5, cV1, cR1_1, cR1_2, cR1_3, cR1_4, cR1_5, cR1_6, cR1_7, cI1_0, cI1_8, cP1_8, cI1_9, cP1_9, cV9, cR9_0, cR9_1, cV10, cV11, cV12, cR12_0, cR12_1, cR12_2, cR12_3, cR12_4, cR12_5, cR12_6, cV18, cR18_0, cR18_1, cR18_2, cR18_3, cR18_4, cI18_5, cP18_5, cI18_6, cP18_6, cV22, cR22_0, cR22_1, cI22_2, cP22_2, cI22_3, cP22_3, cI22_4, cP22_4, cV23, cR23_0, cR23_1, cR23_3, cR23_4, cR23_5, cR23_6, cR23_7, cR23_8, cR23_9, cR23_10, cI23_2, cP23_2, cR10_1, cI10_2, cR11_1, cI11_2, cL2, cS2, cL3, cS3, cL4, cS4, cL5, cS5, cL6, cS6, cL7, cS7, cL8, cS8, cL13, cS13, cL14, cS14, cL15, cS15, cL16, cS16, cL17, cS17, cL19, cS19, cL20, cS20, cL21, cS21, cL24, cS24, cL25, cS25, cL26, cS26, cL27, cS27, cL28, cS28, cL29, cS29, cL30, cS30, cL31, cS31, bV, bK, bI0, bI1, bI2, bI3, bI4, bI5, bI6, bI7, bI8, bI9, bI10, bR11, bR12, bR13, bP9, bP10, bL1, bS1, bL2, bS2, bL3, bS3, iI_0, iI_1, iI_neg, iL2, iL3, iL4, iL5, iL6, iL7, iL8, iL9, iL10, iL11, iL12, iL13, iL14, iL15, iL16, iL17, iL30, iL31, iL60, iL99, iL100, iL240, iL480, iL1000, iL1920, iL10000, iI_add, iI_sub, iI_mul, iI_div, iI_le, iI_lt, iI_eq, bd_s, Int.toNat_natCast]
  by_cases hc : κ 11 b < κ 12 b
  · rw [if_neg (by omega), if_pos hc]; rfl
  · rw [if_pos (by omega), if_neg hc]; rfl
theorem k_stationAt (hw : WF κ) (b : Nat) (hb : b < A.n) (hb2 : b < 16) (i : Int) : f_X0_stationAt (A.b b) (iI i) (CH h A κ) = some (iI (stn κ b i), CH h A κ) := by
  unfold f_X0_stationAt stn
  simp (disch := omega) only [iL239, cV0, cR0_0, cR0_1, cR0_2, cR0_3, cR0_4, cR0_5, cV1, cR1_1, cR1_2, cR1_3, cR1_4, cR1_5, cR1_6, cR1_7, cI1_0, cI1_8, cP1_8, cI1_9, cP1_9, cV9, cR9_0, cR9_1, cV10, cV11, cV12, cR12_0, cR12_1, cR12_2, cR12_3, cR12_4, cR12_5, cR12_6, cV18, cR18_0, cR18_1, cR18_2, cR18_3, cR18_4, cI18_5, cP18_5, cI18_6, cP18_6, cV22, cR22_0, cR22_1, cI22_2, cP22_2, cI22_3, cP22_3, cI22_4, cP22_4, cV23, cR23_0, cR23_1, cR23_3, cR23_4, cR23_5, cR23_6, cR23_7, cR23_8, cR23_9, cR23_10, cI23_2, cP23_2, cR10_1, cI10_2, cR11_1, cI11_2, cL2, cS2, cL3, cS3, cL4, cS4, cL5, cS5, cL6, cS6, cL7, cS7, cL8, cS8, cL13, cS13, cL14, cS14, cL15, cS15, cL16, cS16, cL17, cS17, cL19, cS19, cL20, cS20, cL21, cS21, cL24, cS24, cL25, cS25, cL26, cS26, cL27, cS27, cL28, cS28, cL29, cS29, cL30, cS30, cL31, cS31, bV, bK, bI0, bI1, bI2, bI3, bI4, bI5, bI6, bI7, bI8, bI9, bI10, bR11, bR12, bR13, bP9, bP10, bL1, bS1, bL2, bS2, bL3, bS3, iI_0, iI_1, iI_neg, iL2, iL3, iL4, iL5, iL6, iL7, iL8, iL9, iL10, iL11, iL12, iL13, iL14, iL15, iL16, iL17, iL30, iL31, iL60, iL99, iL100, iL240, iL480, iL1000, iL1920, iL10000, iI_add, iI_sub, iI_mul, iI_div, iI_le, iI_lt, iI_eq, bd_s, k_way hw, rtI]
  congr 3
  split <;> omega
theorem k_sectionAt (hw : WF κ) (b : Nat) (hb : b < A.n) (hb2 : b < 16) (i : Int) : f_X0_sectionAt (A.b b) (iI i) (CH h A κ) = some (iI (sec κ b i), CH h A κ) := by
  obtain ⟨-, h1, h2, -⟩ := hw.bid hb2
  unfold f_X0_sectionAt f_X0_sectionAt_28 sec
  simp (disch := omega) only [iL239, cV0, cR0_0, cR0_1, cR0_2, cR0_3, cR0_4, cR0_5, cV1, cR1_1, cR1_2, cR1_3, cR1_4, cR1_5, cR1_6, cR1_7, cI1_0, cI1_8, cP1_8, cI1_9, cP1_9, cV9, cR9_0, cR9_1, cV10, cV11, cV12, cR12_0, cR12_1, cR12_2, cR12_3, cR12_4, cR12_5, cR12_6, cV18, cR18_0, cR18_1, cR18_2, cR18_3, cR18_4, cI18_5, cP18_5, cI18_6, cP18_6, cV22, cR22_0, cR22_1, cI22_2, cP22_2, cI22_3, cP22_3, cI22_4, cP22_4, cV23, cR23_0, cR23_1, cR23_3, cR23_4, cR23_5, cR23_6, cR23_7, cR23_8, cR23_9, cR23_10, cI23_2, cP23_2, cR10_1, cI10_2, cR11_1, cI11_2, cL2, cS2, cL3, cS3, cL4, cS4, cL5, cS5, cL6, cS6, cL7, cS7, cL8, cS8, cL13, cS13, cL14, cS14, cL15, cS15, cL16, cS16, cL17, cS17, cL19, cS19, cL20, cS20, cL21, cS21, cL24, cS24, cL25, cS25, cL26, cS26, cL27, cS27, cL28, cS28, cL29, cS29, cL30, cS30, cL31, cS31, bV, bK, bI0, bI1, bI2, bI3, bI4, bI5, bI6, bI7, bI8, bI9, bI10, bR11, bR12, bR13, bP9, bP10, bL1, bS1, bL2, bS2, bL3, bS3, iI_0, iI_1, iI_neg, iL2, iL3, iL4, iL5, iL6, iL7, iL8, iL9, iL10, iL11, iL12, iL13, iL14, iL15, iL16, iL17, iL30, iL31, iL60, iL99, iL100, iL240, iL480, iL1000, iL1920, iL10000, iI_add, iI_sub, iI_mul, iI_div, iI_le, iI_lt, iI_eq, bd_s, rtI]
  by_cases hc : κ 11 b < κ 12 b
  · rw [if_neg (by omega), if_pos hc]
  · rw [if_pos (by omega), if_neg hc]
/-- the step at a station -/
def spS (κ : Sg) (b : Nat) (s : Int) : Int := if κ 11 b < κ 12 b then (if κ 11 b ≤ s ∧ s ≤ κ 12 b then s - κ 11 b else -1) else (if κ 12 b ≤ s ∧ s ≤ κ 11 b then κ 11 b - s else -1)
def spC (κ : Sg) (b : Nat) (s : Int) : Int := if κ 11 b < κ 12 b then (if κ 11 b ≤ s ∧ s < κ 12 b then s - κ 11 b else -1) else (if κ 12 b ≤ s ∧ s < κ 11 b then κ 11 b - s - 1 else -1)
theorem k_stepAtStation (hw : WF κ) (b : Nat) (hb : b < A.n) (hb2 : b < 16) (s : Int) (hs : -2147483648 ≤ s ∧ s < 2147483648) : f_X0_stepAtStation (A.b b) (iI s) (CH h A κ) = some (iI (spS κ b s), CH h A κ) := by
  obtain ⟨-, h1, h2, -⟩ := hw.bid hb2
  unfold f_X0_stepAtStation f_X0_stepAtStation_63 f_X0_stepAtStation_64 f_X0_stepAtStation_36 f_X0_stepAtStation_37 spS
  simp (disch := omega) only [iL239, cV0, cR0_0, cR0_1, cR0_2, cR0_3, cR0_4, cR0_5, cV1, cR1_1, cR1_2, cR1_3, cR1_4, cR1_5, cR1_6, cR1_7, cI1_0, cI1_8, cP1_8, cI1_9, cP1_9, cV9, cR9_0, cR9_1, cV10, cV11, cV12, cR12_0, cR12_1, cR12_2, cR12_3, cR12_4, cR12_5, cR12_6, cV18, cR18_0, cR18_1, cR18_2, cR18_3, cR18_4, cI18_5, cP18_5, cI18_6, cP18_6, cV22, cR22_0, cR22_1, cI22_2, cP22_2, cI22_3, cP22_3, cI22_4, cP22_4, cV23, cR23_0, cR23_1, cR23_3, cR23_4, cR23_5, cR23_6, cR23_7, cR23_8, cR23_9, cR23_10, cI23_2, cP23_2, cR10_1, cI10_2, cR11_1, cI11_2, cL2, cS2, cL3, cS3, cL4, cS4, cL5, cS5, cL6, cS6, cL7, cS7, cL8, cS8, cL13, cS13, cL14, cS14, cL15, cS15, cL16, cS16, cL17, cS17, cL19, cS19, cL20, cS20, cL21, cS21, cL24, cS24, cL25, cS25, cL26, cS26, cL27, cS27, cL28, cS28, cL29, cS29, cL30, cS30, cL31, cS31, bV, bK, bI0, bI1, bI2, bI3, bI4, bI5, bI6, bI7, bI8, bI9, bI10, bR11, bR12, bR13, bP9, bP10, bL1, bS1, bL2, bS2, bL3, bS3, iI_0, iI_1, iI_neg, iL2, iL3, iL4, iL5, iL6, iL7, iL8, iL9, iL10, iL11, iL12, iL13, iL14, iL15, iL16, iL17, iL30, iL31, iL60, iL99, iL100, iL240, iL480, iL1000, iL1920, iL10000, iI_add, iI_sub, iI_mul, iI_div, iI_le, iI_lt, iI_eq, bd_s, rtI]
  (repeat' split) <;> first | rfl | omega
theorem k_stepInSection (hw : WF κ) (b : Nat) (hb : b < A.n) (hb2 : b < 16) (s : Int) (hs : -2147483648 ≤ s ∧ s < 2147483648) : f_X0_stepInSection (A.b b) (iI s) (CH h A κ) = some (iI (spC κ b s), CH h A κ) := by
  obtain ⟨-, h1, h2, -⟩ := hw.bid hb2
  unfold f_X0_stepInSection f_X0_stepInSection_65 f_X0_stepInSection_66 f_X0_stepInSection_36 f_X0_stepInSection_37 spC
  simp (disch := omega) only [iL239, cV0, cR0_0, cR0_1, cR0_2, cR0_3, cR0_4, cR0_5, cV1, cR1_1, cR1_2, cR1_3, cR1_4, cR1_5, cR1_6, cR1_7, cI1_0, cI1_8, cP1_8, cI1_9, cP1_9, cV9, cR9_0, cR9_1, cV10, cV11, cV12, cR12_0, cR12_1, cR12_2, cR12_3, cR12_4, cR12_5, cR12_6, cV18, cR18_0, cR18_1, cR18_2, cR18_3, cR18_4, cI18_5, cP18_5, cI18_6, cP18_6, cV22, cR22_0, cR22_1, cI22_2, cP22_2, cI22_3, cP22_3, cI22_4, cP22_4, cV23, cR23_0, cR23_1, cR23_3, cR23_4, cR23_5, cR23_6, cR23_7, cR23_8, cR23_9, cR23_10, cI23_2, cP23_2, cR10_1, cI10_2, cR11_1, cI11_2, cL2, cS2, cL3, cS3, cL4, cS4, cL5, cS5, cL6, cS6, cL7, cS7, cL8, cS8, cL13, cS13, cL14, cS14, cL15, cS15, cL16, cS16, cL17, cS17, cL19, cS19, cL20, cS20, cL21, cS21, cL24, cS24, cL25, cS25, cL26, cS26, cL27, cS27, cL28, cS28, cL29, cS29, cL30, cS30, cL31, cS31, bV, bK, bI0, bI1, bI2, bI3, bI4, bI5, bI6, bI7, bI8, bI9, bI10, bR11, bR12, bR13, bP9, bP10, bL1, bS1, bL2, bS2, bL3, bS3, iI_0, iI_1, iI_neg, iL2, iL3, iL4, iL5, iL6, iL7, iL8, iL9, iL10, iL11, iL12, iL13, iL14, iL15, iL16, iL17, iL30, iL31, iL60, iL99, iL100, iL240, iL480, iL1000, iL1920, iL10000, iI_add, iI_sub, iI_mul, iI_div, iI_le, iI_lt, iI_eq, bd_s, rtI]
  (repeat' split) <;> first | rfl | omega
theorem spC_legO (κ : Sg) (b : Nat) (s : Int) : spC κ b s = legO κ b s := by
  unfold legO
  cases hq : srch (fun i => decide (sec κ b i = s)) 0 (lgs κ b).toNat with
  | none =>
    have hn := srch_none.1 hq
    unfold spC
    have h0 : ∀ i : Nat, (i : Int) < lgs κ b → sec κ b i ≠ s := fun i hi => by
      have := hn i (Nat.zero_le _) (by omega)
      simpa using this
    unfold sec lgs at h0
    by_cases c : κ 11 b < κ 12 b
    · rw [if_pos c]
      simp only [if_pos c] at h0
      rw [if_neg]
      intro q
      exact h0 (s - κ 11 b).toNat (by omega) (by omega)
    · rw [if_neg c]
      simp only [if_neg c] at h0
      rw [if_neg]
      intro q
      exact h0 (κ 11 b - s - 1).toNat (by omega) (by omega)
  | some j =>
    obtain ⟨h1, h2, h3, -⟩ := srch_some.1 hq
    simp only [decide_eq_true_eq] at h3
    show spC κ b s = (j : Int)
    unfold spC
    unfold lgs at h2
    unfold sec at h3
    by_cases c : κ 11 b < κ 12 b
    · rw [if_pos c] at h2 h3 ⊢
      rw [if_pos (by omega)]
      omega
    · rw [if_neg c] at h2 h3 ⊢
      rw [if_pos (by omega)]
      omega
theorem spS_some {κ : Sg} {b : Nat} {s : Int} (h : spS κ b s ≠ -1) : 0 ≤ spS κ b s ∧ spS κ b s ≤ lgs κ b ∧ stn κ b (spS κ b s) = s := by
  unfold spS at h ⊢
  unfold lgs stn
  by_cases c : κ 11 b < κ 12 b
  · rw [if_pos c] at h
    simp only [if_pos c]
    by_cases d : κ 11 b ≤ s ∧ s ≤ κ 12 b
    · rw [if_pos d]; omega
    · rw [if_neg d] at h; exact absurd rfl h
  · rw [if_neg c] at h
    simp only [if_neg c]
    by_cases d : κ 12 b ≤ s ∧ s ≤ κ 11 b
    · rw [if_pos d]; omega
    · rw [if_neg d] at h; exact absurd rfl h
theorem spS_stn {κ : Sg} {b : Nat} {i : Int} (h0 : 0 ≤ i) (h1 : i ≤ lgs κ b) : spS κ b (stn κ b i) = i := by
  unfold spS stn
  unfold lgs at h1
  by_cases c : κ 11 b < κ 12 b
  · rw [if_pos c] at h1
    rw [if_pos c, if_pos c, if_pos (by omega)]
    omega
  · rw [if_neg c] at h1
    rw [if_neg c, if_neg c, if_pos (by omega)]
    omega
theorem k_hasStation (hw : WF κ) (s : Int) (hs : -2147483648 ≤ s ∧ s < 2147483648) : f_X3_hasStation (A.x + 1) (iI s) (CH h A κ) = some (iI (b2 (0 ≤ s ∧ s < κ 0 0)), CH h A κ) := by
  have h0 := hw.1
  unfold f_X3_hasStation f_X3_hasStation_16 f_X3_hasStation_17 b2
  simp (disch := omega) only [iL239, cV0, cR0_0, cR0_1, cR0_2, cR0_3, cR0_4, cR0_5, cV1, cR1_1, cR1_2, cR1_3, cR1_4, cR1_5, cR1_6, cR1_7, cI1_0, cI1_8, cP1_8, cI1_9, cP1_9, cV9, cR9_0, cR9_1, cV10, cV11, cV12, cR12_0, cR12_1, cR12_2, cR12_3, cR12_4, cR12_5, cR12_6, cV18, cR18_0, cR18_1, cR18_2, cR18_3, cR18_4, cI18_5, cP18_5, cI18_6, cP18_6, cV22, cR22_0, cR22_1, cI22_2, cP22_2, cI22_3, cP22_3, cI22_4, cP22_4, cV23, cR23_0, cR23_1, cR23_3, cR23_4, cR23_5, cR23_6, cR23_7, cR23_8, cR23_9, cR23_10, cI23_2, cP23_2, cR10_1, cI10_2, cR11_1, cI11_2, cL2, cS2, cL3, cS3, cL4, cS4, cL5, cS5, cL6, cS6, cL7, cS7, cL8, cS8, cL13, cS13, cL14, cS14, cL15, cS15, cL16, cS16, cL17, cS17, cL19, cS19, cL20, cS20, cL21, cS21, cL24, cS24, cL25, cS25, cL26, cS26, cL27, cS27, cL28, cS28, cL29, cS29, cL30, cS30, cL31, cS31, bV, bK, bI0, bI1, bI2, bI3, bI4, bI5, bI6, bI7, bI8, bI9, bI10, bR11, bR12, bR13, bP9, bP10, bL1, bS1, bL2, bS2, bL3, bS3, iI_0, iI_1, iI_neg, iL2, iL3, iL4, iL5, iL6, iL7, iL8, iL9, iL10, iL11, iL12, iL13, iL14, iL15, iL16, iL17, iL30, iL31, iL60, iL99, iL100, iL240, iL480, iL1000, iL1920, iL10000, iI_add, iI_sub, iI_mul, iI_div, iI_le, iI_lt, iI_eq, bd_s, rt0, rt1]
  (repeat' split) <;> first | rfl | omega
theorem k_hasSection (hw : WF κ) (s : Int) (hs : -2147483648 ≤ s ∧ s < 2147483648) : f_X3_hasSection (A.x + 1) (iI s) (CH h A κ) = some (iI (b2 (0 ≤ s ∧ s < κ 0 0 - 1)), CH h A κ) := by
  have h0 := hw.1
  unfold f_X3_hasSection f_X3_hasSection_18 f_X3_hasSection_19 b2
  simp (disch := omega) only [iL239, cV0, cR0_0, cR0_1, cR0_2, cR0_3, cR0_4, cR0_5, cV1, cR1_1, cR1_2, cR1_3, cR1_4, cR1_5, cR1_6, cR1_7, cI1_0, cI1_8, cP1_8, cI1_9, cP1_9, cV9, cR9_0, cR9_1, cV10, cV11, cV12, cR12_0, cR12_1, cR12_2, cR12_3, cR12_4, cR12_5, cR12_6, cV18, cR18_0, cR18_1, cR18_2, cR18_3, cR18_4, cI18_5, cP18_5, cI18_6, cP18_6, cV22, cR22_0, cR22_1, cI22_2, cP22_2, cI22_3, cP22_3, cI22_4, cP22_4, cV23, cR23_0, cR23_1, cR23_3, cR23_4, cR23_5, cR23_6, cR23_7, cR23_8, cR23_9, cR23_10, cI23_2, cP23_2, cR10_1, cI10_2, cR11_1, cI11_2, cL2, cS2, cL3, cS3, cL4, cS4, cL5, cS5, cL6, cS6, cL7, cS7, cL8, cS8, cL13, cS13, cL14, cS14, cL15, cS15, cL16, cS16, cL17, cS17, cL19, cS19, cL20, cS20, cL21, cS21, cL24, cS24, cL25, cS25, cL26, cS26, cL27, cS27, cL28, cS28, cL29, cS29, cL30, cS30, cL31, cS31, bV, bK, bI0, bI1, bI2, bI3, bI4, bI5, bI6, bI7, bI8, bI9, bI10, bR11, bR12, bR13, bP9, bP10, bL1, bS1, bL2, bS2, bL3, bS3, iI_0, iI_1, iI_neg, iL2, iL3, iL4, iL5, iL6, iL7, iL8, iL9, iL10, iL11, iL12, iL13, iL14, iL15, iL16, iL17, iL30, iL31, iL60, iL99, iL100, iL240, iL480, iL1000, iL1920, iL10000, iI_add, iI_sub, iI_mul, iI_div, iI_le, iI_lt, iI_eq, bd_s, rt0, rt1]
  (repeat' split) <;> first | rfl | omega
theorem k_holdBehind (hw : WF κ) : f_X3_holdBehind (A.x + 1) (CH h A κ) = some (iI (bhd κ), CH h A κ) := by
  obtain ⟨-, h4, -⟩ := hw
  unfold f_X3_holdBehind bhd
  simp (disch := omega) only [iL239, cV0, cR0_0, cR0_1, cR0_2, cR0_3, cR0_4, cR0_5, cV1, cR1_1, cR1_2, cR1_3, cR1_4, cR1_5, cR1_6, cR1_7, cI1_0, cI1_8, cP1_8, cI1_9, cP1_9, cV9, cR9_0, cR9_1, cV10, cV11, cV12, cR12_0, cR12_1, cR12_2, cR12_3, cR12_4, cR12_5, cR12_6, cV18, cR18_0, cR18_1, cR18_2, cR18_3, cR18_4, cI18_5, cP18_5, cI18_6, cP18_6, cV22, cR22_0, cR22_1, cI22_2, cP22_2, cI22_3, cP22_3, cI22_4, cP22_4, cV23, cR23_0, cR23_1, cR23_3, cR23_4, cR23_5, cR23_6, cR23_7, cR23_8, cR23_9, cR23_10, cI23_2, cP23_2, cR10_1, cI10_2, cR11_1, cI11_2, cL2, cS2, cL3, cS3, cL4, cS4, cL5, cS5, cL6, cS6, cL7, cS7, cL8, cS8, cL13, cS13, cL14, cS14, cL15, cS15, cL16, cS16, cL17, cS17, cL19, cS19, cL20, cS20, cL21, cS21, cL24, cS24, cL25, cS25, cL26, cS26, cL27, cS27, cL28, cS28, cL29, cS29, cL30, cS30, cL31, cS31, bV, bK, bI0, bI1, bI2, bI3, bI4, bI5, bI6, bI7, bI8, bI9, bI10, bR11, bR12, bR13, bP9, bP10, bL1, bS1, bL2, bS2, bL3, bS3, iI_0, iI_1, iI_neg, iL2, iL3, iL4, iL5, iL6, iL7, iL8, iL9, iL10, iL11, iL12, iL13, iL14, iL15, iL16, iL17, iL30, iL31, iL60, iL99, iL100, iL240, iL480, iL1000, iL1920, iL10000, iI_add, iI_sub, iI_mul, iI_div, iI_le, iI_lt, iI_eq, bd_s, rtI]
  by_cases c1 : κ 4 0 ≤ 0
  · rw [if_neg (by omega), if_pos c1]
  · rw [if_neg c1]
    by_cases c2 : 0 < κ 4 0 - 1
    · rw [if_pos c2]
    · rw [if_neg c2, show κ 4 0 - 1 = 0 by omega]
theorem k_isShared (hw : WF κ) (s : Int) (hs : 0 ≤ s ∧ s < 8) (a b : Nat) (ha : a < A.n) (hb : b < A.n) (hn : A.n ≤ 16) : f_X3_isShared (A.x + 1) (iI s) (some (A.b a)) (some (A.b b)) (CH h A κ) = some (iI (b2 (κ 1 s.toNat = 0 ∨ (κ 11 b < κ 12 b) = (κ 11 a < κ 12 a))), CH h A κ) := by
  have h1 := hw.2.2.2.2.1 s.toNat
  unfold f_X3_isShared f_X3_isShared_20 f_X3_isShared_25
  simp (disch := omega) only [iL239, cV0, cR0_0, cR0_1, cR0_2, cR0_3, cR0_4, cR0_5, cV1, cR1_1, cR1_2, cR1_3, cR1_4, cR1_5, cR1_6, cR1_7, cI1_0, cI1_8, cP1_8, cI1_9, cP1_9, cV9, cR9_0, cR9_1, cV10, cV11, cV12, cR12_0, cR12_1, cR12_2, cR12_3, cR12_4, cR12_5, cR12_6, cV18, cR18_0, cR18_1, cR18_2, cR18_3, cR18_4, cI18_5, cP18_5, cI18_6, cP18_6, cV22, cR22_0, cR22_1, cI22_2, cP22_2, cI22_3, cP22_3, cI22_4, cP22_4, cV23, cR23_0, cR23_1, cR23_3, cR23_4, cR23_5, cR23_6, cR23_7, cR23_8, cR23_9, cR23_10, cI23_2, cP23_2, cR10_1, cI10_2, cR11_1, cI11_2, cL2, cS2, cL3, cS3, cL4, cS4, cL5, cS5, cL6, cS6, cL7, cS7, cL8, cS8, cL13, cS13, cL14, cS14, cL15, cS15, cL16, cS16, cL17, cS17, cL19, cS19, cL20, cS20, cL21, cS21, cL24, cS24, cL25, cS25, cL26, cS26, cL27, cS27, cL28, cS28, cL29, cS29, cL30, cS30, cL31, cS31, bV, bK, bI0, bI1, bI2, bI3, bI4, bI5, bI6, bI7, bI8, bI9, bI10, bR11, bR12, bR13, bP9, bP10, bL1, bS1, bL2, bS2, bL3, bS3, iI_0, iI_1, iI_neg, iL2, iL3, iL4, iL5, iL6, iL7, iL8, iL9, iL10, iL11, iL12, iL13, iL14, iL15, iL16, iL17, iL30, iL31, iL60, iL99, iL100, iL240, iL480, iL1000, iL1920, iL10000, iI_add, iI_sub, iI_mul, iI_div, iI_le, iI_lt, iI_eq, bd_s, k_way hw, rt0, rt1]
  by_cases c0 : κ 1 s.toNat = 0
  · rw [if_pos c0, b2_t (Or.inl c0)]
  · rw [if_neg c0]
    by_cases c1 : κ 11 a < κ 12 a <;> by_cases c2 : κ 11 b < κ 12 b
    · simp [c0, c1, c2, b2]
    · simp [c0, c1, c2, b2]
    · simp [c0, c1, c2, b2]
    · simp [c0, c1, c2, b2]
theorem k_lengthOf (hw : WF κ) (b : Nat) (hb : b < A.n) (hb2 : b < 16) (i : Int) (h0 : 0 ≤ i) (h1 : i < lgs κ b) : f_X3_lengthOf (A.x + 1) (some (A.b b)) (iI i) (CH h A κ) = some (iI (lng κ b i), CH h A κ) := by
  have h2 := sec_rng hw hb2 h0 h1
  obtain ⟨-, -, -, g3, -⟩ := hw.bid hb2
  unfold f_X3_lengthOf f_X3_lengthOf_28 lng
  simp (disch := omega) only [iL239, cV0, cR0_0, cR0_1, cR0_2, cR0_3, cR0_4, cR0_5, cV1, cR1_1, cR1_2, cR1_3, cR1_4, cR1_5, cR1_6, cR1_7, cI1_0, cI1_8, cP1_8, cI1_9, cP1_9, cV9, cR9_0, cR9_1, cV10, cV11, cV12, cR12_0, cR12_1, cR12_2, cR12_3, cR12_4, cR12_5, cR12_6, cV18, cR18_0, cR18_1, cR18_2, cR18_3, cR18_4, cI18_5, cP18_5, cI18_6, cP18_6, cV22, cR22_0, cR22_1, cI22_2, cP22_2, cI22_3, cP22_3, cI22_4, cP22_4, cV23, cR23_0, cR23_1, cR23_3, cR23_4, cR23_5, cR23_6, cR23_7, cR23_8, cR23_9, cR23_10, cI23_2, cP23_2, cR10_1, cI10_2, cR11_1, cI11_2, cL2, cS2, cL3, cS3, cL4, cS4, cL5, cS5, cL6, cS6, cL7, cS7, cL8, cS8, cL13, cS13, cL14, cS14, cL15, cS15, cL16, cS16, cL17, cS17, cL19, cS19, cL20, cS20, cL21, cS21, cL24, cS24, cL25, cS25, cL26, cS26, cL27, cS27, cL28, cS28, cL29, cS29, cL30, cS30, cL31, cS31, bV, bK, bI0, bI1, bI2, bI3, bI4, bI5, bI6, bI7, bI8, bI9, bI10, bR11, bR12, bR13, bP9, bP10, bL1, bS1, bL2, bS2, bL3, bS3, iI_0, iI_1, iI_neg, iL2, iL3, iL4, iL5, iL6, iL7, iL8, iL9, iL10, iL11, iL12, iL13, iL14, iL15, iL16, iL17, iL30, iL31, iL60, iL99, iL100, iL240, iL480, iL1000, iL1920, iL10000, iI_add, iI_sub, iI_mul, iI_div, iI_le, iI_lt, iI_eq, bd_s, k_sectionAt hw, rtI]
  by_cases c : κ 13 b = 0
  · rw [if_pos c, show (2 * sec κ b i + κ 13 b).toNat = 2 * (sec κ b i).toNat by omega]
  · rw [if_neg c, show (2 * sec κ b i + κ 13 b).toNat = 2 * (sec κ b i).toNat + 1 by omega]
theorem k_isClosed (hw : WF κ) (s t : Int) (hs : -2147483648 ≤ s ∧ s < 2147483648) (ht : -2147483648 ≤ t ∧ t < 2147483648) : f_X3_isClosed (A.x + 1) (iI s) (iI t) (CH h A κ) = some (iI (b2 (clsd κ s t = true)), CH h A κ) := by
  obtain ⟨-, -, h5, -, -, -, -, h8, -⟩ := hw
  unfold f_X3_isClosed f_X3_isClosed_2
  have := lp_search (B := fun k2 u => fb_X3_isClosed_2 k2 u.1 u.2.1 u.2.2.1 u.2.2.2.1 u.2.2.2.2) (fun w => (some (A.x + 1), iI s, iI t, iI (w : Int), CH h A κ)) (κ 5 0).toNat (clsP κ s t) (fun _ => some (iI 1, CH h A κ)) (some (iI 0, CH h A κ))
    (fun w hw k => by
      obtain ⟨p1, p2, p3⟩ := h8 w (by omega)
      show fb_X3_isClosed_2 k (some (A.x + 1)) (iI s) (iI t) (iI (w : Int)) (CH h A κ) = _
      unfold fb_X3_isClosed_2 f_X3_isClosed_42 clsP
      simp (disch := omega) only [iL239, cV0, cR0_0, cR0_1, cR0_2, cR0_3, cR0_4, cR0_5, cV1, cR1_1, cR1_2, cR1_3, cR1_4, cR1_5, cR1_6, cR1_7, cI1_0, cI1_8, cP1_8, cI1_9, cP1_9, cV9, cR9_0, cR9_1, cV10, cV11, cV12, cR12_0, cR12_1, cR12_2, cR12_3, cR12_4, cR12_5, cR12_6, cV18, cR18_0, cR18_1, cR18_2, cR18_3, cR18_4, cI18_5, cP18_5, cI18_6, cP18_6, cV22, cR22_0, cR22_1, cI22_2, cP22_2, cI22_3, cP22_3, cI22_4, cP22_4, cV23, cR23_0, cR23_1, cR23_3, cR23_4, cR23_5, cR23_6, cR23_7, cR23_8, cR23_9, cR23_10, cI23_2, cP23_2, cR10_1, cI10_2, cR11_1, cI11_2, cL2, cS2, cL3, cS3, cL4, cS4, cL5, cS5, cL6, cS6, cL7, cS7, cL8, cS8, cL13, cS13, cL14, cS14, cL15, cS15, cL16, cS16, cL17, cS17, cL19, cS19, cL20, cS20, cL21, cS21, cL24, cS24, cL25, cS25, cL26, cS26, cL27, cS27, cL28, cS28, cL29, cS29, cL30, cS30, cL31, cS31, bV, bK, bI0, bI1, bI2, bI3, bI4, bI5, bI6, bI7, bI8, bI9, bI10, bR11, bR12, bR13, bP9, bP10, bL1, bS1, bL2, bS2, bL3, bS3, iI_0, iI_1, iI_neg, iL2, iL3, iL4, iL5, iL6, iL7, iL8, iL9, iL10, iL11, iL12, iL13, iL14, iL15, iL16, iL17, iL30, iL31, iL60, iL99, iL100, iL240, iL480, iL1000, iL1920, iL10000, iI_add, iI_sub, iI_mul, iI_div, iI_le, iI_lt, iI_eq, bd_s, Int.toNat_natCast, rt0, rt1, decide_eq_true_eq, Int.natCast_succ]
      (repeat' split) <;> first | rfl | omega)
    (fun k => by
      show fb_X3_isClosed_2 k (some (A.x + 1)) (iI s) (iI t) (iI ((κ 5 0).toNat : Int)) (CH h A κ) = _
      unfold fb_X3_isClosed_2
      simp (disch := omega) only [iL239, cV0, cR0_0, cR0_1, cR0_2, cR0_3, cR0_4, cR0_5, cV1, cR1_1, cR1_2, cR1_3, cR1_4, cR1_5, cR1_6, cR1_7, cI1_0, cI1_8, cP1_8, cI1_9, cP1_9, cV9, cR9_0, cR9_1, cV10, cV11, cV12, cR12_0, cR12_1, cR12_2, cR12_3, cR12_4, cR12_5, cR12_6, cV18, cR18_0, cR18_1, cR18_2, cR18_3, cR18_4, cI18_5, cP18_5, cI18_6, cP18_6, cV22, cR22_0, cR22_1, cI22_2, cP22_2, cI22_3, cP22_3, cI22_4, cP22_4, cV23, cR23_0, cR23_1, cR23_3, cR23_4, cR23_5, cR23_6, cR23_7, cR23_8, cR23_9, cR23_10, cI23_2, cP23_2, cR10_1, cI10_2, cR11_1, cI11_2, cL2, cS2, cL3, cS3, cL4, cS4, cL5, cS5, cL6, cS6, cL7, cS7, cL8, cS8, cL13, cS13, cL14, cS14, cL15, cS15, cL16, cS16, cL17, cS17, cL19, cS19, cL20, cS20, cL21, cS21, cL24, cS24, cL25, cS25, cL26, cS26, cL27, cS27, cL28, cS28, cL29, cS29, cL30, cS30, cL31, cS31, bV, bK, bI0, bI1, bI2, bI3, bI4, bI5, bI6, bI7, bI8, bI9, bI10, bR11, bR12, bR13, bP9, bP10, bL1, bS1, bL2, bS2, bL3, bS3, iI_0, iI_1, iI_neg, iL2, iL3, iL4, iL5, iL6, iL7, iL8, iL9, iL10, iL11, iL12, iL13, iL14, iL15, iL16, iL17, iL30, iL31, iL60, iL99, iL100, iL240, iL480, iL1000, iL1920, iL10000, iI_add, iI_sub, iI_mul, iI_div, iI_le, iI_lt, iI_eq, bd_s, rt0]
      rw [if_pos (by omega)]) (κ 5 0).toNat 0 FU (by omega) (by rw [FU_eq]; omega)
  rw [iI_0]
  refine this.trans ?_
  unfold clsd exB
  cases hq : srch (clsP κ s t) 0 (κ 5 0).toNat with
  | none => rw [b2_f (by simp)]
  | some j => rw [b2_t (by simp)]
end
