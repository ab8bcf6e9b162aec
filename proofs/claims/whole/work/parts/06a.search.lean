/-! the class's search: what closes, what blocks, who stands -/
section
variable {h : Hp} {A : CA} {κ : Sg} {ρ : Nat → Nat}
theorem k_clearMinutes (hk : KO h A κ ρ) {b : Nat} (hb : b < A.n) : ∃ τ, Ex [43, 44] κ τ ∧ (∀ t : Nat, κ 14 b ≤ t → t ≤ κ 15 b → τ 43 t = 0 ∧ τ 44 t = 0) ∧ f_X4_clearMinutes (A.x + 12) (some (A.b b)) (CH h A κ) = some ((), CH h A τ) := by
  obtain ⟨hw, hl, hn⟩ := hk
  have h16 := hl.1
  obtain ⟨-, -, -, -, g14, g15, -⟩ := hw.1.bid (b := b) (by omega)
  unfold f_X4_clearMinutes f_X4_clearMinutes_5
  simp (disch := omega) only [iL239, cV0, cR0_0, cR0_1, cR0_2, cR0_3, cR0_4, cR0_5, cV1, cR1_1, cR1_2, cR1_3, cR1_4, cR1_5, cR1_6, cR1_7, cI1_0, cI1_8, cP1_8, cI1_9, cP1_9, cV9, cR9_0, cR9_1, cV10, cV11, cV12, cR12_0, cR12_1, cR12_2, cR12_3, cR12_4, cR12_5, cR12_6, cV18, cR18_0, cR18_1, cR18_2, cR18_3, cR18_4, cI18_5, cP18_5, cI18_6, cP18_6, cV22, cR22_0, cR22_1, cI22_2, cP22_2, cI22_3, cP22_3, cI22_4, cP22_4, cV23, cR23_0, cR23_1, cR23_3, cR23_4, cR23_5, cR23_6, cR23_7, cR23_8, cR23_9, cR23_10, cI23_2, cP23_2, cR10_1, cI10_2, cR11_1, cI11_2, cL2, cS2, cL3, cS3, cL4, cS4, cL5, cS5, cL6, cS6, cL7, cS7, cL8, cS8, cL13, cS13, cL14, cS14, cL15, cS15, cL16, cS16, cL17, cS17, cL19, cS19, cL20, cS20, cL21, cS21, cL24, cS24, cL25, cS25, cL26, cS26, cL27, cS27, cL28, cS28, cL29, cS29, cL30, cS30, cL31, cS31, bV, bK, bI0, bI1, bI2, bI3, bI4, bI5, bI6, bI7, bI8, bI9, bI10, bR11, bR12, bR13, bP9, bP10, bL1, bS1, bL2, bS2, bL3, bS3]
  obtain ⟨τ, t1, t2⟩ := lp_rel (B := fun k5 u => fb_X4_clearMinutes_5 k5 u.1 u.2.1 u.2.2.1 u.2.2.2) (fun j (τ : Sg) => (some (A.x + 12), some (A.b b), iI (κ 14 b + (j : Int)), CH h A τ)) (fun j τ => Ex [43, 44] κ τ ∧ ∀ t : Nat, κ 14 b ≤ t → (t : Int) < κ 14 b + j → τ 43 t = 0 ∧ τ 44 t = 0) (κ 15 b + 1 - κ 14 b).toNat (fun τ => some ((), CH h A τ))
    (fun j τ hj hI => by
      have e15 := hI.1 15 b (by decide)
      refine ⟨sg (sg τ 43 (κ 14 b + j).toNat 0) 44 (κ 14 b + j).toNat 0, ⟨(hI.1.sg (by decide) _ _).sg (by decide) _ _, fun t h1 h2 => ?_⟩, fun k => ?_⟩
      · by_cases ht : t = (κ 14 b + j).toNat
        · subst ht; simp [sg]
        · have := hI.2 t h1 (by omega)
          simp [sg, ht, this.1, this.2]
      · show fb_X4_clearMinutes_5 k (some (A.x + 12)) (some (A.b b)) (iI (κ 14 b + (j : Int))) (CH h A τ) = _
        unfold fb_X4_clearMinutes_5
        simp (disch := omega) only [iL239, cV0, cR0_0, cR0_1, cR0_2, cR0_3, cR0_4, cR0_5, cV1, cR1_1, cR1_2, cR1_3, cR1_4, cR1_5, cR1_6, cR1_7, cI1_0, cI1_8, cP1_8, cI1_9, cP1_9, cV9, cR9_0, cR9_1, cV10, cV11, cV12, cR12_0, cR12_1, cR12_2, cR12_3, cR12_4, cR12_5, cR12_6, cV18, cR18_0, cR18_1, cR18_2, cR18_3, cR18_4, cI18_5, cP18_5, cI18_6, cP18_6, cV22, cR22_0, cR22_1, cI22_2, cP22_2, cI22_3, cP22_3, cI22_4, cP22_4, cV23, cR23_0, cR23_1, cR23_3, cR23_4, cR23_5, cR23_6, cR23_7, cR23_8, cR23_9, cR23_10, cI23_2, cP23_2, cR10_1, cI10_2, cR11_1, cI11_2, cL2, cS2, cL3, cS3, cL4, cS4, cL5, cS5, cL6, cS6, cL7, cS7, cL8, cS8, cL13, cS13, cL14, cS14, cL15, cS15, cL16, cS16, cL17, cS17, cL19, cS19, cL20, cS20, cL21, cS21, cL24, cS24, cL25, cS25, cL26, cS26, cL27, cS27, cL28, cS28, cL29, cS29, cL30, cS30, cL31, cS31, bV, bK, bI0, bI1, bI2, bI3, bI4, bI5, bI6, bI7, bI8, bI9, bI10, bR11, bR12, bR13, bP9, bP10, bL1, bS1, bL2, bS2, bL3, bS3, iI_0, iI_1, iI_neg, iL2, iL3, iL4, iL5, iL6, iL7, iL8, iL9, iL10, iL11, iL12, iL13, iL14, iL15, iL16, iL17, iL30, iL31, iL60, iL99, iL100, iL240, iL480, iL1000, iL1920, iL10000, iI_add, iI_sub, iI_mul, iI_div, iI_le, iI_lt, iI_eq, bd_s, e15, Int.natCast_succ]
        rw [if_neg (by omega)]
        congr 4
        rw [Int.add_assoc])
    (fun τ k hI => by
      have e15 := hI.1 15 b (by decide)
      show fb_X4_clearMinutes_5 k (some (A.x + 12)) (some (A.b b)) (iI (κ 14 b + ((κ 15 b + 1 - κ 14 b).toNat : Int))) (CH h A τ) = _
      unfold fb_X4_clearMinutes_5
      simp (disch := omega) only [iL239, cV0, cR0_0, cR0_1, cR0_2, cR0_3, cR0_4, cR0_5, cV1, cR1_1, cR1_2, cR1_3, cR1_4, cR1_5, cR1_6, cR1_7, cI1_0, cI1_8, cP1_8, cI1_9, cP1_9, cV9, cR9_0, cR9_1, cV10, cV11, cV12, cR12_0, cR12_1, cR12_2, cR12_3, cR12_4, cR12_5, cR12_6, cV18, cR18_0, cR18_1, cR18_2, cR18_3, cR18_4, cI18_5, cP18_5, cI18_6, cP18_6, cV22, cR22_0, cR22_1, cI22_2, cP22_2, cI22_3, cP22_3, cI22_4, cP22_4, cV23, cR23_0, cR23_1, cR23_3, cR23_4, cR23_5, cR23_6, cR23_7, cR23_8, cR23_9, cR23_10, cI23_2, cP23_2, cR10_1, cI10_2, cR11_1, cI11_2, cL2, cS2, cL3, cS3, cL4, cS4, cL5, cS5, cL6, cS6, cL7, cS7, cL8, cS8, cL13, cS13, cL14, cS14, cL15, cS15, cL16, cS16, cL17, cS17, cL19, cS19, cL20, cS20, cL21, cS21, cL24, cS24, cL25, cS25, cL26, cS26, cL27, cS27, cL28, cS28, cL29, cS29, cL30, cS30, cL31, cS31, bV, bK, bI0, bI1, bI2, bI3, bI4, bI5, bI6, bI7, bI8, bI9, bI10, bR11, bR12, bR13, bP9, bP10, bL1, bS1, bL2, bS2, bL3, bS3, iI_0, iI_1, iI_neg, iL2, iL3, iL4, iL5, iL6, iL7, iL8, iL9, iL10, iL11, iL12, iL13, iL14, iL15, iL16, iL17, iL30, iL31, iL60, iL99, iL100, iL240, iL480, iL1000, iL1920, iL10000, iI_add, iI_sub, iI_mul, iI_div, iI_le, iI_lt, iI_eq, bd_s, e15]
      rw [if_pos (by omega)]
      rfl) (κ 15 b + 1 - κ 14 b).toNat 0 FU κ (by omega) (by rw [FU_eq]; omega) ⟨Ex.refl _ _, fun t h1 h2 => by omega⟩
  refine ⟨τ, t1.1, fun t h1 h2 => t1.2 t h1 (by omega), ?_⟩
  rw [show κ 14 b + ((0 : Nat) : Int) = κ 14 b by omega] at t2
  exact t2
theorem k_block (a z : Int) (ha : -1000 ≤ a ∧ a ≤ 1000) (hz : -1000 ≤ z ∧ z ≤ 1000) : ∃ τ, Ex [43] κ τ ∧ (∀ t : Nat, t < 240 → τ 43 t = if a ≤ t ∧ t ≤ z then 1 else κ 43 t) ∧ f_X4_block (A.x + 12) (iI a) (iI z) (CH h A κ) = some ((), CH h A τ) := by
  unfold f_X4_block f_X4_block_15
  obtain ⟨z', ez, hz'⟩ : ∃ z' : Int, z' = (if 239 < z then 239 else z) ∧ (if (239 : Int32) < iI z then 239 else iI z) = iI z' := by
    refine ⟨_, rfl, ?_⟩
    simp (disch := omega) only [iL239, iI_0, iI_1, iI_neg, iL2, iL3, iL4, iL5, iL6, iL7, iL8, iL9, iL10, iL11, iL12, iL13, iL14, iL15, iL16, iL17, iL30, iL31, iL60, iL99, iL100, iL240, iL480, iL1000, iL1920, iL10000, iI_add, iI_sub, iI_mul, iI_div, iI_le, iI_lt, iI_eq, bd_s]
    split <;> rfl
  obtain ⟨a', ea, ha'⟩ : ∃ a' : Int, a' = (if a < 0 then 0 else a) ∧ (if iI a < (0 : Int32) then 0 else iI a) = iI a' := by
    refine ⟨_, rfl, ?_⟩
    simp (disch := omega) only [iI_0, iI_1, iI_neg, iL2, iL3, iL4, iL5, iL6, iL7, iL8, iL9, iL10, iL11, iL12, iL13, iL14, iL15, iL16, iL17, iL30, iL31, iL60, iL99, iL100, iL240, iL480, iL1000, iL1920, iL10000, iI_add, iI_sub, iI_mul, iI_div, iI_le, iI_lt, iI_eq, bd_s]
    split <;> rfl
  rw [hz', ha']
  have hz2 : z' ≤ 239 ∧ -1000 ≤ z' := by rw [ez]; split <;> omega
  have ha2 : 0 ≤ a' ∧ a' ≤ 1000 := by rw [ea]; split <;> omega
  have hza : ∀ t : Nat, t < 240 → ((a ≤ t ∧ t ≤ z) ↔ (a' ≤ t ∧ t ≤ z')) := fun t ht => by
    rw [ez, ea]
    constructor
    · intro q; constructor <;> split <;> omega
    · rintro ⟨q1, q2⟩
      split at q1 <;> split at q2 <;> omega
  clear hz' ha' ez ea
  obtain ⟨τ, t1, t2⟩ := lp_rel (B := fun k5 u => fb_X4_block_15 k5 u.1 u.2.1 u.2.2.1 u.2.2.2) (fun j (τ : Sg) => (some (A.x + 12), iI z', iI (a' + (j : Int)), CH h A τ)) (fun j τ => Ex [43] κ τ ∧ ∀ t : Nat, τ 43 t = if a' ≤ t ∧ (t : Int) < a' + j then 1 else κ 43 t) (z' + 1 - a').toNat (fun τ => some ((), CH h A τ))
    (fun j τ hj hI => by
      refine ⟨sg τ 43 (a' + j).toNat 1, ⟨hI.1.sg (by decide) _ _, fun t => ?_⟩, fun k => ?_⟩
      · by_cases ht : t = (a' + j).toNat
        · subst ht
          rw [sg_eq, if_pos (by omega)]
        · rw [sg_i _ _ _ ht, hI.2 t]
          (repeat' split) <;> first | rfl | omega
      · show fb_X4_block_15 k (some (A.x + 12)) (iI z') (iI (a' + (j : Int))) (CH h A τ) = _
        unfold fb_X4_block_15
        simp (disch := omega) only [iL239, cV0, cR0_0, cR0_1, cR0_2, cR0_3, cR0_4, cR0_5, cV1, cR1_1, cR1_2, cR1_3, cR1_4, cR1_5, cR1_6, cR1_7, cI1_0, cI1_8, cP1_8, cI1_9, cP1_9, cV9, cR9_0, cR9_1, cV10, cV11, cV12, cR12_0, cR12_1, cR12_2, cR12_3, cR12_4, cR12_5, cR12_6, cV18, cR18_0, cR18_1, cR18_2, cR18_3, cR18_4, cI18_5, cP18_5, cI18_6, cP18_6, cV22, cR22_0, cR22_1, cI22_2, cP22_2, cI22_3, cP22_3, cI22_4, cP22_4, cV23, cR23_0, cR23_1, cR23_3, cR23_4, cR23_5, cR23_6, cR23_7, cR23_8, cR23_9, cR23_10, cI23_2, cP23_2, cR10_1, cI10_2, cR11_1, cI11_2, cL2, cS2, cL3, cS3, cL4, cS4, cL5, cS5, cL6, cS6, cL7, cS7, cL8, cS8, cL13, cS13, cL14, cS14, cL15, cS15, cL16, cS16, cL17, cS17, cL19, cS19, cL20, cS20, cL21, cS21, cL24, cS24, cL25, cS25, cL26, cS26, cL27, cS27, cL28, cS28, cL29, cS29, cL30, cS30, cL31, cS31, bV, bK, bI0, bI1, bI2, bI3, bI4, bI5, bI6, bI7, bI8, bI9, bI10, bR11, bR12, bR13, bP9, bP10, bL1, bS1, bL2, bS2, bL3, bS3, iI_0, iI_1, iI_neg, iL2, iL3, iL4, iL5, iL6, iL7, iL8, iL9, iL10, iL11, iL12, iL13, iL14, iL15, iL16, iL17, iL30, iL31, iL60, iL99, iL100, iL240, iL480, iL1000, iL1920, iL10000, iI_add, iI_sub, iI_mul, iI_div, iI_le, iI_lt, iI_eq, bd_s, Int.natCast_succ]
        rw [if_neg (by omega)]
        congr 3
        rw [Int.add_assoc])
    (fun τ k hI => by
      show fb_X4_block_15 k (some (A.x + 12)) (iI z') (iI (a' + ((z' + 1 - a').toNat : Int))) (CH h A τ) = _
      unfold fb_X4_block_15
      simp (disch := omega) only [iL239, cV0, cR0_0, cR0_1, cR0_2, cR0_3, cR0_4, cR0_5, cV1, cR1_1, cR1_2, cR1_3, cR1_4, cR1_5, cR1_6, cR1_7, cI1_0, cI1_8, cP1_8, cI1_9, cP1_9, cV9, cR9_0, cR9_1, cV10, cV11, cV12, cR12_0, cR12_1, cR12_2, cR12_3, cR12_4, cR12_5, cR12_6, cV18, cR18_0, cR18_1, cR18_2, cR18_3, cR18_4, cI18_5, cP18_5, cI18_6, cP18_6, cV22, cR22_0, cR22_1, cI22_2, cP22_2, cI22_3, cP22_3, cI22_4, cP22_4, cV23, cR23_0, cR23_1, cR23_3, cR23_4, cR23_5, cR23_6, cR23_7, cR23_8, cR23_9, cR23_10, cI23_2, cP23_2, cR10_1, cI10_2, cR11_1, cI11_2, cL2, cS2, cL3, cS3, cL4, cS4, cL5, cS5, cL6, cS6, cL7, cS7, cL8, cS8, cL13, cS13, cL14, cS14, cL15, cS15, cL16, cS16, cL17, cS17, cL19, cS19, cL20, cS20, cL21, cS21, cL24, cS24, cL25, cS25, cL26, cS26, cL27, cS27, cL28, cS28, cL29, cS29, cL30, cS30, cL31, cS31, bV, bK, bI0, bI1, bI2, bI3, bI4, bI5, bI6, bI7, bI8, bI9, bI10, bR11, bR12, bR13, bP9, bP10, bL1, bS1, bL2, bS2, bL3, bS3, iI_0, iI_1, iI_neg, iL2, iL3, iL4, iL5, iL6, iL7, iL8, iL9, iL10, iL11, iL12, iL13, iL14, iL15, iL16, iL17, iL30, iL31, iL60, iL99, iL100, iL240, iL480, iL1000, iL1920, iL10000, iI_add, iI_sub, iI_mul, iI_div, iI_le, iI_lt, iI_eq, bd_s]
      rw [if_pos (by omega)]
      rfl) (z' + 1 - a').toNat 0 FU κ (by omega) (by rw [FU_eq]; omega) ⟨Ex.refl _ _, fun t => by rw [if_neg (by omega)]⟩
  refine ⟨τ, t1.1, fun t ht => ?_, ?_⟩
  · rw [t1.2 t]
    by_cases q : a ≤ t ∧ t ≤ z
    · have := (hza t ht).1 q
      rw [if_pos q, if_pos (by omega)]
    · rw [if_neg q, if_neg]
      intro p
      exact q ((hza t ht).2 (by omega))
  · rw [show a' + ((0 : Nat) : Int) = a' by omega] at t2
    exact t2
def wkP (κ : Sg) (s n : Int) (t : Nat) (w : Nat) : Bool := decide (κ 6 w = s ∧ κ 7 w - n + 1 ≤ t ∧ t ≤ κ 8 w - 1)
theorem k_blockByWorks (hk : KO h A κ ρ) {b : Nat} (hb : b < A.n) {i : Int} (i0 : 0 ≤ i) (i1 : i < lgs κ b) : ∃ τ, Ex [43] κ τ ∧ (∀ t : Nat, t < 240 → τ 43 t = if exB (wkP κ (sec κ b i) (lng κ b i) t) (κ 5 0).toNat then 1 else κ 43 t) ∧ f_X4_blockByWorks (A.x + 12) (some (A.b b)) (iI i) (CH h A κ) = some ((), CH h A τ) := by
  obtain ⟨hw, hl, hn⟩ := hk
  have h16 := hl.1
  have hs := sec_rng hw.1 (b := b) (by omega) i0 i1
  have hg := lng_rng hw.1 (b := b) (by omega) i0 i1
  obtain ⟨-, -, h5, -, -, -, -, h8, -⟩ := hw.1
  unfold f_X4_blockByWorks f_X4_blockByWorks_20
  simp (disch := omega) only [iL239, cV0, cR0_0, cR0_1, cR0_2, cR0_3, cR0_4, cR0_5, cV1, cR1_1, cR1_2, cR1_3, cR1_4, cR1_5, cR1_6, cR1_7, cI1_0, cI1_8, cP1_8, cI1_9, cP1_9, cV9, cR9_0, cR9_1, cV10, cV11, cV12, cR12_0, cR12_1, cR12_2, cR12_3, cR12_4, cR12_5, cR12_6, cV18, cR18_0, cR18_1, cR18_2, cR18_3, cR18_4, cI18_5, cP18_5, cI18_6, cP18_6, cV22, cR22_0, cR22_1, cI22_2, cP22_2, cI22_3, cP22_3, cI22_4, cP22_4, cV23, cR23_0, cR23_1, cR23_3, cR23_4, cR23_5, cR23_6, cR23_7, cR23_8, cR23_9, cR23_10, cI23_2, cP23_2, cR10_1, cI10_2, cR11_1, cI11_2, cL2, cS2, cL3, cS3, cL4, cS4, cL5, cS5, cL6, cS6, cL7, cS7, cL8, cS8, cL13, cS13, cL14, cS14, cL15, cS15, cL16, cS16, cL17, cS17, cL19, cS19, cL20, cS20, cL21, cS21, cL24, cS24, cL25, cS25, cL26, cS26, cL27, cS27, cL28, cS28, cL29, cS29, cL30, cS30, cL31, cS31, bV, bK, bI0, bI1, bI2, bI3, bI4, bI5, bI6, bI7, bI8, bI9, bI10, bR11, bR12, bR13, bP9, bP10, bL1, bS1, bL2, bS2, bL3, bS3, k_sectionAt hw.1, k_lengthOf hw.1, bd_s]
  rw [iI_0]
  generalize sec κ b i = s at hs ⊢
  generalize lng κ b i = n at hg ⊢
  obtain ⟨τ, t1, t2⟩ := lp_rel (B := fun k20 u => fb_X4_blockByWorks_20 k20 u.1 u.2.1 u.2.2.1 u.2.2.2.1 u.2.2.2.2) (fun w (τ : Sg) => (some (A.x + 12), iI s, iI n, iI (w : Int), CH h A τ)) (fun w τ => Ex [43] κ τ ∧ ∀ t : Nat, t < 240 → τ 43 t = if exB (wkP κ s n t) w then 1 else κ 43 t) (κ 5 0).toNat (fun τ => some ((), CH h A τ))
    (fun w τ hj hI => by
      have e5 := hI.1 5 0 (by decide)
      have e6 := hI.1 6 w (by decide)
      have e7 := hI.1 7 w (by decide)
      have e8 := hI.1 8 w (by decide)
      obtain ⟨p6, p7, p8⟩ := h8 w (by omega)
      by_cases c : κ 6 w = s
      · obtain ⟨υ, u1, u2, u3⟩ := k_block (h := h) (A := A) (κ := τ) (κ 7 w - n + 1) (κ 8 w - 1) (by omega) (by omega)
        refine ⟨υ, ⟨hI.1.trans u1, fun t ht => ?_⟩, fun k => ?_⟩
        · rw [u2 t ht, hI.2 t ht, exB_succ]
          by_cases q : κ 7 w - n + 1 ≤ t ∧ t ≤ κ 8 w - 1
          · rw [if_pos q, show wkP κ s n t w = true by simp [wkP, c, q.1, q.2]]
            simp
          · rw [if_neg q, show wkP κ s n t w = false by simp only [wkP, decide_eq_false_iff_not]; omega]
            simp
        · show fb_X4_blockByWorks_20 k (some (A.x + 12)) (iI s) (iI n) (iI (w : Int)) (CH h A τ) = _
          unfold fb_X4_blockByWorks_20 f_X4_blockByWorks_77
          simp (disch := omega) only [iL239, cV0, cR0_0, cR0_1, cR0_2, cR0_3, cR0_4, cR0_5, cV1, cR1_1, cR1_2, cR1_3, cR1_4, cR1_5, cR1_6, cR1_7, cI1_0, cI1_8, cP1_8, cI1_9, cP1_9, cV9, cR9_0, cR9_1, cV10, cV11, cV12, cR12_0, cR12_1, cR12_2, cR12_3, cR12_4, cR12_5, cR12_6, cV18, cR18_0, cR18_1, cR18_2, cR18_3, cR18_4, cI18_5, cP18_5, cI18_6, cP18_6, cV22, cR22_0, cR22_1, cI22_2, cP22_2, cI22_3, cP22_3, cI22_4, cP22_4, cV23, cR23_0, cR23_1, cR23_3, cR23_4, cR23_5, cR23_6, cR23_7, cR23_8, cR23_9, cR23_10, cI23_2, cP23_2, cR10_1, cI10_2, cR11_1, cI11_2, cL2, cS2, cL3, cS3, cL4, cS4, cL5, cS5, cL6, cS6, cL7, cS7, cL8, cS8, cL13, cS13, cL14, cS14, cL15, cS15, cL16, cS16, cL17, cS17, cL19, cS19, cL20, cS20, cL21, cS21, cL24, cS24, cL25, cS25, cL26, cS26, cL27, cS27, cL28, cS28, cL29, cS29, cL30, cS30, cL31, cS31, bV, bK, bI0, bI1, bI2, bI3, bI4, bI5, bI6, bI7, bI8, bI9, bI10, bR11, bR12, bR13, bP9, bP10, bL1, bS1, bL2, bS2, bL3, bS3, iI_0, iI_1, iI_neg, iL2, iL3, iL4, iL5, iL6, iL7, iL8, iL9, iL10, iL11, iL12, iL13, iL14, iL15, iL16, iL17, iL30, iL31, iL60, iL99, iL100, iL240, iL480, iL1000, iL1920, iL10000, iI_add, iI_sub, iI_mul, iI_div, iI_le, iI_lt, iI_eq, bd_s, Int.toNat_natCast, e5, e6, e7, e8, u3, Int.natCast_succ]
          rw [if_neg (by omega), if_pos c]
      · refine ⟨τ, ⟨hI.1, fun t ht => ?_⟩, fun k => ?_⟩
        · rw [hI.2 t ht, exB_succ, show wkP κ s n t w = false by simp [wkP, c]]
          simp
        · show fb_X4_blockByWorks_20 k (some (A.x + 12)) (iI s) (iI n) (iI (w : Int)) (CH h A τ) = _
          unfold fb_X4_blockByWorks_20 f_X4_blockByWorks_77
          simp (disch := omega) only [iL239, cV0, cR0_0, cR0_1, cR0_2, cR0_3, cR0_4, cR0_5, cV1, cR1_1, cR1_2, cR1_3, cR1_4, cR1_5, cR1_6, cR1_7, cI1_0, cI1_8, cP1_8, cI1_9, cP1_9, cV9, cR9_0, cR9_1, cV10, cV11, cV12, cR12_0, cR12_1, cR12_2, cR12_3, cR12_4, cR12_5, cR12_6, cV18, cR18_0, cR18_1, cR18_2, cR18_3, cR18_4, cI18_5, cP18_5, cI18_6, cP18_6, cV22, cR22_0, cR22_1, cI22_2, cP22_2, cI22_3, cP22_3, cI22_4, cP22_4, cV23, cR23_0, cR23_1, cR23_3, cR23_4, cR23_5, cR23_6, cR23_7, cR23_8, cR23_9, cR23_10, cI23_2, cP23_2, cR10_1, cI10_2, cR11_1, cI11_2, cL2, cS2, cL3, cS3, cL4, cS4, cL5, cS5, cL6, cS6, cL7, cS7, cL8, cS8, cL13, cS13, cL14, cS14, cL15, cS15, cL16, cS16, cL17, cS17, cL19, cS19, cL20, cS20, cL21, cS21, cL24, cS24, cL25, cS25, cL26, cS26, cL27, cS27, cL28, cS28, cL29, cS29, cL30, cS30, cL31, cS31, bV, bK, bI0, bI1, bI2, bI3, bI4, bI5, bI6, bI7, bI8, bI9, bI10, bR11, bR12, bR13, bP9, bP10, bL1, bS1, bL2, bS2, bL3, bS3, iI_0, iI_1, iI_neg, iL2, iL3, iL4, iL5, iL6, iL7, iL8, iL9, iL10, iL11, iL12, iL13, iL14, iL15, iL16, iL17, iL30, iL31, iL60, iL99, iL100, iL240, iL480, iL1000, iL1920, iL10000, iI_add, iI_sub, iI_mul, iI_div, iI_le, iI_lt, iI_eq, bd_s, Int.toNat_natCast, e5, e6, e7, e8, Int.natCast_succ]
          rw [if_neg (by omega), if_neg c])
    (fun τ k hI => by
      have e5 := hI.1 5 0 (by decide)
      show fb_X4_blockByWorks_20 k (some (A.x + 12)) (iI s) (iI n) (iI ((κ 5 0).toNat : Int)) (CH h A τ) = _
      unfold fb_X4_blockByWorks_20
      simp (disch := omega) only [iL239, cV0, cR0_0, cR0_1, cR0_2, cR0_3, cR0_4, cR0_5, cV1, cR1_1, cR1_2, cR1_3, cR1_4, cR1_5, cR1_6, cR1_7, cI1_0, cI1_8, cP1_8, cI1_9, cP1_9, cV9, cR9_0, cR9_1, cV10, cV11, cV12, cR12_0, cR12_1, cR12_2, cR12_3, cR12_4, cR12_5, cR12_6, cV18, cR18_0, cR18_1, cR18_2, cR18_3, cR18_4, cI18_5, cP18_5, cI18_6, cP18_6, cV22, cR22_0, cR22_1, cI22_2, cP22_2, cI22_3, cP22_3, cI22_4, cP22_4, cV23, cR23_0, cR23_1, cR23_3, cR23_4, cR23_5, cR23_6, cR23_7, cR23_8, cR23_9, cR23_10, cI23_2, cP23_2, cR10_1, cI10_2, cR11_1, cI11_2, cL2, cS2, cL3, cS3, cL4, cS4, cL5, cS5, cL6, cS6, cL7, cS7, cL8, cS8, cL13, cS13, cL14, cS14, cL15, cS15, cL16, cS16, cL17, cS17, cL19, cS19, cL20, cS20, cL21, cS21, cL24, cS24, cL25, cS25, cL26, cS26, cL27, cS27, cL28, cS28, cL29, cS29, cL30, cS30, cL31, cS31, bV, bK, bI0, bI1, bI2, bI3, bI4, bI5, bI6, bI7, bI8, bI9, bI10, bR11, bR12, bR13, bP9, bP10, bL1, bS1, bL2, bS2, bL3, bS3, iI_0, iI_1, iI_neg, iL2, iL3, iL4, iL5, iL6, iL7, iL8, iL9, iL10, iL11, iL12, iL13, iL14, iL15, iL16, iL17, iL30, iL31, iL60, iL99, iL100, iL240, iL480, iL1000, iL1920, iL10000, iI_add, iI_sub, iI_mul, iI_div, iI_le, iI_lt, iI_eq, bd_s, e5]
      rw [if_pos (by omega)]
      rfl) (κ 5 0).toNat 0 FU κ (by omega) (by rw [FU_eq]; omega) ⟨Ex.refl _ _, fun t _ => rfl⟩
  exact ⟨τ, t1.1, t1.2, t2⟩
/-- what the class keeps beside the reference: the minutes of coming -/
def CM (κ : Sg) : Prop := ∀ (b : Nat) (i : Int), (b : Int) < κ 9 0 → κ 19 b ≠ 0 → 1 ≤ i → i ≤ lgs κ b → cv κ b i = cmT κ b i
theorem k_blockByOthers (hk : KO h A κ ρ) (hc : CM κ) {b : Nat} (hb : b < A.n) {i : Int} (i0 : 0 ≤ i) (i1 : i < lgs κ b) : ∃ τ, Ex [43] κ τ ∧ (∀ t : Nat, t < 240 → τ 43 t = if exB (blk κ b (sec κ b i) t (lng κ b i)) A.n then 1 else κ 43 t) ∧ f_X4_blockByOthers (A.x + 12) (some (A.b b)) (iI i) (CH h A κ) = some ((), CH h A τ) := by
  have hko := hk
  obtain ⟨hw, hl, hn⟩ := hk
  have h16 := hl.1
  have hs := sec_rng hw.1 (b := b) (by omega) i0 i1
  have hg := lng_rng hw.1 (b := b) (by omega) i0 i1
  have hh := bhd_rng hw.1
  unfold f_X4_blockByOthers f_X4_blockByOthers_29
  simp (disch := omega) only [iL239, cV0, cR0_0, cR0_1, cR0_2, cR0_3, cR0_4, cR0_5, cV1, cR1_1, cR1_2, cR1_3, cR1_4, cR1_5, cR1_6, cR1_7, cI1_0, cI1_8, cP1_8, cI1_9, cP1_9, cV9, cR9_0, cR9_1, cV10, cV11, cV12, cR12_0, cR12_1, cR12_2, cR12_3, cR12_4, cR12_5, cR12_6, cV18, cR18_0, cR18_1, cR18_2, cR18_3, cR18_4, cI18_5, cP18_5, cI18_6, cP18_6, cV22, cR22_0, cR22_1, cI22_2, cP22_2, cI22_3, cP22_3, cI22_4, cP22_4, cV23, cR23_0, cR23_1, cR23_3, cR23_4, cR23_5, cR23_6, cR23_7, cR23_8, cR23_9, cR23_10, cI23_2, cP23_2, cR10_1, cI10_2, cR11_1, cI11_2, cL2, cS2, cL3, cS3, cL4, cS4, cL5, cS5, cL6, cS6, cL7, cS7, cL8, cS8, cL13, cS13, cL14, cS14, cL15, cS15, cL16, cS16, cL17, cS17, cL19, cS19, cL20, cS20, cL21, cS21, cL24, cS24, cL25, cS25, cL26, cS26, cL27, cS27, cL28, cS28, cL29, cS29, cL30, cS30, cL31, cS31, bV, bK, bI0, bI1, bI2, bI3, bI4, bI5, bI6, bI7, bI8, bI9, bI10, bR11, bR12, bR13, bP9, bP10, bL1, bS1, bL2, bS2, bL3, bS3, k_sectionAt hw.1, k_lengthOf hw.1, k_holdBehind hw.1, bd_s]
  rw [iI_0]
  generalize sec κ b i = s at hs ⊢
  generalize lng κ b i = n at hg ⊢
  obtain ⟨τ, t1, t2⟩ := lp_rel (B := fun k20 u => fb_X4_blockByOthers_29 k20 u.1 u.2.1 u.2.2.1 u.2.2.2.1 u.2.2.2.2.1 u.2.2.2.2.2.1 u.2.2.2.2.2.2) (fun o (τ : Sg) => (some (A.x + 12), some (A.b b), iI s, iI n, iI (bhd κ), iI (o : Int), CH h A τ)) (fun o τ => Ex [43] κ τ ∧ ∀ t : Nat, t < 240 → τ 43 t = if exB (blk κ b s t n) o then 1 else κ 43 t) A.n (fun τ => some ((), CH h A τ))
    (fun o τ ho hI => by
      have hkt := hko.ex hI.1 (by decide)
      have ecor := hI.1.cor (by decide)
      have hwt := hkt.1.1
      have e19 := hI.1 19 o (by decide)
      have e1 := hI.1 1 s.toNat (by decide)
      have e11o := hI.1 11 o (by decide)
      have e12o := hI.1 12 o (by decide)
      have e11b := hI.1 11 b (by decide)
      have e12b := hI.1 12 b (by decide)
      have esp : spC τ o s = legO κ o s := by rw [← spC_legO]; unfold spC; rw [e11o, e12o]
      have hlr := legO_rng hw.1 (b := o) (by omega) (s := s)
      have h19 := (hw.1.bid (b := o) (by omega)).2.2.2.2.2.2.2.2.2
      by_cases c : o ≠ b ∧ κ 19 o ≠ 0 ∧ (κ 1 s.toNat = 0 ∨ (κ 11 o < κ 12 o) = (κ 11 b < κ 12 b)) ∧ legO κ o s ≠ -1
      · obtain ⟨c1, c2, c3, c4⟩ := c
        obtain ⟨l1, l2, l3⟩ := legO_some c4
        have elv : lv τ o (legO κ o s) = lv κ o (legO κ o s) := hI.1 20 _ (by decide)
        have ecv : cv τ o (legO κ o s + 1) = lv κ o (legO κ o s) + lng κ o (legO κ o s) := by
          rw [show cv τ o (legO κ o s + 1) = cv κ o (legO κ o s + 1) from hI.1 41 _ (by decide), hc o _ (by omega) c2 (by omega) (by omega)]
          unfold cmT
          rw [show legO κ o s + 1 - 1 = legO κ o s by omega]
        have hlv := lv_rng hw.1 (b := o) (by omega) l1 (by omega)
        have hln := lng_rng hw.1 (b := o) (by omega) l1 l2
        obtain ⟨υ, u1, u2, u3⟩ := k_block (h := h) (A := A) (κ := τ) (lv κ o (legO κ o s) - n - bhd κ + 1) (lv κ o (legO κ o s) + lng κ o (legO κ o s) - 1 + bhd κ) (by omega) (by omega)
        refine ⟨υ, ⟨hI.1.trans u1, fun t ht => ?_⟩, fun k => ?_⟩
        · rw [u2 t ht, hI.2 t ht, exB_succ]
          by_cases q : lv κ o (legO κ o s) - n - bhd κ + 1 ≤ t ∧ t ≤ lv κ o (legO κ o s) + lng κ o (legO κ o s) - 1 + bhd κ
          · rw [if_pos q, show blk κ b s t n o = true by simp only [blk, decide_eq_true_eq]; exact ⟨c1, c2, c3, c4, by omega⟩]
            simp
          · rw [if_neg q, show blk κ b s t n o = false by simp only [blk, decide_eq_false_iff_not]; rintro ⟨-, -, -, -, q5⟩; exact q (by omega)]
            simp
        · show fb_X4_blockByOthers_29 k (some (A.x + 12)) (some (A.b b)) (iI s) (iI n) (iI (bhd κ)) (iI (o : Int)) (CH h A τ) = _
          unfold fb_X4_blockByOthers_29 f_X4_blockByOthers_142
          simp (maxSteps := 1000000) (disch := omega) only [iL239, cV0, cR0_0, cR0_1, cR0_2, cR0_3, cR0_4, cR0_5, cV1, cR1_1, cR1_2, cR1_3, cR1_4, cR1_5, cR1_6, cR1_7, cI1_0, cI1_8, cP1_8, cI1_9, cP1_9, cV9, cR9_0, cR9_1, cV10, cV11, cV12, cR12_0, cR12_1, cR12_2, cR12_3, cR12_4, cR12_5, cR12_6, cV18, cR18_0, cR18_1, cR18_2, cR18_3, cR18_4, cI18_5, cP18_5, cI18_6, cP18_6, cV22, cR22_0, cR22_1, cI22_2, cP22_2, cI22_3, cP22_3, cI22_4, cP22_4, cV23, cR23_0, cR23_1, cR23_3, cR23_4, cR23_5, cR23_6, cR23_7, cR23_8, cR23_9, cR23_10, cI23_2, cP23_2, cR10_1, cI10_2, cR11_1, cI11_2, cL2, cS2, cL3, cS3, cL4, cS4, cL5, cS5, cL6, cS6, cL7, cS7, cL8, cS8, cL13, cS13, cL14, cS14, cL15, cS15, cL16, cS16, cL17, cS17, cL19, cS19, cL20, cS20, cL21, cS21, cL24, cS24, cL25, cS25, cL26, cS26, cL27, cS27, cL28, cS28, cL29, cS29, cL30, cS30, cL31, cS31, bV, bK, bI0, bI1, bI2, bI3, bI4, bI5, bI6, bI7, bI8, bI9, bI10, bR11, bR12, bR13, bP9, bP10, bL1, bS1, bL2, bS2, bL3, bS3, iI_0, iI_1, iI_neg, iL2, iL3, iL4, iL5, iL6, iL7, iL8, iL9, iL10, iL11, iL12, iL13, iL14, iL15, iL16, iL17, iL30, iL31, iL60, iL99, iL100, iL240, iL480, iL1000, iL1920, iL10000, iI_add, iI_sub, iI_mul, iI_div, iI_le, iI_lt, iI_eq, bd_s, k_lsize, k_get hl, k_stepInSection hwt, k_isShared hwt, A.inj, esp, e19, e1, e11o, e12o, e11b, e12b, elv, ecv, u3, iI_b2, Int.natCast_succ]
          rw [if_neg (by omega), if_neg c1, if_neg c2, if_neg c4, if_neg (fun z => z c3)]
      · refine ⟨τ, ⟨hI.1, fun t ht => ?_⟩, fun k => ?_⟩
        · rw [hI.2 t ht, exB_succ, show blk κ b s t n o = false by simp only [blk, decide_eq_false_iff_not]; rintro ⟨q1, q2, q3, q4, -⟩; exact c ⟨q1, q2, q3, q4⟩]
          simp
        · show fb_X4_blockByOthers_29 k (some (A.x + 12)) (some (A.b b)) (iI s) (iI n) (iI (bhd κ)) (iI (o : Int)) (CH h A τ) = _
          unfold fb_X4_blockByOthers_29 f_X4_blockByOthers_142
          simp (maxSteps := 1000000) (disch := omega) only [iL239, cV0, cR0_0, cR0_1, cR0_2, cR0_3, cR0_4, cR0_5, cV1, cR1_1, cR1_2, cR1_3, cR1_4, cR1_5, cR1_6, cR1_7, cI1_0, cI1_8, cP1_8, cI1_9, cP1_9, cV9, cR9_0, cR9_1, cV10, cV11, cV12, cR12_0, cR12_1, cR12_2, cR12_3, cR12_4, cR12_5, cR12_6, cV18, cR18_0, cR18_1, cR18_2, cR18_3, cR18_4, cI18_5, cP18_5, cI18_6, cP18_6, cV22, cR22_0, cR22_1, cI22_2, cP22_2, cI22_3, cP22_3, cI22_4, cP22_4, cV23, cR23_0, cR23_1, cR23_3, cR23_4, cR23_5, cR23_6, cR23_7, cR23_8, cR23_9, cR23_10, cI23_2, cP23_2, cR10_1, cI10_2, cR11_1, cI11_2, cL2, cS2, cL3, cS3, cL4, cS4, cL5, cS5, cL6, cS6, cL7, cS7, cL8, cS8, cL13, cS13, cL14, cS14, cL15, cS15, cL16, cS16, cL17, cS17, cL19, cS19, cL20, cS20, cL21, cS21, cL24, cS24, cL25, cS25, cL26, cS26, cL27, cS27, cL28, cS28, cL29, cS29, cL30, cS30, cL31, cS31, bV, bK, bI0, bI1, bI2, bI3, bI4, bI5, bI6, bI7, bI8, bI9, bI10, bR11, bR12, bR13, bP9, bP10, bL1, bS1, bL2, bS2, bL3, bS3, iI_0, iI_1, iI_neg, iL2, iL3, iL4, iL5, iL6, iL7, iL8, iL9, iL10, iL11, iL12, iL13, iL14, iL15, iL16, iL17, iL30, iL31, iL60, iL99, iL100, iL240, iL480, iL1000, iL1920, iL10000, iI_add, iI_sub, iI_mul, iI_div, iI_le, iI_lt, iI_eq, bd_s, k_lsize, k_get hl, k_stepInSection hwt, k_isShared hwt, A.inj, esp, e19, e1, e11o, e12o, e11b, e12b, iI_b2, Int.natCast_succ]
          rw [if_neg (by omega)]
          by_cases c1 : o = b
          · rw [if_pos c1]
          · rw [if_neg c1]
            by_cases c2 : κ 19 o = 0
            · rw [if_pos c2]
            · rw [if_neg c2]
              by_cases c4 : legO κ o s = -1
              · rw [if_pos c4]
              · rw [if_neg c4, if_pos]
                intro c3
                exact c ⟨c1, c2, c3, c4⟩)
    (fun τ k hI => by
      show fb_X4_blockByOthers_29 k (some (A.x + 12)) (some (A.b b)) (iI s) (iI n) (iI (bhd κ)) (iI (A.n : Int)) (CH h A τ) = _
      unfold fb_X4_blockByOthers_29
      simp (disch := omega) only [iL239, cV0, cR0_0, cR0_1, cR0_2, cR0_3, cR0_4, cR0_5, cV1, cR1_1, cR1_2, cR1_3, cR1_4, cR1_5, cR1_6, cR1_7, cI1_0, cI1_8, cP1_8, cI1_9, cP1_9, cV9, cR9_0, cR9_1, cV10, cV11, cV12, cR12_0, cR12_1, cR12_2, cR12_3, cR12_4, cR12_5, cR12_6, cV18, cR18_0, cR18_1, cR18_2, cR18_3, cR18_4, cI18_5, cP18_5, cI18_6, cP18_6, cV22, cR22_0, cR22_1, cI22_2, cP22_2, cI22_3, cP22_3, cI22_4, cP22_4, cV23, cR23_0, cR23_1, cR23_3, cR23_4, cR23_5, cR23_6, cR23_7, cR23_8, cR23_9, cR23_10, cI23_2, cP23_2, cR10_1, cI10_2, cR11_1, cI11_2, cL2, cS2, cL3, cS3, cL4, cS4, cL5, cS5, cL6, cS6, cL7, cS7, cL8, cS8, cL13, cS13, cL14, cS14, cL15, cS15, cL16, cS16, cL17, cS17, cL19, cS19, cL20, cS20, cL21, cS21, cL24, cS24, cL25, cS25, cL26, cS26, cL27, cS27, cL28, cS28, cL29, cS29, cL30, cS30, cL31, cS31, bV, bK, bI0, bI1, bI2, bI3, bI4, bI5, bI6, bI7, bI8, bI9, bI10, bR11, bR12, bR13, bP9, bP10, bL1, bS1, bL2, bS2, bL3, bS3, iI_0, iI_1, iI_neg, iL2, iL3, iL4, iL5, iL6, iL7, iL8, iL9, iL10, iL11, iL12, iL13, iL14, iL15, iL16, iL17, iL30, iL31, iL60, iL99, iL100, iL240, iL480, iL1000, iL1920, iL10000, iI_add, iI_sub, iI_mul, iI_div, iI_le, iI_lt, iI_eq, bd_s, k_lsize]
      rw [if_pos (by omega)]
      rfl) A.n 0 FU κ (by omega) (by rw [FU_eq]; omega) ⟨Ex.refl _ _, fun t _ => rfl⟩
  exact ⟨τ, t1.1, t1.2, t2⟩
end
