/-! the class tries the orders -/
abbrev LD : List Nat := [19, 20, 41, 42, 43, 44, 45, 46, 47, 48, 49, 50, 51]
theorem lostS_eq {σ τ : Sg} (h : EQ σ τ) (hw : WF σ) (hv : WF τ) (b : Nat) (hb : b < 16) : lostS σ b = lostS τ b := by
  unfold lostS
  have e16 : ∀ i, σ 16 i = τ 16 i := fun i => h.1 16 i (by omega) (by omega)
  rw [h.fnd, h.1 18 b (by omega) (by omega), e16, e16]
  cases fnd τ b with
  | none => rfl
  | some e =>
    simp only
    rw [(h.giv hw hv b e hb).fnd]
theorem goL_app (lk : Nat → Nat) (κ : Sg) (pre s : List Nat) : goL lk κ (pre ++ s) = s.foldl (gs lk) (goL lk κ pre) := List.foldl_append
def AB (n : Nat) (a : Int × List Nat) : Prop := (-1 ≤ a.1 ∧ a.1 ≤ 16000) ∧ a.2.length ≤ 5 ∧ ∀ b, b ∈ a.2 → b < n
def DI (h : Hp) (A : CA) (κ : Sg) (ρ : Nat → Nat) (lk : Nat → Nat) (pre : List Nat) (τ : Sg) (a : Int × List Nat) : Prop := KI h A τ ρ ∧ EQ τ (goL lk κ pre).1 ∧ Ex LD κ τ ∧ (∀ i, i < A.n → τ 47 i = b2 ((goL lk κ pre).2 i = true)) ∧ (∀ j, j < pre.length → τ 48 j = (pre.getD j 0 : Int)) ∧ (τ 51 0 = a.1 ∧ τ 50 0 = a.2.length ∧ ∀ j, j < a.2.length → τ 49 j = (a.2.getD j 0 : Int)) ∧ AB A.n a
section
variable {h : Hp} {A : CA} {κ : Sg} {ρ : Nat → Nat} {lk : Nat → Nat}
theorem k_takeBack {τ : Sg} (hk : KI h A τ ρ) {b : Nat} (hb : b < A.n) : f_X5_takeBack (A.x + 18) (some (A.b b)) (CH h A τ) = some ((), CH h A (sg (sg τ 19 b 0) 47 b 0)) ∧ KI h A (sg (sg τ 19 b 0) 47 b 0) ρ := by
  have h16 := hk.1.n16
  refine ⟨?_, (hk.drop b).ex (l := [47]) ((Ex.refl _ _).sg (by decide) _ _) (by decide)⟩
  unfold f_X5_takeBack
  rw [iI_0, bP10 hb _ _ (by omega)]
  simp (disch := omega) only [iL239, cV0, cR0_0, cR0_1, cR0_2, cR0_3, cR0_4, cR0_5, cV1, cR1_1, cR1_2, cR1_3, cR1_4, cR1_5, cR1_6, cR1_7, cI1_0, cI1_8, cP1_8, cI1_9, cP1_9, cV9, cR9_0, cR9_1, cV10, cV11, cV12, cR12_0, cR12_1, cR12_2, cR12_3, cR12_4, cR12_5, cR12_6, cV18, cR18_0, cR18_1, cR18_2, cR18_3, cR18_4, cI18_5, cP18_5, cI18_6, cP18_6, cV22, cR22_0, cR22_1, cI22_2, cP22_2, cI22_3, cP22_3, cI22_4, cP22_4, cV23, cR23_0, cR23_1, cR23_3, cR23_4, cR23_5, cR23_6, cR23_7, cR23_8, cR23_9, cR23_10, cI23_2, cP23_2, cR10_1, cI10_2, cR11_1, cI11_2, cL2, cS2, cL3, cS3, cL4, cS4, cL5, cS5, cL6, cS6, cL7, cS7, cL8, cS8, cL13, cS13, cL14, cS14, cL15, cS15, cL16, cS16, cL17, cS17, cL19, cS19, cL20, cS20, cL21, cS21, cL24, cS24, cL25, cS25, cL26, cS26, cL27, cS27, cL28, cS28, cL29, cS29, cL30, cS30, cL31, cS31, bV, bK, bI0, bI1, bI2, bI3, bI4, bI5, bI6, bI7, bI8, bI9, bI10, bR11, bR12, bR13, bP9, bP10, bL1, bS1, bL2, bS2, bL3, bS3, Int.toNat_natCast]
  rfl
theorem k_takeBackP {τ : Sg} (hk : KI h A τ ρ) (hl : LSy τ) {b : Nat} (hb : b < A.n) : ∃ υ, KI h A υ ρ ∧ Ex [19, 47] τ υ ∧ (∀ j : Nat, υ 19 j = if j = b ∨ (j : Int) = τ 18 b then 0 else τ 19 j) ∧ (∀ j : Nat, υ 47 j = if j = b ∨ (j : Int) = τ 18 b then 0 else τ 47 j) ∧ f_X5_takeBackWithPartner (A.x + 18) (some (A.b b)) (CH h A τ) = some ((), CH h A υ) := by
  have h16 := hk.1.n16
  have hn := hk.1.2.2
  obtain ⟨a1, a2⟩ := k_takeBack hk hb
  have h18 := (hk.1.1.1.bid (b := b) (by omega)).2.2.2.2.2.2.2.2.1
  have e18 : sg (sg τ 19 b 0) 47 b 0 18 b = τ 18 b := rfl
  have hlb := hl b (by omega)
  unfold f_X5_takeBackWithPartner f_X5_takeBackWithPartner_26
  simp (disch := omega) only [iL239, cV0, cR0_0, cR0_1, cR0_2, cR0_3, cR0_4, cR0_5, cV1, cR1_1, cR1_2, cR1_3, cR1_4, cR1_5, cR1_6, cR1_7, cI1_0, cI1_8, cP1_8, cI1_9, cP1_9, cV9, cR9_0, cR9_1, cV10, cV11, cV12, cR12_0, cR12_1, cR12_2, cR12_3, cR12_4, cR12_5, cR12_6, cV18, cR18_0, cR18_1, cR18_2, cR18_3, cR18_4, cI18_5, cP18_5, cI18_6, cP18_6, cV22, cR22_0, cR22_1, cI22_2, cP22_2, cI22_3, cP22_3, cI22_4, cP22_4, cV23, cR23_0, cR23_1, cR23_3, cR23_4, cR23_5, cR23_6, cR23_7, cR23_8, cR23_9, cR23_10, cI23_2, cP23_2, cR10_1, cI10_2, cR11_1, cI11_2, cL2, cS2, cL3, cS3, cL4, cS4, cL5, cS5, cL6, cS6, cL7, cS7, cL8, cS8, cL13, cS13, cL14, cS14, cL15, cS15, cL16, cS16, cL17, cS17, cL19, cS19, cL20, cS20, cL21, cS21, cL24, cS24, cL25, cS25, cL26, cS26, cL27, cS27, cL28, cS28, cL29, cS29, cL30, cS30, cL31, cS31, bV, bK, bI0, bI1, bI2, bI3, bI4, bI5, bI6, bI7, bI8, bI9, bI10, bR11, bR12, bR13, bP9, bP10, bL1, bS1, bL2, bS2, bL3, bS3, a1, bd_s, e18]
  rw [k_at a2.1.2.1 _ (by omega), bd_s]
  by_cases c : τ 18 b = -1
  · have eat : atR A (τ 18 b) = none := by unfold atR; rw [if_neg (by omega)]
    rw [eat, if_pos rfl]
    refine ⟨_, a2, ((Ex.refl _ _).sg (by decide) _ _).sg (by decide) _ _, fun j => ?_, fun j => ?_, rfl⟩
    · rw [sg_f _ _ _ _ (by decide)]
      by_cases e : j = b
      · subst e; rw [sg_eq, if_pos (Or.inl rfl)]
      · rw [sg_i _ _ _ e, if_neg (by omega)]
    · by_cases e : j = b
      · subst e; rw [sg_eq, if_pos (Or.inl rfl)]
      · rw [sg_i _ _ _ e, if_neg (by omega)]; rfl
  · have eat : atR A (τ 18 b) = some (A.b (τ 18 b).toNat) := by unfold atR; rw [if_pos (by omega)]
    obtain ⟨b1, b2'⟩ := k_takeBack a2 (b := (τ 18 b).toNat) (by omega)
    rw [eat, if_neg (by simp)]
    simp (disch := omega) only [iL239, cV0, cR0_0, cR0_1, cR0_2, cR0_3, cR0_4, cR0_5, cV1, cR1_1, cR1_2, cR1_3, cR1_4, cR1_5, cR1_6, cR1_7, cI1_0, cI1_8, cP1_8, cI1_9, cP1_9, cV9, cR9_0, cR9_1, cV10, cV11, cV12, cR12_0, cR12_1, cR12_2, cR12_3, cR12_4, cR12_5, cR12_6, cV18, cR18_0, cR18_1, cR18_2, cR18_3, cR18_4, cI18_5, cP18_5, cI18_6, cP18_6, cV22, cR22_0, cR22_1, cI22_2, cP22_2, cI22_3, cP22_3, cI22_4, cP22_4, cV23, cR23_0, cR23_1, cR23_3, cR23_4, cR23_5, cR23_6, cR23_7, cR23_8, cR23_9, cR23_10, cI23_2, cP23_2, cR10_1, cI10_2, cR11_1, cI11_2, cL2, cS2, cL3, cS3, cL4, cS4, cL5, cS5, cL6, cS6, cL7, cS7, cL8, cS8, cL13, cS13, cL14, cS14, cL15, cS15, cL16, cS16, cL17, cS17, cL19, cS19, cL20, cS20, cL21, cS21, cL24, cS24, cL25, cS25, cL26, cS26, cL27, cS27, cL28, cS28, cL29, cS29, cL30, cS30, cL31, cS31, bV, bK, bI0, bI1, bI2, bI3, bI4, bI5, bI6, bI7, bI8, bI9, bI10, bR11, bR12, bR13, bP9, bP10, bL1, bS1, bL2, bS2, bL3, bS3, b1, bd_s]
    refine ⟨_, b2', ((((Ex.refl _ _).sg (by decide) _ _).sg (by decide) _ _).sg (by decide) _ _).sg (by decide) _ _, fun j => ?_, fun j => ?_, rfl⟩
    · rw [sg_f _ _ _ _ (by decide)]
      by_cases e : j = (τ 18 b).toNat
      · subst e; rw [sg_eq, if_pos (by omega)]
      · rw [sg_i _ _ _ e, sg_f _ _ _ _ (by decide)]
        by_cases e2 : j = b
        · subst e2; rw [sg_eq, if_pos (Or.inl rfl)]
        · rw [sg_i _ _ _ e2, if_neg (by omega)]
    · by_cases e : j = (τ 18 b).toNat
      · subst e; rw [sg_eq, if_pos (by omega)]
      · rw [sg_i _ _ _ e, sg_f _ _ _ _ (by decide)]
        by_cases e2 : j = b
        · subst e2; rw [sg_eq, if_pos (Or.inl rfl)]
        · rw [sg_i _ _ _ e2, if_neg (by omega)]; rfl
theorem k_keep {τ : Sg} {d : Nat} (hd : d ≤ 5) (w : Int) : ∃ υ, Ex [49, 50, 51] τ υ ∧ υ 51 0 = w ∧ υ 50 0 = d ∧ (∀ j, j < d → υ 49 j = τ 48 j) ∧ f_X5_keepOrder (A.x + 18) (iI (d : Int)) (iI w) (CH h A τ) = some ((), CH h A υ) := by
  unfold f_X5_keepOrder f_X5_keepOrder_12
  simp (disch := omega) only [iL239, cV0, cR0_0, cR0_1, cR0_2, cR0_3, cR0_4, cR0_5, cV1, cR1_1, cR1_2, cR1_3, cR1_4, cR1_5, cR1_6, cR1_7, cI1_0, cI1_8, cP1_8, cI1_9, cP1_9, cV9, cR9_0, cR9_1, cV10, cV11, cV12, cR12_0, cR12_1, cR12_2, cR12_3, cR12_4, cR12_5, cR12_6, cV18, cR18_0, cR18_1, cR18_2, cR18_3, cR18_4, cI18_5, cP18_5, cI18_6, cP18_6, cV22, cR22_0, cR22_1, cI22_2, cP22_2, cI22_3, cP22_3, cI22_4, cP22_4, cV23, cR23_0, cR23_1, cR23_3, cR23_4, cR23_5, cR23_6, cR23_7, cR23_8, cR23_9, cR23_10, cI23_2, cP23_2, cR10_1, cI10_2, cR11_1, cI11_2, cL2, cS2, cL3, cS3, cL4, cS4, cL5, cS5, cL6, cS6, cL7, cS7, cL8, cS8, cL13, cS13, cL14, cS14, cL15, cS15, cL16, cS16, cL17, cS17, cL19, cS19, cL20, cS20, cL21, cS21, cL24, cS24, cL25, cS25, cL26, cS26, cL27, cS27, cL28, cS28, cL29, cS29, cL30, cS30, cL31, cS31, bV, bK, bI0, bI1, bI2, bI3, bI4, bI5, bI6, bI7, bI8, bI9, bI10, bR11, bR12, bR13, bP9, bP10, bL1, bS1, bL2, bS2, bL3, bS3]
  rw [iI_0]
  obtain ⟨υ, u1, u2⟩ := lp_rel (B := fun k12 w => fb_X5_keepOrder_12 k12 w.1 w.2.1 w.2.2.1 w.2.2.2) (fun j (υ : Sg) => (some (A.x + 18), iI (d : Int), iI (j : Int), CH h A υ)) (fun j υ => Ex [49] (sg (sg τ 51 0 w) 50 0 d) υ ∧ ∀ i, i < j → υ 49 i = τ 48 i) d (fun υ => some ((), CH h A υ))
    (fun j υ hj hI => by
      have e48 : υ 48 j = τ 48 j := by rw [hI.1 48 _ (by decide)]; rfl
      refine ⟨sg υ 49 j (τ 48 j), ⟨hI.1.sg (by decide) _ _, fun i hi => ?_⟩, fun k => ?_⟩
      · by_cases e : i = j
        · subst e; rw [sg_eq]
        · rw [sg_i _ _ _ e]; exact hI.2 i (by omega)
      · show fb_X5_keepOrder_12 k (some (A.x + 18)) (iI (d : Int)) (iI (j : Int)) (CH h A υ) = _
        unfold fb_X5_keepOrder_12
        simp (disch := omega) only [iL239, cV0, cR0_0, cR0_1, cR0_2, cR0_3, cR0_4, cR0_5, cV1, cR1_1, cR1_2, cR1_3, cR1_4, cR1_5, cR1_6, cR1_7, cI1_0, cI1_8, cP1_8, cI1_9, cP1_9, cV9, cR9_0, cR9_1, cV10, cV11, cV12, cR12_0, cR12_1, cR12_2, cR12_3, cR12_4, cR12_5, cR12_6, cV18, cR18_0, cR18_1, cR18_2, cR18_3, cR18_4, cI18_5, cP18_5, cI18_6, cP18_6, cV22, cR22_0, cR22_1, cI22_2, cP22_2, cI22_3, cP22_3, cI22_4, cP22_4, cV23, cR23_0, cR23_1, cR23_3, cR23_4, cR23_5, cR23_6, cR23_7, cR23_8, cR23_9, cR23_10, cI23_2, cP23_2, cR10_1, cI10_2, cR11_1, cI11_2, cL2, cS2, cL3, cS3, cL4, cS4, cL5, cS5, cL6, cS6, cL7, cS7, cL8, cS8, cL13, cS13, cL14, cS14, cL15, cS15, cL16, cS16, cL17, cS17, cL19, cS19, cL20, cS20, cL21, cS21, cL24, cS24, cL25, cS25, cL26, cS26, cL27, cS27, cL28, cS28, cL29, cS29, cL30, cS30, cL31, cS31, bV, bK, bI0, bI1, bI2, bI3, bI4, bI5, bI6, bI7, bI8, bI9, bI10, bR11, bR12, bR13, bP9, bP10, bL1, bS1, bL2, bS2, bL3, bS3, iI_0, iI_1, iI_neg, iL2, iL3, iL4, iL5, iL6, iL7, iL8, iL9, iL10, iL11, iL12, iL13, iL14, iL15, iL16, iL17, iL30, iL31, iL60, iL99, iL100, iL240, iL480, iL1000, iL1920, iL10000, iI_add, iI_sub, iI_mul, iI_div, iI_le, iI_lt, iI_eq, bd_s, Int.toNat_natCast, e48, Int.natCast_succ]
        rw [if_neg (by omega)])
    (fun υ k hI => by
      show fb_X5_keepOrder_12 k (some (A.x + 18)) (iI (d : Int)) (iI (d : Int)) (CH h A υ) = _
      unfold fb_X5_keepOrder_12
      simp (disch := omega) only [iL239, cV0, cR0_0, cR0_1, cR0_2, cR0_3, cR0_4, cR0_5, cV1, cR1_1, cR1_2, cR1_3, cR1_4, cR1_5, cR1_6, cR1_7, cI1_0, cI1_8, cP1_8, cI1_9, cP1_9, cV9, cR9_0, cR9_1, cV10, cV11, cV12, cR12_0, cR12_1, cR12_2, cR12_3, cR12_4, cR12_5, cR12_6, cV18, cR18_0, cR18_1, cR18_2, cR18_3, cR18_4, cI18_5, cP18_5, cI18_6, cP18_6, cV22, cR22_0, cR22_1, cI22_2, cP22_2, cI22_3, cP22_3, cI22_4, cP22_4, cV23, cR23_0, cR23_1, cR23_3, cR23_4, cR23_5, cR23_6, cR23_7, cR23_8, cR23_9, cR23_10, cI23_2, cP23_2, cR10_1, cI10_2, cR11_1, cI11_2, cL2, cS2, cL3, cS3, cL4, cS4, cL5, cS5, cL6, cS6, cL7, cS7, cL8, cS8, cL13, cS13, cL14, cS14, cL15, cS15, cL16, cS16, cL17, cS17, cL19, cS19, cL20, cS20, cL21, cS21, cL24, cS24, cL25, cS25, cL26, cS26, cL27, cS27, cL28, cS28, cL29, cS29, cL30, cS30, cL31, cS31, bV, bK, bI0, bI1, bI2, bI3, bI4, bI5, bI6, bI7, bI8, bI9, bI10, bR11, bR12, bR13, bP9, bP10, bL1, bS1, bL2, bS2, bL3, bS3, iI_0, iI_1, iI_neg, iL2, iL3, iL4, iL5, iL6, iL7, iL8, iL9, iL10, iL11, iL12, iL13, iL14, iL15, iL16, iL17, iL30, iL31, iL60, iL99, iL100, iL240, iL480, iL1000, iL1920, iL10000, iI_add, iI_sub, iI_mul, iI_div, iI_le, iI_lt, iI_eq, bd_s]
      rw [if_pos (by omega)]
      rfl) d 0 FU (sg (sg τ 51 0 w) 50 0 d) (by omega) (by rw [FU_eq]; omega) ⟨Ex.refl _ _, fun i hi => by omega⟩
  refine ⟨υ, ?_, ?_, ?_, u1.2, u2⟩
  · exact Ex.trans (((Ex.refl _ τ).sg (by decide) 0 w).sg (by decide) 0 d) (u1.1.mono (by decide))
  · rw [u1.1 51 _ (by decide), sg_f _ _ _ _ (by decide), sg_eq]
  · rw [u1.1 50 _ (by decide), sg_eq]
/-- the order that stands is kept -/
theorem DI.keep {pre : List Nat} {τ : Sg} {a : Int × List Nat} (hd : DI h A κ ρ lk pre τ a) (h5 : pre.length ≤ 5) (hp : ∀ b, b ∈ pre → b < A.n) {w : Int} (hw : -1 ≤ w ∧ w ≤ 16000) : ∃ υ, DI h A κ ρ lk pre υ (w, pre) ∧ f_X5_keepOrder (A.x + 18) (iI (pre.length : Int)) (iI w) (CH h A τ) = some ((), CH h A υ) := by
  obtain ⟨d1, d2, d3, d4, d5, d6, d7⟩ := hd
  obtain ⟨υ, u1, u2, u3, u4, u5⟩ := k_keep (h := h) (A := A) (τ := τ) h5 w
  refine ⟨υ, ⟨d1.ex u1 (by decide), (EQ.ex u1 (by decide)).trans d2, d3.trans (u1.mono (by decide)), fun i hi => by rw [u1 47 _ (by decide)]; exact d4 i hi, fun j hj => by rw [u1 48 _ (by decide)]; exact d5 j hj, ⟨u2, u3, fun j hj => by rw [u4 j hj]; exact d5 j hj⟩, hw, h5, hp⟩, u5⟩
set_option maxHeartbeats 4000000 in
theorem k_try (hw : WB κ) (hl : LSy κ) (hn : κ 9 0 = A.n) (hn5 : A.n ≤ 5) (hlk : ∀ b, b < A.n → lk b = lkN κ b) : ∀ (f : Nat) (pre : List Nat) (τ : Sg) (a : Int × List Nat), DI h A κ ρ lk pre τ a → GX κ A.n lk (goL lk κ pre) → (∀ b, b ∈ pre → b < A.n) → (pre.length : Int) + unc A.n (goL lk κ pre).2 ≤ A.n → unc A.n (goL lk κ pre).2 < f → rch κ A.n (goL lk κ pre) ≤ 16000 →
    ∃ υ, DI h A κ ρ lk pre υ (fm (fun l => sumW (goL lk κ l).1) a ((dfL lk A.n f (goL lk κ pre).2).map (fun s => pre ++ s))) ∧ f_X5_tryOrders f (some (A.x + 18)) (iI (pre.length : Int)) (iI (rch κ A.n (goL lk κ pre))) (CH h A τ) = some ((), CH h A υ) := by
  intro f
  induction f with
  | zero =>
    intro pre τ a hd hx hp hlen hu hr
    have := (cntI_rng (fun i => !(goL lk κ pre).2 i) A.n).1
    unfold unc at hu
    omega
  | succ f ih =>
    intro pre τ a hd hx hp hlen hu hr
    obtain ⟨x, ex⟩ : ∃ x, goL lk κ pre = x := ⟨_, rfl⟩
    rw [ex] at hx hlen hu hr ⊢
    have hd0 := hd
    obtain ⟨d1, d2, d3, d4, d5, ⟨d6, d7, d8⟩, d9⟩ := hd
    rw [ex] at d2 d4
    have hnn : (A.n : Int) = κ 9 0 := hn.symm
    have hl0 := d1.1.2.1
    have hu0 : 0 ≤ unc A.n x.2 := (cntI_rng (fun i => !x.2 i) A.n).1
    have hr0 : 0 ≤ rch κ A.n x := by
      have h1 := rch_ge (n := A.n) (x := x) hw.1 (by omega)
      have h2 := (sumW_rng hx.1.1 (n := (x.1 9 0).toNat) (by rw [hx.2.1 9 0 (by omega)]; omega)).1
      have h3 : sumW x.1 = sumI (wrt x.1) (x.1 9 0).toNat := rfl
      omega
    have hW : ∀ s, (fun l => sumW (goL lk κ l).1) (pre ++ s) = sumW (s.foldl (gs lk) x).1 := fun s => by
      show sumW (goL lk κ (pre ++ s)).1 = _
      rw [goL_app, ex]
    have hlow : ∀ (f : Nat) (y : List Nat), y ∈ (dfL lk A.n f x.2).map (fun s => pre ++ s) → (fun l => sumW (goL lk κ l).1) y ≤ rch κ A.n x := fun f y hy => by
      rw [List.mem_map] at hy
      obtain ⟨s, s1, s2⟩ := hy
      rw [← s2, hW s]
      exact leaf_le hw.1 hl hnn (by omega) hlk f x s hx s1
    show ∃ υ, _ ∧ g_X5_tryOrders (f_X5_tryOrders f) (some (A.x + 18)) (iI (pre.length : Int)) (iI (rch κ A.n x)) (CH h A τ) = _
    unfold g_X5_tryOrders
    have ha := d9.1
    simp (disch := omega) only [iL239, cV0, cR0_0, cR0_1, cR0_2, cR0_3, cR0_4, cR0_5, cV1, cR1_1, cR1_2, cR1_3, cR1_4, cR1_5, cR1_6, cR1_7, cI1_0, cI1_8, cP1_8, cI1_9, cP1_9, cV9, cR9_0, cR9_1, cV10, cV11, cV12, cR12_0, cR12_1, cR12_2, cR12_3, cR12_4, cR12_5, cR12_6, cV18, cR18_0, cR18_1, cR18_2, cR18_3, cR18_4, cI18_5, cP18_5, cI18_6, cP18_6, cV22, cR22_0, cR22_1, cI22_2, cP22_2, cI22_3, cP22_3, cI22_4, cP22_4, cV23, cR23_0, cR23_1, cR23_3, cR23_4, cR23_5, cR23_6, cR23_7, cR23_8, cR23_9, cR23_10, cI23_2, cP23_2, cR10_1, cI10_2, cR11_1, cI11_2, cL2, cS2, cL3, cS3, cL4, cS4, cL5, cS5, cL6, cS6, cL7, cS7, cL8, cS8, cL13, cS13, cL14, cS14, cL15, cS15, cL16, cS16, cL17, cS17, cL19, cS19, cL20, cS20, cL21, cS21, cL24, cS24, cL25, cS25, cL26, cS26, cL27, cS27, cL28, cS28, cL29, cS29, cL30, cS30, cL31, cS31, bV, bK, bI0, bI1, bI2, bI3, bI4, bI5, bI6, bI7, bI8, bI9, bI10, bR11, bR12, bR13, bP9, bP10, bL1, bS1, bL2, bS2, bL3, bS3, iI_0, iI_1, iI_neg, iL2, iL3, iL4, iL5, iL6, iL7, iL8, iL9, iL10, iL11, iL12, iL13, iL14, iL15, iL16, iL17, iL30, iL31, iL60, iL99, iL100, iL240, iL480, iL1000, iL1920, iL10000, iI_add, iI_sub, iI_mul, iI_div, iI_le, iI_lt, iI_eq, bd_s, d6]
    by_cases cR : a.1 < rch κ A.n x
    · rw [if_pos cR]
      unfold f_X5_tryOrders_14
      by_cases cA : ∀ i, i < A.n → x.2 i = true
      · -- all have come
        have hfil : (List.range A.n).filter (fun i => !x.2 i) = [] := by
          rw [List.filter_eq_nil_iff]
          intro i hi
          rw [List.mem_range] at hi
          simp [cA i hi]
        have hdf : dfL lk A.n (f + 1) x.2 = [[]] := by unfold dfL; rw [hfil]
        have hWx : (fun l => sumW (goL lk κ l).1) (pre ++ []) = rch κ A.n x := by rw [hW [], rch_all cA]; rfl
        have hfm : fm (fun l => sumW (goL lk κ l).1) a ((dfL lk A.n (f + 1) x.2).map (fun s => pre ++ s)) = (rch κ A.n x, pre) := by
          rw [hdf]
          show (if a.1 < (fun l => sumW (goL lk κ l).1) (pre ++ []) then ((fun l => sumW (goL lk κ l).1) (pre ++ []), pre ++ []) else a) = _
          rw [hWx, if_pos cR, List.append_nil]
        obtain ⟨υ, k1, k2⟩ := hd0.keep (by omega) hp (w := rch κ A.n x) (by omega)
        refine ⟨υ, by rw [hfm]; exact k1, ?_⟩
        have h107 : f_X5_tryOrders_107 (f_X5_tryOrders f) (some (A.x + 18)) (iI (pre.length : Int)) (iI (rch κ A.n x)) (iI 1) (CH h A τ) = some ((), CH h A υ) := by
          unfold f_X5_tryOrders_107 f_X5_tryOrders_117
          rw [if_neg (by decide), cV18, k2]
          rfl
        by_cases c5 : pre.length = 5
        · rw [FU_eq, show (5000 : Nat) = 4999 + 1 from rfl, lp_succ]
          generalize lp _ 4999 = kk
          show fb_X5_tryOrders_14 (f_X5_tryOrders f) kk (some (A.x + 18)) (iI (pre.length : Int)) (iI (rch κ A.n x)) (iI 1) (iI 0) (CH h A τ) = _
          unfold fb_X5_tryOrders_14
          simp (disch := omega) only [iL239, cV0, cR0_0, cR0_1, cR0_2, cR0_3, cR0_4, cR0_5, cV1, cR1_1, cR1_2, cR1_3, cR1_4, cR1_5, cR1_6, cR1_7, cI1_0, cI1_8, cP1_8, cI1_9, cP1_9, cV9, cR9_0, cR9_1, cV10, cV11, cV12, cR12_0, cR12_1, cR12_2, cR12_3, cR12_4, cR12_5, cR12_6, cV18, cR18_0, cR18_1, cR18_2, cR18_3, cR18_4, cI18_5, cP18_5, cI18_6, cP18_6, cV22, cR22_0, cR22_1, cI22_2, cP22_2, cI22_3, cP22_3, cI22_4, cP22_4, cV23, cR23_0, cR23_1, cR23_3, cR23_4, cR23_5, cR23_6, cR23_7, cR23_8, cR23_9, cR23_10, cI23_2, cP23_2, cR10_1, cI10_2, cR11_1, cI11_2, cL2, cS2, cL3, cS3, cL4, cS4, cL5, cS5, cL6, cS6, cL7, cS7, cL8, cS8, cL13, cS13, cL14, cS14, cL15, cS15, cL16, cS16, cL17, cS17, cL19, cS19, cL20, cS20, cL21, cS21, cL24, cS24, cL25, cS25, cL26, cS26, cL27, cS27, cL28, cS28, cL29, cS29, cL30, cS30, cL31, cS31, bV, bK, bI0, bI1, bI2, bI3, bI4, bI5, bI6, bI7, bI8, bI9, bI10, bR11, bR12, bR13, bP9, bP10, bL1, bS1, bL2, bS2, bL3, bS3, iI_0, iI_1, iI_neg, iL2, iL3, iL4, iL5, iL6, iL7, iL8, iL9, iL10, iL11, iL12, iL13, iL14, iL15, iL16, iL17, iL30, iL31, iL60, iL99, iL100, iL240, iL480, iL1000, iL1920, iL10000, iI_add, iI_sub, iI_mul, iI_div, iI_le, iI_lt, iI_eq, bd_s, k_size]
          rw [if_neg (by omega), if_pos (by omega)]
          exact h107
        · have := lp_count (B := fun k14 w => fb_X5_tryOrders_14 (f_X5_tryOrders f) k14 w.1 w.2.1 w.2.2.1 w.2.2.2.1 w.2.2.2.2.1 w.2.2.2.2.2) (fun i => (some (A.x + 18), iI (pre.length : Int), iI (rch κ A.n x), iI 1, iI (i : Int), CH h A τ)) A.n (some ((), CH h A υ))
            (fun i hi k => by
              have e47 := d4 i hi
              rw [cA i hi, b2_t rfl] at e47
              show fb_X5_tryOrders_14 (f_X5_tryOrders f) k (some (A.x + 18)) (iI (pre.length : Int)) (iI (rch κ A.n x)) (iI 1) (iI (i : Int)) (CH h A τ) = _
              unfold fb_X5_tryOrders_14 f_X5_tryOrders_101
              simp (maxSteps := 1000000) (disch := omega) only [iL239, cV0, cR0_0, cR0_1, cR0_2, cR0_3, cR0_4, cR0_5, cV1, cR1_1, cR1_2, cR1_3, cR1_4, cR1_5, cR1_6, cR1_7, cI1_0, cI1_8, cP1_8, cI1_9, cP1_9, cV9, cR9_0, cR9_1, cV10, cV11, cV12, cR12_0, cR12_1, cR12_2, cR12_3, cR12_4, cR12_5, cR12_6, cV18, cR18_0, cR18_1, cR18_2, cR18_3, cR18_4, cI18_5, cP18_5, cI18_6, cP18_6, cV22, cR22_0, cR22_1, cI22_2, cP22_2, cI22_3, cP22_3, cI22_4, cP22_4, cV23, cR23_0, cR23_1, cR23_3, cR23_4, cR23_5, cR23_6, cR23_7, cR23_8, cR23_9, cR23_10, cI23_2, cP23_2, cR10_1, cI10_2, cR11_1, cI11_2, cL2, cS2, cL3, cS3, cL4, cS4, cL5, cS5, cL6, cS6, cL7, cS7, cL8, cS8, cL13, cS13, cL14, cS14, cL15, cS15, cL16, cS16, cL17, cS17, cL19, cS19, cL20, cS20, cL21, cS21, cL24, cS24, cL25, cS25, cL26, cS26, cL27, cS27, cL28, cS28, cL29, cS29, cL30, cS30, cL31, cS31, bV, bK, bI0, bI1, bI2, bI3, bI4, bI5, bI6, bI7, bI8, bI9, bI10, bR11, bR12, bR13, bP9, bP10, bL1, bS1, bL2, bS2, bL3, bS3, iI_0, iI_1, iI_neg, iL2, iL3, iL4, iL5, iL6, iL7, iL8, iL9, iL10, iL11, iL12, iL13, iL14, iL15, iL16, iL17, iL30, iL31, iL60, iL99, iL100, iL240, iL480, iL1000, iL1920, iL10000, iI_add, iI_sub, iI_mul, iI_div, iI_le, iI_lt, iI_eq, bd_s, k_size, k_get hl0, Int.toNat_natCast, e47, Int.natCast_succ]
              rw [if_neg (by omega), if_neg (by omega), if_neg (by omega)])
            (fun k => by
              show fb_X5_tryOrders_14 (f_X5_tryOrders f) k (some (A.x + 18)) (iI (pre.length : Int)) (iI (rch κ A.n x)) (iI 1) (iI (A.n : Int)) (CH h A τ) = _
              unfold fb_X5_tryOrders_14
              simp (maxSteps := 1000000) (disch := omega) only [iL239, cV0, cR0_0, cR0_1, cR0_2, cR0_3, cR0_4, cR0_5, cV1, cR1_1, cR1_2, cR1_3, cR1_4, cR1_5, cR1_6, cR1_7, cI1_0, cI1_8, cP1_8, cI1_9, cP1_9, cV9, cR9_0, cR9_1, cV10, cV11, cV12, cR12_0, cR12_1, cR12_2, cR12_3, cR12_4, cR12_5, cR12_6, cV18, cR18_0, cR18_1, cR18_2, cR18_3, cR18_4, cI18_5, cP18_5, cI18_6, cP18_6, cV22, cR22_0, cR22_1, cI22_2, cP22_2, cI22_3, cP22_3, cI22_4, cP22_4, cV23, cR23_0, cR23_1, cR23_3, cR23_4, cR23_5, cR23_6, cR23_7, cR23_8, cR23_9, cR23_10, cI23_2, cP23_2, cR10_1, cI10_2, cR11_1, cI11_2, cL2, cS2, cL3, cS3, cL4, cS4, cL5, cS5, cL6, cS6, cL7, cS7, cL8, cS8, cL13, cS13, cL14, cS14, cL15, cS15, cL16, cS16, cL17, cS17, cL19, cS19, cL20, cS20, cL21, cS21, cL24, cS24, cL25, cS25, cL26, cS26, cL27, cS27, cL28, cS28, cL29, cS29, cL30, cS30, cL31, cS31, bV, bK, bI0, bI1, bI2, bI3, bI4, bI5, bI6, bI7, bI8, bI9, bI10, bR11, bR12, bR13, bP9, bP10, bL1, bS1, bL2, bS2, bL3, bS3, iI_0, iI_1, iI_neg, iL2, iL3, iL4, iL5, iL6, iL7, iL8, iL9, iL10, iL11, iL12, iL13, iL14, iL15, iL16, iL17, iL30, iL31, iL60, iL99, iL100, iL240, iL480, iL1000, iL1920, iL10000, iI_add, iI_sub, iI_mul, iI_div, iI_le, iI_lt, iI_eq, bd_s, k_size]
              rw [if_pos (by omega)]
              exact h107) A.n 0 FU (by omega) (by rw [FU_eq]; omega)
          exact this
      · -- some have not
        obtain ⟨i0, hi0, hci0⟩ : ∃ i, i < A.n ∧ x.2 i = false := by
          by_cases z : ∃ i, i < A.n ∧ x.2 i = false
          · exact z
          · exfalso
            apply cA
            intro i hi
            cases hq : x.2 i with
            | true => rfl
            | false => exact absurd ⟨i, hi, hq⟩ z
        have hu1 := unc_step (lk := lk) hi0 hci0
        have hu2 : 0 ≤ unc A.n (cU lk x.2 i0) := (cntI_rng (fun i => !cU lk x.2 i0 i) A.n).1
        have hl4 : pre.length ≤ 4 := by omega
        have hLs : ∀ i, ((List.range (i + 1)).filter (fun j => !x.2 j)) = (List.range i).filter (fun j => !x.2 j) ++ (if x.2 i then [] else [i]) := fun i => by
          rw [List.range_succ, List.filter_append]
          congr 1
          cases hq : x.2 i <;> simp [hq]
        obtain ⟨L, eL⟩ : ∃ L : Nat → List (List Nat), ∀ i, L i = ((List.range i).filter (fun j => !x.2 j)).flatMap (fun j => (dfL lk A.n f (cU lk x.2 j)).map (fun s => pre ++ (j :: s))) := ⟨_, fun _ => rfl⟩
        have hLstep : ∀ i, L (i + 1) = L i ++ (if x.2 i then [] else (dfL lk A.n f (cU lk x.2 i)).map (fun s => pre ++ (i :: s))) := fun i => by
          rw [eL, eL, hLs, List.flatMap_append]
          congr 1
          cases hq : x.2 i <;> simp
        have hdf : (dfL lk A.n (f + 1) x.2).map (fun s => pre ++ s) = L A.n := by
          have hne : (List.range A.n).filter (fun i => !x.2 i) ≠ [] := by
            intro z
            rw [List.filter_eq_nil_iff] at z
            have := z i0 (List.mem_range.2 hi0)
            simp [hci0] at this
          have e : dfL lk A.n (f + 1) x.2 = ((List.range A.n).filter (fun i => !x.2 i)).flatMap (fun i => (dfL lk A.n f (cU lk x.2 i)).map (fun s => i :: s)) := by
            show (match (List.range A.n).filter (fun i => !x.2 i) with | [] => [[]] | is => is.flatMap (fun i => (dfL lk A.n f (cU lk x.2 i)).map (fun s => i :: s))) = _
            split
            · rename_i z; exact absurd z hne
            · rfl
          rw [e, eL, List.map_flatMap]
          congr 1
          funext j
          rw [List.map_map]
          rfl
        rw [hdf]
        -- one turn
        have turn : ∀ i (υ : Sg), i < A.n → DI h A κ ρ lk pre υ (fm (fun l => sumW (goL lk κ l).1) a (L i)) → ∃ υ', DI h A κ ρ lk pre υ' (fm (fun l => sumW (goL lk κ l).1) a (L (i + 1))) ∧ ∀ k, fb_X5_tryOrders_14 (f_X5_tryOrders f) k (some (A.x + 18)) (iI (pre.length : Int)) (iI (rch κ A.n x)) (iI (if ((List.range i).filter (fun j => !x.2 j)) = [] then 1 else 0)) (iI (i : Int)) (CH h A υ) = k (some (A.x + 18), iI (pre.length : Int), iI (rch κ A.n x), iI (if ((List.range (i + 1)).filter (fun j => !x.2 j)) = [] then 1 else 0), iI ((i + 1 : Nat) : Int), CH h A υ') := by
          intro i υ hi hD
          obtain ⟨ai, eai⟩ : ∃ ai, fm (fun l => sumW (goL lk κ l).1) a (L i) = ai := ⟨_, rfl⟩
          rw [eai] at hD
          have hD0 := hD
          obtain ⟨v1, v2, v3, v4, v5, ⟨v6, v7, v8⟩, v9⟩ := hD
          rw [ex] at v2 v4
          have hli := v1.1.2.1
          have e47 := v4 i hi
          cases hc : x.2 i with
          | true =>
            rw [hc, b2_t rfl] at e47
            have eL1 : L (i + 1) = L i := by rw [hLstep, hc]; simp
            have eF : ((List.range (i + 1)).filter (fun j => !x.2 j)) = (List.range i).filter (fun j => !x.2 j) := by rw [hLs, hc]; simp
            refine ⟨υ, by rw [eL1, eai]; exact hD0, fun k => ?_⟩
            rw [eF]
            unfold fb_X5_tryOrders_14 f_X5_tryOrders_101
            simp (maxSteps := 1000000) (disch := omega) only [iL239, cV0, cR0_0, cR0_1, cR0_2, cR0_3, cR0_4, cR0_5, cV1, cR1_1, cR1_2, cR1_3, cR1_4, cR1_5, cR1_6, cR1_7, cI1_0, cI1_8, cP1_8, cI1_9, cP1_9, cV9, cR9_0, cR9_1, cV10, cV11, cV12, cR12_0, cR12_1, cR12_2, cR12_3, cR12_4, cR12_5, cR12_6, cV18, cR18_0, cR18_1, cR18_2, cR18_3, cR18_4, cI18_5, cP18_5, cI18_6, cP18_6, cV22, cR22_0, cR22_1, cI22_2, cP22_2, cI22_3, cP22_3, cI22_4, cP22_4, cV23, cR23_0, cR23_1, cR23_3, cR23_4, cR23_5, cR23_6, cR23_7, cR23_8, cR23_9, cR23_10, cI23_2, cP23_2, cR10_1, cI10_2, cR11_1, cI11_2, cL2, cS2, cL3, cS3, cL4, cS4, cL5, cS5, cL6, cS6, cL7, cS7, cL8, cS8, cL13, cS13, cL14, cS14, cL15, cS15, cL16, cS16, cL17, cS17, cL19, cS19, cL20, cS20, cL21, cS21, cL24, cS24, cL25, cS25, cL26, cS26, cL27, cS27, cL28, cS28, cL29, cS29, cL30, cS30, cL31, cS31, bV, bK, bI0, bI1, bI2, bI3, bI4, bI5, bI6, bI7, bI8, bI9, bI10, bR11, bR12, bR13, bP9, bP10, bL1, bS1, bL2, bS2, bL3, bS3, iI_0, iI_1, iI_neg, iL2, iL3, iL4, iL5, iL6, iL7, iL8, iL9, iL10, iL11, iL12, iL13, iL14, iL15, iL16, iL17, iL30, iL31, iL60, iL99, iL100, iL240, iL480, iL1000, iL1920, iL10000, iI_add, iI_sub, iI_mul, iI_div, iI_le, iI_lt, iI_eq, bd_s, k_size, k_get hli, Int.toNat_natCast, e47, Int.natCast_succ]
            rw [if_neg (by omega), if_neg (by omega), if_neg (by omega)]
          | false =>
            rw [hc, b2_f (by simp)] at e47
            have eL1 : L (i + 1) = L i ++ (dfL lk A.n f (cU lk x.2 i)).map (fun s => pre ++ (i :: s)) := by rw [hLstep, hc]; simp
            have eF : ¬ ((List.range (i + 1)).filter (fun j => !x.2 j)) = [] := by rw [hLs, hc]; simp
            obtain ⟨g1, g2⟩ := hx.step hl hnn hlk hi hc
            have e2 : (gs lk x i).2 = cU lk x.2 i := by rw [g2]
            have exi : goL lk κ (pre ++ [i]) = gs lk x i := by rw [goL_app, ex]; rfl
            have hmap : (dfL lk A.n f (cU lk x.2 i)).map (fun s => pre ++ (i :: s)) = (dfL lk A.n f (goL lk κ (pre ++ [i])).2).map (fun s => (pre ++ [i]) ++ s) := by
              rw [exi, e2]
              congr 1
              funext s
              rw [List.append_assoc]
              rfl
            have hrs := rch_step hx hl hnn hlk hi hc
            have hlo := lost_rng (s := x.1) hx.1.1 (b := i) (by omega) (by
              rw [hx.2.1 18 i (by omega)]
              rcases hl i (by omega) with z | z
              · exact Or.inl z
              · exact Or.inr (by omega))
            rw [if_neg eF, eL1, fm_app, eai, hmap]
            have hai := v9.1
            by_cases cB : rch κ A.n x ≤ ai.1
            · -- nothing better can come of it
              have hsame : fm (fun l => sumW (goL lk κ l).1) ai ((dfL lk A.n f (goL lk κ (pre ++ [i])).2).map (fun s => (pre ++ [i]) ++ s)) = ai := fm_low _ _ _ (fun y hy => by
                rw [List.mem_map] at hy
                obtain ⟨s, s1, s2⟩ := hy
                rw [← s2]
                show sumW (goL lk κ ((pre ++ [i]) ++ s)).1 ≤ _
                rw [goL_app, exi]
                rw [exi] at s1
                have := leaf_le hw.1 hl hnn (by omega) hlk f (gs lk x i) s g1 s1
                omega)
              have eF0 : ¬ ((List.range i).filter (fun j => !x.2 j)) = [] := fun z => by
                have : L i = [] := by rw [eL, z]; rfl
                rw [this] at eai
                have : ai = a := eai.symm
                rw [this] at cB
                omega
              refine ⟨υ, by rw [hsame]; exact hD0, fun k => ?_⟩
              rw [if_neg eF0]
              unfold fb_X5_tryOrders_14 f_X5_tryOrders_101
              simp (maxSteps := 1000000) (disch := omega) only [iL239, cV0, cR0_0, cR0_1, cR0_2, cR0_3, cR0_4, cR0_5, cV1, cR1_1, cR1_2, cR1_3, cR1_4, cR1_5, cR1_6, cR1_7, cI1_0, cI1_8, cP1_8, cI1_9, cP1_9, cV9, cR9_0, cR9_1, cV10, cV11, cV12, cR12_0, cR12_1, cR12_2, cR12_3, cR12_4, cR12_5, cR12_6, cV18, cR18_0, cR18_1, cR18_2, cR18_3, cR18_4, cI18_5, cP18_5, cI18_6, cP18_6, cV22, cR22_0, cR22_1, cI22_2, cP22_2, cI22_3, cP22_3, cI22_4, cP22_4, cV23, cR23_0, cR23_1, cR23_3, cR23_4, cR23_5, cR23_6, cR23_7, cR23_8, cR23_9, cR23_10, cI23_2, cP23_2, cR10_1, cI10_2, cR11_1, cI11_2, cL2, cS2, cL3, cS3, cL4, cS4, cL5, cS5, cL6, cS6, cL7, cS7, cL8, cS8, cL13, cS13, cL14, cS14, cL15, cS15, cL16, cS16, cL17, cS17, cL19, cS19, cL20, cS20, cL21, cS21, cL24, cS24, cL25, cS25, cL26, cS26, cL27, cS27, cL28, cS28, cL29, cS29, cL30, cS30, cL31, cS31, bV, bK, bI0, bI1, bI2, bI3, bI4, bI5, bI6, bI7, bI8, bI9, bI10, bR11, bR12, bR13, bP9, bP10, bL1, bS1, bL2, bS2, bL3, bS3, iI_0, iI_1, iI_neg, iL2, iL3, iL4, iL5, iL6, iL7, iL8, iL9, iL10, iL11, iL12, iL13, iL14, iL15, iL16, iL17, iL30, iL31, iL60, iL99, iL100, iL240, iL480, iL1000, iL1920, iL10000, iI_add, iI_sub, iI_mul, iI_div, iI_le, iI_lt, iI_eq, bd_s, k_size, k_get hli, Int.toNat_natCast, e47, v6, Int.natCast_succ]
              rw [if_neg (by omega), if_neg (by omega), if_pos trivial, if_pos cB]
            · -- it is tried
              have x1 : Ex [48] υ (sg υ 48 pre.length i) := (Ex.refl _ _).sg (by decide) _ _
              have k1 := v1.ex x1 (by decide)
              have hE1 : EQ (sg υ 48 pre.length i) x.1 := (EQ.ex x1 (by decide)).trans v2
              have hls1 : LSy (sg υ 48 pre.length i) := hl.of (by rw [sg_f _ _ _ _ (by decide), v3 9 _ (by decide)]) (fun j => by rw [sg_f _ _ _ _ (by decide), v3 18 _ (by decide)])
              have hg1 : sg υ 48 pre.length i 19 i = 0 := by
                rw [hE1.1 19 i (by omega) (by omega)]
                exact hx.2.2.1 i hi hc
              obtain ⟨υ2, w1, w2, w3, w4, w5⟩ := k_come k1 hls1 hi hg1
              have e18 : sg υ 48 pre.length i 18 i = κ 18 i := by rw [sg_f _ _ _ _ (by decide), v3 18 _ (by decide)]
              have hlx : LK (sg υ 48 pre.length i) := hls1.lk
              have hE2 : EQ υ2 (comeS x.1 i) := w2.trans (hE1.comeS k1.1.1 hx.1 hlx i (by rw [k1.1.2.2]; omega))
              have elost : lostS (sg υ 48 pre.length i) i = lostS x.1 i := lostS_eq hE1 k1.1.1.1 hx.1.1 i (by omega)
              rw [elost] at w5
              have hcU : ∀ j : Nat, j < A.n → (cU lk x.2 i j = true ↔ (x.2 j = true ∨ j = i ∨ (j : Int) = κ 18 i)) := fun j hj => by
                unfold cU
                rw [hlk i hi]
                unfold lkN
                simp only [Bool.or_eq_true, decide_eq_true_eq]
                rcases hl i (by omega) with z | z
                · rw [if_pos z, z]
                  constructor
                  · rintro ((q | q) | q)
                    · exact Or.inl q
                    · exact Or.inr (Or.inl q)
                    · exact Or.inr (Or.inl q)
                  · rintro (q | q | q)
                    · exact Or.inl (Or.inl q)
                    · exact Or.inl (Or.inr q)
                    · omega
                · rw [if_neg (by omega)]
                  constructor
                  · rintro ((q | q) | q)
                    · exact Or.inl q
                    · exact Or.inr (Or.inl q)
                    · exact Or.inr (Or.inr (by omega))
                  · rintro (q | q | q)
                    · exact Or.inl (Or.inl q)
                    · exact Or.inl (Or.inr q)
                    · exact Or.inr (by omega)
              have hD2 : DI h A κ ρ lk (pre ++ [i]) υ2 ai := by
                refine ⟨w1, by rw [exi, g2]; exact hE2, (v3.trans (x1.mono (by decide))).trans (w3.mono (by decide)), fun j hj => ?_, fun j hj => ?_, ⟨?_, ?_, fun j hj => ?_⟩, v9⟩
                · rw [exi, e2, w4 j, e18, sg_f _ _ _ _ (by decide), v4 j hj]
                  by_cases q : j = i ∨ (j : Int) = κ 18 i
                  · rw [if_pos q, b2_t ((hcU j hj).2 (Or.inr q))]
                  · rw [if_neg q]
                    apply b2_iff
                    rw [hcU j hj]
                    exact ⟨fun z => Or.inl z, fun z => z.resolve_right q⟩
                · rw [w3 48 _ (by decide)]
                  simp only [List.length_append, List.length_cons, List.length_nil] at hj
                  by_cases q : j = pre.length
                  · subst q
                    rw [sg_eq]
                    simp [List.getD]
                  · rw [sg_i _ _ _ q, v5 j (by omega)]
                    simp [List.getD, List.getElem?_append_left (show j < pre.length by omega)]
                · rw [w3 51 _ (by decide), sg_f _ _ _ _ (by decide)]; exact v6
                · rw [w3 50 _ (by decide), sg_f _ _ _ _ (by decide)]; exact v7
                · rw [w3 49 _ (by decide), sg_f _ _ _ _ (by decide)]; exact v8 j hj
              have hu3 := unc_step (lk := lk) hi hc
              obtain ⟨υ3, y1, y2⟩ := ih (pre ++ [i]) υ2 ai hD2 (by rw [exi]; exact g1) (fun b hb => by
                rw [List.mem_append, List.mem_singleton] at hb
                rcases hb with z | z
                · exact hp b z
                · rw [z]; exact hi) (by rw [exi, e2]; simp; omega) (by rw [exi, e2]; omega) (by rw [exi]; omega)
              rw [exi, hrs] at y2
              obtain ⟨z1, z2, z3, z4, z5, z6, z7⟩ := y1
              have e18b : υ3 18 i = κ 18 i := z3 18 _ (by decide)
              obtain ⟨υ4, t1, t2, t3, t4, t5⟩ := k_takeBackP z1 (hl.of (z3 9 _ (by decide)) (fun j => z3 18 j (by decide))) hi
              have hD4 : DI h A κ ρ lk pre υ4 (fm (fun l => sumW (goL lk κ l).1) ai ((dfL lk A.n f (goL lk κ (pre ++ [i])).2).map (fun s => (pre ++ [i]) ++ s))) := by
                have f19 : ∀ j : Nat, υ4 19 j = x.1 19 j ∨ A.n ≤ j := fun j => by
                  rcases Nat.lt_or_ge j A.n with hj | hj
                  · left
                    rw [t3 j, e18b]
                    by_cases q : j = i ∨ (j : Int) = κ 18 i
                    · rw [if_pos q]
                      symm
                      rcases q with q | q
                      · rw [q]; exact hx.2.2.1 i hi hc
                      · have := hx.2.2.2 i hi hc
                        rw [hlk i hi] at this
                        unfold lkN at this
                        rw [if_neg (by omega), show (κ 18 i).toNat = j by omega] at this
                        exact hx.2.2.1 j hj this
                    · rw [if_neg q, z2.1 19 j (by omega) (by omega), exi, g2]
                      simp only [not_or] at q
                      exact comeS_off (by rw [hx.2.1 18 i (by omega)]; rcases hl i (by omega) with y | y <;> omega) q.1 (by rw [hx.2.1 18 i (by omega)]; exact q.2)
                  · exact Or.inr hj
                have hEQ4 : EQ υ4 x.1 := by
                  refine ⟨fun f' j h1 h2 => ?_, fun b j h1 h2 h3 h4 => ?_⟩
                  · by_cases q : f' = 19
                    · subst q
                      rcases f19 j with y | y
                      · exact y
                      · rw [t3 j, e18b, if_neg (by
                          rcases hl i (by omega) with z | z <;> omega), z2.1 19 j (by omega) (by omega), exi, g2]
                        exact comeS_off (by rw [hx.2.1 18 i (by omega)]; rcases hl i (by omega) with y | y <;> omega) (by omega) (by rw [hx.2.1 18 i (by omega)]; rcases hl i (by omega) with y | y <;> omega)
                    · rw [t2 f' j (by simp; omega), z2.1 f' j h1 h2, exi, g2]
                      exact (comeS_WB hx.1 (fun c hcc => by
                        rw [hx.2.1 9 0 (by omega)] at hcc
                        rw [hx.2.1 18 c (by omega), hx.2.1 9 0 (by omega)]
                        exact hl.lk c hcc) (b := i) (by rw [hx.2.1 9 0 (by omega)]; omega)).2 f' j (by omega)
                  · rw [t1.1.2.2] at h1
                    have hbq : ¬ (b = i ∨ (b : Int) = κ 18 i) := fun q => by
                      apply h2
                      rw [t3 b, e18b, if_pos q]
                    simp only [not_or] at hbq
                    have h2' : υ3 19 b ≠ 0 := by
                      rw [t3 b, e18b, if_neg (by omega)] at h2
                      exact h2
                    have el4 : lgs υ4 b = lgs υ3 b := by unfold lgs; rw [t2 11 _ (by decide), t2 12 _ (by decide)]
                    rw [el4] at h4
                    have e20 : lv υ4 b j = lv υ3 b j := t2 20 _ (by decide)
                    rw [e20, z2.2 b j (by rw [z1.1.2.2]; exact h1) h2' h3 h4, exi, g2]
                    have elx : lgs υ3 b = lgs x.1 b := by
                      unfold lgs
                      rw [z3 11 _ (by decide), z3 12 _ (by decide), hx.2.1 11 b (by omega), hx.2.1 12 b (by omega)]
                    exact comeS_lv hx.1 (fun c hcc => by
                        rw [hx.2.1 9 0 (by omega)] at hcc
                        rw [hx.2.1 18 c (by omega), hx.2.1 9 0 (by omega)]
                        exact hl.lk c hcc) (by rw [hx.2.1 9 0 (by omega)]; omega) (by rw [hx.2.1 9 0 (by omega)]; omega) hbq.1 (by rw [hx.2.1 18 i (by omega)]; exact hbq.2) h3 (by rw [← elx]; exact h4)
                refine ⟨t1, by rw [ex]; exact hEQ4, z3.trans (t2.mono (by decide)), fun j hj => ?_, fun j hj => ?_, ⟨?_, ?_, fun j hj => ?_⟩, z7⟩
                · rw [ex, t4 j, e18b]
                  by_cases q : j = i ∨ (j : Int) = κ 18 i
                  · rw [if_pos q]
                    have : x.2 j = false := by
                      rcases q with q | q
                      · rw [q]; exact hc
                      · have := hx.2.2.2 i hi hc
                        rw [hlk i hi] at this
                        unfold lkN at this
                        rw [if_neg (by omega), show (κ 18 i).toNat = j by omega] at this
                        exact this
                    rw [this]
                    rfl
                  · rw [if_neg q, z4 j hj, exi, e2]
                    apply b2_iff
                    rw [hcU j hj]
                    exact ⟨fun z => z.resolve_right q, fun z => Or.inl z⟩
                · rw [t2 48 _ (by decide), z5 j (by simp; omega)]
                  simp [List.getD, List.getElem?_append_left hj]
                · rw [t2 51 _ (by decide)]; exact z6.1
                · rw [t2 50 _ (by decide)]; exact z6.2.1
                · rw [t2 49 _ (by decide)]; exact z6.2.2 j hj
              refine ⟨υ4, hD4, fun k => ?_⟩
              have epl : (((pre ++ [i]).length : Nat) : Int) = (pre.length : Int) + 1 := by simp
              rw [epl] at y2
              unfold fb_X5_tryOrders_14 f_X5_tryOrders_101
              simp (maxSteps := 1000000) (disch := omega) only [iL239, cV0, cR0_0, cR0_1, cR0_2, cR0_3, cR0_4, cR0_5, cV1, cR1_1, cR1_2, cR1_3, cR1_4, cR1_5, cR1_6, cR1_7, cI1_0, cI1_8, cP1_8, cI1_9, cP1_9, cV9, cR9_0, cR9_1, cV10, cV11, cV12, cR12_0, cR12_1, cR12_2, cR12_3, cR12_4, cR12_5, cR12_6, cV18, cR18_0, cR18_1, cR18_2, cR18_3, cR18_4, cI18_5, cP18_5, cI18_6, cP18_6, cV22, cR22_0, cR22_1, cI22_2, cP22_2, cI22_3, cP22_3, cI22_4, cP22_4, cV23, cR23_0, cR23_1, cR23_3, cR23_4, cR23_5, cR23_6, cR23_7, cR23_8, cR23_9, cR23_10, cI23_2, cP23_2, cR10_1, cI10_2, cR11_1, cI11_2, cL2, cS2, cL3, cS3, cL4, cS4, cL5, cS5, cL6, cS6, cL7, cS7, cL8, cS8, cL13, cS13, cL14, cS14, cL15, cS15, cL16, cS16, cL17, cS17, cL19, cS19, cL20, cS20, cL21, cS21, cL24, cS24, cL25, cS25, cL26, cS26, cL27, cS27, cL28, cS28, cL29, cS29, cL30, cS30, cL31, cS31, bV, bK, bI0, bI1, bI2, bI3, bI4, bI5, bI6, bI7, bI8, bI9, bI10, bR11, bR12, bR13, bP9, bP10, bL1, bS1, bL2, bS2, bL3, bS3, iI_0, iI_1, iI_neg, iL2, iL3, iL4, iL5, iL6, iL7, iL8, iL9, iL10, iL11, iL12, iL13, iL14, iL15, iL16, iL17, iL30, iL31, iL60, iL99, iL100, iL240, iL480, iL1000, iL1920, iL10000, iI_add, iI_sub, iI_mul, iI_div, iI_le, iI_lt, iI_eq, bd_s, k_size, k_get hli, Int.toNat_natCast, e47, v6, w5, y2, t5, Int.natCast_succ]
              rw [if_neg (by omega), if_neg (by omega), if_pos trivial, if_neg cB]
        obtain ⟨υ, u1, u2⟩ := lp_rel (B := fun k14 w => fb_X5_tryOrders_14 (f_X5_tryOrders f) k14 w.1 w.2.1 w.2.2.1 w.2.2.2.1 w.2.2.2.2.1 w.2.2.2.2.2) (fun i (υ : Sg) => (some (A.x + 18), iI (pre.length : Int), iI (rch κ A.n x), iI (if ((List.range i).filter (fun j => !x.2 j)) = [] then 1 else 0), iI (i : Int), CH h A υ)) (fun i υ => DI h A κ ρ lk pre υ (fm (fun l => sumW (goL lk κ l).1) a (L i))) A.n (fun υ => some ((), CH h A υ))
          (fun i υ hi hI => turn i υ hi hI)
          (fun υ k hI => by
            have hne : ¬ (List.range A.n).filter (fun j => !x.2 j) = [] := by
              intro z
              rw [List.filter_eq_nil_iff] at z
              have := z i0 (List.mem_range.2 hi0)
              simp [hci0] at this
            show fb_X5_tryOrders_14 (f_X5_tryOrders f) k (some (A.x + 18)) (iI (pre.length : Int)) (iI (rch κ A.n x)) (iI (if ((List.range A.n).filter (fun j => !x.2 j)) = [] then 1 else 0)) (iI (A.n : Int)) (CH h A υ) = _
            rw [if_neg hne]
            unfold fb_X5_tryOrders_14 f_X5_tryOrders_107 f_X5_tryOrders_117
            simp (maxSteps := 1000000) (disch := omega) only [iL239, cV0, cR0_0, cR0_1, cR0_2, cR0_3, cR0_4, cR0_5, cV1, cR1_1, cR1_2, cR1_3, cR1_4, cR1_5, cR1_6, cR1_7, cI1_0, cI1_8, cP1_8, cI1_9, cP1_9, cV9, cR9_0, cR9_1, cV10, cV11, cV12, cR12_0, cR12_1, cR12_2, cR12_3, cR12_4, cR12_5, cR12_6, cV18, cR18_0, cR18_1, cR18_2, cR18_3, cR18_4, cI18_5, cP18_5, cI18_6, cP18_6, cV22, cR22_0, cR22_1, cI22_2, cP22_2, cI22_3, cP22_3, cI22_4, cP22_4, cV23, cR23_0, cR23_1, cR23_3, cR23_4, cR23_5, cR23_6, cR23_7, cR23_8, cR23_9, cR23_10, cI23_2, cP23_2, cR10_1, cI10_2, cR11_1, cI11_2, cL2, cS2, cL3, cS3, cL4, cS4, cL5, cS5, cL6, cS6, cL7, cS7, cL8, cS8, cL13, cS13, cL14, cS14, cL15, cS15, cL16, cS16, cL17, cS17, cL19, cS19, cL20, cS20, cL21, cS21, cL24, cS24, cL25, cS25, cL26, cS26, cL27, cS27, cL28, cS28, cL29, cS29, cL30, cS30, cL31, cS31, bV, bK, bI0, bI1, bI2, bI3, bI4, bI5, bI6, bI7, bI8, bI9, bI10, bR11, bR12, bR13, bP9, bP10, bL1, bS1, bL2, bS2, bL3, bS3, iI_0, iI_1, iI_neg, iL2, iL3, iL4, iL5, iL6, iL7, iL8, iL9, iL10, iL11, iL12, iL13, iL14, iL15, iL16, iL17, iL30, iL31, iL60, iL99, iL100, iL240, iL480, iL1000, iL1920, iL10000, iI_add, iI_sub, iI_mul, iI_div, iI_le, iI_lt, iI_eq, bd_s, k_size]
            rw [if_pos (by omega)]
            rfl) A.n 0 FU τ (by omega) (by rw [FU_eq]; omega) (by
            have : L 0 = [] := by rw [eL]; rfl
            rw [this]
            exact hd0)
        exact ⟨υ, u1, u2⟩
    · rw [if_neg cR]
      refine ⟨τ, ?_, rfl⟩
      rw [fm_low _ _ _ (fun y hy => by
        have h1 : sumW (goL lk κ y).1 ≤ rch κ A.n x := hlow (f + 1) y hy
        show sumW (goL lk κ y).1 ≤ a.1
        omega)]
      exact hd0
end
