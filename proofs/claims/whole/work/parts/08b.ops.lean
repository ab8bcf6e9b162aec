/-! the class's and the reference's methods, beside each other -/
def OP (h : Hp) (A : CA) (κ σ : Sg) (h' : Hp) (m : Nat) (F G : Hp → Option (Int32 × Hp)) : Prop := ∃ v κ' σ', RLx h A κ' σ' ∧ F (CH h A κ) = some (v, CH h A κ') ∧ G (MH h' m σ) = some (v, MH h' m σ')
section
variable {h : Hp} {A : CA} {κ σ : Sg} {h' : Hp} {m : Nat}
theorem k_isWithin (v a b : Int) (h : Hp) (hv : -2147483648 ≤ v ∧ v < 2147483648) (ha : -2147483648 ≤ a ∧ a < 2147483648) (hb : -2147483648 ≤ b ∧ b < 2147483648) : f_X7_isWithin (iI v) (iI a) (iI b) h = some (iI (b2 (a ≤ v ∧ v ≤ b)), h) := by
  unfold f_X7_isWithin f_X7_isWithin_14 f_X7_isWithin_15
  simp (disch := omega) only [iI_0, iI_1, iI_neg, iL2, iL3, iL4, iL5, iL6, iL7, iL8, iL9, iL10, iL11, iL12, iL13, iL14, iL15, iL16, iL17, iL30, iL31, iL60, iL99, iL100, iL240, iL480, iL1000, iL1920, iL10000, iI_add, iI_sub, iI_mul, iI_div, iI_le, iI_lt, iI_eq, bd_s, rt0, rt1]
  by_cases h1 : v < a
  · rw [if_pos h1, b2, if_neg (by omega)]
  · rw [if_neg h1]
    by_cases h2 : b < v
    · rw [if_pos h2, b2, if_neg (by omega)]
    · rw [if_neg h2, b2, if_pos (by omega)]
theorem k_forget : f_X6_forget (A.x + 23) (CH h A κ) = some ((), CH h A (sg κ 55 0 0)) := by
  unfold f_X6_forget
  rw [iI_0, cP23_2 _ _ (by omega)]
  rfl
theorem RLx.e (hr : RLx h A κ σ) {f : Nat} (hf : f < 22) (h20 : f ≠ 20) (i : Nat) : κ f i = σ f i := hr.2.1.1 f i hf h20
theorem RLx.n (hr : RLx h A κ σ) : σ 9 0 = A.n ∧ A.n ≤ 16 := ⟨by rw [← hr.e (by omega) (by omega)]; exact hr.1.1.2.2, hr.1.1.n16⟩
theorem o_tracks (hr : RLx h A κ σ) (a n : Int) (ha : I32 a) (hn : I32 n) : OP h A κ σ h' m (f_X7_tracks A.x (iI a) (iI n)) (f_X8_tracks m (iI a) (iI n)) := by
  have hs := s_tracks (h := h') (m := m) hr.2.2.1.1 a n ha hn
  have hwk := hr.1.1.1.1
  have e0 := hr.e (f := 0) (by omega) (by omega) 0
  have h0 := hr.2.2.1.1.1
  unfold I32 at ha hn
  unfold OP
  rw [hs]
  unfold f_X7_tracks f_X7_tracks_21
  simp (disch := omega) only [iL239, cV0, cR0_0, cR0_1, cR0_2, cR0_3, cR0_4, cR0_5, cV1, cR1_1, cR1_2, cR1_3, cR1_4, cR1_5, cR1_6, cR1_7, cI1_0, cI1_8, cP1_8, cI1_9, cP1_9, cV9, cR9_0, cR9_1, cV10, cV11, cV12, cR12_0, cR12_1, cR12_2, cR12_3, cR12_4, cR12_5, cR12_6, cV18, cR18_0, cR18_1, cR18_2, cR18_3, cR18_4, cI18_5, cP18_5, cI18_6, cP18_6, cV22, cR22_0, cR22_1, cI22_2, cP22_2, cI22_3, cP22_3, cI22_4, cP22_4, cV23, cR23_0, cR23_1, cR23_3, cR23_4, cR23_5, cR23_6, cR23_7, cR23_8, cR23_9, cR23_10, cI23_2, cP23_2, cR10_1, cI10_2, cR11_1, cI11_2, cL2, cS2, cL3, cS3, cL4, cS4, cL5, cS5, cL6, cS6, cL7, cS7, cL8, cS8, cL13, cS13, cL14, cS14, cL15, cS15, cL16, cS16, cL17, cS17, cL19, cS19, cL20, cS20, cL21, cS21, cL24, cS24, cL25, cS25, cL26, cS26, cL27, cS27, cL28, cS28, cL29, cS29, cL30, cS30, cL31, cS31, bV, bK, bI0, bI1, bI2, bI3, bI4, bI5, bI6, bI7, bI8, bI9, bI10, bR11, bR12, bR13, bP9, bP10, bL1, bS1, bL2, bS2, bL3, bS3, iI_0, iI_1, iI_neg, iL2, iL3, iL4, iL5, iL6, iL7, iL8, iL9, iL10, iL11, iL12, iL13, iL14, iL15, iL16, iL17, iL30, iL31, iL60, iL99, iL100, iL240, iL480, iL1000, iL1920, iL10000, iI_add, iI_sub, iI_mul, iI_div, iI_le, iI_lt, iI_eq, bd_s, k_hasStation hwk, k_isWithin, iI_b2, rt0, rt1, e0]
  by_cases c : (0 ≤ a ∧ a < σ 0 0) ∧ (0 ≤ n ∧ n ≤ 9)
  · rw [if_pos c, if_neg (fun z => z c.1), if_neg (fun z => z c.2)]
    refine ⟨iI 1, sg κ 3 a.toNat n, sg σ 3 a.toNat n, ?_, rfl, rfl⟩
    have hE := hr.2.1.sg (f := 3) (by omega) a.toNat n
    refine hr.mk' hE (hr.2.2.1.sg _ (by exact c.2) (by omega)) ?_ (hr.2.2.2.2.1.of (fun f i hf => sg_f _ _ _ _ (by omega))) (hr.1.2.1.of (fun f i hf => sg_f _ _ _ _ (by omega))) ?_ (fun i => sg_f _ _ _ _ (by omega)) (fun i => sg_f _ _ _ _ (by omega)) (fun i => sg_f _ _ _ _ (by omega)) (sg_f _ _ _ _ (by omega)) ?_
    · exact hr.2.2.2.1
    · exact hr.1.2.2.1
    · have eR : RUN (sg κ 3 a.toNat n) = RUN κ := (EQR.sg (σ := κ) (Or.inl rfl) a.toNat n).RUN (hwk.sg _ (by exact c.2))
      unfold UP
      rw [eR]
      exact hr.2.2.2.2.2
  · rw [if_neg c]
    refine ⟨iI 0, κ, σ, hr, ?_, rfl⟩
    by_cases c1 : 0 ≤ a ∧ a < σ 0 0
    · rw [if_neg (fun z => z c1), if_pos (fun z => c ⟨c1, z⟩)]
    · rw [if_pos c1]
theorem o_headway (hr : RLx h A κ σ) (n : Int) (hn : I32 n) : OP h A κ σ h' m (f_X7_headway A.x (iI n)) (f_X8_headway m (iI n)) := by
  have hs := s_headway (h := h') (m := m) (σ := σ) n hn
  have hwk := hr.1.1.1.1
  unfold I32 at hn
  unfold OP
  rw [hs]
  unfold f_X7_headway
  simp (disch := omega) only [iL239, cV0, cR0_0, cR0_1, cR0_2, cR0_3, cR0_4, cR0_5, cV1, cR1_1, cR1_2, cR1_3, cR1_4, cR1_5, cR1_6, cR1_7, cI1_0, cI1_8, cP1_8, cI1_9, cP1_9, cV9, cR9_0, cR9_1, cV10, cV11, cV12, cR12_0, cR12_1, cR12_2, cR12_3, cR12_4, cR12_5, cR12_6, cV18, cR18_0, cR18_1, cR18_2, cR18_3, cR18_4, cI18_5, cP18_5, cI18_6, cP18_6, cV22, cR22_0, cR22_1, cI22_2, cP22_2, cI22_3, cP22_3, cI22_4, cP22_4, cV23, cR23_0, cR23_1, cR23_3, cR23_4, cR23_5, cR23_6, cR23_7, cR23_8, cR23_9, cR23_10, cI23_2, cP23_2, cR10_1, cI10_2, cR11_1, cI11_2, cL2, cS2, cL3, cS3, cL4, cS4, cL5, cS5, cL6, cS6, cL7, cS7, cL8, cS8, cL13, cS13, cL14, cS14, cL15, cS15, cL16, cS16, cL17, cS17, cL19, cS19, cL20, cS20, cL21, cS21, cL24, cS24, cL25, cS25, cL26, cS26, cL27, cS27, cL28, cS28, cL29, cS29, cL30, cS30, cL31, cS31, bV, bK, bI0, bI1, bI2, bI3, bI4, bI5, bI6, bI7, bI8, bI9, bI10, bR11, bR12, bR13, bP9, bP10, bL1, bS1, bL2, bS2, bL3, bS3, iI_0, iI_1, iI_neg, iL2, iL3, iL4, iL5, iL6, iL7, iL8, iL9, iL10, iL11, iL12, iL13, iL14, iL15, iL16, iL17, iL30, iL31, iL60, iL99, iL100, iL240, iL480, iL1000, iL1920, iL10000, iI_add, iI_sub, iI_mul, iI_div, iI_le, iI_lt, iI_eq, bd_s, k_isWithin, iI_b2, rt0, rt1, k_forget]
  by_cases c : 0 ≤ n ∧ n ≤ 9
  · rw [if_pos c, if_neg (fun z => z c)]
    refine ⟨iI 1, sg (sg κ 4 0 n) 55 0 0, sg σ 4 0 n, ?_, rfl, rfl⟩
    have hE := (hr.2.1.sg (f := 4) (by omega) 0 n).sgL (f := 55) (by omega) 0 0
    refine hr.mk' hE (hr.2.2.1.sg _ (by exact c) (by omega)) hr.2.2.2.1 (hr.2.2.2.2.1.of (fun f i hf => sg_f _ _ _ _ (by omega))) (hr.1.2.1.of (fun f i hf => by rw [sg_f _ _ _ _ (by omega), sg_f _ _ _ _ (by omega)])) hr.1.2.2.1 (fun i => rfl) (fun i => rfl) (fun i => rfl) rfl (Or.inl rfl)
  · rw [if_neg c, if_pos c]
    exact ⟨iI 0, κ, σ, hr, rfl, rfl⟩
theorem o_works (hr : RLx h A κ σ) (a f t : Int) (ha : I32 a) (hf : I32 f) (ht : I32 t) : OP h A κ σ h' m (f_X7_works A.x (iI a) (iI f) (iI t)) (f_X8_works m (iI a) (iI f) (iI t)) := by
  have hs := s_works (h := h') (m := m) hr.2.2.1.1 a f t ha hf ht
  have hwk := hr.1.1.1.1
  have e0 := hr.e (f := 0) (by omega) (by omega) 0
  have e5 := hr.e (f := 5) (by omega) (by omega) 0
  have h0 := hr.2.2.1.1.1
  have h5 := hr.2.2.1.1.2.2.1
  unfold I32 at ha hf ht
  unfold OP
  rw [hs]
  unfold f_X7_works f_X7_works_39
  simp (disch := omega) only [iL239, cV0, cR0_0, cR0_1, cR0_2, cR0_3, cR0_4, cR0_5, cV1, cR1_1, cR1_2, cR1_3, cR1_4, cR1_5, cR1_6, cR1_7, cI1_0, cI1_8, cP1_8, cI1_9, cP1_9, cV9, cR9_0, cR9_1, cV10, cV11, cV12, cR12_0, cR12_1, cR12_2, cR12_3, cR12_4, cR12_5, cR12_6, cV18, cR18_0, cR18_1, cR18_2, cR18_3, cR18_4, cI18_5, cP18_5, cI18_6, cP18_6, cV22, cR22_0, cR22_1, cI22_2, cP22_2, cI22_3, cP22_3, cI22_4, cP22_4, cV23, cR23_0, cR23_1, cR23_3, cR23_4, cR23_5, cR23_6, cR23_7, cR23_8, cR23_9, cR23_10, cI23_2, cP23_2, cR10_1, cI10_2, cR11_1, cI11_2, cL2, cS2, cL3, cS3, cL4, cS4, cL5, cS5, cL6, cS6, cL7, cS7, cL8, cS8, cL13, cS13, cL14, cS14, cL15, cS15, cL16, cS16, cL17, cS17, cL19, cS19, cL20, cS20, cL21, cS21, cL24, cS24, cL25, cS25, cL26, cS26, cL27, cS27, cL28, cS28, cL29, cS29, cL30, cS30, cL31, cS31, bV, bK, bI0, bI1, bI2, bI3, bI4, bI5, bI6, bI7, bI8, bI9, bI10, bR11, bR12, bR13, bP9, bP10, bL1, bS1, bL2, bS2, bL3, bS3, iI_0, iI_1, iI_neg, iL2, iL3, iL4, iL5, iL6, iL7, iL8, iL9, iL10, iL11, iL12, iL13, iL14, iL15, iL16, iL17, iL30, iL31, iL60, iL99, iL100, iL240, iL480, iL1000, iL1920, iL10000, iI_add, iI_sub, iI_mul, iI_div, iI_le, iI_lt, iI_eq, bd_s, k_hasSection hwk, iI_b2, rt0, rt1, e0, e5]
  by_cases c : ((0 ≤ a ∧ a < σ 0 0 - 1) ∧ (0 ≤ f ∧ f < t ∧ t ≤ 480)) ∧ σ 5 0 < 10
  · have c0 := c
    obtain ⟨⟨c1, c2⟩, c3⟩ := c
    rw [if_pos c0, if_neg (fun z => z c1), if_neg (by omega), if_neg (by omega), if_neg (by omega), if_pos c3]
    have eA : f_X3_addWorks (A.x + 1) (iI a) (iI f) (iI t) (CH h A κ) = some ((), CH h A (sg (sg (sg (sg κ 6 (σ 5 0).toNat a) 7 (σ 5 0).toNat f) 8 (σ 5 0).toNat t) 5 0 (σ 5 0 + 1))) := by
      have s5 : ∀ (τ : Sg) (k j : Nat) (x : Int), k ≠ 5 → sg τ k j x 5 0 = τ 5 0 := fun τ k j x hk => sg_f _ _ _ _ (fun z => hk z.symm)
      unfold f_X3_addWorks
      simp (disch := omega) only [iL239, cV0, cR0_0, cR0_1, cR0_2, cR0_3, cR0_4, cR0_5, cV1, cR1_1, cR1_2, cR1_3, cR1_4, cR1_5, cR1_6, cR1_7, cI1_0, cI1_8, cP1_8, cI1_9, cP1_9, cV9, cR9_0, cR9_1, cV10, cV11, cV12, cR12_0, cR12_1, cR12_2, cR12_3, cR12_4, cR12_5, cR12_6, cV18, cR18_0, cR18_1, cR18_2, cR18_3, cR18_4, cI18_5, cP18_5, cI18_6, cP18_6, cV22, cR22_0, cR22_1, cI22_2, cP22_2, cI22_3, cP22_3, cI22_4, cP22_4, cV23, cR23_0, cR23_1, cR23_3, cR23_4, cR23_5, cR23_6, cR23_7, cR23_8, cR23_9, cR23_10, cI23_2, cP23_2, cR10_1, cI10_2, cR11_1, cI11_2, cL2, cS2, cL3, cS3, cL4, cS4, cL5, cS5, cL6, cS6, cL7, cS7, cL8, cS8, cL13, cS13, cL14, cS14, cL15, cS15, cL16, cS16, cL17, cS17, cL19, cS19, cL20, cS20, cL21, cS21, cL24, cS24, cL25, cS25, cL26, cS26, cL27, cS27, cL28, cS28, cL29, cS29, cL30, cS30, cL31, cS31, bV, bK, bI0, bI1, bI2, bI3, bI4, bI5, bI6, bI7, bI8, bI9, bI10, bR11, bR12, bR13, bP9, bP10, bL1, bS1, bL2, bS2, bL3, bS3, iI_0, iI_1, iI_neg, iL2, iL3, iL4, iL5, iL6, iL7, iL8, iL9, iL10, iL11, iL12, iL13, iL14, iL15, iL16, iL17, iL30, iL31, iL60, iL99, iL100, iL240, iL480, iL1000, iL1920, iL10000, iI_add, iI_sub, iI_mul, iI_div, iI_le, iI_lt, iI_eq, bd_s, e5, s5]
      rfl
    simp (disch := omega) only [eA, iL239, cV0, cR0_0, cR0_1, cR0_2, cR0_3, cR0_4, cR0_5, cV1, cR1_1, cR1_2, cR1_3, cR1_4, cR1_5, cR1_6, cR1_7, cI1_0, cI1_8, cP1_8, cI1_9, cP1_9, cV9, cR9_0, cR9_1, cV10, cV11, cV12, cR12_0, cR12_1, cR12_2, cR12_3, cR12_4, cR12_5, cR12_6, cV18, cR18_0, cR18_1, cR18_2, cR18_3, cR18_4, cI18_5, cP18_5, cI18_6, cP18_6, cV22, cR22_0, cR22_1, cI22_2, cP22_2, cI22_3, cP22_3, cI22_4, cP22_4, cV23, cR23_0, cR23_1, cR23_3, cR23_4, cR23_5, cR23_6, cR23_7, cR23_8, cR23_9, cR23_10, cI23_2, cP23_2, cR10_1, cI10_2, cR11_1, cI11_2, cL2, cS2, cL3, cS3, cL4, cS4, cL5, cS5, cL6, cS6, cL7, cS7, cL8, cS8, cL13, cS13, cL14, cS14, cL15, cS15, cL16, cS16, cL17, cS17, cL19, cS19, cL20, cS20, cL21, cS21, cL24, cS24, cL25, cS25, cL26, cS26, cL27, cS27, cL28, cS28, cL29, cS29, cL30, cS30, cL31, cS31, bV, bK, bI0, bI1, bI2, bI3, bI4, bI5, bI6, bI7, bI8, bI9, bI10, bR11, bR12, bR13, bP9, bP10, bL1, bS1, bL2, bS2, bL3, bS3, bd_s, k_forget, rt1]
    refine ⟨iI 1, sg (sg (sg (sg (sg κ 6 (σ 5 0).toNat a) 7 (σ 5 0).toNat f) 8 (σ 5 0).toNat t) 5 0 (σ 5 0 + 1)) 55 0 0, sg (sg (sg (sg σ 6 (σ 5 0).toNat a) 7 (σ 5 0).toNat f) 8 (σ 5 0).toNat t) 5 0 (σ 5 0 + 1), ?_, rfl, rfl⟩
    have hE := ((((hr.2.1.sg (f := 6) (by omega) (σ 5 0).toNat a).sg (f := 7) (by omega) (σ 5 0).toNat f).sg (f := 8) (by omega) (σ 5 0).toNat t).sg (f := 5) (by omega) 0 (σ 5 0 + 1)).sgL (f := 55) (by omega) 0 0
    refine hr.mk' hE ((((hr.2.2.1.sg (f := 6) _ (by constructor <;> omega) (by omega)).sg (f := 7) _ (by constructor <;> omega) (by omega)).sg (f := 8) _ (by constructor <;> omega) (by omega)).sg (f := 5) _ (by constructor <;> omega) (by omega)) hr.2.2.2.1 (hr.2.2.2.2.1.of (fun f i hf => by rw [sg_f _ _ _ _ (by omega), sg_f _ _ _ _ (by omega), sg_f _ _ _ _ (by omega), sg_f _ _ _ _ (by omega)])) (hr.1.2.1.of (fun f i hf => by rw [sg_f _ _ _ _ (by omega), sg_f _ _ _ _ (by omega), sg_f _ _ _ _ (by omega), sg_f _ _ _ _ (by omega), sg_f _ _ _ _ (by omega)])) ?_ (fun i => rfl) (fun i => rfl) (fun i => rfl) rfl (Or.inl rfl)
    intro w hw
    have hw' : (w : Int) < σ 5 0 + 1 := hw
    have hold := hr.1.2.2.1 w
    rw [e5] at hold
    by_cases q : w = (σ 5 0).toNat
    · subst q
      simp [sg]
      omega
    · simp [sg, q]
      exact hold (by omega)
  · rw [if_neg c]
    refine ⟨iI 0, κ, σ, hr, ?_, rfl⟩
    (repeat' split) <;> first | rfl | omega
theorem o_delay (hr : RLx h A κ σ) (b s n : Int) (hb : I32 b) (hs : I32 s) (hn : I32 n) : OP h A κ σ h' m (f_X7_delay A.x (iI b) (iI s) (iI n)) (f_X8_delay m (iI b) (iI s) (iI n)) := by
  have hS := s_delay (h := h') (m := m) hr.2.2.1.1 b s n hb hs hn
  have hwk := hr.1.1.1.1
  have e0 := hr.e (f := 0) (by omega) (by omega) 0
  have h0 := hr.2.2.1.1.1
  obtain ⟨n1, n2⟩ := hr.n
  unfold I32 at hb hs hn
  unfold OP
  rw [hS]
  unfold f_X7_delay f_X7_delay_36
  simp (disch := omega) only [iL239, cV0, cR0_0, cR0_1, cR0_2, cR0_3, cR0_4, cR0_5, cV1, cR1_1, cR1_2, cR1_3, cR1_4, cR1_5, cR1_6, cR1_7, cI1_0, cI1_8, cP1_8, cI1_9, cP1_9, cV9, cR9_0, cR9_1, cV10, cV11, cV12, cR12_0, cR12_1, cR12_2, cR12_3, cR12_4, cR12_5, cR12_6, cV18, cR18_0, cR18_1, cR18_2, cR18_3, cR18_4, cI18_5, cP18_5, cI18_6, cP18_6, cV22, cR22_0, cR22_1, cI22_2, cP22_2, cI22_3, cP22_3, cI22_4, cP22_4, cV23, cR23_0, cR23_1, cR23_3, cR23_4, cR23_5, cR23_6, cR23_7, cR23_8, cR23_9, cR23_10, cI23_2, cP23_2, cR10_1, cI10_2, cR11_1, cI11_2, cL2, cS2, cL3, cS3, cL4, cS4, cL5, cS5, cL6, cS6, cL7, cS7, cL8, cS8, cL13, cS13, cL14, cS14, cL15, cS15, cL16, cS16, cL17, cS17, cL19, cS19, cL20, cS20, cL21, cS21, cL24, cS24, cL25, cS25, cL26, cS26, cL27, cS27, cL28, cS28, cL29, cS29, cL30, cS30, cL31, cS31, bV, bK, bI0, bI1, bI2, bI3, bI4, bI5, bI6, bI7, bI8, bI9, bI10, bR11, bR12, bR13, bP9, bP10, bL1, bS1, bL2, bS2, bL3, bS3, iI_0, iI_1, iI_neg, iL2, iL3, iL4, iL5, iL6, iL7, iL8, iL9, iL10, iL11, iL12, iL13, iL14, iL15, iL16, iL17, iL30, iL31, iL60, iL99, iL100, iL240, iL480, iL1000, iL1920, iL10000, iI_add, iI_sub, iI_mul, iI_div, iI_le, iI_lt, iI_eq, bd_s, k_at hr.1.1.2.1, k_hasStation hwk, k_isWithin, iI_b2, rt0, rt1, e0]
  by_cases c : ((0 ≤ b ∧ b < σ 9 0) ∧ (0 ≤ s ∧ s < σ 0 0)) ∧ (0 ≤ n ∧ n ≤ 60)
  · have c0 := c
    obtain ⟨⟨c1, c2⟩, c3⟩ := c
    have eat : atR A b = some (A.b b.toNat) := by unfold atR; rw [if_pos (by omega)]
    rw [if_pos c0, eat, if_neg (by simp), if_neg (fun z => z c2), if_neg (fun z => z c3)]
    simp (disch := omega) only [iL239, cV0, cR0_0, cR0_1, cR0_2, cR0_3, cR0_4, cR0_5, cV1, cR1_1, cR1_2, cR1_3, cR1_4, cR1_5, cR1_6, cR1_7, cI1_0, cI1_8, cP1_8, cI1_9, cP1_9, cV9, cR9_0, cR9_1, cV10, cV11, cV12, cR12_0, cR12_1, cR12_2, cR12_3, cR12_4, cR12_5, cR12_6, cV18, cR18_0, cR18_1, cR18_2, cR18_3, cR18_4, cI18_5, cP18_5, cI18_6, cP18_6, cV22, cR22_0, cR22_1, cI22_2, cP22_2, cI22_3, cP22_3, cI22_4, cP22_4, cV23, cR23_0, cR23_1, cR23_3, cR23_4, cR23_5, cR23_6, cR23_7, cR23_8, cR23_9, cR23_10, cI23_2, cP23_2, cR10_1, cI10_2, cR11_1, cI11_2, cL2, cS2, cL3, cS3, cL4, cS4, cL5, cS5, cL6, cS6, cL7, cS7, cL8, cS8, cL13, cS13, cL14, cS14, cL15, cS15, cL16, cS16, cL17, cS17, cL19, cS19, cL20, cS20, cL21, cS21, cL24, cS24, cL25, cS25, cL26, cS26, cL27, cS27, cL28, cS28, cL29, cS29, cL30, cS30, cL31, cS31, bV, bK, bI0, bI1, bI2, bI3, bI4, bI5, bI6, bI7, bI8, bI9, bI10, bR11, bR12, bR13, bP9, bP10, bL1, bS1, bL2, bS2, bL3, bS3, bd_s, k_forget, rt1]
    have eb : (((b.toNat : Nat)) : Int) = b := by omega
    rw [eb]
    refine ⟨iI 1, sg (sg κ 21 (8 * b + s).toNat n) 55 0 0, sg σ 21 (8 * b + s).toNat n, ?_, rfl, rfl⟩
    have hE := (hr.2.1.sg (f := 21) (by omega) (8 * b + s).toNat n).sgL (f := 55) (by omega) 0 0
    exact hr.mk' hE (hr.2.2.1.sg (f := 21) _ (by exact c3) (by omega)) hr.2.2.2.1 ⟨hr.2.2.2.2.1.1.of (fun f i hf => by rw [sg_f _ _ _ _ (by omega)]), fun d d1 d2 => ⟨(hr.2.2.2.2.1.2 d d1 d2).1, (hr.2.2.2.2.1.2 d d1 d2).2.1, fun i hi => by have d1' : σ 9 0 ≤ d := d1; rw [sg_i _ _ _ (by omega)]; exact (hr.2.2.2.2.1.2 d d1 d2).2.2 i hi⟩⟩ (hr.1.2.1.of (fun f i hf => by rw [sg_f _ _ _ _ (by omega), sg_f _ _ _ _ (by omega)])) hr.1.2.2.1 (fun i => rfl) (fun i => rfl) (fun i => rfl) rfl (Or.inl rfl)
  · rw [if_neg c]
    refine ⟨iI 0, κ, σ, hr, ?_, rfl⟩
    unfold atR
    by_cases c1 : 0 ≤ b ∧ b < A.n
    · rw [if_pos c1, if_neg (by simp)]
      by_cases c2 : 0 ≤ s ∧ s < σ 0 0
      · rw [if_neg (fun z => z c2), if_pos (fun z => c ⟨⟨by omega, c2⟩, z⟩)]
      · rw [if_pos c2]
    · rw [if_neg c1, if_pos rfl]
theorem o_link (hr : RLx h A κ σ) (a b : Int) (ha : I32 a) (hb : I32 b) : OP h A κ σ h' m (f_X7_link A.x (iI a) (iI b)) (f_X8_link m (iI a) (iI b)) := by
  have hS := s_link (h := h') (m := m) hr.2.2.1.1 a b ha hb
  have hwk := hr.1.1.1.1
  have e18 : ∀ i, κ 18 i = σ 18 i := fun i => hr.e (f := 18) (by omega) (by omega) i
  obtain ⟨n1, n2⟩ := hr.n
  unfold I32 at ha hb
  unfold OP
  rw [hS]
  unfold f_X7_link f_X7_link_50
  simp (disch := omega) only [iL239, cV0, cR0_0, cR0_1, cR0_2, cR0_3, cR0_4, cR0_5, cV1, cR1_1, cR1_2, cR1_3, cR1_4, cR1_5, cR1_6, cR1_7, cI1_0, cI1_8, cP1_8, cI1_9, cP1_9, cV9, cR9_0, cR9_1, cV10, cV11, cV12, cR12_0, cR12_1, cR12_2, cR12_3, cR12_4, cR12_5, cR12_6, cV18, cR18_0, cR18_1, cR18_2, cR18_3, cR18_4, cI18_5, cP18_5, cI18_6, cP18_6, cV22, cR22_0, cR22_1, cI22_2, cP22_2, cI22_3, cP22_3, cI22_4, cP22_4, cV23, cR23_0, cR23_1, cR23_3, cR23_4, cR23_5, cR23_6, cR23_7, cR23_8, cR23_9, cR23_10, cI23_2, cP23_2, cR10_1, cI10_2, cR11_1, cI11_2, cL2, cS2, cL3, cS3, cL4, cS4, cL5, cS5, cL6, cS6, cL7, cS7, cL8, cS8, cL13, cS13, cL14, cS14, cL15, cS15, cL16, cS16, cL17, cS17, cL19, cS19, cL20, cS20, cL21, cS21, cL24, cS24, cL25, cS25, cL26, cS26, cL27, cS27, cL28, cS28, cL29, cS29, cL30, cS30, cL31, cS31, bV, bK, bI0, bI1, bI2, bI3, bI4, bI5, bI6, bI7, bI8, bI9, bI10, bR11, bR12, bR13, bP9, bP10, bL1, bS1, bL2, bS2, bL3, bS3, iI_0, iI_1, iI_neg, iL2, iL3, iL4, iL5, iL6, iL7, iL8, iL9, iL10, iL11, iL12, iL13, iL14, iL15, iL16, iL17, iL30, iL31, iL60, iL99, iL100, iL240, iL480, iL1000, iL1920, iL10000, iI_add, iI_sub, iI_mul, iI_div, iI_le, iI_lt, iI_eq, bd_s, k_at hr.1.1.2.1, rt0, rt1]
  by_cases cb : (0 ≤ a ∧ a < σ 9 0) ∧ (0 ≤ b ∧ b < σ 9 0)
  · have ea : atR A a = some (A.b a.toNat) := by unfold atR; rw [if_pos (by omega)]
    have eb : atR A b = some (A.b b.toNat) := by unfold atR; rw [if_pos (by omega)]
    have r1 := (hwk.bid (b := a.toNat) (by omega)).2.2.2.2.2.2.2.2.1
    have r2 := (hwk.bid (b := b.toNat) (by omega)).2.2.2.2.2.2.2.2.1
    rw [ea, eb, if_neg (by simp), if_neg (by simp)]
    simp (disch := omega) only [iL239, cV0, cR0_0, cR0_1, cR0_2, cR0_3, cR0_4, cR0_5, cV1, cR1_1, cR1_2, cR1_3, cR1_4, cR1_5, cR1_6, cR1_7, cI1_0, cI1_8, cP1_8, cI1_9, cP1_9, cV9, cR9_0, cR9_1, cV10, cV11, cV12, cR12_0, cR12_1, cR12_2, cR12_3, cR12_4, cR12_5, cR12_6, cV18, cR18_0, cR18_1, cR18_2, cR18_3, cR18_4, cI18_5, cP18_5, cI18_6, cP18_6, cV22, cR22_0, cR22_1, cI22_2, cP22_2, cI22_3, cP22_3, cI22_4, cP22_4, cV23, cR23_0, cR23_1, cR23_3, cR23_4, cR23_5, cR23_6, cR23_7, cR23_8, cR23_9, cR23_10, cI23_2, cP23_2, cR10_1, cI10_2, cR11_1, cI11_2, cL2, cS2, cL3, cS3, cL4, cS4, cL5, cS5, cL6, cS6, cL7, cS7, cL8, cS8, cL13, cS13, cL14, cS14, cL15, cS15, cL16, cS16, cL17, cS17, cL19, cS19, cL20, cS20, cL21, cS21, cL24, cS24, cL25, cS25, cL26, cS26, cL27, cS27, cL28, cS28, cL29, cS29, cL30, cS30, cL31, cS31, bV, bK, bI0, bI1, bI2, bI3, bI4, bI5, bI6, bI7, bI8, bI9, bI10, bR11, bR12, bR13, bP9, bP10, bL1, bS1, bL2, bS2, bL3, bS3, iI_0, iI_1, iI_neg, iL2, iL3, iL4, iL5, iL6, iL7, iL8, iL9, iL10, iL11, iL12, iL13, iL14, iL15, iL16, iL17, iL30, iL31, iL60, iL99, iL100, iL240, iL480, iL1000, iL1920, iL10000, iI_add, iI_sub, iI_mul, iI_div, iI_le, iI_lt, iI_eq, bd_s]
    rw [e18 a.toNat, e18 b.toNat]
    by_cases c : a ≠ b ∧ σ 18 a.toNat = -1 ∧ σ 18 b.toNat = -1
    · obtain ⟨c1, c2, c3⟩ := c
      have c0 : (((0 ≤ a ∧ a < σ 9 0) ∧ (0 ≤ b ∧ b < σ 9 0)) ∧ a ≠ b) ∧ σ 18 a.toNat = -1 ∧ σ 18 b.toNat = -1 := ⟨⟨cb, c1⟩, c2, c3⟩
      rw [if_pos c0, if_neg c1, if_pos c2, if_pos c3]
      refine ⟨iI 1, sg (sg κ 18 a.toNat b) 18 b.toNat a, sg (sg σ 18 a.toNat b) 18 b.toNat a, ?_, rfl, rfl⟩
      have hE := (hr.2.1.sg (f := 18) (by omega) a.toNat b).sg (f := 18) (by omega) b.toNat a
      refine hr.mk' hE ((hr.2.2.1.sg (f := 18) _ (by constructor <;> omega) (by omega)).sg (f := 18) _ (by constructor <;> omega) (by omega)) ?_ ⟨hr.2.2.2.2.1.1.of (fun f i hf => by rw [sg_f _ _ _ _ (by omega), sg_f _ _ _ _ (by omega)]), fun d d1 d2 => ⟨by have d1' : σ 9 0 ≤ d := d1; rw [sg_i _ _ _ (by omega), sg_i _ _ _ (by omega)]; exact (hr.2.2.2.2.1.2 d d1 d2).1, (hr.2.2.2.2.1.2 d d1 d2).2.1, (hr.2.2.2.2.1.2 d d1 d2).2.2⟩⟩ (hr.1.2.1.of (fun f i hf => by rw [sg_f _ _ _ _ (by omega), sg_f _ _ _ _ (by omega)])) hr.1.2.2.1 (fun i => rfl) (fun i => rfl) (fun i => rfl) rfl ?_
      · intro c hc
        have hc' : (c : Int) < σ 9 0 := hc
        have hab : a.toNat ≠ b.toNat := by omega
        have v : ∀ i, sg (sg σ 18 a.toNat b) 18 b.toNat a 18 i = if i = b.toNat then a else if i = a.toNat then b else σ 18 i := fun i => by
          by_cases q1 : i = b.toNat
          · rw [q1, sg_eq, if_pos rfl]
          · rw [sg_i _ _ _ q1, if_neg q1]
            by_cases q2 : i = a.toNat
            · rw [q2, sg_eq, if_pos rfl]
            · rw [sg_i _ _ _ q2, if_neg q2]
        have s9 : sg (sg σ 18 a.toNat b) 18 b.toNat a 9 0 = σ 9 0 := rfl
        rw [v, v, s9]
        by_cases q1 : c = b.toNat
        · rw [if_pos q1, if_neg hab, if_pos rfl]
          exact Or.inr (by omega)
        · rw [if_neg q1]
          by_cases q2 : c = a.toNat
          · rw [if_pos q2, if_pos rfl]
            exact Or.inr (by omega)
          · rw [if_neg q2]
            rcases hr.2.2.2.1 c hc' with z | ⟨z1, z2, z3, z4⟩
            · exact Or.inl z
            · refine Or.inr ⟨z1, z2, z3, ?_⟩
              rw [if_neg, if_neg]
              · exact z4
              · intro e
                rw [e, c2] at z4
                omega
              · intro e
                rw [e, c3] at z4
                omega
      · have eR : RUN (sg (sg κ 18 a.toNat b) 18 b.toNat a) = RUN κ := ((EQR.sg (σ := sg κ 18 a.toNat b) (Or.inr rfl) b.toNat a).RUN ((hwk.sg (f := 18) _ (by constructor <;> omega)).sg (f := 18) _ (by constructor <;> omega))).trans ((EQR.sg (σ := κ) (Or.inr rfl) a.toNat b).RUN (hwk.sg (f := 18) _ (by constructor <;> omega)))
        unfold UP
        rw [eR]
        exact hr.2.2.2.2.2
    · have c0 : ¬ ((((0 ≤ a ∧ a < σ 9 0) ∧ (0 ≤ b ∧ b < σ 9 0)) ∧ a ≠ b) ∧ σ 18 a.toNat = -1 ∧ σ 18 b.toNat = -1) := fun z => c ⟨z.1.2, z.2⟩
      rw [if_neg c0]
      refine ⟨iI 0, κ, σ, hr, ?_, rfl⟩
      (repeat' split) <;> first | rfl | (exfalso; apply c; refine ⟨?_, ?_, ?_⟩ <;> assumption) | omega
  · have c0 : ¬ ((((0 ≤ a ∧ a < σ 9 0) ∧ (0 ≤ b ∧ b < σ 9 0)) ∧ a ≠ b) ∧ σ 18 a.toNat = -1 ∧ σ 18 b.toNat = -1) := fun z => cb z.1.1
    rw [if_neg c0]
    refine ⟨iI 0, κ, σ, hr, ?_, rfl⟩
    by_cases c1 : 0 ≤ a ∧ a < σ 9 0
    · have eb : atR A b = none := by unfold atR; rw [if_neg (fun z => cb ⟨c1, by omega⟩)]
      rw [eb]
      by_cases q : atR A a = none
      · rw [if_pos q]
      · rw [if_neg q, if_pos rfl]
    · have ea : atR A a = none := by unfold atR; rw [if_neg (by omega)]
      rw [ea, if_pos rfl]
end
