/-! the run, minute by minute -/
section
variable {h : Hp} {A : CA} {κ σ : Sg} {ρ' : Nat → Nat}
theorem k_wants (hk : KI h A κ ρ') {τ ρ : Sg} {t : Int} (ht : 0 ≤ t ∧ t ≤ 479) (hI : CI A.n κ τ ρ t) {b : Nat} (hb : b < A.n) : f_X6_wantsToLeave (A.x + 23) (some (A.b b)) (iI t) (CH h A τ) = some (iI (b2 (κ 19 b ≠ 0 ∧ ρ 26 b < lgs κ b ∧ ρ 27 b ≤ t ∧ lv κ b (ρ 26 b) ≤ t)), CH h A τ) := by
  obtain ⟨i1, i2, i3, i4, i5⟩ := hI
  have h16 := hk.1.n16
  have hn := hk.1.2.2
  have hw := hk.1.1.1
  have hwt := (hk.1.ex i1 (by decide)).1.1
  obtain ⟨r26, r27, -, -⟩ := i2 b (by omega)
  have hlg := lgs_rng hw (b := b) (by omega)
  have elg : lgs τ b = lgs κ b := by unfold lgs; rw [i1 11 _ (by decide), i1 12 _ (by decide)]
  have e19 := i1 19 b (by decide)
  have h19 := (hw.bid (b := b) (by omega)).2.2.2.2.2.2.2.2.2
  obtain ⟨c56, c57, -⟩ := i3 b hb
  have elv : ∀ i, lv τ b i = lv κ b i := fun i => i1 20 _ (by decide)
  unfold f_X6_wantsToLeave f_X6_wantsToLeave_52 f_X6_wantsToLeave_53
  simp (disch := omega) only [iL239, cV0, cR0_0, cR0_1, cR0_2, cR0_3, cR0_4, cR0_5, cV1, cR1_1, cR1_2, cR1_3, cR1_4, cR1_5, cR1_6, cR1_7, cI1_0, cI1_8, cP1_8, cI1_9, cP1_9, cV9, cR9_0, cR9_1, cV10, cV11, cV12, cR12_0, cR12_1, cR12_2, cR12_3, cR12_4, cR12_5, cR12_6, cV18, cR18_0, cR18_1, cR18_2, cR18_3, cR18_4, cI18_5, cP18_5, cI18_6, cP18_6, cV22, cR22_0, cR22_1, cI22_2, cP22_2, cI22_3, cP22_3, cI22_4, cP22_4, cV23, cR23_0, cR23_1, cR23_3, cR23_4, cR23_5, cR23_6, cR23_7, cR23_8, cR23_9, cR23_10, cI23_2, cP23_2, cR10_1, cI10_2, cR11_1, cI11_2, cL2, cS2, cL3, cS3, cL4, cS4, cL5, cS5, cL6, cS6, cL7, cS7, cL8, cS8, cL13, cS13, cL14, cS14, cL15, cS15, cL16, cS16, cL17, cS17, cL19, cS19, cL20, cS20, cL21, cS21, cL24, cS24, cL25, cS25, cL26, cS26, cL27, cS27, cL28, cS28, cL29, cS29, cL30, cS30, cL31, cS31, bV, bK, bI0, bI1, bI2, bI3, bI4, bI5, bI6, bI7, bI8, bI9, bI10, bR11, bR12, bR13, bP9, bP10, bL1, bS1, bL2, bS2, bL3, bS3, iI_0, iI_1, iI_neg, iL2, iL3, iL4, iL5, iL6, iL7, iL8, iL9, iL10, iL11, iL12, iL13, iL14, iL15, iL16, iL17, iL30, iL31, iL60, iL99, iL100, iL240, iL480, iL1000, iL1920, iL10000, iI_add, iI_sub, iI_mul, iI_div, iI_le, iI_lt, iI_eq, bd_s, Int.toNat_natCast, c56, c57, e19, k_steps hwt, elg, elv, rt0, rt1]
  by_cases c1 : κ 19 b = 0
  · rw [if_pos c1, b2_f (fun z => z.1 c1)]
  · rw [if_neg c1]
    by_cases c2 : lgs κ b ≤ ρ 26 b
    · rw [if_pos c2, b2_f (by omega)]
    · rw [if_neg c2]
      have hlv := lv_rng hw (b := b) (i := ρ 26 b) (by omega) r26.1 (by omega)
      by_cases c3 : t < ρ 27 b
      · rw [if_pos c3, b2_f (by omega)]
      · rw [if_neg c3, jlt (by omega) (by omega) (by omega) (by omega)]
        by_cases c4 : t < lv κ b (ρ 26 b)
        · rw [if_pos c4, b2_f (by omega)]
        · rw [if_neg c4, b2_t ⟨c1, by omega, by omega, by omega⟩]
theorem k_leave (hk : KI h A κ ρ') {τ ρ : Sg} {t : Int} (ht : 0 ≤ t ∧ t ≤ 479) (hI : CI A.n κ τ ρ t) {b : Nat} (hb : b < A.n) (hg : κ 19 b ≠ 0) (h26 : ρ 26 b < lgs κ b) (h27 : ρ 27 b ≤ t) (hlv : lv κ b (ρ 26 b) ≤ t) :
    ∃ τ', CI A.n κ τ' (rstep κ ρ b t) t ∧ f_X6_leaveOrPutDown (A.x + 23) (some (A.b b)) (iI t) (CH h A τ) = some ((), CH h A τ') := by
  have hI0 := hI
  obtain ⟨i1, i2, i3, i4, i5⟩ := hI
  have h16 := hk.1.n16
  have hn := hk.1.2.2
  have hw := hk.1.1.1
  have hwt := (hk.1.ex i1 (by decide)).1.1
  obtain ⟨r26, r27, -, -⟩ := i2 b (by omega)
  have hlg := lgs_rng hw (b := b) (by omega)
  have hsr := sec_rng hw (b := b) (by omega) r26.1 h26
  have es : sec τ b (ρ 26 b) = sec κ b (ρ 26 b) := by unfold sec; rw [i1 11 _ (by decide), i1 12 _ (by decide)]
  obtain ⟨c56, c57, -⟩ := i3 b hb
  have e1 := i1 1 (sec κ b (ρ 26 b)).toNat (by decide)
  have h1 := hw.2.2.2.2.1 (sec κ b (ρ 26 b)).toNat
  have e11 := i1 11 b (by decide)
  have e12 := i1 12 b (by decide)
  unfold f_X6_leaveOrPutDown f_X6_leaveOrPutDown_45
  simp (disch := omega) only [iL239, cV0, cR0_0, cR0_1, cR0_2, cR0_3, cR0_4, cR0_5, cV1, cR1_1, cR1_2, cR1_3, cR1_4, cR1_5, cR1_6, cR1_7, cI1_0, cI1_8, cP1_8, cI1_9, cP1_9, cV9, cR9_0, cR9_1, cV10, cV11, cV12, cR12_0, cR12_1, cR12_2, cR12_3, cR12_4, cR12_5, cR12_6, cV18, cR18_0, cR18_1, cR18_2, cR18_3, cR18_4, cI18_5, cP18_5, cI18_6, cP18_6, cV22, cR22_0, cR22_1, cI22_2, cP22_2, cI22_3, cP22_3, cI22_4, cP22_4, cV23, cR23_0, cR23_1, cR23_3, cR23_4, cR23_5, cR23_6, cR23_7, cR23_8, cR23_9, cR23_10, cI23_2, cP23_2, cR10_1, cI10_2, cR11_1, cI11_2, cL2, cS2, cL3, cS3, cL4, cS4, cL5, cS5, cL6, cS6, cL7, cS7, cL8, cS8, cL13, cS13, cL14, cS14, cL15, cS15, cL16, cS16, cL17, cS17, cL19, cS19, cL20, cS20, cL21, cS21, cL24, cS24, cL25, cS25, cL26, cS26, cL27, cS27, cL28, cS28, cL29, cS29, cL30, cS30, cL31, cS31, bV, bK, bI0, bI1, bI2, bI3, bI4, bI5, bI6, bI7, bI8, bI9, bI10, bR11, bR12, bR13, bP9, bP10, bL1, bS1, bL2, bS2, bL3, bS3, iI_0, iI_1, iI_neg, iL2, iL3, iL4, iL5, iL6, iL7, iL8, iL9, iL10, iL11, iL12, iL13, iL14, iL15, iL16, iL17, iL30, iL31, iL60, iL99, iL100, iL240, iL480, iL1000, iL1920, iL10000, iI_add, iI_sub, iI_mul, iI_div, iI_le, iI_lt, iI_eq, bd_s, Int.toNat_natCast, c56, k_sectionAt hwt, k_way hwt, es, e1, e11, e12]
  by_cases c1 : κ 1 (sec κ b (ρ 26 b)).toNat = 0
  · rw [if_pos c1]
    exact k_46 hk ht hI0 hb hg h26 h27 hlv rfl (Or.inl rfl) (by unfold slt; rw [if_pos (Or.inl c1)]; omega)
  · rw [if_neg c1]
    by_cases c2 : κ 11 b < κ 12 b
    · rw [if_pos c2, if_pos (by decide)]
      exact k_46 hk ht hI0 hb hg h26 h27 hlv rfl (Or.inl rfl) (by unfold slt; rw [if_pos (Or.inr c2)]; omega)
    · rw [if_neg c2, if_neg (by decide)]
      exact k_46 hk ht hI0 hb hg h26 h27 hlv rfl (Or.inr rfl) (by unfold slt; rw [if_neg (by omega)]; omega)
theorem CI_skip (hw : WF κ) {n : Nat} (hn : (n : Int) = κ 9 0) {τ ρ : Sg} {t : Int} (ht : 0 ≤ t ∧ t ≤ 479) (hI : CI n κ τ ρ t) {b : Nat} (hb : b < n) (hno : ¬ (ρ 26 b < lgs κ b ∧ ρ 27 b ≤ t ∧ lv κ b (ρ 26 b) ≤ t)) : CI n κ τ (rstep κ ρ b t) t := by
  have hrw := rstep_RW hw hI.2.1 b (by omega) t ht
  obtain ⟨i1, i2, i3, i4, i5⟩ := hI
  have r26 := (i2 b (by omega)).1
  have e : rstep κ ρ b t = ρ ∨ rstep κ ρ b t = sg ρ 28 b (ρ 27 b) := by
    unfold rstep
    by_cases c1 : ρ 27 b ≤ t
    · rw [if_pos c1]
      by_cases c2 : ρ 26 b = lgs κ b
      · rw [if_pos c2]
        split
        · exact Or.inr rfl
        · exact Or.inl rfl
      · rw [if_neg c2, if_neg (fun z => hno ⟨by omega, c1, z⟩)]
        exact Or.inl rfl
    · rw [if_neg c1]
      exact Or.inl rfl
  rcases e with e | e
  · rw [e]; exact ⟨i1, i2, i3, i4, i5⟩
  · rw [e] at hrw ⊢
    exact ⟨i1, hrw, i3, i4, i5⟩
theorem k_reset (hk : KI h A κ ρ') : ∃ τ, CI A.n κ τ (rho0 κ) 0 ∧ f_X6_reset (A.x + 23) (CH h A κ) = some ((), CH h A τ) := by
  have h16 := hk.1.n16
  have hn := hk.1.2.2
  have hw := hk.1.1.1
  have hl := hk.1.2.1
  unfold f_X6_reset f_X6_reset_2
  rw [iI_0]
  obtain ⟨τ1, t1, t2⟩ := lp_rel (B := fun k2 u => fb_X6_reset_2 k2 u.1 u.2.1 u.2.2) (fun o (τ : Sg) => (some (A.x + 23), iI (o : Int), CH h A τ)) (fun o τ => Ex LR κ τ ∧ ∀ i, i < o → τ 62 i = -1 ∧ τ 63 i = -1) 16 (fun τ => f_X6_reset_33 (some (A.x + 23)) (iI 0) (CH h A τ))
    (fun o τ ho hI => by
      refine ⟨sg (sg τ 62 o (-1)) 63 o (-1), ⟨(hI.1.sg (by decide) _ _).sg (by decide) _ _, fun i hi => ?_⟩, fun k => ?_⟩
      · by_cases q : i = o
        · subst q; simp [sg]
        · have := hI.2 i (by omega)
          simp [sg, q, this.1, this.2]
      · show fb_X6_reset_2 k (some (A.x + 23)) (iI (o : Int)) (CH h A τ) = _
        unfold fb_X6_reset_2
        simp (disch := omega) only [iL239, cV0, cR0_0, cR0_1, cR0_2, cR0_3, cR0_4, cR0_5, cV1, cR1_1, cR1_2, cR1_3, cR1_4, cR1_5, cR1_6, cR1_7, cI1_0, cI1_8, cP1_8, cI1_9, cP1_9, cV9, cR9_0, cR9_1, cV10, cV11, cV12, cR12_0, cR12_1, cR12_2, cR12_3, cR12_4, cR12_5, cR12_6, cV18, cR18_0, cR18_1, cR18_2, cR18_3, cR18_4, cI18_5, cP18_5, cI18_6, cP18_6, cV22, cR22_0, cR22_1, cI22_2, cP22_2, cI22_3, cP22_3, cI22_4, cP22_4, cV23, cR23_0, cR23_1, cR23_3, cR23_4, cR23_5, cR23_6, cR23_7, cR23_8, cR23_9, cR23_10, cI23_2, cP23_2, cR10_1, cI10_2, cR11_1, cI11_2, cL2, cS2, cL3, cS3, cL4, cS4, cL5, cS5, cL6, cS6, cL7, cS7, cL8, cS8, cL13, cS13, cL14, cS14, cL15, cS15, cL16, cS16, cL17, cS17, cL19, cS19, cL20, cS20, cL21, cS21, cL24, cS24, cL25, cS25, cL26, cS26, cL27, cS27, cL28, cS28, cL29, cS29, cL30, cS30, cL31, cS31, bV, bK, bI0, bI1, bI2, bI3, bI4, bI5, bI6, bI7, bI8, bI9, bI10, bR11, bR12, bR13, bP9, bP10, bL1, bS1, bL2, bS2, bL3, bS3, iI_0, iI_1, iI_neg, iL2, iL3, iL4, iL5, iL6, iL7, iL8, iL9, iL10, iL11, iL12, iL13, iL14, iL15, iL16, iL17, iL30, iL31, iL60, iL99, iL100, iL240, iL480, iL1000, iL1920, iL10000, iI_add, iI_sub, iI_mul, iI_div, iI_le, iI_lt, iI_eq, bd_s, cA30, Int.toNat_natCast, Int.natCast_succ]
        rw [if_neg (by omega)])
    (fun τ k hI => by
      show fb_X6_reset_2 k (some (A.x + 23)) (iI ((16 : Nat) : Int)) (CH h A τ) = _
      unfold fb_X6_reset_2
      simp (disch := omega) only [iL239, cV0, cR0_0, cR0_1, cR0_2, cR0_3, cR0_4, cR0_5, cV1, cR1_1, cR1_2, cR1_3, cR1_4, cR1_5, cR1_6, cR1_7, cI1_0, cI1_8, cP1_8, cI1_9, cP1_9, cV9, cR9_0, cR9_1, cV10, cV11, cV12, cR12_0, cR12_1, cR12_2, cR12_3, cR12_4, cR12_5, cR12_6, cV18, cR18_0, cR18_1, cR18_2, cR18_3, cR18_4, cI18_5, cP18_5, cI18_6, cP18_6, cV22, cR22_0, cR22_1, cI22_2, cP22_2, cI22_3, cP22_3, cI22_4, cP22_4, cV23, cR23_0, cR23_1, cR23_3, cR23_4, cR23_5, cR23_6, cR23_7, cR23_8, cR23_9, cR23_10, cI23_2, cP23_2, cR10_1, cI10_2, cR11_1, cI11_2, cL2, cS2, cL3, cS3, cL4, cS4, cL5, cS5, cL6, cS6, cL7, cS7, cL8, cS8, cL13, cS13, cL14, cS14, cL15, cS15, cL16, cS16, cL17, cS17, cL19, cS19, cL20, cS20, cL21, cS21, cL24, cS24, cL25, cS25, cL26, cS26, cL27, cS27, cL28, cS28, cL29, cS29, cL30, cS30, cL31, cS31, bV, bK, bI0, bI1, bI2, bI3, bI4, bI5, bI6, bI7, bI8, bI9, bI10, bR11, bR12, bR13, bP9, bP10, bL1, bS1, bL2, bS2, bL3, bS3, iI_0, iI_1, iI_neg, iL2, iL3, iL4, iL5, iL6, iL7, iL8, iL9, iL10, iL11, iL12, iL13, iL14, iL15, iL16, iL17, iL30, iL31, iL60, iL99, iL100, iL240, iL480, iL1000, iL1920, iL10000, iI_add, iI_sub, iI_mul, iI_div, iI_le, iI_lt, iI_eq, bd_s, cA30]
      rw [if_pos (by omega)]) 16 0 FU κ (by omega) (by rw [FU_eq]; omega) ⟨Ex.refl _ _, fun i hi => by omega⟩
  have t2' : lp (fun k2 u => fb_X6_reset_2 k2 u.1 u.2.1 u.2.2) FU (some (A.x + 23), iI 0, CH h A κ) = f_X6_reset_33 (some (A.x + 23)) (iI 0) (CH h A τ1) := t2
  rw [t2']
  unfold f_X6_reset_33
  obtain ⟨τ2, u1, u2⟩ := lp_rel (B := fun k2 u => fb_X6_reset_33 k2 u.1 u.2.1 u.2.2) (fun o (τ : Sg) => (some (A.x + 23), iI (o : Int), CH h A τ)) (fun o τ => Ex [61] τ1 τ ∧ ∀ i, i < o → τ 61 i = 0) 256 (fun τ => f_X6_reset_57 (some (A.x + 23)) (iI 0) (CH h A τ))
    (fun o τ ho hI => by
      refine ⟨sg τ 61 o 0, ⟨hI.1.sg (by decide) _ _, fun i hi => ?_⟩, fun k => ?_⟩
      · by_cases q : i = o
        · subst q; simp [sg]
        · have := hI.2 i (by omega)
          simp [sg, q, this]
      · show fb_X6_reset_33 k (some (A.x + 23)) (iI (o : Int)) (CH h A τ) = _
        unfold fb_X6_reset_33
        simp (disch := omega) only [iL239, cV0, cR0_0, cR0_1, cR0_2, cR0_3, cR0_4, cR0_5, cV1, cR1_1, cR1_2, cR1_3, cR1_4, cR1_5, cR1_6, cR1_7, cI1_0, cI1_8, cP1_8, cI1_9, cP1_9, cV9, cR9_0, cR9_1, cV10, cV11, cV12, cR12_0, cR12_1, cR12_2, cR12_3, cR12_4, cR12_5, cR12_6, cV18, cR18_0, cR18_1, cR18_2, cR18_3, cR18_4, cI18_5, cP18_5, cI18_6, cP18_6, cV22, cR22_0, cR22_1, cI22_2, cP22_2, cI22_3, cP22_3, cI22_4, cP22_4, cV23, cR23_0, cR23_1, cR23_3, cR23_4, cR23_5, cR23_6, cR23_7, cR23_8, cR23_9, cR23_10, cI23_2, cP23_2, cR10_1, cI10_2, cR11_1, cI11_2, cL2, cS2, cL3, cS3, cL4, cS4, cL5, cS5, cL6, cS6, cL7, cS7, cL8, cS8, cL13, cS13, cL14, cS14, cL15, cS15, cL16, cS16, cL17, cS17, cL19, cS19, cL20, cS20, cL21, cS21, cL24, cS24, cL25, cS25, cL26, cS26, cL27, cS27, cL28, cS28, cL29, cS29, cL30, cS30, cL31, cS31, bV, bK, bI0, bI1, bI2, bI3, bI4, bI5, bI6, bI7, bI8, bI9, bI10, bR11, bR12, bR13, bP9, bP10, bL1, bS1, bL2, bS2, bL3, bS3, iI_0, iI_1, iI_neg, iL2, iL3, iL4, iL5, iL6, iL7, iL8, iL9, iL10, iL11, iL12, iL13, iL14, iL15, iL16, iL17, iL30, iL31, iL60, iL99, iL100, iL240, iL480, iL1000, iL1920, iL10000, iI_add, iI_sub, iI_mul, iI_div, iI_le, iI_lt, iI_eq, bd_s, cA29, Int.toNat_natCast, Int.natCast_succ]
        rw [if_neg (by omega)])
    (fun τ k hI => by
      show fb_X6_reset_33 k (some (A.x + 23)) (iI ((256 : Nat) : Int)) (CH h A τ) = _
      unfold fb_X6_reset_33
      simp (disch := omega) only [iL239, cV0, cR0_0, cR0_1, cR0_2, cR0_3, cR0_4, cR0_5, cV1, cR1_1, cR1_2, cR1_3, cR1_4, cR1_5, cR1_6, cR1_7, cI1_0, cI1_8, cP1_8, cI1_9, cP1_9, cV9, cR9_0, cR9_1, cV10, cV11, cV12, cR12_0, cR12_1, cR12_2, cR12_3, cR12_4, cR12_5, cR12_6, cV18, cR18_0, cR18_1, cR18_2, cR18_3, cR18_4, cI18_5, cP18_5, cI18_6, cP18_6, cV22, cR22_0, cR22_1, cI22_2, cP22_2, cI22_3, cP22_3, cI22_4, cP22_4, cV23, cR23_0, cR23_1, cR23_3, cR23_4, cR23_5, cR23_6, cR23_7, cR23_8, cR23_9, cR23_10, cI23_2, cP23_2, cR10_1, cI10_2, cR11_1, cI11_2, cL2, cS2, cL3, cS3, cL4, cS4, cL5, cS5, cL6, cS6, cL7, cS7, cL8, cS8, cL13, cS13, cL14, cS14, cL15, cS15, cL16, cS16, cL17, cS17, cL19, cS19, cL20, cS20, cL21, cS21, cL24, cS24, cL25, cS25, cL26, cS26, cL27, cS27, cL28, cS28, cL29, cS29, cL30, cS30, cL31, cS31, bV, bK, bI0, bI1, bI2, bI3, bI4, bI5, bI6, bI7, bI8, bI9, bI10, bR11, bR12, bR13, bP9, bP10, bL1, bS1, bL2, bS2, bL3, bS3, iI_0, iI_1, iI_neg, iL2, iL3, iL4, iL5, iL6, iL7, iL8, iL9, iL10, iL11, iL12, iL13, iL14, iL15, iL16, iL17, iL30, iL31, iL60, iL99, iL100, iL240, iL480, iL1000, iL1920, iL10000, iI_add, iI_sub, iI_mul, iI_div, iI_le, iI_lt, iI_eq, bd_s, cA29]
      rw [if_pos (by omega)]) 256 0 FU τ1 (by omega) (by rw [FU_eq]; omega) ⟨Ex.refl _ _, fun i hi => by omega⟩
  have u2' : lp (fun k2 u => fb_X6_reset_33 k2 u.1 u.2.1 u.2.2) FU (some (A.x + 23), iI 0, CH h A τ1) = f_X6_reset_57 (some (A.x + 23)) (iI 0) (CH h A τ2) := u2
  rw [u2']
  unfold f_X6_reset_57
  have x2 : Ex LR κ τ2 := t1.1.trans (u1.1.mono (by decide))
  obtain ⟨τ3, v1, v2⟩ := lp_rel (B := fun k2 u => fb_X6_reset_57 k2 u.1 u.2.1 u.2.2) (fun o (τ : Sg) => (some (A.x + 23), iI (o : Int), CH h A τ)) (fun o τ => Ex [56, 57, 58, 59, 60] τ2 τ ∧ ∀ i, i < o → τ 56 i = 0 ∧ τ 57 i = 0 ∧ τ 58 i = dl κ i (κ 11 i) ∧ τ 59 i = 0 ∧ τ 60 i = 0) A.n (fun τ => some ((), CH h A τ))
    (fun o τ ho hI => by
      have xx : Ex LR κ τ := x2.trans (hI.1.mono (by decide))
      have e11 := xx 11 o (by decide)
      have h11 := (hw.bid (b := o) (by omega)).2.1
      refine ⟨sg (sg (sg (sg (sg τ 56 o 0) 57 o 0) 58 o (dl κ o (κ 11 o))) 59 o 0) 60 o 0, ⟨((((hI.1.sg (by decide) _ _).sg (by decide) _ _).sg (by decide) _ _).sg (by decide) _ _).sg (by decide) _ _, fun i hi => ?_⟩, fun k => ?_⟩
      · by_cases q : i = o
        · subst q; simp [sg]
        · have := hI.2 i (by omega)
          simp [sg, q, this.1, this.2.1, this.2.2.1, this.2.2.2.1, this.2.2.2.2]
      · show fb_X6_reset_57 k (some (A.x + 23)) (iI (o : Int)) (CH h A τ) = _
        have s11 : ∀ (v1 v2 : Int), sg (sg τ 56 o v1) 57 o v2 11 o = κ 11 o := fun v1 v2 => by rw [sg_f _ _ _ _ (by decide), sg_f _ _ _ _ (by decide), e11]
        have sdl : ∀ (v1 v2 i : Int), dl (sg (sg τ 56 o v1) 57 o v2) o i = dl κ o i := fun v1 v2 i => by
          unfold dl
          rw [sg_f _ _ _ _ (by decide), sg_f _ _ _ _ (by decide), xx 21 _ (by decide)]
        unfold fb_X6_reset_57
        simp (disch := omega) only [iL239, cV0, cR0_0, cR0_1, cR0_2, cR0_3, cR0_4, cR0_5, cV1, cR1_1, cR1_2, cR1_3, cR1_4, cR1_5, cR1_6, cR1_7, cI1_0, cI1_8, cP1_8, cI1_9, cP1_9, cV9, cR9_0, cR9_1, cV10, cV11, cV12, cR12_0, cR12_1, cR12_2, cR12_3, cR12_4, cR12_5, cR12_6, cV18, cR18_0, cR18_1, cR18_2, cR18_3, cR18_4, cI18_5, cP18_5, cI18_6, cP18_6, cV22, cR22_0, cR22_1, cI22_2, cP22_2, cI22_3, cP22_3, cI22_4, cP22_4, cV23, cR23_0, cR23_1, cR23_3, cR23_4, cR23_5, cR23_6, cR23_7, cR23_8, cR23_9, cR23_10, cI23_2, cP23_2, cR10_1, cI10_2, cR11_1, cI11_2, cL2, cS2, cL3, cS3, cL4, cS4, cL5, cS5, cL6, cS6, cL7, cS7, cL8, cS8, cL13, cS13, cL14, cS14, cL15, cS15, cL16, cS16, cL17, cS17, cL19, cS19, cL20, cS20, cL21, cS21, cL24, cS24, cL25, cS25, cL26, cS26, cL27, cS27, cL28, cS28, cL29, cS29, cL30, cS30, cL31, cS31, bV, bK, bI0, bI1, bI2, bI3, bI4, bI5, bI6, bI7, bI8, bI9, bI10, bR11, bR12, bR13, bP9, bP10, bL1, bS1, bL2, bS2, bL3, bS3, iI_0, iI_1, iI_neg, iL2, iL3, iL4, iL5, iL6, iL7, iL8, iL9, iL10, iL11, iL12, iL13, iL14, iL15, iL16, iL17, iL30, iL31, iL60, iL99, iL100, iL240, iL480, iL1000, iL1920, iL10000, iI_add, iI_sub, iI_mul, iI_div, iI_le, iI_lt, iI_eq, bd_s, k_size, k_get hl, Int.toNat_natCast, s11, sdl, Int.natCast_succ]
        rw [if_neg (by omega)])
    (fun τ k hI => by
      show fb_X6_reset_57 k (some (A.x + 23)) (iI (A.n : Int)) (CH h A τ) = _
      unfold fb_X6_reset_57
      simp (disch := omega) only [iL239, cV0, cR0_0, cR0_1, cR0_2, cR0_3, cR0_4, cR0_5, cV1, cR1_1, cR1_2, cR1_3, cR1_4, cR1_5, cR1_6, cR1_7, cI1_0, cI1_8, cP1_8, cI1_9, cP1_9, cV9, cR9_0, cR9_1, cV10, cV11, cV12, cR12_0, cR12_1, cR12_2, cR12_3, cR12_4, cR12_5, cR12_6, cV18, cR18_0, cR18_1, cR18_2, cR18_3, cR18_4, cI18_5, cP18_5, cI18_6, cP18_6, cV22, cR22_0, cR22_1, cI22_2, cP22_2, cI22_3, cP22_3, cI22_4, cP22_4, cV23, cR23_0, cR23_1, cR23_3, cR23_4, cR23_5, cR23_6, cR23_7, cR23_8, cR23_9, cR23_10, cI23_2, cP23_2, cR10_1, cI10_2, cR11_1, cI11_2, cL2, cS2, cL3, cS3, cL4, cS4, cL5, cS5, cL6, cS6, cL7, cS7, cL8, cS8, cL13, cS13, cL14, cS14, cL15, cS15, cL16, cS16, cL17, cS17, cL19, cS19, cL20, cS20, cL21, cS21, cL24, cS24, cL25, cS25, cL26, cS26, cL27, cS27, cL28, cS28, cL29, cS29, cL30, cS30, cL31, cS31, bV, bK, bI0, bI1, bI2, bI3, bI4, bI5, bI6, bI7, bI8, bI9, bI10, bR11, bR12, bR13, bP9, bP10, bL1, bS1, bL2, bS2, bL3, bS3, iI_0, iI_1, iI_neg, iL2, iL3, iL4, iL5, iL6, iL7, iL8, iL9, iL10, iL11, iL12, iL13, iL14, iL15, iL16, iL17, iL30, iL31, iL60, iL99, iL100, iL240, iL480, iL1000, iL1920, iL10000, iI_add, iI_sub, iI_mul, iI_div, iI_le, iI_lt, iI_eq, bd_s, k_size]
      rw [if_pos (by omega)]
      rfl) A.n 0 FU τ2 (by omega) (by rw [FU_eq]; omega) ⟨Ex.refl _ _, fun i hi => by omega⟩
  refine ⟨τ3, ⟨x2.trans (v1.1.mono (by decide)), rho0_ok hw, fun b hb => ?_, fun b hb => ?_, fun s q s0 s1 hq => ?_⟩, v2⟩
  · obtain ⟨a1, a2, a3, a4, a5⟩ := v1.2 b hb
    refine ⟨a1, a2, a4, a5, fun o ho => ?_⟩
    rw [v1.1 61 _ (by decide), u1.2 _ (by omega)]
    rfl
  · obtain ⟨a1, a2, a3, a4, a5⟩ := v1.2 b hb
    have e0 : rho0 κ 26 b = 0 := rfl
    have hst : stn κ b 0 = κ 11 b := by unfold stn; split <;> omega
    unfold CIb
    rw [e0, hst]
    refine ⟨a3, fun i z1 z2 => rfl, fun i z1 z2 => ⟨fun z => by omega, fun z => rfl⟩⟩
  · refine Or.inl ⟨?_, ?_, fun o ho z1 z2 => ?_⟩
    · rw [v1.1 62 _ (by decide), u1.1 62 _ (by decide)]; exact (t1.2 _ (by omega)).1
    · rw [v1.1 63 _ (by decide), u1.1 63 _ (by decide)]; exact (t1.2 _ (by omega)).2
    · have e0 : rho0 κ 26 o = 0 := rfl
      have := z2.2.2
      have := (legO_some z2.2.1).1
      omega
theorem k_minute (hk : KI h A κ ρ') (hρ : ∀ k, k < A.n → ρ' k < A.n) {ρ : Sg} {t : Nat} (ht : t ≤ 479) {τ : Sg} (hI : CI A.n κ τ ρ t) : ∃ τ', CI A.n κ τ' (rmin κ ρ ρ' t A.n) t ∧ ∀ k14, f_X6_bringUpToDate_23 k14 (some (A.x + 23)) (iI (t : Int)) (iI 0) (CH h A τ) = k14 (some (A.x + 23), iI ((t : Int) + 1), CH h A τ') := by
  have h16 := hk.1.n16
  have hn := hk.1.2.2
  have hl := hk.1.2.1
  have key : ∀ d k (υ : Sg), k + d = A.n → CI A.n κ υ (rmin κ ρ ρ' t k) t → ∃ τ', CI A.n κ τ' (rmin κ ρ ρ' t A.n) t ∧ ∀ k14 (N : Nat), d < N → lp (fun k23 u => fb_X6_bringUpToDate_23 k14 k23 u.1 u.2.1 u.2.2.1 u.2.2.2) N (some (A.x + 23), iI (t : Int), iI (k : Int), CH h A υ) = k14 (some (A.x + 23), iI ((t : Int) + 1), CH h A τ') := by
    intro d
    induction d with
    | zero =>
      intro k υ hkd hC
      have e : k = A.n := by omega
      subst e
      refine ⟨υ, hC, fun k14 N hN => ?_⟩
      obtain ⟨N, rfl⟩ : ∃ m, N = m + 1 := ⟨N - 1, by omega⟩
      rw [lp_succ]
      generalize lp _ N = kk
      show fb_X6_bringUpToDate_23 k14 kk (some (A.x + 23)) (iI (t : Int)) (iI (A.n : Int)) (CH h A υ) = _
      unfold fb_X6_bringUpToDate_23
      simp (disch := omega) only [iL239, cV0, cR0_0, cR0_1, cR0_2, cR0_3, cR0_4, cR0_5, cV1, cR1_1, cR1_2, cR1_3, cR1_4, cR1_5, cR1_6, cR1_7, cI1_0, cI1_8, cP1_8, cI1_9, cP1_9, cV9, cR9_0, cR9_1, cV10, cV11, cV12, cR12_0, cR12_1, cR12_2, cR12_3, cR12_4, cR12_5, cR12_6, cV18, cR18_0, cR18_1, cR18_2, cR18_3, cR18_4, cI18_5, cP18_5, cI18_6, cP18_6, cV22, cR22_0, cR22_1, cI22_2, cP22_2, cI22_3, cP22_3, cI22_4, cP22_4, cV23, cR23_0, cR23_1, cR23_3, cR23_4, cR23_5, cR23_6, cR23_7, cR23_8, cR23_9, cR23_10, cI23_2, cP23_2, cR10_1, cI10_2, cR11_1, cI11_2, cL2, cS2, cL3, cS3, cL4, cS4, cL5, cS5, cL6, cS6, cL7, cS7, cL8, cS8, cL13, cS13, cL14, cS14, cL15, cS15, cL16, cS16, cL17, cS17, cL19, cS19, cL20, cS20, cL21, cS21, cL24, cS24, cL25, cS25, cL26, cS26, cL27, cS27, cL28, cS28, cL29, cS29, cL30, cS30, cL31, cS31, bV, bK, bI0, bI1, bI2, bI3, bI4, bI5, bI6, bI7, bI8, bI9, bI10, bR11, bR12, bR13, bP9, bP10, bL1, bS1, bL2, bS2, bL3, bS3, iI_0, iI_1, iI_neg, iL2, iL3, iL4, iL5, iL6, iL7, iL8, iL9, iL10, iL11, iL12, iL13, iL14, iL15, iL16, iL17, iL30, iL31, iL60, iL99, iL100, iL240, iL480, iL1000, iL1920, iL10000, iI_add, iI_sub, iI_mul, iI_div, iI_le, iI_lt, iI_eq, bd_s, k_rsize]
      rw [if_pos (by omega)]
    | succ d ih =>
      intro k υ hkd hC
      have hb := hρ k (by omega)
      have hwn := k_wants hk (show 0 ≤ (t : Int) ∧ (t : Int) ≤ 479 by omega) hC hb
      have eq : rmin κ ρ ρ' t (k + 1) = if κ 19 (ρ' k) = 0 then rmin κ ρ ρ' t k else rstep κ (rmin κ ρ ρ' t k) (ρ' k) t := rfl
      by_cases c : κ 19 (ρ' k) ≠ 0 ∧ rmin κ ρ ρ' t k 26 (ρ' k) < lgs κ (ρ' k) ∧ rmin κ ρ ρ' t k 27 (ρ' k) ≤ t ∧ lv κ (ρ' k) (rmin κ ρ ρ' t k 26 (ρ' k)) ≤ t
      · obtain ⟨c1, c2, c3, c4⟩ := c
        obtain ⟨υ2, w1, w2⟩ := k_leave hk (show 0 ≤ (t : Int) ∧ (t : Int) ≤ 479 by omega) hC hb c1 c2 c3 c4
        obtain ⟨τ', y1, y2⟩ := ih (k + 1) υ2 (by omega) (by rw [eq, if_neg c1]; exact w1)
        refine ⟨τ', y1, fun k14 N hN => ?_⟩
        obtain ⟨N, rfl⟩ : ∃ m, N = m + 1 := ⟨N - 1, by omega⟩
        have y3 := y2 k14 N (by omega)
        rw [b2_t ⟨c1, c2, c3, c4⟩] at hwn
        rw [lp_succ]
        generalize lp _ N = kk at y3 ⊢
        show fb_X6_bringUpToDate_23 k14 kk (some (A.x + 23)) (iI (t : Int)) (iI (k : Int)) (CH h A υ) = _
        unfold fb_X6_bringUpToDate_23 f_X6_bringUpToDate_67
        simp (disch := omega) only [iL239, cV0, cR0_0, cR0_1, cR0_2, cR0_3, cR0_4, cR0_5, cV1, cR1_1, cR1_2, cR1_3, cR1_4, cR1_5, cR1_6, cR1_7, cI1_0, cI1_8, cP1_8, cI1_9, cP1_9, cV9, cR9_0, cR9_1, cV10, cV11, cV12, cR12_0, cR12_1, cR12_2, cR12_3, cR12_4, cR12_5, cR12_6, cV18, cR18_0, cR18_1, cR18_2, cR18_3, cR18_4, cI18_5, cP18_5, cI18_6, cP18_6, cV22, cR22_0, cR22_1, cI22_2, cP22_2, cI22_3, cP22_3, cI22_4, cP22_4, cV23, cR23_0, cR23_1, cR23_3, cR23_4, cR23_5, cR23_6, cR23_7, cR23_8, cR23_9, cR23_10, cI23_2, cP23_2, cR10_1, cI10_2, cR11_1, cI11_2, cL2, cS2, cL3, cS3, cL4, cS4, cL5, cS5, cL6, cS6, cL7, cS7, cL8, cS8, cL13, cS13, cL14, cS14, cL15, cS15, cL16, cS16, cL17, cS17, cL19, cS19, cL20, cS20, cL21, cS21, cL24, cS24, cL25, cS25, cL26, cS26, cL27, cS27, cL28, cS28, cL29, cS29, cL30, cS30, cL31, cS31, bV, bK, bI0, bI1, bI2, bI3, bI4, bI5, bI6, bI7, bI8, bI9, bI10, bR11, bR12, bR13, bP9, bP10, bL1, bS1, bL2, bS2, bL3, bS3, iI_0, iI_1, iI_neg, iL2, iL3, iL4, iL5, iL6, iL7, iL8, iL9, iL10, iL11, iL12, iL13, iL14, iL15, iL16, iL17, iL30, iL31, iL60, iL99, iL100, iL240, iL480, iL1000, iL1920, iL10000, iI_add, iI_sub, iI_mul, iI_div, iI_le, iI_lt, iI_eq, bd_s, k_rsize, k_getR hl, hwn, w2]
        rw [if_neg (by omega), if_neg (by omega)]
        rw [Int.natCast_succ] at y3
        exact y3
      · have hC2 : CI A.n κ υ (rmin κ ρ ρ' t (k + 1)) t := by
          rw [eq]
          by_cases c1 : κ 19 (ρ' k) = 0
          · rw [if_pos c1]; exact hC
          · rw [if_neg c1]
            exact CI_skip hk.1.1.1 hn.symm (by omega) hC hb (fun z => c ⟨c1, z⟩)
        obtain ⟨τ', y1, y2⟩ := ih (k + 1) υ (by omega) hC2
        refine ⟨τ', y1, fun k14 N hN => ?_⟩
        obtain ⟨N, rfl⟩ : ∃ m, N = m + 1 := ⟨N - 1, by omega⟩
        have y3 := y2 k14 N (by omega)
        rw [b2_f c] at hwn
        rw [lp_succ]
        generalize lp _ N = kk at y3 ⊢
        show fb_X6_bringUpToDate_23 k14 kk (some (A.x + 23)) (iI (t : Int)) (iI (k : Int)) (CH h A υ) = _
        unfold fb_X6_bringUpToDate_23 f_X6_bringUpToDate_67
        simp (disch := omega) only [iL239, cV0, cR0_0, cR0_1, cR0_2, cR0_3, cR0_4, cR0_5, cV1, cR1_1, cR1_2, cR1_3, cR1_4, cR1_5, cR1_6, cR1_7, cI1_0, cI1_8, cP1_8, cI1_9, cP1_9, cV9, cR9_0, cR9_1, cV10, cV11, cV12, cR12_0, cR12_1, cR12_2, cR12_3, cR12_4, cR12_5, cR12_6, cV18, cR18_0, cR18_1, cR18_2, cR18_3, cR18_4, cI18_5, cP18_5, cI18_6, cP18_6, cV22, cR22_0, cR22_1, cI22_2, cP22_2, cI22_3, cP22_3, cI22_4, cP22_4, cV23, cR23_0, cR23_1, cR23_3, cR23_4, cR23_5, cR23_6, cR23_7, cR23_8, cR23_9, cR23_10, cI23_2, cP23_2, cR10_1, cI10_2, cR11_1, cI11_2, cL2, cS2, cL3, cS3, cL4, cS4, cL5, cS5, cL6, cS6, cL7, cS7, cL8, cS8, cL13, cS13, cL14, cS14, cL15, cS15, cL16, cS16, cL17, cS17, cL19, cS19, cL20, cS20, cL21, cS21, cL24, cS24, cL25, cS25, cL26, cS26, cL27, cS27, cL28, cS28, cL29, cS29, cL30, cS30, cL31, cS31, bV, bK, bI0, bI1, bI2, bI3, bI4, bI5, bI6, bI7, bI8, bI9, bI10, bR11, bR12, bR13, bP9, bP10, bL1, bS1, bL2, bS2, bL3, bS3, iI_0, iI_1, iI_neg, iL2, iL3, iL4, iL5, iL6, iL7, iL8, iL9, iL10, iL11, iL12, iL13, iL14, iL15, iL16, iL17, iL30, iL31, iL60, iL99, iL100, iL240, iL480, iL1000, iL1920, iL10000, iI_add, iI_sub, iI_mul, iI_div, iI_le, iI_lt, iI_eq, bd_s, k_rsize, k_getR hl, hwn]
        rw [if_neg (by omega), if_pos trivial]
        rw [Int.natCast_succ] at y3
        exact y3
  obtain ⟨τ', y1, y2⟩ := key A.n 0 τ (by omega) hI
  exact ⟨τ', y1, fun k14 => y2 k14 FU (by rw [FU_eq]; omega)⟩
theorem k_runAll (hk : KI h A κ ρ') (hρ : ∀ k, k < A.n → ρ' k < A.n) (h55 : κ 55 0 = 0) : ∃ τ, CI A.n κ τ (rrun κ ρ' A.n 480) 480 ∧ f_X6_bringUpToDate (A.x + 23) (CH h A κ) = some ((), CH h A (sg τ 55 0 1)) := by
  obtain ⟨τ0, t1, t2⟩ := k_reset hk
  unfold f_X6_bringUpToDate f_X6_bringUpToDate_14
  simp (disch := omega) only [iL239, cV0, cR0_0, cR0_1, cR0_2, cR0_3, cR0_4, cR0_5, cV1, cR1_1, cR1_2, cR1_3, cR1_4, cR1_5, cR1_6, cR1_7, cI1_0, cI1_8, cP1_8, cI1_9, cP1_9, cV9, cR9_0, cR9_1, cV10, cV11, cV12, cR12_0, cR12_1, cR12_2, cR12_3, cR12_4, cR12_5, cR12_6, cV18, cR18_0, cR18_1, cR18_2, cR18_3, cR18_4, cI18_5, cP18_5, cI18_6, cP18_6, cV22, cR22_0, cR22_1, cI22_2, cP22_2, cI22_3, cP22_3, cI22_4, cP22_4, cV23, cR23_0, cR23_1, cR23_3, cR23_4, cR23_5, cR23_6, cR23_7, cR23_8, cR23_9, cR23_10, cI23_2, cP23_2, cR10_1, cI10_2, cR11_1, cI11_2, cL2, cS2, cL3, cS3, cL4, cS4, cL5, cS5, cL6, cS6, cL7, cS7, cL8, cS8, cL13, cS13, cL14, cS14, cL15, cS15, cL16, cS16, cL17, cS17, cL19, cS19, cL20, cS20, cL21, cS21, cL24, cS24, cL25, cS25, cL26, cS26, cL27, cS27, cL28, cS28, cL29, cS29, cL30, cS30, cL31, cS31, bV, bK, bI0, bI1, bI2, bI3, bI4, bI5, bI6, bI7, bI8, bI9, bI10, bR11, bR12, bR13, bP9, bP10, bL1, bS1, bL2, bS2, bL3, bS3, h55, t2, bd_s]
  rw [iI_0, if_pos rfl]
  obtain ⟨τ, u1, u2⟩ := lp_rel (B := fun k14 u => fb_X6_bringUpToDate_14 k14 u.1 u.2.1 u.2.2) (fun (t : Nat) (τ : Sg) => (some (A.x + 23), iI (t : Int), CH h A τ)) (fun t τ => CI A.n κ τ (rrun κ ρ' A.n t) t) 480 (fun τ => some ((), CH h A (sg τ 55 0 1)))
    (fun t τ ht hI => by
      obtain ⟨τ', y1, y2⟩ := k_minute hk hρ (t := t) (by omega) hI
      refine ⟨τ', CI_mono y1 (by omega), fun k => ?_⟩
      show fb_X6_bringUpToDate_14 k (some (A.x + 23)) (iI (t : Int)) (CH h A τ) = _
      unfold fb_X6_bringUpToDate_14
      simp (disch := omega) only [iI_0, iI_1, iI_neg, iL2, iL3, iL4, iL5, iL6, iL7, iL8, iL9, iL10, iL11, iL12, iL13, iL14, iL15, iL16, iL17, iL30, iL31, iL60, iL99, iL100, iL240, iL480, iL1000, iL1920, iL10000, iI_add, iI_sub, iI_mul, iI_div, iI_le, iI_lt, iI_eq, bd_s]
      rw [if_neg (by omega), y2, Int.natCast_succ])
    (fun τ k hI => by
      show fb_X6_bringUpToDate_14 k (some (A.x + 23)) (iI ((480 : Nat) : Int)) (CH h A τ) = _
      unfold fb_X6_bringUpToDate_14
      simp (disch := omega) only [iL239, cV0, cR0_0, cR0_1, cR0_2, cR0_3, cR0_4, cR0_5, cV1, cR1_1, cR1_2, cR1_3, cR1_4, cR1_5, cR1_6, cR1_7, cI1_0, cI1_8, cP1_8, cI1_9, cP1_9, cV9, cR9_0, cR9_1, cV10, cV11, cV12, cR12_0, cR12_1, cR12_2, cR12_3, cR12_4, cR12_5, cR12_6, cV18, cR18_0, cR18_1, cR18_2, cR18_3, cR18_4, cI18_5, cP18_5, cI18_6, cP18_6, cV22, cR22_0, cR22_1, cI22_2, cP22_2, cI22_3, cP22_3, cI22_4, cP22_4, cV23, cR23_0, cR23_1, cR23_3, cR23_4, cR23_5, cR23_6, cR23_7, cR23_8, cR23_9, cR23_10, cI23_2, cP23_2, cR10_1, cI10_2, cR11_1, cI11_2, cL2, cS2, cL3, cS3, cL4, cS4, cL5, cS5, cL6, cS6, cL7, cS7, cL8, cS8, cL13, cS13, cL14, cS14, cL15, cS15, cL16, cS16, cL17, cS17, cL19, cS19, cL20, cS20, cL21, cS21, cL24, cS24, cL25, cS25, cL26, cS26, cL27, cS27, cL28, cS28, cL29, cS29, cL30, cS30, cL31, cS31, bV, bK, bI0, bI1, bI2, bI3, bI4, bI5, bI6, bI7, bI8, bI9, bI10, bR11, bR12, bR13, bP9, bP10, bL1, bS1, bL2, bS2, bL3, bS3, iI_0, iI_1, iI_neg, iL2, iL3, iL4, iL5, iL6, iL7, iL8, iL9, iL10, iL11, iL12, iL13, iL14, iL15, iL16, iL17, iL30, iL31, iL60, iL99, iL100, iL240, iL480, iL1000, iL1920, iL10000, iI_add, iI_sub, iI_mul, iI_div, iI_le, iI_lt, iI_eq, bd_s]
      rw [if_pos (by omega)]
      rfl) 480 0 FU τ0 (by omega) (by rw [FU_eq]; omega) t1
  exact ⟨τ, u1, u2⟩
end
