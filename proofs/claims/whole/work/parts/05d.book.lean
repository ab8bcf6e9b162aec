/-! loops over a state; what is left alone; the book -/
def Ex (l : List Nat) (κ τ : Sg) : Prop := ∀ f i, f ∉ l → τ f i = κ f i
theorem Ex.refl (l : List Nat) (κ : Sg) : Ex l κ κ := fun _ _ _ => rfl
theorem Ex.sg {l : List Nat} {κ τ : Sg} (h : Ex l κ τ) {f : Nat} (hf : f ∈ l) (i : Nat) (v : Int) : Ex l κ (sg τ f i v) := fun f' i' hn => by
  rw [sg_f _ _ _ _ (fun e => hn (by rw [e]; exact hf))]
  exact h f' i' hn
theorem Ex.trans {l : List Nat} {κ τ υ : Sg} (h : Ex l κ τ) (g : Ex l τ υ) : Ex l κ υ := fun f i hn => (g f i hn).trans (h f i hn)
theorem Ex.mono {l l' : List Nat} {κ τ : Sg} (h : Ex l κ τ) (hl : ∀ f, f ∈ l → f ∈ l') : Ex l' κ τ := fun f i hn => h f i (fun z => hn (hl f z))
theorem Ex.cor {l : List Nat} {κ τ : Sg} (h : Ex l κ τ) (hl : ∀ f, f ∈ l → 22 ≤ f) : cor τ = cor κ := by
  funext f i
  unfold _root_.Jvm.Pilot.CFreightPathsLaw_law_r8975_db95ec.cor
  by_cases c : f < 22
  · rw [if_pos c, if_pos c]
    exact h f i (fun z => by have := hl f z; omega)
  · rw [if_neg c, if_neg c]
def KO (h : Hp) (A : CA) (κ : Sg) (ρ : Nat → Nat) : Prop := WB κ ∧ LH h A ρ ∧ κ 9 0 = A.n
theorem KO.ex {h : Hp} {A : CA} {κ τ : Sg} {ρ : Nat → Nat} (hk : KO h A κ ρ) {l : List Nat} (hx : Ex l κ τ) (hl : ∀ f, f ∈ l → 22 ≤ f) : KO h A τ ρ := by
  have e := hx.cor hl
  refine ⟨WB_eq e hk.1, hk.2.1, ?_⟩
  rw [cor_eq e (by omega)]
  exact hk.2.2
theorem KO.n16 {h : Hp} {A : CA} {κ : Sg} {ρ : Nat → Nat} (hk : KO h A κ ρ) : A.n ≤ 16 := hk.2.1.1
theorem exB_succ (P : Nat → Bool) (n : Nat) : exB P (n + 1) = (exB P n || P n) := by
  cases h : exB P (n + 1) with
  | true =>
    obtain ⟨j, h1, h2⟩ := exB_iff.1 h
    by_cases hj : j = n
    · subst hj; simp [h2]
    · have : exB P n = true := exB_iff.2 ⟨j, by omega, h2⟩
      simp [this]
  | false =>
    have h0 : ∀ j, j < n + 1 → P j = false := fun j hj => by
      cases hp : P j with
      | false => rfl
      | true => rw [exB_iff.2 ⟨j, hj, hp⟩] at h; cases h
    have h1 : exB P n = false := by
      cases hq : exB P n with
      | false => rfl
      | true =>
        obtain ⟨j, j1, j2⟩ := exB_iff.1 hq
        rw [h0 j (by omega)] at j2; cases j2
    rw [h1, h0 n (by omega)]; rfl
theorem exB_0 (P : Nat → Bool) : exB P 0 = false := rfl
section
variable {h : Hp} {A : CA} {κ : Sg} {ρ : Nat → Nat}
theorem k_pathsGiven (hk : KO h A κ ρ) : f_X1_pathsGiven (A.x + 9) (CH h A κ) = some (iI (cntG κ), CH h A κ) := by
  obtain ⟨hw, hl, hn⟩ := hk
  have h16 := hl.1
  have hcr := cntI_rng (gvn κ)
  unfold f_X1_pathsGiven f_X1_pathsGiven_4
  rw [iI_0]
  refine (lp_count (B := fun k4 u => fb_X1_pathsGiven_4 k4 u.1 u.2.1 u.2.2.1 u.2.2.2) (fun o => (some (A.x + 9), iI (cntI (gvn κ) o), iI (o : Int), CH h A κ)) A.n (some (iI (cntG κ), CH h A κ)) (fun o ho k => ?_) (fun k => ?_) A.n 0 FU (by omega) (by rw [FU_eq]; omega))
  · have hco := hcr o
    have hg := (hw.1.bid (b := o) (by omega)).2.2.2.2.2.2.2.2.2
    show fb_X1_pathsGiven_4 k (some (A.x + 9)) (iI (cntI (gvn κ) o)) (iI (o : Int)) (CH h A κ) = k (some (A.x + 9), iI (cntI (gvn κ) (o + 1)), iI ((o + 1 : Nat) : Int), CH h A κ)
    unfold fb_X1_pathsGiven_4 f_X1_pathsGiven_38
    simp (disch := omega) only [iL239, cV0, cR0_0, cR0_1, cR0_2, cR0_3, cR0_4, cR0_5, cV1, cR1_1, cR1_2, cR1_3, cR1_4, cR1_5, cR1_6, cR1_7, cI1_0, cI1_8, cP1_8, cI1_9, cP1_9, cV9, cR9_0, cR9_1, cV10, cV11, cV12, cR12_0, cR12_1, cR12_2, cR12_3, cR12_4, cR12_5, cR12_6, cV18, cR18_0, cR18_1, cR18_2, cR18_3, cR18_4, cI18_5, cP18_5, cI18_6, cP18_6, cV22, cR22_0, cR22_1, cI22_2, cP22_2, cI22_3, cP22_3, cI22_4, cP22_4, cV23, cR23_0, cR23_1, cR23_3, cR23_4, cR23_5, cR23_6, cR23_7, cR23_8, cR23_9, cR23_10, cI23_2, cP23_2, cR10_1, cI10_2, cR11_1, cI11_2, cL2, cS2, cL3, cS3, cL4, cS4, cL5, cS5, cL6, cS6, cL7, cS7, cL8, cS8, cL13, cS13, cL14, cS14, cL15, cS15, cL16, cS16, cL17, cS17, cL19, cS19, cL20, cS20, cL21, cS21, cL24, cS24, cL25, cS25, cL26, cS26, cL27, cS27, cL28, cS28, cL29, cS29, cL30, cS30, cL31, cS31, bV, bK, bI0, bI1, bI2, bI3, bI4, bI5, bI6, bI7, bI8, bI9, bI10, bR11, bR12, bR13, bP9, bP10, bL1, bS1, bL2, bS2, bL3, bS3, iI_0, iI_1, iI_neg, iL2, iL3, iL4, iL5, iL6, iL7, iL8, iL9, iL10, iL11, iL12, iL13, iL14, iL15, iL16, iL17, iL30, iL31, iL60, iL99, iL100, iL240, iL480, iL1000, iL1920, iL10000, iI_add, iI_sub, iI_mul, iI_div, iI_le, iI_lt, iI_eq, bd_s, k_lsize, k_get hl, Int.natCast_succ, cntI]
    rw [if_neg (by omega)]
    by_cases c : κ 19 o = 0
    · rw [if_pos c, show gvn κ o = false by simp [gvn, c]]
      simp
    · rw [if_neg c, show gvn κ o = true by simp [gvn, c]]
      simp
  · have hco := hcr A.n
    show fb_X1_pathsGiven_4 k (some (A.x + 9)) (iI (cntI (gvn κ) A.n)) (iI (A.n : Int)) (CH h A κ) = _
    unfold fb_X1_pathsGiven_4 cntG
    simp (disch := omega) only [iL239, cV0, cR0_0, cR0_1, cR0_2, cR0_3, cR0_4, cR0_5, cV1, cR1_1, cR1_2, cR1_3, cR1_4, cR1_5, cR1_6, cR1_7, cI1_0, cI1_8, cP1_8, cI1_9, cP1_9, cV9, cR9_0, cR9_1, cV10, cV11, cV12, cR12_0, cR12_1, cR12_2, cR12_3, cR12_4, cR12_5, cR12_6, cV18, cR18_0, cR18_1, cR18_2, cR18_3, cR18_4, cI18_5, cP18_5, cI18_6, cP18_6, cV22, cR22_0, cR22_1, cI22_2, cP22_2, cI22_3, cP22_3, cI22_4, cP22_4, cV23, cR23_0, cR23_1, cR23_3, cR23_4, cR23_5, cR23_6, cR23_7, cR23_8, cR23_9, cR23_10, cI23_2, cP23_2, cR10_1, cI10_2, cR11_1, cI11_2, cL2, cS2, cL3, cS3, cL4, cS4, cL5, cS5, cL6, cS6, cL7, cS7, cL8, cS8, cL13, cS13, cL14, cS14, cL15, cS15, cL16, cS16, cL17, cS17, cL19, cS19, cL20, cS20, cL21, cS21, cL24, cS24, cL25, cS25, cL26, cS26, cL27, cS27, cL28, cS28, cL29, cS29, cL30, cS30, cL31, cS31, bV, bK, bI0, bI1, bI2, bI3, bI4, bI5, bI6, bI7, bI8, bI9, bI10, bR11, bR12, bR13, bP9, bP10, bL1, bS1, bL2, bS2, bL3, bS3, iI_0, iI_1, iI_neg, iL2, iL3, iL4, iL5, iL6, iL7, iL8, iL9, iL10, iL11, iL12, iL13, iL14, iL15, iL16, iL17, iL30, iL31, iL60, iL99, iL100, iL240, iL480, iL1000, iL1920, iL10000, iI_add, iI_sub, iI_mul, iI_div, iI_le, iI_lt, iI_eq, bd_s, k_lsize]
    rw [if_pos (by omega), hn]
    rfl
theorem k_worthsGiven (hk : KO h A κ ρ) : f_X1_worthsGiven (A.x + 9) (CH h A κ) = some (iI (sumW κ), CH h A κ) := by
  obtain ⟨hw, hl, hn⟩ := hk
  have h16 := hl.1
  unfold f_X1_worthsGiven f_X1_worthsGiven_4
  rw [iI_0]
  refine (lp_count (B := fun k4 u => fb_X1_worthsGiven_4 k4 u.1 u.2.1 u.2.2.1 u.2.2.2) (fun o => (some (A.x + 9), iI (sumI (wrt κ) o), iI (o : Int), CH h A κ)) A.n (some (iI (sumW κ), CH h A κ)) (fun o ho k => ?_) (fun k => ?_) A.n 0 FU (by omega) (by rw [FU_eq]; omega))
  · have hg := hw.1.bid (b := o) (by omega)
    have hsr := sumW_rng hw.1 (n := o) (by omega)
    show fb_X1_worthsGiven_4 k (some (A.x + 9)) (iI (sumI (wrt κ) o)) (iI (o : Int)) (CH h A κ) = k (some (A.x + 9), iI (sumI (wrt κ) (o + 1)), iI ((o + 1 : Nat) : Int), CH h A κ)
    unfold fb_X1_worthsGiven_4 f_X1_worthsGiven_51
    simp (disch := omega) only [iL239, cV0, cR0_0, cR0_1, cR0_2, cR0_3, cR0_4, cR0_5, cV1, cR1_1, cR1_2, cR1_3, cR1_4, cR1_5, cR1_6, cR1_7, cI1_0, cI1_8, cP1_8, cI1_9, cP1_9, cV9, cR9_0, cR9_1, cV10, cV11, cV12, cR12_0, cR12_1, cR12_2, cR12_3, cR12_4, cR12_5, cR12_6, cV18, cR18_0, cR18_1, cR18_2, cR18_3, cR18_4, cI18_5, cP18_5, cI18_6, cP18_6, cV22, cR22_0, cR22_1, cI22_2, cP22_2, cI22_3, cP22_3, cI22_4, cP22_4, cV23, cR23_0, cR23_1, cR23_3, cR23_4, cR23_5, cR23_6, cR23_7, cR23_8, cR23_9, cR23_10, cI23_2, cP23_2, cR10_1, cI10_2, cR11_1, cI11_2, cL2, cS2, cL3, cS3, cL4, cS4, cL5, cS5, cL6, cS6, cL7, cS7, cL8, cS8, cL13, cS13, cL14, cS14, cL15, cS15, cL16, cS16, cL17, cS17, cL19, cS19, cL20, cS20, cL21, cS21, cL24, cS24, cL25, cS25, cL26, cS26, cL27, cS27, cL28, cS28, cL29, cS29, cL30, cS30, cL31, cS31, bV, bK, bI0, bI1, bI2, bI3, bI4, bI5, bI6, bI7, bI8, bI9, bI10, bR11, bR12, bR13, bP9, bP10, bL1, bS1, bL2, bS2, bL3, bS3, iI_0, iI_1, iI_neg, iL2, iL3, iL4, iL5, iL6, iL7, iL8, iL9, iL10, iL11, iL12, iL13, iL14, iL15, iL16, iL17, iL30, iL31, iL60, iL99, iL100, iL240, iL480, iL1000, iL1920, iL10000, iI_add, iI_sub, iI_mul, iI_div, iI_le, iI_lt, iI_eq, bd_s, k_lsize, k_get hl, Int.natCast_succ, sumI]
    rw [if_neg (by omega)]
    by_cases c : κ 19 o = 0
    · rw [if_pos c, show wrt κ o = 0 by simp [wrt, c]]
    · rw [if_neg c, show wrt κ o = κ 16 o by simp [wrt, c]]
  · have hsr := sumW_rng hw.1 (n := A.n) (by omega)
    show fb_X1_worthsGiven_4 k (some (A.x + 9)) (iI (sumI (wrt κ) A.n)) (iI (A.n : Int)) (CH h A κ) = _
    unfold fb_X1_worthsGiven_4 sumW
    simp (disch := omega) only [iL239, cV0, cR0_0, cR0_1, cR0_2, cR0_3, cR0_4, cR0_5, cV1, cR1_1, cR1_2, cR1_3, cR1_4, cR1_5, cR1_6, cR1_7, cI1_0, cI1_8, cP1_8, cI1_9, cP1_9, cV9, cR9_0, cR9_1, cV10, cV11, cV12, cR12_0, cR12_1, cR12_2, cR12_3, cR12_4, cR12_5, cR12_6, cV18, cR18_0, cR18_1, cR18_2, cR18_3, cR18_4, cI18_5, cP18_5, cI18_6, cP18_6, cV22, cR22_0, cR22_1, cI22_2, cP22_2, cI22_3, cP22_3, cI22_4, cP22_4, cV23, cR23_0, cR23_1, cR23_3, cR23_4, cR23_5, cR23_6, cR23_7, cR23_8, cR23_9, cR23_10, cI23_2, cP23_2, cR10_1, cI10_2, cR11_1, cI11_2, cL2, cS2, cL3, cS3, cL4, cS4, cL5, cS5, cL6, cS6, cL7, cS7, cL8, cS8, cL13, cS13, cL14, cS14, cL15, cS15, cL16, cS16, cL17, cS17, cL19, cS19, cL20, cS20, cL21, cS21, cL24, cS24, cL25, cS25, cL26, cS26, cL27, cS27, cL28, cS28, cL29, cS29, cL30, cS30, cL31, cS31, bV, bK, bI0, bI1, bI2, bI3, bI4, bI5, bI6, bI7, bI8, bI9, bI10, bR11, bR12, bR13, bP9, bP10, bL1, bS1, bL2, bS2, bL3, bS3, iI_0, iI_1, iI_neg, iL2, iL3, iL4, iL5, iL6, iL7, iL8, iL9, iL10, iL11, iL12, iL13, iL14, iL15, iL16, iL17, iL30, iL31, iL60, iL99, iL100, iL240, iL480, iL1000, iL1920, iL10000, iI_add, iI_sub, iI_mul, iI_div, iI_le, iI_lt, iI_eq, bd_s, k_lsize]
    rw [if_pos (by omega), hn]
    rfl
theorem k_dropAll (hk : KO h A κ ρ) : ∃ τ, (∀ f i, τ f i = if f = 19 ∧ i < A.n then 0 else κ f i) ∧ f_X1_dropAll (A.x + 9) (CH h A κ) = some ((), CH h A τ) := by
  obtain ⟨hw, hl, hn⟩ := hk
  have h16 := hl.1
  unfold f_X1_dropAll f_X1_dropAll_2
  rw [iI_0]
  obtain ⟨τ, t1, t2⟩ := lp_rel (B := fun k2 u => fb_X1_dropAll_2 k2 u.1 u.2.1 u.2.2) (fun o (τ : Sg) => (some (A.x + 9), iI (o : Int), CH h A τ)) (fun o τ => ∀ f i, τ f i = if f = 19 ∧ i < o then 0 else κ f i) A.n (fun τ => some ((), CH h A τ))
    (fun o τ ho hI => by
      refine ⟨sg τ 19 o 0, fun f i => ?_, fun k => ?_⟩
      · unfold sg
        rw [hI]
        (repeat' split) <;> first | rfl | omega
      · show fb_X1_dropAll_2 k (some (A.x + 9)) (iI (o : Int)) (CH h A τ) = k (some (A.x + 9), iI ((o + 1 : Nat) : Int), CH h A (sg τ 19 o 0))
        unfold fb_X1_dropAll_2
        simp (disch := omega) only [iL239, cV0, cR0_0, cR0_1, cR0_2, cR0_3, cR0_4, cR0_5, cV1, cR1_1, cR1_2, cR1_3, cR1_4, cR1_5, cR1_6, cR1_7, cI1_0, cI1_8, cP1_8, cI1_9, cP1_9, cV9, cR9_0, cR9_1, cV10, cV11, cV12, cR12_0, cR12_1, cR12_2, cR12_3, cR12_4, cR12_5, cR12_6, cV18, cR18_0, cR18_1, cR18_2, cR18_3, cR18_4, cI18_5, cP18_5, cI18_6, cP18_6, cV22, cR22_0, cR22_1, cI22_2, cP22_2, cI22_3, cP22_3, cI22_4, cP22_4, cV23, cR23_0, cR23_1, cR23_3, cR23_4, cR23_5, cR23_6, cR23_7, cR23_8, cR23_9, cR23_10, cI23_2, cP23_2, cR10_1, cI10_2, cR11_1, cI11_2, cL2, cS2, cL3, cS3, cL4, cS4, cL5, cS5, cL6, cS6, cL7, cS7, cL8, cS8, cL13, cS13, cL14, cS14, cL15, cS15, cL16, cS16, cL17, cS17, cL19, cS19, cL20, cS20, cL21, cS21, cL24, cS24, cL25, cS25, cL26, cS26, cL27, cS27, cL28, cS28, cL29, cS29, cL30, cS30, cL31, cS31, bV, bK, bI0, bI1, bI2, bI3, bI4, bI5, bI6, bI7, bI8, bI9, bI10, bR11, bR12, bR13, bP9, bP10, bL1, bS1, bL2, bS2, bL3, bS3, iI_0, iI_1, iI_neg, iL2, iL3, iL4, iL5, iL6, iL7, iL8, iL9, iL10, iL11, iL12, iL13, iL14, iL15, iL16, iL17, iL30, iL31, iL60, iL99, iL100, iL240, iL480, iL1000, iL1920, iL10000, iI_add, iI_sub, iI_mul, iI_div, iI_le, iI_lt, iI_eq, bd_s, k_lsize, k_get hl, Int.natCast_succ]
        rw [if_neg (by omega)])
    (fun τ k hI => by
      show fb_X1_dropAll_2 k (some (A.x + 9)) (iI (A.n : Int)) (CH h A τ) = _
      unfold fb_X1_dropAll_2
      simp (disch := omega) only [iL239, cV0, cR0_0, cR0_1, cR0_2, cR0_3, cR0_4, cR0_5, cV1, cR1_1, cR1_2, cR1_3, cR1_4, cR1_5, cR1_6, cR1_7, cI1_0, cI1_8, cP1_8, cI1_9, cP1_9, cV9, cR9_0, cR9_1, cV10, cV11, cV12, cR12_0, cR12_1, cR12_2, cR12_3, cR12_4, cR12_5, cR12_6, cV18, cR18_0, cR18_1, cR18_2, cR18_3, cR18_4, cI18_5, cP18_5, cI18_6, cP18_6, cV22, cR22_0, cR22_1, cI22_2, cP22_2, cI22_3, cP22_3, cI22_4, cP22_4, cV23, cR23_0, cR23_1, cR23_3, cR23_4, cR23_5, cR23_6, cR23_7, cR23_8, cR23_9, cR23_10, cI23_2, cP23_2, cR10_1, cI10_2, cR11_1, cI11_2, cL2, cS2, cL3, cS3, cL4, cS4, cL5, cS5, cL6, cS6, cL7, cS7, cL8, cS8, cL13, cS13, cL14, cS14, cL15, cS15, cL16, cS16, cL17, cS17, cL19, cS19, cL20, cS20, cL21, cS21, cL24, cS24, cL25, cS25, cL26, cS26, cL27, cS27, cL28, cS28, cL29, cS29, cL30, cS30, cL31, cS31, bV, bK, bI0, bI1, bI2, bI3, bI4, bI5, bI6, bI7, bI8, bI9, bI10, bR11, bR12, bR13, bP9, bP10, bL1, bS1, bL2, bS2, bL3, bS3, iI_0, iI_1, iI_neg, iL2, iL3, iL4, iL5, iL6, iL7, iL8, iL9, iL10, iL11, iL12, iL13, iL14, iL15, iL16, iL17, iL30, iL31, iL60, iL99, iL100, iL240, iL480, iL1000, iL1920, iL10000, iI_add, iI_sub, iI_mul, iI_div, iI_le, iI_lt, iI_eq, bd_s, k_lsize]
      rw [if_pos (by omega)]
      rfl) A.n 0 FU κ (by omega) (by rw [FU_eq]; omega) (fun f i => by rw [if_neg (by omega)])
  exact ⟨τ, t1, t2⟩
end
