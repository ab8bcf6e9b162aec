/-! a bid comes with its partner; a round -/
def LSy (σ : Sg) : Prop := ∀ b : Nat, (b : Int) < σ 9 0 → σ 18 b = -1 ∨ (0 ≤ σ 18 b ∧ σ 18 b < σ 9 0 ∧ σ 18 b ≠ b ∧ σ 18 (σ 18 b).toNat = b)
theorem LSy.lk {σ : Sg} (h : LSy σ) : LK σ := fun b hb => by
  rcases h b hb with h | h
  · exact Or.inl h
  · exact Or.inr ⟨h.1, h.2.1⟩
def lostS (σ : Sg) (b : Nat) : Int := match fnd σ b with
  | none => if σ 18 b = -1 then σ 16 b else σ 16 b + σ 16 (σ 18 b).toNat
  | some e => if σ 18 b = -1 then 0 else match fnd (giv σ b e) (σ 18 b).toNat with
    | some _ => 0
    | none => σ 16 b + σ 16 (σ 18 b).toNat
abbrev LC : List Nat := [19, 20, 41, 42, 43, 44, 45, 46, 47]
theorem EQ.ex {κ τ : Sg} {l : List Nat} (hx : Ex l κ τ) (hl : ∀ f, f ∈ l → 22 ≤ f) : EQ τ κ := EQ.of_cor (hx.cor hl)
section
variable {h : Hp} {A : CA} {κ : Sg} {ρ : Nat → Nat}
theorem KI.ex (hk : KI h A κ ρ) {τ : Sg} {l : List Nat} (hx : Ex l κ τ) (hl : ∀ f, f ∈ l → 46 < f) : KI h A τ ρ := by
  have hcor := hx.cor (fun f hf => by have := hl f hf; omega)
  refine ⟨hk.1.ex hx (fun f hf => by have := hl f hf; omega), ?_, ?_, fun j => ?_⟩
  · intro o j h1 h2 h3 h4
    rw [cor_eq hcor (f := 9) (by omega)] at h1
    rw [cor_eq hcor (f := 19) (by omega)] at h2
    have e1 : ∀ σ : Sg, lgs σ o = lgs (cor σ) o := fun _ => rfl
    have e2 : ∀ σ : Sg, cmT σ o j = cmT (cor σ) o j := fun _ => rfl
    rw [e1 τ, hcor, ← e1 κ] at h4
    rw [e2 τ, hcor, ← e2 κ]
    exact (hx 41 _ (fun z => by have := hl 41 z; omega)).trans (hk.2.1 o j h1 h2 h3 h4)
  · intro w hw
    rw [cor_eq hcor (f := 5) (by omega)] at hw
    rw [cor_eq hcor (f := 7) (by omega), cor_eq hcor (f := 8) (by omega)]
    exact hk.2.2.1 w hw
  · rw [hx 45 _ (fun z => by have := hl 45 z; omega)]
    exact hk.2.2.2 j
theorem KI.drop (hk : KI h A κ ρ) (b : Nat) : KI h A (sg κ 19 b 0) ρ := by
  refine ⟨⟨WB_19 hk.1.1 b, hk.1.2.1, hk.1.2.2⟩, ?_, hk.2.2.1, hk.2.2.2⟩
  intro o j h1 h2 h3 h4
  have : κ 19 o ≠ 0 := by
    intro z
    apply h2
    unfold sg
    split
    · rfl
    · exact z
  exact hk.2.1 o j h1 this h3 h4
theorem k_come (hk : KI h A κ ρ) (hls : LSy κ) {b : Nat} (hb : b < A.n) (hg : κ 19 b = 0) : ∃ τ, KI h A τ ρ ∧ EQ τ (comeS κ b) ∧ Ex LC κ τ ∧ (∀ i : Nat, τ 47 i = if i = b ∨ (i : Int) = κ 18 b then 1 else κ 47 i) ∧ f_X5_comeWithPartner (A.x + 18) (some (A.b b)) (CH h A κ) = some (iI (lostS κ b), CH h A τ) := by
  have h16 := hk.1.n16
  have hl := hk.1.2.1
  have hn := hk.1.2.2
  have h18 := (hk.1.1.1.bid (b := b) (by omega)).2.2.2.2.2.2.2.2.1
  have hlb := hls b (by omega)
  -- b is marked
  have x1 : Ex [47] κ (sg κ 47 b 1) := (Ex.refl _ _).sg (by decide) _ _
  have hk1 := hk.ex x1 (by decide)
  have c1 := x1.cor (by decide)
  obtain ⟨υ, u1, u2, u3, u4⟩ := hk1.find hb
  rw [fnd_eq c1] at u3 u4
  have xu : Ex LC κ υ := (x1.mono (by decide)).trans (u1.mono (by decide))
  have cu : cor υ = cor κ := by rw [u1.cor (by decide), c1]
  have e47 : ∀ i, υ 47 i = if i = b then 1 else κ 47 i := fun i => by
    rw [u1 47 _ (by decide)]
    by_cases q : i = b
    · subst q; rw [sg_eq, if_pos rfl]
    · rw [sg_i _ _ _ q, if_neg q]
  have ew : ∀ {τ : Sg}, Ex LC κ τ → ∀ c, τ 16 c = κ 16 c := fun hx c => hx 16 c (by decide)
  unfold f_X5_comeWithPartner
  simp (disch := omega) only [iL239, cV0, cR0_0, cR0_1, cR0_2, cR0_3, cR0_4, cR0_5, cV1, cR1_1, cR1_2, cR1_3, cR1_4, cR1_5, cR1_6, cR1_7, cI1_0, cI1_8, cP1_8, cI1_9, cP1_9, cV9, cR9_0, cR9_1, cV10, cV11, cV12, cR12_0, cR12_1, cR12_2, cR12_3, cR12_4, cR12_5, cR12_6, cV18, cR18_0, cR18_1, cR18_2, cR18_3, cR18_4, cI18_5, cP18_5, cI18_6, cP18_6, cV22, cR22_0, cR22_1, cI22_2, cP22_2, cI22_3, cP22_3, cI22_4, cP22_4, cV23, cR23_0, cR23_1, cR23_3, cR23_4, cR23_5, cR23_6, cR23_7, cR23_8, cR23_9, cR23_10, cI23_2, cP23_2, cR10_1, cI10_2, cR11_1, cI11_2, cL2, cS2, cL3, cS3, cL4, cS4, cL5, cS5, cL6, cS6, cL7, cS7, cL8, cS8, cL13, cS13, cL14, cS14, cL15, cS15, cL16, cS16, cL17, cS17, cL19, cS19, cL20, cS20, cL21, cS21, cL24, cS24, cL25, cS25, cL26, cS26, cL27, cS27, cL28, cS28, cL29, cS29, cL30, cS30, cL31, cS31, bV, bK, bI0, bI1, bI2, bI3, bI4, bI5, bI6, bI7, bI8, bI9, bI10, bR11, bR12, bR13, bP9, bP10, bL1, bS1, bL2, bS2, bL3, bS3, k_at hl, bd_s, Int.toNat_natCast]
  rw [iI_m1, iI_1, cS19 (by omega) (by omega) _ _ (by omega)]
  simp (disch := omega) only [iL239, cV0, cR0_0, cR0_1, cR0_2, cR0_3, cR0_4, cR0_5, cV1, cR1_1, cR1_2, cR1_3, cR1_4, cR1_5, cR1_6, cR1_7, cI1_0, cI1_8, cP1_8, cI1_9, cP1_9, cV9, cR9_0, cR9_1, cV10, cV11, cV12, cR12_0, cR12_1, cR12_2, cR12_3, cR12_4, cR12_5, cR12_6, cV18, cR18_0, cR18_1, cR18_2, cR18_3, cR18_4, cI18_5, cP18_5, cI18_6, cP18_6, cV22, cR22_0, cR22_1, cI22_2, cP22_2, cI22_3, cP22_3, cI22_4, cP22_4, cV23, cR23_0, cR23_1, cR23_3, cR23_4, cR23_5, cR23_6, cR23_7, cR23_8, cR23_9, cR23_10, cI23_2, cP23_2, cR10_1, cI10_2, cR11_1, cI11_2, cL2, cS2, cL3, cS3, cL4, cS4, cL5, cS5, cL6, cS6, cL7, cS7, cL8, cS8, cL13, cS13, cL14, cS14, cL15, cS15, cL16, cS16, cL17, cS17, cL19, cS19, cL20, cS20, cL21, cS21, cL24, cS24, cL25, cS25, cL26, cS26, cL27, cS27, cL28, cS28, cL29, cS29, cL30, cS30, cL31, cS31, bV, bK, bI0, bI1, bI2, bI3, bI4, bI5, bI6, bI7, bI8, bI9, bI10, bR11, bR12, bR13, bP9, bP10, bL1, bS1, bL2, bS2, bL3, bS3, u4, bd_s, Int.toNat_natCast]
  cases hf : fnd κ b with
  | none =>
    rw [hf] at u4
    simp only [if_true]
    unfold f_X5_comeWithPartner_39 f_X5_comeWithPartner_62 f_X5_comeWithPartner_78 f_X5_comeWithPartner_125
    simp only [if_true]
    by_cases cp : κ 18 b = -1
    · refine ⟨υ, u2, ?_, xu, fun i => ?_, ?_⟩
      · unfold comeS; rw [hf]; exact EQ.of_cor cu
      · rw [e47]; congr 1; exact propext (by omega)
      · rw [show atR A (κ 18 b) = none by unfold atR; rw [if_neg (by omega)]]
        simp (disch := omega) only [iL239, cV0, cR0_0, cR0_1, cR0_2, cR0_3, cR0_4, cR0_5, cV1, cR1_1, cR1_2, cR1_3, cR1_4, cR1_5, cR1_6, cR1_7, cI1_0, cI1_8, cP1_8, cI1_9, cP1_9, cV9, cR9_0, cR9_1, cV10, cV11, cV12, cR12_0, cR12_1, cR12_2, cR12_3, cR12_4, cR12_5, cR12_6, cV18, cR18_0, cR18_1, cR18_2, cR18_3, cR18_4, cI18_5, cP18_5, cI18_6, cP18_6, cV22, cR22_0, cR22_1, cI22_2, cP22_2, cI22_3, cP22_3, cI22_4, cP22_4, cV23, cR23_0, cR23_1, cR23_3, cR23_4, cR23_5, cR23_6, cR23_7, cR23_8, cR23_9, cR23_10, cI23_2, cP23_2, cR10_1, cI10_2, cR11_1, cI11_2, cL2, cS2, cL3, cS3, cL4, cS4, cL5, cS5, cL6, cS6, cL7, cS7, cL8, cS8, cL13, cS13, cL14, cS14, cL15, cS15, cL16, cS16, cL17, cS17, cL19, cS19, cL20, cS20, cL21, cS21, cL24, cS24, cL25, cS25, cL26, cS26, cL27, cS27, cL28, cS28, cL29, cS29, cL30, cS30, cL31, cS31, bV, bK, bI0, bI1, bI2, bI3, bI4, bI5, bI6, bI7, bI8, bI9, bI10, bR11, bR12, bR13, bP9, bP10, bL1, bS1, bL2, bS2, bL3, bS3, if_true, ew xu]
        unfold lostS
        rw [hf]
        simp only [cp, if_true]
        rfl
    · obtain ⟨p1, p2, p3, p4⟩ : 0 ≤ κ 18 b ∧ κ 18 b < κ 9 0 ∧ κ 18 b ≠ b ∧ κ 18 (κ 18 b).toNat = b := by
        rcases hlb with q | q
        · exact absurd q cp
        · exact q
      have eat : atR A (κ 18 b) = some (A.b (κ 18 b).toNat) := by unfold atR; rw [if_pos (by omega)]
      have x2 : Ex [47] υ (sg υ 47 (κ 18 b).toNat 1) := (Ex.refl _ _).sg (by decide) _ _
      have xx : Ex LC κ (sg (sg υ 47 (κ 18 b).toNat 1) 19 b 0) := (xu.trans (x2.mono (by decide))).sg (by decide) _ _
      refine ⟨sg (sg υ 47 (κ 18 b).toNat 1) 19 b 0, (u2.ex x2 (by decide)).drop b, ?_, xx, fun i => ?_, ?_⟩
      · unfold comeS
        rw [hf]
        have e1 : EQ (sg υ 47 (κ 18 b).toNat 1) κ := EQ.of_cor (by rw [x2.cor (by decide), cu])
        have e2 := e1.sg19 b
        have e3 : sg κ 19 b 0 = κ := by
          funext f i
          unfold sg
          split
          · rename_i z; rw [z.1, z.2, hg]
          · rfl
        rw [e3] at e2
        exact e2
      · rw [sg_f _ _ _ _ (by decide)]
        by_cases q : i = (κ 18 b).toNat
        · subst q; rw [sg_eq, if_pos (by omega)]
        · rw [sg_i _ _ _ q, e47]; congr 1; exact propext (by omega)
      · rw [eat, if_neg (by simp)]
        simp (disch := omega) only [iL239, cV0, cR0_0, cR0_1, cR0_2, cR0_3, cR0_4, cR0_5, cV1, cR1_1, cR1_2, cR1_3, cR1_4, cR1_5, cR1_6, cR1_7, cI1_0, cI1_8, cP1_8, cI1_9, cP1_9, cV9, cR9_0, cR9_1, cV10, cV11, cV12, cR12_0, cR12_1, cR12_2, cR12_3, cR12_4, cR12_5, cR12_6, cV18, cR18_0, cR18_1, cR18_2, cR18_3, cR18_4, cI18_5, cP18_5, cI18_6, cP18_6, cV22, cR22_0, cR22_1, cI22_2, cP22_2, cI22_3, cP22_3, cI22_4, cP22_4, cV23, cR23_0, cR23_1, cR23_3, cR23_4, cR23_5, cR23_6, cR23_7, cR23_8, cR23_9, cR23_10, cI23_2, cP23_2, cR10_1, cI10_2, cR11_1, cI11_2, cL2, cS2, cL3, cS3, cL4, cS4, cL5, cS5, cL6, cS6, cL7, cS7, cL8, cS8, cL13, cS13, cL14, cS14, cL15, cS15, cL16, cS16, cL17, cS17, cL19, cS19, cL20, cS20, cL21, cS21, cL24, cS24, cL25, cS25, cL26, cS26, cL27, cS27, cL28, cS28, cL29, cS29, cL30, cS30, cL31, cS31, bV, bK, bI0, bI1, bI2, bI3, bI4, bI5, bI6, bI7, bI8, bI9, bI10, bR11, bR12, bR13, bP9, bP10, bL1, bS1, bL2, bS2, bL3, bS3, if_true, Int.toNat_natCast]
        rw [iI_1, cS19 (by omega) (by omega) _ _ (by omega)]
        rw [iI_0, bP10 (by omega) _ _ (by omega)]
        simp (disch := omega) only [iL239, cV0, cR0_0, cR0_1, cR0_2, cR0_3, cR0_4, cR0_5, cV1, cR1_1, cR1_2, cR1_3, cR1_4, cR1_5, cR1_6, cR1_7, cI1_0, cI1_8, cP1_8, cI1_9, cP1_9, cV9, cR9_0, cR9_1, cV10, cV11, cV12, cR12_0, cR12_1, cR12_2, cR12_3, cR12_4, cR12_5, cR12_6, cV18, cR18_0, cR18_1, cR18_2, cR18_3, cR18_4, cI18_5, cP18_5, cI18_6, cP18_6, cV22, cR22_0, cR22_1, cI22_2, cP22_2, cI22_3, cP22_3, cI22_4, cP22_4, cV23, cR23_0, cR23_1, cR23_3, cR23_4, cR23_5, cR23_6, cR23_7, cR23_8, cR23_9, cR23_10, cI23_2, cP23_2, cR10_1, cI10_2, cR11_1, cI11_2, cL2, cS2, cL3, cS3, cL4, cS4, cL5, cS5, cL6, cS6, cL7, cS7, cL8, cS8, cL13, cS13, cL14, cS14, cL15, cS15, cL16, cS16, cL17, cS17, cL19, cS19, cL20, cS20, cL21, cS21, cL24, cS24, cL25, cS25, cL26, cS26, cL27, cS27, cL28, cS28, cL29, cS29, cL30, cS30, cL31, cS31, bV, bK, bI0, bI1, bI2, bI3, bI4, bI5, bI6, bI7, bI8, bI9, bI10, bR11, bR12, bR13, bP9, bP10, bL1, bS1, bL2, bS2, bL3, bS3, Int.toNat_natCast, ew xx, iI_add]
        unfold lostS
        rw [hf]
        simp only [cp, if_false]
        rfl
  | some e =>
    rw [hf] at u4
    have hfe := fnd_ok hk.1.1.1 (b := b) (by omega) hf
    have hd := u3 e hf
    have hd1 : FD (sg κ 47 b 1) υ b e := hd
    obtain ⟨t1, t2⟩ := hk1.take u2 u1 hb (by rw [fnd_eq c1]; exact hf) hd1
    have t3 : EQ (tkS υ b) (giv κ b e) := t2.trans (EQ.of_cor (giv_eq c1 b e))
    have xt : Ex LC κ (tkS υ b) := by
      refine fun f i hnf => ?_
      rw [tkS_k (fun z => hnf (by rw [z]; decide)) (fun z => hnf (by rw [z]; decide)) (fun z => hnf (by rw [z]; decide))]
      exact xu f i hnf
    have et47 : ∀ i, tkS υ b 47 i = if i = b then 1 else κ 47 i := fun i => by
      rw [tkS_k (by decide) (by decide) (by decide)]; exact e47 i
    have hne : ¬ (iI (e : Int) = iI (-1)) := by rw [iI_eq (by omega) (by omega) (by omega) (by omega)]; omega
    simp only [if_neg hne]
    unfold f_X5_comeWithPartner_39
    have h10 : ¬ (iI 1 = (0 : Int32)) := by decide
    rw [if_neg h10]
    simp (disch := omega) only [iL239, cV0, cR0_0, cR0_1, cR0_2, cR0_3, cR0_4, cR0_5, cV1, cR1_1, cR1_2, cR1_3, cR1_4, cR1_5, cR1_6, cR1_7, cI1_0, cI1_8, cP1_8, cI1_9, cP1_9, cV9, cR9_0, cR9_1, cV10, cV11, cV12, cR12_0, cR12_1, cR12_2, cR12_3, cR12_4, cR12_5, cR12_6, cV18, cR18_0, cR18_1, cR18_2, cR18_3, cR18_4, cI18_5, cP18_5, cI18_6, cP18_6, cV22, cR22_0, cR22_1, cI22_2, cP22_2, cI22_3, cP22_3, cI22_4, cP22_4, cV23, cR23_0, cR23_1, cR23_3, cR23_4, cR23_5, cR23_6, cR23_7, cR23_8, cR23_9, cR23_10, cI23_2, cP23_2, cR10_1, cI10_2, cR11_1, cI11_2, cL2, cS2, cL3, cS3, cL4, cS4, cL5, cS5, cL6, cS6, cL7, cS7, cL8, cS8, cL13, cS13, cL14, cS14, cL15, cS15, cL16, cS16, cL17, cS17, cL19, cS19, cL20, cS20, cL21, cS21, cL24, cS24, cL25, cS25, cL26, cS26, cL27, cS27, cL28, cS28, cL29, cS29, cL30, cS30, cL31, cS31, bV, bK, bI0, bI1, bI2, bI3, bI4, bI5, bI6, bI7, bI8, bI9, bI10, bR11, bR12, bR13, bP9, bP10, bL1, bS1, bL2, bS2, bL3, bS3, k_takePath hb (show b < 16 by omega), bd_s]
    unfold f_X5_comeWithPartner_62 f_X5_comeWithPartner_78 f_X5_comeWithPartner_125
    simp only [if_neg h10]
    by_cases cp : κ 18 b = -1
    · refine ⟨tkS υ b, t1, ?_, xt, fun i => ?_, ?_⟩
      · unfold comeS; rw [hf]; simp only [if_pos cp]; exact t3
      · rw [et47]; congr 1; exact propext (by omega)
      · rw [show atR A (κ 18 b) = none by unfold atR; rw [if_neg (by omega)]]
        simp only [if_true]
        unfold lostS
        rw [hf]
        simp only [cp, if_true]
        rfl
    · obtain ⟨p1, p2, p3, p4⟩ : 0 ≤ κ 18 b ∧ κ 18 b < κ 9 0 ∧ κ 18 b ≠ b ∧ κ 18 (κ 18 b).toNat = b := by
        rcases hlb with q | q
        · exact absurd q cp
        · exact q
      have eat : atR A (κ 18 b) = some (A.b (κ 18 b).toNat) := by unfold atR; rw [if_pos (by omega)]
      obtain ⟨o, ho⟩ : ∃ o : Nat, o = (κ 18 b).toNat := ⟨_, rfl⟩
      have hon : o < A.n := by omega
      rw [eat, ← ho, if_neg (by simp)]
      have x2 : Ex [47] (tkS υ b) (sg (tkS υ b) 47 o 1) := (Ex.refl _ _).sg (by decide) _ _
      have k2 := t1.ex x2 (by decide)
      have xX := xt.trans (x2.mono (by decide : ∀ f, f ∈ [47] → f ∈ LC))
      have eX : EQ (sg (tkS υ b) 47 o 1) (giv κ b e) := (EQ.ex x2 (by decide)).trans t3
      have eX47 : ∀ i : Nat, sg (tkS υ b) 47 o 1 47 i = if i = b ∨ (i : Int) = κ 18 b then 1 else κ 47 i := fun i => by
        by_cases q : i = o
        · subst q; rw [sg_eq, if_pos (by omega)]
        · rw [sg_i _ _ _ q, et47]; congr 1; exact propext (by omega)
      obtain ⟨Y, y1, y2, y3, y4⟩ := k2.find hon
      rw [eX.fnd] at y3 y4
      have xY := xX.trans (y1.mono (by decide : ∀ f, f ∈ [42, 43, 44, 45, 46] → f ∈ LC))
      have cY : cor Y = cor (sg (tkS υ b) 47 o 1) := y1.cor (by decide)
      have eY : EQ Y (giv κ b e) := (EQ.of_cor cY).trans eX
      have eY47 : ∀ i : Nat, Y 47 i = if i = b ∨ (i : Int) = κ 18 b then 1 else κ 47 i := fun i => by rw [y1 47 _ (by decide)]; exact eX47 i
      simp (disch := omega) only [iL239, cV0, cR0_0, cR0_1, cR0_2, cR0_3, cR0_4, cR0_5, cV1, cR1_1, cR1_2, cR1_3, cR1_4, cR1_5, cR1_6, cR1_7, cI1_0, cI1_8, cP1_8, cI1_9, cP1_9, cV9, cR9_0, cR9_1, cV10, cV11, cV12, cR12_0, cR12_1, cR12_2, cR12_3, cR12_4, cR12_5, cR12_6, cV18, cR18_0, cR18_1, cR18_2, cR18_3, cR18_4, cI18_5, cP18_5, cI18_6, cP18_6, cV22, cR22_0, cR22_1, cI22_2, cP22_2, cI22_3, cP22_3, cI22_4, cP22_4, cV23, cR23_0, cR23_1, cR23_3, cR23_4, cR23_5, cR23_6, cR23_7, cR23_8, cR23_9, cR23_10, cI23_2, cP23_2, cR10_1, cI10_2, cR11_1, cI11_2, cL2, cS2, cL3, cS3, cL4, cS4, cL5, cS5, cL6, cS6, cL7, cS7, cL8, cS8, cL13, cS13, cL14, cS14, cL15, cS15, cL16, cS16, cL17, cS17, cL19, cS19, cL20, cS20, cL21, cS21, cL24, cS24, cL25, cS25, cL26, cS26, cL27, cS27, cL28, cS28, cL29, cS29, cL30, cS30, cL31, cS31, bV, bK, bI0, bI1, bI2, bI3, bI4, bI5, bI6, bI7, bI8, bI9, bI10, bR11, bR12, bR13, bP9, bP10, bL1, bS1, bL2, bS2, bL3, bS3, Int.toNat_natCast]
      rw [iI_m1, iI_1, cS19 (by omega) (by omega) _ _ (by omega), Int.toNat_natCast]
      simp (disch := omega) only [iL239, cV0, cR0_0, cR0_1, cR0_2, cR0_3, cR0_4, cR0_5, cV1, cR1_1, cR1_2, cR1_3, cR1_4, cR1_5, cR1_6, cR1_7, cI1_0, cI1_8, cP1_8, cI1_9, cP1_9, cV9, cR9_0, cR9_1, cV10, cV11, cV12, cR12_0, cR12_1, cR12_2, cR12_3, cR12_4, cR12_5, cR12_6, cV18, cR18_0, cR18_1, cR18_2, cR18_3, cR18_4, cI18_5, cP18_5, cI18_6, cP18_6, cV22, cR22_0, cR22_1, cI22_2, cP22_2, cI22_3, cP22_3, cI22_4, cP22_4, cV23, cR23_0, cR23_1, cR23_3, cR23_4, cR23_5, cR23_6, cR23_7, cR23_8, cR23_9, cR23_10, cI23_2, cP23_2, cR10_1, cI10_2, cR11_1, cI11_2, cL2, cS2, cL3, cS3, cL4, cS4, cL5, cS5, cL6, cS6, cL7, cS7, cL8, cS8, cL13, cS13, cL14, cS14, cL15, cS15, cL16, cS16, cL17, cS17, cL19, cS19, cL20, cS20, cL21, cS21, cL24, cS24, cL25, cS25, cL26, cS26, cL27, cS27, cL28, cS28, cL29, cS29, cL30, cS30, cL31, cS31, bV, bK, bI0, bI1, bI2, bI3, bI4, bI5, bI6, bI7, bI8, bI9, bI10, bR11, bR12, bR13, bP9, bP10, bL1, bS1, bL2, bS2, bL3, bS3, y4, bd_s]
      cases hf2 : fnd (giv κ b e) o with
      | none =>
        simp only [if_true]
        have xZ : Ex LC κ (sg Y 19 b 0) := xY.sg (by decide) _ _
        refine ⟨sg Y 19 b 0, y2.drop b, ?_, xZ, fun i => ?_, ?_⟩
        · unfold comeS; rw [hf]; simp only [if_neg cp]; rw [← ho, hf2]; exact eY.sg19 b
        · rw [sg_f _ _ _ _ (by decide)]; exact eY47 i
        · rw [iI_0, bP10 (by omega) _ _ (by omega)]
          simp (disch := omega) only [iL239, cV0, cR0_0, cR0_1, cR0_2, cR0_3, cR0_4, cR0_5, cV1, cR1_1, cR1_2, cR1_3, cR1_4, cR1_5, cR1_6, cR1_7, cI1_0, cI1_8, cP1_8, cI1_9, cP1_9, cV9, cR9_0, cR9_1, cV10, cV11, cV12, cR12_0, cR12_1, cR12_2, cR12_3, cR12_4, cR12_5, cR12_6, cV18, cR18_0, cR18_1, cR18_2, cR18_3, cR18_4, cI18_5, cP18_5, cI18_6, cP18_6, cV22, cR22_0, cR22_1, cI22_2, cP22_2, cI22_3, cP22_3, cI22_4, cP22_4, cV23, cR23_0, cR23_1, cR23_3, cR23_4, cR23_5, cR23_6, cR23_7, cR23_8, cR23_9, cR23_10, cI23_2, cP23_2, cR10_1, cI10_2, cR11_1, cI11_2, cL2, cS2, cL3, cS3, cL4, cS4, cL5, cS5, cL6, cS6, cL7, cS7, cL8, cS8, cL13, cS13, cL14, cS14, cL15, cS15, cL16, cS16, cL17, cS17, cL19, cS19, cL20, cS20, cL21, cS21, cL24, cS24, cL25, cS25, cL26, cS26, cL27, cS27, cL28, cS28, cL29, cS29, cL30, cS30, cL31, cS31, bV, bK, bI0, bI1, bI2, bI3, bI4, bI5, bI6, bI7, bI8, bI9, bI10, bR11, bR12, bR13, bP9, bP10, bL1, bS1, bL2, bS2, bL3, bS3, Int.toNat_natCast, ew xZ, iI_add]
          unfold lostS
          rw [hf]
          simp only [if_neg cp]
          rw [← ho, hf2]
          rfl
      | some e2 =>
        have hw2 : WB (giv κ b e) := WB_giv hk.1.1 (by omega) hf
        have hfe2 := fnd_ok hw2.1 (b := o) (by omega) hf2
        have hne2 : ¬ (iI (e2 : Int) = iI (-1)) := by rw [iI_eq (by omega) (by omega) (by omega) (by omega)]; omega
        simp only [if_neg hne2]
        obtain ⟨z1, z2⟩ := k2.take y2 y1 hon (by rw [eX.fnd]; exact hf2) (y3 e2 hf2)
        have z3 : EQ (tkS Y o) (giv (giv κ b e) o e2) := z2.trans (eX.giv k2.1.1.1 hw2.1 o e2 (by omega))
        have xZ : Ex LC κ (tkS Y o) := by
          refine fun f i hnf => ?_
          rw [tkS_k (fun z => hnf (by rw [z]; decide)) (fun z => hnf (by rw [z]; decide)) (fun z => hnf (by rw [z]; decide))]
          exact xY f i hnf
        refine ⟨tkS Y o, z1, ?_, xZ, fun i => ?_, ?_⟩
        · unfold comeS; rw [hf]; simp only [if_neg cp]; rw [← ho, hf2]; exact z3
        · rw [tkS_k (by decide) (by decide) (by decide)]; exact eY47 i
        · simp (disch := omega) only [iL239, cV0, cR0_0, cR0_1, cR0_2, cR0_3, cR0_4, cR0_5, cV1, cR1_1, cR1_2, cR1_3, cR1_4, cR1_5, cR1_6, cR1_7, cI1_0, cI1_8, cP1_8, cI1_9, cP1_9, cV9, cR9_0, cR9_1, cV10, cV11, cV12, cR12_0, cR12_1, cR12_2, cR12_3, cR12_4, cR12_5, cR12_6, cV18, cR18_0, cR18_1, cR18_2, cR18_3, cR18_4, cI18_5, cP18_5, cI18_6, cP18_6, cV22, cR22_0, cR22_1, cI22_2, cP22_2, cI22_3, cP22_3, cI22_4, cP22_4, cV23, cR23_0, cR23_1, cR23_3, cR23_4, cR23_5, cR23_6, cR23_7, cR23_8, cR23_9, cR23_10, cI23_2, cP23_2, cR10_1, cI10_2, cR11_1, cI11_2, cL2, cS2, cL3, cS3, cL4, cS4, cL5, cS5, cL6, cS6, cL7, cS7, cL8, cS8, cL13, cS13, cL14, cS14, cL15, cS15, cL16, cS16, cL17, cS17, cL19, cS19, cL20, cS20, cL21, cS21, cL24, cS24, cL25, cS25, cL26, cS26, cL27, cS27, cL28, cS28, cL29, cS29, cL30, cS30, cL31, cS31, bV, bK, bI0, bI1, bI2, bI3, bI4, bI5, bI6, bI7, bI8, bI9, bI10, bR11, bR12, bR13, bP9, bP10, bL1, bS1, bL2, bS2, bL3, bS3, k_takePath hon (show o < 16 by omega), bd_s]
          unfold lostS
          rw [hf]
          simp only [if_neg cp]
          rw [← ho, hf2]
          rfl
end
