/-! the round -/
theorem goF_19 {σ : Sg} (hw : WB σ) (hl : LK σ) {f : Nat → Nat} {n : Nat} (hf : ∀ k, k < n → (f k : Int) < σ 9 0) : ∀ k, k ≤ n → ∀ i : Nat, (i : Int) < σ 9 0 → (goF σ f k).2 i = false → (goF σ f k).1 19 i = 0
  | 0, _, i, hi, _ => by
    show clrS σ 19 i = 0
    unfold clrS
    rw [if_pos ⟨rfl, hi⟩]
  | k + 1, hk, i, hi, h2 => by
    have ih := goF_19 hw hl hf k (by omega) i hi
    obtain ⟨g1, g2⟩ := goF_WB hw hl hf k (by omega)
    have e18 := g2 18 (f k) (by omega)
    unfold goF at h2 ⊢
    by_cases c : (goF σ f k).2 (f k) = true
    · rw [if_pos c] at h2 ⊢
      exact ih h2
    · rw [if_neg c] at h2 ⊢
      simp only [Bool.or_eq_false_iff, decide_eq_false_iff_not] at h2
      have hlk := hl (f k) (hf k (by omega))
      show comeS (goF σ f k).1 (f k) 19 i = 0
      rw [comeS_off (by rw [e18]; omega) h2.1.2 (by rw [e18]; exact h2.2)]
      exact ih h2.1.1
section
variable {h : Hp} {A : CA} {κ σ : Sg} {h' : Hp} {m : Nat} {ρ : Nat → Nat}
theorem k_startAnew (hk : KI h A κ ρ) : ∃ τ, KI h A τ ρ ∧ EQ τ (clrS κ) ∧ Ex LC κ τ ∧ (∀ i : Nat, i < 16 → τ 47 i = 0) ∧ f_X5_startAnew (A.x + 18) (CH h A κ) = some ((), CH h A τ) := by
  obtain ⟨τ1, t1, t2⟩ := k_dropAll hk.1
  have h16 := hk.1.n16
  have hn := hk.1.2.2
  unfold f_X5_startAnew f_X5_startAnew_9
  simp (disch := omega) only [iL239, cV0, cR0_0, cR0_1, cR0_2, cR0_3, cR0_4, cR0_5, cV1, cR1_1, cR1_2, cR1_3, cR1_4, cR1_5, cR1_6, cR1_7, cI1_0, cI1_8, cP1_8, cI1_9, cP1_9, cV9, cR9_0, cR9_1, cV10, cV11, cV12, cR12_0, cR12_1, cR12_2, cR12_3, cR12_4, cR12_5, cR12_6, cV18, cR18_0, cR18_1, cR18_2, cR18_3, cR18_4, cI18_5, cP18_5, cI18_6, cP18_6, cV22, cR22_0, cR22_1, cI22_2, cP22_2, cI22_3, cP22_3, cI22_4, cP22_4, cV23, cR23_0, cR23_1, cR23_3, cR23_4, cR23_5, cR23_6, cR23_7, cR23_8, cR23_9, cR23_10, cI23_2, cP23_2, cR10_1, cI10_2, cR11_1, cI11_2, cL2, cS2, cL3, cS3, cL4, cS4, cL5, cS5, cL6, cS6, cL7, cS7, cL8, cS8, cL13, cS13, cL14, cS14, cL15, cS15, cL16, cS16, cL17, cS17, cL19, cS19, cL20, cS20, cL21, cS21, cL24, cS24, cL25, cS25, cL26, cS26, cL27, cS27, cL28, cS28, cL29, cS29, cL30, cS30, cL31, cS31, bV, bK, bI0, bI1, bI2, bI3, bI4, bI5, bI6, bI7, bI8, bI9, bI10, bR11, bR12, bR13, bP9, bP10, bL1, bS1, bL2, bS2, bL3, bS3, t2, bd_s]
  rw [iI_0]
  obtain ⟨τ, u1, u2⟩ := lp_rel (B := fun k2 u => fb_X5_startAnew_9 k2 u.1 u.2.1 u.2.2) (fun o (τ : Sg) => (some (A.x + 18), iI (o : Int), CH h A τ)) (fun o τ => Ex [47] τ1 τ ∧ ∀ i, i < o → τ 47 i = 0) 16 (fun τ => some ((), CH h A τ))
    (fun o τ ho hI => by
      refine ⟨sg τ 47 o 0, ⟨hI.1.sg (by decide) _ _, fun i hi => ?_⟩, fun k => ?_⟩
      · by_cases q : i = o
        · subst q; rw [sg_eq]
        · rw [sg_i _ _ _ q]; exact hI.2 i (by omega)
      · show fb_X5_startAnew_9 k (some (A.x + 18)) (iI (o : Int)) (CH h A τ) = _
        unfold fb_X5_startAnew_9
        simp (disch := omega) only [iL239, cV0, cR0_0, cR0_1, cR0_2, cR0_3, cR0_4, cR0_5, cV1, cR1_1, cR1_2, cR1_3, cR1_4, cR1_5, cR1_6, cR1_7, cI1_0, cI1_8, cP1_8, cI1_9, cP1_9, cV9, cR9_0, cR9_1, cV10, cV11, cV12, cR12_0, cR12_1, cR12_2, cR12_3, cR12_4, cR12_5, cR12_6, cV18, cR18_0, cR18_1, cR18_2, cR18_3, cR18_4, cI18_5, cP18_5, cI18_6, cP18_6, cV22, cR22_0, cR22_1, cI22_2, cP22_2, cI22_3, cP22_3, cI22_4, cP22_4, cV23, cR23_0, cR23_1, cR23_3, cR23_4, cR23_5, cR23_6, cR23_7, cR23_8, cR23_9, cR23_10, cI23_2, cP23_2, cR10_1, cI10_2, cR11_1, cI11_2, cL2, cS2, cL3, cS3, cL4, cS4, cL5, cS5, cL6, cS6, cL7, cS7, cL8, cS8, cL13, cS13, cL14, cS14, cL15, cS15, cL16, cS16, cL17, cS17, cL19, cS19, cL20, cS20, cL21, cS21, cL24, cS24, cL25, cS25, cL26, cS26, cL27, cS27, cL28, cS28, cL29, cS29, cL30, cS30, cL31, cS31, bV, bK, bI0, bI1, bI2, bI3, bI4, bI5, bI6, bI7, bI8, bI9, bI10, bR11, bR12, bR13, bP9, bP10, bL1, bS1, bL2, bS2, bL3, bS3, iI_0, iI_1, iI_neg, iL2, iL3, iL4, iL5, iL6, iL7, iL8, iL9, iL10, iL11, iL12, iL13, iL14, iL15, iL16, iL17, iL30, iL31, iL60, iL99, iL100, iL240, iL480, iL1000, iL1920, iL10000, iI_add, iI_sub, iI_mul, iI_div, iI_le, iI_lt, iI_eq, bd_s, Int.toNat_natCast, Int.natCast_succ]
        rw [if_neg (by omega)])
    (fun τ k hI => by
      show fb_X5_startAnew_9 k (some (A.x + 18)) (iI ((16 : Nat) : Int)) (CH h A τ) = _
      unfold fb_X5_startAnew_9
      simp (disch := omega) only [iL239, cV0, cR0_0, cR0_1, cR0_2, cR0_3, cR0_4, cR0_5, cV1, cR1_1, cR1_2, cR1_3, cR1_4, cR1_5, cR1_6, cR1_7, cI1_0, cI1_8, cP1_8, cI1_9, cP1_9, cV9, cR9_0, cR9_1, cV10, cV11, cV12, cR12_0, cR12_1, cR12_2, cR12_3, cR12_4, cR12_5, cR12_6, cV18, cR18_0, cR18_1, cR18_2, cR18_3, cR18_4, cI18_5, cP18_5, cI18_6, cP18_6, cV22, cR22_0, cR22_1, cI22_2, cP22_2, cI22_3, cP22_3, cI22_4, cP22_4, cV23, cR23_0, cR23_1, cR23_3, cR23_4, cR23_5, cR23_6, cR23_7, cR23_8, cR23_9, cR23_10, cI23_2, cP23_2, cR10_1, cI10_2, cR11_1, cI11_2, cL2, cS2, cL3, cS3, cL4, cS4, cL5, cS5, cL6, cS6, cL7, cS7, cL8, cS8, cL13, cS13, cL14, cS14, cL15, cS15, cL16, cS16, cL17, cS17, cL19, cS19, cL20, cS20, cL21, cS21, cL24, cS24, cL25, cS25, cL26, cS26, cL27, cS27, cL28, cS28, cL29, cS29, cL30, cS30, cL31, cS31, bV, bK, bI0, bI1, bI2, bI3, bI4, bI5, bI6, bI7, bI8, bI9, bI10, bR11, bR12, bR13, bP9, bP10, bL1, bS1, bL2, bS2, bL3, bS3, iI_0, iI_1, iI_neg, iL2, iL3, iL4, iL5, iL6, iL7, iL8, iL9, iL10, iL11, iL12, iL13, iL14, iL15, iL16, iL17, iL30, iL31, iL60, iL99, iL100, iL240, iL480, iL1000, iL1920, iL10000, iI_add, iI_sub, iI_mul, iI_div, iI_le, iI_lt, iI_eq, bd_s]
      rw [if_pos (by omega)]
      rfl) 16 0 FU τ1 (by omega) (by rw [FU_eq]; omega) ⟨Ex.refl _ _, fun i hi => by omega⟩
  have x1 : Ex LC κ τ1 := fun f i hf => by rw [t1, if_neg (fun z => hf (by rw [z.1]; decide))]
  have c1 : cor τ1 = cor (clrS κ) := by
    funext f i
    unfold cor clrS
    by_cases q : f < 22
    · rw [if_pos q, if_pos q, t1]
      congr 1
      exact propext (by omega)
    · rw [if_neg q, if_neg q]
  have k1 : KI h A τ1 ρ := by
    refine ⟨⟨WB_eq c1 (clrS_WB hk.1.1), hk.1.2.1, ?_⟩, ?_, ?_, fun j => ?_⟩
    · rw [t1, if_neg (by omega)]; exact hn
    · intro b i h1 h2
      exfalso
      apply h2
      rw [t1, if_neg (by omega), hn] at h1
      rw [t1, if_pos ⟨rfl, by omega⟩]
    · intro w hw
      rw [t1, if_neg (by omega)] at hw
      rw [t1, if_neg (by omega), t1, if_neg (by omega)]
      exact hk.2.2.1 w hw
    · rw [t1, if_neg (by omega)]; exact hk.2.2.2 j
  exact ⟨τ, k1.ex u1.1 (by decide), (EQ.ex u1.1 (by decide)).trans (EQ.of_cor c1), x1.trans (u1.1.mono (by decide)), u1.2, u2⟩
theorem k_comeByRank (hk : KI h A κ ρ) (hls : LSy κ) (hρ : ∀ k, k < A.n → ρ k < A.n) : ∃ τ, KI h A τ ρ ∧ EQ τ (goF κ ρ A.n).1 ∧ Ex LC κ τ ∧ f_X5_comeByRank (A.x + 18) (CH h A κ) = some ((), CH h A τ) := by
  have h16 := hk.1.n16
  have hn := hk.1.2.2
  have hl := hk.1.2.1
  obtain ⟨τ0, a1, a2, a3, a4, a5⟩ := k_startAnew hk
  unfold f_X5_comeByRank f_X5_comeByRank_6
  simp (disch := omega) only [iL239, cV0, cR0_0, cR0_1, cR0_2, cR0_3, cR0_4, cR0_5, cV1, cR1_1, cR1_2, cR1_3, cR1_4, cR1_5, cR1_6, cR1_7, cI1_0, cI1_8, cP1_8, cI1_9, cP1_9, cV9, cR9_0, cR9_1, cV10, cV11, cV12, cR12_0, cR12_1, cR12_2, cR12_3, cR12_4, cR12_5, cR12_6, cV18, cR18_0, cR18_1, cR18_2, cR18_3, cR18_4, cI18_5, cP18_5, cI18_6, cP18_6, cV22, cR22_0, cR22_1, cI22_2, cP22_2, cI22_3, cP22_3, cI22_4, cP22_4, cV23, cR23_0, cR23_1, cR23_3, cR23_4, cR23_5, cR23_6, cR23_7, cR23_8, cR23_9, cR23_10, cI23_2, cP23_2, cR10_1, cI10_2, cR11_1, cI11_2, cL2, cS2, cL3, cS3, cL4, cS4, cL5, cS5, cL6, cS6, cL7, cS7, cL8, cS8, cL13, cS13, cL14, cS14, cL15, cS15, cL16, cS16, cL17, cS17, cL19, cS19, cL20, cS20, cL21, cS21, cL24, cS24, cL25, cS25, cL26, cS26, cL27, cS27, cL28, cS28, cL29, cS29, cL30, cS30, cL31, cS31, bV, bK, bI0, bI1, bI2, bI3, bI4, bI5, bI6, bI7, bI8, bI9, bI10, bR11, bR12, bR13, bP9, bP10, bL1, bS1, bL2, bS2, bL3, bS3, a5, bd_s]
  rw [iI_0]
  have hf : ∀ k, k < A.n → (ρ k : Int) < κ 9 0 := fun k z => by have := hρ k z; omega
  obtain ⟨τ, u1, u2⟩ := lp_rel (B := fun k2 u => fb_X5_comeByRank_6 k2 u.1 u.2.1 u.2.2) (fun o (τ : Sg) => (some (A.x + 18), iI (o : Int), CH h A τ)) (fun k τ => KI h A τ ρ ∧ EQ τ (goF κ ρ k).1 ∧ Ex LC κ τ ∧ ∀ i : Nat, i < 16 → τ 47 i = b2 ((goF κ ρ k).2 i = true)) A.n (fun τ => some ((), CH h A τ))
    (fun k τ hkn hI => by
      obtain ⟨i1, i2, i3, i4⟩ := hI
      have hb := hρ k hkn
      have e47 := i4 (ρ k) (by omega)
      obtain ⟨g1, g2⟩ := goF_WB hk.1.1 hls.lk hf k (by omega)
      cases hc : (goF κ ρ k).2 (ρ k) with
      | true =>
        refine ⟨τ, ⟨i1, ?_, i3, fun i hi => ?_⟩, fun k' => ?_⟩
        · unfold goF; rw [if_pos hc]; exact i2
        · unfold goF; rw [if_pos hc]; exact i4 i hi
        · show fb_X5_comeByRank_6 k' (some (A.x + 18)) (iI (k : Int)) (CH h A τ) = _
          rw [hc, b2_t rfl] at e47
          unfold fb_X5_comeByRank_6 f_X5_comeByRank_53
          simp (disch := omega) only [iL239, cV0, cR0_0, cR0_1, cR0_2, cR0_3, cR0_4, cR0_5, cV1, cR1_1, cR1_2, cR1_3, cR1_4, cR1_5, cR1_6, cR1_7, cI1_0, cI1_8, cP1_8, cI1_9, cP1_9, cV9, cR9_0, cR9_1, cV10, cV11, cV12, cR12_0, cR12_1, cR12_2, cR12_3, cR12_4, cR12_5, cR12_6, cV18, cR18_0, cR18_1, cR18_2, cR18_3, cR18_4, cI18_5, cP18_5, cI18_6, cP18_6, cV22, cR22_0, cR22_1, cI22_2, cP22_2, cI22_3, cP22_3, cI22_4, cP22_4, cV23, cR23_0, cR23_1, cR23_3, cR23_4, cR23_5, cR23_6, cR23_7, cR23_8, cR23_9, cR23_10, cI23_2, cP23_2, cR10_1, cI10_2, cR11_1, cI11_2, cL2, cS2, cL3, cS3, cL4, cS4, cL5, cS5, cL6, cS6, cL7, cS7, cL8, cS8, cL13, cS13, cL14, cS14, cL15, cS15, cL16, cS16, cL17, cS17, cL19, cS19, cL20, cS20, cL21, cS21, cL24, cS24, cL25, cS25, cL26, cS26, cL27, cS27, cL28, cS28, cL29, cS29, cL30, cS30, cL31, cS31, bV, bK, bI0, bI1, bI2, bI3, bI4, bI5, bI6, bI7, bI8, bI9, bI10, bR11, bR12, bR13, bP9, bP10, bL1, bS1, bL2, bS2, bL3, bS3, iI_0, iI_1, iI_neg, iL2, iL3, iL4, iL5, iL6, iL7, iL8, iL9, iL10, iL11, iL12, iL13, iL14, iL15, iL16, iL17, iL30, iL31, iL60, iL99, iL100, iL240, iL480, iL1000, iL1920, iL10000, iI_add, iI_sub, iI_mul, iI_div, iI_le, iI_lt, iI_eq, bd_s, k_rsize, k_getR hl, Int.toNat_natCast, e47, Int.natCast_succ]
          rw [if_neg (by omega), if_neg (by omega)]
      | false =>
        have e18 : τ 18 (ρ k) = κ 18 (ρ k) := i3 18 _ (by decide)
        have hg : τ 19 (ρ k) = 0 := by
          rw [i2.1 19 _ (by omega) (by omega)]
          exact goF_19 hk.1.1 hls.lk hf k (by omega) (ρ k) (by omega) hc
        have hlt : LSy τ := hls.of (i3 9 0 (by decide)) (fun i => i3 18 i (by decide))
        obtain ⟨υ, v1, v2, v3, v4, v5⟩ := k_come i1 hlt hb hg
        have hE := i2.comeS i1.1.1 g1 hlt.lk (ρ k) (by rw [i1.1.2.2]; omega)
        refine ⟨υ, ⟨v1, ?_, i3.trans v3, fun i hi => ?_⟩, fun k' => ?_⟩
        · unfold goF; rw [if_neg (by rw [hc]; simp)]; exact v2.trans hE
        · unfold goF
          rw [if_neg (by rw [hc]; simp), v4 i, i4 i hi, e18]
          by_cases q : i = ρ k ∨ (i : Int) = κ 18 (ρ k)
          · rw [if_pos q, b2_t]
            rcases q with q | q <;> simp [q]
          · rw [if_neg q]
            apply b2_iff
            simp only [not_or] at q
            simp [q.1, q.2]
        · show fb_X5_comeByRank_6 k' (some (A.x + 18)) (iI (k : Int)) (CH h A τ) = _
          rw [hc, b2_f (by simp)] at e47
          unfold fb_X5_comeByRank_6 f_X5_comeByRank_53
          simp (disch := omega) only [iL239, cV0, cR0_0, cR0_1, cR0_2, cR0_3, cR0_4, cR0_5, cV1, cR1_1, cR1_2, cR1_3, cR1_4, cR1_5, cR1_6, cR1_7, cI1_0, cI1_8, cP1_8, cI1_9, cP1_9, cV9, cR9_0, cR9_1, cV10, cV11, cV12, cR12_0, cR12_1, cR12_2, cR12_3, cR12_4, cR12_5, cR12_6, cV18, cR18_0, cR18_1, cR18_2, cR18_3, cR18_4, cI18_5, cP18_5, cI18_6, cP18_6, cV22, cR22_0, cR22_1, cI22_2, cP22_2, cI22_3, cP22_3, cI22_4, cP22_4, cV23, cR23_0, cR23_1, cR23_3, cR23_4, cR23_5, cR23_6, cR23_7, cR23_8, cR23_9, cR23_10, cI23_2, cP23_2, cR10_1, cI10_2, cR11_1, cI11_2, cL2, cS2, cL3, cS3, cL4, cS4, cL5, cS5, cL6, cS6, cL7, cS7, cL8, cS8, cL13, cS13, cL14, cS14, cL15, cS15, cL16, cS16, cL17, cS17, cL19, cS19, cL20, cS20, cL21, cS21, cL24, cS24, cL25, cS25, cL26, cS26, cL27, cS27, cL28, cS28, cL29, cS29, cL30, cS30, cL31, cS31, bV, bK, bI0, bI1, bI2, bI3, bI4, bI5, bI6, bI7, bI8, bI9, bI10, bR11, bR12, bR13, bP9, bP10, bL1, bS1, bL2, bS2, bL3, bS3, iI_0, iI_1, iI_neg, iL2, iL3, iL4, iL5, iL6, iL7, iL8, iL9, iL10, iL11, iL12, iL13, iL14, iL15, iL16, iL17, iL30, iL31, iL60, iL99, iL100, iL240, iL480, iL1000, iL1920, iL10000, iI_add, iI_sub, iI_mul, iI_div, iI_le, iI_lt, iI_eq, bd_s, k_rsize, k_getR hl, Int.toNat_natCast, e47, v5, Int.natCast_succ]
          rw [if_neg (by omega), if_pos trivial])
    (fun τ k hI => by
      show fb_X5_comeByRank_6 k (some (A.x + 18)) (iI (A.n : Int)) (CH h A τ) = _
      unfold fb_X5_comeByRank_6
      simp (disch := omega) only [iL239, cV0, cR0_0, cR0_1, cR0_2, cR0_3, cR0_4, cR0_5, cV1, cR1_1, cR1_2, cR1_3, cR1_4, cR1_5, cR1_6, cR1_7, cI1_0, cI1_8, cP1_8, cI1_9, cP1_9, cV9, cR9_0, cR9_1, cV10, cV11, cV12, cR12_0, cR12_1, cR12_2, cR12_3, cR12_4, cR12_5, cR12_6, cV18, cR18_0, cR18_1, cR18_2, cR18_3, cR18_4, cI18_5, cP18_5, cI18_6, cP18_6, cV22, cR22_0, cR22_1, cI22_2, cP22_2, cI22_3, cP22_3, cI22_4, cP22_4, cV23, cR23_0, cR23_1, cR23_3, cR23_4, cR23_5, cR23_6, cR23_7, cR23_8, cR23_9, cR23_10, cI23_2, cP23_2, cR10_1, cI10_2, cR11_1, cI11_2, cL2, cS2, cL3, cS3, cL4, cS4, cL5, cS5, cL6, cS6, cL7, cS7, cL8, cS8, cL13, cS13, cL14, cS14, cL15, cS15, cL16, cS16, cL17, cS17, cL19, cS19, cL20, cS20, cL21, cS21, cL24, cS24, cL25, cS25, cL26, cS26, cL27, cS27, cL28, cS28, cL29, cS29, cL30, cS30, cL31, cS31, bV, bK, bI0, bI1, bI2, bI3, bI4, bI5, bI6, bI7, bI8, bI9, bI10, bR11, bR12, bR13, bP9, bP10, bL1, bS1, bL2, bS2, bL3, bS3, iI_0, iI_1, iI_neg, iL2, iL3, iL4, iL5, iL6, iL7, iL8, iL9, iL10, iL11, iL12, iL13, iL14, iL15, iL16, iL17, iL30, iL31, iL60, iL99, iL100, iL240, iL480, iL1000, iL1920, iL10000, iI_add, iI_sub, iI_mul, iI_div, iI_le, iI_lt, iI_eq, bd_s, k_rsize]
      rw [if_pos (by omega)]
      rfl) A.n 0 FU τ0 (by omega) (by rw [FU_eq]; omega) ⟨a1, a2, a3, fun i hi => by rw [a4 i hi]; rfl⟩
  exact ⟨τ, u1.1, u1.2.1, u1.2.2.1, u2⟩
theorem o_round (hr : RLx h A κ σ) : OP h A κ σ h' m (f_X7_round A.x) (f_X8_round m) := by
  obtain ⟨n1, n2⟩ := hr.n
  have hn := hr.1.1.2.2
  obtain ⟨τr, r1, r2⟩ := s_round (h := h') (m := m) hr.2.2.1 hr.2.2.2.1.lk A.n n1.symm
  have hlsk : LSy κ := hr.2.2.2.1.eq hr.2.1
  have hρ : ∀ k, k < A.n → ordF (κ 17) A.n k < A.n := fun k hk => ordF_lt _ _ _ hk
  obtain ⟨τ, t1, t2, t3, t4⟩ := k_comeByRank hr.1 hlsk hρ
  have e17 : κ 17 = σ 17 := funext (fun i => hr.e (by omega) (by omega) i)
  have hg := EQ.goF hr.2.1.SB hr.1.1.1 hr.2.2.1 hlsk.lk (f := ordF (κ 17) A.n) (n := A.n) (fun k hk => by have := hρ k hk; omega) A.n (Nat.le_refl _)
  obtain ⟨g1, g2⟩ := goF_WB hr.2.2.1 hr.2.2.2.1.lk (f := ordF (σ 17) A.n) (n := A.n) (fun k hk => by have := ordF_lt (σ 17) A.n k hk; omega) A.n (Nat.le_refl _)
  have x1 : Ex [55] τ (sg τ 55 0 0) := (Ex.refl _ _).sg (by decide) _ _
  have hk2 := t1.ex x1 (by decide)
  rw [e17] at hg
  have hE : EQ (sg τ 55 0 0) τr := (EQ.ex x1 (by decide)).trans (t2.trans (by rw [e17]; exact hg.1.trans (EQ.of_cor r1.symm)))
  unfold OP
  rw [r2]
  refine ⟨iI (cntG τr), sg τ 55 0 0, τr, ⟨?_, hE, WB_eq r1 g1, ?_, ?_, Or.inl rfl⟩, ?_, rfl⟩
  · rw [show (sg τ 55 0 0) 17 = κ 17 from funext (fun i => by rw [sg_f _ _ _ _ (by decide), t3 17 _ (by decide)])]
    exact hk2
  · exact hr.2.2.2.1.of (by rw [cor_eq r1 (by omega), g2 _ _ (by omega)]) (fun i => by rw [cor_eq r1 (by omega), g2 _ _ (by omega)])
  · exact (AR.goR hr.2.2.1 hr.2.2.2.1.lk hr.2.2.2.2.1.2 (fun k hk => by have := ordF_lt (σ 17) A.n k hk; omega) A.n (Nat.le_refl _)).corR r1
  · unfold f_X7_round
    simp (disch := omega) only [iL239, cV0, cR0_0, cR0_1, cR0_2, cR0_3, cR0_4, cR0_5, cV1, cR1_1, cR1_2, cR1_3, cR1_4, cR1_5, cR1_6, cR1_7, cI1_0, cI1_8, cP1_8, cI1_9, cP1_9, cV9, cR9_0, cR9_1, cV10, cV11, cV12, cR12_0, cR12_1, cR12_2, cR12_3, cR12_4, cR12_5, cR12_6, cV18, cR18_0, cR18_1, cR18_2, cR18_3, cR18_4, cI18_5, cP18_5, cI18_6, cP18_6, cV22, cR22_0, cR22_1, cI22_2, cP22_2, cI22_3, cP22_3, cI22_4, cP22_4, cV23, cR23_0, cR23_1, cR23_3, cR23_4, cR23_5, cR23_6, cR23_7, cR23_8, cR23_9, cR23_10, cI23_2, cP23_2, cR10_1, cI10_2, cR11_1, cI11_2, cL2, cS2, cL3, cS3, cL4, cS4, cL5, cS5, cL6, cS6, cL7, cS7, cL8, cS8, cL13, cS13, cL14, cS14, cL15, cS15, cL16, cS16, cL17, cS17, cL19, cS19, cL20, cS20, cL21, cS21, cL24, cS24, cL25, cS25, cL26, cS26, cL27, cS27, cL28, cS28, cL29, cS29, cL30, cS30, cL31, cS31, bV, bK, bI0, bI1, bI2, bI3, bI4, bI5, bI6, bI7, bI8, bI9, bI10, bR11, bR12, bR13, bP9, bP10, bL1, bS1, bL2, bS2, bL3, bS3, t4, bd_s, k_forget, k_pathsGiven hk2.1, rtI, hE.cntG]
end
