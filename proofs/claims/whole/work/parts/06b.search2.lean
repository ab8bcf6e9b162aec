/-! who stands in a minute, and the spreading of comings -/
theorem cntI_s (P : Nat → Bool) (n : Nat) : cntI P (n + 1) = cntI P n + if P n then 1 else 0 := rfl
section
variable {h : Hp} {A : CA} {κ : Sg} {ρ : Nat → Nat}
theorem stds_sp {κ : Sg} {o : Nat} {s t : Int} : stds κ o s t = true ↔ (0 < spS κ o s ∧ spS κ o s < lgs κ o ∧ cmT κ o (spS κ o s) ≤ t ∧ t < lv κ o (spS κ o s)) := by
  unfold stds
  rw [exB_iff]
  constructor
  · rintro ⟨j, h1, h2⟩
    simp only [stP, decide_eq_true_eq] at h2
    obtain ⟨h3, h4, h5⟩ := h2
    have e : spS κ o s = (j : Int) + 1 := by rw [← h3]; exact spS_stn (by omega) (by omega)
    rw [e]
    omega
  · rintro ⟨h1, h2, h3, h4⟩
    obtain ⟨q1, q2, q3⟩ := spS_some (κ := κ) (b := o) (s := s) (by omega)
    refine ⟨(spS κ o s - 1).toNat, by omega, ?_⟩
    simp only [stP, decide_eq_true_eq]
    rw [show (((spS κ o s - 1).toNat : Nat) : Int) + 1 = spS κ o s by omega]
    exact ⟨q3, h3, by omega⟩
theorem k_countStanding (hk : KO h A κ ρ) (hc : CM κ) {b : Nat} (hb : b < A.n) {i : Int} (i0 : 0 ≤ i) (i1 : i ≤ lgs κ b) : ∃ τ, Ex [44] κ τ ∧ (∀ t : Nat, τ 44 t = κ 44 t + cntI (othP κ b (stn κ b i) t) A.n) ∧ f_X4_countStanding (A.x + 12) (some (A.b b)) (iI i) (CH h A κ) = some ((), CH h A τ) := by
  have hko := hk
  obtain ⟨hw, hl, hn⟩ := hk
  have h16 := hl.1
  have hs := stn_rng hw.1 (b := b) (by omega) i0 i1
  unfold f_X4_countStanding f_X4_countStanding_9
  simp (disch := omega) only [iL239, cV0, cR0_0, cR0_1, cR0_2, cR0_3, cR0_4, cR0_5, cV1, cR1_1, cR1_2, cR1_3, cR1_4, cR1_5, cR1_6, cR1_7, cI1_0, cI1_8, cP1_8, cI1_9, cP1_9, cV9, cR9_0, cR9_1, cV10, cV11, cV12, cR12_0, cR12_1, cR12_2, cR12_3, cR12_4, cR12_5, cR12_6, cV18, cR18_0, cR18_1, cR18_2, cR18_3, cR18_4, cI18_5, cP18_5, cI18_6, cP18_6, cV22, cR22_0, cR22_1, cI22_2, cP22_2, cI22_3, cP22_3, cI22_4, cP22_4, cV23, cR23_0, cR23_1, cR23_3, cR23_4, cR23_5, cR23_6, cR23_7, cR23_8, cR23_9, cR23_10, cI23_2, cP23_2, cR10_1, cI10_2, cR11_1, cI11_2, cL2, cS2, cL3, cS3, cL4, cS4, cL5, cS5, cL6, cS6, cL7, cS7, cL8, cS8, cL13, cS13, cL14, cS14, cL15, cS15, cL16, cS16, cL17, cS17, cL19, cS19, cL20, cS20, cL21, cS21, cL24, cS24, cL25, cS25, cL26, cS26, cL27, cS27, cL28, cS28, cL29, cS29, cL30, cS30, cL31, cS31, bV, bK, bI0, bI1, bI2, bI3, bI4, bI5, bI6, bI7, bI8, bI9, bI10, bR11, bR12, bR13, bP9, bP10, bL1, bS1, bL2, bS2, bL3, bS3, k_stationAt hw.1, bd_s]
  rw [iI_0]
  generalize stn κ b i = s at hs ⊢
  obtain ⟨τ, t1, t2⟩ := lp_rel (B := fun k20 u => fb_X4_countStanding_9 k20 u.1 u.2.1 u.2.2.1 u.2.2.2.1 u.2.2.2.2) (fun o (τ : Sg) => (some (A.x + 12), some (A.b b), iI s, iI (o : Int), CH h A τ)) (fun o τ => Ex [44] κ τ ∧ ∀ t : Nat, τ 44 t = κ 44 t + cntI (othP κ b s t) o) A.n (fun τ => some ((), CH h A τ))
    (fun o τ ho hI => by
      have hkt := hko.ex hI.1 (by decide)
      have hwt := hkt.1.1
      have e19 := hI.1 19 o (by decide)
      have e11o := hI.1 11 o (by decide)
      have e12o := hI.1 12 o (by decide)
      have esp : spS τ o s = spS κ o s := by unfold spS; rw [e11o, e12o]
      have elg : lgs τ o = lgs κ o := by unfold lgs; rw [e11o, e12o]
      have hlg := lgs_rng hw.1 (b := o) (by omega)
      have hsr : -1 ≤ spS κ o s ∧ spS κ o s ≤ 7 := by
        by_cases q : spS κ o s = -1
        · omega
        · have := spS_some q; omega
      have h19 := (hw.1.bid (b := o) (by omega)).2.2.2.2.2.2.2.2.2
      by_cases c : o ≠ b ∧ κ 19 o ≠ 0 ∧ 0 < spS κ o s ∧ spS κ o s < lgs κ o
      · obtain ⟨c1, c2, c3, c4⟩ := c
        have ecv : cv κ o (spS κ o s) = cmT κ o (spS κ o s) := hc o _ (by omega) c2 (by omega) (by omega)
        have hlv := lv_rng hw.1 (b := o) (i := spS κ o s) (by omega) (by omega) (by omega)
        have hlv2 := lv_rng hw.1 (b := o) (i := spS κ o s - 1) (by omega) (by omega) (by omega)
        have hln := lng_rng hw.1 (b := o) (i := spS κ o s - 1) (by omega) (by omega) (by omega)
        have hcm : 0 ≤ cmT κ o (spS κ o s) ∧ cmT κ o (spS κ o s) ≤ 300 := by unfold cmT; omega
        have inner : ∃ υ, (Ex [44] τ υ ∧ ∀ t : Nat, υ 44 t = τ 44 t + if cmT κ o (spS κ o s) ≤ t ∧ t < lv κ o (spS κ o s) then 1 else 0) ∧ ∀ k9, f_X4_countStanding_88 k9 (some (A.x + 12)) (some (A.b b)) (iI s) (iI (o : Int)) (some (A.b o)) (iI (spS κ o s)) (iI (cmT κ o (spS κ o s))) (CH h A τ) = f_X4_countStanding_118 k9 (some (A.x + 12)) (some (A.b b)) (iI s) (iI (o : Int)) (CH h A υ) := by
          generalize hsp : spS κ o s = p at *
          generalize hcq : cmT κ o p = q at *
          have fin : ∀ (d j : Nat) (υ : Sg), (j : Int) + d = (lv κ o p - q).toNat → Ex [44] τ υ → (∀ t : Nat, υ 44 t = τ 44 t + if q ≤ t ∧ (t : Int) < q + j then 1 else 0) → ∃ υ', (Ex [44] τ υ' ∧ ∀ t : Nat, υ' 44 t = τ 44 t + if q ≤ t ∧ (t : Int) < q + (lv κ o p - q).toNat then 1 else 0) ∧ ∀ k9 (n : Nat), d < n → lp (fun k88 u => fb_X4_countStanding_88 k9 k88 u.1 u.2.1 u.2.2.1 u.2.2.2.1 u.2.2.2.2.1 u.2.2.2.2.2.1 u.2.2.2.2.2.2.1 u.2.2.2.2.2.2.2) n (some (A.x + 12), some (A.b b), iI s, iI (o : Int), some (A.b o), iI p, iI (q + (j : Int)), CH h A υ) = f_X4_countStanding_118 k9 (some (A.x + 12)) (some (A.b b)) (iI s) (iI (o : Int)) (CH h A υ') := by
            intro d
            induction d with
            | zero =>
              intro j υ hj hx ht
              refine ⟨υ, ⟨hx, fun t => ?_⟩, fun k9 n hn => ?_⟩
              · rw [ht t]
                congr 2
                exact propext (by omega)
              · obtain ⟨n, rfl⟩ : ∃ k, n = k + 1 := ⟨n - 1, by omega⟩
                have elv : lv υ o p = lv κ o p := (hx 20 _ (by decide)).trans (hI.1 20 _ (by decide))
                rw [lp_succ]
                generalize lp _ n = kk
                show fb_X4_countStanding_88 k9 kk (some (A.x + 12)) (some (A.b b)) (iI s) (iI (o : Int)) (some (A.b o)) (iI p) (iI (q + (j : Int))) (CH h A υ) = _
                unfold fb_X4_countStanding_88
                simp (disch := omega) only [iL239, cV0, cR0_0, cR0_1, cR0_2, cR0_3, cR0_4, cR0_5, cV1, cR1_1, cR1_2, cR1_3, cR1_4, cR1_5, cR1_6, cR1_7, cI1_0, cI1_8, cP1_8, cI1_9, cP1_9, cV9, cR9_0, cR9_1, cV10, cV11, cV12, cR12_0, cR12_1, cR12_2, cR12_3, cR12_4, cR12_5, cR12_6, cV18, cR18_0, cR18_1, cR18_2, cR18_3, cR18_4, cI18_5, cP18_5, cI18_6, cP18_6, cV22, cR22_0, cR22_1, cI22_2, cP22_2, cI22_3, cP22_3, cI22_4, cP22_4, cV23, cR23_0, cR23_1, cR23_3, cR23_4, cR23_5, cR23_6, cR23_7, cR23_8, cR23_9, cR23_10, cI23_2, cP23_2, cR10_1, cI10_2, cR11_1, cI11_2, cL2, cS2, cL3, cS3, cL4, cS4, cL5, cS5, cL6, cS6, cL7, cS7, cL8, cS8, cL13, cS13, cL14, cS14, cL15, cS15, cL16, cS16, cL17, cS17, cL19, cS19, cL20, cS20, cL21, cS21, cL24, cS24, cL25, cS25, cL26, cS26, cL27, cS27, cL28, cS28, cL29, cS29, cL30, cS30, cL31, cS31, bV, bK, bI0, bI1, bI2, bI3, bI4, bI5, bI6, bI7, bI8, bI9, bI10, bR11, bR12, bR13, bP9, bP10, bL1, bS1, bL2, bS2, bL3, bS3, iI_0, iI_1, iI_neg, iL2, iL3, iL4, iL5, iL6, iL7, iL8, iL9, iL10, iL11, iL12, iL13, iL14, iL15, iL16, iL17, iL30, iL31, iL60, iL99, iL100, iL240, iL480, iL1000, iL1920, iL10000, iI_add, iI_sub, iI_mul, iI_div, iI_le, iI_lt, iI_eq, bd_s, elv]
                rw [if_pos (by omega)]
            | succ d ih =>
              intro j υ hj hx ht
              obtain ⟨υ', v1, v2⟩ := ih (j + 1) (sg υ 44 (q + (j : Int)).toNat (υ 44 (q + (j : Int)).toNat + 1)) (by omega) (hx.sg (by decide) _ _) (fun t => by
                by_cases e : t = (q + (j : Int)).toNat
                · subst e
                  rw [sg_eq, ht, if_neg (by omega), if_pos (by omega)]
                  omega
                · rw [sg_i _ _ _ e, ht t]
                  congr 2
                  exact propext (by omega))
              refine ⟨υ', v1, fun k9 n hn => ?_⟩
              obtain ⟨n, rfl⟩ : ∃ k, n = k + 1 := ⟨n - 1, by omega⟩
              have elv : lv υ o p = lv κ o p := (hx 20 _ (by decide)).trans (hI.1 20 _ (by decide))
              have v3 := v2 k9 n (by omega)
              rw [lp_succ]
              generalize lp _ n = kk at v3 ⊢
              show fb_X4_countStanding_88 k9 kk (some (A.x + 12)) (some (A.b b)) (iI s) (iI (o : Int)) (some (A.b o)) (iI p) (iI (q + (j : Int))) (CH h A υ) = _
              unfold fb_X4_countStanding_88
              simp (disch := omega) only [iL239, cV0, cR0_0, cR0_1, cR0_2, cR0_3, cR0_4, cR0_5, cV1, cR1_1, cR1_2, cR1_3, cR1_4, cR1_5, cR1_6, cR1_7, cI1_0, cI1_8, cP1_8, cI1_9, cP1_9, cV9, cR9_0, cR9_1, cV10, cV11, cV12, cR12_0, cR12_1, cR12_2, cR12_3, cR12_4, cR12_5, cR12_6, cV18, cR18_0, cR18_1, cR18_2, cR18_3, cR18_4, cI18_5, cP18_5, cI18_6, cP18_6, cV22, cR22_0, cR22_1, cI22_2, cP22_2, cI22_3, cP22_3, cI22_4, cP22_4, cV23, cR23_0, cR23_1, cR23_3, cR23_4, cR23_5, cR23_6, cR23_7, cR23_8, cR23_9, cR23_10, cI23_2, cP23_2, cR10_1, cI10_2, cR11_1, cI11_2, cL2, cS2, cL3, cS3, cL4, cS4, cL5, cS5, cL6, cS6, cL7, cS7, cL8, cS8, cL13, cS13, cL14, cS14, cL15, cS15, cL16, cS16, cL17, cS17, cL19, cS19, cL20, cS20, cL21, cS21, cL24, cS24, cL25, cS25, cL26, cS26, cL27, cS27, cL28, cS28, cL29, cS29, cL30, cS30, cL31, cS31, bV, bK, bI0, bI1, bI2, bI3, bI4, bI5, bI6, bI7, bI8, bI9, bI10, bR11, bR12, bR13, bP9, bP10, bL1, bS1, bL2, bS2, bL3, bS3, iI_0, iI_1, iI_neg, iL2, iL3, iL4, iL5, iL6, iL7, iL8, iL9, iL10, iL11, iL12, iL13, iL14, iL15, iL16, iL17, iL30, iL31, iL60, iL99, iL100, iL240, iL480, iL1000, iL1920, iL10000, iI_add, iI_sub, iI_mul, iI_div, iI_le, iI_lt, iI_eq, bd_s, elv]
              rw [if_neg (by omega), ← v3, Int.natCast_succ, Int.add_assoc]
          obtain ⟨υ, v1, v2⟩ := fin (lv κ o p - q).toNat 0 τ (by omega) (Ex.refl _ _) (fun t => by rw [if_neg (by omega)]; omega)
          refine ⟨υ, ⟨v1.1, fun t => ?_⟩, fun k9 => ?_⟩
          · rw [v1.2 t]
            congr 2
            exact propext (by omega)
          · have := v2 k9 FU (by rw [FU_eq]; omega)
            rw [show q + ((0 : Nat) : Int) = q by omega] at this
            exact this
        obtain ⟨υ, v1, v2⟩ := inner
        refine ⟨υ, ⟨hI.1.trans v1.1, fun t => ?_⟩, fun k => ?_⟩
        · rw [v1.2 t, hI.2 t]
          rw [cntI_s]
          by_cases q : cmT κ o (spS κ o s) ≤ t ∧ t < lv κ o (spS κ o s)
          · rw [if_pos q, if_pos (by simp only [othP, Bool.and_eq_true, decide_eq_true_eq, stds_sp]; exact ⟨⟨c1, c2⟩, c3, c4, q.1, q.2⟩)]
            omega
          · rw [if_neg q, if_neg (by simp only [othP, Bool.and_eq_true, decide_eq_true_eq, stds_sp]; rintro ⟨-, -, -, q5⟩; exact q q5)]
            omega
        · show fb_X4_countStanding_9 k (some (A.x + 12)) (some (A.b b)) (iI s) (iI (o : Int)) (CH h A τ) = _
          have ecv2 : cv τ o (spS κ o s) = cmT κ o (spS κ o s) := (hI.1 41 _ (by decide)).trans ecv
          unfold fb_X4_countStanding_9
          simp (maxSteps := 1000000) (disch := omega) only [iL239, cV0, cR0_0, cR0_1, cR0_2, cR0_3, cR0_4, cR0_5, cV1, cR1_1, cR1_2, cR1_3, cR1_4, cR1_5, cR1_6, cR1_7, cI1_0, cI1_8, cP1_8, cI1_9, cP1_9, cV9, cR9_0, cR9_1, cV10, cV11, cV12, cR12_0, cR12_1, cR12_2, cR12_3, cR12_4, cR12_5, cR12_6, cV18, cR18_0, cR18_1, cR18_2, cR18_3, cR18_4, cI18_5, cP18_5, cI18_6, cP18_6, cV22, cR22_0, cR22_1, cI22_2, cP22_2, cI22_3, cP22_3, cI22_4, cP22_4, cV23, cR23_0, cR23_1, cR23_3, cR23_4, cR23_5, cR23_6, cR23_7, cR23_8, cR23_9, cR23_10, cI23_2, cP23_2, cR10_1, cI10_2, cR11_1, cI11_2, cL2, cS2, cL3, cS3, cL4, cS4, cL5, cS5, cL6, cS6, cL7, cS7, cL8, cS8, cL13, cS13, cL14, cS14, cL15, cS15, cL16, cS16, cL17, cS17, cL19, cS19, cL20, cS20, cL21, cS21, cL24, cS24, cL25, cS25, cL26, cS26, cL27, cS27, cL28, cS28, cL29, cS29, cL30, cS30, cL31, cS31, bV, bK, bI0, bI1, bI2, bI3, bI4, bI5, bI6, bI7, bI8, bI9, bI10, bR11, bR12, bR13, bP9, bP10, bL1, bS1, bL2, bS2, bL3, bS3, iI_0, iI_1, iI_neg, iL2, iL3, iL4, iL5, iL6, iL7, iL8, iL9, iL10, iL11, iL12, iL13, iL14, iL15, iL16, iL17, iL30, iL31, iL60, iL99, iL100, iL240, iL480, iL1000, iL1920, iL10000, iI_add, iI_sub, iI_mul, iI_div, iI_le, iI_lt, iI_eq, bd_s, k_lsize, k_get hl, k_stepAtStation hwt, k_steps hwt, A.inj, esp, elg, e19, ecv2, Int.natCast_succ]
          rw [if_neg (by omega), if_neg c1, if_neg c2, if_neg (by omega), if_neg (by omega), v2]
          unfold f_X4_countStanding_118
          rw [iI_1, iI_add]
      · refine ⟨τ, ⟨hI.1, fun t => ?_⟩, fun k => ?_⟩
        · rw [hI.2 t]
          rw [cntI_s]
          rw [if_neg (by simp only [othP, Bool.and_eq_true, decide_eq_true_eq, stds_sp]; rintro ⟨⟨q1, q2⟩, q3, q4, -⟩; exact c ⟨q1, q2, q3, q4⟩)]
          omega
        · show fb_X4_countStanding_9 k (some (A.x + 12)) (some (A.b b)) (iI s) (iI (o : Int)) (CH h A τ) = _
          unfold fb_X4_countStanding_9 f_X4_countStanding_118
          simp (maxSteps := 1000000) (disch := omega) only [iL239, cV0, cR0_0, cR0_1, cR0_2, cR0_3, cR0_4, cR0_5, cV1, cR1_1, cR1_2, cR1_3, cR1_4, cR1_5, cR1_6, cR1_7, cI1_0, cI1_8, cP1_8, cI1_9, cP1_9, cV9, cR9_0, cR9_1, cV10, cV11, cV12, cR12_0, cR12_1, cR12_2, cR12_3, cR12_4, cR12_5, cR12_6, cV18, cR18_0, cR18_1, cR18_2, cR18_3, cR18_4, cI18_5, cP18_5, cI18_6, cP18_6, cV22, cR22_0, cR22_1, cI22_2, cP22_2, cI22_3, cP22_3, cI22_4, cP22_4, cV23, cR23_0, cR23_1, cR23_3, cR23_4, cR23_5, cR23_6, cR23_7, cR23_8, cR23_9, cR23_10, cI23_2, cP23_2, cR10_1, cI10_2, cR11_1, cI11_2, cL2, cS2, cL3, cS3, cL4, cS4, cL5, cS5, cL6, cS6, cL7, cS7, cL8, cS8, cL13, cS13, cL14, cS14, cL15, cS15, cL16, cS16, cL17, cS17, cL19, cS19, cL20, cS20, cL21, cS21, cL24, cS24, cL25, cS25, cL26, cS26, cL27, cS27, cL28, cS28, cL29, cS29, cL30, cS30, cL31, cS31, bV, bK, bI0, bI1, bI2, bI3, bI4, bI5, bI6, bI7, bI8, bI9, bI10, bR11, bR12, bR13, bP9, bP10, bL1, bS1, bL2, bS2, bL3, bS3, iI_0, iI_1, iI_neg, iL2, iL3, iL4, iL5, iL6, iL7, iL8, iL9, iL10, iL11, iL12, iL13, iL14, iL15, iL16, iL17, iL30, iL31, iL60, iL99, iL100, iL240, iL480, iL1000, iL1920, iL10000, iI_add, iI_sub, iI_mul, iI_div, iI_le, iI_lt, iI_eq, bd_s, k_lsize, k_get hl, k_stepAtStation hwt, k_steps hwt, A.inj, esp, elg, e19, Int.natCast_succ]
          rw [if_neg (by omega)]
          by_cases c1 : o = b
          · rw [if_pos c1]
          · rw [if_neg c1]
            by_cases c2 : κ 19 o = 0
            · rw [if_pos c2]
            · rw [if_neg c2]
              by_cases c3 : spS κ o s ≤ 0
              · rw [if_pos c3]
              · rw [if_neg c3, if_pos]
                by_cases c4 : lgs κ o ≤ spS κ o s
                · exact c4
                · exact absurd ⟨c1, c2, by omega, by omega⟩ c)
    (fun τ k hI => by
      show fb_X4_countStanding_9 k (some (A.x + 12)) (some (A.b b)) (iI s) (iI (A.n : Int)) (CH h A τ) = _
      unfold fb_X4_countStanding_9
      simp (disch := omega) only [iL239, cV0, cR0_0, cR0_1, cR0_2, cR0_3, cR0_4, cR0_5, cV1, cR1_1, cR1_2, cR1_3, cR1_4, cR1_5, cR1_6, cR1_7, cI1_0, cI1_8, cP1_8, cI1_9, cP1_9, cV9, cR9_0, cR9_1, cV10, cV11, cV12, cR12_0, cR12_1, cR12_2, cR12_3, cR12_4, cR12_5, cR12_6, cV18, cR18_0, cR18_1, cR18_2, cR18_3, cR18_4, cI18_5, cP18_5, cI18_6, cP18_6, cV22, cR22_0, cR22_1, cI22_2, cP22_2, cI22_3, cP22_3, cI22_4, cP22_4, cV23, cR23_0, cR23_1, cR23_3, cR23_4, cR23_5, cR23_6, cR23_7, cR23_8, cR23_9, cR23_10, cI23_2, cP23_2, cR10_1, cI10_2, cR11_1, cI11_2, cL2, cS2, cL3, cS3, cL4, cS4, cL5, cS5, cL6, cS6, cL7, cS7, cL8, cS8, cL13, cS13, cL14, cS14, cL15, cS15, cL16, cS16, cL17, cS17, cL19, cS19, cL20, cS20, cL21, cS21, cL24, cS24, cL25, cS25, cL26, cS26, cL27, cS27, cL28, cS28, cL29, cS29, cL30, cS30, cL31, cS31, bV, bK, bI0, bI1, bI2, bI3, bI4, bI5, bI6, bI7, bI8, bI9, bI10, bR11, bR12, bR13, bP9, bP10, bL1, bS1, bL2, bS2, bL3, bS3, iI_0, iI_1, iI_neg, iL2, iL3, iL4, iL5, iL6, iL7, iL8, iL9, iL10, iL11, iL12, iL13, iL14, iL15, iL16, iL17, iL30, iL31, iL60, iL99, iL100, iL240, iL480, iL1000, iL1920, iL10000, iI_add, iI_sub, iI_mul, iI_div, iI_le, iI_lt, iI_eq, bd_s, k_lsize]
      rw [if_pos (by omega)]
      rfl) A.n 0 FU κ (by omega) (by rw [FU_eq]; omega) ⟨Ex.refl _ _, fun t => by simp [cntI]⟩
  exact ⟨τ, t1.1, t1.2, t2⟩
theorem k_clearComings (hk : KO h A κ ρ) {b : Nat} (hb : b < A.n) {i : Nat} (i1 : i < 8) : ∃ τ, Ex [42] κ τ ∧ (∀ u : Nat, u < 240 * i → τ 42 u = κ 42 u) ∧ (∀ t : Nat, κ 14 b ≤ t → t ≤ κ 15 b → τ 42 (240 * i + t) = 0) ∧ f_X4_clearComings (A.x + 12) (some (A.b b)) (iI i) (CH h A κ) = some ((), CH h A τ) := by
  obtain ⟨hw, hl, hn⟩ := hk
  have h16 := hl.1
  obtain ⟨-, -, -, -, g14, g15, -⟩ := hw.1.bid (b := b) (by omega)
  unfold f_X4_clearComings f_X4_clearComings_5
  simp (disch := omega) only [iL239, cV0, cR0_0, cR0_1, cR0_2, cR0_3, cR0_4, cR0_5, cV1, cR1_1, cR1_2, cR1_3, cR1_4, cR1_5, cR1_6, cR1_7, cI1_0, cI1_8, cP1_8, cI1_9, cP1_9, cV9, cR9_0, cR9_1, cV10, cV11, cV12, cR12_0, cR12_1, cR12_2, cR12_3, cR12_4, cR12_5, cR12_6, cV18, cR18_0, cR18_1, cR18_2, cR18_3, cR18_4, cI18_5, cP18_5, cI18_6, cP18_6, cV22, cR22_0, cR22_1, cI22_2, cP22_2, cI22_3, cP22_3, cI22_4, cP22_4, cV23, cR23_0, cR23_1, cR23_3, cR23_4, cR23_5, cR23_6, cR23_7, cR23_8, cR23_9, cR23_10, cI23_2, cP23_2, cR10_1, cI10_2, cR11_1, cI11_2, cL2, cS2, cL3, cS3, cL4, cS4, cL5, cS5, cL6, cS6, cL7, cS7, cL8, cS8, cL13, cS13, cL14, cS14, cL15, cS15, cL16, cS16, cL17, cS17, cL19, cS19, cL20, cS20, cL21, cS21, cL24, cS24, cL25, cS25, cL26, cS26, cL27, cS27, cL28, cS28, cL29, cS29, cL30, cS30, cL31, cS31, bV, bK, bI0, bI1, bI2, bI3, bI4, bI5, bI6, bI7, bI8, bI9, bI10, bR11, bR12, bR13, bP9, bP10, bL1, bS1, bL2, bS2, bL3, bS3]
  obtain ⟨τ, t1, t2⟩ := lp_rel (B := fun k5 u => fb_X4_clearComings_5 k5 u.1 u.2.1 u.2.2.1 u.2.2.2.1 u.2.2.2.2) (fun j (τ : Sg) => (some (A.x + 12), some (A.b b), iI (i : Int), iI (κ 14 b + (j : Int)), CH h A τ)) (fun j τ => Ex [42] κ τ ∧ (∀ u : Nat, u < 240 * i → τ 42 u = κ 42 u) ∧ ∀ t : Nat, κ 14 b ≤ t → (t : Int) < κ 14 b + j → τ 42 (240 * i + t) = 0) (κ 15 b + 1 - κ 14 b).toNat (fun τ => some ((), CH h A τ))
    (fun j τ hj hI => by
      have e15 := hI.1 15 b (by decide)
      refine ⟨sg τ 42 ((i : Int) * 240 + (κ 14 b + j)).toNat 0, ⟨hI.1.sg (by decide) _ _, fun u hu => ?_, fun t h1 h2 => ?_⟩, fun k => ?_⟩
      · rw [sg_i _ _ _ (by omega)]
        exact hI.2.1 u hu
      · by_cases ht : 240 * i + t = ((i : Int) * 240 + (κ 14 b + j)).toNat
        · rw [ht, sg_eq]
        · rw [sg_i _ _ _ ht]
          exact hI.2.2 t h1 (by omega)
      · show fb_X4_clearComings_5 k (some (A.x + 12)) (some (A.b b)) (iI (i : Int)) (iI (κ 14 b + (j : Int))) (CH h A τ) = _
        unfold fb_X4_clearComings_5
        simp (disch := omega) only [iL239, cV0, cR0_0, cR0_1, cR0_2, cR0_3, cR0_4, cR0_5, cV1, cR1_1, cR1_2, cR1_3, cR1_4, cR1_5, cR1_6, cR1_7, cI1_0, cI1_8, cP1_8, cI1_9, cP1_9, cV9, cR9_0, cR9_1, cV10, cV11, cV12, cR12_0, cR12_1, cR12_2, cR12_3, cR12_4, cR12_5, cR12_6, cV18, cR18_0, cR18_1, cR18_2, cR18_3, cR18_4, cI18_5, cP18_5, cI18_6, cP18_6, cV22, cR22_0, cR22_1, cI22_2, cP22_2, cI22_3, cP22_3, cI22_4, cP22_4, cV23, cR23_0, cR23_1, cR23_3, cR23_4, cR23_5, cR23_6, cR23_7, cR23_8, cR23_9, cR23_10, cI23_2, cP23_2, cR10_1, cI10_2, cR11_1, cI11_2, cL2, cS2, cL3, cS3, cL4, cS4, cL5, cS5, cL6, cS6, cL7, cS7, cL8, cS8, cL13, cS13, cL14, cS14, cL15, cS15, cL16, cS16, cL17, cS17, cL19, cS19, cL20, cS20, cL21, cS21, cL24, cS24, cL25, cS25, cL26, cS26, cL27, cS27, cL28, cS28, cL29, cS29, cL30, cS30, cL31, cS31, bV, bK, bI0, bI1, bI2, bI3, bI4, bI5, bI6, bI7, bI8, bI9, bI10, bR11, bR12, bR13, bP9, bP10, bL1, bS1, bL2, bS2, bL3, bS3, iI_0, iI_1, iI_neg, iL2, iL3, iL4, iL5, iL6, iL7, iL8, iL9, iL10, iL11, iL12, iL13, iL14, iL15, iL16, iL17, iL30, iL31, iL60, iL99, iL100, iL240, iL480, iL1000, iL1920, iL10000, iI_add, iI_sub, iI_mul, iI_div, iI_le, iI_lt, iI_eq, bd_s, e15, Int.natCast_succ]
        rw [if_neg (by omega)]
        congr 5
        rw [Int.add_assoc])
    (fun τ k hI => by
      have e15 := hI.1 15 b (by decide)
      show fb_X4_clearComings_5 k (some (A.x + 12)) (some (A.b b)) (iI (i : Int)) (iI (κ 14 b + ((κ 15 b + 1 - κ 14 b).toNat : Int))) (CH h A τ) = _
      unfold fb_X4_clearComings_5
      simp (disch := omega) only [iL239, cV0, cR0_0, cR0_1, cR0_2, cR0_3, cR0_4, cR0_5, cV1, cR1_1, cR1_2, cR1_3, cR1_4, cR1_5, cR1_6, cR1_7, cI1_0, cI1_8, cP1_8, cI1_9, cP1_9, cV9, cR9_0, cR9_1, cV10, cV11, cV12, cR12_0, cR12_1, cR12_2, cR12_3, cR12_4, cR12_5, cR12_6, cV18, cR18_0, cR18_1, cR18_2, cR18_3, cR18_4, cI18_5, cP18_5, cI18_6, cP18_6, cV22, cR22_0, cR22_1, cI22_2, cP22_2, cI22_3, cP22_3, cI22_4, cP22_4, cV23, cR23_0, cR23_1, cR23_3, cR23_4, cR23_5, cR23_6, cR23_7, cR23_8, cR23_9, cR23_10, cI23_2, cP23_2, cR10_1, cI10_2, cR11_1, cI11_2, cL2, cS2, cL3, cS3, cL4, cS4, cL5, cS5, cL6, cS6, cL7, cS7, cL8, cS8, cL13, cS13, cL14, cS14, cL15, cS15, cL16, cS16, cL17, cS17, cL19, cS19, cL20, cS20, cL21, cS21, cL24, cS24, cL25, cS25, cL26, cS26, cL27, cS27, cL28, cS28, cL29, cS29, cL30, cS30, cL31, cS31, bV, bK, bI0, bI1, bI2, bI3, bI4, bI5, bI6, bI7, bI8, bI9, bI10, bR11, bR12, bR13, bP9, bP10, bL1, bS1, bL2, bS2, bL3, bS3, iI_0, iI_1, iI_neg, iL2, iL3, iL4, iL5, iL6, iL7, iL8, iL9, iL10, iL11, iL12, iL13, iL14, iL15, iL16, iL17, iL30, iL31, iL60, iL99, iL100, iL240, iL480, iL1000, iL1920, iL10000, iI_add, iI_sub, iI_mul, iI_div, iI_le, iI_lt, iI_eq, bd_s, e15]
      rw [if_pos (by omega)]
      rfl) (κ 15 b + 1 - κ 14 b).toNat 0 FU κ (by omega) (by rw [FU_eq]; omega) ⟨Ex.refl _ _, fun _ _ => rfl, fun t h1 h2 => by omega⟩
  refine ⟨τ, t1.1, t1.2.1, fun t h1 h2 => t1.2.2 t h1 (by omega), ?_⟩
  rw [show κ 14 b + ((0 : Nat) : Int) = κ 14 b by omega] at t2
  exact t2
end
