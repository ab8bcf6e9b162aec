section
variable {h : Hp} {m : Nat} {σ : Sg}
theorem b2T (x : Bool) : (b2 (x = true) = 0 ∨ b2 (x = true) = 1) := b2_01 _
set_option maxHeartbeats 4000000 in
theorem s_seeks120 (hw : WF σ) (b i t : Nat) (hb : b < 16) (hi : (i : Int) < lgs σ b) (ht : t < 240) (n : Int) (hn : n = lgs σ b) (is : Bool) (his : rdy σ b i t = is) (k30 : Option Nat × Int32 × Int32 × Int32 × Hp → Option (Int32 × Hp)) (k41 : Option Nat × Int32 × Int32 × Int32 × Int32 × Int32 × Hp → Option (Int32 × Hp)) :
    f_X8_seeks_120 k30 k41 (some m) (iI b) (iI n) (iI i) (iI (b2 (is = true))) (iI t) (MH h m (sF σ 22 (CR σ b i t))) = k41 (some m, iI b, iI n, iI i, iI (b2 (is = true)), iI ((t : Int) + 1), MH h m (sF σ 22 (CR σ b i (t + 1)))) := by
  have hlg := lgs_rng hw hb
  have hln := lng_rng hw hb (i := i) (by omega) hi
  have hw2 : WF (sF σ 22 (CR σ b i t)) := hw
  have hi2 : (i : Int) < lgs (sF σ 22 (CR σ b i t)) b := hi
  have eL := s_longOf (h := h) (m := m) hw2 b hb i (by omega) hi2
  rw [show lng (sF σ 22 (CR σ b i t)) b i = lng σ b i from rfl] at eL
  have eC := s_canLeave (h := h) (m := m) hw2 b hb i t (by omega) hi2 (by omega)
  rw [show canL (sF σ 22 (CR σ b i t)) b i t = canL σ b i t from rfl] at eC
  have eS := CR_step σ b i t (lng σ b i) rfl (by omega) (by omega) ht
  unfold f_X8_seeks_120 f_X8_seeks_171
  simp (disch := omega) only [rcv_M, mR0, mS0, mR1, mL1, mS1, mR2, mL2, mS2, mR3, mL3, mS3, mR4, mS4, mR5, mS5, mR6, mL6, mS6, mR7, mL7, mS7, mR8, mL8, mS8, mR9, mS9, mR10, mL10, mS10, mR11, mL11, mS11, mR12, mL12, mS12, mR13, mL13, mS13, mR14, mL14, mS14, mR15, mL15, mS15, mR16, mL16, mS16, mR17, mL17, mS17, mR18, mL18, mS18, mR19, mL19, mS19, mR20, mL20, mS20, mR21, mL21, mS21, mR22, mL22, mS22, mR23, mL23, mS23, mR24, mL24, mS24, mR25, mL25, mS25, mR26, mL26, mS26, mR27, mL27, mS27, mR28, mL28, mS28, mR29, mL29, mS29, mR30, mL30, mS30, mR31, mL31, mS31, mR32, mL32, mS32, mR33, mL33, mS33, iI_0, iI_1, iI_neg, iL2, iL3, iL4, iL5, iL6, iL7, iL8, iL9, iL10, iL11, iL12, iL13, iL14, iL15, iL16, iL17, iL30, iL31, iL60, iL99, iL100, iL240, iL480, iL1000, iL1920, iL10000, iI_add, iI_sub, iI_mul, iI_div, iI_le, iI_lt, iI_eq, bd_s, eL, eC, iI_b2]
  cases is with
  | false =>
    rw [if_pos (by simp), eS, if_neg (by rw [his]; simp)]
  | true =>
    rw [if_neg (by simp)]
    by_cases c1 : 240 ≤ (t : Int) + lng σ b i
    · rw [if_pos c1, eS, if_neg (fun z => by omega)]
    · rw [if_neg c1]
      cases hc : canL σ b i t with
      | false => rw [if_pos (by simp), eS, if_neg (by rw [hc]; simp)]
      | true =>
        rw [if_neg (by simp), eS, if_pos ⟨⟨his, by omega⟩, hc⟩]
        rw [sg_sF]
        rw [show (240 * ((i : Int) + 1) + ((t : Int) + lng σ b i)).toNat = 240 * (i + 1) + t + (lng σ b i).toNat by omega]
theorem rdy_0 (σ : Sg) (b t : Nat) : rdy σ b 0 t = decide (σ 14 b ≤ t) := rfl
theorem rdy_p0 (σ : Sg) (b i : Nat) : rdy σ b (i + 1) 0 = cmg σ b (i + 1) 0 := rfl
theorem rdy_ps (σ : Sg) (b i t : Nat) : rdy σ b (i + 1) (t + 1) = (cmg σ b (i + 1) (t + 1) || (rdy σ b (i + 1) t && canS σ b (stn σ b (i + 1 : Nat)) t)) := rfl
theorem CR_row (σ : Sg) (b i t u : Nat) (hi : 1 ≤ i) (hi2 : i < 8) (hu : u < 240) : CR σ b i t (240 * i + u) = b2 (cmg σ b i u = true) := by
  unfold CR
  rw [if_pos (by omega), show (240 * i + u) / 240 = i by omega, show (240 * i + u) % 240 = u by omega, if_neg (by omega), if_pos (Nat.le_refl _)]
theorem stn_rng (hw : WF σ) {b : Nat} (hb : b < 16) {i : Int} (h0 : 0 ≤ i) (h1 : i ≤ lgs σ b) : 0 ≤ stn σ b i ∧ stn σ b i < 8 := by
  obtain ⟨-, g1, g2, -⟩ := hw.bid hb
  unfold lgs at h1
  unfold stn
  split at h1 <;> omega
set_option maxHeartbeats 4000000 in
theorem s_seeks41 (hw : WF σ) (b i : Nat) (hb : b < 16) (hi : (i : Int) < lgs σ b) (n : Int) (hn : n = lgs σ b) (k30 : Option Nat × Int32 × Int32 × Int32 × Hp → Option (Int32 × Hp)) :
    f_X8_seeks_41 k30 (some m) (iI b) (iI n) (iI i) (iI 0) (iI 0) (MH h m (sF σ 22 (CR σ b i 0))) = k30 (some m, iI b, iI n, iI ((i : Int) + 1), MH h m (sF σ 22 (CR σ b (i + 1) 0))) := by
  have hlg := lgs_rng hw hb
  have hln := lng_rng hw hb (i := i) (by omega) hi
  have h14 := (hw.bid hb).2.2.2.2.1
  unfold f_X8_seeks_41
  refine lp_count (B := fun k41 u => fb_X8_seeks_41 k30 k41 u.1 u.2.1 u.2.2.1 u.2.2.2.1 u.2.2.2.2.1 u.2.2.2.2.2.1 u.2.2.2.2.2.2) (fun t => (some m, iI b, iI n, iI i, iI (isP σ b i t), iI (t : Int), MH h m (sF σ 22 (CR σ b i t)))) 240 _ (fun t ht k => ?_) (fun k => ?_) 240 0 FU (by omega) (by rw [FU_eq]; omega)
  · show fb_X8_seeks_41 k30 k (some m) (iI b) (iI n) (iI i) (iI (isP σ b i t)) (iI (t : Int)) (MH h m (sF σ 22 (CR σ b i t))) = k (some m, iI b, iI n, iI i, iI (isP σ b i (t + 1)), iI ((t + 1 : Nat) : Int), MH h m (sF σ 22 (CR σ b i (t + 1))))
    have key : ∀ is : Bool, rdy σ b i t = is → f_X8_seeks_120 k30 k (some m) (iI b) (iI n) (iI i) (iI (b2 (is = true))) (iI t) (MH h m (sF σ 22 (CR σ b i t))) = k (some m, iI b, iI n, iI i, iI (isP σ b i (t + 1)), iI ((t + 1 : Nat) : Int), MH h m (sF σ 22 (CR σ b i (t + 1)))) := by
      intro is his
      rw [s_seeks120 hw b i t hb hi ht n hn is his]
      show _ = k (some m, iI b, iI n, iI i, iI (b2 (rdy σ b i t = true)), iI ((t : Int) + 1), _)
      rw [his]
    have key1 : rdy σ b i t = true → f_X8_seeks_120 k30 k (some m) (iI b) (iI n) (iI i) (iI 1) (iI t) (MH h m (sF σ 22 (CR σ b i t))) = k (some m, iI b, iI n, iI i, iI (isP σ b i (t + 1)), iI ((t + 1 : Nat) : Int), MH h m (sF σ 22 (CR σ b i (t + 1)))) := fun z => key true z
    have key0 : rdy σ b i t = false → f_X8_seeks_120 k30 k (some m) (iI b) (iI n) (iI i) (iI 0) (iI t) (MH h m (sF σ 22 (CR σ b i t))) = k (some m, iI b, iI n, iI i, iI (isP σ b i (t + 1)), iI ((t + 1 : Nat) : Int), MH h m (sF σ 22 (CR σ b i (t + 1)))) := fun z => key false z
    have e14 : sF σ 22 (CR σ b i t) 14 b = σ 14 b := rfl
    unfold fb_X8_seeks_41 f_X8_seeks_69 f_X8_seeks_117 f_X8_seeks_113 f_X8_seeks_118
    simp (disch := omega) only [rcv_M, mR0, mS0, mR1, mL1, mS1, mR2, mL2, mS2, mR3, mL3, mS3, mR4, mS4, mR5, mS5, mR6, mL6, mS6, mR7, mL7, mS7, mR8, mL8, mS8, mR9, mS9, mR10, mL10, mS10, mR11, mL11, mS11, mR12, mL12, mS12, mR13, mL13, mS13, mR14, mL14, mS14, mR15, mL15, mS15, mR16, mL16, mS16, mR17, mL17, mS17, mR18, mL18, mS18, mR19, mL19, mS19, mR20, mL20, mS20, mR21, mL21, mS21, mR22, mL22, mS22, mR23, mL23, mS23, mR24, mL24, mS24, mR25, mL25, mS25, mR26, mL26, mS26, mR27, mL27, mS27, mR28, mL28, mS28, mR29, mL29, mS29, mR30, mL30, mS30, mR31, mL31, mS31, mR32, mL32, mS32, mR33, mL33, mS33, iI_0, iI_1, iI_neg, iL2, iL3, iL4, iL5, iL6, iL7, iL8, iL9, iL10, iL11, iL12, iL13, iL14, iL15, iL16, iL17, iL30, iL31, iL60, iL99, iL100, iL240, iL480, iL1000, iL1920, iL10000, iI_add, iI_sub, iI_mul, iI_div, iI_le, iI_lt, iI_eq, bd_s, Int.toNat_natCast, e14]
    rw [if_neg (by omega)]
    by_cases ci : (i : Int) = 0
    · rw [if_pos ci]
      have ei : i = 0 := by omega
      by_cases c2 : (t : Int) < σ 14 b
      · rw [if_pos c2]
        exact key0 (by rw [ei, rdy_0]; simp; omega)
      · rw [if_neg c2]
        exact key1 (by rw [ei, rdy_0]; simp; omega)
    · rw [if_neg ci]
      obtain ⟨i', rfl⟩ : ∃ i', i = i' + 1 := ⟨i - 1, by omega⟩
      have e22 : sF σ 22 (CR σ b (i' + 1) t) 22 (240 * ((i' + 1 : Nat) : Int) + (t : Int)).toNat = b2 (cmg σ b (i' + 1) t = true) := by
        rw [sF_at, show (240 * ((i' + 1 : Nat) : Int) + (t : Int)).toNat = 240 * (i' + 1) + t by omega, CR_row _ _ _ _ _ (by omega) (by omega) ht]
      rw [e22]
      simp only [iI_b2]
      cases hc : cmg σ b (i' + 1) t with
      | true =>
        rw [if_neg (by simp)]
        refine key1 ?_
        cases t with
        | zero => rw [rdy_p0, hc]
        | succ t => rw [rdy_ps, hc]; rfl
      | false =>
        rw [if_pos (by simp)]
        cases t with
        | zero =>
          rw [if_pos (show iI (isP σ b (i' + 1) 0) = iI 0 from rfl)]
          exact key0 (by rw [rdy_p0, hc])
        | succ t =>
          show (if iI (b2 (rdy σ b (i' + 1) t = true)) = iI 0 then _ else _) = _
          simp only [iI_b2]
          cases hr : rdy σ b (i' + 1) t with
          | false =>
            rw [if_pos (by simp)]
            exact key0 (by rw [rdy_ps, hc, hr]; rfl)
          | true =>
            rw [if_neg (by simp)]
            have hst := stn_rng hw hb (i := ((i' + 1 : Nat) : Int)) (by omega) (by omega)
            have hw2 : WF (sF σ 22 (CR σ b (i' + 1) (t + 1))) := hw
            have eA := s_stationOf (h := h) (m := m) hw2 b hb ((i' + 1 : Nat) : Int) (by omega)
            rw [show stn (sF σ 22 (CR σ b (i' + 1) (t + 1))) b ((i' + 1 : Nat) : Int) = stn σ b ((i' + 1 : Nat) : Int) from rfl] at eA
            have eB := s_canStand (h := h) (m := m) hw2 b hb (stn σ b ((i' + 1 : Nat) : Int)) ((t + 1 : Nat) - 1 : Int) hst (by omega)
            rw [show canS (sF σ 22 (CR σ b (i' + 1) (t + 1))) b (stn σ b ((i' + 1 : Nat) : Int)) ((t + 1 : Nat) - 1 : Int) = canS σ b (stn σ b ((i' + 1 : Nat) : Int)) ((t + 1 : Nat) - 1 : Int) from rfl] at eB
            rw [eA, bd_s, rcv_M, eB, bd_s]
            simp only [iI_b2]
            have et : (((t + 1 : Nat) : Int) - 1) = t := by omega
            rw [et]
            cases hs : canS σ b (stn σ b ((i' + 1 : Nat) : Int)) t with
            | false =>
              rw [if_pos (by simp)]
              exact key0 (by rw [rdy_ps, hc, hr, hs]; rfl)
            | true =>
              rw [if_neg (by simp)]
              exact key1 (by rw [rdy_ps, hc, hr, hs]; rfl)
  · show fb_X8_seeks_41 k30 k (some m) (iI b) (iI n) (iI i) (iI (isP σ b i 240)) (iI ((240 : Nat) : Int)) (MH h m (sF σ 22 (CR σ b i 240))) = _
    unfold fb_X8_seeks_41
    simp (disch := omega) only [iI_0, iI_1, iI_neg, iL2, iL3, iL4, iL5, iL6, iL7, iL8, iL9, iL10, iL11, iL12, iL13, iL14, iL15, iL16, iL17, iL30, iL31, iL60, iL99, iL100, iL240, iL480, iL1000, iL1920, iL10000, iI_add, iI_sub, iI_mul, iI_div, iI_le, iI_lt, iI_eq, bd_s]
    rw [if_pos (by omega), CR_end σ b i (by omega)]
end
