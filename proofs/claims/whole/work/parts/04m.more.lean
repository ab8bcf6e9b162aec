def sumI (f : Nat → Int) : Nat → Int
  | 0 => 0
  | n + 1 => sumI f n + f n
theorem sumI_rng {f : Nat → Int} {c : Int} (hc : 0 ≤ c) : ∀ {n : Nat}, (∀ j, j < n → 0 ≤ f j ∧ f j ≤ c) → 0 ≤ sumI f n ∧ sumI f n ≤ n * c
  | 0, _ => by simp [sumI]
  | n + 1, h => by
    have h1 := sumI_rng hc (n := n) (fun j hj => h j (by omega))
    have h2 := h n (by omega)
    have e : ((n + 1 : Nat) : Int) * c = n * c + c := by rw [Int.natCast_succ, Int.add_mul, Int.one_mul]
    unfold sumI
    rw [e]
    omega
def gvn (σ : Sg) (b : Nat) : Bool := decide (σ 19 b ≠ 0)
def cntG (σ : Sg) : Int := cntI (gvn σ) (σ 9 0).toNat
def wrt (σ : Sg) (b : Nat) : Int := if σ 19 b = 0 then 0 else σ 16 b
def sumW (σ : Sg) : Int := sumI (wrt σ) (σ 9 0).toNat
section
variable {h : Hp} {m : Nat} {σ : Sg}
theorem wrt_rng (hw : WF σ) {b : Nat} (hb : b < 16) : 0 ≤ wrt σ b ∧ wrt σ b ≤ 1000 := by
  have := (hw.bid hb).2.2.2.2.2.2.1
  unfold wrt
  split <;> omega
theorem s_count2 (hw : WF σ) : f_X8_count_52 (some m) (iI 0) (iI 0) (MH h m σ) = some (iI (cntG σ), MH h m σ) := by
  have h9 := hw.2.2.2.1
  have hcr := cntI_rng (gvn σ)
  unfold f_X8_count_52
  refine lp_count (B := fun k2 u => fb_X8_count_52 k2 u.1 u.2.1 u.2.2.1 u.2.2.2) (fun o => (some m, iI (cntI (gvn σ) o), iI (o : Int), MH h m σ)) (σ 9 0).toNat _ (fun o ho k => ?_) (fun k => ?_) (σ 9 0).toNat 0 FU (by omega) (by rw [FU_eq]; omega)
  · have hco := hcr o
    have hg := (hw.bid (b := o) (by omega)).2.2.2.2.2.2.2.2.2
    show fb_X8_count_52 k (some m) (iI (cntI (gvn σ) o)) (iI (o : Int)) (MH h m σ) = k (some m, iI (cntI (gvn σ) (o + 1)), iI ((o + 1 : Nat) : Int), MH h m σ)
    unfold fb_X8_count_52 f_X8_count_75
    simp (disch := omega) only [rcv_M, mR0, mS0, mR1, mL1, mS1, mR2, mL2, mS2, mR3, mL3, mS3, mR4, mS4, mR5, mS5, mR6, mL6, mS6, mR7, mL7, mS7, mR8, mL8, mS8, mR9, mS9, mR10, mL10, mS10, mR11, mL11, mS11, mR12, mL12, mS12, mR13, mL13, mS13, mR14, mL14, mS14, mR15, mL15, mS15, mR16, mL16, mS16, mR17, mL17, mS17, mR18, mL18, mS18, mR19, mL19, mS19, mR20, mL20, mS20, mR21, mL21, mS21, mR22, mL22, mS22, mR23, mL23, mS23, mR24, mL24, mS24, mR25, mL25, mS25, mR26, mL26, mS26, mR27, mL27, mS27, mR28, mL28, mS28, mR29, mL29, mS29, mR30, mL30, mS30, mR31, mL31, mS31, mR32, mL32, mS32, mR33, mL33, mS33, iI_0, iI_1, iI_neg, iL2, iL3, iL4, iL5, iL6, iL7, iL8, iL9, iL10, iL11, iL12, iL13, iL14, iL15, iL16, iL17, iL30, iL31, iL60, iL99, iL100, iL240, iL480, iL1000, iL1920, iL10000, iI_add, iI_sub, iI_mul, iI_div, iI_le, iI_lt, iI_eq, bd_s, Int.toNat_natCast, Int.natCast_succ, cntI]
    rw [if_neg (by omega)]
    by_cases c : σ 19 o = 0
    · rw [if_pos c, show gvn σ o = false by simp [gvn, c]]
      simp
    · rw [if_neg c, show gvn σ o = true by simp [gvn, c]]
      simp
  · have hco := hcr (σ 9 0).toNat
    show fb_X8_count_52 k (some m) (iI (cntI (gvn σ) (σ 9 0).toNat)) (iI ((σ 9 0).toNat : Int)) (MH h m σ) = _
    unfold fb_X8_count_52
    simp (disch := omega) only [rcv_M, mR0, mS0, mR1, mL1, mS1, mR2, mL2, mS2, mR3, mL3, mS3, mR4, mS4, mR5, mS5, mR6, mL6, mS6, mR7, mL7, mS7, mR8, mL8, mS8, mR9, mS9, mR10, mL10, mS10, mR11, mL11, mS11, mR12, mL12, mS12, mR13, mL13, mS13, mR14, mL14, mS14, mR15, mL15, mS15, mR16, mL16, mS16, mR17, mL17, mS17, mR18, mL18, mS18, mR19, mL19, mS19, mR20, mL20, mS20, mR21, mL21, mS21, mR22, mL22, mS22, mR23, mL23, mS23, mR24, mL24, mS24, mR25, mL25, mS25, mR26, mL26, mS26, mR27, mL27, mS27, mR28, mL28, mS28, mR29, mL29, mS29, mR30, mL30, mS30, mR31, mL31, mS31, mR32, mL32, mS32, mR33, mL33, mS33, iI_0, iI_1, iI_neg, iL2, iL3, iL4, iL5, iL6, iL7, iL8, iL9, iL10, iL11, iL12, iL13, iL14, iL15, iL16, iL17, iL30, iL31, iL60, iL99, iL100, iL240, iL480, iL1000, iL1920, iL10000, iI_add, iI_sub, iI_mul, iI_div, iI_le, iI_lt, iI_eq, bd_s]
    rw [if_pos (by omega)]
    rfl
theorem sumW_rng (hw : WF σ) {n : Nat} (hn : n ≤ 16) : 0 ≤ sumI (wrt σ) n ∧ sumI (wrt σ) n ≤ 16000 := by
  have := sumI_rng (f := wrt σ) (c := 1000) (by omega) (n := n) (fun j hj => wrt_rng hw (by omega))
  omega
theorem s_count3 (hw : WF σ) : f_X8_count_87 (some m) (iI 0) (iI 0) (MH h m σ) = some (iI (sumW σ), MH h m σ) := by
  have h9 := hw.2.2.2.1
  unfold f_X8_count_87
  refine lp_count (B := fun k2 u => fb_X8_count_87 k2 u.1 u.2.1 u.2.2.1 u.2.2.2) (fun o => (some m, iI (sumI (wrt σ) o), iI (o : Int), MH h m σ)) (σ 9 0).toNat _ (fun o ho k => ?_) (fun k => ?_) (σ 9 0).toNat 0 FU (by omega) (by rw [FU_eq]; omega)
  · have hg := hw.bid (b := o) (by omega)
    have hsr := sumW_rng hw (n := o) (by omega)
    show fb_X8_count_87 k (some m) (iI (sumI (wrt σ) o)) (iI (o : Int)) (MH h m σ) = k (some m, iI (sumI (wrt σ) (o + 1)), iI ((o + 1 : Nat) : Int), MH h m σ)
    unfold fb_X8_count_87 f_X8_count_115
    simp (disch := omega) only [rcv_M, mR0, mS0, mR1, mL1, mS1, mR2, mL2, mS2, mR3, mL3, mS3, mR4, mS4, mR5, mS5, mR6, mL6, mS6, mR7, mL7, mS7, mR8, mL8, mS8, mR9, mS9, mR10, mL10, mS10, mR11, mL11, mS11, mR12, mL12, mS12, mR13, mL13, mS13, mR14, mL14, mS14, mR15, mL15, mS15, mR16, mL16, mS16, mR17, mL17, mS17, mR18, mL18, mS18, mR19, mL19, mS19, mR20, mL20, mS20, mR21, mL21, mS21, mR22, mL22, mS22, mR23, mL23, mS23, mR24, mL24, mS24, mR25, mL25, mS25, mR26, mL26, mS26, mR27, mL27, mS27, mR28, mL28, mS28, mR29, mL29, mS29, mR30, mL30, mS30, mR31, mL31, mS31, mR32, mL32, mS32, mR33, mL33, mS33, iI_0, iI_1, iI_neg, iL2, iL3, iL4, iL5, iL6, iL7, iL8, iL9, iL10, iL11, iL12, iL13, iL14, iL15, iL16, iL17, iL30, iL31, iL60, iL99, iL100, iL240, iL480, iL1000, iL1920, iL10000, iI_add, iI_sub, iI_mul, iI_div, iI_le, iI_lt, iI_eq, bd_s, Int.toNat_natCast, Int.natCast_succ, sumI]
    rw [if_neg (by omega)]
    by_cases c : σ 19 o = 0
    · rw [if_pos c, show wrt σ o = 0 by simp [wrt, c]]
    · rw [if_neg c, show wrt σ o = σ 16 o by simp [wrt, c]]
  · show fb_X8_count_87 k (some m) (iI (sumI (wrt σ) (σ 9 0).toNat)) (iI ((σ 9 0).toNat : Int)) (MH h m σ) = _
    unfold fb_X8_count_87
    simp (disch := omega) only [rcv_M, mR0, mS0, mR1, mL1, mS1, mR2, mL2, mS2, mR3, mL3, mS3, mR4, mS4, mR5, mS5, mR6, mL6, mS6, mR7, mL7, mS7, mR8, mL8, mS8, mR9, mS9, mR10, mL10, mS10, mR11, mL11, mS11, mR12, mL12, mS12, mR13, mL13, mS13, mR14, mL14, mS14, mR15, mL15, mS15, mR16, mL16, mS16, mR17, mL17, mS17, mR18, mL18, mS18, mR19, mL19, mS19, mR20, mL20, mS20, mR21, mL21, mS21, mR22, mL22, mS22, mR23, mL23, mS23, mR24, mL24, mS24, mR25, mL25, mS25, mR26, mL26, mS26, mR27, mL27, mS27, mR28, mL28, mS28, mR29, mL29, mS29, mR30, mL30, mS30, mR31, mL31, mS31, mR32, mL32, mS32, mR33, mL33, mS33, iI_0, iI_1, iI_neg, iL2, iL3, iL4, iL5, iL6, iL7, iL8, iL9, iL10, iL11, iL12, iL13, iL14, iL15, iL16, iL17, iL30, iL31, iL60, iL99, iL100, iL240, iL480, iL1000, iL1920, iL10000, iI_add, iI_sub, iI_mul, iI_div, iI_le, iI_lt, iI_eq, bd_s]
    rw [if_pos (by omega)]
    rfl
def cntS (σ : Sg) (w : Int) : Int := if w = 0 then σ 0 0 else if w = 1 then σ 9 0 else if w = 2 then cntG σ else if w = 3 then sumW σ else if w = 4 then σ 5 0 else if w = 5 then σ 4 0 else -1
theorem s_count (hw : WF σ) (w : Int) (hww : I32 w) : f_X8_count m (iI w) (MH h m σ) = some (iI (cntS σ w), MH h m σ) := by
  unfold I32 at hww
  unfold f_X8_count
  simp (disch := omega) only [rcv_M, mR0, mS0, mR1, mL1, mS1, mR2, mL2, mS2, mR3, mL3, mS3, mR4, mS4, mR5, mS5, mR6, mL6, mS6, mR7, mL7, mS7, mR8, mL8, mS8, mR9, mS9, mR10, mL10, mS10, mR11, mL11, mS11, mR12, mL12, mS12, mR13, mL13, mS13, mR14, mL14, mS14, mR15, mL15, mS15, mR16, mL16, mS16, mR17, mL17, mS17, mR18, mL18, mS18, mR19, mL19, mS19, mR20, mL20, mS20, mR21, mL21, mS21, mR22, mL22, mS22, mR23, mL23, mS23, mR24, mL24, mS24, mR25, mL25, mS25, mR26, mL26, mS26, mR27, mL27, mS27, mR28, mL28, mS28, mR29, mL29, mS29, mR30, mL30, mS30, mR31, mL31, mS31, mR32, mL32, mS32, mR33, mL33, mS33, iI_0, iI_1, iI_neg, iL2, iL3, iL4, iL5, iL6, iL7, iL8, iL9, iL10, iL11, iL12, iL13, iL14, iL15, iL16, iL17, iL30, iL31, iL60, iL99, iL100, iL240, iL480, iL1000, iL1920, iL10000, iI_add, iI_sub, iI_mul, iI_div, iI_le, iI_lt, iI_eq, bd_s, s_count2 hw, s_count3 hw]
  unfold cntS
  (repeat' split) <;> rfl
theorem s_path (hw : WB σ) (b s : Int) (hb : I32 b) (hs : I32 s) : f_X8_path m (iI b) (iI s) (MH h m σ) = some (iI (if (0 ≤ b ∧ b < σ 9 0) ∧ σ 19 b.toNat ≠ 0 then (match srch (fun i => decide (stn σ b.toNat i = s)) 0 ((lgs σ b.toNat).toNat + 1) with | some i => lv σ b.toNat i | none => -1) else -1), MH h m σ) := by
  unfold I32 at hb hs
  have h9 := hw.1.2.2.2.1
  unfold f_X8_path f_X8_path_17
  by_cases c1 : 0 ≤ b ∧ b < σ 9 0
  · obtain ⟨B, rfl⟩ : ∃ B : Nat, b = B := ⟨b.toNat, by omega⟩
    have hB : B < 16 := by omega
    have hlg := lgs_rng hw.1 hB
    have hg := (hw.1.bid hB).2.2.2.2.2.2.2.2.2
    simp (disch := omega) only [rcv_M, mR0, mS0, mR1, mL1, mS1, mR2, mL2, mS2, mR3, mL3, mS3, mR4, mS4, mR5, mS5, mR6, mL6, mS6, mR7, mL7, mS7, mR8, mL8, mS8, mR9, mS9, mR10, mL10, mS10, mR11, mL11, mS11, mR12, mL12, mS12, mR13, mL13, mS13, mR14, mL14, mS14, mR15, mL15, mS15, mR16, mL16, mS16, mR17, mL17, mS17, mR18, mL18, mS18, mR19, mL19, mS19, mR20, mL20, mS20, mR21, mL21, mS21, mR22, mL22, mS22, mR23, mL23, mS23, mR24, mL24, mS24, mR25, mL25, mS25, mR26, mL26, mS26, mR27, mL27, mS27, mR28, mL28, mS28, mR29, mL29, mS29, mR30, mL30, mS30, mR31, mL31, mS31, mR32, mL32, mS32, mR33, mL33, mS33, iI_0, iI_1, iI_neg, iL2, iL3, iL4, iL5, iL6, iL7, iL8, iL9, iL10, iL11, iL12, iL13, iL14, iL15, iL16, iL17, iL30, iL31, iL60, iL99, iL100, iL240, iL480, iL1000, iL1920, iL10000, iI_add, iI_sub, iI_mul, iI_div, iI_le, iI_lt, iI_eq, bd_s, s_isBid hw.1, iI_b2, c1, and_self, not_true_eq_false, not_false_eq_true, if_true, if_false, and_true, true_and, Int.toNat_natCast]
    by_cases c2 : σ 19 B = 0
    · rw [if_pos c2, if_neg (fun z => z c2)]
      rfl
    · rw [if_neg c2, if_pos c2]
      unfold f_X8_path_21
      have := lp_search (B := fun k2 u => fb_X8_path_21 k2 u.1 u.2.1 u.2.2.1 u.2.2.2.1 u.2.2.2.2) (fun i => (some m, iI (B : Int), iI s, iI (i : Int), MH h m σ)) ((lgs σ B).toNat + 1) (fun i => decide (stn σ B i = s)) (fun i => some (iI (lv σ B i), MH h m σ)) (some (iI (-1), MH h m σ))
        (fun i hi k => by
          have hst := stn_rng hw.1 hB (i := (i : Int)) (by omega) (by omega)
          show fb_X8_path_21 k (some m) (iI (B : Int)) (iI s) (iI (i : Int)) (MH h m σ) = _
          unfold fb_X8_path_21
          simp (disch := omega) only [rcv_M, mR0, mS0, mR1, mL1, mS1, mR2, mL2, mS2, mR3, mL3, mS3, mR4, mS4, mR5, mS5, mR6, mL6, mS6, mR7, mL7, mS7, mR8, mL8, mS8, mR9, mS9, mR10, mL10, mS10, mR11, mL11, mS11, mR12, mL12, mS12, mR13, mL13, mS13, mR14, mL14, mS14, mR15, mL15, mS15, mR16, mL16, mS16, mR17, mL17, mS17, mR18, mL18, mS18, mR19, mL19, mS19, mR20, mL20, mS20, mR21, mL21, mS21, mR22, mL22, mS22, mR23, mL23, mS23, mR24, mL24, mS24, mR25, mL25, mS25, mR26, mL26, mS26, mR27, mL27, mS27, mR28, mL28, mS28, mR29, mL29, mS29, mR30, mL30, mS30, mR31, mL31, mS31, mR32, mL32, mS32, mR33, mL33, mS33, iI_0, iI_1, iI_neg, iL2, iL3, iL4, iL5, iL6, iL7, iL8, iL9, iL10, iL11, iL12, iL13, iL14, iL15, iL16, iL17, iL30, iL31, iL60, iL99, iL100, iL240, iL480, iL1000, iL1920, iL10000, iI_add, iI_sub, iI_mul, iI_div, iI_le, iI_lt, iI_eq, bd_s, s_legs hw.1, s_stationOf hw.1, Int.toNat_natCast, decide_eq_true_eq, Int.natCast_succ]
          rw [if_neg (by omega)]
          by_cases c3 : stn σ B i = s
          · rw [if_pos c3, if_pos c3]; rfl
          · rw [if_neg c3, if_neg c3])
        (fun k => by
          show fb_X8_path_21 k (some m) (iI (B : Int)) (iI s) (iI (((lgs σ B).toNat + 1 : Nat) : Int)) (MH h m σ) = _
          unfold fb_X8_path_21
          simp (disch := omega) only [rcv_M, mR0, mS0, mR1, mL1, mS1, mR2, mL2, mS2, mR3, mL3, mS3, mR4, mS4, mR5, mS5, mR6, mL6, mS6, mR7, mL7, mS7, mR8, mL8, mS8, mR9, mS9, mR10, mL10, mS10, mR11, mL11, mS11, mR12, mL12, mS12, mR13, mL13, mS13, mR14, mL14, mS14, mR15, mL15, mS15, mR16, mL16, mS16, mR17, mL17, mS17, mR18, mL18, mS18, mR19, mL19, mS19, mR20, mL20, mS20, mR21, mL21, mS21, mR22, mL22, mS22, mR23, mL23, mS23, mR24, mL24, mS24, mR25, mL25, mS25, mR26, mL26, mS26, mR27, mL27, mS27, mR28, mL28, mS28, mR29, mL29, mS29, mR30, mL30, mS30, mR31, mL31, mS31, mR32, mL32, mS32, mR33, mL33, mS33, iI_0, iI_1, iI_neg, iL2, iL3, iL4, iL5, iL6, iL7, iL8, iL9, iL10, iL11, iL12, iL13, iL14, iL15, iL16, iL17, iL30, iL31, iL60, iL99, iL100, iL240, iL480, iL1000, iL1920, iL10000, iI_add, iI_sub, iI_mul, iI_div, iI_le, iI_lt, iI_eq, bd_s, s_legs hw.1]
          rw [if_pos (by omega)]
          rfl) ((lgs σ B).toNat + 1) 0 FU (by omega) (by rw [FU_eq]; omega)
      refine this.trans ?_
      cases srch (fun i => decide (stn σ B i = s)) 0 ((lgs σ B).toNat + 1) <;> rfl
  · simp (disch := omega) only [rcv_M, mR0, mS0, mR1, mL1, mS1, mR2, mL2, mS2, mR3, mL3, mS3, mR4, mS4, mR5, mS5, mR6, mL6, mS6, mR7, mL7, mS7, mR8, mL8, mS8, mR9, mS9, mR10, mL10, mS10, mR11, mL11, mS11, mR12, mL12, mS12, mR13, mL13, mS13, mR14, mL14, mS14, mR15, mL15, mS15, mR16, mL16, mS16, mR17, mL17, mS17, mR18, mL18, mS18, mR19, mL19, mS19, mR20, mL20, mS20, mR21, mL21, mS21, mR22, mL22, mS22, mR23, mL23, mS23, mR24, mL24, mS24, mR25, mL25, mS25, mR26, mL26, mS26, mR27, mL27, mS27, mR28, mL28, mS28, mR29, mL29, mS29, mR30, mL30, mS30, mR31, mL31, mS31, mR32, mL32, mS32, mR33, mL33, mS33, iI_0, iI_1, iI_neg, iL2, iL3, iL4, iL5, iL6, iL7, iL8, iL9, iL10, iL11, iL12, iL13, iL14, iL15, iL16, iL17, iL30, iL31, iL60, iL99, iL100, iL240, iL480, iL1000, iL1920, iL10000, iI_add, iI_sub, iI_mul, iI_div, iI_le, iI_lt, iI_eq, bd_s, s_isBid hw.1, iI_b2, c1, and_self, not_true_eq_false, not_false_eq_true, if_true, if_false, and_true, true_and, false_and]
    rfl
theorem s_section (hw : WF σ) (k d f s : Int) (hk : I32 k) (hd : d = 0 ∨ d = 1) (hf : I32 f) (hs : I32 s) : f_X8_section m (iI k) (iI d) (iI f) (iI s) (MH h m σ) = if exB (gvn σ) (σ 9 0).toNat = false ∧ (0 ≤ k ∧ k < σ 0 0 - 1) ∧ (1 ≤ f ∧ f ≤ 30) ∧ (1 ≤ s ∧ s ≤ 30) then some (iI 1, MH h m (sg (sg (sg σ 1 k.toNat d) 2 (2 * k).toNat f) 2 (2 * k + 1).toNat s)) else some (iI 0, MH h m σ) := by
  unfold I32 at hk hf hs
  have h9 := hw.2.2.2.1
  have h0 := hw.1
  unfold f_X8_section f_X8_section_3
  have := lp_search (B := fun k2 u => fb_X8_section_3 k2 u.1 u.2.1 u.2.2.1 u.2.2.2.1 u.2.2.2.2.1 u.2.2.2.2.2.1 u.2.2.2.2.2.2) (fun o => (some m, iI k, iI d, iI f, iI s, iI (o : Int), MH h m σ)) (σ 9 0).toNat (gvn σ) (fun i => some (iI 0, MH h m σ)) (if (0 ≤ k ∧ k < σ 0 0 - 1) ∧ (1 ≤ f ∧ f ≤ 30) ∧ (1 ≤ s ∧ s ≤ 30) then some (iI 1, MH h m (sg (sg (sg σ 1 k.toNat d) 2 (2 * k).toNat f) 2 (2 * k + 1).toNat s)) else some (iI 0, MH h m σ))
    (fun o ho k' => by
      have hg := (hw.bid (b := o) (by omega)).2.2.2.2.2.2.2.2.2
      show fb_X8_section_3 k' (some m) (iI k) (iI d) (iI f) (iI s) (iI (o : Int)) (MH h m σ) = _
      unfold fb_X8_section_3
      rw [mR9]
      rw [if_neg (by rw [iI_le (by omega) (by omega) (by omega) (by omega)]; omega)]
      simp (disch := omega) only [rcv_M, mR0, mS0, mR1, mL1, mS1, mR2, mL2, mS2, mR3, mL3, mS3, mR4, mS4, mR5, mS5, mR6, mL6, mS6, mR7, mL7, mS7, mR8, mL8, mS8, mR9, mS9, mR10, mL10, mS10, mR11, mL11, mS11, mR12, mL12, mS12, mR13, mL13, mS13, mR14, mL14, mS14, mR15, mL15, mS15, mR16, mL16, mS16, mR17, mL17, mS17, mR18, mL18, mS18, mR19, mL19, mS19, mR20, mL20, mS20, mR21, mL21, mS21, mR22, mL22, mS22, mR23, mL23, mS23, mR24, mL24, mS24, mR25, mL25, mS25, mR26, mL26, mS26, mR27, mL27, mS27, mR28, mL28, mS28, mR29, mL29, mS29, mR30, mL30, mS30, mR31, mL31, mS31, mR32, mL32, mS32, mR33, mL33, mS33, iI_0, iI_1, iI_neg, iL2, iL3, iL4, iL5, iL6, iL7, iL8, iL9, iL10, iL11, iL12, iL13, iL14, iL15, iL16, iL17, iL30, iL31, iL60, iL99, iL100, iL240, iL480, iL1000, iL1920, iL10000, iI_add, iI_sub, iI_mul, iI_div, iI_le, iI_lt, iI_eq, bd_s, Int.toNat_natCast, rt0, Int.natCast_succ]
      by_cases c : σ 19 o = 0
      · rw [if_pos c, show gvn σ o = false by simp [gvn, c]]; simp
      · rw [if_neg c, show gvn σ o = true by simp [gvn, c]]; simp)
    (fun k' => by
      show fb_X8_section_3 k' (some m) (iI k) (iI d) (iI f) (iI s) (iI ((σ 9 0).toNat : Int)) (MH h m σ) = _
      unfold fb_X8_section_3 f_X8_section_65
      rw [mR9, if_pos (by rw [iI_le (by omega) (by omega) (by omega) (by omega)]; omega)]
      by_cases c1 : 0 ≤ k ∧ k ≤ σ 0 0 - 2
      · by_cases c2 : 1 ≤ f ∧ f ≤ 30
        · by_cases c3 : 1 ≤ s ∧ s ≤ 30
          · simp (disch := first | omega | exact hd) only [rcv_M, mR0, mS0, mR1, mL1, mS1, mR2, mL2, mS2, mR3, mL3, mS3, mR4, mS4, mR5, mS5, mR6, mL6, mS6, mR7, mL7, mS7, mR8, mL8, mS8, mR9, mS9, mR10, mL10, mS10, mR11, mL11, mS11, mR12, mL12, mS12, mR13, mL13, mS13, mR14, mL14, mS14, mR15, mL15, mS15, mR16, mL16, mS16, mR17, mL17, mS17, mR18, mL18, mS18, mR19, mL19, mS19, mR20, mL20, mS20, mR21, mL21, mS21, mR22, mL22, mS22, mR23, mL23, mS23, mR24, mL24, mS24, mR25, mL25, mS25, mR26, mL26, mS26, mR27, mL27, mS27, mR28, mL28, mS28, mR29, mL29, mS29, mR30, mL30, mS30, mR31, mL31, mS31, mR32, mL32, mS32, mR33, mL33, mS33, iI_0, iI_1, iI_neg, iL2, iL3, iL4, iL5, iL6, iL7, iL8, iL9, iL10, iL11, iL12, iL13, iL14, iL15, iL16, iL17, iL30, iL31, iL60, iL99, iL100, iL240, iL480, iL1000, iL1920, iL10000, iI_add, iI_sub, iI_mul, iI_div, iI_le, iI_lt, iI_eq, bd_s, s_in, iI_b2, c1, c2, c3, and_self, not_true_eq_false, not_false_eq_true, if_true, if_false, and_true, true_and, rt1]
            rw [if_pos (by omega)]
          · simp (disch := omega) only [rcv_M, mR0, mS0, mR1, mL1, mS1, mR2, mL2, mS2, mR3, mL3, mS3, mR4, mS4, mR5, mS5, mR6, mL6, mS6, mR7, mL7, mS7, mR8, mL8, mS8, mR9, mS9, mR10, mL10, mS10, mR11, mL11, mS11, mR12, mL12, mS12, mR13, mL13, mS13, mR14, mL14, mS14, mR15, mL15, mS15, mR16, mL16, mS16, mR17, mL17, mS17, mR18, mL18, mS18, mR19, mL19, mS19, mR20, mL20, mS20, mR21, mL21, mS21, mR22, mL22, mS22, mR23, mL23, mS23, mR24, mL24, mS24, mR25, mL25, mS25, mR26, mL26, mS26, mR27, mL27, mS27, mR28, mL28, mS28, mR29, mL29, mS29, mR30, mL30, mS30, mR31, mL31, mS31, mR32, mL32, mS32, mR33, mL33, mS33, iI_0, iI_1, iI_neg, iL2, iL3, iL4, iL5, iL6, iL7, iL8, iL9, iL10, iL11, iL12, iL13, iL14, iL15, iL16, iL17, iL30, iL31, iL60, iL99, iL100, iL240, iL480, iL1000, iL1920, iL10000, iI_add, iI_sub, iI_mul, iI_div, iI_le, iI_lt, iI_eq, bd_s, s_in, iI_b2, c1, c2, c3, and_self, not_true_eq_false, not_false_eq_true, if_true, if_false, and_true, true_and, rt0]
            first | rw [if_neg (by omega)] | simp
        · simp (disch := omega) only [rcv_M, mR0, mS0, mR1, mL1, mS1, mR2, mL2, mS2, mR3, mL3, mS3, mR4, mS4, mR5, mS5, mR6, mL6, mS6, mR7, mL7, mS7, mR8, mL8, mS8, mR9, mS9, mR10, mL10, mS10, mR11, mL11, mS11, mR12, mL12, mS12, mR13, mL13, mS13, mR14, mL14, mS14, mR15, mL15, mS15, mR16, mL16, mS16, mR17, mL17, mS17, mR18, mL18, mS18, mR19, mL19, mS19, mR20, mL20, mS20, mR21, mL21, mS21, mR22, mL22, mS22, mR23, mL23, mS23, mR24, mL24, mS24, mR25, mL25, mS25, mR26, mL26, mS26, mR27, mL27, mS27, mR28, mL28, mS28, mR29, mL29, mS29, mR30, mL30, mS30, mR31, mL31, mS31, mR32, mL32, mS32, mR33, mL33, mS33, iI_0, iI_1, iI_neg, iL2, iL3, iL4, iL5, iL6, iL7, iL8, iL9, iL10, iL11, iL12, iL13, iL14, iL15, iL16, iL17, iL30, iL31, iL60, iL99, iL100, iL240, iL480, iL1000, iL1920, iL10000, iI_add, iI_sub, iI_mul, iI_div, iI_le, iI_lt, iI_eq, bd_s, s_in, iI_b2, c1, c2, and_self, not_true_eq_false, not_false_eq_true, if_true, if_false, and_true, true_and, rt0]
          first | rw [if_neg (by omega)] | simp
      · simp (disch := omega) only [rcv_M, mR0, mS0, mR1, mL1, mS1, mR2, mL2, mS2, mR3, mL3, mS3, mR4, mS4, mR5, mS5, mR6, mL6, mS6, mR7, mL7, mS7, mR8, mL8, mS8, mR9, mS9, mR10, mL10, mS10, mR11, mL11, mS11, mR12, mL12, mS12, mR13, mL13, mS13, mR14, mL14, mS14, mR15, mL15, mS15, mR16, mL16, mS16, mR17, mL17, mS17, mR18, mL18, mS18, mR19, mL19, mS19, mR20, mL20, mS20, mR21, mL21, mS21, mR22, mL22, mS22, mR23, mL23, mS23, mR24, mL24, mS24, mR25, mL25, mS25, mR26, mL26, mS26, mR27, mL27, mS27, mR28, mL28, mS28, mR29, mL29, mS29, mR30, mL30, mS30, mR31, mL31, mS31, mR32, mL32, mS32, mR33, mL33, mS33, iI_0, iI_1, iI_neg, iL2, iL3, iL4, iL5, iL6, iL7, iL8, iL9, iL10, iL11, iL12, iL13, iL14, iL15, iL16, iL17, iL30, iL31, iL60, iL99, iL100, iL240, iL480, iL1000, iL1920, iL10000, iI_add, iI_sub, iI_mul, iI_div, iI_le, iI_lt, iI_eq, bd_s, s_in, iI_b2, c1, and_self, not_true_eq_false, not_false_eq_true, if_true, if_false, and_true, true_and, rt0]
        first | rw [if_neg (by omega)] | simp) (σ 9 0).toNat 0 FU (by omega) (by rw [FU_eq]; omega)
  rw [iI_0]
  refine this.trans ?_
  unfold exB
  cases srch (gvn σ) 0 (σ 9 0).toNat with
  | none => simp
  | some j => simp
end
