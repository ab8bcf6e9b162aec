def legO (σ : Sg) (b : Nat) (s : Int) : Int := match srch (fun i => decide (sec σ b i = s)) 0 (lgs σ b).toNat with
  | some j => (j : Int)
  | none => -1
theorem legO_some {σ : Sg} {b : Nat} {s : Int} (h : legO σ b s ≠ -1) : 0 ≤ legO σ b s ∧ legO σ b s < lgs σ b ∧ sec σ b (legO σ b s) = s := by
  unfold legO at h ⊢
  cases hq : srch (fun i => decide (sec σ b i = s)) 0 (lgs σ b).toNat with
  | none => rw [hq] at h; exact absurd rfl h
  | some j =>
    obtain ⟨h1, h2, h3, h4⟩ := srch_some.mp hq
    exact ⟨by simp only; omega, by simp only; omega, by simpa using h3⟩
theorem legO_rng {σ : Sg} (hw : WF σ) {b : Nat} (hb : b < 16) {s : Int} : -1 ≤ legO σ b s ∧ legO σ b s ≤ 6 := by
  have h2 := lgs_rng hw hb
  by_cases h : legO σ b s = -1
  · omega
  · have := legO_some h
    omega
def lv (σ : Sg) (b : Nat) (i : Int) : Int := σ 20 (8 * b + i).toNat
theorem lv_rng {σ : Sg} (hw : WF σ) {b : Nat} (hb : b < 16) {i : Int} (h0 : 0 ≤ i) (h1 : i < 8) : 0 ≤ lv σ b i ∧ lv σ b i ≤ 239 := (hw.2.2.2.2.2.2.2.2.2 _ (by omega)).1
def blk (σ : Sg) (b : Nat) (s t n : Int) (o : Nat) : Bool := decide (o ≠ b ∧ σ 19 o ≠ 0 ∧ (σ 1 s.toNat = 0 ∨ (σ 11 o < σ 12 o) = (σ 11 b < σ 12 b)) ∧ legO σ o s ≠ -1 ∧ ¬ (lv σ o (legO σ o s) + lng σ o (legO σ o s) + bhd σ ≤ t ∨ t + n + bhd σ ≤ lv σ o (legO σ o s)))
/-- a train may leave: its section isn't closed, and others are apart -/
def canL (σ : Sg) (b : Nat) (i t : Int) : Bool := !exB (fun d => clsd σ (sec σ b i) (t + d)) (lng σ b i).toNat && !exB (blk σ b (sec σ b i) t (lng σ b i)) (σ 9 0).toNat
def cmT (σ : Sg) (b : Nat) (i : Int) : Int := lv σ b (i - 1) + lng σ b (i - 1)
def stP (σ : Sg) (b : Nat) (st t : Int) (j : Nat) : Bool := decide (stn σ b (j + 1) = st ∧ cmT σ b (j + 1) ≤ t ∧ t ≤ lv σ b (j + 1) - 1)
/-- a train stands at a station in a minute -/
def stds (σ : Sg) (b : Nat) (st t : Int) : Bool := exB (stP σ b st t) (lgs σ b - 1).toNat
def cntI (P : Nat → Bool) : Nat → Int
  | 0 => 0
  | n + 1 => cntI P n + (if P n then 1 else 0)
theorem cntI_rng (P : Nat → Bool) : ∀ n, 0 ≤ cntI P n ∧ cntI P n ≤ n
  | 0 => by simp [cntI]
  | n + 1 => by
    have := cntI_rng P n
    unfold cntI
    split <;> omega
def othP (σ : Sg) (b : Nat) (st t : Int) (o : Nat) : Bool := decide (o ≠ b ∧ σ 19 o ≠ 0) && stds σ o st t
def canS (σ : Sg) (b : Nat) (st t : Int) : Bool := decide (1 + cntI (othP σ b st t) (σ 9 0).toNat ≤ σ 3 st.toNat)
section
variable {h : Hp} {m : Nat} {σ : Sg}
theorem s_legOver (hw : WF σ) (b : Nat) (hb : b < 16) (s : Int) (hs : -1000 ≤ s ∧ s ≤ 1000) : f_X8_legOver m (iI b) (iI s) (MH h m σ) = some (iI (legO σ b s), MH h m σ) := by
  have h2 := lgs_rng hw hb
  have hsr : ∀ i : Int, 0 ≤ i → i < lgs σ b → 0 ≤ sec σ b i ∧ sec σ b i ≤ 6 := fun i h0 h1 => sec_rng hw hb h0 h1
  unfold f_X8_legOver f_X8_legOver_2
  have := lp_search (B := fun k2 u => fb_X8_legOver_2 k2 u.1 u.2.1 u.2.2.1 u.2.2.2.1 u.2.2.2.2) (fun w => (some m, iI b, iI s, iI (w : Int), MH h m σ)) (lgs σ b).toNat (fun i => decide (sec σ b i = s)) (fun i => some (iI (i : Int), MH h m σ)) (some (iI (-1), MH h m σ))
    (fun w hlt k => by
      have hsw := hsr w (by omega) (by omega)
      show fb_X8_legOver_2 k (some m) (iI b) (iI s) (iI (w : Int)) (MH h m σ) = _
      unfold fb_X8_legOver_2
      simp (disch := omega) only [rcv_M, mR0, mS0, mR1, mL1, mS1, mR2, mL2, mS2, mR3, mL3, mS3, mR4, mS4, mR5, mS5, mR6, mL6, mS6, mR7, mL7, mS7, mR8, mL8, mS8, mR9, mS9, mR10, mL10, mS10, mR11, mL11, mS11, mR12, mL12, mS12, mR13, mL13, mS13, mR14, mL14, mS14, mR15, mL15, mS15, mR16, mL16, mS16, mR17, mL17, mS17, mR18, mL18, mS18, mR19, mL19, mS19, mR20, mL20, mS20, mR21, mL21, mS21, mR22, mL22, mS22, mR23, mL23, mS23, mR24, mL24, mS24, mR25, mL25, mS25, mR26, mL26, mS26, mR27, mL27, mS27, mR28, mL28, mS28, mR29, mL29, mS29, mR30, mL30, mS30, mR31, mL31, mS31, mR32, mL32, mS32, mR33, mL33, mS33, iI_0, iI_1, iI_neg, iL2, iL3, iL4, iL5, iL6, iL7, iL8, iL9, iL10, iL11, iL12, iL13, iL14, iL15, iL16, iL17, iL30, iL31, iL60, iL99, iL100, iL240, iL480, iL1000, iL1920, iL10000, iI_add, iI_sub, iI_mul, iI_div, iI_le, iI_lt, iI_eq, bd_s, s_legs hw, s_sectionOf hw, decide_eq_true_eq, Int.natCast_succ]
      (repeat' split) <;> first | rfl | omega)
    (fun k => by
      show fb_X8_legOver_2 k (some m) (iI b) (iI s) (iI ((lgs σ b).toNat : Int)) (MH h m σ) = _
      unfold fb_X8_legOver_2
      simp (disch := omega) only [rcv_M, mR0, mS0, mR1, mL1, mS1, mR2, mL2, mS2, mR3, mL3, mS3, mR4, mS4, mR5, mS5, mR6, mL6, mS6, mR7, mL7, mS7, mR8, mL8, mS8, mR9, mS9, mR10, mL10, mS10, mR11, mL11, mS11, mR12, mL12, mS12, mR13, mL13, mS13, mR14, mL14, mS14, mR15, mL15, mS15, mR16, mL16, mS16, mR17, mL17, mS17, mR18, mL18, mS18, mR19, mL19, mS19, mR20, mL20, mS20, mR21, mL21, mS21, mR22, mL22, mS22, mR23, mL23, mS23, mR24, mL24, mS24, mR25, mL25, mS25, mR26, mL26, mS26, mR27, mL27, mS27, mR28, mL28, mS28, mR29, mL29, mS29, mR30, mL30, mS30, mR31, mL31, mS31, mR32, mL32, mS32, mR33, mL33, mS33, iI_0, iI_1, iI_neg, iL2, iL3, iL4, iL5, iL6, iL7, iL8, iL9, iL10, iL11, iL12, iL13, iL14, iL15, iL16, iL17, iL30, iL31, iL60, iL99, iL100, iL240, iL480, iL1000, iL1920, iL10000, iI_add, iI_sub, iI_mul, iI_div, iI_le, iI_lt, iI_eq, bd_s, s_legs hw]
      rw [if_pos (by omega)]
      rfl) (lgs σ b).toNat 0 FU (by omega) (by rw [FU_eq]; omega)
  rw [iI_0]
  refine this.trans ?_
  unfold legO
  cases srch (fun i => decide (sec σ b i = s)) 0 (lgs σ b).toNat <;> rfl
theorem s_comesTo (hw : WF σ) (b : Nat) (hb : b < 16) (i : Int) (h0 : 1 ≤ i) (h1 : i ≤ lgs σ b) : f_X8_comesTo m (iI b) (iI i) (MH h m σ) = some (iI (cmT σ b i), MH h m σ) := by
  have h2 := lgs_rng hw hb
  unfold f_X8_comesTo
  simp (disch := omega) only [rcv_M, mR0, mS0, mR1, mL1, mS1, mR2, mL2, mS2, mR3, mL3, mS3, mR4, mS4, mR5, mS5, mR6, mL6, mS6, mR7, mL7, mS7, mR8, mL8, mS8, mR9, mS9, mR10, mL10, mS10, mR11, mL11, mS11, mR12, mL12, mS12, mR13, mL13, mS13, mR14, mL14, mS14, mR15, mL15, mS15, mR16, mL16, mS16, mR17, mL17, mS17, mR18, mL18, mS18, mR19, mL19, mS19, mR20, mL20, mS20, mR21, mL21, mS21, mR22, mL22, mS22, mR23, mL23, mS23, mR24, mL24, mS24, mR25, mL25, mS25, mR26, mL26, mS26, mR27, mL27, mS27, mR28, mL28, mS28, mR29, mL29, mS29, mR30, mL30, mS30, mR31, mL31, mS31, mR32, mL32, mS32, mR33, mL33, mS33, iI_0, iI_1, iI_neg, iL2, iL3, iL4, iL5, iL6, iL7, iL8, iL9, iL10, iL11, iL12, iL13, iL14, iL15, iL16, iL17, iL30, iL31, iL60, iL99, iL100, iL240, iL480, iL1000, iL1920, iL10000, iI_add, iI_sub, iI_mul, iI_div, iI_le, iI_lt, iI_eq, bd_s, s_longOf hw]
  unfold cmT lv rtI
  rw [show (8 * (b : Int) + i - 1) = 8 * b + (i - 1) by omega]
theorem cmT_rng (hw : WF σ) {b : Nat} (hb : b < 16) {i : Int} (h0 : 1 ≤ i) (h1 : i ≤ lgs σ b) : 0 ≤ cmT σ b i ∧ cmT σ b i ≤ 269 := by
  have h2 := lgs_rng hw hb
  have h3 := lv_rng hw hb (i := i - 1) (by omega) (by omega)
  have h4 := lng_rng hw hb (i := i - 1) (by omega) (by omega)
  unfold cmT
  omega
theorem s_isStanding (hw : WF σ) (b : Nat) (hb : b < 16) (st t : Int) (hs : -1000 ≤ st ∧ st ≤ 1000) (ht : -1000 ≤ t ∧ t ≤ 1000) : f_X8_isStanding m (iI b) (iI st) (iI t) (MH h m σ) = some (iI (b2 (stds σ b st t = true)), MH h m σ) := by
  have h2 := lgs_rng hw hb
  obtain ⟨-, g1, g2, -⟩ := hw.bid hb
  unfold f_X8_isStanding f_X8_isStanding_3
  have := lp_search (B := fun k2 u => fb_X8_isStanding_3 k2 u.1 u.2.1 u.2.2.1 u.2.2.2.1 u.2.2.2.2.1 u.2.2.2.2.2) (fun w => (some m, iI b, iI st, iI t, iI ((w : Int) + 1), MH h m σ)) (lgs σ b - 1).toNat (stP σ b st t) (fun _ => some (iI 1, MH h m σ)) (some (iI 0, MH h m σ))
    (fun w hlt k => by
      have h5 := cmT_rng hw hb (i := (w : Int) + 1) (by omega) (by omega)
      have h6 := lv_rng hw hb (i := (w : Int) + 1) (by omega) (by omega)
      have h7 : -100 ≤ stn σ b ((w : Int) + 1) ∧ stn σ b ((w : Int) + 1) ≤ 100 := by unfold stn; split <;> omega
      have e8 : σ 20 (8 * (b : Int) + ((w : Int) + 1)).toNat = lv σ b ((w : Int) + 1) := rfl
      show fb_X8_isStanding_3 k (some m) (iI b) (iI st) (iI t) (iI ((w : Int) + 1)) (MH h m σ) = _
      unfold fb_X8_isStanding_3 f_X8_isStanding_54 stP
      simp (disch := omega) only [rcv_M, mR0, mS0, mR1, mL1, mS1, mR2, mL2, mS2, mR3, mL3, mS3, mR4, mS4, mR5, mS5, mR6, mL6, mS6, mR7, mL7, mS7, mR8, mL8, mS8, mR9, mS9, mR10, mL10, mS10, mR11, mL11, mS11, mR12, mL12, mS12, mR13, mL13, mS13, mR14, mL14, mS14, mR15, mL15, mS15, mR16, mL16, mS16, mR17, mL17, mS17, mR18, mL18, mS18, mR19, mL19, mS19, mR20, mL20, mS20, mR21, mL21, mS21, mR22, mL22, mS22, mR23, mL23, mS23, mR24, mL24, mS24, mR25, mL25, mS25, mR26, mL26, mS26, mR27, mL27, mS27, mR28, mL28, mS28, mR29, mL29, mS29, mR30, mL30, mS30, mR31, mL31, mS31, mR32, mL32, mS32, mR33, mL33, mS33, iI_0, iI_1, iI_neg, iL2, iL3, iL4, iL5, iL6, iL7, iL8, iL9, iL10, iL11, iL12, iL13, iL14, iL15, iL16, iL17, iL30, iL31, iL60, iL99, iL100, iL240, iL480, iL1000, iL1920, iL10000, iI_add, iI_sub, iI_mul, iI_div, iI_le, iI_lt, iI_eq, bd_s, s_legs hw, s_stationOf hw, s_comesTo hw, e8, s_in, iI_b2, rt0, rt1, decide_eq_true_eq, Int.natCast_succ]
      (repeat' split) <;> first | rfl | omega)
    (fun k => by
      show fb_X8_isStanding_3 k (some m) (iI b) (iI st) (iI t) (iI (((lgs σ b - 1).toNat : Int) + 1)) (MH h m σ) = _
      unfold fb_X8_isStanding_3
      simp (disch := omega) only [rcv_M, mR0, mS0, mR1, mL1, mS1, mR2, mL2, mS2, mR3, mL3, mS3, mR4, mS4, mR5, mS5, mR6, mL6, mS6, mR7, mL7, mS7, mR8, mL8, mS8, mR9, mS9, mR10, mL10, mS10, mR11, mL11, mS11, mR12, mL12, mS12, mR13, mL13, mS13, mR14, mL14, mS14, mR15, mL15, mS15, mR16, mL16, mS16, mR17, mL17, mS17, mR18, mL18, mS18, mR19, mL19, mS19, mR20, mL20, mS20, mR21, mL21, mS21, mR22, mL22, mS22, mR23, mL23, mS23, mR24, mL24, mS24, mR25, mL25, mS25, mR26, mL26, mS26, mR27, mL27, mS27, mR28, mL28, mS28, mR29, mL29, mS29, mR30, mL30, mS30, mR31, mL31, mS31, mR32, mL32, mS32, mR33, mL33, mS33, iI_0, iI_1, iI_neg, iL2, iL3, iL4, iL5, iL6, iL7, iL8, iL9, iL10, iL11, iL12, iL13, iL14, iL15, iL16, iL17, iL30, iL31, iL60, iL99, iL100, iL240, iL480, iL1000, iL1920, iL10000, iI_add, iI_sub, iI_mul, iI_div, iI_le, iI_lt, iI_eq, bd_s, s_legs hw, rt0]
      rw [if_pos (by omega)]) (lgs σ b - 1).toNat 0 FU (by omega) (by rw [FU_eq]; omega)
  rw [iI_1]
  refine this.trans ?_
  unfold stds exB
  cases hq : srch (stP σ b st t) 0 (lgs σ b - 1).toNat with
  | none => rw [b2_f (by simp)]
  | some j => rw [b2_t (by simp)]
theorem s_canStand (hw : WF σ) (b : Nat) (hb : b < 16) (st t : Int) (hs : 0 ≤ st ∧ st < 8) (ht : -1000 ≤ t ∧ t ≤ 1000) : f_X8_canStand m (iI b) (iI st) (iI t) (MH h m σ) = some (iI (b2 (canS σ b st t = true)), MH h m σ) := by
  obtain ⟨-, -, -, h9, -, -, h3, -⟩ := id hw
  have h3 := h3 st.toNat (by omega)
  have hcr := cntI_rng (othP σ b st t)
  unfold f_X8_canStand f_X8_canStand_6
  have := lp_count (B := fun k2 u => fb_X8_canStand_6 k2 u.1 u.2.1 u.2.2.1 u.2.2.2.1 u.2.2.2.2.1 u.2.2.2.2.2.1 u.2.2.2.2.2.2) (fun o => (some m, iI b, iI st, iI t, iI (1 + cntI (othP σ b st t) o), iI (o : Int), MH h m σ)) (σ 9 0).toNat (some (iI (b2 (canS σ b st t = true)), MH h m σ))
    (fun o hlt k => by
      have hco := hcr o
      obtain ⟨-, -, -, -, -, -, -, -, -, hg⟩ := hw.bid (b := o) (by omega)
      show fb_X8_canStand_6 k (some m) (iI b) (iI st) (iI t) (iI (1 + cntI (othP σ b st t) o)) (iI (o : Int)) (MH h m σ) = k (some m, iI b, iI st, iI t, iI (1 + cntI (othP σ b st t) (o + 1)), iI ((o + 1 : Nat) : Int), MH h m σ)
      unfold fb_X8_canStand_6 f_X8_canStand_48 f_X8_canStand_49
      simp (disch := omega) only [rcv_M, mR0, mS0, mR1, mL1, mS1, mR2, mL2, mS2, mR3, mL3, mS3, mR4, mS4, mR5, mS5, mR6, mL6, mS6, mR7, mL7, mS7, mR8, mL8, mS8, mR9, mS9, mR10, mL10, mS10, mR11, mL11, mS11, mR12, mL12, mS12, mR13, mL13, mS13, mR14, mL14, mS14, mR15, mL15, mS15, mR16, mL16, mS16, mR17, mL17, mS17, mR18, mL18, mS18, mR19, mL19, mS19, mR20, mL20, mS20, mR21, mL21, mS21, mR22, mL22, mS22, mR23, mL23, mS23, mR24, mL24, mS24, mR25, mL25, mS25, mR26, mL26, mS26, mR27, mL27, mS27, mR28, mL28, mS28, mR29, mL29, mS29, mR30, mL30, mS30, mR31, mL31, mS31, mR32, mL32, mS32, mR33, mL33, mS33, iI_0, iI_1, iI_neg, iL2, iL3, iL4, iL5, iL6, iL7, iL8, iL9, iL10, iL11, iL12, iL13, iL14, iL15, iL16, iL17, iL30, iL31, iL60, iL99, iL100, iL240, iL480, iL1000, iL1920, iL10000, iI_add, iI_sub, iI_mul, iI_div, iI_le, iI_lt, iI_eq, bd_s, s_isStanding hw, iI_b2, Int.natCast_succ, cntI, Int.toNat_natCast]
      by_cases c1 : (o : Int) = b
      · have e : othP σ b st t o = false := by simp [othP]; omega
        rw [e, if_neg (by omega), if_pos c1]
        simp
      · by_cases c2 : σ 19 o = 0
        · have e : othP σ b st t o = false := by simp [othP, c2]
          rw [e, if_neg (by omega), if_neg c1, if_pos c2]
          simp
        · cases c3 : stds σ o st t with
          | false =>
            have e : othP σ b st t o = false := by simp [othP, c3]
            rw [e, if_neg (by omega), if_neg c1, if_neg c2]
            simp
          | true =>
            have e : othP σ b st t o = true := by simp [othP, c3, c2]; omega
            rw [e, if_neg (by omega), if_neg c1, if_neg c2]
            simp [Int.add_assoc])
    (fun k => by
      have hco := hcr (σ 9 0).toNat
      show fb_X8_canStand_6 k (some m) (iI b) (iI st) (iI t) (iI (1 + cntI (othP σ b st t) (σ 9 0).toNat)) (iI ((σ 9 0).toNat : Int)) (MH h m σ) = _
      unfold fb_X8_canStand_6 f_X8_canStand_74
      simp (disch := omega) only [rcv_M, mR0, mS0, mR1, mL1, mS1, mR2, mL2, mS2, mR3, mL3, mS3, mR4, mS4, mR5, mS5, mR6, mL6, mS6, mR7, mL7, mS7, mR8, mL8, mS8, mR9, mS9, mR10, mL10, mS10, mR11, mL11, mS11, mR12, mL12, mS12, mR13, mL13, mS13, mR14, mL14, mS14, mR15, mL15, mS15, mR16, mL16, mS16, mR17, mL17, mS17, mR18, mL18, mS18, mR19, mL19, mS19, mR20, mL20, mS20, mR21, mL21, mS21, mR22, mL22, mS22, mR23, mL23, mS23, mR24, mL24, mS24, mR25, mL25, mS25, mR26, mL26, mS26, mR27, mL27, mS27, mR28, mL28, mS28, mR29, mL29, mS29, mR30, mL30, mS30, mR31, mL31, mS31, mR32, mL32, mS32, mR33, mL33, mS33, iI_0, iI_1, iI_neg, iL2, iL3, iL4, iL5, iL6, iL7, iL8, iL9, iL10, iL11, iL12, iL13, iL14, iL15, iL16, iL17, iL30, iL31, iL60, iL99, iL100, iL240, iL480, iL1000, iL1920, iL10000, iI_add, iI_sub, iI_mul, iI_div, iI_le, iI_lt, iI_eq, bd_s, rt0, rt1]
      rw [if_pos (by omega)]
      unfold canS b2
      simp only [decide_eq_true_eq]
      (repeat' split) <;> first | rfl | omega) (σ 9 0).toNat 0 FU (by omega) (by rw [FU_eq]; omega)
  rw [iI_0, iI_1]
  exact this
end
