/-! the reference's orders, and its best one -/
set_option maxRecDepth 100000 in
theorem bt1 : ∀ u, u < 32 → ∀ b, b < 18 → (((Int32.ofNat u) >>> ((Int32.ofNat b) &&& 31)) &&& 1 = 1 ↔ Nat.testBit u b = true) := by decide +kernel
set_option maxRecDepth 100000 in
theorem bt2 : ∀ u, u < 32 → ∀ b, b < 5 → (Int32.ofNat u) ||| ((1 : Int32) <<< ((Int32.ofNat b) &&& 31)) = Int32.ofNat (u ||| (1 <<< b)) := by decide +kernel
theorem fc_rng : ∀ n, n ≤ 5 → 1 ≤ fc n ∧ fc n ≤ 120 := by decide
section
variable {h : Hp} {m : Nat} {σ : Sg}
theorem s_61 {u : Nat} (hu : u < 32) (R K L : Int32) (τ : Sg) (k7 : Option Nat × Int32 × Int32 × Int32 × Hp → Option (Unit × Hp)) : f_X8_orders_61 k7 (some m) R (iI (u : Int)) K L (iI 0) (MH h m τ) = f_X8_orders_77 k7 (some m) R (iI (u : Int)) K L (iI (nxB u 0 : Int)) (MH h m τ) := by
  unfold f_X8_orders_61
  have := lp_search (B := fun k61 w => fb_X8_orders_61 k7 k61 w.1 w.2.1 w.2.2.1 w.2.2.2.1 w.2.2.2.2.1 w.2.2.2.2.2.1 w.2.2.2.2.2.2) (fun b => (some m, R, iI (u : Int), K, L, iI (b : Int), MH h m τ)) 17 (fun j => !Nat.testBit u j) (fun b => f_X8_orders_77 k7 (some m) R (iI (u : Int)) K L (iI (b : Int)) (MH h m τ)) (f_X8_orders_77 k7 (some m) R (iI (u : Int)) K L (iI ((17 : Nat) : Int)) (MH h m τ))
    (fun b hb k => by
      show fb_X8_orders_61 k7 k (some m) R (iI (u : Int)) K L (iI (b : Int)) (MH h m τ) = _
      unfold fb_X8_orders_61
      have e := bt1 u hu b (by omega)
      rw [iI_ofNat, iI_ofNat] at e
      by_cases c : Nat.testBit u b = true
      · rw [if_pos (e.2 c), c]
        rw [iI_1, iI_add, Int.natCast_succ]
        rfl
      · rw [if_neg (fun z => c (e.1 z)), show Nat.testBit u b = false by simpa using c]
        rfl)
    (fun k => by
      show fb_X8_orders_61 k7 k (some m) R (iI (u : Int)) K L (iI ((17 : Nat) : Int)) (MH h m τ) = _
      unfold fb_X8_orders_61
      have e := bt1 u hu 17 (by omega)
      rw [iI_ofNat, iI_ofNat] at e
      have hf : ¬ Nat.testBit u 17 = true := by
        have := (by decide : ∀ u, u < 32 → Nat.testBit u 17 = false) u hu
        rw [this]
        simp
      rw [if_neg (fun z => hf (e.1 z))]) 17 0 FU (by omega) (by rw [FU_eq]; omega)
  refine Eq.trans this ?_
  unfold nxB
  cases srch (fun j => !Nat.testBit u j) 0 17 <;> rfl
theorem s_85 {u : Nat} (hu : u < 32) (R K L : Int32) (τ : Sg) (k7 : Option Nat × Int32 × Int32 × Int32 × Hp → Option (Unit × Hp)) (k77 : Option Nat × Int32 × Int32 × Int32 × Int32 × Int32 × Hp → Option (Unit × Hp)) {b : Nat} (hb : b ≤ 17) : f_X8_orders_85 k7 k77 (some m) R (iI (u : Int)) K L (iI (b : Int)) (MH h m τ) = k77 (some m, R, iI (u : Int), K, L + (-1), iI (nxB u b : Int), MH h m τ) := by
  unfold f_X8_orders_85
  have := lp_search (B := fun k85 w => fb_X8_orders_85 k7 k77 k85 w.1 w.2.1 w.2.2.1 w.2.2.2.1 w.2.2.2.2.1 w.2.2.2.2.2.1 w.2.2.2.2.2.2) (fun b => (some m, R, iI (u : Int), K, L, iI (b : Int), MH h m τ)) 17 (fun j => !Nat.testBit u j) (fun b => k77 (some m, R, iI (u : Int), K, L + (-1), iI (b : Int), MH h m τ)) (k77 (some m, R, iI (u : Int), K, L + (-1), iI ((17 : Nat) : Int), MH h m τ))
    (fun b hb k => by
      show fb_X8_orders_85 k7 k77 k (some m) R (iI (u : Int)) K L (iI (b : Int)) (MH h m τ) = _
      unfold fb_X8_orders_85
      have e := bt1 u hu b (by omega)
      rw [iI_ofNat, iI_ofNat] at e
      by_cases c : Nat.testBit u b = true
      · rw [if_pos (e.2 c), c]
        have e1 : iI (b : Int) + 1 = iI ((b + 1 : Nat) : Int) := by rw [iI_1, iI_add, Int.natCast_succ]
        rw [e1]
        rfl
      · rw [if_neg (fun z => c (e.1 z)), show Nat.testBit u b = false by simpa using c]
        rfl)
    (fun k => by
      show fb_X8_orders_85 k7 k77 k (some m) R (iI (u : Int)) K L (iI ((17 : Nat) : Int)) (MH h m τ) = _
      unfold fb_X8_orders_85
      have e := bt1 u hu 17 (by omega)
      rw [iI_ofNat, iI_ofNat] at e
      have hf : ¬ Nat.testBit u 17 = true := by
        have := (by decide : ∀ u, u < 32 → Nat.testBit u 17 = false) u hu
        rw [this]
        simp
      rw [if_neg (fun z => hf (e.1 z))]) (17 - b) b FU (by omega) (by rw [FU_eq]; omega)
  refine Eq.trans this ?_
  unfold nxB
  cases srch (fun j => !Nat.testBit u j) b (17 - b) <;> rfl
theorem s_77 {u : Nat} (hu : u < 32) (R : Int32) {k : Nat} (hk : k < 16) (τ : Sg) (k7 : Option Nat × Int32 × Int32 × Int32 × Hp → Option (Unit × Hp)) : ∀ (l b N : Nat), l < N → l ≤ 5 → (∀ j, j ≤ l → adB u j b < 12) → adB u l b < 5 →
    lp (fun k77 w => fb_X8_orders_77 k7 k77 w.1 w.2.1 w.2.2.1 w.2.2.2.1 w.2.2.2.2.1 w.2.2.2.2.2.1 w.2.2.2.2.2.2) N (some m, R, iI (u : Int), iI (k : Int), iI (l : Int), iI (b : Int), MH h m τ) = k7 (some m, R, iI ((u ||| (1 <<< adB u l b) : Nat) : Int), iI ((k : Int) + 1), MH h m (sg τ 24 k (adB u l b : Nat))) := by
  intro l
  induction l with
  | zero =>
    intro b N hN _ hb h5
    obtain ⟨N, rfl⟩ : ∃ q, N = q + 1 := ⟨N - 1, by omega⟩
    rw [lp_succ]
    generalize lp _ N = kk
    show fb_X8_orders_77 k7 kk (some m) R (iI (u : Int)) (iI (k : Int)) (iI ((0 : Nat) : Int)) (iI (b : Int)) (MH h m τ) = _
    have hb5 : b < 5 := h5
    have e2 := bt2 u hu b hb5
    rw [iI_ofNat, iI_ofNat, iI_ofNat] at e2
    unfold fb_X8_orders_77
    rw [if_pos (by decide), e2]
    simp (disch := omega) only [rcv_M, mR0, mS0, mR1, mL1, mS1, mR2, mL2, mS2, mR3, mL3, mS3, mR4, mS4, mR5, mS5, mR6, mL6, mS6, mR7, mL7, mS7, mR8, mL8, mS8, mR9, mS9, mR10, mL10, mS10, mR11, mL11, mS11, mR12, mL12, mS12, mR13, mL13, mS13, mR14, mL14, mS14, mR15, mL15, mS15, mR16, mL16, mS16, mR17, mL17, mS17, mR18, mL18, mS18, mR19, mL19, mS19, mR20, mL20, mS20, mR21, mL21, mS21, mR22, mL22, mS22, mR23, mL23, mS23, mR24, mL24, mS24, mR25, mL25, mS25, mR26, mL26, mS26, mR27, mL27, mS27, mR28, mL28, mS28, mR29, mL29, mS29, mR30, mL30, mS30, mR31, mL31, mS31, mR32, mL32, mS32, mR33, mL33, mS33, iI_1, iI_add, Int.toNat_natCast]
    rfl
  | succ l ih =>
    intro b N hN hl5 hb h5
    obtain ⟨N, rfl⟩ : ∃ q, N = q + 1 := ⟨N - 1, by omega⟩
    have hb0 : b < 12 := hb 0 (by omega)
    have ihN := ih (nxB u (b + 1)) N (by omega) (by omega) (fun j hj => hb (j + 1) (by omega)) h5
    rw [lp_succ]
    generalize lp (fun k77 w => fb_X8_orders_77 k7 k77 w.1 w.2.1 w.2.2.1 w.2.2.2.1 w.2.2.2.2.1 w.2.2.2.2.2.1 w.2.2.2.2.2.2) N = kk at ihN ⊢
    show fb_X8_orders_77 k7 kk (some m) R (iI (u : Int)) (iI (k : Int)) (iI ((l + 1 : Nat) : Int)) (iI (b : Int)) (MH h m τ) = _
    unfold fb_X8_orders_77
    have e1 : iI (b : Int) + 1 = iI ((b + 1 : Nat) : Int) := by rw [iI_1, iI_add, Int.natCast_succ]
    have e2 : iI ((l + 1 : Nat) : Int) + (-1) = iI (l : Int) := by
      rw [iI_m1, iI_add]
      exact congrArg iI (by omega)
    rw [if_neg (by rw [iI_0, iI_le (by omega) (by omega) (by omega) (by omega)]; omega), e1, s_85 hu _ _ _ _ _ _ (by omega), e2, ihN]
    rfl
theorem oOK_at {n p : Nat} (hn : n ≤ 5) (hp : p < fc n) {k : Nat} (hk : k < n) : oB n p k < n ∧ (oS n p k).2 < 32 ∧ (oS n p k).1 / fc (n - k - 1) < 5 ∧ (oS n p k).1 < 120 ∧ ∀ l, l < 6 → adB (oS n p k).2 l (nxB (oS n p k).2 0) < 12 := by
  have h1 := List.all_eq_true.1 oOKs n (List.mem_range.2 (by omega))
  have h2 := List.all_eq_true.1 h1 p (List.mem_range.2 hp)
  unfold oOK at h2
  have h3 := List.all_eq_true.1 h2 k (List.mem_range.2 hk)
  simp only [Bool.and_eq_true, decide_eq_true_eq] at h3
  obtain ⟨⟨⟨⟨z1, z2⟩, z3⟩, z4⟩, z5⟩ := h3
  refine ⟨z1, z2, z3, z4, fun l hl => ?_⟩
  have := List.all_eq_true.1 z5 l (List.mem_range.2 hl)
  simpa using this
theorem s_orders {n p : Nat} (h1 : 1 ≤ n) (hn5 : n ≤ 5) (hp : p < fc n) (hn : σ 9 0 = n) : ∃ τ, cor τ = cor σ ∧ (∀ k, k < n → τ 24 k = (oB n p k : Int)) ∧ f_X8_orders m (iI (p : Int)) (MH h m σ) = some ((), MH h m τ) := by
  unfold f_X8_orders f_X8_orders_7
  rw [iI_0]
  obtain ⟨τ, t1, t2⟩ := lp_rel (B := fun k7 w => fb_X8_orders_7 k7 w.1 w.2.1 w.2.2.1 w.2.2.2.1 w.2.2.2.2) (fun k (τ : Sg) => (some m, iI ((oS n p k).1 : Int), iI ((oS n p k).2 : Int), iI (k : Int), MH h m τ)) (fun k τ => cor τ = cor σ ∧ ∀ j, j < k → τ 24 j = (oB n p j : Int)) n (fun τ => some ((), MH h m τ))
    (fun k τ hk hI => by
      obtain ⟨z1, z2, z3, z4, z5⟩ := oOK_at hn5 hp hk
      have e9 : τ 9 0 = n := by rw [cor_eq hI.1 (by omega)]; exact hn
      have hF := fc_rng (n - k - 1) (by omega)
      refine ⟨sg τ 24 k (oB n p k : Nat), ⟨(cor_sg τ (by omega) _ _).trans hI.1, fun j hj => ?_⟩, fun k7 => ?_⟩
      · by_cases e : j = k
        · subst e; rw [sg_eq]
        · rw [sg_i _ _ _ e]; exact hI.2 j (by omega)
      · show fb_X8_orders_7 k7 (some m) (iI ((oS n p k).1 : Int)) (iI ((oS n p k).2 : Int)) (iI (k : Int)) (MH h m τ) = _
        unfold fb_X8_orders_7 f_X8_orders_22
        simp (disch := omega) only [rcv_M, mR0, mS0, mR1, mL1, mS1, mR2, mL2, mS2, mR3, mL3, mS3, mR4, mS4, mR5, mS5, mR6, mL6, mS6, mR7, mL7, mS7, mR8, mL8, mS8, mR9, mS9, mR10, mL10, mS10, mR11, mL11, mS11, mR12, mL12, mS12, mR13, mL13, mS13, mR14, mL14, mS14, mR15, mL15, mS15, mR16, mL16, mS16, mR17, mL17, mS17, mR18, mL18, mS18, mR19, mL19, mS19, mR20, mL20, mS20, mR21, mL21, mS21, mR22, mL22, mS22, mR23, mL23, mS23, mR24, mL24, mS24, mR25, mL25, mS25, mR26, mL26, mS26, mR27, mL27, mS27, mR28, mL28, mS28, mR29, mL29, mS29, mR30, mL30, mS30, mR31, mL31, mS31, mR32, mL32, mS32, mR33, mL33, mS33, iI_0, iI_1, iI_neg, iL2, iL3, iL4, iL5, iL6, iL7, iL8, iL9, iL10, iL11, iL12, iL13, iL14, iL15, iL16, iL17, iL30, iL31, iL60, iL99, iL100, iL240, iL480, iL1000, iL1920, iL10000, iI_add, iI_sub, iI_mul, iI_div, iI_le, iI_lt, iI_eq, bd_s, e9]
        rw [if_neg (by omega)]
        have hfac := lp_count (B := fun k22 w => fb_X8_orders_22 k7 k22 w.1 w.2.1 w.2.2.1 w.2.2.2.1 w.2.2.2.2.1 w.2.2.2.2.2.1 w.2.2.2.2.2.2) (fun j => (some m, iI ((oS n p k).1 : Int), iI ((oS n p k).2 : Int), iI (k : Int), iI (fc (j + 1) : Int), iI ((j : Int) + 2), MH h m τ)) (n - k - 2) (f_X8_orders_61 k7 (some m) (iI (((oS n p k).1 % fc (n - k - 1) : Nat) : Int)) (iI ((oS n p k).2 : Int)) (iI (k : Int)) (iI (((oS n p k).1 / fc (n - k - 1) : Nat) : Int)) (iI 0) (MH h m τ))
          (fun j hj k22 => by
            show fb_X8_orders_22 k7 k22 (some m) (iI ((oS n p k).1 : Int)) (iI ((oS n p k).2 : Int)) (iI (k : Int)) (iI (fc (j + 1) : Int)) (iI ((j : Int) + 2)) (MH h m τ) = _
            unfold fb_X8_orders_22
            simp (disch := omega) only [rcv_M, mR0, mS0, mR1, mL1, mS1, mR2, mL2, mS2, mR3, mL3, mS3, mR4, mS4, mR5, mS5, mR6, mL6, mS6, mR7, mL7, mS7, mR8, mL8, mS8, mR9, mS9, mR10, mL10, mS10, mR11, mL11, mS11, mR12, mL12, mS12, mR13, mL13, mS13, mR14, mL14, mS14, mR15, mL15, mS15, mR16, mL16, mS16, mR17, mL17, mS17, mR18, mL18, mS18, mR19, mL19, mS19, mR20, mL20, mS20, mR21, mL21, mS21, mR22, mL22, mS22, mR23, mL23, mS23, mR24, mL24, mS24, mR25, mL25, mS25, mR26, mL26, mS26, mR27, mL27, mS27, mR28, mL28, mS28, mR29, mL29, mS29, mR30, mL30, mS30, mR31, mL31, mS31, mR32, mL32, mS32, mR33, mL33, mS33, iI_0, iI_1, iI_neg, iL2, iL3, iL4, iL5, iL6, iL7, iL8, iL9, iL10, iL11, iL12, iL13, iL14, iL15, iL16, iL17, iL30, iL31, iL60, iL99, iL100, iL240, iL480, iL1000, iL1920, iL10000, iI_add, iI_sub, iI_mul, iI_div, iI_le, iI_lt, iI_eq, bd_s, e9]
            rw [if_neg (by omega)]
            have e1 : (fc (j + 1) : Int) * ((j : Int) + 2) = (fc (j + 1 + 1) : Int) := by
              show _ = (((j + 1 + 1) * fc (j + 1) : Nat) : Int)
              rw [Int.natCast_mul, Int.mul_comm]
              congr 1
            rw [e1]
            congr 6)
          (fun k22 => by
            show fb_X8_orders_22 k7 k22 (some m) (iI ((oS n p k).1 : Int)) (iI ((oS n p k).2 : Int)) (iI (k : Int)) (iI (fc (n - k - 2 + 1) : Int)) (iI (((n - k - 2 : Nat) : Int) + 2)) (MH h m τ) = _
            have ef : fc (n - k - 2 + 1) = fc (n - k - 1) := by
              by_cases q : n - k = 1
              · rw [show n - k - 2 + 1 = 1 by omega, show n - k - 1 = 0 by omega]; rfl
              · rw [show n - k - 2 + 1 = n - k - 1 by omega]
            unfold fb_X8_orders_22 dv
            rw [ef, iI_rem (by omega) (by omega) (by omega) (by omega), iI_div (by omega) (by omega) (by omega) (by omega)]
            simp (disch := omega) only [rcv_M, mR0, mS0, mR1, mL1, mS1, mR2, mL2, mS2, mR3, mL3, mS3, mR4, mS4, mR5, mS5, mR6, mL6, mS6, mR7, mL7, mS7, mR8, mL8, mS8, mR9, mS9, mR10, mL10, mS10, mR11, mL11, mS11, mR12, mL12, mS12, mR13, mL13, mS13, mR14, mL14, mS14, mR15, mL15, mS15, mR16, mL16, mS16, mR17, mL17, mS17, mR18, mL18, mS18, mR19, mL19, mS19, mR20, mL20, mS20, mR21, mL21, mS21, mR22, mL22, mS22, mR23, mL23, mS23, mR24, mL24, mS24, mR25, mL25, mS25, mR26, mL26, mS26, mR27, mL27, mS27, mR28, mL28, mS28, mR29, mL29, mS29, mR30, mL30, mS30, mR31, mL31, mS31, mR32, mL32, mS32, mR33, mL33, mS33, iI_0, iI_1, iI_neg, iL2, iL3, iL4, iL5, iL6, iL7, iL8, iL9, iL10, iL11, iL12, iL13, iL14, iL15, iL16, iL17, iL30, iL31, iL60, iL99, iL100, iL240, iL480, iL1000, iL1920, iL10000, iI_add, iI_sub, iI_mul, iI_div, iI_le, iI_lt, iI_eq, bd_s, e9]
            rw [if_pos (by omega), if_neg (by omega), if_neg (by omega)]
            rfl) (n - k - 2) 0 FU (by omega) (by rw [FU_eq]; omega)
        have hfac' : lp (fun k22 w => fb_X8_orders_22 k7 k22 w.1 w.2.1 w.2.2.1 w.2.2.2.1 w.2.2.2.2.1 w.2.2.2.2.2.1 w.2.2.2.2.2.2) FU (some m, iI ((oS n p k).1 : Int), iI ((oS n p k).2 : Int), iI (k : Int), iI 1, iI 2, MH h m τ) = _ := hfac
        rw [hfac', s_61 z2]
        unfold f_X8_orders_77
        rw [s_77 z2 _ (by omega) τ k7 ((oS n p k).1 / fc (n - k - 1)) (nxB (oS n p k).2 0) FU (by rw [FU_eq]; omega) (by omega) (fun j hj => z5 j (by omega)) (show oB n p k < 5 by omega)]
        rfl)
    (fun τ k hI => by
      have e9 : τ 9 0 = n := by rw [cor_eq hI.1 (by omega)]; exact hn
      show fb_X8_orders_7 k (some m) (iI ((oS n p n).1 : Int)) (iI ((oS n p n).2 : Int)) (iI (n : Int)) (MH h m τ) = _
      unfold fb_X8_orders_7
      simp (disch := omega) only [rcv_M, mR0, mS0, mR1, mL1, mS1, mR2, mL2, mS2, mR3, mL3, mS3, mR4, mS4, mR5, mS5, mR6, mL6, mS6, mR7, mL7, mS7, mR8, mL8, mS8, mR9, mS9, mR10, mL10, mS10, mR11, mL11, mS11, mR12, mL12, mS12, mR13, mL13, mS13, mR14, mL14, mS14, mR15, mL15, mS15, mR16, mL16, mS16, mR17, mL17, mS17, mR18, mL18, mS18, mR19, mL19, mS19, mR20, mL20, mS20, mR21, mL21, mS21, mR22, mL22, mS22, mR23, mL23, mS23, mR24, mL24, mS24, mR25, mL25, mS25, mR26, mL26, mS26, mR27, mL27, mS27, mR28, mL28, mS28, mR29, mL29, mS29, mR30, mL30, mS30, mR31, mL31, mS31, mR32, mL32, mS32, mR33, mL33, mS33, iI_0, iI_1, iI_neg, iL2, iL3, iL4, iL5, iL6, iL7, iL8, iL9, iL10, iL11, iL12, iL13, iL14, iL15, iL16, iL17, iL30, iL31, iL60, iL99, iL100, iL240, iL480, iL1000, iL1920, iL10000, iI_add, iI_sub, iI_mul, iI_div, iI_le, iI_lt, iI_eq, bd_s, e9]
      rw [if_pos (by omega)]
      rfl) n 0 FU σ (by omega) (by rw [FU_eq]; omega) ⟨rfl, fun j hj => by omega⟩
  exact ⟨τ, t1.1, t1.2, t2⟩
end
