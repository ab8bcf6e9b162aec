theorem lp_rel {α S T : Type} {B : (S → Option α) → S → Option α} (st : Nat → T → S) (Inv : Nat → T → Prop) (N : Nat) (re : T → Option α) (hs : ∀ i t, i < N → Inv i t → ∃ t', Inv (i + 1) t' ∧ ∀ k, B k (st i t) = k (st (i + 1) t')) (he : ∀ t k, Inv N t → B k (st N t) = re t) :
    ∀ (d i n : Nat) (t : T), i + d = N → d < n → Inv i t → ∃ u, Inv N u ∧ lp B n (st i t) = re u
  | 0, i, n, t, h1, h2, h3 => by
    obtain ⟨n, rfl⟩ : ∃ k, n = k + 1 := ⟨n - 1, by omega⟩
    have e : i = N := by omega
    subst e
    exact ⟨t, h3, by rw [lp_succ, he t _ h3]⟩
  | d + 1, i, n, t, h1, h2, h3 => by
    obtain ⟨n, rfl⟩ : ∃ k, n = k + 1 := ⟨n - 1, by omega⟩
    obtain ⟨t', g1, g2⟩ := hs i t (by omega) h3
    obtain ⟨u, u1, u2⟩ := lp_rel st Inv N re hs he d (i + 1) n t' (by omega) (by omega) g1
    exact ⟨u, u1, by rw [lp_succ, g2]; exact u2⟩
/-- the place of one that comes behind those that have k places -/
def plc (rk : Nat → Int) (f : Nat → Nat) (r : Int) : Nat → Nat
  | 0 => 0
  | k + 1 => if r < rk (f k) then plc rk f r k else k + 1
theorem plc_le (rk : Nat → Int) (f : Nat → Nat) (r : Int) : ∀ k, plc rk f r k ≤ k
  | 0 => Nat.le_refl _
  | k + 1 => by
    have := plc_le rk f r k
    unfold plc
    split <;> omega
/-- the order by rank of the first n bids -/
def ordF (rk : Nat → Int) : Nat → Nat → Nat
  | 0, _ => 0
  | n + 1, j => if j < plc rk (ordF rk n) (rk n) n then ordF rk n j else if j = plc rk (ordF rk n) (rk n) n then n else ordF rk n (j - 1)
theorem ordF_lt (rk : Nat → Int) : ∀ (n j : Nat), j < n → ordF rk n j < n
  | 0, j, h => absurd h (Nat.not_lt_zero _)
  | n + 1, j, h => by
    have hp := plc_le rk (ordF rk n) (rk n) n
    unfold ordF
    by_cases h1 : j < plc rk (ordF rk n) (rk n) n
    · rw [if_pos h1]
      have := ordF_lt rk n j (by omega)
      omega
    · rw [if_neg h1]
      by_cases h2 : j = plc rk (ordF rk n) (rk n) n
      · rw [if_pos h2]; omega
      · rw [if_neg h2]
        have := ordF_lt rk n (j - 1) (by omega)
        omega
section
variable {h : Hp} {m : Nat} {σ : Sg}
theorem s_isAhead (hw : WF σ) (a b : Nat) (ha : a < 16) (hb : b < 16) : f_X8_isAhead m (iI a) (iI b) (MH h m σ) = some (iI (b2 (σ 17 a < σ 17 b ∨ (σ 17 a = σ 17 b ∧ a < b))), MH h m σ) := by
  have h1 := (hw.bid ha).2.2.2.2.2.2.2.1
  have h2 := (hw.bid hb).2.2.2.2.2.2.2.1
  unfold f_X8_isAhead f_X8_isAhead_35 f_X8_isAhead_39 f_X8_isAhead_40
  simp (disch := omega) only [rcv_M, mR0, mS0, mR1, mL1, mS1, mR2, mL2, mS2, mR3, mL3, mS3, mR4, mS4, mR5, mS5, mR6, mL6, mS6, mR7, mL7, mS7, mR8, mL8, mS8, mR9, mS9, mR10, mL10, mS10, mR11, mL11, mS11, mR12, mL12, mS12, mR13, mL13, mS13, mR14, mL14, mS14, mR15, mL15, mS15, mR16, mL16, mS16, mR17, mL17, mS17, mR18, mL18, mS18, mR19, mL19, mS19, mR20, mL20, mS20, mR21, mL21, mS21, mR22, mL22, mS22, mR23, mL23, mS23, mR24, mL24, mS24, mR25, mL25, mS25, mR26, mL26, mS26, mR27, mL27, mS27, mR28, mL28, mS28, mR29, mL29, mS29, mR30, mL30, mS30, mR31, mL31, mS31, mR32, mL32, mS32, mR33, mL33, mS33, iI_0, iI_1, iI_neg, iL2, iL3, iL4, iL5, iL6, iL7, iL8, iL9, iL10, iL11, iL12, iL13, iL14, iL15, iL16, iL17, iL30, iL31, iL60, iL99, iL100, iL240, iL480, iL1000, iL1920, iL10000, iI_add, iI_sub, iI_mul, iI_div, iI_le, iI_lt, iI_eq, bd_s, Int.toNat_natCast, rt0, rt1]
  by_cases c1 : σ 17 a < σ 17 b
  · rw [if_pos c1, b2_t (Or.inl c1)]
  · rw [if_neg c1]
    by_cases c2 : σ 17 a = σ 17 b
    · rw [if_pos c2]
      by_cases c3 : (b : Int) ≤ a
      · rw [if_pos c3, b2_f (by omega)]
      · rw [if_neg c3, b2_t (by omega)]
    · rw [if_neg c2, b2_f (by omega)]
def ordG (σ : Sg) (G0 : Nat → Int) (b : Nat) : Nat → Int := fun j => if j < b then (ordF (σ 17) b j : Int) else G0 j
theorem s_ranks12 (hw : WF σ) (b : Nat) (hb : b < 16) (G0 : Nat → Int) (k2 : Option Nat × Int32 × Hp → Option (Unit × Hp)) : ∀ (a N : Nat) (G : Nat → Int), a ≤ b → a < N → (∀ j, j < a → G j = ordF (σ 17) b j) → (∀ j, a < j → j ≤ b → G j = ordF (σ 17) b (j - 1)) → (∀ j, b < j → G j = G0 j) → plc (σ 17) (ordF (σ 17) b) (σ 17 b) a = plc (σ 17) (ordF (σ 17) b) (σ 17 b) b →
    lp (fun k12 u => fb_X8_ranks_12 k2 k12 u.1 u.2.1 u.2.2.1 u.2.2.2) N (some m, iI b, iI (a : Int), MH h m (sF σ 24 G)) = k2 (some m, iI ((b : Int) + 1), MH h m (sF σ 24 (ordG σ G0 (b + 1)))) := by
  have fin : ∀ (a : Nat) (G : Nat → Int), a ≤ b → (∀ j, j < a → G j = ordF (σ 17) b j) → (∀ j, a < j → j ≤ b → G j = ordF (σ 17) b (j - 1)) → (∀ j, b < j → G j = G0 j) → a = plc (σ 17) (ordF (σ 17) b) (σ 17 b) b → f_X8_ranks_52 k2 (some m) (iI b) (iI (a : Int)) (MH h m (sF σ 24 G)) = k2 (some m, iI ((b : Int) + 1), MH h m (sF σ 24 (ordG σ G0 (b + 1)))) := by
    intro a G ha g1 g2 g0 g3
    have e : (fun j => if j = a then (b : Int) else G j) = ordG σ G0 (b + 1) := by
      funext j
      unfold ordG
      by_cases c0 : j < b + 1
      · rw [if_pos c0]
        unfold ordF
        rw [← g3]
        by_cases c1 : j < a
        · rw [if_neg (by omega), if_pos c1, g1 j c1]
        · rw [if_neg c1]
          by_cases c2 : j = a
          · rw [if_pos c2, if_pos c2]
          · rw [if_neg c2, if_neg c2, g2 j (by omega) (by omega)]
      · rw [if_neg c0, if_neg (by omega), g0 j (by omega)]
    unfold f_X8_ranks_52
    simp (disch := omega) only [rcv_M, mR0, mS0, mR1, mL1, mS1, mR2, mL2, mS2, mR3, mL3, mS3, mR4, mS4, mR5, mS5, mR6, mL6, mS6, mR7, mL7, mS7, mR8, mL8, mS8, mR9, mS9, mR10, mL10, mS10, mR11, mL11, mS11, mR12, mL12, mS12, mR13, mL13, mS13, mR14, mL14, mS14, mR15, mL15, mS15, mR16, mL16, mS16, mR17, mL17, mS17, mR18, mL18, mS18, mR19, mL19, mS19, mR20, mL20, mS20, mR21, mL21, mS21, mR22, mL22, mS22, mR23, mL23, mS23, mR24, mL24, mS24, mR25, mL25, mS25, mR26, mL26, mS26, mR27, mL27, mS27, mR28, mL28, mS28, mR29, mL29, mS29, mR30, mL30, mS30, mR31, mL31, mS31, mR32, mL32, mS32, mR33, mL33, mS33, iI_0, iI_1, iI_neg, iL2, iL3, iL4, iL5, iL6, iL7, iL8, iL9, iL10, iL11, iL12, iL13, iL14, iL15, iL16, iL17, iL30, iL31, iL60, iL99, iL100, iL240, iL480, iL1000, iL1920, iL10000, iI_add, iI_sub, iI_mul, iI_div, iI_le, iI_lt, iI_eq, bd_s, sg_sF, Int.toNat_natCast, e]
  intro a
  induction a with
  | zero =>
    intro N G ha hN g1 g2 g0 g3
    obtain ⟨N, rfl⟩ : ∃ k, N = k + 1 := ⟨N - 1, by omega⟩
    rw [lp_succ]
    show fb_X8_ranks_12 k2 _ (some m) (iI b) (iI ((0 : Nat) : Int)) _ = _
    unfold fb_X8_ranks_12
    rw [if_pos (by decide)]
    exact fin 0 G ha g1 g2 g0 g3
  | succ a ih =>
    intro N G ha hN g1 g2 g0 g3
    obtain ⟨N, rfl⟩ : ∃ k, N = k + 1 := ⟨N - 1, by omega⟩
    have hf := ordF_lt (σ 17) b a (by omega)
    have hG := g1 a (by omega)
    have hw2 : WF (sF σ 24 G) := hw
    have eA := s_isAhead (h := h) (m := m) hw2 b (ordF (σ 17) b a) hb (by omega)
    rw [show sF σ 24 G 17 = σ 17 from rfl] at eA
    have e24 : sF σ 24 G 24 (((a + 1 : Nat) : Int) - 1).toNat = (ordF (σ 17) b a : Int) := by
      rw [sF_at, show (((a + 1 : Nat) : Int) - 1).toNat = a by omega, hG]
    by_cases c : σ 17 b < σ 17 (ordF (σ 17) b a)
    · have g4 : plc (σ 17) (ordF (σ 17) b) (σ 17 b) a = plc (σ 17) (ordF (σ 17) b) (σ 17 b) b := by
        rw [← g3, plc, if_pos c]
      have q2 := ih N (fun j => if j = a + 1 then (ordF (σ 17) b a : Int) else G j) (by omega) (by omega) (fun j hj => by rw [if_neg (by omega)]; exact g1 j (by omega)) (fun j h1 h2 => by
        by_cases e : j = a + 1
        · rw [if_pos e, e]; rfl
        · rw [if_neg e]; exact g2 j (by omega) h2) (fun j hj => by rw [if_neg (by omega)]; exact g0 j hj) g4
      rw [← q2, lp_succ]
      generalize lp (fun k12 u => fb_X8_ranks_12 k2 k12 u.1 u.2.1 u.2.2.1 u.2.2.2) N = kk
      show fb_X8_ranks_12 k2 kk (some m) (iI b) (iI ((a + 1 : Nat) : Int)) (MH h m (sF σ 24 G)) = _
      unfold fb_X8_ranks_12
      simp (disch := omega) only [rcv_M, mR0, mS0, mR1, mL1, mS1, mR2, mL2, mS2, mR3, mL3, mS3, mR4, mS4, mR5, mS5, mR6, mL6, mS6, mR7, mL7, mS7, mR8, mL8, mS8, mR9, mS9, mR10, mL10, mS10, mR11, mL11, mS11, mR12, mL12, mS12, mR13, mL13, mS13, mR14, mL14, mS14, mR15, mL15, mS15, mR16, mL16, mS16, mR17, mL17, mS17, mR18, mL18, mS18, mR19, mL19, mS19, mR20, mL20, mS20, mR21, mL21, mS21, mR22, mL22, mS22, mR23, mL23, mS23, mR24, mL24, mS24, mR25, mL25, mS25, mR26, mL26, mS26, mR27, mL27, mS27, mR28, mL28, mS28, mR29, mL29, mS29, mR30, mL30, mS30, mR31, mL31, mS31, mR32, mL32, mS32, mR33, mL33, mS33, iI_0, iI_1, iI_neg, iL2, iL3, iL4, iL5, iL6, iL7, iL8, iL9, iL10, iL11, iL12, iL13, iL14, iL15, iL16, iL17, iL30, iL31, iL60, iL99, iL100, iL240, iL480, iL1000, iL1920, iL10000, iI_add, iI_sub, iI_mul, iI_div, iI_le, iI_lt, iI_eq, bd_s, e24, eA, iI_b2, sg_sF, Int.toNat_natCast]
      rw [if_neg (by omega), if_neg (fun z => z (Or.inl c))]
      rw [show (((a + 1 : Nat) : Int) + -1) = (a : Int) by omega]
    · have g4 : a + 1 = plc (σ 17) (ordF (σ 17) b) (σ 17 b) b := by rw [← g3, plc, if_neg c]
      rw [← fin (a + 1) G ha g1 g2 g0 g4, lp_succ]
      generalize lp (fun k12 u => fb_X8_ranks_12 k2 k12 u.1 u.2.1 u.2.2.1 u.2.2.2) N = kk
      show fb_X8_ranks_12 k2 kk (some m) (iI b) (iI ((a + 1 : Nat) : Int)) (MH h m (sF σ 24 G)) = _
      unfold fb_X8_ranks_12
      simp (disch := omega) only [rcv_M, mR0, mS0, mR1, mL1, mS1, mR2, mL2, mS2, mR3, mL3, mS3, mR4, mS4, mR5, mS5, mR6, mL6, mS6, mR7, mL7, mS7, mR8, mL8, mS8, mR9, mS9, mR10, mL10, mS10, mR11, mL11, mS11, mR12, mL12, mS12, mR13, mL13, mS13, mR14, mL14, mS14, mR15, mL15, mS15, mR16, mL16, mS16, mR17, mL17, mS17, mR18, mL18, mS18, mR19, mL19, mS19, mR20, mL20, mS20, mR21, mL21, mS21, mR22, mL22, mS22, mR23, mL23, mS23, mR24, mL24, mS24, mR25, mL25, mS25, mR26, mL26, mS26, mR27, mL27, mS27, mR28, mL28, mS28, mR29, mL29, mS29, mR30, mL30, mS30, mR31, mL31, mS31, mR32, mL32, mS32, mR33, mL33, mS33, iI_0, iI_1, iI_neg, iL2, iL3, iL4, iL5, iL6, iL7, iL8, iL9, iL10, iL11, iL12, iL13, iL14, iL15, iL16, iL17, iL30, iL31, iL60, iL99, iL100, iL240, iL480, iL1000, iL1920, iL10000, iI_add, iI_sub, iI_mul, iI_div, iI_le, iI_lt, iI_eq, bd_s, e24, eA, iI_b2]
      rw [if_neg (by omega), if_pos (by omega)]
theorem s_ranks (hw : WF σ) : f_X8_ranks m (MH h m σ) = some ((), MH h m (sF σ 24 (ordG σ (σ 24) (σ 9 0).toNat))) := by
  have h9 := hw.2.2.2.1
  unfold f_X8_ranks f_X8_ranks_2
  have e0 : σ = sF σ 24 (ordG σ (σ 24) 0) := by
    conv => lhs; rw [← sF_self σ 24]
    rfl
  rw [iI_0]
  conv => lhs; rw [e0]
  refine lp_count (B := fun k2 u => fb_X8_ranks_2 k2 u.1 u.2.1 u.2.2) (fun b => (some m, iI (b : Int), MH h m (sF σ 24 (ordG σ (σ 24) b)))) (σ 9 0).toNat _ (fun b hb k => ?_) (fun k => ?_) (σ 9 0).toNat 0 FU (by omega) (by rw [FU_eq]; omega)
  · show fb_X8_ranks_2 k (some m) (iI (b : Int)) (MH h m (sF σ 24 (ordG σ (σ 24) b))) = k (some m, iI ((b : Int) + 1), MH h m (sF σ 24 (ordG σ (σ 24) (b + 1))))
    have e9 : sF σ 24 (ordG σ (σ 24) b) 9 0 = σ 9 0 := rfl
    unfold fb_X8_ranks_2
    rw [mR9, e9, if_neg (by rw [iI_le (by omega) (by omega) (by omega) (by omega)]; omega)]
    unfold f_X8_ranks_12
    exact s_ranks12 hw b (by omega) (σ 24) k b FU _ (Nat.le_refl _) (by rw [FU_eq]; omega) (fun j hj => by unfold ordG; rw [if_pos hj]) (fun j h1 h2 => by omega) (fun j hj => by unfold ordG; rw [if_neg (by omega)]) rfl
  · show fb_X8_ranks_2 k (some m) (iI ((σ 9 0).toNat : Int)) (MH h m (sF σ 24 (ordG σ (σ 24) (σ 9 0).toNat))) = _
    have e9 : sF σ 24 (ordG σ (σ 24) (σ 9 0).toNat) 9 0 = σ 9 0 := rfl
    unfold fb_X8_ranks_2
    rw [mR9, e9, if_pos (by rw [iI_le (by omega) (by omega) (by omega) (by omega)]; omega)]
    rfl
end
