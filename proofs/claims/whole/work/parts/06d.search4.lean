/-! the way back, and the whole search -/
theorem bkF_out {κ : Sg} {b : Nat} : ∀ {i e j : Nat} {F : Nat → Int}, i ≤ j → bkF κ b i e F j = F j
  | 0, _, _, _, _ => rfl
  | i + 1, e, j, F, h => by
    unfold bkF
    rw [bkF_out (by omega), if_neg (by omega)]
section
variable {h : Hp} {A : CA} {κ : Sg} {ρ : Nat → Nat}
theorem k_down (hw : WF κ) (h16 : A.n ≤ 16) {b : Nat} (hb : b < A.n) {i : Nat} (i0 : 0 < i) (i1 : (i : Int) ≤ lgs κ b) {τ : Sg} (hx : Ex [45, 46] κ τ)
    (hC : ∀ t : Nat, κ 14 b ≤ t → t ≤ κ 15 b → κ 42 (240 * i + t) = b2 (cmg κ b i t = true)) (k10 : Option Nat × Option Nat × Int32 × Int32 × Hp → Option (Unit × Hp)) : ∀ (l N : Nat), l < N → (l : Int) ≤ κ 15 b → (∃ u, u ≤ l ∧ cmg κ b i u = true) →
    lp (fun k51 u => fb_X4_traceBack_51 k10 k51 u.1 u.2.1 u.2.2.1 u.2.2.2.1 u.2.2.2.2) N (some (A.x + 12), some (A.b b), iI (l : Int), iI (i : Int), CH h A τ) = k10 (some (A.x + 12), some (A.b b), iI (dn (cmg κ b i) l : Int), iI ((i : Int) - 1), CH h A τ) := by
  have hlg := lgs_rng hw (b := b) (by omega)
  obtain ⟨-, -, -, -, g14, g15, -⟩ := hw.bid (b := b) (by omega)
  have hlo := (cmg_lo hw (b := b) (by omega) i i1).1
  have e14 := hx 14 b (by decide)
  intro l
  induction l with
  | zero =>
    intro N hN hl hu
    obtain ⟨N, rfl⟩ : ∃ k, N = k + 1 := ⟨N - 1, by omega⟩
    rw [lp_succ]
    generalize lp _ N = kk
    show fb_X4_traceBack_51 k10 kk (some (A.x + 12)) (some (A.b b)) (iI ((0 : Nat) : Int)) (iI (i : Int)) (CH h A τ) = _
    unfold fb_X4_traceBack_51 f_X4_traceBack_86
    simp (disch := omega) only [iL239, cV0, cR0_0, cR0_1, cR0_2, cR0_3, cR0_4, cR0_5, cV1, cR1_1, cR1_2, cR1_3, cR1_4, cR1_5, cR1_6, cR1_7, cI1_0, cI1_8, cP1_8, cI1_9, cP1_9, cV9, cR9_0, cR9_1, cV10, cV11, cV12, cR12_0, cR12_1, cR12_2, cR12_3, cR12_4, cR12_5, cR12_6, cV18, cR18_0, cR18_1, cR18_2, cR18_3, cR18_4, cI18_5, cP18_5, cI18_6, cP18_6, cV22, cR22_0, cR22_1, cI22_2, cP22_2, cI22_3, cP22_3, cI22_4, cP22_4, cV23, cR23_0, cR23_1, cR23_3, cR23_4, cR23_5, cR23_6, cR23_7, cR23_8, cR23_9, cR23_10, cI23_2, cP23_2, cR10_1, cI10_2, cR11_1, cI11_2, cL2, cS2, cL3, cS3, cL4, cS4, cL5, cS5, cL6, cS6, cL7, cS7, cL8, cS8, cL13, cS13, cL14, cS14, cL15, cS15, cL16, cS16, cL17, cS17, cL19, cS19, cL20, cS20, cL21, cS21, cL24, cS24, cL25, cS25, cL26, cS26, cL27, cS27, cL28, cS28, cL29, cS29, cL30, cS30, cL31, cS31, bV, bK, bI0, bI1, bI2, bI3, bI4, bI5, bI6, bI7, bI8, bI9, bI10, bR11, bR12, bR13, bP9, bP10, bL1, bS1, bL2, bS2, bL3, bS3, iI_0, iI_1, iI_neg, iL2, iL3, iL4, iL5, iL6, iL7, iL8, iL9, iL10, iL11, iL12, iL13, iL14, iL15, iL16, iL17, iL30, iL31, iL60, iL99, iL100, iL240, iL480, iL1000, iL1920, iL10000, iI_add, iI_sub, iI_mul, iI_div, iI_le, iI_lt, iI_eq, bd_s, e14]
    rw [if_neg (by omega), if_pos (by omega)]
    rfl
  | succ l ih =>
    intro N hN hl hu
    obtain ⟨N, rfl⟩ : ∃ k, N = k + 1 := ⟨N - 1, by omega⟩
    obtain ⟨u, u1, u2⟩ := hu
    have hu3 := hlo u u2
    rw [lp_succ]
    have ihN := fun z => ih N (by omega) (by omega) z
    generalize lp (fun k51 u => fb_X4_traceBack_51 k10 k51 u.1 u.2.1 u.2.2.1 u.2.2.2.1 u.2.2.2.2) N = kk at ihN ⊢
    show fb_X4_traceBack_51 k10 kk (some (A.x + 12)) (some (A.b b)) (iI ((l + 1 : Nat) : Int)) (iI (i : Int)) (CH h A τ) = _
    have e42 : τ 42 ((i : Int) * 240 + ((l + 1 : Nat) : Int)).toNat = b2 (cmg κ b i (l + 1) = true) := by
      rw [hx 42 _ (by decide), show ((i : Int) * 240 + ((l + 1 : Nat) : Int)).toNat = 240 * i + (l + 1) by omega]
      exact hC (l + 1) (by omega) (by omega)
    unfold fb_X4_traceBack_51 f_X4_traceBack_86
    simp (disch := omega) only [iL239, cV0, cR0_0, cR0_1, cR0_2, cR0_3, cR0_4, cR0_5, cV1, cR1_1, cR1_2, cR1_3, cR1_4, cR1_5, cR1_6, cR1_7, cI1_0, cI1_8, cP1_8, cI1_9, cP1_9, cV9, cR9_0, cR9_1, cV10, cV11, cV12, cR12_0, cR12_1, cR12_2, cR12_3, cR12_4, cR12_5, cR12_6, cV18, cR18_0, cR18_1, cR18_2, cR18_3, cR18_4, cI18_5, cP18_5, cI18_6, cP18_6, cV22, cR22_0, cR22_1, cI22_2, cP22_2, cI22_3, cP22_3, cI22_4, cP22_4, cV23, cR23_0, cR23_1, cR23_3, cR23_4, cR23_5, cR23_6, cR23_7, cR23_8, cR23_9, cR23_10, cI23_2, cP23_2, cR10_1, cI10_2, cR11_1, cI11_2, cL2, cS2, cL3, cS3, cL4, cS4, cL5, cS5, cL6, cS6, cL7, cS7, cL8, cS8, cL13, cS13, cL14, cS14, cL15, cS15, cL16, cS16, cL17, cS17, cL19, cS19, cL20, cS20, cL21, cS21, cL24, cS24, cL25, cS25, cL26, cS26, cL27, cS27, cL28, cS28, cL29, cS29, cL30, cS30, cL31, cS31, bV, bK, bI0, bI1, bI2, bI3, bI4, bI5, bI6, bI7, bI8, bI9, bI10, bR11, bR12, bR13, bP9, bP10, bL1, bS1, bL2, bS2, bL3, bS3, iI_0, iI_1, iI_neg, iL2, iL3, iL4, iL5, iL6, iL7, iL8, iL9, iL10, iL11, iL12, iL13, iL14, iL15, iL16, iL17, iL30, iL31, iL60, iL99, iL100, iL240, iL480, iL1000, iL1920, iL10000, iI_add, iI_sub, iI_mul, iI_div, iI_le, iI_lt, iI_eq, bd_s, e14, e42, b2_i0]
    rw [if_neg (by omega)]
    by_cases c : ((l + 1 : Nat) : Int) ≤ κ 14 b
    · rw [if_pos c]
      have eu : u = l + 1 := by omega
      rw [eu] at u2
      have : dn (cmg κ b i) (l + 1) = l + 1 := by unfold dn; rw [if_pos u2]
      rw [this]
      rfl
    · rw [if_neg c]
      cases hc : cmg κ b i (l + 1) with
      | true =>
        rw [if_neg (by simp)]
        have : dn (cmg κ b i) (l + 1) = l + 1 := by unfold dn; rw [if_pos hc]
        rw [this]
        rfl
      | false =>
        rw [if_pos rfl]
        have e : dn (cmg κ b i) (l + 1) = dn (cmg κ b i) l := by
          show (if cmg κ b i (l + 1) = true then l + 1 else dn (cmg κ b i) l) = _
          rw [hc]; rfl
        rw [e, ← ihN ⟨u, by
          by_cases q : u = l + 1
          · rw [q, hc] at u2; cases u2
          · omega, u2⟩]
        congr 4
        exact congrArg iI (by omega)
theorem k_back (hw : WF κ) (h16 : A.n ≤ 16) {b : Nat} (hb : b < A.n)
    (hC : ∀ i : Nat, 0 < i → (i : Int) ≤ lgs κ b → ∀ t : Nat, κ 14 b ≤ t → t ≤ κ 15 b → κ 42 (240 * i + t) = b2 (cmg κ b i t = true)) : ∀ (i e N : Nat) (τ : Sg), i < N → (i : Int) ≤ lgs κ b → (e : Int) ≤ κ 15 b → (0 < i → cmg κ b i e = true) → Ex [45, 46] κ τ →
    ∃ υ, (Ex [45, 46] τ υ ∧ (∀ j, υ 45 j = bkF κ b i e (τ 45) j) ∧ (∀ j : Nat, j < i → υ 46 (j + 1) = υ 45 j + lng κ b j) ∧ ∀ j, i < j ∨ j = 0 → υ 46 j = τ 46 j) ∧ lp (fun k10 u => fb_X4_traceBack_10 k10 u.1 u.2.1 u.2.2.1 u.2.2.2.1 u.2.2.2.2) N (some (A.x + 12), some (A.b b), iI (e : Int), iI ((i : Int) - 1), CH h A τ) = some ((), CH h A υ) := by
  have hlg := lgs_rng hw (b := b) (by omega)
  obtain ⟨-, -, -, -, g14, g15, -⟩ := hw.bid (b := b) (by omega)
  intro i
  induction i with
  | zero =>
    intro e N τ hN _ he _ hx
    obtain ⟨N, rfl⟩ : ∃ k, N = k + 1 := ⟨N - 1, by omega⟩
    refine ⟨τ, ⟨Ex.refl _ _, fun _ => rfl, fun j hj => absurd hj (Nat.not_lt_zero _), fun _ _ => rfl⟩, ?_⟩
    rw [lp_succ]
    generalize lp _ N = kk
    show fb_X4_traceBack_10 kk (some (A.x + 12)) (some (A.b b)) (iI (e : Int)) (iI (((0 : Nat) : Int) - 1)) (CH h A τ) = _
    unfold fb_X4_traceBack_10
    simp (disch := omega) only [iL239, cV0, cR0_0, cR0_1, cR0_2, cR0_3, cR0_4, cR0_5, cV1, cR1_1, cR1_2, cR1_3, cR1_4, cR1_5, cR1_6, cR1_7, cI1_0, cI1_8, cP1_8, cI1_9, cP1_9, cV9, cR9_0, cR9_1, cV10, cV11, cV12, cR12_0, cR12_1, cR12_2, cR12_3, cR12_4, cR12_5, cR12_6, cV18, cR18_0, cR18_1, cR18_2, cR18_3, cR18_4, cI18_5, cP18_5, cI18_6, cP18_6, cV22, cR22_0, cR22_1, cI22_2, cP22_2, cI22_3, cP22_3, cI22_4, cP22_4, cV23, cR23_0, cR23_1, cR23_3, cR23_4, cR23_5, cR23_6, cR23_7, cR23_8, cR23_9, cR23_10, cI23_2, cP23_2, cR10_1, cI10_2, cR11_1, cI11_2, cL2, cS2, cL3, cS3, cL4, cS4, cL5, cS5, cL6, cS6, cL7, cS7, cL8, cS8, cL13, cS13, cL14, cS14, cL15, cS15, cL16, cS16, cL17, cS17, cL19, cS19, cL20, cS20, cL21, cS21, cL24, cS24, cL25, cS25, cL26, cS26, cL27, cS27, cL28, cS28, cL29, cS29, cL30, cS30, cL31, cS31, bV, bK, bI0, bI1, bI2, bI3, bI4, bI5, bI6, bI7, bI8, bI9, bI10, bR11, bR12, bR13, bP9, bP10, bL1, bS1, bL2, bS2, bL3, bS3, iI_0, iI_1, iI_neg, iL2, iL3, iL4, iL5, iL6, iL7, iL8, iL9, iL10, iL11, iL12, iL13, iL14, iL15, iL16, iL17, iL30, iL31, iL60, iL99, iL100, iL240, iL480, iL1000, iL1920, iL10000, iI_add, iI_sub, iI_mul, iI_div, iI_le, iI_lt, iI_eq, bd_s]
    rw [if_pos (by omega)]
    rfl
  | succ i ih =>
    intro e N τ hN hi he hc hx
    obtain ⟨N, rfl⟩ : ∃ k, N = k + 1 := ⟨N - 1, by omega⟩
    obtain ⟨c1, c2, -⟩ := cmg_inv (hc (by omega))
    have hln := lng_rng hw (b := b) (i := i) (by omega) (by omega) (by omega)
    have ecor := hx.cor (by decide)
    have hwt : WF τ := by
      have h1 : WF (cor κ) := hw
      rw [← ecor] at h1
      exact h1
    have elg : lgs τ b = lgs κ b := by
      unfold lgs
      rw [hx 11 b (by decide), hx 12 b (by decide)]
    have eln : lng τ b i = lng κ b i := by
      have h0 : ∀ σ : Sg, lng σ b i = lng (cor σ) b i := fun _ => rfl
      rw [h0 τ, ecor, ← h0 κ]
    obtain ⟨e', he'⟩ : ∃ e' : Nat, (e' : Int) = e - lng κ b i := ⟨(e - lng κ b i).toNat, by omega⟩
    have hx1 : Ex [45, 46] κ (sg (sg τ 46 (i + 1) e) 45 i (e - lng κ b i)) := (hx.sg (by decide) _ _).sg (by decide) _ _
    obtain ⟨υ, ⟨u1, u2, u3, u4⟩, u5⟩ := ih (if i = 0 then e' else dn (cmg κ b i) e') N (sg (sg τ 46 (i + 1) e) 45 i (e - lng κ b i)) (by omega) (by omega) (by
        split
        · omega
        · rename_i q
          obtain ⟨i', rfl⟩ : ∃ i', i = i' + 1 := ⟨i - 1, by omega⟩
          rw [← he', show ((e' : Int)).toNat = e' from Int.toNat_natCast _] at c2
          have := (dn_ok (rdy_ex c2)).2
          omega) (fun z => by
        rw [if_neg (by omega)]
        obtain ⟨i', rfl⟩ : ∃ i', i = i' + 1 := ⟨i - 1, by omega⟩
        rw [← he', show ((e' : Int)).toNat = e' from Int.toNat_natCast _] at c2
        exact (dn_ok (rdy_ex c2)).1) hx1
    have e45 : (sg (sg τ 46 (i + 1) e) 45 i (e - lng κ b i)) 45 = fun j => if j = i then (e : Int) - lng κ b i else τ 45 j := by
      funext j
      simp [sg]
    refine ⟨υ, ⟨(((Ex.refl _ τ).sg (by decide) _ _).sg (by decide) _ _).trans u1, fun j => ?_, fun j hj => ?_, fun j hj => ?_⟩, ?_⟩
    · rw [u2 j, e45]
      show _ = bkF κ b i (if i = 0 then (e - lng κ b i).toNat else dn (cmg κ b i) (e - lng κ b i).toNat) _ j
      rw [← he', Int.toNat_natCast]
    · by_cases hj2 : j = i
      · subst hj2
        rw [u4 (j + 1) (Or.inl (by omega)), u2 j, bkF_out (Nat.le_refl _), sg_eq]
        rw [sg_f _ _ _ _ (by decide), sg_eq]
        omega
      · exact u3 j (by omega)
    · rw [u4 j (by omega), sg_f _ _ _ _ (by decide), sg_i _ _ _ (by omega)]
    · rw [lp_succ]
      have hdn := fun (z0 : 0 < i) => k_down (h := h) hw h16 hb z0 (by omega) hx1 (hC i z0 (by omega)) (lp (fun k10 u => fb_X4_traceBack_10 k10 u.1 u.2.1 u.2.2.1 u.2.2.2.1 u.2.2.2.2) N) e' FU
      generalize lp (fun k10 u => fb_X4_traceBack_10 k10 u.1 u.2.1 u.2.2.1 u.2.2.2.1 u.2.2.2.2) N = kk at u5 hdn ⊢
      show fb_X4_traceBack_10 kk (some (A.x + 12)) (some (A.b b)) (iI (e : Int)) (iI (((i + 1 : Nat) : Int) - 1)) (CH h A τ) = _
      rw [show (((i + 1 : Nat) : Int) - 1) = (i : Int) by omega]
      unfold fb_X4_traceBack_10
      simp (disch := omega) only [iL239, cV0, cR0_0, cR0_1, cR0_2, cR0_3, cR0_4, cR0_5, cV1, cR1_1, cR1_2, cR1_3, cR1_4, cR1_5, cR1_6, cR1_7, cI1_0, cI1_8, cP1_8, cI1_9, cP1_9, cV9, cR9_0, cR9_1, cV10, cV11, cV12, cR12_0, cR12_1, cR12_2, cR12_3, cR12_4, cR12_5, cR12_6, cV18, cR18_0, cR18_1, cR18_2, cR18_3, cR18_4, cI18_5, cP18_5, cI18_6, cP18_6, cV22, cR22_0, cR22_1, cI22_2, cP22_2, cI22_3, cP22_3, cI22_4, cP22_4, cV23, cR23_0, cR23_1, cR23_3, cR23_4, cR23_5, cR23_6, cR23_7, cR23_8, cR23_9, cR23_10, cI23_2, cP23_2, cR10_1, cI10_2, cR11_1, cI11_2, cL2, cS2, cL3, cS3, cL4, cS4, cL5, cS5, cL6, cS6, cL7, cS7, cL8, cS8, cL13, cS13, cL14, cS14, cL15, cS15, cL16, cS16, cL17, cS17, cL19, cS19, cL20, cS20, cL21, cS21, cL24, cS24, cL25, cS25, cL26, cS26, cL27, cS27, cL28, cS28, cL29, cS29, cL30, cS30, cL31, cS31, bV, bK, bI0, bI1, bI2, bI3, bI4, bI5, bI6, bI7, bI8, bI9, bI10, bR11, bR12, bR13, bP9, bP10, bL1, bS1, bL2, bS2, bL3, bS3, iI_0, iI_1, iI_neg, iL2, iL3, iL4, iL5, iL6, iL7, iL8, iL9, iL10, iL11, iL12, iL13, iL14, iL15, iL16, iL17, iL30, iL31, iL60, iL99, iL100, iL240, iL480, iL1000, iL1920, iL10000, iI_add, iI_sub, iI_mul, iI_div, iI_le, iI_lt, iI_eq, bd_s, k_lengthOf hwt, elg, eln]
      rw [if_neg (by omega)]
      rw [show ((i : Int) + 1).toNat = i + 1 by omega, Int.toNat_natCast]
      by_cases c0 : i = 0
      · rw [if_pos c0] at u5
        rw [← u5]
        unfold f_X4_traceBack_51
        rw [FU_eq, show (5000 : Nat) = 4999 + 1 from rfl, lp_succ]
        generalize lp _ 4999 = k2
        show fb_X4_traceBack_51 kk k2 (some (A.x + 12)) (some (A.b b)) (iI (e - lng κ b i)) (iI (i : Int)) _ = _
        unfold fb_X4_traceBack_51 f_X4_traceBack_86
        simp (disch := omega) only [iL239, cV0, cR0_0, cR0_1, cR0_2, cR0_3, cR0_4, cR0_5, cV1, cR1_1, cR1_2, cR1_3, cR1_4, cR1_5, cR1_6, cR1_7, cI1_0, cI1_8, cP1_8, cI1_9, cP1_9, cV9, cR9_0, cR9_1, cV10, cV11, cV12, cR12_0, cR12_1, cR12_2, cR12_3, cR12_4, cR12_5, cR12_6, cV18, cR18_0, cR18_1, cR18_2, cR18_3, cR18_4, cI18_5, cP18_5, cI18_6, cP18_6, cV22, cR22_0, cR22_1, cI22_2, cP22_2, cI22_3, cP22_3, cI22_4, cP22_4, cV23, cR23_0, cR23_1, cR23_3, cR23_4, cR23_5, cR23_6, cR23_7, cR23_8, cR23_9, cR23_10, cI23_2, cP23_2, cR10_1, cI10_2, cR11_1, cI11_2, cL2, cS2, cL3, cS3, cL4, cS4, cL5, cS5, cL6, cS6, cL7, cS7, cL8, cS8, cL13, cS13, cL14, cS14, cL15, cS15, cL16, cS16, cL17, cS17, cL19, cS19, cL20, cS20, cL21, cS21, cL24, cS24, cL25, cS25, cL26, cS26, cL27, cS27, cL28, cS28, cL29, cS29, cL30, cS30, cL31, cS31, bV, bK, bI0, bI1, bI2, bI3, bI4, bI5, bI6, bI7, bI8, bI9, bI10, bR11, bR12, bR13, bP9, bP10, bL1, bS1, bL2, bS2, bL3, bS3, iI_0, iI_1, iI_neg, iL2, iL3, iL4, iL5, iL6, iL7, iL8, iL9, iL10, iL11, iL12, iL13, iL14, iL15, iL16, iL17, iL30, iL31, iL60, iL99, iL100, iL240, iL480, iL1000, iL1920, iL10000, iI_add, iI_sub, iI_mul, iI_div, iI_le, iI_lt, iI_eq, bd_s]
        rw [if_pos (by omega), he']
        rfl
      · rw [if_neg c0] at u5
        rw [← u5]
        have := hdn (by omega) (by rw [FU_eq]; omega) (by omega) (by
          obtain ⟨i', rfl⟩ : ∃ i', i = i' + 1 := ⟨i - 1, by omega⟩
          rw [← he', show ((e' : Int)).toNat = e' from Int.toNat_natCast _] at c2
          exact rdy_ex c2)
        rw [he'] at this
        exact this
theorem srch_shift {P : Nat → Bool} {E L : Nat} (hE : ∀ j, j < E → P j = false) (hEL : E ≤ L) : srch P 0 L = (match srch (fun j => P (E + j)) 0 (L - E) with | some j => some (E + j) | none => none) := by
  cases hs : srch (fun j => P (E + j)) 0 (L - E) with
  | none =>
    have h0 := srch_none.1 hs
    refine srch_none.2 (fun j _ hj => ?_)
    by_cases q : j < E
    · exact hE j q
    · have := h0 (j - E) (Nat.zero_le _) (by omega)
      rw [show E + (j - E) = j by omega] at this
      exact this
  | some j =>
    obtain ⟨-, h2, h3, h4⟩ := srch_some.1 hs
    refine srch_some.2 ⟨Nat.zero_le _, by omega, h3, fun k _ hk => ?_⟩
    by_cases q : k < E
    · exact hE k q
    · have := h4 (k - E) (Nat.zero_le _) (by omega)
      rw [show E + (k - E) = k by omega] at this
      exact this
/-- all works have minutes -/
def WK (κ : Sg) : Prop := ∀ w : Nat, (w : Int) < κ 5 0 → κ 7 w < κ 8 w
theorem wk_cls {κ : Sg} (hk : WK κ) {s n : Int} (h0 : 0 < n) (t : Nat) : exB (wkP κ s n t) (κ 5 0).toNat = exB (fun d => clsd κ s (t + d)) n.toNat := by
  apply Bool.eq_iff_iff.2
  rw [exB_iff, exB_iff]
  constructor
  · rintro ⟨w, h1, h2⟩
    simp only [wkP, decide_eq_true_eq] at h2
    obtain ⟨h2, h3, h4⟩ := h2
    have h5 := hk w (by omega)
    by_cases c : κ 7 w ≤ t
    · refine ⟨0, by omega, exB_iff.2 ⟨w, h1, ?_⟩⟩
      simp only [clsP, decide_eq_true_eq]
      exact ⟨h2, by omega, by omega⟩
    · refine ⟨(κ 7 w - t).toNat, by omega, exB_iff.2 ⟨w, h1, ?_⟩⟩
      simp only [clsP, decide_eq_true_eq]
      exact ⟨h2, by omega, by omega⟩
  · rintro ⟨d, h1, h2⟩
    obtain ⟨w, h3, h4⟩ := exB_iff.1 h2
    simp only [clsP, decide_eq_true_eq] at h4
    refine ⟨w, h3, ?_⟩
    simp only [wkP, decide_eq_true_eq]
    exact ⟨h4.1, by omega, by omega⟩
theorem k_step (hk : KO h A κ ρ) (hc : CM κ) (hwk : WK κ) {b : Nat} (hb : b < A.n) {i : Nat} (i1 : (i : Int) < lgs κ b) {τ : Sg} (hx : Ex [42, 43, 44] κ τ)
    (hC : ∀ i' : Nat, 0 < i' → i' ≤ i → ∀ t : Nat, κ 14 b ≤ t → t ≤ κ 15 b → τ 42 (240 * i' + t) = b2 (cmg κ b i' t = true)) :
    ∃ υ, (Ex [42, 43, 44] κ υ ∧ ∀ i' : Nat, 0 < i' → i' ≤ i + 1 → ∀ t : Nat, κ 14 b ≤ t → t ≤ κ 15 b → υ 42 (240 * i' + t) = b2 (cmg κ b i' t = true)) ∧ ∀ (k : Option Nat × Option Nat × Int32 × Int32 × Hp → Option (Int32 × Hp)), fb_X4_endFor_20 k (some (A.x + 12)) (some (A.b b)) (iI (lgs κ b)) (iI (i : Int)) (CH h A τ) = k (some (A.x + 12), some (A.b b), iI (lgs κ b), iI ((i + 1 : Nat) : Int), CH h A υ) := by
  have h16 := hk.n16
  have hw := hk.1.1
  have hlg := lgs_rng hw (b := b) (by omega)
  have hln := lng_rng hw (b := b) (i := i) (by omega) (by omega) (by omega)
  obtain ⟨-, -, -, -, g14, g15, -⟩ := hw.bid (b := b) (by omega)
  have CMx : ∀ {σ τ : Sg} {l : List Nat}, CM σ → Ex l σ τ → (∀ f, f ∈ l → 42 ≤ f) → CM τ := fun {σ τ l} hc hx hl => by
    have ecor := hx.cor (fun f hf => by have := hl f hf; omega)
    intro o j h1 h2 h3 h4
    rw [cor_eq ecor (f := 9) (by omega)] at h1
    rw [cor_eq ecor (f := 19) (by omega)] at h2
    have e1 : ∀ σ : Sg, lgs σ o = lgs (cor σ) o := fun _ => rfl
    have e2 : ∀ σ : Sg, cmT σ o j = cmT (cor σ) o j := fun _ => rfl
    rw [e1 τ, ecor, ← e1 σ] at h4
    rw [e2 τ, ecor, ← e2 σ]
    exact (hx 41 _ (fun z => by have := hl 41 z; omega)).trans (hc o j h1 h2 h3 h4)
  have KOx : ∀ {σ τ : Sg} {l : List Nat}, KO h A σ ρ → Ex l σ τ → (∀ f, f ∈ l → 42 ≤ f) → KO h A τ ρ := fun hk hx hl => hk.ex hx (fun f hf => by have := hl f hf; omega)
  have hk0 := KOx hk hx (by decide)
  have hc0 := CMx hc hx (by decide)
  have elg : ∀ {υ : Sg}, cor υ = cor κ → lgs υ b = lgs κ b := fun {υ} e => by
    have e1 : ∀ σ : Sg, lgs σ b = lgs (cor σ) b := fun _ => rfl
    rw [e1 υ, e, ← e1 κ]
  have c0 := hx.cor (by decide)
  obtain ⟨τ1, a1, a2, a3⟩ := k_clearMinutes hk0 hb
  have x1 := hx.trans (a1.mono (by decide : ∀ f, f ∈ [43, 44] → f ∈ [42, 43, 44]))
  have c1 := x1.cor (by decide)
  have hk1 := KOx hk x1 (by decide)
  obtain ⟨τ2, b1, b2', b3⟩ := k_blockByWorks hk1 hb (i := i) (by omega) (by rw [elg c1]; omega)
  have x2 := x1.trans (b1.mono (by decide : ∀ f, f ∈ [43] → f ∈ [42, 43, 44]))
  have c2 := x2.cor (by decide)
  have hk2 := KOx hk x2 (by decide)
  obtain ⟨τ3, d1, d2, d3⟩ := k_blockByOthers hk2 (CMx hc x2 (by decide)) hb (i := i) (by omega) (by rw [elg c2]; omega)
  have x3 := x2.trans (d1.mono (by decide : ∀ f, f ∈ [43] → f ∈ [42, 43, 44]))
  have c3 := x3.cor (by decide)
  have hk3 := KOx hk x3 (by decide)
  obtain ⟨τ4, f1, f2, f3⟩ := k_countStanding hk3 (CMx hc x3 (by decide)) hb (i := i) (by omega) (by rw [elg c3]; omega)
  have x4 := x3.trans (f1.mono (by decide : ∀ f, f ∈ [44] → f ∈ [42, 43, 44]))
  have c4 := x4.cor (by decide)
  have hk4 := KOx hk x4 (by decide)
  obtain ⟨τ5, g1, g2, g3, g4⟩ := k_clearComings hk4 hb (i := i + 1) (by omega)
  have x5 := x4.trans (g1.mono (by decide : ∀ f, f ∈ [42] → f ∈ [42, 43, 44]))
  have c5 := x5.cor (by decide)
  have hk5 := KOx hk x5 (by decide)
  have s14 : ∀ {υ : Sg}, cor υ = cor κ → υ 14 b = κ 14 b := fun e => cor_eq e (by omega) _
  have s15 : ∀ {υ : Sg}, cor υ = cor κ → υ 15 b = κ 15 b := fun e => cor_eq e (by omega) _
  rw [s14 c0, s15 c0] at a2
  rw [s14 c4, s15 c4] at g3
  have v43 : ∀ t : Nat, κ 14 b ≤ t → t ≤ κ 15 b → τ5 43 t = b2 (canL κ b i t = false) := fun t q1 q2 => by
    rw [g1 43 _ (by decide), f1 43 _ (by decide), d2 t (by omega), b2' t (by omega), (a2 t q1 q2).1]
    have e1 : ∀ σ : Sg, exB (blk σ b (sec σ b i) t (lng σ b i)) A.n = exB (blk (cor σ) b (sec (cor σ) b i) t (lng (cor σ) b i)) A.n := fun _ => rfl
    have e2 : ∀ σ : Sg, exB (wkP σ (sec σ b i) (lng σ b i) t) (σ 5 0).toNat = exB (wkP (cor σ) (sec (cor σ) b i) (lng (cor σ) b i) t) (cor σ 5 0).toNat := fun _ => rfl
    rw [e1 τ2, c2, ← e1 κ, e2 τ1, c1, ← e2 κ, wk_cls hwk (by omega)]
    unfold canL
    rw [hk.2.2, Int.toNat_natCast]
    cases exB (fun d => clsd κ (sec κ b i) (t + d)) (lng κ b i).toNat <;> cases exB (blk κ b (sec κ b i) t (lng κ b i)) A.n <;> rfl
  have v44 : ∀ t : Nat, κ 14 b ≤ t → t ≤ κ 15 b → τ5 44 t = cntI (othP κ b (stn κ b i) t) A.n := fun t q1 q2 => by
    rw [g1 44 _ (by decide), f2 t, d1 44 _ (by decide), b1 44 _ (by decide), (a2 t q1 q2).2]
    have e1 : ∀ σ : Sg, cntI (othP σ b (stn σ b i) t) A.n = cntI (othP (cor σ) b (stn (cor σ) b i) t) A.n := fun _ => rfl
    rw [e1 τ3, c3, ← e1 κ]
    omega
  have v42 : ∀ u : Nat, u < 240 * (i + 1) → τ5 42 u = τ 42 u := fun u hu => by
    rw [g2 u hu, f1 42 _ (by decide), d1 42 _ (by decide), b1 42 _ (by decide), a1 42 _ (by decide)]
  obtain ⟨τ6, j1, j2, j3, j4⟩ := k_spreadComings hk5 hb (i := i) (by rw [elg c5]; omega)
    (fun t q1 q2 => by rw [s14 c5] at q1; rw [s15 c5] at q2; rw [v43 t q1 q2, canL_eq c5])
    (fun t q1 q2 => by
      rw [s14 c5] at q1; rw [s15 c5] at q2
      have e1 : ∀ σ : Sg, cntI (othP σ b (stn σ b i) t) A.n = cntI (othP (cor σ) b (stn (cor σ) b i) t) A.n := fun _ => rfl
      rw [v44 t q1 q2, e1 τ5, c5, ← e1 κ])
    (fun z t q1 q2 => by rw [s14 c5] at q1; rw [s15 c5] at q2; rw [v42 _ (by omega), hC i z (Nat.le_refl _) t q1 q2, cmg_eq c5])
    (fun t q1 q2 => by rw [s14 c5] at q1; rw [s15 c5] at q2; exact g3 t q1 q2)
  rw [s14 c5, s15 c5] at j3
  have x6 := x5.trans (j1.mono (by decide : ∀ f, f ∈ [42] → f ∈ [42, 43, 44]))
  refine ⟨τ6, ⟨x6, fun i' z1 z2 t q1 q2 => ?_⟩, fun k => ?_⟩
  · by_cases q : i' = i + 1
    · subst q
      rw [j3 t q1 q2, cmg_eq c5]
    · rw [j2 _ (by omega), v42 _ (by omega)]
      exact hC i' z1 (by omega) t q1 q2
  · unfold fb_X4_endFor_20
    simp (disch := omega) only [iL239, cV0, cR0_0, cR0_1, cR0_2, cR0_3, cR0_4, cR0_5, cV1, cR1_1, cR1_2, cR1_3, cR1_4, cR1_5, cR1_6, cR1_7, cI1_0, cI1_8, cP1_8, cI1_9, cP1_9, cV9, cR9_0, cR9_1, cV10, cV11, cV12, cR12_0, cR12_1, cR12_2, cR12_3, cR12_4, cR12_5, cR12_6, cV18, cR18_0, cR18_1, cR18_2, cR18_3, cR18_4, cI18_5, cP18_5, cI18_6, cP18_6, cV22, cR22_0, cR22_1, cI22_2, cP22_2, cI22_3, cP22_3, cI22_4, cP22_4, cV23, cR23_0, cR23_1, cR23_3, cR23_4, cR23_5, cR23_6, cR23_7, cR23_8, cR23_9, cR23_10, cI23_2, cP23_2, cR10_1, cI10_2, cR11_1, cI11_2, cL2, cS2, cL3, cS3, cL4, cS4, cL5, cS5, cL6, cS6, cL7, cS7, cL8, cS8, cL13, cS13, cL14, cS14, cL15, cS15, cL16, cS16, cL17, cS17, cL19, cS19, cL20, cS20, cL21, cS21, cL24, cS24, cL25, cS25, cL26, cS26, cL27, cS27, cL28, cS28, cL29, cS29, cL30, cS30, cL31, cS31, bV, bK, bI0, bI1, bI2, bI3, bI4, bI5, bI6, bI7, bI8, bI9, bI10, bR11, bR12, bR13, bP9, bP10, bL1, bS1, bL2, bS2, bL3, bS3, iI_0, iI_1, iI_neg, iL2, iL3, iL4, iL5, iL6, iL7, iL8, iL9, iL10, iL11, iL12, iL13, iL14, iL15, iL16, iL17, iL30, iL31, iL60, iL99, iL100, iL240, iL480, iL1000, iL1920, iL10000, iI_add, iI_sub, iI_mul, iI_div, iI_le, iI_lt, iI_eq, bd_s, a3, b3, d3, f3]
    rw [if_neg (by omega)]
    have ei : iI ((i : Int) + 1) = iI ((i + 1 : Nat) : Int) := rfl
    rw [ei, g4]
    simp only [cV12, bd_s, j4]
theorem k_endFor (hk : KO h A κ ρ) (hc : CM κ) (hwk : WK κ) {b : Nat} (hb : b < A.n) :
    ∃ υ, Ex [42, 43, 44, 45, 46] κ υ ∧ (match fnd κ b with
      | none => (υ 45 = κ 45 ∧ υ 46 = κ 46) ∧ f_X4_endFor (A.x + 12) (some (A.b b)) (CH h A κ) = some (iI (-1), CH h A υ)
      | some e => ((∀ j, υ 45 j = bkF κ b (lgs κ b).toNat e (κ 45) j) ∧ (∀ j : Nat, (j : Int) < lgs κ b → υ 46 (j + 1) = υ 45 j + lng κ b j) ∧ ∀ j : Nat, lgs κ b < j ∨ j = 0 → υ 46 j = κ 46 j) ∧ f_X4_endFor (A.x + 12) (some (A.b b)) (CH h A κ) = some (iI e, CH h A υ)) := by
  have h16 := hk.n16
  have hw := hk.1.1
  have hlg := lgs_rng hw (b := b) (by omega)
  obtain ⟨-, -, -, -, g14, g15, -⟩ := hw.bid (b := b) (by omega)
  have hlo := (cmg_lo hw (b := b) (by omega) (lgs κ b).toNat (by omega)).1
  unfold f_X4_endFor f_X4_endFor_20
  simp (disch := omega) only [iL239, cV0, cR0_0, cR0_1, cR0_2, cR0_3, cR0_4, cR0_5, cV1, cR1_1, cR1_2, cR1_3, cR1_4, cR1_5, cR1_6, cR1_7, cI1_0, cI1_8, cP1_8, cI1_9, cP1_9, cV9, cR9_0, cR9_1, cV10, cV11, cV12, cR12_0, cR12_1, cR12_2, cR12_3, cR12_4, cR12_5, cR12_6, cV18, cR18_0, cR18_1, cR18_2, cR18_3, cR18_4, cI18_5, cP18_5, cI18_6, cP18_6, cV22, cR22_0, cR22_1, cI22_2, cP22_2, cI22_3, cP22_3, cI22_4, cP22_4, cV23, cR23_0, cR23_1, cR23_3, cR23_4, cR23_5, cR23_6, cR23_7, cR23_8, cR23_9, cR23_10, cI23_2, cP23_2, cR10_1, cI10_2, cR11_1, cI11_2, cL2, cS2, cL3, cS3, cL4, cS4, cL5, cS5, cL6, cS6, cL7, cS7, cL8, cS8, cL13, cS13, cL14, cS14, cL15, cS15, cL16, cS16, cL17, cS17, cL19, cS19, cL20, cS20, cL21, cS21, cL24, cS24, cL25, cS25, cL26, cS26, cL27, cS27, cL28, cS28, cL29, cS29, cL30, cS30, cL31, cS31, bV, bK, bI0, bI1, bI2, bI3, bI4, bI5, bI6, bI7, bI8, bI9, bI10, bR11, bR12, bR13, bP9, bP10, bL1, bS1, bL2, bS2, bL3, bS3, iI_0, iI_1, iI_neg, iL2, iL3, iL4, iL5, iL6, iL7, iL8, iL9, iL10, iL11, iL12, iL13, iL14, iL15, iL16, iL17, iL30, iL31, iL60, iL99, iL100, iL240, iL480, iL1000, iL1920, iL10000, iI_add, iI_sub, iI_mul, iI_div, iI_le, iI_lt, iI_eq, bd_s, k_steps hw]
  by_cases cE : κ 14 b ≤ κ 15 b
  · rw [if_pos cE]
    obtain ⟨τ, t1, t2⟩ := lp_rel (B := fun k20 u => fb_X4_endFor_20 k20 u.1 u.2.1 u.2.2.1 u.2.2.2.1 u.2.2.2.2) (fun i (τ : Sg) => (some (A.x + 12), some (A.b b), iI (lgs κ b), iI (i : Int), CH h A τ)) (fun i τ => Ex [42, 43, 44] κ τ ∧ ∀ i' : Nat, 0 < i' → i' ≤ i → ∀ t : Nat, κ 14 b ≤ t → t ≤ κ 15 b → τ 42 (240 * i' + t) = b2 (cmg κ b i' t = true)) (lgs κ b).toNat (fun τ => f_X4_endFor_73 (some (A.x + 12)) (some (A.b b)) (iI (lgs κ b)) (iI (κ 14 b)) (CH h A τ))
      (fun i τ hi hI => by
        obtain ⟨υ, u1, u2⟩ := k_step hk hc hwk hb (i := i) (by omega) hI.1 hI.2
        exact ⟨υ, u1, fun k => u2 k⟩)
      (fun τ k hI => by
        have e14 := hI.1 14 b (by decide)
        show fb_X4_endFor_20 k (some (A.x + 12)) (some (A.b b)) (iI (lgs κ b)) (iI ((lgs κ b).toNat : Int)) (CH h A τ) = _
        unfold fb_X4_endFor_20
        simp (disch := omega) only [iL239, cV0, cR0_0, cR0_1, cR0_2, cR0_3, cR0_4, cR0_5, cV1, cR1_1, cR1_2, cR1_3, cR1_4, cR1_5, cR1_6, cR1_7, cI1_0, cI1_8, cP1_8, cI1_9, cP1_9, cV9, cR9_0, cR9_1, cV10, cV11, cV12, cR12_0, cR12_1, cR12_2, cR12_3, cR12_4, cR12_5, cR12_6, cV18, cR18_0, cR18_1, cR18_2, cR18_3, cR18_4, cI18_5, cP18_5, cI18_6, cP18_6, cV22, cR22_0, cR22_1, cI22_2, cP22_2, cI22_3, cP22_3, cI22_4, cP22_4, cV23, cR23_0, cR23_1, cR23_3, cR23_4, cR23_5, cR23_6, cR23_7, cR23_8, cR23_9, cR23_10, cI23_2, cP23_2, cR10_1, cI10_2, cR11_1, cI11_2, cL2, cS2, cL3, cS3, cL4, cS4, cL5, cS5, cL6, cS6, cL7, cS7, cL8, cS8, cL13, cS13, cL14, cS14, cL15, cS15, cL16, cS16, cL17, cS17, cL19, cS19, cL20, cS20, cL21, cS21, cL24, cS24, cL25, cS25, cL26, cS26, cL27, cS27, cL28, cS28, cL29, cS29, cL30, cS30, cL31, cS31, bV, bK, bI0, bI1, bI2, bI3, bI4, bI5, bI6, bI7, bI8, bI9, bI10, bR11, bR12, bR13, bP9, bP10, bL1, bS1, bL2, bS2, bL3, bS3, iI_0, iI_1, iI_neg, iL2, iL3, iL4, iL5, iL6, iL7, iL8, iL9, iL10, iL11, iL12, iL13, iL14, iL15, iL16, iL17, iL30, iL31, iL60, iL99, iL100, iL240, iL480, iL1000, iL1920, iL10000, iI_add, iI_sub, iI_mul, iI_div, iI_le, iI_lt, iI_eq, bd_s, e14]
        rw [if_pos (by omega)]) (lgs κ b).toNat 0 FU κ (by omega) (by rw [FU_eq]; omega) ⟨Ex.refl _ _, fun i' z1 z2 => by omega⟩
    have hcor := t1.1.cor (by decide)
    have hwt : WF τ := by
      have h1 : WF (cor κ) := hw
      rw [← hcor] at h1
      exact h1
    have elg : lgs τ b = lgs κ b := by
      have e1 : ∀ σ : Sg, lgs σ b = lgs (cor σ) b := fun _ => rfl
      rw [e1 τ, hcor, ← e1 κ]
    have e14 := t1.1 14 b (by decide)
    have e15 := t1.1 15 b (by decide)
    have hlg1 : 1 ≤ lgs κ b := hk.1.lgs (by rw [hk.2.2]; omega)
    have hsr := lp_search (B := fun k73 u => fb_X4_endFor_73 k73 u.1 u.2.1 u.2.2.1 u.2.2.2.1 u.2.2.2.2) (fun j => (some (A.x + 12), some (A.b b), iI (lgs κ b), iI (κ 14 b + (j : Int)), CH h A τ)) (κ 15 b + 1 - κ 14 b).toNat (fun j => cmg κ b (lgs κ b).toNat ((κ 14 b).toNat + j)) (fun j => bd (f_X4_traceBack (A.x + 12) (some (A.b b)) (iI (κ 14 b + (j : Int))) (CH h A τ)) (fun _ h => rtI (iI (κ 14 b + (j : Int))) h)) (some (iI (-1), CH h A τ))
      (fun j hj k => by
        have e42 : τ 42 (lgs κ b * 240 + (κ 14 b + (j : Int))).toNat = b2 (cmg κ b (lgs κ b).toNat ((κ 14 b).toNat + j) = true) := by
          rw [show (lgs κ b * 240 + (κ 14 b + (j : Int))).toNat = 240 * (lgs κ b).toNat + ((κ 14 b).toNat + j) by omega]
          exact t1.2 _ (by omega) (Nat.le_refl _) _ (by omega) (by omega)
        show fb_X4_endFor_73 k (some (A.x + 12)) (some (A.b b)) (iI (lgs κ b)) (iI (κ 14 b + (j : Int))) (CH h A τ) = _
        unfold fb_X4_endFor_73
        simp (disch := omega) only [iL239, cV0, cR0_0, cR0_1, cR0_2, cR0_3, cR0_4, cR0_5, cV1, cR1_1, cR1_2, cR1_3, cR1_4, cR1_5, cR1_6, cR1_7, cI1_0, cI1_8, cP1_8, cI1_9, cP1_9, cV9, cR9_0, cR9_1, cV10, cV11, cV12, cR12_0, cR12_1, cR12_2, cR12_3, cR12_4, cR12_5, cR12_6, cV18, cR18_0, cR18_1, cR18_2, cR18_3, cR18_4, cI18_5, cP18_5, cI18_6, cP18_6, cV22, cR22_0, cR22_1, cI22_2, cP22_2, cI22_3, cP22_3, cI22_4, cP22_4, cV23, cR23_0, cR23_1, cR23_3, cR23_4, cR23_5, cR23_6, cR23_7, cR23_8, cR23_9, cR23_10, cI23_2, cP23_2, cR10_1, cI10_2, cR11_1, cI11_2, cL2, cS2, cL3, cS3, cL4, cS4, cL5, cS5, cL6, cS6, cL7, cS7, cL8, cS8, cL13, cS13, cL14, cS14, cL15, cS15, cL16, cS16, cL17, cS17, cL19, cS19, cL20, cS20, cL21, cS21, cL24, cS24, cL25, cS25, cL26, cS26, cL27, cS27, cL28, cS28, cL29, cS29, cL30, cS30, cL31, cS31, bV, bK, bI0, bI1, bI2, bI3, bI4, bI5, bI6, bI7, bI8, bI9, bI10, bR11, bR12, bR13, bP9, bP10, bL1, bS1, bL2, bS2, bL3, bS3, iI_0, iI_1, iI_neg, iL2, iL3, iL4, iL5, iL6, iL7, iL8, iL9, iL10, iL11, iL12, iL13, iL14, iL15, iL16, iL17, iL30, iL31, iL60, iL99, iL100, iL240, iL480, iL1000, iL1920, iL10000, iI_add, iI_sub, iI_mul, iI_div, iI_le, iI_lt, iI_eq, bd_s, e15, e42, b2_i0, Int.natCast_succ]
        rw [if_neg (by omega)]
        cases cmg κ b (lgs κ b).toNat ((κ 14 b).toNat + j) with
        | true => simp
        | false =>
          simp [Int.add_assoc])
      (fun k => by
        show fb_X4_endFor_73 k (some (A.x + 12)) (some (A.b b)) (iI (lgs κ b)) (iI (κ 14 b + ((κ 15 b + 1 - κ 14 b).toNat : Int))) (CH h A τ) = _
        unfold fb_X4_endFor_73
        simp (disch := omega) only [iL239, cV0, cR0_0, cR0_1, cR0_2, cR0_3, cR0_4, cR0_5, cV1, cR1_1, cR1_2, cR1_3, cR1_4, cR1_5, cR1_6, cR1_7, cI1_0, cI1_8, cP1_8, cI1_9, cP1_9, cV9, cR9_0, cR9_1, cV10, cV11, cV12, cR12_0, cR12_1, cR12_2, cR12_3, cR12_4, cR12_5, cR12_6, cV18, cR18_0, cR18_1, cR18_2, cR18_3, cR18_4, cI18_5, cP18_5, cI18_6, cP18_6, cV22, cR22_0, cR22_1, cI22_2, cP22_2, cI22_3, cP22_3, cI22_4, cP22_4, cV23, cR23_0, cR23_1, cR23_3, cR23_4, cR23_5, cR23_6, cR23_7, cR23_8, cR23_9, cR23_10, cI23_2, cP23_2, cR10_1, cI10_2, cR11_1, cI11_2, cL2, cS2, cL3, cS3, cL4, cS4, cL5, cS5, cL6, cS6, cL7, cS7, cL8, cS8, cL13, cS13, cL14, cS14, cL15, cS15, cL16, cS16, cL17, cS17, cL19, cS19, cL20, cS20, cL21, cS21, cL24, cS24, cL25, cS25, cL26, cS26, cL27, cS27, cL28, cS28, cL29, cS29, cL30, cS30, cL31, cS31, bV, bK, bI0, bI1, bI2, bI3, bI4, bI5, bI6, bI7, bI8, bI9, bI10, bR11, bR12, bR13, bP9, bP10, bL1, bS1, bL2, bS2, bL3, bS3, iI_0, iI_1, iI_neg, iL2, iL3, iL4, iL5, iL6, iL7, iL8, iL9, iL10, iL11, iL12, iL13, iL14, iL15, iL16, iL17, iL30, iL31, iL60, iL99, iL100, iL240, iL480, iL1000, iL1920, iL10000, iI_add, iI_sub, iI_mul, iI_div, iI_le, iI_lt, iI_eq, bd_s, e15]
        rw [if_pos (by omega)]
        rfl) (κ 15 b + 1 - κ 14 b).toNat 0 FU (by omega) (by rw [FU_eq]; omega)
    have hfnd : fnd κ b = (match srch (fun j => cmg κ b (lgs κ b).toNat ((κ 14 b).toNat + j)) 0 (κ 15 b + 1 - κ 14 b).toNat with | some j => some ((κ 14 b).toNat + j) | none => none) := by
      unfold fnd
      rw [srch_shift (E := (κ 14 b).toNat) (fun j hj => by
        cases hq : cmg κ b (lgs κ b).toNat j with
        | false => rfl
        | true => have := hlo j hq; omega) (by omega), show (κ 15 b).toNat + 1 - (κ 14 b).toNat = (κ 15 b + 1 - κ 14 b).toNat by omega]
    rw [show κ 14 b + ((0 : Nat) : Int) = κ 14 b by omega] at hsr
    rw [hfnd]
    have t2' : lp (fun k20 u => fb_X4_endFor_20 k20 u.1 u.2.1 u.2.2.1 u.2.2.2.1 u.2.2.2.2) FU (some (A.x + 12), some (A.b b), iI (lgs κ b), iI 0, CH h A κ) = f_X4_endFor_73 (some (A.x + 12)) (some (A.b b)) (iI (lgs κ b)) (iI (κ 14 b)) (CH h A τ) := t2
    rw [t2']
    unfold f_X4_endFor_73
    rw [hsr]
    cases hs : srch (fun j => cmg κ b (lgs κ b).toNat ((κ 14 b).toNat + j)) 0 (κ 15 b + 1 - κ 14 b).toNat with
    | none =>
      exact ⟨τ, t1.1.mono (by decide), ⟨funext (fun i => t1.1 45 i (by decide)), funext (fun i => t1.1 46 i (by decide))⟩, rfl⟩
    | some j =>
      obtain ⟨-, s2, s3, -⟩ := srch_some.1 hs
      obtain ⟨υ, ⟨u1, u2, u3, u4⟩, u5⟩ := k_back (h := h) (A := A) (κ := τ) hwt h16 hb (fun i z1 z2 t q1 q2 => by
        rw [elg] at z2
        rw [e14] at q1
        rw [e15] at q2
        rw [t1.2 i z1 (by omega) t q1 q2, cmg_eq hcor]) (lgs κ b).toNat ((κ 14 b).toNat + j) FU τ (by rw [FU_eq]; omega) (by rw [elg]; omega) (by rw [e15]; omega) (fun _ => by rw [cmg_eq hcor]; exact s3) (Ex.refl _ _)
      refine ⟨υ, (t1.1.mono (by decide : ∀ f, f ∈ [42, 43, 44] → f ∈ [42, 43, 44, 45, 46])).trans (u1.mono (by decide)), ⟨fun j' => ?_, fun j' hj' => ?_, fun j' hj' => ?_⟩, ?_⟩
      · rw [u2 j', bkF_eq hcor, show τ 45 = κ 45 from funext (fun i => t1.1 45 i (by decide))]
      · have e1 : ∀ σ : Sg, lng σ b j' = lng (cor σ) b j' := fun _ => rfl
        rw [u3 j' (by omega), e1 τ, hcor, ← e1 κ]
      · rw [u4 j' (by omega), t1.1 46 _ (by decide)]
      · unfold f_X4_traceBack f_X4_traceBack_10
        simp (disch := omega) only [iL239, cV0, cR0_0, cR0_1, cR0_2, cR0_3, cR0_4, cR0_5, cV1, cR1_1, cR1_2, cR1_3, cR1_4, cR1_5, cR1_6, cR1_7, cI1_0, cI1_8, cP1_8, cI1_9, cP1_9, cV9, cR9_0, cR9_1, cV10, cV11, cV12, cR12_0, cR12_1, cR12_2, cR12_3, cR12_4, cR12_5, cR12_6, cV18, cR18_0, cR18_1, cR18_2, cR18_3, cR18_4, cI18_5, cP18_5, cI18_6, cP18_6, cV22, cR22_0, cR22_1, cI22_2, cP22_2, cI22_3, cP22_3, cI22_4, cP22_4, cV23, cR23_0, cR23_1, cR23_3, cR23_4, cR23_5, cR23_6, cR23_7, cR23_8, cR23_9, cR23_10, cI23_2, cP23_2, cR10_1, cI10_2, cR11_1, cI11_2, cL2, cS2, cL3, cS3, cL4, cS4, cL5, cS5, cL6, cS6, cL7, cS7, cL8, cS8, cL13, cS13, cL14, cS14, cL15, cS15, cL16, cS16, cL17, cS17, cL19, cS19, cL20, cS20, cL21, cS21, cL24, cS24, cL25, cS25, cL26, cS26, cL27, cS27, cL28, cS28, cL29, cS29, cL30, cS30, cL31, cS31, bV, bK, bI0, bI1, bI2, bI3, bI4, bI5, bI6, bI7, bI8, bI9, bI10, bR11, bR12, bR13, bP9, bP10, bL1, bS1, bL2, bS2, bL3, bS3, k_steps hwt, bd_s, elg]
        rw [iI_1, iI_sub]
        have e5 : iI (κ 14 b + (j : Int)) = iI (((κ 14 b).toNat + j : Nat) : Int) := congrArg iI (by omega)
        have e6 : iI (lgs κ b - 1) = iI ((((lgs κ b).toNat : Nat) : Int) - 1) := congrArg iI (by omega)
        rw [e5, e6, u5]
        rfl
  · rw [if_neg cE]
    have hf : fnd κ b = none := by
      unfold fnd
      refine srch_none.2 (fun j _ hj => ?_)
      cases hq : cmg κ b (lgs κ b).toNat j with
      | false => rfl
      | true => have := hlo j hq; omega
    rw [hf]
    exact ⟨κ, Ex.refl _ _, ⟨rfl, rfl⟩, rfl⟩
end
