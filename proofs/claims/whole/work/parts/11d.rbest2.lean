theorem SB.trans {σ τ υ : Sg} (h : SB σ τ) (g : SB τ υ) : SB σ υ := ⟨fun f i h1 h2 h3 => (h.1 f i h1 h2 h3).trans (g.1 f i h1 h2 h3), fun i hi => (h.2 i hi).trans (g.2 i (by rw [← h.1 9 0 (by omega) (by omega) (by omega)]; exact hi))⟩
theorem SB.cor {σ τ υ : Sg} (h : SB σ τ) (e : cor υ = cor τ) : SB σ υ := h.trans ⟨fun f i h1 _ _ => (cor_eq e h1 i).symm, fun i _ => (cor_eq e (by omega) i).symm⟩
theorem SB.lk {σ τ : Sg} (h : SB σ τ) (hl : LK σ) : LK τ := by
  intro b hb
  have e9 := h.1 9 0 (by omega) (by omega) (by omega)
  rw [← e9] at hb
  rw [← h.1 18 b (by omega) (by omega) (by omega), ← e9]
  exact hl b hb
theorem SB.fr {σ τ : Sg} (h : SB σ τ) (hf : FR σ) : FR τ := by
  intro b h1 h2
  have e9 := h.1 9 0 (by omega) (by omega) (by omega)
  rw [← e9] at h1
  rw [← h.1 18 b (by omega) (by omega) (by omega), ← h.2 b h1]
  obtain ⟨z1, z2, z3⟩ := hf b h1 h2
  exact ⟨z1, z2, fun i hi => by rw [← h.1 21 _ (by omega) (by omega) (by omega)]; exact z3 i hi⟩
section
variable {h : Hp} {m : Nat} {σ : Sg}
def Vp (σ : Sg) (n p : Nat) : Int := sumW (goF σ (oB n p) n).1
theorem Vp_rng {n p : Nat} (hw : WB σ) (hl : LK σ) (hn : (n : Int) = σ 9 0) (hn5 : n ≤ 5) (hp : p < fc n) : 0 ≤ Vp σ n p ∧ Vp σ n p ≤ 16000 := by
  obtain ⟨g1, g2⟩ := goF_WB hw hl (f := oB n p) (n := n) (fun k hk => by have := (oOK_at hn5 hp hk).1; omega) n (Nat.le_refl _)
  exact sumW_rng g1.1 (n := ((goF σ (oB n p) n).1 9 0).toNat) (by rw [g2 9 0 (by omega)]; omega)
theorem bsP_rng {V : Nat → Int} {N : Nat} (hV : ∀ p, p < N → 0 ≤ V p ∧ V p ≤ 16000) : ∀ p, p ≤ N → (-1 ≤ (bsP V p).1 ∧ (bsP V p).1 ≤ 16000) ∧ ((bsP V p).2 < p ∨ (bsP V p).2 = 0)
  | 0, _ => ⟨⟨Int.le_refl _, by show (-1 : Int) ≤ 16000; decide⟩, Or.inr rfl⟩
  | p + 1, hp => by
    have ih := bsP_rng hV p (by omega)
    have := hV p (by omega)
    unfold bsP
    by_cases c : (bsP V p).1 < V p
    · rw [if_pos c]
      exact ⟨⟨by show -1 ≤ V p; omega, this.2⟩, Or.inl (Nat.lt_succ_self _)⟩
    · rw [if_neg c]
      exact ⟨ih.1, by omega⟩
theorem s_best (hw : WB σ) (hl : LK σ) {n : Nat} (h1 : 1 ≤ n) (hn5 : n ≤ 5) (hn : (n : Int) = σ 9 0) : ∃ υ τ, WB υ ∧ SB σ υ ∧ cor τ = cor (goF υ (oB n (bsP (Vp σ n) (fc n)).2) n).1 ∧ f_X8_best m (MH h m σ) = some (iI (bsP (Vp σ n) (fc n)).1, MH h m τ) := by
  have hF := fc_rng n hn5
  have hVr : ∀ p, p < fc n → 0 ≤ Vp σ n p ∧ Vp σ n p ≤ 16000 := fun p hp => Vp_rng hw hl hn hn5 hp
  have hone : ∀ (τ : Sg) (p : Nat), p < fc n → WB τ → SB σ τ → ∃ τ1 τ2, (WB τ2 ∧ SB σ τ2 ∧ cor τ2 = cor (goF τ1 (oB n p) n).1 ∧ WB τ1 ∧ SB σ τ1) ∧ f_X8_orders m (iI (p : Int)) (MH h m τ) = some ((), MH h m τ1) ∧ f_X8_goes m (MH h m τ1) = some (iI (Vp σ n p), MH h m τ2) := fun τ p hp hwt hs => by
    have e9 : τ 9 0 = n := by rw [← hs.1 9 0 (by omega) (by omega) (by omega)]; omega
    obtain ⟨τ1, a1, a2, a3⟩ := s_orders (h := h) (m := m) (σ := τ) h1 hn5 hp e9
    have hw1 := WB_eq a1 hwt
    have hs1 := hs.cor a1
    have hf : ∀ k, k < n → oB n p k < n := fun k hk => (oOK_at hn5 hp hk).1
    have e91 : (n : Int) = τ1 9 0 := by rw [cor_eq a1 (by omega), e9]
    obtain ⟨τ2, b1, -, b3⟩ := s_goes (h := h) (m := m) hw1 (hs1.lk hl) (oB n p) n e91 hf a2
    obtain ⟨g1, g2⟩ := goF_WB hw1 (hs1.lk hl) (f := oB n p) (n := n) (fun k hk => by have := hf k hk; omega) n (Nat.le_refl _)
    have hgo := (EQ.goF hs1 hw hw1 hl (f := oB n p) (n := n) (fun k hk => by have := hf k hk; omega) n (Nat.le_refl _)).1
    have hV : sumW (goF τ1 (oB n p) n).1 = Vp σ n p := hgo.sumW.symm
    rw [hV] at b3
    refine ⟨τ1, τ2, ⟨WB_eq b1 g1, (hs1.trans (goF_SB hw1 (hs1.lk hl) (fun k hk => by have := hf k hk; omega) n (Nat.le_refl _))).cor b1, b1, hw1, hs1⟩, a3, b3⟩
  unfold f_X8_best f_X8_best_22
  have e9 : σ 9 0 = n := hn.symm
  simp (disch := omega) only [rcv_M, mR0, mS0, mR1, mL1, mS1, mR2, mL2, mS2, mR3, mL3, mS3, mR4, mS4, mR5, mS5, mR6, mL6, mS6, mR7, mL7, mS7, mR8, mL8, mS8, mR9, mS9, mR10, mL10, mS10, mR11, mL11, mS11, mR12, mL12, mS12, mR13, mL13, mS13, mR14, mL14, mS14, mR15, mL15, mS15, mR16, mL16, mS16, mR17, mL17, mS17, mR18, mL18, mS18, mR19, mL19, mS19, mR20, mL20, mS20, mR21, mL21, mS21, mR22, mL22, mS22, mR23, mL23, mS23, mR24, mL24, mS24, mR25, mL25, mS25, mR26, mL26, mS26, mR27, mL27, mS27, mR28, mL28, mS28, mR29, mL29, mS29, mR30, mL30, mS30, mR31, mL31, mS31, mR32, mL32, mS32, mR33, mL33, mS33, iI_0, iI_1, iI_neg, iL2, iL3, iL4, iL5, iL6, iL7, iL8, iL9, iL10, iL11, iL12, iL13, iL14, iL15, iL16, iL17, iL30, iL31, iL60, iL99, iL100, iL240, iL480, iL1000, iL1920, iL10000, iI_add, iI_sub, iI_mul, iI_div, iI_le, iI_lt, iI_eq, bd_s, e9]
  rw [if_neg (by omega), if_pos (by omega)]
  have hfac := lp_count (B := fun k22 w => fb_X8_best_22 k22 w.1 w.2.1 w.2.2.1 w.2.2.2) (fun j => (some m, iI (fc (j + 1) : Int), iI ((j : Int) + 2), MH h m σ)) (n - 1) (f_X8_best_47 (some m) (iI (fc n : Int)) (iI (-1)) (iI 0) (iI 0) (MH h m σ))
    (fun j hj k22 => by
      have hFj := fc_rng (j + 1) (by omega)
      show fb_X8_best_22 k22 (some m) (iI (fc (j + 1) : Int)) (iI ((j : Int) + 2)) (MH h m σ) = _
      unfold fb_X8_best_22
      simp (disch := omega) only [rcv_M, mR0, mS0, mR1, mL1, mS1, mR2, mL2, mS2, mR3, mL3, mS3, mR4, mS4, mR5, mS5, mR6, mL6, mS6, mR7, mL7, mS7, mR8, mL8, mS8, mR9, mS9, mR10, mL10, mS10, mR11, mL11, mS11, mR12, mL12, mS12, mR13, mL13, mS13, mR14, mL14, mS14, mR15, mL15, mS15, mR16, mL16, mS16, mR17, mL17, mS17, mR18, mL18, mS18, mR19, mL19, mS19, mR20, mL20, mS20, mR21, mL21, mS21, mR22, mL22, mS22, mR23, mL23, mS23, mR24, mL24, mS24, mR25, mL25, mS25, mR26, mL26, mS26, mR27, mL27, mS27, mR28, mL28, mS28, mR29, mL29, mS29, mR30, mL30, mS30, mR31, mL31, mS31, mR32, mL32, mS32, mR33, mL33, mS33, iI_0, iI_1, iI_neg, iL2, iL3, iL4, iL5, iL6, iL7, iL8, iL9, iL10, iL11, iL12, iL13, iL14, iL15, iL16, iL17, iL30, iL31, iL60, iL99, iL100, iL240, iL480, iL1000, iL1920, iL10000, iI_add, iI_sub, iI_mul, iI_div, iI_le, iI_lt, iI_eq, bd_s, e9]
      rw [if_neg (by omega)]
      have e1 : (fc (j + 1) : Int) * ((j : Int) + 2) = (fc (j + 1 + 1) : Int) := by
        show _ = (((j + 1 + 1) * fc (j + 1) : Nat) : Int)
        rw [Int.natCast_mul, Int.mul_comm]
        congr 1
      rw [e1]
      congr 3)
    (fun k22 => by
      show fb_X8_best_22 k22 (some m) (iI (fc (n - 1 + 1) : Int)) (iI (((n - 1 : Nat) : Int) + 2)) (MH h m σ) = _
      unfold fb_X8_best_22
      rw [show n - 1 + 1 = n by omega]
      simp (disch := omega) only [rcv_M, mR0, mS0, mR1, mL1, mS1, mR2, mL2, mS2, mR3, mL3, mS3, mR4, mS4, mR5, mS5, mR6, mL6, mS6, mR7, mL7, mS7, mR8, mL8, mS8, mR9, mS9, mR10, mL10, mS10, mR11, mL11, mS11, mR12, mL12, mS12, mR13, mL13, mS13, mR14, mL14, mS14, mR15, mL15, mS15, mR16, mL16, mS16, mR17, mL17, mS17, mR18, mL18, mS18, mR19, mL19, mS19, mR20, mL20, mS20, mR21, mL21, mS21, mR22, mL22, mS22, mR23, mL23, mS23, mR24, mL24, mS24, mR25, mL25, mS25, mR26, mL26, mS26, mR27, mL27, mS27, mR28, mL28, mS28, mR29, mL29, mS29, mR30, mL30, mS30, mR31, mL31, mS31, mR32, mL32, mS32, mR33, mL33, mS33, iI_0, iI_1, iI_neg, iL2, iL3, iL4, iL5, iL6, iL7, iL8, iL9, iL10, iL11, iL12, iL13, iL14, iL15, iL16, iL17, iL30, iL31, iL60, iL99, iL100, iL240, iL480, iL1000, iL1920, iL10000, iI_add, iI_sub, iI_mul, iI_div, iI_le, iI_lt, iI_eq, bd_s, e9]
      rw [if_pos (by omega)]) (n - 1) 0 FU (by omega) (by rw [FU_eq]; omega)
  have hfac' : lp (fun k22 w => fb_X8_best_22 k22 w.1 w.2.1 w.2.2.1 w.2.2.2) FU (some m, iI 1, iI 2, MH h m σ) = f_X8_best_47 (some m) (iI (fc n : Int)) (iI (-1)) (iI 0) (iI 0) (MH h m σ) := hfac
  rw [hfac']
  unfold f_X8_best_47
  have hbr := bsP_rng hVr
  obtain ⟨τ, t1, t2⟩ := lp_rel (B := fun k47 w => fb_X8_best_47 k47 w.1 w.2.1 w.2.2.1 w.2.2.2.1 w.2.2.2.2.1 w.2.2.2.2.2) (fun p (τ : Sg) => (some m, iI (fc n : Int), iI (bsP (Vp σ n) p).1, iI ((bsP (Vp σ n) p).2 : Int), iI (p : Int), MH h m τ)) (fun p τ => WB τ ∧ SB σ τ) (fc n) (fun τ => bd (f_X8_orders m (iI ((bsP (Vp σ n) (fc n)).2 : Int)) (MH h m τ)) (fun _ h => rcv h (some m) 9 (fun b92 => bd (f_X8_goes b92 h) (fun _ h => rtI (iI (bsP (Vp σ n) (fc n)).1) h))))
    (fun p τ hp hI => by
      obtain ⟨τ1, τ2, ⟨c1, c2, -, -, -⟩, c3, c4⟩ := hone τ p hp hI.1 hI.2
      refine ⟨τ2, ⟨c1, c2⟩, fun k => ?_⟩
      have hr1 := (hbr p (by omega)).1
      have hr2 := hVr p hp
      show fb_X8_best_47 k (some m) (iI (fc n : Int)) (iI (bsP (Vp σ n) p).1) (iI ((bsP (Vp σ n) p).2 : Int)) (iI (p : Int)) (MH h m τ) = _
      unfold fb_X8_best_47 f_X8_best_80
      simp (disch := omega) only [rcv_M, mR0, mS0, mR1, mL1, mS1, mR2, mL2, mS2, mR3, mL3, mS3, mR4, mS4, mR5, mS5, mR6, mL6, mS6, mR7, mL7, mS7, mR8, mL8, mS8, mR9, mS9, mR10, mL10, mS10, mR11, mL11, mS11, mR12, mL12, mS12, mR13, mL13, mS13, mR14, mL14, mS14, mR15, mL15, mS15, mR16, mL16, mS16, mR17, mL17, mS17, mR18, mL18, mS18, mR19, mL19, mS19, mR20, mL20, mS20, mR21, mL21, mS21, mR22, mL22, mS22, mR23, mL23, mS23, mR24, mL24, mS24, mR25, mL25, mS25, mR26, mL26, mS26, mR27, mL27, mS27, mR28, mL28, mS28, mR29, mL29, mS29, mR30, mL30, mS30, mR31, mL31, mS31, mR32, mL32, mS32, mR33, mL33, mS33, iI_0, iI_1, iI_neg, iL2, iL3, iL4, iL5, iL6, iL7, iL8, iL9, iL10, iL11, iL12, iL13, iL14, iL15, iL16, iL17, iL30, iL31, iL60, iL99, iL100, iL240, iL480, iL1000, iL1920, iL10000, iI_add, iI_sub, iI_mul, iI_div, iI_le, iI_lt, iI_eq, bd_s, c3, c4]
      rw [if_neg (by omega)]
      show _ = k (some m, iI (fc n : Int), iI (if (bsP (Vp σ n) p).1 < Vp σ n p then (Vp σ n p, p) else bsP (Vp σ n) p).1, iI ((if (bsP (Vp σ n) p).1 < Vp σ n p then (Vp σ n p, p) else bsP (Vp σ n) p).2 : Int), iI ((p + 1 : Nat) : Int), MH h m τ2)
      by_cases c : (bsP (Vp σ n) p).1 < Vp σ n p
      · rw [if_pos c, if_pos c]; rfl
      · rw [if_neg c, if_neg c]; rfl)
    (fun τ k hI => by
      show fb_X8_best_47 k (some m) (iI (fc n : Int)) (iI (bsP (Vp σ n) (fc n)).1) (iI ((bsP (Vp σ n) (fc n)).2 : Int)) (iI (fc n : Int)) (MH h m τ) = _
      unfold fb_X8_best_47
      simp (disch := omega) only [rcv_M, mR0, mS0, mR1, mL1, mS1, mR2, mL2, mS2, mR3, mL3, mS3, mR4, mS4, mR5, mS5, mR6, mL6, mS6, mR7, mL7, mS7, mR8, mL8, mS8, mR9, mS9, mR10, mL10, mS10, mR11, mL11, mS11, mR12, mL12, mS12, mR13, mL13, mS13, mR14, mL14, mS14, mR15, mL15, mS15, mR16, mL16, mS16, mR17, mL17, mS17, mR18, mL18, mS18, mR19, mL19, mS19, mR20, mL20, mS20, mR21, mL21, mS21, mR22, mL22, mS22, mR23, mL23, mS23, mR24, mL24, mS24, mR25, mL25, mS25, mR26, mL26, mS26, mR27, mL27, mS27, mR28, mL28, mS28, mR29, mL29, mS29, mR30, mL30, mS30, mR31, mL31, mS31, mR32, mL32, mS32, mR33, mL33, mS33, iI_0, iI_1, iI_neg, iL2, iL3, iL4, iL5, iL6, iL7, iL8, iL9, iL10, iL11, iL12, iL13, iL14, iL15, iL16, iL17, iL30, iL31, iL60, iL99, iL100, iL240, iL480, iL1000, iL1920, iL10000, iI_add, iI_sub, iI_mul, iI_div, iI_le, iI_lt, iI_eq, bd_s]
      rw [if_pos (by omega)]) (fc n) 0 FU σ (by omega) (by rw [FU_eq]; omega) ⟨hw, fun _ _ _ _ _ => rfl, fun _ _ => rfl⟩
  have t2' : lp (fun k47 w => fb_X8_best_47 k47 w.1 w.2.1 w.2.2.1 w.2.2.2.1 w.2.2.2.2.1 w.2.2.2.2.2) FU (some m, iI (fc n : Int), iI (-1), iI 0, iI 0, MH h m σ) = _ := t2
  rw [t2']
  have hb2 : (bsP (Vp σ n) (fc n)).2 < fc n := by
    have := (hbr (fc n) (Nat.le_refl _)).2
    omega
  obtain ⟨τ1, τ2, ⟨c1, c2, c5, c6, c7⟩, c3, c4⟩ := hone τ _ hb2 t1.1 t1.2
  refine ⟨τ1, τ2, c6, c7, c5, ?_⟩
  rw [c3, bd_s, rcv_M, c4]
  rfl
theorem s_bestN (hw : WF σ) (hno : ¬ (1 ≤ σ 9 0 ∧ σ 9 0 ≤ 5)) : f_X8_best m (MH h m σ) = some (iI (-1), MH h m σ) := by
  have h9 := hw.2.2.2.1
  unfold f_X8_best f_X8_best_16
  simp (disch := omega) only [rcv_M, mR0, mS0, mR1, mL1, mS1, mR2, mL2, mS2, mR3, mL3, mS3, mR4, mS4, mR5, mS5, mR6, mL6, mS6, mR7, mL7, mS7, mR8, mL8, mS8, mR9, mS9, mR10, mL10, mS10, mR11, mL11, mS11, mR12, mL12, mS12, mR13, mL13, mS13, mR14, mL14, mS14, mR15, mL15, mS15, mR16, mL16, mS16, mR17, mL17, mS17, mR18, mL18, mS18, mR19, mL19, mS19, mR20, mL20, mS20, mR21, mL21, mS21, mR22, mL22, mS22, mR23, mL23, mS23, mR24, mL24, mS24, mR25, mL25, mS25, mR26, mL26, mS26, mR27, mL27, mS27, mR28, mL28, mS28, mR29, mL29, mS29, mR30, mL30, mS30, mR31, mL31, mS31, mR32, mL32, mS32, mR33, mL33, mS33, iI_0, iI_1, iI_neg, iL2, iL3, iL4, iL5, iL6, iL7, iL8, iL9, iL10, iL11, iL12, iL13, iL14, iL15, iL16, iL17, iL30, iL31, iL60, iL99, iL100, iL240, iL480, iL1000, iL1920, iL10000, iI_add, iI_sub, iI_mul, iI_div, iI_le, iI_lt, iI_eq, bd_s]
  by_cases c : σ 9 0 < 1
  · rw [if_pos c]; rfl
  · rw [if_neg c, if_neg (by omega)]; rfl
end
