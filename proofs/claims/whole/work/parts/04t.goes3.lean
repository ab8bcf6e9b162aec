def clI (σ : Sg) (i : Nat) : Sg := fun f j => if (f = 19 ∨ f = 25) ∧ j < i then 0 else σ f j
theorem clI_s (σ : Sg) (i : Nat) : sg (sg (clI σ i) 25 i 0) 19 i 0 = clI σ (i + 1) := by
  funext f j
  unfold sg clI
  (repeat' split) <;> first | rfl | omega
theorem sumW_eq {σ τ : Sg} (e : cor σ = cor τ) : sumW σ = sumW τ := by
  have h : ∀ σ : Sg, sumW σ = sumW (cor σ) := fun _ => rfl
  rw [h σ, e, ← h τ]
theorem cntG_eq {σ τ : Sg} (e : cor σ = cor τ) : cntG σ = cntG τ := by
  have h : ∀ σ : Sg, cntG σ = cntG (cor σ) := fun _ => rfl
  rw [h σ, e, ← h τ]
section
variable {h : Hp} {m : Nat} {σ : Sg}
theorem s_goes125 (hw : WF σ) : f_X8_goes_125 (some m) (iI 0) (iI 0) (MH h m σ) = some (iI (sumW σ), MH h m σ) := by
  have h9 := hw.2.2.2.1
  unfold f_X8_goes_125
  refine lp_count (B := fun k2 u => fb_X8_goes_125 k2 u.1 u.2.1 u.2.2.1 u.2.2.2) (fun o => (some m, iI (sumI (wrt σ) o), iI (o : Int), MH h m σ)) (σ 9 0).toNat _ (fun o ho k => ?_) (fun k => ?_) (σ 9 0).toNat 0 FU (by omega) (by rw [FU_eq]; omega)
  · have hg := hw.bid (b := o) (by omega)
    have hsr := sumW_rng hw (n := o) (by omega)
    show fb_X8_goes_125 k (some m) (iI (sumI (wrt σ) o)) (iI (o : Int)) (MH h m σ) = k (some m, iI (sumI (wrt σ) (o + 1)), iI ((o + 1 : Nat) : Int), MH h m σ)
    unfold fb_X8_goes_125 f_X8_goes_153
    simp (disch := omega) only [rcv_M, mR0, mS0, mR1, mL1, mS1, mR2, mL2, mS2, mR3, mL3, mS3, mR4, mS4, mR5, mS5, mR6, mL6, mS6, mR7, mL7, mS7, mR8, mL8, mS8, mR9, mS9, mR10, mL10, mS10, mR11, mL11, mS11, mR12, mL12, mS12, mR13, mL13, mS13, mR14, mL14, mS14, mR15, mL15, mS15, mR16, mL16, mS16, mR17, mL17, mS17, mR18, mL18, mS18, mR19, mL19, mS19, mR20, mL20, mS20, mR21, mL21, mS21, mR22, mL22, mS22, mR23, mL23, mS23, mR24, mL24, mS24, mR25, mL25, mS25, mR26, mL26, mS26, mR27, mL27, mS27, mR28, mL28, mS28, mR29, mL29, mS29, mR30, mL30, mS30, mR31, mL31, mS31, mR32, mL32, mS32, mR33, mL33, mS33, iI_0, iI_1, iI_neg, iL2, iL3, iL4, iL5, iL6, iL7, iL8, iL9, iL10, iL11, iL12, iL13, iL14, iL15, iL16, iL17, iL30, iL31, iL60, iL99, iL100, iL240, iL480, iL1000, iL1920, iL10000, iI_add, iI_sub, iI_mul, iI_div, iI_le, iI_lt, iI_eq, bd_s, Int.toNat_natCast, Int.natCast_succ, sumI]
    rw [if_neg (by omega)]
    by_cases c : σ 19 o = 0
    · rw [if_pos c, show wrt σ o = 0 by simp [wrt, c]]
    · rw [if_neg c, show wrt σ o = σ 16 o by simp [wrt, c]]
  · show fb_X8_goes_125 k (some m) (iI (sumI (wrt σ) (σ 9 0).toNat)) (iI ((σ 9 0).toNat : Int)) (MH h m σ) = _
    unfold fb_X8_goes_125
    simp (disch := omega) only [rcv_M, mR0, mS0, mR1, mL1, mS1, mR2, mL2, mS2, mR3, mL3, mS3, mR4, mS4, mR5, mS5, mR6, mL6, mS6, mR7, mL7, mS7, mR8, mL8, mS8, mR9, mS9, mR10, mL10, mS10, mR11, mL11, mS11, mR12, mL12, mS12, mR13, mL13, mS13, mR14, mL14, mS14, mR15, mL15, mS15, mR16, mL16, mS16, mR17, mL17, mS17, mR18, mL18, mS18, mR19, mL19, mS19, mR20, mL20, mS20, mR21, mL21, mS21, mR22, mL22, mS22, mR23, mL23, mS23, mR24, mL24, mS24, mR25, mL25, mS25, mR26, mL26, mS26, mR27, mL27, mS27, mR28, mL28, mS28, mR29, mL29, mS29, mR30, mL30, mS30, mR31, mL31, mS31, mR32, mL32, mS32, mR33, mL33, mS33, iI_0, iI_1, iI_neg, iL2, iL3, iL4, iL5, iL6, iL7, iL8, iL9, iL10, iL11, iL12, iL13, iL14, iL15, iL16, iL17, iL30, iL31, iL60, iL99, iL100, iL240, iL480, iL1000, iL1920, iL10000, iI_add, iI_sub, iI_mul, iI_div, iI_le, iI_lt, iI_eq, bd_s]
    rw [if_pos (by omega)]
    rfl
theorem s_goes (hw : WB σ) (hl : LK σ) (f : Nat → Nat) (n : Nat) (hn : (n : Int) = σ 9 0) (hf : ∀ k, k < n → f k < n) (hs : ∀ k, k < n → σ 24 k = f k) : ∃ τ, cor τ = cor (goF σ f n).1 ∧ (∀ k, k < n → τ 24 k = f k) ∧ f_X8_goes m (MH h m σ) = some (iI (sumW (goF σ f n).1), MH h m τ) := by
  have h9 := hw.1.2.2.2.1
  have hG0 : GI σ f n 0 (clI σ n) := by
    refine ⟨?_, fun i hi => ?_, fun j hj => hs j hj⟩
    · funext g i
      unfold cor
      by_cases c : g < 22
      · rw [if_pos c, if_pos c]
        show clI σ n g i = clrS σ g i
        unfold clI clrS
        (repeat' split) <;> first | rfl | omega
      · rw [if_neg c, if_neg c]
    · show (if (25 = 19 ∨ 25 = 25) ∧ i < n then (0 : Int) else σ 25 i) = _
      rw [if_pos ⟨Or.inr rfl, by omega⟩]
      rfl
  obtain ⟨τ, t1, t2⟩ := lp_rel (B := fun k2 u => fb_X8_goes_32 k2 u.1 u.2.1 u.2.2) (fun (k : Nat) (τ : Sg) => (some m, iI (k : Int), MH h m τ)) (GI σ f n) n (fun τ => some (iI (sumW τ), MH h m τ)) (fun k τ hk hI => by
      obtain ⟨τ', g1, g2⟩ := goes_step (h := h) (m := m) hw hl f n hn hf k hk τ hI
      exact ⟨τ', g1, g2⟩) (fun τ k hI => by
      obtain ⟨i1, i2, i3⟩ := hI
      obtain ⟨gw, gk⟩ := goF_WB hw hl (f := f) (n := n) (fun k hk => by have := hf k hk; omega) n (Nat.le_refl _)
      have e9 : τ 9 0 = σ 9 0 := (cor_eq i1 (by omega) 0).trans (gk 9 0 (by omega))
      have hwτ : WB τ := WB_eq i1 gw
      show fb_X8_goes_32 k (some m) (iI (n : Int)) (MH h m τ) = _
      unfold fb_X8_goes_32
      rw [mR9, e9, ← hn, if_pos (by rw [iI_le (by omega) (by omega) (by omega) (by omega)]; omega), iI_0, s_goes125 hwτ.1]) n 0 FU (clI σ n) (by omega) (by rw [FU_eq]; omega) hG0
  refine ⟨τ, t1.1, t1.2.2, ?_⟩
  rw [← sumW_eq t1.1]
  refine Eq.trans ?_ t2
  unfold f_X8_goes f_X8_goes_2
  have e0 : σ = clI σ 0 := by
    funext f j
    unfold clI
    rw [if_neg (by omega)]
  conv => lhs; rw [e0]
  refine lp_count (B := fun k2 u => fb_X8_goes_2 k2 u.1 u.2.1 u.2.2) (fun b => (some m, iI (b : Int), MH h m (clI σ b))) n _ (fun b hb k => ?_) (fun k => ?_) n 0 FU (by omega) (by rw [FU_eq]; omega)
  · show fb_X8_goes_2 k (some m) (iI (b : Int)) (MH h m (clI σ b)) = k (some m, iI ((b : Int) + 1), MH h m (clI σ (b + 1)))
    have e9 : clI σ b 9 0 = σ 9 0 := by unfold clI; rw [if_neg (by omega)]
    unfold fb_X8_goes_2
    rw [mR9, e9, if_neg (by rw [iI_le (by omega) (by omega) (by omega) (by omega)]; omega), mR25, iI_0, mS25 (by omega) (by omega) 0 _ (Or.inl rfl), mR19, mS19 (by omega) (by omega) 0 _ (Or.inl rfl), Int.toNat_natCast, clI_s, iI_1, iI_add]
  · show fb_X8_goes_2 k (some m) (iI (n : Int)) (MH h m (clI σ n)) = _
    have e9 : clI σ n 9 0 = σ 9 0 := by unfold clI; rw [if_neg (by omega)]
    unfold fb_X8_goes_2
    rw [mR9, e9, if_pos (by rw [iI_le (by omega) (by omega) (by omega) (by omega)]; omega)]
    rfl
theorem goF_cor {σ τ : Sg} (e : cor σ = cor τ) (f : Nat → Nat) : ∀ k, cor (goF σ f k).1 = cor (goF τ f k).1 ∧ (goF σ f k).2 = (goF τ f k).2
  | 0 => by
    refine ⟨?_, rfl⟩
    funext g i
    unfold cor
    by_cases c : g < 22
    · rw [if_pos c, if_pos c]
      show clrS σ g i = clrS τ g i
      unfold clrS
      rw [cor_eq e (f := 9) (by omega), cor_eq e c]
    · rw [if_neg c, if_neg c]
  | k + 1 => by
    obtain ⟨h1, h2⟩ := goF_cor e f k
    have hc : cor (comeS (goF σ f k).1 (f k)) = cor (comeS (goF τ f k).1 (f k)) := by
      unfold comeS
      rw [fnd_eq h1, cor_eq h1 (f := 18) (by omega)]
      cases fnd (goF τ f k).1 (f k) with
      | none => exact h1
      | some e1 =>
        simp only
        split
        · exact giv_eq h1 _ _
        · rw [fnd_eq (giv_eq h1 _ _)]
          cases fnd (giv (goF τ f k).1 (f k) e1) ((goF τ f k).1 18 (f k)).toNat with
          | none => exact cor_sg2 (giv_eq h1 _ _) _ _ _
          | some e2 => exact giv_eq (giv_eq h1 _ _) _ _
    unfold goF
    rw [h2, cor_eq e (f := 18) (by omega)]
    split
    · exact ⟨h1, h2⟩
    · exact ⟨hc, rfl⟩
theorem s_round (hw : WB σ) (hl : LK σ) (n : Nat) (hn : (n : Int) = σ 9 0) : ∃ τ, cor τ = cor (goF σ (ordF (σ 17) n) n).1 ∧ f_X8_round m (MH h m σ) = some (iI (cntG τ), MH h m τ) := by
  have h9 := hw.1.2.2.2.1
  have hn2 : (σ 9 0).toNat = n := by omega
  have hc : cor (sF σ 24 (ordG σ (σ 24) n)) = cor σ := cor_sF σ (by omega) _
  have hw1 : WB (sF σ 24 (ordG σ (σ 24) n)) := WB_eq hc hw
  obtain ⟨τ, t1, t2, t3⟩ := s_goes (h := h) (m := m) hw1 hl (ordF (σ 17) n) n hn (fun k hk => ordF_lt _ n k hk) (fun k hk => by
    show ordG σ (σ 24) n k = _
    unfold ordG
    rw [if_pos hk])
  have hcc := (goF_cor hc (ordF (σ 17) n) n).1
  have hwg := (goF_WB hw1 hl (f := ordF (σ 17) n) (n := n) (fun k hk => by show ((_ : Nat) : Int) < σ 9 0; have := ordF_lt (σ 17) n k hk; omega) n (Nat.le_refl _)).1
  have hwt : WB τ := WB_eq t1 hwg
  refine ⟨τ, t1.trans hcc, ?_⟩
  unfold f_X8_round
  rw [rcv_M, s_ranks hw.1, bd_s, rcv_M, hn2, t3, bd_s, rcv_M, iL2, s_count hwt.1 2 (by unfold I32; omega), bd_s]
  rfl
end
