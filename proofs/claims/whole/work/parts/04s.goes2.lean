theorem giv_k (σ : Sg) (b t : Nat) {f : Nat} (i : Nat) (hf : f < 19 ∨ 20 < f) : giv σ b t f i = σ f i := by
  unfold giv
  rw [if_neg (fun z => by omega), if_neg (fun z => by omega)]
def GI (σ : Sg) (f : Nat → Nat) (n k : Nat) (τ : Sg) : Prop := cor τ = cor (goF σ f k).1 ∧ (∀ i : Nat, (i : Int) < σ 9 0 → τ 25 i = b2 ((goF σ f k).2 i = true)) ∧ (∀ j, j < n → τ 24 j = f j)
theorem sF2_k (X : Sg) (g1 g2 : Nat → Int) {f : Nat} (hf : f ≠ 22 ∧ f ≠ 23) (i : Nat) : sF (sF X 22 g1) 23 g2 f i = X f i := by
  unfold sF
  rw [if_neg hf.2, if_neg hf.1]
theorem cor_sF2 (X : Sg) (g1 g2 : Nat → Int) : cor (sF (sF X 22 g1) 23 g2) = cor X := by rw [cor_sF _ (by omega), cor_sF _ (by omega)]
section
variable {h : Hp} {m : Nat} {σ : Sg}
set_option maxHeartbeats 4000000 in
theorem goes_step (hw : WB σ) (hl : LK σ) (f : Nat → Nat) (n : Nat) (hn : (n : Int) = σ 9 0) (hf : ∀ k, k < n → f k < n) (k : Nat) (hk : k < n) (τ : Sg) (hI : GI σ f n k τ) : ∃ τ', GI σ f n (k + 1) τ' ∧ ∀ k', fb_X8_goes_32 k' (some m) (iI (k : Int)) (MH h m τ) = k' (some m, iI ((k : Int) + 1), MH h m τ') := by
  have h9 := hw.1.2.2.2.1
  obtain ⟨i1, i2, i3⟩ := hI
  obtain ⟨gw, gk⟩ := goF_WB hw hl (f := f) (n := n) (fun k hk => by have := hf k hk; omega) k (by omega)
  have hfk := hf k hk
  have e9 : τ 9 0 = σ 9 0 := (cor_eq i1 (by omega) 0).trans (gk 9 0 (by omega))
  have e18 : τ 18 (f k) = σ 18 (f k) := (cor_eq i1 (by omega) (f k)).trans (gk 18 (f k) (by omega))
  have e24 : τ 24 k = f k := i3 k hk
  have e25 := i2 (f k) (by omega)
  have hlk := hl (f k) (by omega)
  have hwτ : WB τ := WB_eq i1 gw
  have hstart : ∀ k' : Option Nat × Int32 × Hp → Option (Int32 × Hp), fb_X8_goes_32 k' (some m) (iI (k : Int)) (MH h m τ) = if (goF σ f k).2 (f k) = true then k' (some m, iI ((k : Int) + 1), MH h m τ) else
      (bd (f_X8_give m (iI (f k : Int)) (MH h m (sg τ 25 (f k) 1))) (fun x75 h => if σ 18 (f k) = -1 then f_X8_goes_115 k' (some m) (iI (k : Int)) h else gR h (some m) 9 25 (fun x89 => stZ h x89 (iI (σ 18 (f k))) (iI 1) (fun h => if x75 = iI 0 then f_X8_goes_115 k' (some m) (iI (k : Int)) h else rcv h (some m) 9 (fun b102 => bd (f_X8_give b102 (iI (σ 18 (f k))) h) (fun x102 h => if x102 = iI 0 then gR h (some m) 9 19 (fun x109 => stZ h x109 (iI (f k : Int)) (iI 0) (fun h => f_X8_goes_115 k' (some m) (iI (k : Int)) h)) else f_X8_goes_115 k' (some m) (iI (k : Int)) h)))))) := by
    intro k'
    unfold fb_X8_goes_32
    simp (disch := omega) only [rcv_M, mR0, mS0, mR1, mL1, mS1, mR2, mL2, mS2, mR3, mL3, mS3, mR4, mS4, mR5, mS5, mR6, mL6, mS6, mR7, mL7, mS7, mR8, mL8, mS8, mR9, mS9, mR10, mL10, mS10, mR11, mL11, mS11, mR12, mL12, mS12, mR13, mL13, mS13, mR14, mL14, mS14, mR15, mL15, mS15, mR16, mL16, mS16, mR17, mL17, mS17, mR18, mL18, mS18, mR19, mL19, mS19, mR20, mL20, mS20, mR21, mL21, mS21, mR22, mL22, mS22, mR23, mL23, mS23, mR24, mL24, mS24, mR25, mL25, mS25, mR26, mL26, mS26, mR27, mL27, mS27, mR28, mL28, mS28, mR29, mL29, mS29, mR30, mL30, mS30, mR31, mL31, mS31, mR32, mL32, mS32, mR33, mL33, mS33, iI_0, iI_1, iI_neg, iL2, iL3, iL4, iL5, iL6, iL7, iL8, iL9, iL10, iL11, iL12, iL13, iL14, iL15, iL16, iL17, iL30, iL31, iL60, iL99, iL100, iL240, iL480, iL1000, iL1920, iL10000, iI_add, iI_sub, iI_mul, iI_div, iI_le, iI_lt, iI_eq, bd_s, Int.toNat_natCast, e24, e25, iI_b2, sg_f, e18, e9]
    rw [if_neg (by omega)]
    cases hq : (goF σ f k).2 (f k) with
    | true => rw [if_neg (by simp), if_pos rfl]; unfold f_X8_goes_115; rw [iI_1, iI_add]
    | false => rw [if_pos (by simp), if_neg (by simp)]
  cases hq : (goF σ f k).2 (f k) with
  | true =>
    have eg : goF σ f (k + 1) = goF σ f k := by rw [goF, if_pos hq]
    refine ⟨τ, ⟨by rw [eg]; exact i1, by rw [eg]; exact i2, i3⟩, fun k' => by rw [hstart, if_pos hq]⟩
  | false =>
    have eg : goF σ f (k + 1) = (comeS (goF σ f k).1 (f k), fun i => (goF σ f k).2 i || decide (i = f k) || decide ((i : Int) = σ 18 (f k))) := by rw [goF, if_neg (by rw [hq]; simp)]
    have c1 : cor (sg τ 25 (f k) 1) = cor τ := cor_sg τ (by omega) _ _
    have hw1 : WB (sg τ 25 (f k) 1) := WB_eq c1 hwτ
    obtain ⟨f22, f23, eG⟩ := s_give (h := h) (m := m) hw1 (f k) (show ((f k : Nat) : Int) < sg τ 25 (f k) 1 9 0 by rw [sg_f _ _ _ _ (by omega), e9]; omega)
    have efn : fnd (sg τ 25 (f k) 1) (f k) = fnd (goF σ f k).1 (f k) := fnd_eq (c1.trans i1) _
    have e18g : (goF σ f k).1 18 (f k) = σ 18 (f k) := gk 18 (f k) (by omega)
    have h115 : ∀ (k' : Option Nat × Int32 × Hp → Option (Int32 × Hp)) (H : Hp), f_X8_goes_115 k' (some m) (iI (k : Int)) H = k' (some m, iI ((k : Int) + 1), H) := by
      intro k' H
      unfold f_X8_goes_115
      rw [iI_1, iI_add]
    -- what each end must say of isAsked, by its value there
    have done : ∀ τ' : Sg, cor τ' = cor (comeS (goF σ f k).1 (f k)) → (∀ i : Nat, τ' 25 i = if σ 18 (f k) ≠ -1 ∧ (i : Int) = σ 18 (f k) then 1 else if i = f k then 1 else τ 25 i) → (∀ j, τ' 24 j = τ 24 j) → GI σ f n (k + 1) τ' := by
      intro τ' d1 d2 d3
      refine ⟨by rw [eg]; exact d1, fun i hi => ?_, fun j hj => by rw [d3, i3 j hj]⟩
      rw [eg, d2]
      by_cases a1 : σ 18 (f k) ≠ -1 ∧ (i : Int) = σ 18 (f k)
      · rw [if_pos a1, b2_t (by simp [a1.2])]
      · rw [if_neg a1]
        by_cases a2 : i = f k
        · rw [if_pos a2, b2_t (by simp [a2])]
        · rw [if_neg a2, i2 i hi]
          have a3 : ¬ (i : Int) = σ 18 (f k) := fun z => a1 ⟨by omega, z⟩
          exact b2_iff (by simp [a2, a3])
    rw [efn] at eG
    cases hfn : fnd (goF σ f k).1 (f k) with
    | none =>
      rw [hfn] at eG
      have ecome : comeS (goF σ f k).1 (f k) = (goF σ f k).1 := by unfold comeS; rw [hfn]
      by_cases cl : σ 18 (f k) = -1
      · refine ⟨sF (sF (sg τ 25 (f k) 1) 22 f22) 23 f23, done _ ?_ ?_ ?_, fun k' => ?_⟩
        · rw [cor_sF2, c1, i1, ecome]
        · intro i
          rw [sF2_k _ _ _ (by omega), if_neg (fun z => z.1 cl)]
          unfold sg
          simp
        · intro j; rw [sF2_k _ _ _ (by omega), sg_f _ _ _ _ (by omega)]
        · rw [hstart, hq, if_neg (by simp), eG]
          simp only [bd_s]
          rw [if_pos cl, h115]
      · have hlr : 0 ≤ σ 18 (f k) ∧ σ 18 (f k) < σ 9 0 := hlk.resolve_left cl
        refine ⟨sg (sF (sF (sg τ 25 (f k) 1) 22 f22) 23 f23) 25 (σ 18 (f k)).toNat 1, done _ ?_ ?_ ?_, fun k' => ?_⟩
        · rw [cor_sg _ (by omega), cor_sF2, c1, i1, ecome]
        · intro i
          by_cases a1 : (i : Int) = σ 18 (f k)
          · rw [if_pos ⟨cl, a1⟩, show i = (σ 18 (f k)).toNat by omega, sg_eq]
          · rw [if_neg (fun z => a1 z.2), sg_i _ _ _ (by omega), sF2_k _ _ _ (by omega)]
            unfold sg
            simp
        · intro j; rw [sg_f _ _ _ _ (by omega), sF2_k _ _ _ (by omega), sg_f _ _ _ _ (by omega)]
        · rw [hstart, hq, if_neg (by simp), eG]
          simp only [bd_s]
          rw [if_neg cl, mR25, mS25 hlr.1 (by omega) 1 _ (Or.inr rfl), if_pos trivial, h115]
    | some e =>
      rw [hfn] at eG
      have cg : cor (giv (sg τ 25 (f k) 1) (f k) e) = cor (giv (goF σ f k).1 (f k) e) := giv_eq (c1.trans i1) _ _
      by_cases cl : σ 18 (f k) = -1
      · have ecome : comeS (goF σ f k).1 (f k) = giv (goF σ f k).1 (f k) e := by unfold comeS; rw [hfn]; simp only; rw [e18g, if_pos cl]
        refine ⟨sF (sF (giv (sg τ 25 (f k) 1) (f k) e) 22 f22) 23 f23, done _ ?_ ?_ ?_, fun k' => ?_⟩
        · rw [cor_sF2, cg, ecome]
        · intro i
          rw [sF2_k _ _ _ (by omega), giv_k _ _ _ _ (by omega), if_neg (fun z => z.1 cl)]
          unfold sg
          simp
        · intro j; rw [sF2_k _ _ _ (by omega), giv_k _ _ _ _ (by omega), sg_f _ _ _ _ (by omega)]
        · rw [hstart, hq, if_neg (by simp), eG]
          simp only [bd_s]
          rw [if_pos cl, h115]
      · have hlr : 0 ≤ σ 18 (f k) ∧ σ 18 (f k) < σ 9 0 := hlk.resolve_left cl
        generalize hX : sg (sF (sF (giv (sg τ 25 (f k) 1) (f k) e) 22 f22) 23 f23) 25 (σ 18 (f k)).toNat 1 = X
        have cX : cor X = cor (giv (goF σ f k).1 (f k) e) := by rw [← hX, cor_sg _ (by omega), cor_sF2, cg]
        have X25 : ∀ i : Nat, X 25 i = if σ 18 (f k) ≠ -1 ∧ (i : Int) = σ 18 (f k) then 1 else if i = f k then 1 else τ 25 i := by
          intro i
          rw [← hX]
          by_cases a1 : (i : Int) = σ 18 (f k)
          · rw [if_pos ⟨cl, a1⟩, show i = (σ 18 (f k)).toNat by omega, sg_eq]
          · rw [if_neg (fun z => a1 z.2), sg_i _ _ _ (by omega), sF2_k _ _ _ (by omega), giv_k _ _ _ _ (by omega)]
            unfold sg
            simp
        have X24 : ∀ j, X 24 j = τ 24 j := by
          intro j
          rw [← hX, sg_f _ _ _ _ (by omega), sF2_k _ _ _ (by omega), giv_k _ _ _ _ (by omega), sg_f _ _ _ _ (by omega)]
        have hw2 : WB (giv (goF σ f k).1 (f k) e) := WB_giv gw (by rw [gk 9 0 (by omega)]; omega) hfn
        have hwX : WB X := WB_eq cX hw2
        have X9 : X 9 0 = σ 9 0 := by rw [cor_eq cX (by omega) 0, giv_k _ _ _ _ (by omega), gk 9 0 (by omega)]
        obtain ⟨L, hL⟩ : ∃ L : Nat, (L : Int) = σ 18 (f k) := ⟨(σ 18 (f k)).toNat, by omega⟩
        obtain ⟨g22, g23, eG2⟩ := s_give (h := h) (m := m) hwX L (by rw [X9]; omega)
        have efn2 : fnd X L = fnd (giv (goF σ f k).1 (f k) e) L := fnd_eq cX _
        rw [efn2] at eG2
        have hmid : ∀ k' : Option Nat × Int32 × Hp → Option (Int32 × Hp), fb_X8_goes_32 k' (some m) (iI (k : Int)) (MH h m τ) = bd (f_X8_give m (iI (L : Int)) (MH h m X)) (fun x102 h => if x102 = iI 0 then gR h (some m) 9 19 (fun x109 => stZ h x109 (iI (f k : Int)) (iI 0) (fun h => f_X8_goes_115 k' (some m) (iI (k : Int)) h)) else f_X8_goes_115 k' (some m) (iI (k : Int)) h) := by
          intro k'
          rw [hstart, hq, if_neg (by simp), eG]
          simp only [bd_s]
          rw [if_neg cl, mR25, mS25 hlr.1 (by omega) 1 _ (Or.inr rfl), if_neg (show ¬ iI 1 = iI 0 by decide), hX, rcv_M, hL]
        have hLn : (σ 18 (f k)).toNat = L := by omega
        cases hf2 : fnd (giv (goF σ f k).1 (f k) e) L with
        | none =>
          rw [hf2] at eG2
          have ecome : comeS (goF σ f k).1 (f k) = sg (giv (goF σ f k).1 (f k) e) 19 (f k) 0 := by unfold comeS; rw [hfn]; simp only; rw [e18g, if_neg cl, hLn, hf2]
          refine ⟨sg (sF (sF X 22 g22) 23 g23) 19 (f k) 0, done _ ?_ ?_ ?_, fun k' => ?_⟩
          · rw [ecome]
            exact cor_sg2 ((cor_sF2 X g22 g23).trans cX) _ _ _
          · intro i; rw [sg_f _ _ _ _ (by omega), sF2_k _ _ _ (by omega), X25]
          · intro j; rw [sg_f _ _ _ _ (by omega), sF2_k _ _ _ (by omega), X24]
          · rw [hmid, eG2]
            simp only [bd_s, if_true]
            rw [mR19, mS19 (by omega) (by omega) 0 _ (Or.inl rfl), Int.toNat_natCast, h115]
        | some e2 =>
          rw [hf2] at eG2
          have ecome : comeS (goF σ f k).1 (f k) = giv (giv (goF σ f k).1 (f k) e) L e2 := by unfold comeS; rw [hfn]; simp only; rw [e18g, if_neg cl, hLn, hf2]
          refine ⟨sF (sF (giv X L e2) 22 g22) 23 g23, done _ ?_ ?_ ?_, fun k' => ?_⟩
          · rw [ecome, cor_sF2]
            exact giv_eq cX _ _
          · intro i; rw [sF2_k _ _ _ (by omega), giv_k _ _ _ _ (by omega), X25]
          · intro j; rw [sF2_k _ _ _ (by omega), giv_k _ _ _ _ (by omega), X24]
          · rw [hmid, eG2]
            simp only [bd_s]
            rw [if_neg (show ¬ iI 1 = iI 0 by decide), h115]
end
