def rho0 (σ : Sg) : Sg := fun f i => if f = 28 ∨ f = 30 then -1 else if f = 29 then σ 21 i else 0
def rmin (σ ρ : Sg) (o : Nat → Nat) (t : Nat) : Nat → Sg
  | 0 => ρ
  | k + 1 => if σ 19 (o k) = 0 then rmin σ ρ o t k else rstep σ (rmin σ ρ o t k) (o k) t
def rrun (σ : Sg) (o : Nat → Nat) (n : Nat) : Nat → Sg
  | 0 => rho0 σ
  | t + 1 => rmin σ (rrun σ o n t) o t n
/-- the same run, as far as it counts -/
def RD (n : Nat) (τ ρ : Sg) : Prop := ∀ b : Nat, b < n → τ 26 b = ρ 26 b ∧ τ 27 b = ρ 27 b ∧ τ 28 b = ρ 28 b ∧ τ 31 b = ρ 31 b ∧ τ 32 b = ρ 32 b ∧ (∀ i : Nat, i < 8 → τ 29 (8 * b + i) = ρ 29 (8 * b + i) ∧ τ 30 (8 * b + i) = ρ 30 (8 * b + i)) ∧ ∀ l : Nat, l < n → τ 33 (16 * b + l) = ρ 33 (16 * b + l)
theorem RD_sg {n : Nat} {τ ρ : Sg} (h : RD n τ ρ) (f i : Nat) {x y : Int} (e : x = y) : RD n (sg τ f i x) (sg ρ f i y) := by
  subst e
  have g : ∀ g j, τ g j = ρ g j → sg τ f i x g j = sg ρ f i x g j := by
    intro g j e
    unfold sg
    split
    · rfl
    · exact e
  intro b hb
  obtain ⟨h1, h2, h3, h4, h5, h6, h7⟩ := h b hb
  exact ⟨g _ _ h1, g _ _ h2, g _ _ h3, g _ _ h4, g _ _ h5, fun i hi => ⟨g _ _ (h6 i hi).1, g _ _ (h6 i hi).2⟩, fun l hl => g _ _ (h7 l hl)⟩
theorem rstep_cor {σ τ : Sg} (e : cor τ = cor σ) (ρ : Sg) (b : Nat) (t : Int) : rstep τ ρ b t = rstep σ ρ b t := by
  have h : ∀ σ : Sg, rstep σ ρ b t = rstep (cor σ) ρ b t := fun _ => rfl
  rw [h τ, e, ← h σ]
theorem hlR_RD {σ τ ρ : Sg} (hw : WF σ) {n : Nat} (hn : (n : Int) = σ 9 0) (h : RD n τ ρ) (b : Nat) (s t : Int) : hlR σ τ b s t = hlR σ ρ b s t := by
  have h9 := hw.2.2.2.1
  unfold hlR
  refine srch_congr (fun o _ ho => ?_)
  have ho : o < n := by omega
  unfold hlP
  by_cases c : legO σ o s = -1
  · simp [c]
  · obtain ⟨l1, l2, -⟩ := legO_some c
    have hlg := lgs_rng hw (b := o) (by omega)
    rw [show (8 * (o : Int) + legO σ o s).toNat = 8 * o + (legO σ o s).toNat by omega, ((h o ho).2.2.2.2.2.1 (legO σ o s).toNat (by omega)).2]
theorem rstep_RD {σ τ ρ : Sg} (hw : WF σ) {n : Nat} (hn : (n : Int) = σ 9 0) (h : RD n τ ρ) (hr : RW σ ρ) (b : Nat) (hb : b < n) (t : Int) : RD n (rstep σ τ b t) (rstep σ ρ b t) := by
  have h9 := hw.2.2.2.1
  obtain ⟨h1, h2, h3, h4, h5, h6, h7⟩ := h b hb
  obtain ⟨r1, r2, r3, r4⟩ := hr b (by omega)
  have hlg := lgs_rng hw (b := b) (by omega)
  unfold rstep
  rw [h1, h2, h3, h4, h5, hlR_RD hw hn h]
  by_cases c1 : ρ 27 b ≤ t
  · rw [if_pos c1, if_pos c1]
    by_cases c2 : ρ 26 b = lgs σ b
    · rw [if_pos c2, if_pos c2]
      split
      · exact RD_sg h _ _ rfl
      · exact h
    · rw [if_neg c2, if_neg c2]
      have hst := stn_rng hw (b := b) (by omega) (i := ρ 26 b) (by omega) (by omega)
      have e29 := (h6 (stn σ b (ρ 26 b)).toNat (by omega)).1
      rw [show (8 * (b : Int) + stn σ b (ρ 26 b)).toNat = 8 * b + (stn σ b (ρ 26 b)).toNat by omega, e29]
      by_cases c3 : lv σ b (ρ 26 b) ≤ t
      · rw [if_pos c3, if_pos c3]
        split
        · split
          · exact RD_sg h _ _ rfl
          · cases hq : hlR σ ρ b (sec σ b (ρ 26 b)) t with
            | none => exact RD_sg (RD_sg (RD_sg h _ _ rfl) _ _ rfl) _ _ rfl
            | some o =>
              have ho := (srch_some.mp hq).2.1
              exact RD_sg h _ _ (by rw [h7 o (by omega)])
        · exact RD_sg (RD_sg h _ _ rfl) _ _ rfl
      · rw [if_neg c3, if_neg c3]
        exact h
  · rw [if_neg c1, if_neg c1]
    exact h
theorem rstep_RW {σ ρ : Sg} (hw : WF σ) (hr : RW σ ρ) (b : Nat) (hb : (b : Int) < σ 9 0) (t : Int) (ht : 0 ≤ t ∧ t ≤ 479) : RW σ (rstep σ ρ b t) := by
  have h9 := hw.2.2.2.1
  have hB : b < 16 := by omega
  have hlg := lgs_rng hw hB
  obtain ⟨r1, r2, r3, r4⟩ := hr b hb
  have k0 : ∀ (ρ : Sg) (f i : Nat) (x : Int), RW σ ρ → 31 ≤ f → RW σ (sg ρ f i x) := by
    intro ρ f i x h hf b hb
    obtain ⟨q1, q2, q3, q4⟩ := h b hb
    simp only [sg_f ρ i _ x (show (26 : Nat) ≠ f by omega), sg_f ρ i _ x (show (27 : Nat) ≠ f by omega), sg_f ρ i _ x (show (28 : Nat) ≠ f by omega), sg_f ρ i _ x (show (29 : Nat) ≠ f by omega), sg_f ρ i _ x (show (30 : Nat) ≠ f by omega)]
    exact ⟨q1, q2, q3, q4⟩
  unfold rstep
  by_cases c1 : ρ 27 b ≤ t
  · rw [if_pos c1]
    by_cases c2 : ρ 26 b = lgs σ b
    · rw [if_pos c2]
      split
      · intro c hc
        obtain ⟨q1, q2, q3, q4⟩ := hr c hc
        refine ⟨q1, q2, ?_, q4⟩
        show -1 ≤ (if 28 = 28 ∧ c = b then ρ 27 b else ρ 28 c) ∧ (if 28 = 28 ∧ c = b then ρ 27 b else ρ 28 c) ≤ 600
        split <;> omega
      · exact hr
    · rw [if_neg c2]
      have hst := stn_rng hw hB (i := ρ 26 b) (by omega) (by omega)
      have hln := lng_rng hw hB (i := ρ 26 b) (by omega) (by omega)
      split
      · split
        · split
          · exact k0 _ _ _ _ hr (by omega)
          · cases hq : hlR σ ρ b (sec σ b (ρ 26 b)) t with
            | some o => exact k0 _ _ _ _ hr (by omega)
            | none =>
              intro c hc
              obtain ⟨q1, q2, q3, q4⟩ := hr c hc
              refine ⟨?_, ?_, q3, fun i hi => ⟨(q4 i hi).1, ?_⟩⟩
              · show 0 ≤ (if 26 = 26 ∧ c = b then ρ 26 b + 1 else ρ 26 c) ∧ (if 26 = 26 ∧ c = b then ρ 26 b + 1 else ρ 26 c) ≤ lgs σ c
                split
                · rename_i hh
                  rw [hh.2]
                  omega
                · exact q1
              · show 0 ≤ (if 27 = 27 ∧ c = b then t + lng σ b (ρ 26 b) else ρ 27 c) ∧ (if 27 = 27 ∧ c = b then t + lng σ b (ρ 26 b) else ρ 27 c) ≤ 600
                split <;> omega
              · show -1 ≤ (if 30 = 30 ∧ 8 * c + i = (8 * (b : Int) + ρ 26 b).toNat then t else ρ 30 (8 * c + i)) ∧ (if 30 = 30 ∧ 8 * c + i = (8 * (b : Int) + ρ 26 b).toNat then t else ρ 30 (8 * c + i)) ≤ 479
                have := (q4 i hi).2
                split <;> omega
        · rename_i hp
          refine k0 _ _ _ _ ?_ (by omega)
          intro c hc
          obtain ⟨q1, q2, q3, q4⟩ := hr c hc
          refine ⟨q1, q2, q3, fun i hi => ⟨?_, (q4 i hi).2⟩⟩
          have hle := (r4 (stn σ b (ρ 26 b)).toNat (by omega)).1
          rw [← show (8 * (b : Int) + stn σ b (ρ 26 b)).toNat = 8 * b + (stn σ b (ρ 26 b)).toNat by omega] at hle
          show 0 ≤ (if 29 = 29 ∧ 8 * c + i = (8 * (b : Int) + stn σ b (ρ 26 b)).toNat then ρ 29 (8 * (b : Int) + stn σ b (ρ 26 b)).toNat - 1 else ρ 29 (8 * c + i)) ∧ (if 29 = 29 ∧ 8 * c + i = (8 * (b : Int) + stn σ b (ρ 26 b)).toNat then ρ 29 (8 * (b : Int) + stn σ b (ρ 26 b)).toNat - 1 else ρ 29 (8 * c + i)) ≤ 60
          have := (q4 i hi).1
          split <;> omega
      · exact hr
  · rw [if_neg c1]
    exact hr
theorem cor_rstep (σ τ : Sg) (b : Nat) (t : Int) : cor (rstep σ τ b t) = cor τ ∧ rstep σ τ b t 24 = τ 24 := by
  have k : ∀ (τ : Sg) (f i : Nat) (x : Int), 26 ≤ f → cor (sg τ f i x) = cor τ ∧ sg τ f i x 24 = τ 24 := by
    intro τ f i x hf
    refine ⟨cor_sg τ (by omega) i x, ?_⟩
    funext j
    exact sg_f τ i j x (by omega)
  have k2 : ∀ (τ : Sg) (f i : Nat) (x : Int) (g j : Nat) (y : Int), 26 ≤ f → 26 ≤ g → cor (sg (sg τ f i x) g j y) = cor τ ∧ sg (sg τ f i x) g j y 24 = τ 24 := by
    intro τ f i x g j y hf hg
    exact ⟨(k _ g j y hg).1.trans (k τ f i x hf).1, (k _ g j y hg).2.trans (k τ f i x hf).2⟩
  unfold rstep
  split
  · split
    · split
      · exact k _ _ _ _ (by omega)
      · exact ⟨rfl, rfl⟩
    · split
      · split
        · split
          · exact k _ _ _ _ (by omega)
          · cases hlR σ τ b (sec σ b (τ 26 b)) t with
            | some o => exact k _ _ _ _ (by omega)
            | none => exact ⟨(k _ 26 b _ (by omega)).1.trans (k2 _ _ _ _ _ _ _ (by omega) (by omega)).1, (k _ 26 b _ (by omega)).2.trans (k2 _ _ _ _ _ _ _ (by omega) (by omega)).2⟩
        · exact k2 _ _ _ _ _ _ _ (by omega) (by omega)
      · exact ⟨rfl, rfl⟩
  · exact ⟨rfl, rfl⟩
theorem RW_of {σ τ ρ : Sg} (e : cor τ = cor σ) {n : Nat} (hn : (n : Int) = σ 9 0) (h : RD n τ ρ) (hr : RW σ ρ) : RW τ τ := by
  have e9 := cor_eq e (f := 9) (by omega) 0
  intro b hb
  rw [e9] at hb
  obtain ⟨h1, h2, h3, h4, h5, h6, h7⟩ := h b (by omega)
  have e2 : lgs τ b = lgs σ b := by
    have hh : ∀ σ : Sg, lgs σ b = lgs (cor σ) b := fun _ => rfl
    rw [hh τ, e, ← hh σ]
  rw [h1, h2, h3, e2]
  obtain ⟨r1, r2, r3, r4⟩ := hr b hb
  refine ⟨r1, r2, r3, fun i hi => ?_⟩
  rw [(h6 i hi).1, (h6 i hi).2]
  exact r4 i hi
theorem rmin_ok {σ : Sg} (hw : WF σ) {n : Nat} (hn : (n : Int) = σ 9 0) {o : Nat → Nat} (ho : ∀ k, k < n → o k < n) {ρ : Sg} (hr : RW σ ρ) (t : Nat) (ht : t < 480) : ∀ k, k ≤ n → RW σ (rmin σ ρ o t k)
  | 0, _ => hr
  | k + 1, hk => by
    have ih := rmin_ok hw hn ho hr t ht k (by omega)
    have := ho k (by omega)
    unfold rmin
    split
    · exact ih
    · exact rstep_RW hw ih _ (by omega) _ (by omega)
theorem rho0_ok {σ : Sg} (hw : WF σ) : RW σ (rho0 σ) := by
  have h9 := hw.2.2.2.1
  intro b hb
  have hlg := lgs_rng hw (b := b) (by omega)
  refine ⟨⟨Int.le_refl 0, hlg.1⟩, ⟨Int.le_refl 0, show (0 : Int) ≤ 600 by decide⟩, ⟨show (-1 : Int) ≤ -1 by decide, show (-1 : Int) ≤ 600 by decide⟩, fun i hi => ⟨?_, show (-1 : Int) ≤ -1 ∧ (-1 : Int) ≤ 479 by decide⟩⟩
  show 0 ≤ σ 21 (8 * b + i) ∧ σ 21 (8 * b + i) ≤ 60
  exact (hw.2.2.2.2.2.2.2.2.2 _ (by omega)).2
theorem rrun_ok {σ : Sg} (hw : WF σ) {n : Nat} (hn : (n : Int) = σ 9 0) {o : Nat → Nat} (ho : ∀ k, k < n → o k < n) : ∀ t, t ≤ 480 → RW σ (rrun σ o n t)
  | 0, _ => rho0_ok hw
  | t + 1, ht => rmin_ok hw hn ho (rrun_ok hw hn ho t (by omega)) t (by omega) n (Nat.le_refl _)
def RUN (σ : Sg) : Sg := rrun σ (ordF (σ 17) (σ 9 0).toNat) (σ 9 0).toNat 480
section
variable {h : Hp} {m : Nat} {σ : Sg}
/-- what is set before a run, up to bid b -/
def R0 (σ : Sg) (n b : Nat) (τ : Sg) : Prop := cor τ = cor σ ∧ (∀ j, τ 24 j = σ 24 j) ∧ ∀ c : Nat, c < b → τ 26 c = 0 ∧ τ 27 c = 0 ∧ τ 28 c = -1 ∧ τ 31 c = 0 ∧ τ 32 c = 0 ∧ (∀ i : Nat, i < 8 → τ 29 (8 * c + i) = σ 21 (8 * c + i) ∧ τ 30 (8 * c + i) = -1) ∧ ∀ l : Nat, l < n → τ 33 (16 * c + l) = 0
set_option maxHeartbeats 4000000 in
theorem runs_init (hw : WF σ) (n : Nat) (hn : (n : Int) = σ 9 0) (b : Nat) (hb : b < n) (τ : Sg) (hI : R0 σ n b τ) : ∃ τ', R0 σ n (b + 1) τ' ∧ ∀ k', fb_X8_runs_6 k' (some m) (iI (b : Int)) (MH h m τ) = k' (some m, iI ((b : Int) + 1), MH h m τ') := by
  have h9 := hw.2.2.2.1
  obtain ⟨i1, i2, i3⟩ := hI
  have e9 : τ 9 0 = σ 9 0 := cor_eq i1 (by omega) 0
  generalize hX : sg (sg (sg (sg (sg τ 26 b 0) 27 b 0) 28 b (-1)) 31 b 0) 32 b 0 = X
  have hXv : ∀ f j, X f j = if (f = 26 ∨ f = 27 ∨ f = 31 ∨ f = 32) ∧ j = b then 0 else if f = 28 ∧ j = b then -1 else τ f j := by
    intro f j
    rw [← hX]
    unfold sg
    (repeat' split) <;> first | rfl | omega
  have X9 : X 9 0 = σ 9 0 := by rw [hXv, if_neg (by omega), if_neg (by omega), e9]
  -- the blamed ones
  have b51 : ∀ (k' : Option Nat × Int32 × Hp → Option (Unit × Hp)), f_X8_runs_51 k' (some m) (iI (b : Int)) (iI 0) (MH h m X) = f_X8_runs_79 k' (some m) (iI (b : Int)) (iI 0) (MH h m (sF X 33 (fun j => if 16 * b ≤ j ∧ j < 16 * b + n then 0 else X 33 j))) := by
    intro k'
    have e0 : X = sF X 33 (fun j => if 16 * b ≤ j ∧ j < 16 * b + 0 then 0 else X 33 j) := by
      conv => lhs; rw [← sF_self X 33]
      congr 1
      funext j
      rw [if_neg (by omega)]
    unfold f_X8_runs_51
    conv => lhs; rw [e0]
    refine lp_count (B := fun k2 u => fb_X8_runs_51 k' k2 u.1 u.2.1 u.2.2.1 u.2.2.2) (fun (l : Nat) => (some m, iI (b : Int), iI (l : Int), MH h m (sF X 33 (fun j => if 16 * b ≤ j ∧ j < 16 * b + l then 0 else X 33 j)))) n _ (fun l hl k => ?_) (fun k => ?_) n 0 FU (by omega) (by rw [FU_eq]; omega)
    · show fb_X8_runs_51 k' k (some m) (iI (b : Int)) (iI (l : Int)) (MH h m (sF X 33 (fun j => if 16 * b ≤ j ∧ j < 16 * b + l then 0 else X 33 j))) = k (some m, iI (b : Int), iI ((l : Int) + 1), MH h m (sF X 33 (fun j => if 16 * b ≤ j ∧ j < 16 * b + (l + 1) then 0 else X 33 j)))
      have e9' : ∀ g, sF X 33 g 9 0 = σ 9 0 := fun g => X9
      unfold fb_X8_runs_51
      simp (disch := omega) only [rcv_M, mR0, mS0, mR1, mL1, mS1, mR2, mL2, mS2, mR3, mL3, mS3, mR4, mS4, mR5, mS5, mR6, mL6, mS6, mR7, mL7, mS7, mR8, mL8, mS8, mR9, mS9, mR10, mL10, mS10, mR11, mL11, mS11, mR12, mL12, mS12, mR13, mL13, mS13, mR14, mL14, mS14, mR15, mL15, mS15, mR16, mL16, mS16, mR17, mL17, mS17, mR18, mL18, mS18, mR19, mL19, mS19, mR20, mL20, mS20, mR21, mL21, mS21, mR22, mL22, mS22, mR23, mL23, mS23, mR24, mL24, mS24, mR25, mL25, mS25, mR26, mL26, mS26, mR27, mL27, mS27, mR28, mL28, mS28, mR29, mL29, mS29, mR30, mL30, mS30, mR31, mL31, mS31, mR32, mL32, mS32, mR33, mL33, mS33, iI_0, iI_1, iI_neg, iL2, iL3, iL4, iL5, iL6, iL7, iL8, iL9, iL10, iL11, iL12, iL13, iL14, iL15, iL16, iL17, iL30, iL31, iL60, iL99, iL100, iL240, iL480, iL1000, iL1920, iL10000, iI_add, iI_sub, iI_mul, iI_div, iI_le, iI_lt, iI_eq, bd_s, e9', sg_sF]
      rw [if_neg (by omega)]
      congr 6
      funext j
      (repeat' split) <;> first | rfl | omega
    · show fb_X8_runs_51 k' k (some m) (iI (b : Int)) (iI (n : Int)) (MH h m (sF X 33 (fun j => if 16 * b ≤ j ∧ j < 16 * b + n then 0 else X 33 j))) = _
      have e9' : ∀ g, sF X 33 g 9 0 = σ 9 0 := fun g => X9
      unfold fb_X8_runs_51
      simp (disch := omega) only [rcv_M, mR0, mS0, mR1, mL1, mS1, mR2, mL2, mS2, mR3, mL3, mS3, mR4, mS4, mR5, mS5, mR6, mL6, mS6, mR7, mL7, mS7, mR8, mL8, mS8, mR9, mS9, mR10, mL10, mS10, mR11, mL11, mS11, mR12, mL12, mS12, mR13, mL13, mS13, mR14, mL14, mS14, mR15, mL15, mS15, mR16, mL16, mS16, mR17, mL17, mS17, mR18, mL18, mS18, mR19, mL19, mS19, mR20, mL20, mS20, mR21, mL21, mS21, mR22, mL22, mS22, mR23, mL23, mS23, mR24, mL24, mS24, mR25, mL25, mS25, mR26, mL26, mS26, mR27, mL27, mS27, mR28, mL28, mS28, mR29, mL29, mS29, mR30, mL30, mS30, mR31, mL31, mS31, mR32, mL32, mS32, mR33, mL33, mS33, iI_0, iI_1, iI_neg, iL2, iL3, iL4, iL5, iL6, iL7, iL8, iL9, iL10, iL11, iL12, iL13, iL14, iL15, iL16, iL17, iL30, iL31, iL60, iL99, iL100, iL240, iL480, iL1000, iL1920, iL10000, iI_add, iI_sub, iI_mul, iI_div, iI_le, iI_lt, iI_eq, bd_s, e9']
      rw [if_pos (by omega)]
  generalize hY : sF X 33 (fun j => if 16 * b ≤ j ∧ j < 16 * b + n then 0 else X 33 j) = Y at b51
  have Y21 : ∀ j, Y 21 j = σ 21 j := by
    intro j
    rw [← hY]
    show X 21 j = _
    rw [hXv, if_neg (by omega), if_neg (by omega), cor_eq i1 (by omega)]
  have b79 : ∀ (k' : Option Nat × Int32 × Hp → Option (Unit × Hp)), f_X8_runs_79 k' (some m) (iI (b : Int)) (iI 0) (MH h m Y) = k' (some m, iI ((b : Int) + 1), MH h m (sF (sF Y 29 (fun j => if 8 * b ≤ j ∧ j < 8 * b + 8 then σ 21 j else Y 29 j)) 30 (fun j => if 8 * b ≤ j ∧ j < 8 * b + 8 then -1 else Y 30 j))) := by
    intro k'
    have e0 : Y = sF (sF Y 29 (fun j => if 8 * b ≤ j ∧ j < 8 * b + 0 then σ 21 j else Y 29 j)) 30 (fun j => if 8 * b ≤ j ∧ j < 8 * b + 0 then -1 else Y 30 j) := by
      funext f j
      simp only [sF]
      (repeat' split) <;> first | rfl | omega | (subst_vars; rfl)
    unfold f_X8_runs_79
    conv => lhs; rw [e0]
    refine lp_count (B := fun k2 u => fb_X8_runs_79 k' k2 u.1 u.2.1 u.2.2.1 u.2.2.2) (fun (l : Nat) => (some m, iI (b : Int), iI (l : Int), MH h m (sF (sF Y 29 (fun j => if 8 * b ≤ j ∧ j < 8 * b + l then σ 21 j else Y 29 j)) 30 (fun j => if 8 * b ≤ j ∧ j < 8 * b + l then -1 else Y 30 j)))) 8 _ (fun l hl k => ?_) (fun k => ?_) 8 0 FU (by omega) (by rw [FU_eq]; omega)
    · show fb_X8_runs_79 k' k (some m) (iI (b : Int)) (iI (l : Int)) (MH h m (sF (sF Y 29 (fun j => if 8 * b ≤ j ∧ j < 8 * b + l then σ 21 j else Y 29 j)) 30 (fun j => if 8 * b ≤ j ∧ j < 8 * b + l then -1 else Y 30 j))) = k (some m, iI (b : Int), iI ((l : Int) + 1), MH h m (sF (sF Y 29 (fun j => if 8 * b ≤ j ∧ j < 8 * b + (l + 1) then σ 21 j else Y 29 j)) 30 (fun j => if 8 * b ≤ j ∧ j < 8 * b + (l + 1) then -1 else Y 30 j)))
      have e21 : ∀ g g2 j, sF (sF Y 29 g) 30 g2 21 j = σ 21 j := fun g g2 j => Y21 j
      unfold fb_X8_runs_79
      simp (disch := omega) only [rcv_M, mR0, mS0, mR1, mL1, mS1, mR2, mL2, mS2, mR3, mL3, mS3, mR4, mS4, mR5, mS5, mR6, mL6, mS6, mR7, mL7, mS7, mR8, mL8, mS8, mR9, mS9, mR10, mL10, mS10, mR11, mL11, mS11, mR12, mL12, mS12, mR13, mL13, mS13, mR14, mL14, mS14, mR15, mL15, mS15, mR16, mL16, mS16, mR17, mL17, mS17, mR18, mL18, mS18, mR19, mL19, mS19, mR20, mL20, mS20, mR21, mL21, mS21, mR22, mL22, mS22, mR23, mL23, mS23, mR24, mL24, mS24, mR25, mL25, mS25, mR26, mL26, mS26, mR27, mL27, mS27, mR28, mL28, mS28, mR29, mL29, mS29, mR30, mL30, mS30, mR31, mL31, mS31, mR32, mL32, mS32, mR33, mL33, mS33, iI_0, iI_1, iI_neg, iL2, iL3, iL4, iL5, iL6, iL7, iL8, iL9, iL10, iL11, iL12, iL13, iL14, iL15, iL16, iL17, iL30, iL31, iL60, iL99, iL100, iL240, iL480, iL1000, iL1920, iL10000, iI_add, iI_sub, iI_mul, iI_div, iI_le, iI_lt, iI_eq, bd_s, iI_m1, e21]
      rw [if_neg (by omega)]
      congr 5
      funext f j
      simp only [sg, sF]
      rw [show (8 * (b : Int) + (l : Int)).toNat = 8 * b + l by omega]
      by_cases hj : j = 8 * b + l
      · subst hj
        (repeat' split) <;> first | rfl | omega
      · (repeat' split) <;> first | rfl | omega
    · show fb_X8_runs_79 k' k (some m) (iI (b : Int)) (iI (8 : Int)) (MH h m _) = _
      unfold fb_X8_runs_79
      rw [iL8, if_pos (by decide), iI_1, iI_add]
  generalize hZ : sF (sF Y 29 (fun j => if 8 * b ≤ j ∧ j < 8 * b + 8 then σ 21 j else Y 29 j)) 30 (fun j => if 8 * b ≤ j ∧ j < 8 * b + 8 then -1 else Y 30 j) = Z at b79
  have hZv : ∀ f j, Z f j = if f = 29 ∧ (8 * b ≤ j ∧ j < 8 * b + 8) then σ 21 j else if f = 30 ∧ (8 * b ≤ j ∧ j < 8 * b + 8) then -1 else if f = 33 ∧ (16 * b ≤ j ∧ j < 16 * b + n) then 0 else X f j := by
    intro f j
    rw [← hZ, ← hY]
    simp only [sF]
    (repeat' split) <;> first | rfl | omega | (subst_vars; rfl) | (simp_all; done)
  refine ⟨Z, ⟨?_, fun j => ?_, fun c hc => ?_⟩, fun k' => ?_⟩
  · rw [← i1]
    funext f j
    unfold cor
    split
    · rw [hZv, hXv]
      (repeat' split) <;> first | rfl | omega
    · rfl
  · rw [hZv, hXv, ← i2 j]
    (repeat' split) <;> first | rfl | omega
  · by_cases hcb : c = b
    · subst hcb
      refine ⟨?_, ?_, ?_, ?_, ?_, fun i hi => ⟨?_, ?_⟩, fun l hl => ?_⟩ <;> (simp [hZv, hXv]) <;> (try omega)
    · obtain ⟨q1, q2, q3, q4, q5, q6, q7⟩ := i3 c (by omega)
      refine ⟨?_, ?_, ?_, ?_, ?_, fun i hi => ⟨?_, ?_⟩, fun l hl => ?_⟩
      · rw [← q1]; simp only [hZv, hXv]; (repeat' split) <;> first | rfl | omega
      · rw [← q2]; simp only [hZv, hXv]; (repeat' split) <;> first | rfl | omega
      · rw [← q3]; simp only [hZv, hXv]; (repeat' split) <;> first | rfl | omega
      · rw [← q4]; simp only [hZv, hXv]; (repeat' split) <;> first | rfl | omega
      · rw [← q5]; simp only [hZv, hXv]; (repeat' split) <;> first | rfl | omega
      · rw [← (q6 i hi).1]; simp only [hZv, hXv]; (repeat' split) <;> first | rfl | omega
      · rw [← (q6 i hi).2]; simp only [hZv, hXv]; (repeat' split) <;> first | rfl | omega
      · rw [← q7 l hl]; simp only [hZv, hXv]; (repeat' split) <;> first | rfl | omega
  · rw [← b79 k', ← b51 k', ← hX]
    unfold fb_X8_runs_6
    simp (disch := omega) only [rcv_M, mR0, mS0, mR1, mL1, mS1, mR2, mL2, mS2, mR3, mL3, mS3, mR4, mS4, mR5, mS5, mR6, mL6, mS6, mR7, mL7, mS7, mR8, mL8, mS8, mR9, mS9, mR10, mL10, mS10, mR11, mL11, mS11, mR12, mL12, mS12, mR13, mL13, mS13, mR14, mL14, mS14, mR15, mL15, mS15, mR16, mL16, mS16, mR17, mL17, mS17, mR18, mL18, mS18, mR19, mL19, mS19, mR20, mL20, mS20, mR21, mL21, mS21, mR22, mL22, mS22, mR23, mL23, mS23, mR24, mL24, mS24, mR25, mL25, mS25, mR26, mL26, mS26, mR27, mL27, mS27, mR28, mL28, mS28, mR29, mL29, mS29, mR30, mL30, mS30, mR31, mL31, mS31, mR32, mL32, mS32, mR33, mL33, mS33, iI_0, iI_1, iI_neg, iL2, iL3, iL4, iL5, iL6, iL7, iL8, iL9, iL10, iL11, iL12, iL13, iL14, iL15, iL16, iL17, iL30, iL31, iL60, iL99, iL100, iL240, iL480, iL1000, iL1920, iL10000, iI_add, iI_sub, iI_mul, iI_div, iI_le, iI_lt, iI_eq, bd_s, iI_m1, e9, Int.toNat_natCast]
    rw [if_neg (by omega)]
theorem s_runs (hw : WB σ) (n : Nat) (hn : (n : Int) = σ 9 0) : ∃ τ, cor τ = cor σ ∧ RD n τ (RUN σ) ∧ f_X8_runs m (MH h m σ) = some ((), MH h m τ) := by
  have h9 := hw.1.2.2.2.1
  have hn2 : (σ 9 0).toNat = n := by omega
  generalize ho : ordF (σ 17) n = o
  have hol : ∀ k, k < n → o k < n := fun k hk => by rw [← ho]; exact ordF_lt _ n k hk
  generalize hσ1 : sF σ 24 (ordG σ (σ 24) n) = σ1
  have c1 : cor σ1 = cor σ := by rw [← hσ1]; exact cor_sF σ (by omega) _
  have h24 : ∀ k, k < n → σ1 24 k = o k := by
    intro k hk
    rw [← hσ1, ← ho]
    show ordG σ (σ 24) n k = _
    unfold ordG
    rw [if_pos hk]
  have hw1 : WB σ1 := WB_eq c1 hw
  have n1 : (n : Int) = σ1 9 0 := by rw [cor_eq c1 (f := 9) (by omega) 0]; exact hn
  have hr0 : R0 σ1 n 0 σ1 := ⟨rfl, fun _ => rfl, fun c hc => absurd hc (Nat.not_lt_zero _)⟩
  -- the minutes
  have mins : ∀ τ, R0 σ1 n n τ → ∃ τ', (cor τ' = cor σ ∧ RD n τ' (RUN σ)) ∧ f_X8_runs_133 (some m) (iI 0) (MH h m τ) = some ((), MH h m τ') := by
    intro τ ⟨j1, j2, j3⟩
    have hI0 : cor τ = cor σ ∧ (∀ k, k < n → τ 24 k = o k) ∧ RD n τ (rrun σ o n 0) := by
      refine ⟨j1.trans c1, fun k hk => by rw [j2, h24 k hk], fun b hb => ?_⟩
      obtain ⟨q1, q2, q3, q4, q5, q6, q7⟩ := j3 b hb
      refine ⟨q1, q2, q3, q4, q5, fun i hi => ⟨?_, (q6 i hi).2⟩, q7⟩
      rw [(q6 i hi).1, cor_eq c1 (by omega)]
      rfl
    obtain ⟨τ', t1, t2⟩ := lp_rel (B := fun k2 u => fb_X8_runs_133 k2 u.1 u.2.1 u.2.2) (fun (t : Nat) (τ : Sg) => (some m, iI (t : Int), MH h m τ)) (fun t τ => cor τ = cor σ ∧ (∀ k, k < n → τ 24 k = o k) ∧ RD n τ (rrun σ o n t)) 480 (fun τ => some ((), MH h m τ)) (fun t τ ht hI => by
        obtain ⟨a1, a2, a3⟩ := hI
        have inner : ∀ k133 : Option Nat × Int32 × Hp → Option (Unit × Hp), True := fun _ => trivial
        have step : ∀ (k : Nat) (τ : Sg), k < n → (cor τ = cor σ ∧ (∀ k, k < n → τ 24 k = o k) ∧ RD n τ (rmin σ (rrun σ o n t) o t k)) → ∃ τ', (cor τ' = cor σ ∧ (∀ k, k < n → τ' 24 k = o k) ∧ RD n τ' (rmin σ (rrun σ o n t) o t (k + 1))) ∧ ∀ k133 k', fb_X8_runs_142 k133 k' (some m) (iI (t : Int)) (iI (k : Int)) (MH h m τ) = k' (some m, iI (t : Int), iI ((k : Int) + 1), MH h m τ') := by
          intro k τ hk ⟨a1, a2, a3⟩
          have hok := hol k hk
          have e9 : τ 9 0 = σ 9 0 := cor_eq a1 (by omega) 0
          have e19 : τ 19 (o k) = σ 19 (o k) := cor_eq a1 (by omega) _
          have hg := (hw.1.bid (b := o k) (by omega)).2.2.2.2.2.2.2.2.2
          have hrw := rmin_ok hw.1 hn hol (rrun_ok hw.1 hn hol t (by omega)) t ht k (by omega)
          have hwt : WB τ := WB_eq a1 hw
          have hrt : RW τ τ := RW_of a1 hn a3 hrw
          by_cases c : σ 19 (o k) = 0
          · refine ⟨τ, ⟨a1, a2, by rw [rmin, if_pos c]; exact a3⟩, fun k133 k' => ?_⟩
            unfold fb_X8_runs_142 f_X8_runs_175
            rw [mR9, jle (by omega) (by omega) (by omega) (by omega), if_neg (by omega), mR19, mR24, mL24 (by omega) (by omega), Int.toNat_natCast, a2 k hk, mL19 (by omega) (by omega), Int.toNat_natCast, e19, c, if_pos (by decide), iI_1, iI_add]
          · have hcr := cor_rstep τ τ (o k) t
            refine ⟨rstep τ τ (o k) t, ⟨hcr.1.trans a1, fun j hj => by rw [hcr.2]; exact a2 j hj, ?_⟩, fun k133 k' => ?_⟩
            · rw [rmin, if_neg c, rstep_cor a1]
              exact rstep_RD hw.1 hn a3 hrw (o k) hok t
            · unfold fb_X8_runs_142 f_X8_runs_175
              rw [mR9, jle (by omega) (by omega) (by omega) (by omega), if_neg (by omega), mR19, mR24, mL24 (by omega) (by omega), Int.toNat_natCast, a2 k hk, mL19 (by omega) (by omega), Int.toNat_natCast, e19, iI_0, jeq (by omega) (by omega) (by omega) (by omega), if_neg c, mR24, mL24 (by omega) (by omega), Int.toNat_natCast, a2 k hk, rcv_M, s_steps hwt hrt (o k) (by omega) t (by omega), bd_s, iI_1, iI_add]
        have hall : ∀ (d k N : Nat) (τ : Sg), k + d = n → d < N → (cor τ = cor σ ∧ (∀ k, k < n → τ 24 k = o k) ∧ RD n τ (rmin σ (rrun σ o n t) o t k)) → ∃ τ', (cor τ' = cor σ ∧ (∀ k, k < n → τ' 24 k = o k) ∧ RD n τ' (rrun σ o n (t + 1))) ∧ ∀ k133 : Option Nat × Int32 × Hp → Option (Unit × Hp), lp (fun k142 u => fb_X8_runs_142 k133 k142 u.1 u.2.1 u.2.2.1 u.2.2.2) N (some m, iI (t : Int), iI (k : Int), MH h m τ) = k133 (some m, iI ((t : Int) + 1), MH h m τ') := by
          intro d
          induction d with
          | zero =>
            intro k N τ h1 h2 ⟨a1, a2, a3⟩
            obtain ⟨N, rfl⟩ : ∃ k, N = k + 1 := ⟨N - 1, by omega⟩
            have hk : k = n := by omega
            subst hk
            refine ⟨τ, ⟨a1, a2, a3⟩, fun k133 => ?_⟩
            have e9 : τ 9 0 = σ 9 0 := cor_eq a1 (by omega) 0
            rw [lp_succ]
            generalize lp (fun k142 u => fb_X8_runs_142 k133 k142 u.1 u.2.1 u.2.2.1 u.2.2.2) N = kk
            show fb_X8_runs_142 k133 kk (some m) (iI (t : Int)) (iI (k : Int)) (MH h m τ) = _
            unfold fb_X8_runs_142
            rw [mR9, jle (by omega) (by omega) (by omega) (by omega), if_pos (by omega), iI_1, iI_add]
          | succ d ih =>
            intro k N τ h1 h2 hI
            obtain ⟨N, rfl⟩ : ∃ k, N = k + 1 := ⟨N - 1, by omega⟩
            obtain ⟨τ', g1, g2⟩ := step k τ (by omega) hI
            obtain ⟨τ'', g3, g4⟩ := ih (k + 1) N τ' (by omega) (by omega) g1
            refine ⟨τ'', g3, fun k133 => ?_⟩
            rw [← g4 k133, lp_succ]
            exact g2 k133 _
        obtain ⟨τ', g1, g2⟩ := hall n 0 FU τ (by omega) (by rw [FU_eq]; omega) ⟨a1, a2, a3⟩
        refine ⟨τ', g1, fun k => ?_⟩
        show fb_X8_runs_133 k (some m) (iI (t : Int)) (MH h m τ) = _
        unfold fb_X8_runs_133
        rw [show (480 : Int32) = iI 480 by decide, jle (by omega) (by omega) (by omega) (by omega), if_neg (by omega)]
        exact g2 k) (fun τ k hI => by
        show fb_X8_runs_133 k (some m) (iI (480 : Int)) (MH h m τ) = _
        unfold fb_X8_runs_133
        rw [if_pos (by decide)]
        rfl) 480 0 FU τ (by omega) (by rw [FU_eq]; omega) hI0
    refine ⟨τ', ⟨t1.1, ?_⟩, t2⟩
    unfold RUN
    rw [hn2, ho]
    exact t1.2.2
  obtain ⟨τ0, t1, t2⟩ := lp_rel (B := fun k2 u => fb_X8_runs_6 k2 u.1 u.2.1 u.2.2) (fun (b : Nat) (τ : Sg) => (some m, iI (b : Int), MH h m τ)) (R0 σ1 n) n (fun τ => f_X8_runs_133 (some m) (iI 0) (MH h m τ)) (fun b τ hb hI => runs_init (h := h) (m := m) hw1.1 n n1 b hb τ hI) (fun τ k hI => by
    have e9 : τ 9 0 = σ1 9 0 := cor_eq hI.1 (by omega) 0
    show fb_X8_runs_6 k (some m) (iI (n : Int)) (MH h m τ) = _
    unfold fb_X8_runs_6
    rw [mR9, jle (by omega) (by omega) (by omega) (by omega), if_pos (by omega)]
    rfl) n 0 FU σ1 (by omega) (by rw [FU_eq]; omega) hr0
  obtain ⟨τ', g1, g2⟩ := mins τ0 t1
  refine ⟨τ', g1.1, g1.2, ?_⟩
  unfold f_X8_runs
  rw [rcv_M, s_ranks hw.1, bd_s, hn2, hσ1, ← g2, ← t2]
  rfl
end
