/-! what is told of the run -/
theorem ordF_sur (rk : Nat → Int) : ∀ (n b : Nat), b < n → ∃ k, k < n ∧ ordF rk n k = b
  | 0, b, h => absurd h (Nat.not_lt_zero _)
  | n + 1, b, h => by
    have hp := plc_le rk (ordF rk n) (rk n) n
    by_cases e : b = n
    · refine ⟨plc rk (ordF rk n) (rk n) n, by omega, ?_⟩
      unfold ordF
      rw [if_neg (Nat.lt_irrefl _), if_pos rfl, e]
    · obtain ⟨k, k1, k2⟩ := ordF_sur rk n b (by omega)
      by_cases c : k < plc rk (ordF rk n) (rk n) n
      · refine ⟨k, by omega, ?_⟩
        unfold ordF
        rw [if_pos c, k2]
      · refine ⟨k + 1, by omega, ?_⟩
        unfold ordF
        rw [if_neg (by omega), if_neg (by omega), show k + 1 - 1 = k by omega, k2]
/-- what the run says of b's coming before minute t -/
def PB (σ ρ : Sg) (t : Int) (b : Nat) : Prop := (ρ 28 b ≠ -1 → ρ 26 b = lgs σ b ∧ ρ 28 b = ρ 27 b ∧ ρ 27 b < t) ∧ (ρ 26 b = lgs σ b → ρ 27 b < t → ρ 28 b = ρ 27 b)
theorem rstep_o {σ ρ : Sg} {b c : Nat} {t : Int} (h : c ≠ b) : rstep σ ρ b t 26 c = ρ 26 c ∧ rstep σ ρ b t 27 c = ρ 27 c ∧ rstep σ ρ b t 28 c = ρ 28 c := by
  unfold rstep
  split
  · split
    · split
      · exact ⟨rfl, rfl, sg_i _ _ _ h⟩
      · exact ⟨rfl, rfl, rfl⟩
    · split
      · split
        · split
          · exact ⟨rfl, rfl, rfl⟩
          · cases hlR σ ρ b (sec σ b (ρ 26 b)) t with
            | some o => exact ⟨rfl, rfl, rfl⟩
            | none => exact ⟨sg_i _ _ _ h, (sg_f _ _ _ _ (by decide)).trans (sg_i _ _ _ h), rfl⟩
        · exact ⟨rfl, rfl, rfl⟩
      · exact ⟨rfl, rfl, rfl⟩
  · exact ⟨rfl, rfl, rfl⟩
theorem PB_step {σ ρ : Sg} (hw : WF σ) (hr : RW σ ρ) {b : Nat} (hb : (b : Int) < σ 9 0) {t : Int} (hp : PB σ ρ t b ∨ PB σ ρ (t + 1) b) : PB σ (rstep σ ρ b t) (t + 1) b := by
  have h9 := hw.2.2.2.1
  obtain ⟨r26, r27, r28, -⟩ := hr b hb
  have hp' : (ρ 28 b ≠ -1 → ρ 26 b = lgs σ b ∧ ρ 28 b = ρ 27 b ∧ ρ 27 b < t + 1) := by
    intro z
    rcases hp with q | q
    · have := q.1 z; omega
    · exact q.1 z
  have same : ∀ υ : Sg, υ 26 b = ρ 26 b → υ 27 b = ρ 27 b → υ 28 b = ρ 28 b → ρ 26 b ≠ lgs σ b → PB σ υ (t + 1) b := fun υ e1 e2 e3 hne => by
    unfold PB
    rw [e1, e2, e3]
    exact ⟨fun z => absurd (hp' z).1 hne, fun z => absurd z hne⟩
  unfold rstep
  by_cases c1 : ρ 27 b ≤ t
  · rw [if_pos c1]
    by_cases c2 : ρ 26 b = lgs σ b
    · rw [if_pos c2]
      by_cases c3 : ρ 28 b = -1
      · rw [if_pos c3]
        unfold PB
        rw [sg_eq]
        exact ⟨fun _ => ⟨c2, rfl, by show ρ 27 b < t + 1; omega⟩, fun _ _ => rfl⟩
      · rw [if_neg c3]
        exact ⟨hp', fun _ _ => (hp' c3).2.1⟩
    · rw [if_neg c2]
      split
      · split
        · split
          · exact same _ rfl rfl rfl c2
          · cases hlR σ ρ b (sec σ b (ρ 26 b)) t with
            | some o => exact same _ rfl rfl rfl c2
            | none =>
              have hln := lng_rng hw (b := b) (i := ρ 26 b) (by omega) r26.1 (by omega)
              have e28 : ρ 28 b = -1 := by
                by_cases z : ρ 28 b = -1
                · exact z
                · exact absurd (hp' z).1 c2
              have f28 : sg (sg (sg ρ 30 (8 * (b : Int) + ρ 26 b).toNat t) 27 b (t + lng σ b (ρ 26 b))) 26 b (ρ 26 b + 1) 28 b = ρ 28 b := rfl
              have f27 : sg (sg (sg ρ 30 (8 * (b : Int) + ρ 26 b).toNat t) 27 b (t + lng σ b (ρ 26 b))) 26 b (ρ 26 b + 1) 27 b = t + lng σ b (ρ 26 b) := by rw [sg_f _ _ _ _ (by decide), sg_eq]
              show PB σ (sg (sg (sg ρ 30 (8 * (b : Int) + ρ 26 b).toNat t) 27 b (t + lng σ b (ρ 26 b))) 26 b (ρ 26 b + 1)) (t + 1) b
              unfold PB
              rw [f28, f27]
              exact ⟨fun z => absurd e28 z, fun _ z => by omega⟩
        · exact same _ rfl rfl rfl c2
      · exact same _ rfl rfl rfl c2
  · rw [if_neg c1]
    refine ⟨hp', fun z1 z2 => by omega⟩
theorem PB_min {σ : Sg} (hw : WF σ) {n : Nat} (hn : (n : Int) = σ 9 0) {o : Nat → Nat} (ho : ∀ k, k < n → o k < n) {ρ : Sg} (hr : RW σ ρ) {t : Nat} (ht : t < 480) {b : Nat} (hb : b < n) (hg : σ 19 b ≠ 0) (hp : PB σ ρ t b) : ∀ k, k ≤ n → ((∃ j, j < k ∧ o j = b) → PB σ (rmin σ ρ o t k) ((t : Int) + 1) b) ∧ (PB σ (rmin σ ρ o t k) t b ∨ PB σ (rmin σ ρ o t k) ((t : Int) + 1) b)
  | 0, _ => ⟨fun ⟨j, h1, _⟩ => absurd h1 (Nat.not_lt_zero _), Or.inl hp⟩
  | k + 1, hk => by
    obtain ⟨h1, h2⟩ := PB_min hw hn ho hr ht hb hg hp k (by omega)
    have hrk := rmin_ok hw hn ho hr t ht k (by omega)
    have eq : rmin σ ρ o t (k + 1) = if σ 19 (o k) = 0 then rmin σ ρ o t k else rstep σ (rmin σ ρ o t k) (o k) t := rfl
    rw [eq]
    by_cases e : o k = b
    · rw [e, if_neg hg]
      have := PB_step hw hrk (b := b) (by omega) (t := t) h2
      exact ⟨fun _ => this, Or.inr this⟩
    · by_cases c : σ 19 (o k) = 0
      · rw [if_pos c]
        refine ⟨fun ⟨j, j1, j2⟩ => h1 ⟨j, ?_, j2⟩, h2⟩
        by_cases ej : j = k
        · rw [ej] at j2; exact absurd j2 e
        · omega
      · rw [if_neg c]
        obtain ⟨e1, e2, e3⟩ := rstep_o (σ := σ) (ρ := rmin σ ρ o t k) (b := o k) (c := b) (t := t) (fun z => e z.symm)
        unfold PB at h1 h2 ⊢
        rw [e1, e2, e3]
        refine ⟨fun ⟨j, j1, j2⟩ => h1 ⟨j, ?_, j2⟩, h2⟩
        by_cases ej : j = k
        · rw [ej] at j2; exact absurd j2 e
        · omega
theorem PB_run {σ : Sg} (hw : WF σ) {n : Nat} (hn : (n : Int) = σ 9 0) {b : Nat} (hb : b < n) (hg : σ 19 b ≠ 0) : ∀ t, t ≤ 480 → PB σ (rrun σ (ordF (σ 17) n) n t) t b
  | 0, _ => ⟨fun z => absurd rfl z, fun _ z => by have : rho0 σ 27 b = 0 := rfl; have z' : rho0 σ 27 b < ((0 : Nat) : Int) := z; omega⟩
  | t + 1, ht => by
    have ih := PB_run hw hn hb hg t (by omega)
    have ho : ∀ k, k < n → ordF (σ 17) n k < n := fun k hk => ordF_lt _ _ _ hk
    have := (PB_min hw hn ho (rrun_ok hw hn ho t (by omega)) (t := t) (by omega) hb hg ih n (Nat.le_refl _)).1 (ordF_sur _ _ _ hb)
    exact this
theorem RUN_28 {σ : Sg} (hw : WF σ) {b : Nat} (hb : (b : Int) < σ 9 0) (hg : σ 19 b ≠ 0) : RUN σ 28 b = if RUN σ 26 b = lgs σ b ∧ RUN σ 27 b < 480 then RUN σ 27 b else -1 := by
  have h9 := hw.2.2.2.1
  have hp : PB σ (RUN σ) 480 b := PB_run hw (n := (σ 9 0).toNat) (by omega) (by omega) hg 480 (Nat.le_refl _)
  by_cases c : RUN σ 26 b = lgs σ b ∧ RUN σ 27 b < 480
  · rw [if_pos c]; exact hp.2 c.1 c.2
  · rw [if_neg c]
    by_cases z : RUN σ 28 b = -1
    · exact z
    · have := hp.1 z
      exact absurd ⟨this.1, this.2.2⟩ c
section
variable {h : Hp} {A : CA} {κ σ : Sg} {h' : Hp} {m : Nat}
theorem k_up (hr : RLx h A κ σ) : ∃ κ', RLx h A κ' σ ∧ RC A.n κ' (RUN σ) ∧ Ex (55 :: LR) κ κ' ∧ f_X6_bringUpToDate (A.x + 23) (CH h A κ) = some ((), CH h A κ') := by
  obtain ⟨n1, n2⟩ := hr.n
  have hn := hr.1.1.2.2
  have eR : RUN κ = RUN σ := hr.2.1.run.RUN hr.1.1.1.1
  rcases hr.2.2.2.2.2 with h0 | ⟨h1, hc⟩
  · obtain ⟨τ, t1, t2⟩ := k_runAll hr.1 (fun k hk => ordF_lt _ _ _ hk) h0
    have x1 : Ex (55 :: LR) κ (sg τ 55 0 1) := (t1.1.mono (by decide)).sg (by decide) _ _
    have hcor := x1.cor (by decide)
    have hk2 := hr.1.ex x1 (by decide)
    have hE : EQ (sg τ 55 0 1) σ := (EQ.of_cor hcor).trans hr.2.1
    have eR2 : RUN (sg τ 55 0 1) = RUN σ := hE.run.RUN hk2.1.1.1
    have hRC : RC A.n (sg τ 55 0 1) (RUN σ) := by
      rw [← eR]
      unfold RUN
      rw [hn, Int.toNat_natCast]
      exact t1.2.2.1
    refine ⟨sg τ 55 0 1, ⟨?_, hE, hr.2.2.1, hr.2.2.2.1, hr.2.2.2.2.1, Or.inr ⟨rfl, by rw [eR2]; exact hRC⟩⟩, hRC, x1, t2⟩
    rw [show (sg τ 55 0 1) 17 = κ 17 from funext (fun i => x1 17 i (by decide))]
    exact hk2
  · refine ⟨κ, hr, by rw [← eR]; exact hc, Ex.refl _ _, ?_⟩
    unfold f_X6_bringUpToDate
    simp (disch := omega) only [iL239, cV0, cR0_0, cR0_1, cR0_2, cR0_3, cR0_4, cR0_5, cV1, cR1_1, cR1_2, cR1_3, cR1_4, cR1_5, cR1_6, cR1_7, cI1_0, cI1_8, cP1_8, cI1_9, cP1_9, cV9, cR9_0, cR9_1, cV10, cV11, cV12, cR12_0, cR12_1, cR12_2, cR12_3, cR12_4, cR12_5, cR12_6, cV18, cR18_0, cR18_1, cR18_2, cR18_3, cR18_4, cI18_5, cP18_5, cI18_6, cP18_6, cV22, cR22_0, cR22_1, cI22_2, cP22_2, cI22_3, cP22_3, cI22_4, cP22_4, cV23, cR23_0, cR23_1, cR23_3, cR23_4, cR23_5, cR23_6, cR23_7, cR23_8, cR23_9, cR23_10, cI23_2, cP23_2, cR10_1, cI10_2, cR11_1, cI11_2, cL2, cS2, cL3, cS3, cL4, cS4, cL5, cS5, cL6, cS6, cL7, cS7, cL8, cS8, cL13, cS13, cL14, cS14, cL15, cS15, cL16, cS16, cL17, cS17, cL19, cS19, cL20, cS20, cL21, cS21, cL24, cS24, cL25, cS25, cL26, cS26, cL27, cS27, cL28, cS28, cL29, cS29, cL30, cS30, cL31, cS31, bV, bK, bI0, bI1, bI2, bI3, bI4, bI5, bI6, bI7, bI8, bI9, bI10, bR11, bR12, bR13, bP9, bP10, bL1, bS1, bL2, bS2, bL3, bS3, iI_0, iI_1, iI_neg, iL2, iL3, iL4, iL5, iL6, iL7, iL8, iL9, iL10, iL11, iL12, iL13, iL14, iL15, iL16, iL17, iL30, iL31, iL60, iL99, iL100, iL240, iL480, iL1000, iL1920, iL10000, iI_add, iI_sub, iI_mul, iI_div, iI_le, iI_lt, iI_eq, bd_s, h1]
    rw [if_neg (by omega)]
    rfl
theorem k_toOthers (hk : KO h A κ (ordF (κ 17) A.n)) {R : Sg} (hc : RC A.n κ R) {b : Nat} (hb : b < A.n) : f_X6_toOthers (A.x + 23) (iI (b : Int)) (CH h A κ) = some (iI (toO R A.n b), CH h A κ) := by
  have h16 := hk.n16
  unfold f_X6_toOthers f_X6_toOthers_4
  rw [iI_0]
  refine (lp_count (B := fun k4 u => fb_X6_toOthers_4 k4 u.1 u.2.1 u.2.2.1 u.2.2.2.1 u.2.2.2.2) (fun o => (some (A.x + 23), iI (b : Int), iI (sumI (fun l => R 33 (16 * b + l)) o), iI (o : Int), CH h A κ)) A.n (some (iI (toO R A.n b), CH h A κ)) (fun o ho k => ?_) (fun k => ?_) A.n 0 FU (by omega) (by rw [FU_eq]; omega))
  · have e := (hc b hb).2.2.2.2 o ho
    show fb_X6_toOthers_4 k (some (A.x + 23)) (iI (b : Int)) (iI (sumI (fun l => R 33 (16 * b + l)) o)) (iI (o : Int)) (CH h A κ) = k (some (A.x + 23), iI (b : Int), iI (sumI (fun l => R 33 (16 * b + l)) (o + 1)), iI ((o + 1 : Nat) : Int), CH h A κ)
    unfold fb_X6_toOthers_4
    simp (disch := omega) only [iL239, cV0, cR0_0, cR0_1, cR0_2, cR0_3, cR0_4, cR0_5, cV1, cR1_1, cR1_2, cR1_3, cR1_4, cR1_5, cR1_6, cR1_7, cI1_0, cI1_8, cP1_8, cI1_9, cP1_9, cV9, cR9_0, cR9_1, cV10, cV11, cV12, cR12_0, cR12_1, cR12_2, cR12_3, cR12_4, cR12_5, cR12_6, cV18, cR18_0, cR18_1, cR18_2, cR18_3, cR18_4, cI18_5, cP18_5, cI18_6, cP18_6, cV22, cR22_0, cR22_1, cI22_2, cP22_2, cI22_3, cP22_3, cI22_4, cP22_4, cV23, cR23_0, cR23_1, cR23_3, cR23_4, cR23_5, cR23_6, cR23_7, cR23_8, cR23_9, cR23_10, cI23_2, cP23_2, cR10_1, cI10_2, cR11_1, cI11_2, cL2, cS2, cL3, cS3, cL4, cS4, cL5, cS5, cL6, cS6, cL7, cS7, cL8, cS8, cL13, cS13, cL14, cS14, cL15, cS15, cL16, cS16, cL17, cS17, cL19, cS19, cL20, cS20, cL21, cS21, cL24, cS24, cL25, cS25, cL26, cS26, cL27, cS27, cL28, cS28, cL29, cS29, cL30, cS30, cL31, cS31, bV, bK, bI0, bI1, bI2, bI3, bI4, bI5, bI6, bI7, bI8, bI9, bI10, bR11, bR12, bR13, bP9, bP10, bL1, bS1, bL2, bS2, bL3, bS3, iI_0, iI_1, iI_neg, iL2, iL3, iL4, iL5, iL6, iL7, iL8, iL9, iL10, iL11, iL12, iL13, iL14, iL15, iL16, iL17, iL30, iL31, iL60, iL99, iL100, iL240, iL480, iL1000, iL1920, iL10000, iI_add, iI_sub, iI_mul, iI_div, iI_le, iI_lt, iI_eq, bd_s, k_size, Int.natCast_succ, sumI, show ((b : Int) * 16 + (o : Int)).toNat = 16 * b + o by omega, e]
    rw [if_neg (by omega)]
  · show fb_X6_toOthers_4 k (some (A.x + 23)) (iI (b : Int)) (iI (sumI (fun l => R 33 (16 * b + l)) A.n)) (iI (A.n : Int)) (CH h A κ) = _
    unfold fb_X6_toOthers_4 toO
    simp (disch := omega) only [iL239, cV0, cR0_0, cR0_1, cR0_2, cR0_3, cR0_4, cR0_5, cV1, cR1_1, cR1_2, cR1_3, cR1_4, cR1_5, cR1_6, cR1_7, cI1_0, cI1_8, cP1_8, cI1_9, cP1_9, cV9, cR9_0, cR9_1, cV10, cV11, cV12, cR12_0, cR12_1, cR12_2, cR12_3, cR12_4, cR12_5, cR12_6, cV18, cR18_0, cR18_1, cR18_2, cR18_3, cR18_4, cI18_5, cP18_5, cI18_6, cP18_6, cV22, cR22_0, cR22_1, cI22_2, cP22_2, cI22_3, cP22_3, cI22_4, cP22_4, cV23, cR23_0, cR23_1, cR23_3, cR23_4, cR23_5, cR23_6, cR23_7, cR23_8, cR23_9, cR23_10, cI23_2, cP23_2, cR10_1, cI10_2, cR11_1, cI11_2, cL2, cS2, cL3, cS3, cL4, cS4, cL5, cS5, cL6, cS6, cL7, cS7, cL8, cS8, cL13, cS13, cL14, cS14, cL15, cS15, cL16, cS16, cL17, cS17, cL19, cS19, cL20, cS20, cL21, cS21, cL24, cS24, cL25, cS25, cL26, cS26, cL27, cS27, cL28, cS28, cL29, cS29, cL30, cS30, cL31, cS31, bV, bK, bI0, bI1, bI2, bI3, bI4, bI5, bI6, bI7, bI8, bI9, bI10, bR11, bR12, bR13, bP9, bP10, bL1, bS1, bL2, bS2, bL3, bS3, iI_0, iI_1, iI_neg, iL2, iL3, iL4, iL5, iL6, iL7, iL8, iL9, iL10, iL11, iL12, iL13, iL14, iL15, iL16, iL17, iL30, iL31, iL60, iL99, iL100, iL240, iL480, iL1000, iL1920, iL10000, iI_add, iI_sub, iI_mul, iI_div, iI_le, iI_lt, iI_eq, bd_s, k_size]
    rw [if_pos (by omega)]
    rfl
theorem o_ran (hr : RLx h A κ σ) (b w : Int) (hb : I32 b) (hww : I32 w) : OP h A κ σ h' m (f_X7_ran A.x (iI b) (iI w)) (f_X8_ran m (iI b) (iI w)) := by
  obtain ⟨n1, n2⟩ := hr.n
  obtain ⟨τ, t1, t2⟩ := s_ran (h := h') (m := m) hr.2.2.1 b w hb hww
  have hrT : ∀ {κ'}, RLx h A κ' σ → RLx h A κ' τ := fun {κ'} hr' => hr'.scr (Ex.refl [42] κ') (by decide) hr'.1 t1
  unfold I32 at hb hww
  unfold OP
  rw [t2]
  unfold f_X7_ran f_X7_ran_20
  simp (disch := omega) only [iL239, cV0, cR0_0, cR0_1, cR0_2, cR0_3, cR0_4, cR0_5, cV1, cR1_1, cR1_2, cR1_3, cR1_4, cR1_5, cR1_6, cR1_7, cI1_0, cI1_8, cP1_8, cI1_9, cP1_9, cV9, cR9_0, cR9_1, cV10, cV11, cV12, cR12_0, cR12_1, cR12_2, cR12_3, cR12_4, cR12_5, cR12_6, cV18, cR18_0, cR18_1, cR18_2, cR18_3, cR18_4, cI18_5, cP18_5, cI18_6, cP18_6, cV22, cR22_0, cR22_1, cI22_2, cP22_2, cI22_3, cP22_3, cI22_4, cP22_4, cV23, cR23_0, cR23_1, cR23_3, cR23_4, cR23_5, cR23_6, cR23_7, cR23_8, cR23_9, cR23_10, cI23_2, cP23_2, cR10_1, cI10_2, cR11_1, cI11_2, cL2, cS2, cL3, cS3, cL4, cS4, cL5, cS5, cL6, cS6, cL7, cS7, cL8, cS8, cL13, cS13, cL14, cS14, cL15, cS15, cL16, cS16, cL17, cS17, cL19, cS19, cL20, cS20, cL21, cS21, cL24, cS24, cL25, cS25, cL26, cS26, cL27, cS27, cL28, cS28, cL29, cS29, cL30, cS30, cL31, cS31, bV, bK, bI0, bI1, bI2, bI3, bI4, bI5, bI6, bI7, bI8, bI9, bI10, bR11, bR12, bR13, bP9, bP10, bL1, bS1, bL2, bS2, bL3, bS3, iI_0, iI_1, iI_neg, iL2, iL3, iL4, iL5, iL6, iL7, iL8, iL9, iL10, iL11, iL12, iL13, iL14, iL15, iL16, iL17, iL30, iL31, iL60, iL99, iL100, iL240, iL480, iL1000, iL1920, iL10000, iI_add, iI_sub, iI_mul, iI_div, iI_le, iI_lt, iI_eq, bd_s, k_at hr.1.1.2.1]
  by_cases c : 0 ≤ b ∧ b < σ 9 0
  · obtain ⟨B, rfl⟩ : ∃ B : Nat, b = B := ⟨b.toNat, by omega⟩
    have eat : atR A (B : Int) = some (A.b B) := by unfold atR; rw [if_pos (by omega)]; rfl
    have e19 := hr.e (f := 19) (by omega) (by omega) B
    have h19 := (hr.1.1.1.1.bid (b := B) (by omega)).2.2.2.2.2.2.2.2.2
    rw [eat, if_neg (by simp)]
    simp (disch := omega) only [iL239, cV0, cR0_0, cR0_1, cR0_2, cR0_3, cR0_4, cR0_5, cV1, cR1_1, cR1_2, cR1_3, cR1_4, cR1_5, cR1_6, cR1_7, cI1_0, cI1_8, cP1_8, cI1_9, cP1_9, cV9, cR9_0, cR9_1, cV10, cV11, cV12, cR12_0, cR12_1, cR12_2, cR12_3, cR12_4, cR12_5, cR12_6, cV18, cR18_0, cR18_1, cR18_2, cR18_3, cR18_4, cI18_5, cP18_5, cI18_6, cP18_6, cV22, cR22_0, cR22_1, cI22_2, cP22_2, cI22_3, cP22_3, cI22_4, cP22_4, cV23, cR23_0, cR23_1, cR23_3, cR23_4, cR23_5, cR23_6, cR23_7, cR23_8, cR23_9, cR23_10, cI23_2, cP23_2, cR10_1, cI10_2, cR11_1, cI11_2, cL2, cS2, cL3, cS3, cL4, cS4, cL5, cS5, cL6, cS6, cL7, cS7, cL8, cS8, cL13, cS13, cL14, cS14, cL15, cS15, cL16, cS16, cL17, cS17, cL19, cS19, cL20, cS20, cL21, cS21, cL24, cS24, cL25, cS25, cL26, cS26, cL27, cS27, cL28, cS28, cL29, cS29, cL30, cS30, cL31, cS31, bV, bK, bI0, bI1, bI2, bI3, bI4, bI5, bI6, bI7, bI8, bI9, bI10, bR11, bR12, bR13, bP9, bP10, bL1, bS1, bL2, bS2, bL3, bS3, iI_0, iI_1, iI_neg, iL2, iL3, iL4, iL5, iL6, iL7, iL8, iL9, iL10, iL11, iL12, iL13, iL14, iL15, iL16, iL17, iL30, iL31, iL60, iL99, iL100, iL240, iL480, iL1000, iL1920, iL10000, iI_add, iI_sub, iI_mul, iI_div, iI_le, iI_lt, iI_eq, bd_s, Int.toNat_natCast]
    by_cases c1 : σ 19 B = 0
    · have c0 : ¬ ((0 ≤ (B : Int) ∧ (B : Int) < σ 9 0) ∧ σ 19 B ≠ 0 ∧ (0 ≤ w ∧ w ≤ 5)) := fun z => z.2.1 c1
      rw [if_neg c0, if_pos (by omega)]
      exact ⟨_, κ, τ, hrT hr, rfl, rfl⟩
    · rw [if_neg (by omega)]
      obtain ⟨κ', u1, u2, u3, u4⟩ := k_up hr
      simp (disch := omega) only [iL239, cV0, cR0_0, cR0_1, cR0_2, cR0_3, cR0_4, cR0_5, cV1, cR1_1, cR1_2, cR1_3, cR1_4, cR1_5, cR1_6, cR1_7, cI1_0, cI1_8, cP1_8, cI1_9, cP1_9, cV9, cR9_0, cR9_1, cV10, cV11, cV12, cR12_0, cR12_1, cR12_2, cR12_3, cR12_4, cR12_5, cR12_6, cV18, cR18_0, cR18_1, cR18_2, cR18_3, cR18_4, cI18_5, cP18_5, cI18_6, cP18_6, cV22, cR22_0, cR22_1, cI22_2, cP22_2, cI22_3, cP22_3, cI22_4, cP22_4, cV23, cR23_0, cR23_1, cR23_3, cR23_4, cR23_5, cR23_6, cR23_7, cR23_8, cR23_9, cR23_10, cI23_2, cP23_2, cR10_1, cI10_2, cR11_1, cI11_2, cL2, cS2, cL3, cS3, cL4, cS4, cL5, cS5, cL6, cS6, cL7, cS7, cL8, cS8, cL13, cS13, cL14, cS14, cL15, cS15, cL16, cS16, cL17, cS17, cL19, cS19, cL20, cS20, cL21, cS21, cL24, cS24, cL25, cS25, cL26, cS26, cL27, cS27, cL28, cS28, cL29, cS29, cL30, cS30, cL31, cS31, bV, bK, bI0, bI1, bI2, bI3, bI4, bI5, bI6, bI7, bI8, bI9, bI10, bR11, bR12, bR13, bP9, bP10, bL1, bS1, bL2, bS2, bL3, bS3, u4, bd_s]
      have hwk := u1.1.1.1.1
      have hRW := RUN_RW hr.2.2.1.1 B c.2
      obtain ⟨r26, r27, r28, -⟩ := hRW
      have elg : lgs κ' B = lgs σ B := u1.2.1.lgs B
      have hlg := lgs_rng hwk (b := B) (by omega)
      have hl1 := hr.2.2.1.lgs c.2
      obtain ⟨c56, c57, c59, c60, -⟩ := u2 B (by omega)
      have g19 : κ' 19 B ≠ 0 := by rw [u1.e (by omega) (by omega)]; exact c1
      have ecv : cv κ' B (lgs σ B) = lv σ B (lgs σ B) := by
        rw [← elg, u1.1.2.1 B _ (by rw [u1.1.1.2.2]; omega) g19 (by omega) (Int.le_refl _), elg, (hr.2.2.2.2.1.1 B c.2 c1).1]
        unfold cmT
        rw [u1.2.1.2 B _ (by rw [u1.1.1.2.2]; omega) g19 (by omega) (by omega), u1.2.1.lng]
      refine ⟨_, κ', τ, hrT u1, ?_, rfl⟩
      have hto := k_toOthers u1.1.1 u2 (b := B) (by omega)
      unfold f_X6_told f_X6_told_34
      simp (maxSteps := 1000000) (disch := omega) only [iL239, cV0, cR0_0, cR0_1, cR0_2, cR0_3, cR0_4, cR0_5, cV1, cR1_1, cR1_2, cR1_3, cR1_4, cR1_5, cR1_6, cR1_7, cI1_0, cI1_8, cP1_8, cI1_9, cP1_9, cV9, cR9_0, cR9_1, cV10, cV11, cV12, cR12_0, cR12_1, cR12_2, cR12_3, cR12_4, cR12_5, cR12_6, cV18, cR18_0, cR18_1, cR18_2, cR18_3, cR18_4, cI18_5, cP18_5, cI18_6, cP18_6, cV22, cR22_0, cR22_1, cI22_2, cP22_2, cI22_3, cP22_3, cI22_4, cP22_4, cV23, cR23_0, cR23_1, cR23_3, cR23_4, cR23_5, cR23_6, cR23_7, cR23_8, cR23_9, cR23_10, cI23_2, cP23_2, cR10_1, cI10_2, cR11_1, cI11_2, cL2, cS2, cL3, cS3, cL4, cS4, cL5, cS5, cL6, cS6, cL7, cS7, cL8, cS8, cL13, cS13, cL14, cS14, cL15, cS15, cL16, cS16, cL17, cS17, cL19, cS19, cL20, cS20, cL21, cS21, cL24, cS24, cL25, cS25, cL26, cS26, cL27, cS27, cL28, cS28, cL29, cS29, cL30, cS30, cL31, cS31, bV, bK, bI0, bI1, bI2, bI3, bI4, bI5, bI6, bI7, bI8, bI9, bI10, bR11, bR12, bR13, bP9, bP10, bL1, bS1, bL2, bS2, bL3, bS3, iI_0, iI_1, iI_neg, iL2, iL3, iL4, iL5, iL6, iL7, iL8, iL9, iL10, iL11, iL12, iL13, iL14, iL15, iL16, iL17, iL30, iL31, iL60, iL99, iL100, iL240, iL480, iL1000, iL1920, iL10000, iI_add, iI_sub, iI_mul, iI_div, iI_le, iI_lt, iI_eq, bd_s, Int.toNat_natCast, k_steps hwk, elg, c56, c57, c59, c60, ecv, hto]
      have e28 := RUN_28 hr.2.2.1.1 c.2 c1
      by_cases q1 : RUN σ 26 B = lgs σ B ∧ RUN σ 27 B < 480
      · rw [if_pos q1] at e28
        rw [if_neg (by omega), if_pos q1.2]
        by_cases q2 : 0 ≤ w ∧ w ≤ 5
        · have c0 : (0 ≤ (B : Int) ∧ (B : Int) < σ 9 0) ∧ σ 19 B ≠ 0 ∧ (0 ≤ w ∧ w ≤ 5) := ⟨c, c1, q2⟩
          rw [if_pos c0]
          unfold ranS
          rw [e28, if_neg (show ¬ RUN σ 27 B = -1 by omega), n1, Int.toNat_natCast]
          have : w = 0 ∨ w = 1 ∨ w = 2 ∨ w = 3 ∨ w = 4 ∨ w = 5 := by omega
          rcases this with rfl | rfl | rfl | rfl | rfl | rfl <;> rfl
        · have c0 : ¬ ((0 ≤ (B : Int) ∧ (B : Int) < σ 9 0) ∧ σ 19 B ≠ 0 ∧ (0 ≤ w ∧ w ≤ 5)) := fun z => q2 z.2.2
          rw [if_neg c0, if_neg (by omega), if_neg (by omega), if_neg (by omega), if_neg (by omega), if_neg (by omega), if_neg (by omega)]
          rfl
      · rw [if_neg q1] at e28
        have eR : (if (0 ≤ (B : Int) ∧ (B : Int) < σ 9 0) ∧ σ 19 B ≠ 0 ∧ (0 ≤ w ∧ w ≤ 5) then ranS σ B w else -1) = -1 := by
          split
          · unfold ranS; rw [if_pos e28]
          · rfl
        rw [eR]
        by_cases q2 : RUN σ 26 B < lgs σ B
        · rw [if_pos q2]; rfl
        · rw [if_neg q2, if_neg (by omega)]; rfl
  · have eat : atR A b = none := by unfold atR; rw [if_neg (by omega)]
    have c0 : ¬ ((0 ≤ b ∧ b < σ 9 0) ∧ σ 19 b.toNat ≠ 0 ∧ (0 ≤ w ∧ w ≤ 5)) := fun z => c z.1
    rw [eat, if_pos rfl, if_neg c0]
    exact ⟨_, κ, τ, hrT hr, rfl, rfl⟩
theorem o_blame (hr : RLx h A κ σ) (a b : Int) (ha : I32 a) (hb : I32 b) : OP h A κ σ h' m (f_X7_blame A.x (iI a) (iI b)) (f_X8_blame m (iI a) (iI b)) := by
  obtain ⟨n1, n2⟩ := hr.n
  obtain ⟨τ, t1, t2⟩ := s_blame (h := h') (m := m) hr.2.2.1 a b ha hb
  have hrT : ∀ {κ'}, RLx h A κ' σ → RLx h A κ' τ := fun {κ'} hr' => hr'.scr (Ex.refl [42] κ') (by decide) hr'.1 t1
  unfold I32 at ha hb
  unfold OP
  rw [t2]
  unfold f_X7_blame f_X7_blame_22
  simp (disch := omega) only [iL239, cV0, cR0_0, cR0_1, cR0_2, cR0_3, cR0_4, cR0_5, cV1, cR1_1, cR1_2, cR1_3, cR1_4, cR1_5, cR1_6, cR1_7, cI1_0, cI1_8, cP1_8, cI1_9, cP1_9, cV9, cR9_0, cR9_1, cV10, cV11, cV12, cR12_0, cR12_1, cR12_2, cR12_3, cR12_4, cR12_5, cR12_6, cV18, cR18_0, cR18_1, cR18_2, cR18_3, cR18_4, cI18_5, cP18_5, cI18_6, cP18_6, cV22, cR22_0, cR22_1, cI22_2, cP22_2, cI22_3, cP22_3, cI22_4, cP22_4, cV23, cR23_0, cR23_1, cR23_3, cR23_4, cR23_5, cR23_6, cR23_7, cR23_8, cR23_9, cR23_10, cI23_2, cP23_2, cR10_1, cI10_2, cR11_1, cI11_2, cL2, cS2, cL3, cS3, cL4, cS4, cL5, cS5, cL6, cS6, cL7, cS7, cL8, cS8, cL13, cS13, cL14, cS14, cL15, cS15, cL16, cS16, cL17, cS17, cL19, cS19, cL20, cS20, cL21, cS21, cL24, cS24, cL25, cS25, cL26, cS26, cL27, cS27, cL28, cS28, cL29, cS29, cL30, cS30, cL31, cS31, bV, bK, bI0, bI1, bI2, bI3, bI4, bI5, bI6, bI7, bI8, bI9, bI10, bR11, bR12, bR13, bP9, bP10, bL1, bS1, bL2, bS2, bL3, bS3, iI_0, iI_1, iI_neg, iL2, iL3, iL4, iL5, iL6, iL7, iL8, iL9, iL10, iL11, iL12, iL13, iL14, iL15, iL16, iL17, iL30, iL31, iL60, iL99, iL100, iL240, iL480, iL1000, iL1920, iL10000, iI_add, iI_sub, iI_mul, iI_div, iI_le, iI_lt, iI_eq, bd_s, k_at hr.1.1.2.1]
  by_cases c : (0 ≤ a ∧ a < σ 9 0) ∧ (0 ≤ b ∧ b < σ 9 0)
  · have ea : atR A a = some (A.b a.toNat) := by unfold atR; rw [if_pos (by omega)]
    have eb : atR A b = some (A.b b.toNat) := by unfold atR; rw [if_pos (by omega)]
    obtain ⟨κ', u1, u2, u3, u4⟩ := k_up hr
    rw [ea, eb, if_neg (by simp), if_neg (by simp), if_pos c]
    simp (disch := omega) only [iL239, cV0, cR0_0, cR0_1, cR0_2, cR0_3, cR0_4, cR0_5, cV1, cR1_1, cR1_2, cR1_3, cR1_4, cR1_5, cR1_6, cR1_7, cI1_0, cI1_8, cP1_8, cI1_9, cP1_9, cV9, cR9_0, cR9_1, cV10, cV11, cV12, cR12_0, cR12_1, cR12_2, cR12_3, cR12_4, cR12_5, cR12_6, cV18, cR18_0, cR18_1, cR18_2, cR18_3, cR18_4, cI18_5, cP18_5, cI18_6, cP18_6, cV22, cR22_0, cR22_1, cI22_2, cP22_2, cI22_3, cP22_3, cI22_4, cP22_4, cV23, cR23_0, cR23_1, cR23_3, cR23_4, cR23_5, cR23_6, cR23_7, cR23_8, cR23_9, cR23_10, cI23_2, cP23_2, cR10_1, cI10_2, cR11_1, cI11_2, cL2, cS2, cL3, cS3, cL4, cS4, cL5, cS5, cL6, cS6, cL7, cS7, cL8, cS8, cL13, cS13, cL14, cS14, cL15, cS15, cL16, cS16, cL17, cS17, cL19, cS19, cL20, cS20, cL21, cS21, cL24, cS24, cL25, cS25, cL26, cS26, cL27, cS27, cL28, cS28, cL29, cS29, cL30, cS30, cL31, cS31, bV, bK, bI0, bI1, bI2, bI3, bI4, bI5, bI6, bI7, bI8, bI9, bI10, bR11, bR12, bR13, bP9, bP10, bL1, bS1, bL2, bS2, bL3, bS3, iI_0, iI_1, iI_neg, iL2, iL3, iL4, iL5, iL6, iL7, iL8, iL9, iL10, iL11, iL12, iL13, iL14, iL15, iL16, iL17, iL30, iL31, iL60, iL99, iL100, iL240, iL480, iL1000, iL1920, iL10000, iI_add, iI_sub, iI_mul, iI_div, iI_le, iI_lt, iI_eq, bd_s, u4]
    refine ⟨_, κ', τ, hrT u1, ?_, rfl⟩
    have e := (u2 a.toNat (by omega)).2.2.2.2 b.toNat (by omega)
    rw [show (a * 16 + b).toNat = 16 * a.toNat + b.toNat by omega, e, show (16 * a + b).toNat = 16 * a.toNat + b.toNat by omega]
    rfl
  · rw [if_neg c]
    refine ⟨_, κ, τ, hrT hr, ?_, rfl⟩
    by_cases c1 : 0 ≤ a ∧ a < σ 9 0
    · have ea : atR A a = some (A.b a.toNat) := by unfold atR; rw [if_pos (by omega)]
      have eb : atR A b = none := by unfold atR; rw [if_neg (fun z => c ⟨c1, by omega⟩)]
      rw [ea, eb, if_neg (by simp), if_pos rfl]
      rfl
    · have ea : atR A a = none := by unfold atR; rw [if_neg (by omega)]
      rw [ea, if_pos rfl]
      rfl
theorem o_balance (hr : RLx h A κ σ) (w : Int) (hww : I32 w) : OP h A κ σ h' m (f_X7_balance A.x (iI w)) (f_X8_balance m (iI w)) := by
  obtain ⟨n1, n2⟩ := hr.n
  obtain ⟨τ, t1, t2⟩ := s_balance (h := h') (m := m) hr.2.2.1 w hww
  have hrT : ∀ {κ'}, RLx h A κ' σ → RLx h A κ' τ := fun {κ'} hr' => hr'.scr (Ex.refl [42] κ') (by decide) hr'.1 t1
  unfold I32 at hww
  unfold OP
  rw [t2]
  unfold f_X7_balance
  simp (disch := omega) only [iL239, cV0, cR0_0, cR0_1, cR0_2, cR0_3, cR0_4, cR0_5, cV1, cR1_1, cR1_2, cR1_3, cR1_4, cR1_5, cR1_6, cR1_7, cI1_0, cI1_8, cP1_8, cI1_9, cP1_9, cV9, cR9_0, cR9_1, cV10, cV11, cV12, cR12_0, cR12_1, cR12_2, cR12_3, cR12_4, cR12_5, cR12_6, cV18, cR18_0, cR18_1, cR18_2, cR18_3, cR18_4, cI18_5, cP18_5, cI18_6, cP18_6, cV22, cR22_0, cR22_1, cI22_2, cP22_2, cI22_3, cP22_3, cI22_4, cP22_4, cV23, cR23_0, cR23_1, cR23_3, cR23_4, cR23_5, cR23_6, cR23_7, cR23_8, cR23_9, cR23_10, cI23_2, cP23_2, cR10_1, cI10_2, cR11_1, cI11_2, cL2, cS2, cL3, cS3, cL4, cS4, cL5, cS5, cL6, cS6, cL7, cS7, cL8, cS8, cL13, cS13, cL14, cS14, cL15, cS15, cL16, cS16, cL17, cS17, cL19, cS19, cL20, cS20, cL21, cS21, cL24, cS24, cL25, cS25, cL26, cS26, cL27, cS27, cL28, cS28, cL29, cS29, cL30, cS30, cL31, cS31, bV, bK, bI0, bI1, bI2, bI3, bI4, bI5, bI6, bI7, bI8, bI9, bI10, bR11, bR12, bR13, bP9, bP10, bL1, bS1, bL2, bS2, bL3, bS3, iI_0, iI_1, iI_neg, iL2, iL3, iL4, iL5, iL6, iL7, iL8, iL9, iL10, iL11, iL12, iL13, iL14, iL15, iL16, iL17, iL30, iL31, iL60, iL99, iL100, iL240, iL480, iL1000, iL1920, iL10000, iI_add, iI_sub, iI_mul, iI_div, iI_le, iI_lt, iI_eq, bd_s, k_isWithin, iI_b2]
  by_cases c : 0 ≤ w ∧ w ≤ 5
  · rw [if_pos c, if_neg (fun z => z c)]
    obtain ⟨κ', u1, u2, u3, u4⟩ := k_up hr
    simp (disch := omega) only [iL239, cV0, cR0_0, cR0_1, cR0_2, cR0_3, cR0_4, cR0_5, cV1, cR1_1, cR1_2, cR1_3, cR1_4, cR1_5, cR1_6, cR1_7, cI1_0, cI1_8, cP1_8, cI1_9, cP1_9, cV9, cR9_0, cR9_1, cV10, cV11, cV12, cR12_0, cR12_1, cR12_2, cR12_3, cR12_4, cR12_5, cR12_6, cV18, cR18_0, cR18_1, cR18_2, cR18_3, cR18_4, cI18_5, cP18_5, cI18_6, cP18_6, cV22, cR22_0, cR22_1, cI22_2, cP22_2, cI22_3, cP22_3, cI22_4, cP22_4, cV23, cR23_0, cR23_1, cR23_3, cR23_4, cR23_5, cR23_6, cR23_7, cR23_8, cR23_9, cR23_10, cI23_2, cP23_2, cR10_1, cI10_2, cR11_1, cI11_2, cL2, cS2, cL3, cS3, cL4, cS4, cL5, cS5, cL6, cS6, cL7, cS7, cL8, cS8, cL13, cS13, cL14, cS14, cL15, cS15, cL16, cS16, cL17, cS17, cL19, cS19, cL20, cS20, cL21, cS21, cL24, cS24, cL25, cS25, cL26, cS26, cL27, cS27, cL28, cS28, cL29, cS29, cL30, cS30, cL31, cS31, bV, bK, bI0, bI1, bI2, bI3, bI4, bI5, bI6, bI7, bI8, bI9, bI10, bR11, bR12, bR13, bP9, bP10, bL1, bS1, bL2, bS2, bL3, bS3, u4, bd_s]
    refine ⟨_, κ', τ, hrT u1, ?_, rfl⟩
    have hl := u1.1.1.2.1
    have h10 : ∀ i : Nat, i < A.n → 0 ≤ κ' 10 i ∧ κ' 10 i ≤ 5 := fun i hi => (u1.1.1.1.1.bid (b := i) (by omega)).1
    have e10 : ∀ i, κ' 10 i = σ 10 i := fun i => u1.e (by omega) (by omega) i
    unfold f_X6_coinsOf f_X6_coinsOf_4
    rw [iI_0]
    have hout := lp_count (B := fun k4 u => fb_X6_coinsOf_4 k4 u.1 u.2.1 u.2.2.1 u.2.2.2.1 u.2.2.2.2) (fun a => (some (A.x + 23), iI w, iI (sumI (fun a => sumI (balT σ w a) A.n) a), iI (a : Int), CH h A κ')) A.n (some (iI (balS σ w), CH h A κ'))
      (fun a ha k => by
        show fb_X6_coinsOf_4 k (some (A.x + 23)) (iI w) (iI (sumI (fun a => sumI (balT σ w a) A.n) a)) (iI (a : Int)) (CH h A κ') = _
        unfold fb_X6_coinsOf_4 f_X6_coinsOf_18
        simp (disch := omega) only [iL239, cV0, cR0_0, cR0_1, cR0_2, cR0_3, cR0_4, cR0_5, cV1, cR1_1, cR1_2, cR1_3, cR1_4, cR1_5, cR1_6, cR1_7, cI1_0, cI1_8, cP1_8, cI1_9, cP1_9, cV9, cR9_0, cR9_1, cV10, cV11, cV12, cR12_0, cR12_1, cR12_2, cR12_3, cR12_4, cR12_5, cR12_6, cV18, cR18_0, cR18_1, cR18_2, cR18_3, cR18_4, cI18_5, cP18_5, cI18_6, cP18_6, cV22, cR22_0, cR22_1, cI22_2, cP22_2, cI22_3, cP22_3, cI22_4, cP22_4, cV23, cR23_0, cR23_1, cR23_3, cR23_4, cR23_5, cR23_6, cR23_7, cR23_8, cR23_9, cR23_10, cI23_2, cP23_2, cR10_1, cI10_2, cR11_1, cI11_2, cL2, cS2, cL3, cS3, cL4, cS4, cL5, cS5, cL6, cS6, cL7, cS7, cL8, cS8, cL13, cS13, cL14, cS14, cL15, cS15, cL16, cS16, cL17, cS17, cL19, cS19, cL20, cS20, cL21, cS21, cL24, cS24, cL25, cS25, cL26, cS26, cL27, cS27, cL28, cS28, cL29, cS29, cL30, cS30, cL31, cS31, bV, bK, bI0, bI1, bI2, bI3, bI4, bI5, bI6, bI7, bI8, bI9, bI10, bR11, bR12, bR13, bP9, bP10, bL1, bS1, bL2, bS2, bL3, bS3, iI_0, iI_1, iI_neg, iL2, iL3, iL4, iL5, iL6, iL7, iL8, iL9, iL10, iL11, iL12, iL13, iL14, iL15, iL16, iL17, iL30, iL31, iL60, iL99, iL100, iL240, iL480, iL1000, iL1920, iL10000, iI_add, iI_sub, iI_mul, iI_div, iI_le, iI_lt, iI_eq, bd_s, k_size]
        rw [if_neg (by omega)]
        have hin := lp_count (B := fun k18 u => fb_X6_coinsOf_18 k k18 u.1 u.2.1 u.2.2.1 u.2.2.2.1 u.2.2.2.2.1 u.2.2.2.2.2) (fun b => (some (A.x + 23), iI w, iI (sumI (fun a => sumI (balT σ w a) A.n) a + sumI (balT σ w a) b), iI (a : Int), iI (b : Int), CH h A κ')) A.n (k (some (A.x + 23), iI w, iI (sumI (fun a => sumI (balT σ w a) A.n) (a + 1)), iI ((a + 1 : Nat) : Int), CH h A κ'))
          (fun b hb k18 => by
            have e := (u2 a ha).2.2.2.2 b hb
            have ha10 := h10 a ha
            have hb10 := h10 b hb
            show fb_X6_coinsOf_18 k k18 (some (A.x + 23)) (iI w) (iI (sumI (fun a => sumI (balT σ w a) A.n) a + sumI (balT σ w a) b)) (iI (a : Int)) (iI (b : Int)) (CH h A κ') = k18 (some (A.x + 23), iI w, iI (sumI (fun a => sumI (balT σ w a) A.n) a + sumI (balT σ w a) (b + 1)), iI (a : Int), iI ((b + 1 : Nat) : Int), CH h A κ')
            have es : sumI (balT σ w a) (b + 1) = sumI (balT σ w a) b + balT σ w a b := rfl
            rw [es]
            unfold fb_X6_coinsOf_18 f_X6_coinsOf_72 f_X6_coinsOf_103 balT
            simp (disch := omega) only [iL239, cV0, cR0_0, cR0_1, cR0_2, cR0_3, cR0_4, cR0_5, cV1, cR1_1, cR1_2, cR1_3, cR1_4, cR1_5, cR1_6, cR1_7, cI1_0, cI1_8, cP1_8, cI1_9, cP1_9, cV9, cR9_0, cR9_1, cV10, cV11, cV12, cR12_0, cR12_1, cR12_2, cR12_3, cR12_4, cR12_5, cR12_6, cV18, cR18_0, cR18_1, cR18_2, cR18_3, cR18_4, cI18_5, cP18_5, cI18_6, cP18_6, cV22, cR22_0, cR22_1, cI22_2, cP22_2, cI22_3, cP22_3, cI22_4, cP22_4, cV23, cR23_0, cR23_1, cR23_3, cR23_4, cR23_5, cR23_6, cR23_7, cR23_8, cR23_9, cR23_10, cI23_2, cP23_2, cR10_1, cI10_2, cR11_1, cI11_2, cL2, cS2, cL3, cS3, cL4, cS4, cL5, cS5, cL6, cS6, cL7, cS7, cL8, cS8, cL13, cS13, cL14, cS14, cL15, cS15, cL16, cS16, cL17, cS17, cL19, cS19, cL20, cS20, cL21, cS21, cL24, cS24, cL25, cS25, cL26, cS26, cL27, cS27, cL28, cS28, cL29, cS29, cL30, cS30, cL31, cS31, bV, bK, bI0, bI1, bI2, bI3, bI4, bI5, bI6, bI7, bI8, bI9, bI10, bR11, bR12, bR13, bP9, bP10, bL1, bS1, bL2, bS2, bL3, bS3, iI_0, iI_1, iI_neg, iL2, iL3, iL4, iL5, iL6, iL7, iL8, iL9, iL10, iL11, iL12, iL13, iL14, iL15, iL16, iL17, iL30, iL31, iL60, iL99, iL100, iL240, iL480, iL1000, iL1920, iL10000, iI_add, iI_sub, iI_mul, iI_div, iI_le, iI_lt, iI_eq, bd_s, k_size, k_get hl, show ((a : Int) * 16 + (b : Int)).toNat = 16 * a + b by omega, e, Int.natCast_succ]
            rw [if_neg (by omega), e10, e10]
            by_cases q1 : σ 10 a = w <;> by_cases q2 : σ 10 b = w
            · simp only [q1, q2, if_true]
              congr 4
              exact congrArg iI (by omega)
            · simp only [q1, q2, if_true, if_false]
              congr 4
              exact congrArg iI (by omega)
            · simp only [q1, q2, if_true, if_false]
              congr 4
              exact congrArg iI (by omega)
            · simp only [q1, q2, if_false]
              congr 4
              exact congrArg iI (by omega))
          (fun k18 => by
            show fb_X6_coinsOf_18 k k18 (some (A.x + 23)) (iI w) (iI (sumI (fun a => sumI (balT σ w a) A.n) a + sumI (balT σ w a) A.n)) (iI (a : Int)) (iI (A.n : Int)) (CH h A κ') = _
            unfold fb_X6_coinsOf_18
            simp (disch := omega) only [iL239, cV0, cR0_0, cR0_1, cR0_2, cR0_3, cR0_4, cR0_5, cV1, cR1_1, cR1_2, cR1_3, cR1_4, cR1_5, cR1_6, cR1_7, cI1_0, cI1_8, cP1_8, cI1_9, cP1_9, cV9, cR9_0, cR9_1, cV10, cV11, cV12, cR12_0, cR12_1, cR12_2, cR12_3, cR12_4, cR12_5, cR12_6, cV18, cR18_0, cR18_1, cR18_2, cR18_3, cR18_4, cI18_5, cP18_5, cI18_6, cP18_6, cV22, cR22_0, cR22_1, cI22_2, cP22_2, cI22_3, cP22_3, cI22_4, cP22_4, cV23, cR23_0, cR23_1, cR23_3, cR23_4, cR23_5, cR23_6, cR23_7, cR23_8, cR23_9, cR23_10, cI23_2, cP23_2, cR10_1, cI10_2, cR11_1, cI11_2, cL2, cS2, cL3, cS3, cL4, cS4, cL5, cS5, cL6, cS6, cL7, cS7, cL8, cS8, cL13, cS13, cL14, cS14, cL15, cS15, cL16, cS16, cL17, cS17, cL19, cS19, cL20, cS20, cL21, cS21, cL24, cS24, cL25, cS25, cL26, cS26, cL27, cS27, cL28, cS28, cL29, cS29, cL30, cS30, cL31, cS31, bV, bK, bI0, bI1, bI2, bI3, bI4, bI5, bI6, bI7, bI8, bI9, bI10, bR11, bR12, bR13, bP9, bP10, bL1, bS1, bL2, bS2, bL3, bS3, iI_0, iI_1, iI_neg, iL2, iL3, iL4, iL5, iL6, iL7, iL8, iL9, iL10, iL11, iL12, iL13, iL14, iL15, iL16, iL17, iL30, iL31, iL60, iL99, iL100, iL240, iL480, iL1000, iL1920, iL10000, iI_add, iI_sub, iI_mul, iI_div, iI_le, iI_lt, iI_eq, bd_s, k_size, Int.natCast_succ]
            rw [if_pos (by omega)]
            rfl) A.n 0 FU (by omega) (by rw [FU_eq]; omega)
        have e0 : sumI (fun a => sumI (balT σ w a) A.n) a + sumI (balT σ w a) 0 = sumI (fun a => sumI (balT σ w a) A.n) a := by
          show _ + (0 : Int) = _
          omega
        rw [e0] at hin
        exact hin)
      (fun k => by
        show fb_X6_coinsOf_4 k (some (A.x + 23)) (iI w) (iI (sumI (fun a => sumI (balT σ w a) A.n) A.n)) (iI (A.n : Int)) (CH h A κ') = _
        unfold fb_X6_coinsOf_4 balS
        simp (disch := omega) only [iL239, cV0, cR0_0, cR0_1, cR0_2, cR0_3, cR0_4, cR0_5, cV1, cR1_1, cR1_2, cR1_3, cR1_4, cR1_5, cR1_6, cR1_7, cI1_0, cI1_8, cP1_8, cI1_9, cP1_9, cV9, cR9_0, cR9_1, cV10, cV11, cV12, cR12_0, cR12_1, cR12_2, cR12_3, cR12_4, cR12_5, cR12_6, cV18, cR18_0, cR18_1, cR18_2, cR18_3, cR18_4, cI18_5, cP18_5, cI18_6, cP18_6, cV22, cR22_0, cR22_1, cI22_2, cP22_2, cI22_3, cP22_3, cI22_4, cP22_4, cV23, cR23_0, cR23_1, cR23_3, cR23_4, cR23_5, cR23_6, cR23_7, cR23_8, cR23_9, cR23_10, cI23_2, cP23_2, cR10_1, cI10_2, cR11_1, cI11_2, cL2, cS2, cL3, cS3, cL4, cS4, cL5, cS5, cL6, cS6, cL7, cS7, cL8, cS8, cL13, cS13, cL14, cS14, cL15, cS15, cL16, cS16, cL17, cS17, cL19, cS19, cL20, cS20, cL21, cS21, cL24, cS24, cL25, cS25, cL26, cS26, cL27, cS27, cL28, cS28, cL29, cS29, cL30, cS30, cL31, cS31, bV, bK, bI0, bI1, bI2, bI3, bI4, bI5, bI6, bI7, bI8, bI9, bI10, bR11, bR12, bR13, bP9, bP10, bL1, bS1, bL2, bS2, bL3, bS3, iI_0, iI_1, iI_neg, iL2, iL3, iL4, iL5, iL6, iL7, iL8, iL9, iL10, iL11, iL12, iL13, iL14, iL15, iL16, iL17, iL30, iL31, iL60, iL99, iL100, iL240, iL480, iL1000, iL1920, iL10000, iI_add, iI_sub, iI_mul, iI_div, iI_le, iI_lt, iI_eq, bd_s, k_size]
        rw [if_pos (by omega), n1, Int.toNat_natCast]
        rfl) A.n 0 FU (by omega) (by rw [FU_eq]; omega)
    have hout' : lp (fun k4 u => fb_X6_coinsOf_4 k4 u.1 u.2.1 u.2.2.1 u.2.2.2.1 u.2.2.2.2) FU (some (A.x + 23), iI w, iI 0, iI 0, CH h A κ') = some (iI (balS σ w), CH h A κ') := hout
    rw [hout']
    rfl
  · rw [if_neg c, if_pos c]
    exact ⟨_, κ, τ, hrT hr, rfl, rfl⟩
end
