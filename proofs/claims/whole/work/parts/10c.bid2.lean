/-! the states after a bid -/
def kB (κ : Sg) (w t wo rk : Int) : Sg := fun f i => if (f = 20 ∨ f = 41) ∧ 8 * (κ 9 0).toNat ≤ i ∧ i < 8 * (κ 9 0).toNat + 8 then 0 else bidS κ w t wo rk f i
theorem bidS_k {σ : Sg} {w t wo rk : Int} {f i : Nat} (h : i ≠ (σ 9 0).toNat ∨ f < 9 ∨ 17 < f) (h9 : f ≠ 9) : bidS σ w t wo rk f i = σ f i := by
  unfold bidS sg
  rw [if_neg (by omega), if_neg (by omega), if_neg (by omega), if_neg (by omega), if_neg (by omega), if_neg (by omega), if_neg (by omega), if_neg (by omega), if_neg (by omega)]
theorem bidS_9 {σ : Sg} {w t wo rk : Int} : bidS σ w t wo rk 9 0 = σ 9 0 + 1 := by
  unfold bidS
  rw [sg_eq]
theorem bidS_eq {κ σ : Sg} {w t wo rk : Int} {f i : Nat} (e9 : κ 9 0 = σ 9 0) (e : κ f i = σ f i) : bidS κ w t wo rk f i = bidS σ w t wo rk f i := by
  unfold bidS sg
  rw [e9, e]
theorem kB_k {κ : Sg} {w t wo rk : Int} {f i : Nat} (h : i ≠ (κ 9 0).toNat ∨ f < 9 ∨ 17 < f) (h9 : f ≠ 9) (h20 : f ≠ 20 ∧ f ≠ 41) : kB κ w t wo rk f i = κ f i := by
  unfold kB
  rw [if_neg (by omega), bidS_k h h9]
theorem kB_r {κ : Sg} {w t wo rk : Int} {f i : Nat} (hf : f = 20 ∨ f = 41) (h : i < 8 * (κ 9 0).toNat) : kB κ w t wo rk f i = κ f i := by
  unfold kB
  rw [if_neg (by omega), bidS_k (by omega) (by omega)]
theorem okB_rng {σ : Sg} {w t wo rk : Int} (h : okB σ w t wo rk) (h0 : 2 ≤ σ 0 0 ∧ σ 0 0 ≤ 8) : (0 ≤ w / 10000 ∧ w / 10000 ≤ 5) ∧ (0 ≤ w / 1000 - w / 1000 / 10 * 10 ∧ w / 1000 - w / 1000 / 10 * 10 ≤ 7) ∧ (0 ≤ w / 100 - w / 100 / 10 * 10 ∧ w / 100 - w / 100 / 10 * 10 ≤ 7) ∧ (0 ≤ w / 10 - w / 10 / 10 * 10 ∧ w / 10 - w / 10 / 10 * 10 ≤ 1) ∧ (0 ≤ t / 1000 ∧ t / 1000 ≤ 239) ∧ (0 ≤ t - t / 1000 * 1000 ∧ t - t / 1000 * 1000 ≤ 239) := by
  unfold okB at h
  omega
theorem bidS_WB {σ : Sg} {w t wo rk : Int} (hw : WB σ) (h : okB σ w t wo rk) : WB (bidS σ w t wo rk) := by
  have h0 := hw.1.1
  have h9 := hw.1.2.2.2.1
  obtain ⟨r1, r2, r3, r4, r5, r6⟩ := okB_rng h h0
  have hk := h
  unfold okB at hk
  refine ⟨?_, fun b hb => ?_⟩
  · unfold bidS
    exact ((((((((hw.1.sg (f := 10) _ r1).sg (f := 11) _ r2).sg (f := 12) _ r3).sg (f := 13) _ r4).sg (f := 14) _ r5).sg (f := 15) _ r6).sg (f := 16) _ (by exact ⟨by omega, by omega⟩)).sg (f := 17) _ (by exact ⟨by omega, by omega⟩)).sg (f := 9) _ (by exact ⟨by omega, by omega⟩)
  · rw [bidS_9] at hb
    by_cases e : b = (σ 9 0).toNat
    · subst e
      have e11 : bidS σ w t wo rk 11 (σ 9 0).toNat = w / 1000 - w / 1000 / 10 * 10 := by simp [bidS, sg]
      have e12 : bidS σ w t wo rk 12 (σ 9 0).toNat = w / 100 - w / 100 / 10 * 10 := by simp [bidS, sg]
      rw [e11, e12, bidS_k (f := 0) (by omega) (by omega)]
      omega
    · rw [bidS_k (f := 11) (by omega) (by omega), bidS_k (f := 12) (by omega) (by omega), bidS_k (f := 0) (by omega) (by omega)]
      exact hw.2 b (by omega)
theorem bidS_LS {σ : Sg} {w t wo rk : Int} (hw : WF σ) (hl : LSy σ) (hf : FR σ) (h : okB σ w t wo rk) : LSy (bidS σ w t wo rk) := by
  have h9 := hw.2.2.2.1
  have hk := h
  unfold okB at hk
  intro b hb
  rw [bidS_9] at hb
  rw [bidS_k (f := 18) (by omega) (by omega), bidS_k (f := 18) (by omega) (by omega), bidS_9]
  by_cases e : b = (σ 9 0).toNat
  · exact Or.inl (hf b (by omega) (by omega)).1
  · rcases hl b (by omega) with z | ⟨z1, z2, z3, z4⟩
    · exact Or.inl z
    · exact Or.inr ⟨z1, by omega, z3, z4⟩
theorem bidS_AR {σ : Sg} {w t wo rk : Int} (hw : WF σ) (ha : AR σ) (h : okB σ w t wo rk) : AR (bidS σ w t wo rk) := by
  have h9 := hw.2.2.2.1
  have hk := h
  unfold okB at hk
  have kk : ∀ f i, (f ≠ 9 ∧ i ≠ (σ 9 0).toNat) ∨ (f < 9 ∨ 17 < f) → bidS σ w t wo rk f i = σ f i := fun f i z => bidS_k (by omega) (by omega)
  refine ⟨fun b hb hg => ?_, fun b h1 h2 => ?_⟩
  · rw [bidS_9] at hb
    rw [kk 19 b (by omega)] at hg
    have hb2 : (b : Int) < σ 9 0 := by
      by_cases e : b = (σ 9 0).toNat
      · exact absurd (ha.2 b (by omega) (by omega)).2.1 hg
      · omega
    have el : lgs (bidS σ w t wo rk) b = lgs σ b := by unfold lgs; rw [kk 11 b (by omega), kk 12 b (by omega)]
    have en : ∀ i, lng (bidS σ w t wo rk) b i = lng σ b i := fun i => by unfold lng sec; rw [kk 11 b (by omega), kk 12 b (by omega), kk 13 b (by omega), kk 2 _ (by omega)]
    have ev : ∀ i, lv (bidS σ w t wo rk) b i = lv σ b i := fun i => kk 20 _ (by omega)
    have ec : ∀ i, cmT (bidS σ w t wo rk) b i = cmT σ b i := fun i => by unfold cmT; rw [ev, en]
    obtain ⟨a1, a2⟩ := ha.1 b hb2 hg
    refine ⟨by rw [el, ev, ec]; exact a1, fun i i1 i2 => ?_⟩
    rw [el] at i2
    rw [ec, ev]
    exact a2 i i1 i2
  · rw [bidS_9] at h1
    rw [kk 18 b (by omega), kk 19 b (by omega)]
    obtain ⟨z1, z2, z3⟩ := ha.2 b (by omega) h2
    exact ⟨z1, z2, fun i hi => by rw [kk 21 _ (by omega)]; exact z3 i hi⟩
theorem kB_EQ {κ σ : Sg} {w t wo rk : Int} (he : EQ κ σ) (hw : WF σ) (hf : FR σ) (h : okB σ w t wo rk) : EQ (kB κ w t wo rk) (bidS σ w t wo rk) := by
  have h9 := hw.2.2.2.1
  have hk := h
  unfold okB at hk
  have e9 := he.1 9 0 (by omega) (by omega)
  refine ⟨fun f i h1 h2 => ?_, fun b i h1 h2 h3 h4 => ?_⟩
  · unfold kB
    rw [if_neg (by omega)]
    exact bidS_eq e9 (he.1 f i h1 h2)
  · have k9 : kB κ w t wo rk 9 0 = κ 9 0 + 1 := by unfold kB; rw [if_neg (by omega), bidS_9]
    rw [k9] at h1
    rw [kB_k (by omega) (by omega) (by omega)] at h2
    have hb2 : (b : Int) < κ 9 0 := by
      by_cases e : b = (κ 9 0).toNat
      · rw [he.1 19 b (by omega) (by omega)] at h2
        exact absurd (hf b (by omega) (by omega)).2.1 h2
      · omega
    have el : lgs (kB κ w t wo rk) b = lgs κ b := by unfold lgs; rw [kB_k (by omega) (by omega) (by omega), kB_k (by omega) (by omega) (by omega)]
    rw [el] at h4
    have hlt : i < 8 := by
      have hWb : lgs κ b ≤ 7 := by
        rw [he.lgs b]
        exact (lgs_rng hw (b := b) (by omega)).2
      omega
    unfold lv
    rw [kB_r (Or.inl rfl) (by omega), bidS_k (by omega) (by omega)]
    exact he.2 b i hb2 h2 h3 h4
theorem kB_CM {κ : Sg} {w t wo rk : Int} (hw : WF κ) (hf : κ 19 (κ 9 0).toNat = 0) (hc : CM κ) : CM (kB κ w t wo rk) := by
  have h9 := hw.2.2.2.1
  intro b i h1 h2 h3 h4
  have k9 : kB κ w t wo rk 9 0 = κ 9 0 + 1 := by unfold kB; rw [if_neg (by omega), bidS_9]
  rw [k9] at h1
  rw [kB_k (by omega) (by omega) (by omega)] at h2
  have hb2 : (b : Int) < κ 9 0 := by
    by_cases e : b = (κ 9 0).toNat
    · rw [e] at h2; exact absurd hf h2
    · omega
  have el : lgs (kB κ w t wo rk) b = lgs κ b := by unfold lgs; rw [kB_k (by omega) (by omega) (by omega), kB_k (by omega) (by omega) (by omega)]
  rw [el] at h4
  have hlg := lgs_rng hw (b := b) (by omega)
  have e1 : cv (kB κ w t wo rk) b i = cv κ b i := kB_r (Or.inr rfl) (by omega)
  have e2 : cmT (kB κ w t wo rk) b i = cmT κ b i := by
    unfold cmT lv lng sec
    rw [kB_r (Or.inl rfl) (by omega), kB_k (f := 11) (by omega) (by omega) (by omega), kB_k (f := 12) (by omega) (by omega) (by omega), kB_k (f := 13) (by omega) (by omega) (by omega), kB_k (f := 2) (by omega) (by omega) (by omega)]
  rw [e1, e2]
  exact hc b i hb2 h2 h3 h4
def km (κ : Sg) : Sg := fun f i => if f ≤ 8 ∨ 42 ≤ f then κ f i else 0
theorem cfx_km (A A' : CA) (hx : A'.x = A.x) {κ κ' : Sg} (h : km κ' = km κ) : ∀ c, c < 32 → c ≠ 10 → c ≠ 11 → cfx A' κ' c = cfx A κ c := by
  have e1 : ∀ (A : CA) (κ : Sg) c, c < 32 → cfx A κ c = cfx A (km κ) c := fun A κ c hc => by
    match c, hc with
    | 0, _ => rfl
    | 1, _ => rfl
    | 2, _ => rfl
    | 3, _ => rfl
    | 4, _ => rfl
    | 5, _ => rfl
    | 6, _ => rfl
    | 7, _ => rfl
    | 8, _ => rfl
    | 9, _ => rfl
    | 10, _ => rfl
    | 11, _ => rfl
    | 12, _ => rfl
    | 13, _ => rfl
    | 14, _ => rfl
    | 15, _ => rfl
    | 16, _ => rfl
    | 17, _ => rfl
    | 18, _ => rfl
    | 19, _ => rfl
    | 20, _ => rfl
    | 21, _ => rfl
    | 22, _ => rfl
    | 23, _ => rfl
    | 24, _ => rfl
    | 25, _ => rfl
    | 26, _ => rfl
    | 27, _ => rfl
    | 28, _ => rfl
    | 29, _ => rfl
    | 30, _ => rfl
    | 31, _ => rfl
    | _ + 32, hc => omega
  intro c hc h10 h11
  rw [e1 A' κ' c hc, h, e1 A κ c hc]
  generalize km κ = κ
  match c, hc with
  | 0, _ => simp only [cfx, hx]
  | 1, _ => simp only [cfx, hx]
  | 2, _ => rfl
  | 3, _ => rfl
  | 4, _ => rfl
  | 5, _ => rfl
  | 6, _ => rfl
  | 7, _ => rfl
  | 8, _ => rfl
  | 9, _ => simp only [cfx, hx]
  | 10, _ => exact absurd rfl h10
  | 11, _ => exact absurd rfl h11
  | 12, _ => simp only [cfx, hx]
  | 13, _ => rfl
  | 14, _ => rfl
  | 15, _ => rfl
  | 16, _ => rfl
  | 17, _ => rfl
  | 18, _ => simp only [cfx, hx]
  | 19, _ => rfl
  | 20, _ => rfl
  | 21, _ => rfl
  | 22, _ => simp only [cfx, hx]
  | 23, _ => simp only [cfx, hx]
  | 24, _ => rfl
  | 25, _ => rfl
  | 26, _ => rfl
  | 27, _ => rfl
  | 28, _ => rfl
  | 29, _ => rfl
  | 30, _ => rfl
  | 31, _ => rfl
  | _ + 32, hc => omega
theorem cfx_10 (A : CA) (κ : Sg) : cfx A κ 10 = uO A.n A.n A.la := by
  show eO 0 _ _ = eO 0 _ _
  congr 3
  funext k
  by_cases h0 : k = 0
  · simp [h0]
  · by_cases h2 : k = 2
    · simp [h2]
    · simp [h0, h2]
theorem cfx_11 (A : CA) (κ : Sg) : cfx A κ 11 = uO A.n A.n A.lb := by
  show eO 0 _ _ = eO 0 _ _
  congr 3
  funext k
  by_cases h0 : k = 0
  · simp [h0]
  · by_cases h2 : k = 2
    · simp [h2]
    · simp [h0, h2]
