/-! section, find, give, drop, path, count, round -/
theorem cntI_ex (P : Nat → Bool) : ∀ n, (cntI P n ≤ 0) ↔ exB P n = false
  | 0 => ⟨fun _ => rfl, fun _ => Int.le_refl _⟩
  | n + 1 => by
    have ih := cntI_ex P n
    have hr := cntI_rng P n
    rw [exB_succ]
    unfold cntI
    cases hp : P n with
    | true => simp; omega
    | false => simp; exact ih
theorem pt_last {σ : Sg} {b n e : Nat} (hn : (n : Int) + 1 = lgs σ b) : pt σ b e n = e - lng σ b n := by
  unfold pt
  rw [show (lgs σ b).toNat = n + 1 by omega]
  unfold bkF
  rw [bkF_out (Nat.le_refl _), if_pos rfl]
theorem bkF_mono {κ : Sg} {b : Nat} : ∀ (i e : Nat) (F : Nat → Int), (0 < i → cmg κ b i e = true) → (e : Int) ≤ F i → ∀ j : Nat, j < i → bkF κ b i e F j + lng κ b j ≤ bkF κ b i e F (j + 1)
  | 0, _, _, _, _, j, hj => absurd hj (Nat.not_lt_zero _)
  | i + 1, e, F, hc, hF, j, hj => by
    obtain ⟨c1, c2, -⟩ := cmg_inv (hc (by omega))
    unfold bkF
    by_cases q : j = i
    · subst q
      rw [bkF_out (Nat.le_refl _), bkF_out (by omega), if_pos rfl, if_neg (by omega)]
      omega
    · by_cases h0 : i = 0
      · omega
      · rw [if_neg h0]
        obtain ⟨i', rfl⟩ : ∃ i', i = i' + 1 := ⟨i - 1, by omega⟩
        have hd := dn_ok (rdy_ex c2)
        exact bkF_mono (i' + 1) _ _ (fun _ => hd.1) (by rw [if_pos rfl]; omega) j (by omega)
theorem AR0.givR {σ : Sg} (hw : WB σ) (ha : AR0 σ) {b e : Nat} (hb : (b : Int) < σ 9 0) (hfe : fnd σ b = some e) : AR0 (giv σ b e) := by
  have h9 := hw.1.2.2.2.1
  intro c h1 h2
  have h1' : (c : Int) < σ 9 0 := by rw [← giv_k σ b e (f := 9) 0 (by omega)]; exact h1
  have hlg := lgs_rng hw.1 (b := c) (by omega)
  have hl1 := hw.lgs h1'
  have el : lgs (giv σ b e) c = lgs σ c := by unfold lgs; rw [giv_k _ _ _ _ (by omega), giv_k _ _ _ _ (by omega)]
  have en : ∀ i, lng (giv σ b e) c i = lng σ c i := fun i => by unfold lng sec; rw [giv_k _ _ _ _ (by omega), giv_k _ _ _ _ (by omega), giv_k _ _ _ _ (by omega), giv_k _ _ _ _ (by omega)]
  have e20 : ∀ i : Int, 0 ≤ i → i ≤ lgs σ c → lv (giv σ b e) c i = if c = b then pt σ b e i.toNat else lv σ c i := fun i i0 i1 => by
    have hlb := lgs_rng hw.1 (b := b) (by omega)
    unfold lv giv
    rw [if_neg (by omega)]
    by_cases q : c = b
    · subst q
      rw [if_pos (by omega), if_pos rfl]
      congr 1
      omega
    · rw [if_neg (by omega), if_neg q]
  have ecm : ∀ i : Int, 1 ≤ i → i ≤ lgs σ c → cmT (giv σ b e) c i = (if c = b then pt σ b e (i - 1).toNat else lv σ c (i - 1)) + lng σ c (i - 1) := fun i i0 i1 => by
    unfold cmT
    rw [en, e20 _ (by omega) (by omega)]
  rw [el]
  have hfo := fnd_ok hw.1 (b := b) (by omega) hfe
  refine ⟨?_, fun i i1 i2 => ?_⟩
  · rw [ecm _ (by omega) (by omega), e20 _ (by omega) (by omega)]
    by_cases q : c = b
    · subst q
      rw [if_pos rfl, if_pos rfl, pt_end hw.1 (by omega) (n := (lgs σ c).toNat) (by omega), pt_last (n := (lgs σ c - 1).toNat) (by omega)]
      rw [show (((lgs σ c - 1).toNat : Nat) : Int) = lgs σ c - 1 by omega]
      omega
    · rw [if_neg q, if_neg q]
      refine (ha c h1' ?_).1
      rw [giv_19, if_neg q] at h2
      exact h2
  · rw [ecm _ (by omega) (by omega), e20 _ (by omega) (by omega)]
    by_cases q : c = b
    · subst q
      rw [if_pos rfl, if_pos rfl]
      have := bkF_mono (κ := σ) (b := c) (lgs σ c).toNat e (fun i => if i = (lgs σ c).toNat then (e : Int) else 0) (fun _ => hfo.1) (by rw [if_pos rfl]; exact Int.le_refl _) (i - 1).toNat (by omega)
      rw [show (i - 1).toNat + 1 = i.toNat by omega, show (((i - 1).toNat : Nat) : Int) = i - 1 by omega] at this
      exact this
    · rw [if_neg q, if_neg q]
      refine (ha c h1' ?_).2 i i1 i2
      rw [giv_19, if_neg q] at h2
      exact h2
theorem AR.givR {σ : Sg} (hw : WB σ) (ha : AR σ) {b e : Nat} (hb : (b : Int) < σ 9 0) (hfe : fnd σ b = some e) : AR (giv σ b e) := by
  refine ⟨ha.1.givR hw hb hfe, fun c h1 h2 => ?_⟩
  rw [giv_k _ _ _ _ (by omega)] at h1
  rw [giv_k _ _ _ _ (by omega), giv_19, if_neg (by omega)]
  exact ⟨(ha.2 c h1 h2).1, (ha.2 c h1 h2).2.1, fun i hi => by rw [giv_k _ _ _ _ (by omega)]; exact (ha.2 c h1 h2).2.2 i hi⟩
theorem AR.d19 {σ : Sg} (ha : AR σ) (b : Nat) : AR (sg σ 19 b 0) := by
  refine ⟨?_, fun c h1 h2 => ⟨(ha.2 c h1 h2).1, ?_, (ha.2 c h1 h2).2.2⟩⟩
  case refine_2 =>
    unfold sg
    split
    · rfl
    · exact (ha.2 c h1 h2).2.1
  intro c h1 h2
  refine ha.1 c h1 (fun z => h2 ?_)
  unfold sg
  split
  · rfl
  · exact z
theorem AR.corR {σ τ : Sg} (ha : AR σ) (e : cor τ = cor σ) : AR τ := ha.of (fun f i hf => cor_eq e (by omega) i)
theorem AR.comeR {σ : Sg} (hw : WB σ) (hl : LK σ) (ha : AR σ) {b : Nat} (hb : (b : Int) < σ 9 0) : AR (comeS σ b) := by
  unfold comeS
  cases h1 : fnd σ b with
  | none => exact ha
  | some e =>
    have h2 := ha.givR hw hb h1
    simp only
    by_cases c : σ 18 b = -1
    · rw [if_pos c]; exact h2
    · rw [if_neg c]
      have hlb := hl b hb
      cases h3 : fnd (giv σ b e) (σ 18 b).toNat with
      | none => exact h2.d19 b
      | some e2 => exact h2.givR (WB_giv hw hb h1) (show (((σ 18 b).toNat : Nat) : Int) < σ 9 0 by omega) h3
theorem AR.goR {σ : Sg} (hw : WB σ) (hl : LK σ) (hfr : FR σ) {f : Nat → Nat} {n : Nat} (hf : ∀ k, k < n → (f k : Int) < σ 9 0) : ∀ k, k ≤ n → AR (goF σ f k).1
  | 0, _ => by
    refine ⟨?_, fun c h1 h2 => ?_⟩
    case refine_2 =>
      have h1' : σ 9 0 ≤ (c : Int) := h1
      have e19 : clrS σ 19 c = σ 19 c := by
        unfold clrS
        rw [if_neg (by omega)]
      show clrS σ 18 c = -1 ∧ clrS σ 19 c = 0 ∧ ∀ i : Nat, i < 8 → clrS σ 21 (8 * c + i) = 0
      rw [e19]
      exact hfr c h1' h2
    intro c h1 h2
    exfalso
    apply h2
    show clrS σ 19 c = 0
    unfold clrS
    have h1' : (c : Int) < clrS σ 9 0 := h1
    have : clrS σ 9 0 = σ 9 0 := rfl
    rw [if_pos ⟨rfl, by omega⟩]
  | k + 1, hk => by
    have ih := AR.goR hw hl hfr hf k (by omega)
    obtain ⟨g1, g2⟩ := goF_WB hw hl hf k (by omega)
    unfold _root_.Jvm.Pilot.CFreightPathsLaw_law_r8975_db95ec.goF
    split
    · exact ih
    · have e9 := g2 9 0 (by omega)
      exact ih.comeR g1 (fun b hb => by rw [e9] at hb; rw [g2 18 b (by omega), e9]; exact hl b hb) (by rw [e9]; exact hf k (by omega))
theorem LSy.of {σ τ : Sg} (h : LSy σ) (e9 : τ 9 0 = σ 9 0) (e18 : ∀ i, τ 18 i = σ 18 i) : LSy τ := by
  intro b hb
  rw [e18, e18, e9]
  rw [e9] at hb
  exact h b hb
section
variable {h : Hp} {A : CA} {κ σ : Sg} {h' : Hp} {m : Nat}
theorem o_section (hr : RLx h A κ σ) (k d f s : Int) (hk : I32 k) (hd : d = 0 ∨ d = 1) (hf : I32 f) (hs : I32 s) : OP h A κ σ h' m (f_X7_section A.x (iI k) (iI d) (iI f) (iI s)) (f_X8_section m (iI k) (iI d) (iI f) (iI s)) := by
  have hS := s_section (h := h') (m := m) hr.2.2.1.1 k d f s hk hd hf hs
  have hwk := hr.1.1.1.1
  have e0 := hr.e (f := 0) (by omega) (by omega) 0
  have h0 := hr.2.2.1.1.1
  obtain ⟨n1, n2⟩ := hr.n
  have ecn := hr.2.1.cntG
  have hcr := cntI_rng (gvn σ) (σ 9 0).toNat
  have hce := cntI_ex (gvn σ) (σ 9 0).toNat
  unfold I32 at hk hf hs
  unfold OP
  rw [hS]
  unfold f_X7_section f_X7_section_32
  simp (disch := omega) only [iL239, cV0, cR0_0, cR0_1, cR0_2, cR0_3, cR0_4, cR0_5, cV1, cR1_1, cR1_2, cR1_3, cR1_4, cR1_5, cR1_6, cR1_7, cI1_0, cI1_8, cP1_8, cI1_9, cP1_9, cV9, cR9_0, cR9_1, cV10, cV11, cV12, cR12_0, cR12_1, cR12_2, cR12_3, cR12_4, cR12_5, cR12_6, cV18, cR18_0, cR18_1, cR18_2, cR18_3, cR18_4, cI18_5, cP18_5, cI18_6, cP18_6, cV22, cR22_0, cR22_1, cI22_2, cP22_2, cI22_3, cP22_3, cI22_4, cP22_4, cV23, cR23_0, cR23_1, cR23_3, cR23_4, cR23_5, cR23_6, cR23_7, cR23_8, cR23_9, cR23_10, cI23_2, cP23_2, cR10_1, cI10_2, cR11_1, cI11_2, cL2, cS2, cL3, cS3, cL4, cS4, cL5, cS5, cL6, cS6, cL7, cS7, cL8, cS8, cL13, cS13, cL14, cS14, cL15, cS15, cL16, cS16, cL17, cS17, cL19, cS19, cL20, cS20, cL21, cS21, cL24, cS24, cL25, cS25, cL26, cS26, cL27, cS27, cL28, cS28, cL29, cS29, cL30, cS30, cL31, cS31, bV, bK, bI0, bI1, bI2, bI3, bI4, bI5, bI6, bI7, bI8, bI9, bI10, bR11, bR12, bR13, bP9, bP10, bL1, bS1, bL2, bS2, bL3, bS3, iI_0, iI_1, iI_neg, iL2, iL3, iL4, iL5, iL6, iL7, iL8, iL9, iL10, iL11, iL12, iL13, iL14, iL15, iL16, iL17, iL30, iL31, iL60, iL99, iL100, iL240, iL480, iL1000, iL1920, iL10000, iI_add, iI_sub, iI_mul, iI_div, iI_le, iI_lt, iI_eq, bd_s, k_hasSection hwk, k_isWithin, k_pathsGiven hr.1.1, iI_b2, rt0, rt1, e0, ecn]
  have hcg : -2147483648 ≤ cntG σ ∧ cntG σ < 2147483648 := by unfold cntG; omega
  rw [jle hcg.1 hcg.2 (by omega) (by omega)]
  by_cases c : exB (gvn σ) (σ 9 0).toNat = false ∧ (0 ≤ k ∧ k < σ 0 0 - 1) ∧ (1 ≤ f ∧ f ≤ 30) ∧ (1 ≤ s ∧ s ≤ 30)
  · have c0 := c
    obtain ⟨c1, c2, c3, c4⟩ := c
    have c5 : cntG σ ≤ 0 := hce.2 c1
    rw [if_pos c0, if_neg (fun z => z c2), if_neg (fun z => z c3), if_neg (fun z => z c4), if_pos c5]
    have eA : f_X3_setSection (A.x + 1) (iI k) (iI d) (iI f) (iI s) (CH h A κ) = some ((), CH h A (sg (sg (sg κ 1 k.toNat d) 2 (2 * k).toNat f) 2 (2 * k + 1).toNat s)) := by
      unfold f_X3_setSection
      simp (disch := omega) only [iL239, cV0, cR0_0, cR0_1, cR0_2, cR0_3, cR0_4, cR0_5, cV1, cR1_1, cR1_2, cR1_3, cR1_4, cR1_5, cR1_6, cR1_7, cI1_0, cI1_8, cP1_8, cI1_9, cP1_9, cV9, cR9_0, cR9_1, cV10, cV11, cV12, cR12_0, cR12_1, cR12_2, cR12_3, cR12_4, cR12_5, cR12_6, cV18, cR18_0, cR18_1, cR18_2, cR18_3, cR18_4, cI18_5, cP18_5, cI18_6, cP18_6, cV22, cR22_0, cR22_1, cI22_2, cP22_2, cI22_3, cP22_3, cI22_4, cP22_4, cV23, cR23_0, cR23_1, cR23_3, cR23_4, cR23_5, cR23_6, cR23_7, cR23_8, cR23_9, cR23_10, cI23_2, cP23_2, cR10_1, cI10_2, cR11_1, cI11_2, cL2, cS2, cL3, cS3, cL4, cS4, cL5, cS5, cL6, cS6, cL7, cS7, cL8, cS8, cL13, cS13, cL14, cS14, cL15, cS15, cL16, cS16, cL17, cS17, cL19, cS19, cL20, cS20, cL21, cS21, cL24, cS24, cL25, cS25, cL26, cS26, cL27, cS27, cL28, cS28, cL29, cS29, cL30, cS30, cL31, cS31, bV, bK, bI0, bI1, bI2, bI3, bI4, bI5, bI6, bI7, bI8, bI9, bI10, bR11, bR12, bR13, bP9, bP10, bL1, bS1, bL2, bS2, bL3, bS3]
      rw [show (2 * k).toNat = 2 * k.toNat by omega, show (2 * k + 1).toNat = 2 * k.toNat + 1 by omega]
      rfl
    simp (disch := omega) only [eA, iL239, cV0, cR0_0, cR0_1, cR0_2, cR0_3, cR0_4, cR0_5, cV1, cR1_1, cR1_2, cR1_3, cR1_4, cR1_5, cR1_6, cR1_7, cI1_0, cI1_8, cP1_8, cI1_9, cP1_9, cV9, cR9_0, cR9_1, cV10, cV11, cV12, cR12_0, cR12_1, cR12_2, cR12_3, cR12_4, cR12_5, cR12_6, cV18, cR18_0, cR18_1, cR18_2, cR18_3, cR18_4, cI18_5, cP18_5, cI18_6, cP18_6, cV22, cR22_0, cR22_1, cI22_2, cP22_2, cI22_3, cP22_3, cI22_4, cP22_4, cV23, cR23_0, cR23_1, cR23_3, cR23_4, cR23_5, cR23_6, cR23_7, cR23_8, cR23_9, cR23_10, cI23_2, cP23_2, cR10_1, cI10_2, cR11_1, cI11_2, cL2, cS2, cL3, cS3, cL4, cS4, cL5, cS5, cL6, cS6, cL7, cS7, cL8, cS8, cL13, cS13, cL14, cS14, cL15, cS15, cL16, cS16, cL17, cS17, cL19, cS19, cL20, cS20, cL21, cS21, cL24, cS24, cL25, cS25, cL26, cS26, cL27, cS27, cL28, cS28, cL29, cS29, cL30, cS30, cL31, cS31, bV, bK, bI0, bI1, bI2, bI3, bI4, bI5, bI6, bI7, bI8, bI9, bI10, bR11, bR12, bR13, bP9, bP10, bL1, bS1, bL2, bS2, bL3, bS3, bd_s, k_forget, rt1]
    refine ⟨iI 1, sg (sg (sg (sg κ 1 k.toNat d) 2 (2 * k).toNat f) 2 (2 * k + 1).toNat s) 55 0 0, sg (sg (sg σ 1 k.toNat d) 2 (2 * k).toNat f) 2 (2 * k + 1).toNat s, ?_, rfl, rfl⟩
    have hno : ∀ b : Nat, (b : Int) < σ 9 0 → σ 19 b = 0 := fun b hb => by
      have : gvn σ b = false := by
        cases hq : gvn σ b with
        | false => rfl
        | true => rw [exB_iff.2 ⟨b, by omega, hq⟩] at c1; cases c1
      simpa [gvn] using this
    have hE := (((hr.2.1.sg (f := 1) (by omega) k.toNat d).sg (f := 2) (by omega) (2 * k).toNat f).sg (f := 2) (by omega) (2 * k + 1).toNat s).sgL (f := 55) (by omega) 0 0
    refine hr.mk' hE (((hr.2.2.1.sg (f := 1) _ (by exact hd) (by omega)).sg (f := 2) _ (by exact c3) (by omega)).sg (f := 2) _ (by exact c4) (by omega)) hr.2.2.2.1 ?_ ?_ hr.1.2.2.1 (fun i => rfl) (fun i => rfl) (fun i => rfl) rfl (Or.inl rfl)
    · exact ⟨fun b h1 h2 => absurd (hno b h1) h2, hr.2.2.2.2.1.2⟩
    · intro b i h1 h2
      have h2' : κ 19 b ≠ 0 := h2
      have h1' : (b : Int) < κ 9 0 := h1
      rw [hr.e (f := 19) (by omega) (by omega)] at h2'
      rw [hr.e (f := 9) (by omega) (by omega)] at h1'
      exact absurd (hno b h1') h2'
  · rw [if_neg c]
    refine ⟨iI 0, κ, σ, hr, ?_, rfl⟩
    by_cases c2 : 0 ≤ k ∧ k < σ 0 0 - 1
    · rw [if_neg (fun z => z c2)]
      by_cases c3 : 1 ≤ f ∧ f ≤ 30
      · rw [if_neg (fun z => z c3)]
        by_cases c4 : 1 ≤ s ∧ s ≤ 30
        · rw [if_neg (fun z => z c4), if_neg (show ¬ cntG σ ≤ 0 from fun z => c ⟨hce.1 z, c2, c3, c4⟩)]
        · rw [if_pos c4]
      · rw [if_pos c3]
    · rw [if_pos c2]
theorem RLx.scr (hr : RLx h A κ σ) {κ' σ' : Sg} {l : List Nat} (hx : Ex l κ κ') (hl : ∀ f, f ∈ l → 42 ≤ f ∧ f < 55) (hk : KI h A κ' (ordF (κ 17) A.n)) (hc : cor σ' = cor σ) : RLx h A κ' σ' := by
  have hl2 : ∀ f, f ∈ l → 22 ≤ f := fun f hf => by have := hl f hf; omega
  have hcor := hx.cor hl2
  refine ⟨?_, (EQ.of_cor hcor).trans (hr.2.1.trans (EQ.of_cor hc.symm)), WB_eq hc hr.2.2.1, hr.2.2.2.1.of (cor_eq hc (by omega) _) (fun i => cor_eq hc (by omega) i), hr.2.2.2.2.1.corR hc, ?_⟩
  · rw [show κ' 17 = κ 17 from funext (fun i => cor_eq hcor (by omega) i)]; exact hk
  · have eR : RUN κ' = RUN κ := (EQ.of_cor hcor).run.RUN hk.1.1.1
    have e : ∀ f i, 55 ≤ f → κ' f i = κ f i := fun f i hf => hx f i (fun z => by have := hl f z; omega)
    unfold UP RC
    rw [eR, e 55 0 (by omega)]
    simp only [e 56 _ (by omega), e 57 _ (by omega), e 59 _ (by omega), e 60 _ (by omega), e 61 _ (by omega)]
    exact hr.2.2.2.2.2
theorem o_find (hr : RLx h A κ σ) (b : Int) (hb : I32 b) : OP h A κ σ h' m (f_X7_find A.x (iI b)) (f_X8_find m (iI b)) := by
  obtain ⟨f22, f23, hS⟩ := s_find (h := h') (m := m) hr.2.2.1 b hb
  obtain ⟨n1, n2⟩ := hr.n
  unfold I32 at hb
  unfold OP
  rw [hS]
  unfold f_X7_find f_X7_find_25
  simp (disch := omega) only [iL239, cV0, cR0_0, cR0_1, cR0_2, cR0_3, cR0_4, cR0_5, cV1, cR1_1, cR1_2, cR1_3, cR1_4, cR1_5, cR1_6, cR1_7, cI1_0, cI1_8, cP1_8, cI1_9, cP1_9, cV9, cR9_0, cR9_1, cV10, cV11, cV12, cR12_0, cR12_1, cR12_2, cR12_3, cR12_4, cR12_5, cR12_6, cV18, cR18_0, cR18_1, cR18_2, cR18_3, cR18_4, cI18_5, cP18_5, cI18_6, cP18_6, cV22, cR22_0, cR22_1, cI22_2, cP22_2, cI22_3, cP22_3, cI22_4, cP22_4, cV23, cR23_0, cR23_1, cR23_3, cR23_4, cR23_5, cR23_6, cR23_7, cR23_8, cR23_9, cR23_10, cI23_2, cP23_2, cR10_1, cI10_2, cR11_1, cI11_2, cL2, cS2, cL3, cS3, cL4, cS4, cL5, cS5, cL6, cS6, cL7, cS7, cL8, cS8, cL13, cS13, cL14, cS14, cL15, cS15, cL16, cS16, cL17, cS17, cL19, cS19, cL20, cS20, cL21, cS21, cL24, cS24, cL25, cS25, cL26, cS26, cL27, cS27, cL28, cS28, cL29, cS29, cL30, cS30, cL31, cS31, bV, bK, bI0, bI1, bI2, bI3, bI4, bI5, bI6, bI7, bI8, bI9, bI10, bR11, bR12, bR13, bP9, bP10, bL1, bS1, bL2, bS2, bL3, bS3, k_at hr.1.1.2.1, bd_s]
  have hcs : cor (sF (sF σ 22 f22) 23 f23) = cor σ := cor_sF2 σ f22 f23
  by_cases c : 0 ≤ b ∧ b < σ 9 0
  · have eat : atR A b = some (A.b b.toNat) := by unfold atR; rw [if_pos (by omega)]
    obtain ⟨υ, u1, u2, u3, u4⟩ := hr.1.find (b := b.toNat) (by omega)
    rw [if_pos c, eat, if_neg (by simp)]
    rw [hr.2.1.fnd] at u4
    simp (disch := omega) only [iL239, cV0, cR0_0, cR0_1, cR0_2, cR0_3, cR0_4, cR0_5, cV1, cR1_1, cR1_2, cR1_3, cR1_4, cR1_5, cR1_6, cR1_7, cI1_0, cI1_8, cP1_8, cI1_9, cP1_9, cV9, cR9_0, cR9_1, cV10, cV11, cV12, cR12_0, cR12_1, cR12_2, cR12_3, cR12_4, cR12_5, cR12_6, cV18, cR18_0, cR18_1, cR18_2, cR18_3, cR18_4, cI18_5, cP18_5, cI18_6, cP18_6, cV22, cR22_0, cR22_1, cI22_2, cP22_2, cI22_3, cP22_3, cI22_4, cP22_4, cV23, cR23_0, cR23_1, cR23_3, cR23_4, cR23_5, cR23_6, cR23_7, cR23_8, cR23_9, cR23_10, cI23_2, cP23_2, cR10_1, cI10_2, cR11_1, cI11_2, cL2, cS2, cL3, cS3, cL4, cS4, cL5, cS5, cL6, cS6, cL7, cS7, cL8, cS8, cL13, cS13, cL14, cS14, cL15, cS15, cL16, cS16, cL17, cS17, cL19, cS19, cL20, cS20, cL21, cS21, cL24, cS24, cL25, cS25, cL26, cS26, cL27, cS27, cL28, cS28, cL29, cS29, cL30, cS30, cL31, cS31, bV, bK, bI0, bI1, bI2, bI3, bI4, bI5, bI6, bI7, bI8, bI9, bI10, bR11, bR12, bR13, bP9, bP10, bL1, bS1, bL2, bS2, bL3, bS3, u4, bd_s]
    exact ⟨_, υ, _, hr.scr u1 (by decide) u2 hcs, rfl, rfl⟩
  · have eat : atR A b = none := by unfold atR; rw [if_neg (by omega)]
    rw [if_neg c, eat, if_pos rfl]
    refine ⟨_, κ, _, hr.scr (Ex.refl [42] κ) (by decide) hr.1 hcs, ?_, rfl⟩
    rw [iI_m1]; rfl
theorem o_give (hr : RLx h A κ σ) (b : Int) (hb : I32 b) : OP h A κ σ h' m (f_X7_give A.x (iI b)) (f_X8_give m (iI b)) := by
  obtain ⟨n1, n2⟩ := hr.n
  unfold I32 at hb
  unfold OP
  unfold f_X7_give f_X7_give_25
  simp (disch := omega) only [iL239, cV0, cR0_0, cR0_1, cR0_2, cR0_3, cR0_4, cR0_5, cV1, cR1_1, cR1_2, cR1_3, cR1_4, cR1_5, cR1_6, cR1_7, cI1_0, cI1_8, cP1_8, cI1_9, cP1_9, cV9, cR9_0, cR9_1, cV10, cV11, cV12, cR12_0, cR12_1, cR12_2, cR12_3, cR12_4, cR12_5, cR12_6, cV18, cR18_0, cR18_1, cR18_2, cR18_3, cR18_4, cI18_5, cP18_5, cI18_6, cP18_6, cV22, cR22_0, cR22_1, cI22_2, cP22_2, cI22_3, cP22_3, cI22_4, cP22_4, cV23, cR23_0, cR23_1, cR23_3, cR23_4, cR23_5, cR23_6, cR23_7, cR23_8, cR23_9, cR23_10, cI23_2, cP23_2, cR10_1, cI10_2, cR11_1, cI11_2, cL2, cS2, cL3, cS3, cL4, cS4, cL5, cS5, cL6, cS6, cL7, cS7, cL8, cS8, cL13, cS13, cL14, cS14, cL15, cS15, cL16, cS16, cL17, cS17, cL19, cS19, cL20, cS20, cL21, cS21, cL24, cS24, cL25, cS25, cL26, cS26, cL27, cS27, cL28, cS28, cL29, cS29, cL30, cS30, cL31, cS31, bV, bK, bI0, bI1, bI2, bI3, bI4, bI5, bI6, bI7, bI8, bI9, bI10, bR11, bR12, bR13, bP9, bP10, bL1, bS1, bL2, bS2, bL3, bS3, k_at hr.1.1.2.1, bd_s]
  by_cases c : 0 ≤ b ∧ b < σ 9 0
  · obtain ⟨B, rfl⟩ : ∃ B : Nat, b = B := ⟨b.toNat, by omega⟩
    obtain ⟨f22, f23, hS⟩ := s_give (h := h') (m := m) hr.2.2.1 B c.2
    have eat : atR A (B : Int) = some (A.b B) := by unfold atR; rw [if_pos (by omega)]; rfl
    obtain ⟨υ, u1, u2, u3, u4⟩ := hr.1.find (b := B) (by omega)
    rw [hS, eat, if_neg (by simp)]
    have ef := hr.2.1.fnd B
    simp (disch := omega) only [iL239, cV0, cR0_0, cR0_1, cR0_2, cR0_3, cR0_4, cR0_5, cV1, cR1_1, cR1_2, cR1_3, cR1_4, cR1_5, cR1_6, cR1_7, cI1_0, cI1_8, cP1_8, cI1_9, cP1_9, cV9, cR9_0, cR9_1, cV10, cV11, cV12, cR12_0, cR12_1, cR12_2, cR12_3, cR12_4, cR12_5, cR12_6, cV18, cR18_0, cR18_1, cR18_2, cR18_3, cR18_4, cI18_5, cP18_5, cI18_6, cP18_6, cV22, cR22_0, cR22_1, cI22_2, cP22_2, cI22_3, cP22_3, cI22_4, cP22_4, cV23, cR23_0, cR23_1, cR23_3, cR23_4, cR23_5, cR23_6, cR23_7, cR23_8, cR23_9, cR23_10, cI23_2, cP23_2, cR10_1, cI10_2, cR11_1, cI11_2, cL2, cS2, cL3, cS3, cL4, cS4, cL5, cS5, cL6, cS6, cL7, cS7, cL8, cS8, cL13, cS13, cL14, cS14, cL15, cS15, cL16, cS16, cL17, cS17, cL19, cS19, cL20, cS20, cL21, cS21, cL24, cS24, cL25, cS25, cL26, cS26, cL27, cS27, cL28, cS28, cL29, cS29, cL30, cS30, cL31, cS31, bV, bK, bI0, bI1, bI2, bI3, bI4, bI5, bI6, bI7, bI8, bI9, bI10, bR11, bR12, bR13, bP9, bP10, bL1, bS1, bL2, bS2, bL3, bS3, u4, bd_s]
    rw [iI_m1]
    cases hf : fnd κ B with
    | none =>
      rw [← ef, hf]
      simp only [if_true]
      refine ⟨iI 0, υ, _, hr.scr u1 (by decide) u2 (cor_sF2 σ f22 f23), ?_, rfl⟩
      rw [iI_0, rt0]
    | some e =>
      rw [← ef, hf]
      have hfe := fnd_ok hr.1.1.1.1 (b := B) (by omega) hf
      have hne : ¬ (iI (e : Int) = iI (-1)) := by rw [iI_eq (by omega) (by omega) (by omega) (by omega)]; omega
      simp only [if_neg hne]
      obtain ⟨t1, t2⟩ := hr.1.take u2 u1 (by omega) hf (u3 e hf)
      simp (disch := omega) only [iL239, cV0, cR0_0, cR0_1, cR0_2, cR0_3, cR0_4, cR0_5, cV1, cR1_1, cR1_2, cR1_3, cR1_4, cR1_5, cR1_6, cR1_7, cI1_0, cI1_8, cP1_8, cI1_9, cP1_9, cV9, cR9_0, cR9_1, cV10, cV11, cV12, cR12_0, cR12_1, cR12_2, cR12_3, cR12_4, cR12_5, cR12_6, cV18, cR18_0, cR18_1, cR18_2, cR18_3, cR18_4, cI18_5, cP18_5, cI18_6, cP18_6, cV22, cR22_0, cR22_1, cI22_2, cP22_2, cI22_3, cP22_3, cI22_4, cP22_4, cV23, cR23_0, cR23_1, cR23_3, cR23_4, cR23_5, cR23_6, cR23_7, cR23_8, cR23_9, cR23_10, cI23_2, cP23_2, cR10_1, cI10_2, cR11_1, cI11_2, cL2, cS2, cL3, cS3, cL4, cS4, cL5, cS5, cL6, cS6, cL7, cS7, cL8, cS8, cL13, cS13, cL14, cS14, cL15, cS15, cL16, cS16, cL17, cS17, cL19, cS19, cL20, cS20, cL21, cS21, cL24, cS24, cL25, cS25, cL26, cS26, cL27, cS27, cL28, cS28, cL29, cS29, cL30, cS30, cL31, cS31, bV, bK, bI0, bI1, bI2, bI3, bI4, bI5, bI6, bI7, bI8, bI9, bI10, bR11, bR12, bR13, bP9, bP10, bL1, bS1, bL2, bS2, bL3, bS3, k_takePath (show B < A.n by omega) (show B < 16 by omega), bd_s, k_forget, iI_1, rt1]
      refine ⟨iI 1, sg (tkS υ B) 55 0 0, _, ?_, rfl, rfl⟩
      have hwg : WB (giv σ B e) := WB_giv hr.2.2.1 c.2 (by rw [← ef]; exact hf)
      have cs := cor_sF2 (giv σ B e) f22 f23
      have x1 : Ex [55] (tkS υ B) (sg (tkS υ B) 55 0 0) := (Ex.refl _ _).sg (by decide) _ _
      have hE1 : EQ (giv κ B e) (giv σ B e) := hr.2.1.giv hr.1.1.1.1 hr.2.2.1.1 B e (by omega)
      refine ⟨?_, (EQ.ex x1 (by decide)).trans (t2.trans (hE1.trans (EQ.of_cor cs.symm))), WB_eq cs hwg, ?_, (hr.2.2.2.2.1.givR hr.2.2.1 c.2 (by rw [← ef]; exact hf)).corR cs, Or.inl rfl⟩
      · rw [show (sg (tkS υ B) 55 0 0) 17 = κ 17 from funext (fun i => by rw [sg_f _ _ _ _ (by decide), tkS_k (by decide) (by decide) (by decide), u1 17 _ (by decide)])]
        exact t1.ex x1 (by decide)
      · exact hr.2.2.2.1.of (by rw [cor_eq cs (by omega), giv_k _ _ _ _ (by omega)]) (fun i => by rw [cor_eq cs (by omega), giv_k _ _ _ _ (by omega)])
  · have eat : atR A b = none := by unfold atR; rw [if_neg (by omega)]
    rw [eat, if_pos rfl]
    refine ⟨iI 0, κ, σ, hr, by rw [iI_0, rt0], ?_⟩
    unfold f_X8_give f_X8_give_16
    simp (disch := omega) only [rcv_M, mR0, mS0, mR1, mL1, mS1, mR2, mL2, mS2, mR3, mL3, mS3, mR4, mS4, mR5, mS5, mR6, mL6, mS6, mR7, mL7, mS7, mR8, mL8, mS8, mR9, mS9, mR10, mL10, mS10, mR11, mL11, mS11, mR12, mL12, mS12, mR13, mL13, mS13, mR14, mL14, mS14, mR15, mL15, mS15, mR16, mL16, mS16, mR17, mL17, mS17, mR18, mL18, mS18, mR19, mL19, mS19, mR20, mL20, mS20, mR21, mL21, mS21, mR22, mL22, mS22, mR23, mL23, mS23, mR24, mL24, mS24, mR25, mL25, mS25, mR26, mL26, mS26, mR27, mL27, mS27, mR28, mL28, mS28, mR29, mL29, mS29, mR30, mL30, mS30, mR31, mL31, mS31, mR32, mL32, mS32, mR33, mL33, mS33, iI_0, iI_1, iI_neg, iL2, iL3, iL4, iL5, iL6, iL7, iL8, iL9, iL10, iL11, iL12, iL13, iL14, iL15, iL16, iL17, iL30, iL31, iL60, iL99, iL100, iL240, iL480, iL1000, iL1920, iL10000, iI_add, iI_sub, iI_mul, iI_div, iI_le, iI_lt, iI_eq, bd_s, s_isBid hr.2.2.1.1, iI_b2, c, and_self, not_true_eq_false, not_false_eq_true, if_true, if_false, and_true, true_and, rt0]
theorem o_drop (hr : RLx h A κ σ) (b : Int) (hb : I32 b) : OP h A κ σ h' m (f_X7_drop A.x (iI b)) (f_X8_drop m (iI b)) := by
  obtain ⟨n1, n2⟩ := hr.n
  have hS := s_drop (h := h') (m := m) hr.2.2.1.1 b hb
  unfold I32 at hb
  unfold OP
  rw [hS]
  unfold f_X7_drop f_X7_drop_20
  simp (disch := omega) only [iL239, cV0, cR0_0, cR0_1, cR0_2, cR0_3, cR0_4, cR0_5, cV1, cR1_1, cR1_2, cR1_3, cR1_4, cR1_5, cR1_6, cR1_7, cI1_0, cI1_8, cP1_8, cI1_9, cP1_9, cV9, cR9_0, cR9_1, cV10, cV11, cV12, cR12_0, cR12_1, cR12_2, cR12_3, cR12_4, cR12_5, cR12_6, cV18, cR18_0, cR18_1, cR18_2, cR18_3, cR18_4, cI18_5, cP18_5, cI18_6, cP18_6, cV22, cR22_0, cR22_1, cI22_2, cP22_2, cI22_3, cP22_3, cI22_4, cP22_4, cV23, cR23_0, cR23_1, cR23_3, cR23_4, cR23_5, cR23_6, cR23_7, cR23_8, cR23_9, cR23_10, cI23_2, cP23_2, cR10_1, cI10_2, cR11_1, cI11_2, cL2, cS2, cL3, cS3, cL4, cS4, cL5, cS5, cL6, cS6, cL7, cS7, cL8, cS8, cL13, cS13, cL14, cS14, cL15, cS15, cL16, cS16, cL17, cS17, cL19, cS19, cL20, cS20, cL21, cS21, cL24, cS24, cL25, cS25, cL26, cS26, cL27, cS27, cL28, cS28, cL29, cS29, cL30, cS30, cL31, cS31, bV, bK, bI0, bI1, bI2, bI3, bI4, bI5, bI6, bI7, bI8, bI9, bI10, bR11, bR12, bR13, bP9, bP10, bL1, bS1, bL2, bS2, bL3, bS3, iI_0, iI_1, iI_neg, iL2, iL3, iL4, iL5, iL6, iL7, iL8, iL9, iL10, iL11, iL12, iL13, iL14, iL15, iL16, iL17, iL30, iL31, iL60, iL99, iL100, iL240, iL480, iL1000, iL1920, iL10000, iI_add, iI_sub, iI_mul, iI_div, iI_le, iI_lt, iI_eq, bd_s, k_at hr.1.1.2.1, rt0]
  by_cases c : 0 ≤ b ∧ b < σ 9 0
  · have eat : atR A b = some (A.b b.toNat) := by unfold atR; rw [if_pos (by omega)]
    have h19 := (hr.1.1.1.1.bid (b := b.toNat) (by omega)).2.2.2.2.2.2.2.2.2
    have e19 := hr.e (f := 19) (by omega) (by omega) b.toNat
    rw [eat, if_neg (by simp)]
    simp (disch := omega) only [iL239, cV0, cR0_0, cR0_1, cR0_2, cR0_3, cR0_4, cR0_5, cV1, cR1_1, cR1_2, cR1_3, cR1_4, cR1_5, cR1_6, cR1_7, cI1_0, cI1_8, cP1_8, cI1_9, cP1_9, cV9, cR9_0, cR9_1, cV10, cV11, cV12, cR12_0, cR12_1, cR12_2, cR12_3, cR12_4, cR12_5, cR12_6, cV18, cR18_0, cR18_1, cR18_2, cR18_3, cR18_4, cI18_5, cP18_5, cI18_6, cP18_6, cV22, cR22_0, cR22_1, cI22_2, cP22_2, cI22_3, cP22_3, cI22_4, cP22_4, cV23, cR23_0, cR23_1, cR23_3, cR23_4, cR23_5, cR23_6, cR23_7, cR23_8, cR23_9, cR23_10, cI23_2, cP23_2, cR10_1, cI10_2, cR11_1, cI11_2, cL2, cS2, cL3, cS3, cL4, cS4, cL5, cS5, cL6, cS6, cL7, cS7, cL8, cS8, cL13, cS13, cL14, cS14, cL15, cS15, cL16, cS16, cL17, cS17, cL19, cS19, cL20, cS20, cL21, cS21, cL24, cS24, cL25, cS25, cL26, cS26, cL27, cS27, cL28, cS28, cL29, cS29, cL30, cS30, cL31, cS31, bV, bK, bI0, bI1, bI2, bI3, bI4, bI5, bI6, bI7, bI8, bI9, bI10, bR11, bR12, bR13, bP9, bP10, bL1, bS1, bL2, bS2, bL3, bS3, iI_0, iI_1, iI_neg, iL2, iL3, iL4, iL5, iL6, iL7, iL8, iL9, iL10, iL11, iL12, iL13, iL14, iL15, iL16, iL17, iL30, iL31, iL60, iL99, iL100, iL240, iL480, iL1000, iL1920, iL10000, iI_add, iI_sub, iI_mul, iI_div, iI_le, iI_lt, iI_eq, bd_s]
    by_cases c1 : σ 19 b.toNat = 1
    · have c0 : (0 ≤ b ∧ b < σ 9 0) ∧ σ 19 b.toNat = 1 := ⟨c, c1⟩
      rw [if_pos c0, if_neg (by omega)]
      simp (disch := omega) only [iL239, cV0, cR0_0, cR0_1, cR0_2, cR0_3, cR0_4, cR0_5, cV1, cR1_1, cR1_2, cR1_3, cR1_4, cR1_5, cR1_6, cR1_7, cI1_0, cI1_8, cP1_8, cI1_9, cP1_9, cV9, cR9_0, cR9_1, cV10, cV11, cV12, cR12_0, cR12_1, cR12_2, cR12_3, cR12_4, cR12_5, cR12_6, cV18, cR18_0, cR18_1, cR18_2, cR18_3, cR18_4, cI18_5, cP18_5, cI18_6, cP18_6, cV22, cR22_0, cR22_1, cI22_2, cP22_2, cI22_3, cP22_3, cI22_4, cP22_4, cV23, cR23_0, cR23_1, cR23_3, cR23_4, cR23_5, cR23_6, cR23_7, cR23_8, cR23_9, cR23_10, cI23_2, cP23_2, cR10_1, cI10_2, cR11_1, cI11_2, cL2, cS2, cL3, cS3, cL4, cS4, cL5, cS5, cL6, cS6, cL7, cS7, cL8, cS8, cL13, cS13, cL14, cS14, cL15, cS15, cL16, cS16, cL17, cS17, cL19, cS19, cL20, cS20, cL21, cS21, cL24, cS24, cL25, cS25, cL26, cS26, cL27, cS27, cL28, cS28, cL29, cS29, cL30, cS30, cL31, cS31, bV, bK, bI0, bI1, bI2, bI3, bI4, bI5, bI6, bI7, bI8, bI9, bI10, bR11, bR12, bR13, bP9, bP10, bL1, bS1, bL2, bS2, bL3, bS3, bd_s, k_forget, rt1]
      refine ⟨iI 1, sg (sg κ 19 b.toNat 0) 55 0 0, sg σ 19 b.toNat 0, ?_, rfl, rfl⟩
      have x1 : Ex [55] (sg κ 19 b.toNat 0) (sg (sg κ 19 b.toNat 0) 55 0 0) := (Ex.refl _ _).sg (by decide) _ _
      exact ⟨(hr.1.drop b.toNat).ex x1 (by decide), (hr.2.1.sg19 b.toNat).sgL (f := 55) (by omega) 0 0, WB_19 hr.2.2.1 _, hr.2.2.2.1, hr.2.2.2.2.1.d19 _, Or.inl rfl⟩
    · have c0 : ¬ ((0 ≤ b ∧ b < σ 9 0) ∧ σ 19 b.toNat = 1) := fun z => c1 z.2
      rw [if_neg c0, if_pos (by omega)]
      exact ⟨iI 0, κ, σ, hr, rfl, rfl⟩
  · have eat : atR A b = none := by unfold atR; rw [if_neg (by omega)]
    rw [eat, if_pos rfl, if_neg (fun z => c z.1)]
    exact ⟨iI 0, κ, σ, hr, rfl, rfl⟩
theorem o_path (hr : RLx h A κ σ) (b s : Int) (hb : I32 b) (hs : I32 s) : OP h A κ σ h' m (f_X7_path A.x (iI b) (iI s)) (f_X8_path m (iI b) (iI s)) := by
  obtain ⟨n1, n2⟩ := hr.n
  have hS := s_path (h := h') (m := m) hr.2.2.1 b s hb hs
  have hwk := hr.1.1.1.1
  unfold I32 at hb hs
  unfold OP
  rw [hS]
  unfold f_X7_path f_X7_path_20 f_X7_path_63
  simp (disch := omega) only [iL239, cV0, cR0_0, cR0_1, cR0_2, cR0_3, cR0_4, cR0_5, cV1, cR1_1, cR1_2, cR1_3, cR1_4, cR1_5, cR1_6, cR1_7, cI1_0, cI1_8, cP1_8, cI1_9, cP1_9, cV9, cR9_0, cR9_1, cV10, cV11, cV12, cR12_0, cR12_1, cR12_2, cR12_3, cR12_4, cR12_5, cR12_6, cV18, cR18_0, cR18_1, cR18_2, cR18_3, cR18_4, cI18_5, cP18_5, cI18_6, cP18_6, cV22, cR22_0, cR22_1, cI22_2, cP22_2, cI22_3, cP22_3, cI22_4, cP22_4, cV23, cR23_0, cR23_1, cR23_3, cR23_4, cR23_5, cR23_6, cR23_7, cR23_8, cR23_9, cR23_10, cI23_2, cP23_2, cR10_1, cI10_2, cR11_1, cI11_2, cL2, cS2, cL3, cS3, cL4, cS4, cL5, cS5, cL6, cS6, cL7, cS7, cL8, cS8, cL13, cS13, cL14, cS14, cL15, cS15, cL16, cS16, cL17, cS17, cL19, cS19, cL20, cS20, cL21, cS21, cL24, cS24, cL25, cS25, cL26, cS26, cL27, cS27, cL28, cS28, cL29, cS29, cL30, cS30, cL31, cS31, bV, bK, bI0, bI1, bI2, bI3, bI4, bI5, bI6, bI7, bI8, bI9, bI10, bR11, bR12, bR13, bP9, bP10, bL1, bS1, bL2, bS2, bL3, bS3, iI_0, iI_1, iI_neg, iL2, iL3, iL4, iL5, iL6, iL7, iL8, iL9, iL10, iL11, iL12, iL13, iL14, iL15, iL16, iL17, iL30, iL31, iL60, iL99, iL100, iL240, iL480, iL1000, iL1920, iL10000, iI_add, iI_sub, iI_mul, iI_div, iI_le, iI_lt, iI_eq, bd_s, k_at hr.1.1.2.1]
  by_cases c : 0 ≤ b ∧ b < σ 9 0
  · obtain ⟨B, rfl⟩ : ∃ B : Nat, b = B := ⟨b.toNat, by omega⟩
    have eat : atR A (B : Int) = some (A.b B) := by unfold atR; rw [if_pos (by omega)]; rfl
    have h19 := (hwk.bid (b := B) (by omega)).2.2.2.2.2.2.2.2.2
    have e19 := hr.e (f := 19) (by omega) (by omega) B
    have hlg := lgs_rng hwk (b := B) (by omega)
    have hl1 := hr.1.1.1.lgs (b := B) (by rw [hr.1.1.2.2]; omega)
    rw [eat, if_neg (by simp)]
    simp (disch := omega) only [iL239, cV0, cR0_0, cR0_1, cR0_2, cR0_3, cR0_4, cR0_5, cV1, cR1_1, cR1_2, cR1_3, cR1_4, cR1_5, cR1_6, cR1_7, cI1_0, cI1_8, cP1_8, cI1_9, cP1_9, cV9, cR9_0, cR9_1, cV10, cV11, cV12, cR12_0, cR12_1, cR12_2, cR12_3, cR12_4, cR12_5, cR12_6, cV18, cR18_0, cR18_1, cR18_2, cR18_3, cR18_4, cI18_5, cP18_5, cI18_6, cP18_6, cV22, cR22_0, cR22_1, cI22_2, cP22_2, cI22_3, cP22_3, cI22_4, cP22_4, cV23, cR23_0, cR23_1, cR23_3, cR23_4, cR23_5, cR23_6, cR23_7, cR23_8, cR23_9, cR23_10, cI23_2, cP23_2, cR10_1, cI10_2, cR11_1, cI11_2, cL2, cS2, cL3, cS3, cL4, cS4, cL5, cS5, cL6, cS6, cL7, cS7, cL8, cS8, cL13, cS13, cL14, cS14, cL15, cS15, cL16, cS16, cL17, cS17, cL19, cS19, cL20, cS20, cL21, cS21, cL24, cS24, cL25, cS25, cL26, cS26, cL27, cS27, cL28, cS28, cL29, cS29, cL30, cS30, cL31, cS31, bV, bK, bI0, bI1, bI2, bI3, bI4, bI5, bI6, bI7, bI8, bI9, bI10, bR11, bR12, bR13, bP9, bP10, bL1, bS1, bL2, bS2, bL3, bS3, iI_0, iI_1, iI_neg, iL2, iL3, iL4, iL5, iL6, iL7, iL8, iL9, iL10, iL11, iL12, iL13, iL14, iL15, iL16, iL17, iL30, iL31, iL60, iL99, iL100, iL240, iL480, iL1000, iL1920, iL10000, iI_add, iI_sub, iI_mul, iI_div, iI_le, iI_lt, iI_eq, bd_s, Int.toNat_natCast]
    by_cases c1 : σ 19 B = 0
    · have c0 : ¬ ((0 ≤ (B : Int) ∧ (B : Int) < σ 9 0) ∧ σ 19 B ≠ 0) := fun z => z.2 c1
      rw [if_neg c0, if_pos (by omega)]
      exact ⟨_, κ, σ, hr, rfl, rfl⟩
    · have c0 : (0 ≤ (B : Int) ∧ (B : Int) < σ 9 0) ∧ σ 19 B ≠ 0 := ⟨c, c1⟩
      rw [if_pos c0, if_neg (by omega)]
      have esp : spS κ B s = spS σ B s := by unfold spS; rw [hr.e (f := 11) (by omega) (by omega), hr.e (f := 12) (by omega) (by omega)]
      have elg := hr.2.1.lgs B
      have hsr : -1 ≤ spS κ B s ∧ spS κ B s ≤ 7 := by
        by_cases q : spS κ B s = -1
        · omega
        · have := spS_some q; omega
      simp (disch := omega) only [iL239, cV0, cR0_0, cR0_1, cR0_2, cR0_3, cR0_4, cR0_5, cV1, cR1_1, cR1_2, cR1_3, cR1_4, cR1_5, cR1_6, cR1_7, cI1_0, cI1_8, cP1_8, cI1_9, cP1_9, cV9, cR9_0, cR9_1, cV10, cV11, cV12, cR12_0, cR12_1, cR12_2, cR12_3, cR12_4, cR12_5, cR12_6, cV18, cR18_0, cR18_1, cR18_2, cR18_3, cR18_4, cI18_5, cP18_5, cI18_6, cP18_6, cV22, cR22_0, cR22_1, cI22_2, cP22_2, cI22_3, cP22_3, cI22_4, cP22_4, cV23, cR23_0, cR23_1, cR23_3, cR23_4, cR23_5, cR23_6, cR23_7, cR23_8, cR23_9, cR23_10, cI23_2, cP23_2, cR10_1, cI10_2, cR11_1, cI11_2, cL2, cS2, cL3, cS3, cL4, cS4, cL5, cS5, cL6, cS6, cL7, cS7, cL8, cS8, cL13, cS13, cL14, cS14, cL15, cS15, cL16, cS16, cL17, cS17, cL19, cS19, cL20, cS20, cL21, cS21, cL24, cS24, cL25, cS25, cL26, cS26, cL27, cS27, cL28, cS28, cL29, cS29, cL30, cS30, cL31, cS31, bV, bK, bI0, bI1, bI2, bI3, bI4, bI5, bI6, bI7, bI8, bI9, bI10, bR11, bR12, bR13, bP9, bP10, bL1, bS1, bL2, bS2, bL3, bS3, iI_0, iI_1, iI_neg, iL2, iL3, iL4, iL5, iL6, iL7, iL8, iL9, iL10, iL11, iL12, iL13, iL14, iL15, iL16, iL17, iL30, iL31, iL60, iL99, iL100, iL240, iL480, iL1000, iL1920, iL10000, iI_add, iI_sub, iI_mul, iI_div, iI_le, iI_lt, iI_eq, bd_s, k_stepAtStation hwk, k_steps hwk]
      refine ⟨_, κ, σ, hr, ?_, rfl⟩
      by_cases q : spS κ B s = -1
      · rw [if_pos q]
        have hnone : srch (fun i => decide (stn σ B i = s)) 0 ((lgs σ B).toNat + 1) = none := by
          refine srch_none.2 (fun j _ hj => ?_)
          simp only [decide_eq_false_iff_not]
          intro e
          have := spS_stn (κ := σ) (b := B) (i := j) (by omega) (by omega)
          rw [e] at this
          omega
        rw [hnone]
        rfl
      · rw [if_neg q]
        obtain ⟨q1, q2, q3⟩ := spS_some q
        have hsome : srch (fun i => decide (stn σ B i = s)) 0 ((lgs σ B).toNat + 1) = some (spS κ B s).toNat := by
          refine srch_some.2 ⟨Nat.zero_le _, by omega, ?_, fun k _ hk => ?_⟩
          · simp only [decide_eq_true_eq]
            rw [show (((spS κ B s).toNat : Nat) : Int) = spS κ B s by omega, ← hr.2.1.stn]
            exact q3
          · simp only [decide_eq_false_iff_not]
            intro e
            have := spS_stn (κ := σ) (b := B) (i := k) (by omega) (by omega)
            rw [e] at this
            omega
        rw [hsome]
        show _ = some (iI (lv σ B (((spS κ B s).toNat : Nat) : Int)), CH h A κ)
        rw [show (((spS κ B s).toNat : Nat) : Int) = spS κ B s by omega]
        by_cases q4 : spS κ B s = lgs κ B
        · rw [if_pos q4, q4, hr.1.2.1 B _ (by rw [hr.1.1.2.2]; omega) (by omega) hl1 (Int.le_refl _)]
          have hlv : lv κ B (lgs κ B - 1) = lv σ B (lgs κ B - 1) := hr.2.1.2 B _ (by rw [hr.1.1.2.2]; omega) (by omega) (by omega) (by omega)
          have e3 := (hr.2.2.2.2.1.1 B c.2 c1).1
          rw [← elg] at e3
          rw [e3]
          unfold cmT
          rw [hlv, hr.2.1.lng]
          rfl
        · rw [if_neg q4, hr.2.1.2 B _ (by rw [hr.1.1.2.2]; omega) (by omega) q1 (by omega)]
          rfl
  · have eat : atR A b = none := by unfold atR; rw [if_neg (by omega)]
    rw [eat, if_pos rfl, if_neg (fun z => c z.1)]
    exact ⟨_, κ, σ, hr, rfl, rfl⟩
theorem o_count (hr : RLx h A κ σ) (w : Int) (hww : I32 w) : OP h A κ σ h' m (f_X7_count A.x (iI w)) (f_X8_count m (iI w)) := by
  obtain ⟨n1, n2⟩ := hr.n
  have hS := s_count (h := h') (m := m) hr.2.2.1.1 w hww
  unfold I32 at hww
  unfold OP
  rw [hS]
  refine ⟨_, κ, σ, hr, ?_, rfl⟩
  unfold f_X7_count
  simp (disch := omega) only [iL239, cV0, cR0_0, cR0_1, cR0_2, cR0_3, cR0_4, cR0_5, cV1, cR1_1, cR1_2, cR1_3, cR1_4, cR1_5, cR1_6, cR1_7, cI1_0, cI1_8, cP1_8, cI1_9, cP1_9, cV9, cR9_0, cR9_1, cV10, cV11, cV12, cR12_0, cR12_1, cR12_2, cR12_3, cR12_4, cR12_5, cR12_6, cV18, cR18_0, cR18_1, cR18_2, cR18_3, cR18_4, cI18_5, cP18_5, cI18_6, cP18_6, cV22, cR22_0, cR22_1, cI22_2, cP22_2, cI22_3, cP22_3, cI22_4, cP22_4, cV23, cR23_0, cR23_1, cR23_3, cR23_4, cR23_5, cR23_6, cR23_7, cR23_8, cR23_9, cR23_10, cI23_2, cP23_2, cR10_1, cI10_2, cR11_1, cI11_2, cL2, cS2, cL3, cS3, cL4, cS4, cL5, cS5, cL6, cS6, cL7, cS7, cL8, cS8, cL13, cS13, cL14, cS14, cL15, cS15, cL16, cS16, cL17, cS17, cL19, cS19, cL20, cS20, cL21, cS21, cL24, cS24, cL25, cS25, cL26, cS26, cL27, cS27, cL28, cS28, cL29, cS29, cL30, cS30, cL31, cS31, bV, bK, bI0, bI1, bI2, bI3, bI4, bI5, bI6, bI7, bI8, bI9, bI10, bR11, bR12, bR13, bP9, bP10, bL1, bS1, bL2, bS2, bL3, bS3, iI_0, iI_1, iI_neg, iL2, iL3, iL4, iL5, iL6, iL7, iL8, iL9, iL10, iL11, iL12, iL13, iL14, iL15, iL16, iL17, iL30, iL31, iL60, iL99, iL100, iL240, iL480, iL1000, iL1920, iL10000, iI_add, iI_sub, iI_mul, iI_div, iI_le, iI_lt, iI_eq, bd_s, k_size, k_pathsGiven hr.1.1, k_worthsGiven hr.1.1, rtI]
  unfold cntS
  rw [hr.e (f := 0) (by omega) (by omega), hr.e (f := 5) (by omega) (by omega), hr.e (f := 4) (by omega) (by omega), hr.2.1.cntG, hr.2.1.sumW, n1]
  (repeat' split) <;> rfl
end
