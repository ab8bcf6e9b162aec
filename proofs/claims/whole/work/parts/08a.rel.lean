/-! both states beside each other -/
def inR (f i : Nat) : Prop := match f with
  | 0 => i = 0 | 1 => True | 2 => i < 16 | 3 => i < 8 | 4 => i = 0 | 5 => i = 0 | 6 => i < 10 | 7 => i < 10 | 8 => i < 10 | 9 => i = 0 | 20 => i < 128 | 21 => i < 128 | _ => i < 16
def okF (f : Nat) (v : Int) : Prop := match f with
  | 0 => 2 ≤ v ∧ v ≤ 8 | 1 => v = 0 ∨ v = 1 | 2 => 1 ≤ v ∧ v ≤ 30 | 3 => 0 ≤ v ∧ v ≤ 9 | 4 => 0 ≤ v ∧ v ≤ 9 | 5 => 0 ≤ v ∧ v ≤ 10 | 6 => 0 ≤ v ∧ v ≤ 7 | 7 => 0 ≤ v ∧ v ≤ 480 | 8 => 0 ≤ v ∧ v ≤ 480
  | 9 => 0 ≤ v ∧ v ≤ 16 | 10 => 0 ≤ v ∧ v ≤ 5 | 11 => 0 ≤ v ∧ v ≤ 7 | 12 => 0 ≤ v ∧ v ≤ 7 | 13 => 0 ≤ v ∧ v ≤ 1 | 14 => 0 ≤ v ∧ v ≤ 239 | 15 => 0 ≤ v ∧ v ≤ 239 | 16 => 0 ≤ v ∧ v ≤ 1000 | 17 => 0 ≤ v ∧ v ≤ 99 | 18 => -1 ≤ v ∧ v ≤ 15 | 19 => v = 0 ∨ v = 1
  | 20 => 0 ≤ v ∧ v ≤ 239 | 21 => 0 ≤ v ∧ v ≤ 60 | _ => True
theorem WF.all {σ : Sg} (h : WF σ) : ∀ f i, inR f i → okF f (σ f i) := by
  obtain ⟨q0, q4, q5, q9, q1, q2, q3, q6, q10, q20⟩ := h
  intro f i hi
  match f, hi with
  | 0, hi => cases (show i = 0 from hi); exact q0
  | 1, _ => exact q1 i
  | 2, hi => exact q2 i hi
  | 3, hi => exact q3 i hi
  | 4, hi => cases (show i = 0 from hi); exact q4
  | 5, hi => cases (show i = 0 from hi); exact q5
  | 6, hi => exact (q6 i hi).1
  | 7, hi => exact (q6 i hi).2.1
  | 8, hi => exact (q6 i hi).2.2
  | 9, hi => cases (show i = 0 from hi); exact q9
  | 10, hi => exact (q10 i hi).1
  | 11, hi => exact (q10 i hi).2.1
  | 12, hi => exact (q10 i hi).2.2.1
  | 13, hi => exact (q10 i hi).2.2.2.1
  | 14, hi => exact (q10 i hi).2.2.2.2.1
  | 15, hi => exact (q10 i hi).2.2.2.2.2.1
  | 16, hi => exact (q10 i hi).2.2.2.2.2.2.1
  | 17, hi => exact (q10 i hi).2.2.2.2.2.2.2.1
  | 18, hi => exact (q10 i hi).2.2.2.2.2.2.2.2.1
  | 19, hi => exact (q10 i hi).2.2.2.2.2.2.2.2.2
  | 20, hi => exact (q20 i hi).1
  | 21, hi => exact (q20 i hi).2
  | _ + 22, _ => exact trivial
theorem WF.of {σ : Sg} (h : ∀ f i, inR f i → okF f (σ f i)) : WF σ :=
  ⟨h 0 0 rfl, h 4 0 rfl, h 5 0 rfl, h 9 0 rfl, fun i => h 1 i trivial, fun i hi => h 2 i hi, fun i hi => h 3 i hi, fun i hi => ⟨h 6 i hi, h 7 i hi, h 8 i hi⟩, fun b hb => ⟨h 10 b hb, h 11 b hb, h 12 b hb, h 13 b hb, h 14 b hb, h 15 b hb, h 16 b hb, h 17 b hb, h 18 b hb, h 19 b hb⟩, fun i hi => ⟨h 20 i hi, h 21 i hi⟩⟩
theorem WF.sg {σ : Sg} (h : WF σ) {f : Nat} (j : Nat) {v : Int} (hv : okF f v) : WF (sg σ f j v) := WF.of (fun f' i hi => by
  unfold _root_.Jvm.Pilot.CFreightPathsLaw_law_r8975_db95ec.sg
  split
  · rename_i z; rw [z.1]; exact hv
  · exact h.all f' i hi)
theorem WB.sg {σ : Sg} (h : WB σ) {f : Nat} (j : Nat) {v : Int} (hv : okF f v) (hf : f ≠ 0 ∧ f ≠ 9 ∧ f ≠ 11 ∧ f ≠ 12) : WB (sg σ f j v) := ⟨h.1.sg j hv, fun b hb => by
  rw [sg_f _ _ _ _ (fun z => hf.2.1 z.symm)] at hb
  rw [sg_f _ _ _ _ (fun z => hf.2.2.1 z.symm), sg_f _ _ _ _ (fun z => hf.2.2.2 z.symm), sg_f _ _ _ _ (fun z => hf.1 z.symm)]
  exact h.2 b hb⟩
def R20 (κ : Sg) : Prop := ∀ i : Nat, i < 128 → 0 ≤ κ 20 i ∧ κ 20 i ≤ 239
theorem WB.eq {κ σ : Sg} (h : EQ κ σ) (hw : WB σ) (hr : R20 κ) : WB κ := by
  refine ⟨WF.of (fun f i hi => ?_), fun b hb => ?_⟩
  · by_cases q : f < 22
    · by_cases p : f = 20
      · subst p; exact hr i hi
      · rw [h.1 f i q p]; exact hw.1.all f i hi
    · match f, q with
      | f + 22, _ => exact trivial
      | 0, q => omega
      | 1, q => omega
      | 2, q => omega
      | 3, q => omega
      | 4, q => omega
      | 5, q => omega
      | 6, q => omega
      | 7, q => omega
      | 8, q => omega
      | 9, q => omega
      | 10, q => omega
      | 11, q => omega
      | 12, q => omega
      | 13, q => omega
      | 14, q => omega
      | 15, q => omega
      | 16, q => omega
      | 17, q => omega
      | 18, q => omega
      | 19, q => omega
      | 20, q => omega
      | 21, q => omega
  · rw [h.1 9 0 (by omega) (by omega)] at hb
    rw [h.1 11 b (by omega) (by omega), h.1 12 b (by omega) (by omega), h.1 0 0 (by omega) (by omega)]
    exact hw.2 b hb
/-- the run hangs on these alone -/
def ms (σ : Sg) : Sg := fun f i => if f = 3 ∨ f = 18 ∨ f = 20 ∨ 22 ≤ f then 0 else σ f i
def EQR (σ τ : Sg) : Prop := ms σ = ms τ ∧ ∀ (b : Nat) (i : Int), (b : Int) < σ 9 0 → σ 19 b ≠ 0 → 0 ≤ i → i < lgs σ b → lv σ b i = lv τ b i
theorem EQR.at {σ τ : Sg} (h : EQR σ τ) {f : Nat} (hf : f < 22) (h3 : f ≠ 3) (h18 : f ≠ 18) (h20 : f ≠ 20) (i : Nat) : σ f i = τ f i := by
  have := congrFun (congrFun h.1 f) i
  unfold ms at this
  rw [if_neg (by omega), if_neg (by omega)] at this
  exact this
theorem EQ.run {σ τ : Sg} (h : EQ σ τ) : EQR σ τ := by
  refine ⟨?_, h.2⟩
  funext f i
  unfold ms
  split
  · rfl
  · exact h.1 f i (by omega) (by omega)
theorem EQR.sg {σ : Sg} {f : Nat} (hf : f = 3 ∨ f = 18) (j : Nat) (v : Int) : EQR (sg σ f j v) σ := by
  refine ⟨?_, fun b i h1 h2 h3 h4 => ?_⟩
  · funext f' i'
    unfold ms
    split
    · rfl
    · rw [sg_f _ _ _ _ (by omega)]
  · unfold lv
    rw [sg_f _ _ _ _ (by omega)]
theorem EQR.hlR {σ τ : Sg} (h : EQR σ τ) (ρ : Sg) (b : Nat) (s t : Int) : hlR σ ρ b s t = hlR τ ρ b s t := by
  have e : ∀ σ : Sg, _root_.Jvm.Pilot.CFreightPathsLaw_law_r8975_db95ec.hlR σ ρ b s t = _root_.Jvm.Pilot.CFreightPathsLaw_law_r8975_db95ec.hlR (ms σ) ρ b s t := fun _ => rfl
  rw [e σ, h.1, ← e τ]
theorem EQR.rstep {σ τ : Sg} (h : EQR σ τ) (ρ : Sg) (b : Nat) (t : Int) (hb : (b : Int) < σ 9 0) (hg : σ 19 b ≠ 0) (h0 : 0 ≤ ρ 26 b ∧ ρ 26 b ≤ lgs σ b) : rstep σ ρ b t = rstep τ ρ b t := by
  have e1 : ∀ σ : Sg, _root_.Jvm.Pilot.CFreightPathsLaw_law_r8975_db95ec.lgs σ b = _root_.Jvm.Pilot.CFreightPathsLaw_law_r8975_db95ec.lgs (ms σ) b := fun _ => rfl
  have e2 : ∀ (σ : Sg) (i : Int), _root_.Jvm.Pilot.CFreightPathsLaw_law_r8975_db95ec.sec σ b i = _root_.Jvm.Pilot.CFreightPathsLaw_law_r8975_db95ec.sec (ms σ) b i := fun _ _ => rfl
  have e3 : ∀ (σ : Sg) (i : Int), _root_.Jvm.Pilot.CFreightPathsLaw_law_r8975_db95ec.stn σ b i = _root_.Jvm.Pilot.CFreightPathsLaw_law_r8975_db95ec.stn (ms σ) b i := fun _ _ => rfl
  have e4 : ∀ (σ : Sg) (i : Int), _root_.Jvm.Pilot.CFreightPathsLaw_law_r8975_db95ec.lng σ b i = _root_.Jvm.Pilot.CFreightPathsLaw_law_r8975_db95ec.lng (ms σ) b i := fun _ _ => rfl
  have e5 : ∀ (σ : Sg) (s t : Int), _root_.Jvm.Pilot.CFreightPathsLaw_law_r8975_db95ec.clsd σ s t = _root_.Jvm.Pilot.CFreightPathsLaw_law_r8975_db95ec.clsd (ms σ) s t := fun _ _ _ => rfl
  unfold _root_.Jvm.Pilot.CFreightPathsLaw_law_r8975_db95ec.rstep
  rw [h.hlR]
  rw [e1 σ, h.1, ← e1 τ]
  by_cases c : ρ 26 b = _root_.Jvm.Pilot.CFreightPathsLaw_law_r8975_db95ec.lgs τ b
  · simp only [c, if_true]
  · have hl : lv σ b (ρ 26 b) = lv τ b (ρ 26 b) := h.2 b _ hb hg h0.1 (by
      have : _root_.Jvm.Pilot.CFreightPathsLaw_law_r8975_db95ec.lgs σ b = _root_.Jvm.Pilot.CFreightPathsLaw_law_r8975_db95ec.lgs τ b := by rw [e1 σ, h.1, ← e1 τ]
      omega)
    rw [hl, e2 σ, e3 σ, e4 σ, e5 σ, h.1, ← e2 τ, ← e3 τ, ← e4 τ, ← e5 τ]
theorem EQR.rmin {σ τ : Sg} (h : EQR σ τ) (hw : WF σ) {n : Nat} (hn : (n : Int) = σ 9 0) {o : Nat → Nat} (ho : ∀ k, k < n → o k < n) {ρ : Sg} (hr : RW σ ρ) (t : Nat) (ht : t < 480) : ∀ k, k ≤ n → rmin σ ρ o t k = rmin τ ρ o t k
  | 0, _ => rfl
  | k + 1, hk => by
    have ih := EQR.rmin h hw hn ho hr t ht k (by omega)
    have hok := ho k (by omega)
    unfold _root_.Jvm.Pilot.CFreightPathsLaw_law_r8975_db95ec.rmin
    rw [← h.at (f := 19) (by omega) (by omega) (by omega) (by omega), ← ih]
    by_cases c : σ 19 (o k) = 0
    · rw [if_pos c, if_pos c]
    · rw [if_neg c, if_neg c]
      exact h.rstep _ _ _ (by omega) c ((rmin_ok hw hn ho hr t ht k (by omega)) (o k) (by omega)).1
theorem EQR.rrun {σ τ : Sg} (h : EQR σ τ) (hw : WF σ) {n : Nat} (hn : (n : Int) = σ 9 0) {o : Nat → Nat} (ho : ∀ k, k < n → o k < n) : ∀ t, t ≤ 480 → rrun σ o n t = rrun τ o n t
  | 0, _ => by
    funext f i
    show rho0 σ f i = rho0 τ f i
    unfold rho0
    rw [h.at (f := 21) (by omega) (by omega) (by omega) (by omega)]
  | t + 1, ht => by
    unfold _root_.Jvm.Pilot.CFreightPathsLaw_law_r8975_db95ec.rrun
    rw [← EQR.rrun h hw hn ho t (by omega)]
    exact h.rmin hw hn ho (rrun_ok hw hn ho t (by omega)) t (by omega) n (Nat.le_refl _)
theorem EQR.RUN {σ τ : Sg} (h : EQR σ τ) (hw : WF σ) : RUN σ = RUN τ := by
  have h9 := hw.2.2.2.1
  unfold _root_.Jvm.Pilot.CFreightPathsLaw_law_r8975_db95ec.RUN
  have e17 : σ 17 = τ 17 := funext (fun i => h.at (by omega) (by omega) (by omega) (by omega) i)
  have e9 := h.at (f := 9) (by omega) (by omega) (by omega) (by omega) 0
  rw [h.rrun hw (n := (σ 9 0).toNat) (by omega) (fun k hk => ordF_lt _ _ _ hk) 480 (Nat.le_refl _), e17, e9]
/-- the class's run corresponds to R -/
def RC (n : Nat) (κ R : Sg) : Prop := ∀ b : Nat, b < n → κ 56 b = R 26 b ∧ κ 57 b = R 27 b ∧ κ 59 b = R 31 b ∧ κ 60 b = R 32 b ∧ ∀ o : Nat, o < n → κ 61 (16 * b + o) = R 33 (16 * b + o)
def UP (n : Nat) (κ : Sg) : Prop := κ 55 0 = 0 ∨ (κ 55 0 = 1 ∧ RC n κ (RUN κ))
def AR0 (σ : Sg) : Prop := ∀ b : Nat, (b : Int) < σ 9 0 → σ 19 b ≠ 0 → lv σ b (lgs σ b) = cmT σ b (lgs σ b) ∧ ∀ i : Int, 1 ≤ i → i < lgs σ b → cmT σ b i ≤ lv σ b i
/-- beyond the bids nothing is written -/
def FR (σ : Sg) : Prop := ∀ b : Nat, σ 9 0 ≤ b → b < 16 → σ 18 b = -1 ∧ σ 19 b = 0 ∧ ∀ i : Nat, i < 8 → σ 21 (8 * b + i) = 0
def AR (σ : Sg) : Prop := AR0 σ ∧ FR σ
def RLx (h : Hp) (A : CA) (κ σ : Sg) : Prop := KI h A κ (ordF (κ 17) A.n) ∧ EQ κ σ ∧ WB σ ∧ LSy σ ∧ AR σ ∧ UP A.n κ
theorem LSy.eq {κ σ : Sg} (h : EQ κ σ) (hl : LSy σ) : LSy κ := by
  intro b hb
  rw [h.1 9 0 (by omega) (by omega)] at hb
  have e : ∀ i, κ 18 i = σ 18 i := fun i => h.1 18 i (by omega) (by omega)
  rw [e, e, h.1 9 0 (by omega) (by omega)]
  exact hl b hb
theorem CM.of {κ τ : Sg} (hc : CM κ) (hx : ∀ f i, f = 2 ∨ f = 9 ∨ f = 11 ∨ f = 12 ∨ f = 13 ∨ f = 19 ∨ f = 20 ∨ f = 41 → τ f i = κ f i) : CM τ := by
  intro b i h1 h2 h3 h4
  rw [hx 9 _ (by omega)] at h1
  rw [hx 19 _ (by omega)] at h2
  have el : lgs τ b = lgs κ b := by unfold lgs; rw [hx 11 _ (by omega), hx 12 _ (by omega)]
  have es : ∀ j, sec τ b j = sec κ b j := fun j => by unfold sec; rw [hx 11 _ (by omega), hx 12 _ (by omega)]
  rw [el] at h4
  have e1 : cv τ b i = cv κ b i := hx 41 _ (by omega)
  have e2 : cmT τ b i = cmT κ b i := by
    unfold cmT lv lng
    rw [es, hx 20 _ (by omega), hx 13 _ (by omega), hx 2 _ (by omega)]
  rw [e1, e2]
  exact hc b i h1 h2 h3 h4
theorem AR0.of {κ τ : Sg} (hc : AR0 κ) (hx : ∀ f i, f = 2 ∨ f = 9 ∨ f = 11 ∨ f = 12 ∨ f = 13 ∨ f = 19 ∨ f = 20 → τ f i = κ f i) : AR0 τ := by
  intro b h1 h2
  rw [hx 9 _ (by omega)] at h1
  rw [hx 19 _ (by omega)] at h2
  have el : lgs τ b = lgs κ b := by unfold lgs; rw [hx 11 _ (by omega), hx 12 _ (by omega)]
  have es : ∀ j, sec τ b j = sec κ b j := fun j => by unfold sec; rw [hx 11 _ (by omega), hx 12 _ (by omega)]
  rw [el]
  have e1 : ∀ i, lv τ b i = lv κ b i := fun i => hx 20 _ (by omega)
  have e2 : ∀ i, cmT τ b i = cmT κ b i := fun i => by
    unfold cmT lv lng
    rw [es, hx 20 _ (by omega), hx 13 _ (by omega), hx 2 _ (by omega)]
  rw [e1, e2]
  refine ⟨(hc b h1 h2).1, fun i i1 i2 => ?_⟩
  rw [e1, e2]
  exact (hc b h1 h2).2 i i1 i2
theorem FR.of {κ τ : Sg} (hc : FR κ) (hx : ∀ f i, f = 9 ∨ f = 18 ∨ f = 19 ∨ f = 21 → τ f i = κ f i) : FR τ := by
  intro b h1 h2
  rw [hx 9 _ (by omega)] at h1
  rw [hx 18 _ (by omega), hx 19 _ (by omega)]
  exact ⟨(hc b h1 h2).1, (hc b h1 h2).2.1, fun i hi => by rw [hx 21 _ (by omega)]; exact (hc b h1 h2).2.2 i hi⟩
theorem AR.of {κ τ : Sg} (hc : AR κ) (hx : ∀ f i, f = 2 ∨ f = 9 ∨ f = 11 ∨ f = 12 ∨ f = 13 ∨ f = 18 ∨ f = 19 ∨ f = 20 ∨ f = 21 → τ f i = κ f i) : AR τ := ⟨hc.1.of (fun f i hf => hx f i (by omega)), hc.2.of (fun f i hf => hx f i (by omega))⟩
theorem EQ.sg {κ σ : Sg} (h : EQ κ σ) {f : Nat} (hf : f ≠ 9 ∧ f ≠ 11 ∧ f ≠ 12 ∧ f ≠ 19 ∧ f ≠ 20) (j : Nat) (v : Int) : EQ (sg κ f j v) (sg σ f j v) := by
  refine ⟨fun f' i h1 h2 => ?_, fun b i h1 h2 h3 h4 => ?_⟩
  · unfold _root_.Jvm.Pilot.CFreightPathsLaw_law_r8975_db95ec.sg
    split
    · rfl
    · exact h.1 f' i h1 h2
  · unfold lv
    rw [sg_f _ _ _ _ (by omega), sg_f _ _ _ _ (by omega)]
    rw [sg_f _ _ _ _ (by omega)] at h1 h2
    have e : _root_.Jvm.Pilot.CFreightPathsLaw_law_r8975_db95ec.lgs (_root_.Jvm.Pilot.CFreightPathsLaw_law_r8975_db95ec.sg κ f j v) b = _root_.Jvm.Pilot.CFreightPathsLaw_law_r8975_db95ec.lgs κ b := by
      unfold _root_.Jvm.Pilot.CFreightPathsLaw_law_r8975_db95ec.lgs
      rw [sg_f _ _ _ _ (by omega), sg_f _ _ _ _ (by omega)]
    rw [e] at h4
    exact h.2 b i h1 h2 h3 h4
theorem EQ.sgL {κ σ : Sg} (h : EQ κ σ) {f : Nat} (hf : 22 ≤ f) (j : Nat) (v : Int) : EQ (_root_.Jvm.Pilot.CFreightPathsLaw_law_r8975_db95ec.sg κ f j v) σ := (EQ.of_cor (cor_sg κ hf j v)).trans h
theorem RLx.k20 {h : Hp} {A : CA} {κ σ : Sg} (hr : RLx h A κ σ) : R20 κ := fun i hi => (hr.1.1.1.1.2.2.2.2.2.2.2.2.2 i hi).1
/-- a change in the line that both write alike -/
theorem RLx.mk' {h : Hp} {A : CA} {κ σ κ' σ' : Sg} (hr : RLx h A κ σ) (he : EQ κ' σ') (hw : WB σ') (hls : LSy σ') (har : AR σ') (hcm : CM κ') (hwk : WK κ') (h20 : ∀ i, κ' 20 i = κ 20 i) (h45 : ∀ i, κ' 45 i = κ 45 i) (h17 : ∀ i, κ' 17 i = κ 17 i) (h9 : κ' 9 0 = κ 9 0) (hup : UP A.n κ') : RLx h A κ' σ' := by
  refine ⟨⟨⟨WB.eq he hw (fun i hi => ?_), ?_, ?_⟩, hcm, hwk, fun j => ?_⟩, he, hw, hls, har, hup⟩
  · rw [h20]; exact hr.k20 i hi
  · rw [show κ' 17 = κ 17 from funext h17]; exact hr.1.1.2.1
  · rw [h9]; exact hr.1.1.2.2
  · rw [h45]; exact hr.1.2.2.2 j
