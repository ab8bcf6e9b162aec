/-! both in one heap -/
def DJ (A : CA) (m : Nat) : Prop := A.x + 32 ≤ m ∧ (∀ k, k < A.n → m + 31 ≤ A.b k) ∧ (A.la < m ∨ m + 31 ≤ A.la) ∧ (A.lb < m ∨ m + 31 ≤ A.lb)
def WW (E : Nat × Nat) (H : Hp) (A : CA) (κ : Sg) (m : Nat) (σ : Sg) : Prop := CH H A κ = H ∧ MH H m σ = H ∧ RLx H A κ σ ∧ LE H A E (ordF (κ 17) A.n) ∧ FRH H ∧ DJ A m
theorem dj_cn {A : CA} {m q : Nat} (h : DJ A m) (h1 : m ≤ q) (h2 : q < m + 31) : cn A q = none := by
  cases hc : cn A q with
  | none => rfl
  | some c =>
    obtain ⟨z1, z2⟩ := ca_cn A hc
    unfold ca at z1
    by_cases z3 : c < 32
    · rw [if_pos z3] at z1
      have := h.1
      omega
    · rw [if_neg z3] at z1
      have := h.2.1 ((c - 32) / 4) (by omega)
      omega
theorem MH_out {H : Hp} {m : Nat} {σ : Sg} {q : Nat} (hq : q < m ∨ m + 31 ≤ q) : (MH H m σ).2 q = H.2 q := mh_out _ _ _ _ hq
theorem LH_keep {H H' : Hp} {A : CA} {ρ : Nat → Nat} (h : LH H A ρ) (e1 : H'.2 A.la = H.2 A.la) (e2 : H'.2 A.lb = H.2 A.lb) : LH H' A ρ := by
  obtain ⟨z1, z2, z3, ⟨c, z4, z5⟩, d, z6, z7⟩ := h
  exact ⟨z1, z2, z3, ⟨c, z4, by rw [e1]; exact z5⟩, d, z6, by rw [e2]; exact z7⟩
theorem RLx_keep {H H' : Hp} {A : CA} {κ σ : Sg} (h : RLx H A κ σ) (e1 : H'.2 A.la = H.2 A.la) (e2 : H'.2 A.lb = H.2 A.lb) : RLx H' A κ σ := ⟨⟨⟨h.1.1.1, LH_keep h.1.1.2.1 e1 e2, h.1.1.2.2⟩, h.1.2⟩, h.2⟩
theorem LE_keep {H H' : Hp} {A : CA} {E : Nat × Nat} {ρ ρ' : Nat → Nat} (h : LE H A E ρ) (hl : LH H A ρ') (e1 : H'.2 A.la = H.2 A.la) (e2 : H'.2 A.lb = H.2 A.lb) : LE H' A E ρ' := by
  obtain ⟨z1, ⟨c, z2, z3, z4⟩, d, z5, z6, z7⟩ := h
  obtain ⟨-, -, -, -, d', -, y⟩ := hl
  refine ⟨z1, ⟨c, z2, z3, by rw [e1]; exact z4⟩, d, z5, z6, ?_⟩
  rw [z7] at y
  have y1 := Option.some.inj y
  have y2 : (d, fun i => if i < A.n then some (A.b (ρ i)) else none) = (d', fun i => if i < A.n then some (A.b (ρ' i)) else none) := by
    injection y1 with y1
    injection y1 with y1
    injection y1 with y1
  have y3 := congrArg Prod.snd y2
  rw [e2, z7]
  simp only at y3
  rw [y3]
section
variable {E : Nat × Nat} {H : Hp} {A : CA} {κ σ : Sg} {m : Nat}
theorem WW.mk2 {H1 : Hp} {σ' : Sg} (hC : CH H1 A κ = H1) (hr : RLx H1 A κ σ') (hE : LE H1 A E (ordF (κ 17) A.n)) (hF : FRH H1) (hM : m + 31 ≤ H1.1) (hD : DJ A m) : WW E (MH H1 m σ') A κ m σ' := by
  have hla : (MH H1 m σ').2 A.la = H1.2 A.la := MH_out hD.2.2.1
  have hlb : (MH H1 m σ').2 A.lb = H1.2 A.lb := MH_out hD.2.2.2
  refine ⟨CH_self (fun c hc => ?_), MH_self (fun o ho => ?_), RLx_keep hr hla hlb, LE_keep hE hr.1.1.2.1 hla hlb, fun q hq => ?_, hD⟩
  · have : ca A c < m ∨ m + 31 ≤ ca A c := by
      rcases Nat.lt_or_ge (ca A c) m with z | z
      · exact Or.inl z
      · rcases Nat.lt_or_ge (ca A c) (m + 31) with y | y
        · have h1 := dj_cn hD z y
          rw [cn_ca A hc] at h1
          cases h1
        · exact Or.inr y
    rw [MH_out this]
    exact CH_cell hC hc
  · show (if m ≤ m + o ∧ m + o < m + 31 then some (mcell m (mI σ') (fun f i => iI (σ' f i)) (m + o - m)) else H1.2 (m + o)) = _
    rw [if_pos (by omega), show m + o - m = o by omega]
  · have hq' : H1.1 ≤ q := hq
    rw [MH_out (Or.inr (by omega))]
    exact hF q hq'
theorem WW.mtop (hW : WW E H A κ m σ) : m + 31 ≤ H.1 := by
  have := hW.2.2.2.2.1.lt (MH_cell hW.2.1 (o := 30) (by omega))
  omega
theorem WW.op (hW : WW E H A κ m σ) {F G : Hp → Option (Int32 × Hp)} (hop : ∀ h', OP H A κ σ h' m F G) : ∃ v H1 H2 κ' σ', F H = some (v, H1) ∧ (∀ K : Nat → Option (Int32 × Hp), rcv H1 (some m) 9 K = K m) ∧ G H1 = some (v, H2) ∧ WW E H2 A κ' m σ' := by
  have hWs := hW
  obtain ⟨hC, hM, hr, hE, hF, hD⟩ := hW
  obtain ⟨v0, κ0, -, -, f0, -⟩ := hop H
  rw [hC] at f0
  obtain ⟨v, κ', σ', r1, f1, g1⟩ := hop (CH H A κ0)
  rw [hC, f0] at f1
  have e := Option.some.inj f1
  have e1 : v0 = v := congrArg Prod.fst e
  have e2 : CH H A κ0 = CH H A κ' := congrArg Prod.snd e
  rw [e2] at g1 f0
  have hmt := hWs.mtop
  have hM1 : MH (CH H A κ') m σ = CH H A κ' := MH_self (fun o ho => by
    have : (CH H A κ').2 (m + o) = H.2 (m + o) := by simp only [CH, dj_cn hD (show m ≤ m + o by omega) (show m + o < m + 31 by omega)]
    rw [this]
    exact MH_cell hM ho)
  have hla : (CH H A κ').2 A.la = H.2 A.la := by simp only [CH, hr.1.1.2.1.2.1]
  have hlb : (CH H A κ').2 A.lb = H.2 A.lb := by simp only [CH, hr.1.1.2.1.2.2.1]
  have hF1 : FRH (CH H A κ') := fun q hq => by
    have hq' : H.1 ≤ q := hq
    have hcq : cn A q = none := by
      cases hc : cn A q with
      | none => rfl
      | some c =>
        obtain ⟨z1, z2⟩ := ca_cn A hc
        have := hF.lt (CH_cell hC z2)
        omega
    have : (CH H A κ').2 q = H.2 q := by simp only [CH, hcq]
    rw [this]
    exact hF q hq'
  refine ⟨v, CH H A κ', MH (CH H A κ') m σ', κ', σ', by rw [f0, e1], fun K => ?_, by rw [hM1] at g1; exact g1, WW.mk2 (CH_self (fun c hc => CH_at _ _ _ hc)) (RLx_keep r1 hla hlb) (LE_keep hE r1.1.1.2.1 hla hlb) hF1 hmt hD⟩
  rw [← hM1]
  exact rcv_M K
theorem WW.bid (hW : WW E H A κ m σ) {w t wo rk : Int} (hw : I32 w) (ht : I32 t) (hwo : I32 wo) (hrk : I32 rk) : ∃ v H1 H2 A' κ' σ', f_X7_bid E A.x (iI w) (iI t) (iI wo) (iI rk) H = some (v, H1) ∧ (∀ K : Nat → Option (Int32 × Hp), rcv H1 (some m) 9 K = K m) ∧ f_X8_bid m (iI w) (iI t) (iI wo) (iI rk) H1 = some (v, H2) ∧ WW E H2 A' κ' m σ' ∧ A'.x = A.x := by
  have hWs := hW
  obtain ⟨hC, hM, hr, hE, hF, hD⟩ := hW
  have hmt := hWs.mtop
  by_cases ok : okB σ w t wo rk
  · obtain ⟨H1, A', κ', f1, c1, r1, l1, fr1, ax, an, ab, abn, ala, alb, frm⟩ := o_bidC (E := E) hC hr hE hF hw ht hwo hrk ok
    have hne : ∀ q, m ≤ q → q < m + 31 → q ≠ A.la ∧ q ≠ A.lb := fun q h1 h2 => by
      have := hD.2.2
      omega
    have hM1 : MH H1 m σ = H1 := MH_self (fun o ho => by
      have hq := hne (m + o) (by omega) (by omega)
      rw [frm (m + o) (by omega) (dj_cn hD (by omega) (by omega)) hq.1 hq.2]
      exact MH_cell hM ho)
    have hD1 : DJ A' m := by
      refine ⟨by rw [ax]; exact hD.1, fun k hk => ?_, ?_, ?_⟩
      · rw [an] at hk
        by_cases q : k < A.n
        · rw [ab k q]; exact hD.2.1 k q
        · rw [show k = A.n by omega, abn]; exact hmt
      · rcases ala with z | z
        · rw [z]; exact hD.2.2.1
        · exact Or.inr (by omega)
      · rcases alb with z | z
        · rw [z]; exact hD.2.2.2
        · exact Or.inr (by omega)
    have hs := (s_bid (h := H1) (m := m) hr.2.2.1.1 w t wo rk hw ht hwo hrk).1 ok
    rw [hM1] at hs
    have hmt1 : m + 31 ≤ H1.1 := by
      have := fr1.lt (show H1.2 (m + 30) = _ from MH_cell hM1 (o := 30) (by omega))
      omega
    refine ⟨_, H1, MH H1 m (bidS σ w t wo rk), A', κ', bidS σ w t wo rk, f1, fun K => ?_, hs, WW.mk2 c1 r1 l1 fr1 hmt1 hD1, ax⟩
    rw [← hM1]
    exact rcv_M K
  · have f1 := o_bidN (E := E) hr hw ht hwo hrk ok
    rw [hC] at f1
    have hs := (s_bid (h := H) (m := m) hr.2.2.1.1 w t wo rk hw ht hwo hrk).2 ok
    rw [hM] at hs
    refine ⟨_, H, H, A, κ, σ, f1, fun K => ?_, hs, hWs, rfl⟩
    have := rcv_M (h := H) (m := m) (σ := σ) K
    rw [hM] at this
    exact this
theorem WW.rc (hW : WW E H A κ m σ) (K : Nat → Option (Int32 × Hp)) : rcv H (some A.x) 8 K = K A.x := by
  have := cV0 (h := H) (A := A) (κ := κ) K
  rw [hW.1] at this
  exact this
end
