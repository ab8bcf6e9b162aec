/-! a new bid in the class -/
def FRH (H : Hp) : Prop := ∀ q, H.1 ≤ q → H.2 q = none
def LE (H : Hp) (A : CA) (E : Nat × Nat) (ρ : Nat → Nat) : Prop := (0 < A.n → A.la ≠ A.lb) ∧ (∃ c, (A.n ≤ c ∧ c ≤ 30 ∧ (A.n = 0 → c = 0)) ∧ (c = 0 → A.la = E.1) ∧ H.2 A.la = some (eR c (fun i => if i < A.n then some (A.b i) else none))) ∧ ∃ c, (A.n ≤ c ∧ c ≤ 30 ∧ (A.n = 0 → c = 0)) ∧ (c = 0 → A.lb = E.1) ∧ H.2 A.lb = some (eR c (fun i => if i < A.n then some (A.b (ρ i)) else none))
theorem CH_self {H : Hp} {A : CA} {κ : Sg} (h : ∀ c, c < 32 + 4 * A.n → H.2 (ca A c) = some (cc A κ c)) : CH H A κ = H := by
  refine Prod.ext rfl ?_
  funext q
  show (match cn A q with | some c => some (cc A κ c) | none => H.2 q) = H.2 q
  cases hn : cn A q with
  | none => rfl
  | some c =>
    obtain ⟨e1, e2⟩ := ca_cn A hn
    show some (cc A κ c) = H.2 q
    rw [← e1, h c e2]
theorem CH_cell {H : Hp} {A : CA} {κ : Sg} (hS : CH H A κ = H) {c : Nat} (hc : c < 32 + 4 * A.n) : H.2 (ca A c) = some (cc A κ c) := by
  have := CH_at H A κ hc
  rw [hS] at this
  exact this
theorem FRH.lt {H : Hp} (hF : FRH H) {q : Nat} {e : AE} (h : H.2 q = some e) : q < H.1 := by
  rcases Nat.lt_or_ge q H.1 with z | z
  · exact z
  · rw [hF q z] at h; cases h
theorem cn_fix {A : CA} {q : Nat} (h : cn A q = none) {c : Nat} (hc : c < 32 + 4 * A.n) : q ≠ ca A c := fun e => by
  rw [e, cn_ca A hc] at h
  cases h
/-- the heap with the bid in the making at its end -/
def bB (H : Hp) (I : Nat → Int32) (F : Nat → Option Nat) (c : Nat) : Hp := (H.1 + 1 + c, fun q => if q = H.1 then some (eO 1 I F) else if H.1 < q ∧ q ≤ H.1 + c then some (eI 8 (fun _ => 0)) else H.2 q)
section
variable {H : Hp} {A : CA} {κ σ : Sg} {E : Nat × Nat}
theorem bB_at (I : Nat → Int32) (F : Nat → Option Nat) (c : Nat) : (bB H I F c).2 H.1 = some (eO 1 I F) := if_pos rfl
theorem bB_old (I : Nat → Int32) (F : Nat → Option Nat) (c : Nat) {q : Nat} (h : q < H.1) : (bB H I F c).2 q = H.2 q := by
  show (if q = H.1 then _ else if H.1 < q ∧ q ≤ H.1 + c then _ else H.2 q) = _
  rw [if_neg (by omega), if_neg (by omega)]
theorem bB_self (hS : CH H A κ = H) (hF : FRH H) (I : Nat → Int32) (F : Nat → Option Nat) (c : Nat) : CH (bB H I F c) A κ = bB H I F c := CH_self (fun d hd => by
  have e := CH_cell hS hd
  rw [bB_old I F c (hF.lt e), e])
theorem b_nwO {α : Type} (hS : CH H A κ = H) (hF : FRH H) (K : Nat → Hp → Option α) : nwO H 1 K = K H.1 (CH (bB H (fun _ => 0) (fun _ => none) 0) A κ) := by
  rw [bB_self hS hF]
  unfold nwO
  congr 1
  refine Prod.ext rfl ?_
  funext q
  show va_up H.2 H.1 (some _) q = if q = H.1 then _ else if H.1 < q ∧ q ≤ H.1 + 0 then _ else H.2 q
  by_cases e : q = H.1
  · rw [if_pos e, e, va_up_self]
  · rw [if_neg e, if_neg (by omega), va_up_ne _ _ e]
theorem bB_put (I I' : Nat → Int32) (F F' : Nat → Option Nat) (c : Nat) : hput (bB H I F c) H.1 (eO 1 I' F') = bB H I' F' c := by
  refine Prod.ext rfl ?_
  funext q
  show va_up (bB H I F c).2 H.1 (some _) q = if q = H.1 then _ else if H.1 < q ∧ q ≤ H.1 + c then _ else H.2 q
  by_cases e : q = H.1
  · rw [if_pos e, e, va_up_self]
  · rw [va_up_ne _ _ e]
    show (if q = H.1 then _ else if H.1 < q ∧ q ≤ H.1 + c then _ else H.2 q) = _
    rw [if_neg e, if_neg e]
theorem b_pI {α : Type} (hS : CH H A κ = H) (hF : FRH H) {I : Nat → Int32} {F : Nat → Option Nat} {c k : Nat} {x : Int32} (K : Hp → Option α) : pI (CH (bB H I F c) A κ) (some H.1) 1 k x K = K (CH (bB H (upd I k x) F c) A κ) := by
  rw [bB_self hS hF, bB_self hS hF]
  unfold pI
  rw [obj_at (bB_at I F c), bB_put]
theorem b_pR {α : Type} (hS : CH H A κ = H) (hF : FRH H) {I : Nat → Int32} {F : Nat → Option Nat} {c k : Nat} {x : Option Nat} (K : Hp → Option α) : pR (CH (bB H I F c) A κ) (some H.1) 1 k x K = K (CH (bB H I (va_up F k x) c) A κ) := by
  rw [bB_self hS hF, bB_self hS hF]
  unfold pR
  rw [obj_at (bB_at I F c), bB_put]
theorem b_gI {α : Type} (hS : CH H A κ = H) (hF : FRH H) {I : Nat → Int32} {F : Nat → Option Nat} {c k : Nat} (K : Int32 → Option α) : gI (CH (bB H I F c) A κ) (some H.1) 1 k K = K (I k) := by
  rw [bB_self hS hF]
  unfold gI
  rw [obj_at (bB_at I F c)]
theorem b_nwI {α : Type} (hS : CH H A κ = H) (hF : FRH H) {I : Nat → Int32} {F : Nat → Option Nat} {c : Nat} (K : Nat → Hp → Option α) : nwI (CH (bB H I F c) A κ) 8 K = K (H.1 + 1 + c) (CH (bB H I F (c + 1)) A κ) := by
  rw [bB_self hS hF, bB_self hS hF]
  unfold nwI
  congr 1
  refine Prod.ext rfl ?_
  funext q
  show va_up (bB H I F c).2 (H.1 + 1 + c) (some _) q = if q = H.1 then _ else if H.1 < q ∧ q ≤ H.1 + (c + 1) then _ else H.2 q
  by_cases e : q = H.1 + 1 + c
  · rw [e, va_up_self, if_neg (by omega), if_pos (by omega)]
  · rw [va_up_ne _ _ e]
    show (if q = H.1 then _ else if H.1 < q ∧ q ≤ H.1 + c then _ else H.2 q) = _
    by_cases e2 : q = H.1
    · rw [if_pos e2, if_pos e2]
    · rw [if_neg e2, if_neg e2]
      by_cases e3 : H.1 < q ∧ q ≤ H.1 + c
      · rw [if_pos e3, if_pos (by omega)]
      · rw [if_neg e3, if_neg (by omega)]
def bI (n w t wo rk : Int) : Nat → Int32 := fun f => if f = 0 then iI n else if f = 1 then iI (w / 10000) else if f = 2 then iI (w / 1000 - w / 1000 / 10 * 10) else if f = 3 then iI (w / 100 - w / 100 / 10 * 10) else if f = 4 then iI (w / 10 - w / 10 / 10 * 10) else if f = 5 then iI (t / 1000) else if f = 6 then iI (t - t / 1000 * 1000) else if f = 7 then iI wo else if f = 8 then iI rk else if f = 9 then iI (-1) else 0
def bFR (a : Nat) : Nat → Option Nat := fun f => if 11 ≤ f ∧ f ≤ 13 then some (a + (f - 10)) else none
theorem b_init (hS : CH H A κ = H) (hF : FRH H) (n w t wo rk : Int) (h0 : 0 ≤ w ∧ w < 2147483648) (h1 : 0 ≤ t ∧ t < 2147483648) : f_X0_init H.1 (iI n) (iI w) (iI t) (iI wo) (iI rk) (CH (bB H (fun _ => 0) (fun _ => none) 0) A κ) = some ((), CH (bB H (bI n w t wo rk) (bFR H.1) 3) A κ) := by
  unfold f_X0_init
  simp (disch := omega) only [b_pI hS hF, b_pR hS hF, b_nwI hS hF, iI_0, iI_1, iI_neg, iL2, iL3, iL4, iL5, iL6, iL7, iL8, iL9, iL10, iL11, iL12, iL13, iL14, iL15, iL16, iL17, iL30, iL31, iL60, iL99, iL100, iL240, iL480, iL1000, iL1920, iL10000, iI_add, iI_sub, iI_mul, iI_div, iI_le, iI_lt, iI_eq, bd_s]
  unfold rtV
  congr 3
  congr 1
  · funext f
    unfold bI
    by_cases c : f < 10
    · have : f = 0 ∨ f = 1 ∨ f = 2 ∨ f = 3 ∨ f = 4 ∨ f = 5 ∨ f = 6 ∨ f = 7 ∨ f = 8 ∨ f = 9 := by omega
      rcases this with rfl | rfl | rfl | rfl | rfl | rfl | rfl | rfl | rfl | rfl <;> rfl
    · rw [if_neg (by omega), if_neg (by omega), if_neg (by omega), if_neg (by omega), if_neg (by omega), if_neg (by omega), if_neg (by omega), if_neg (by omega), if_neg (by omega), if_neg (by omega)]
      unfold upd
      rw [if_neg (by omega), if_neg (by omega), if_neg (by omega), if_neg (by omega), if_neg (by omega), if_neg (by omega), if_neg (by omega), if_neg (by omega), if_neg (by omega), if_neg (by omega)]
      exact iI_0.symm
  · funext f
    unfold bFR
    by_cases c : 11 ≤ f ∧ f ≤ 13
    · have : f = 11 ∨ f = 12 ∨ f = 13 := by omega
      rcases this with rfl | rfl | rfl <;> rfl
    · rw [if_neg c]
      unfold va_up
      rw [if_neg (by omega), if_neg (by omega), if_neg (by omega)]
theorem plc_congr {r1 r2 : Nat → Int} {f : Nat → Nat} {r : Int} : ∀ {k : Nat}, (∀ j, j < k → r1 (f j) = r2 (f j)) → plc r1 f r k = plc r2 f r k
  | 0, _ => rfl
  | k + 1, h => by
    unfold plc
    rw [h k (by omega), plc_congr (fun j hj => h j (by omega))]
theorem ordF_congr {r1 r2 : Nat → Int} : ∀ {n : Nat}, (∀ j, j < n → r1 j = r2 j) → ordF r1 n = ordF r2 n
  | 0, _ => rfl
  | n + 1, h => by
    have ih := ordF_congr (n := n) (fun j hj => h j (by omega))
    funext j
    unfold ordF
    rw [ih, h n (by omega), plc_congr (fun j hj => h _ (by have := ordF_lt r2 n j hj; omega))]
/-- the place in the order by rank -/
theorem b_place {n w t wo rk : Int} (hS : CH H A κ = H) (hF : FRH H) {ρ : Nat → Nat} (hl : LH (bB H (bI n w t wo rk) (bFR H.1) 3) A ρ) (hρ : ∀ k, k < A.n → ρ k < A.n) (hw : WF κ) (hr : 0 ≤ rk ∧ rk ≤ 99) : ∀ (k N : Nat), k ≤ A.n → k < N → lp (fun k8 u => fb_X1_add_8 k8 E u.1 u.2.1 u.2.2.1 u.2.2.2) N (some (A.x + 9), some H.1, iI (k : Int), CH (bB H (bI n w t wo rk) (bFR H.1) 3) A κ) = f_X1_add_41 E (some (A.x + 9)) (some H.1) (iI (plc (κ 17) ρ rk k : Int)) (CH (bB H (bI n w t wo rk) (bFR H.1) 3) A κ) := by
  have h16 := hl.1
  intro k
  induction k with
  | zero =>
    intro N _ hN
    obtain ⟨N, rfl⟩ : ∃ m, N = m + 1 := ⟨N - 1, by omega⟩
    rw [lp_succ]
    generalize lp _ N = kk
    show fb_X1_add_8 kk E (some (A.x + 9)) (some H.1) (iI ((0 : Nat) : Int)) _ = _
    unfold fb_X1_add_8
    rw [if_pos (by decide)]
    rfl
  | succ k ih =>
    intro N hk hN
    obtain ⟨N, rfl⟩ : ∃ m, N = m + 1 := ⟨N - 1, by omega⟩
    have ihN := ih N (by omega) (by omega)
    rw [lp_succ]
    generalize lp (fun k8 u => fb_X1_add_8 k8 E u.1 u.2.1 u.2.2.1 u.2.2.2) N = kk at ihN ⊢
    have hb := hρ k (by omega)
    have h17 := (hw.bid (b := ρ k) (by omega)).2.2.2.2.2.2.2.1
    show fb_X1_add_8 kk E (some (A.x + 9)) (some H.1) (iI ((k + 1 : Nat) : Int)) _ = _
    have e8 : bI n w t wo rk 8 = iI rk := rfl
    have ek : ((k + 1 : Nat) : Int) - 1 = (k : Int) := by omega
    have ek2 : ((k + 1 : Nat) : Int) + -1 = (k : Int) := by omega
    unfold fb_X1_add_8
    simp (disch := omega) only [iL239, cV0, cR0_0, cR0_1, cR0_2, cR0_3, cR0_4, cR0_5, cV1, cR1_1, cR1_2, cR1_3, cR1_4, cR1_5, cR1_6, cR1_7, cI1_0, cI1_8, cP1_8, cI1_9, cP1_9, cV9, cR9_0, cR9_1, cV10, cV11, cV12, cR12_0, cR12_1, cR12_2, cR12_3, cR12_4, cR12_5, cR12_6, cV18, cR18_0, cR18_1, cR18_2, cR18_3, cR18_4, cI18_5, cP18_5, cI18_6, cP18_6, cV22, cR22_0, cR22_1, cI22_2, cP22_2, cI22_3, cP22_3, cI22_4, cP22_4, cV23, cR23_0, cR23_1, cR23_3, cR23_4, cR23_5, cR23_6, cR23_7, cR23_8, cR23_9, cR23_10, cI23_2, cP23_2, cR10_1, cI10_2, cR11_1, cI11_2, cL2, cS2, cL3, cS3, cL4, cS4, cL5, cS5, cL6, cS6, cL7, cS7, cL8, cS8, cL13, cS13, cL14, cS14, cL15, cS15, cL16, cS16, cL17, cS17, cL19, cS19, cL20, cS20, cL21, cS21, cL24, cS24, cL25, cS25, cL26, cS26, cL27, cS27, cL28, cS28, cL29, cS29, cL30, cS30, cL31, cS31, bV, bK, bI0, bI1, bI2, bI3, bI4, bI5, bI6, bI7, bI8, bI9, bI10, bR11, bR12, bR13, bP9, bP10, bL1, bS1, bL2, bS2, bL3, bS3, iI_0, iI_1, iI_neg, iL2, iL3, iL4, iL5, iL6, iL7, iL8, iL9, iL10, iL11, iL12, iL13, iL14, iL15, iL16, iL17, iL30, iL31, iL60, iL99, iL100, iL240, iL480, iL1000, iL1920, iL10000, iI_add, iI_sub, iI_mul, iI_div, iI_le, iI_lt, iI_eq, bd_s, ek, ek2, k_getR hl, b_gI hS hF, e8]
    rw [if_neg (by omega)]
    unfold plc
    by_cases c : rk < κ 17 (ρ k)
    · rw [if_neg (by omega), if_pos c, ihN]
    · rw [if_pos (by omega), if_neg c]
end
