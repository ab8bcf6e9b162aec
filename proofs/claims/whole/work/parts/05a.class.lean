/-! the class's cells: the object at x with what it holds behind it up to x + 31, bid k at b k with its three arrays behind it; the two lists' arrays at la, lb stay in the rest -/
abbrev CA0 : Type := Nat × Nat × Nat × Nat × (Nat → Nat)
def CA : Type := { q : CA0 // (∀ k, k < q.2.1 → q.1 + 32 ≤ q.2.2.2.2 k) ∧ ∀ j k, j < k → k < q.2.1 → q.2.2.2.2 j + 4 ≤ q.2.2.2.2 k }
def CA.x (A : CA) : Nat := A.1.1
def CA.n (A : CA) : Nat := A.1.2.1
def CA.la (A : CA) : Nat := A.1.2.2.1
def CA.lb (A : CA) : Nat := A.1.2.2.2.1
def CA.b (A : CA) : Nat → Nat := A.1.2.2.2.2
theorem CA.p1 (A : CA) : ∀ k, k < A.n → A.x + 32 ≤ A.b k := A.2.1
theorem CA.p2 (A : CA) : ∀ j k, j < k → k < A.n → A.b j + 4 ≤ A.b k := A.2.2
def ca (A : CA) (c : Nat) : Nat := if c < 32 then A.x + c else A.b ((c - 32) / 4) + (c - 32) % 4
def cn (A : CA) (a : Nat) : Option Nat := if A.x ≤ a ∧ a < A.x + 32 then some (a - A.x) else match srch (fun k => decide (A.b k ≤ a ∧ a < A.b k + 4)) 0 A.n with
  | some k => some (32 + 4 * k + (a - A.b k))
  | none => none
theorem CA.apart (A : CA) {j k : Nat} (hj : j < A.n) (hk : k < A.n) (h : j ≠ k) : A.b j + 4 ≤ A.b k ∨ A.b k + 4 ≤ A.b j := by
  rcases Nat.lt_or_ge j k with q | q
  · exact Or.inl (A.p2 j k q hk)
  · exact Or.inr (A.p2 k j (by omega) hj)
theorem CA.inj (A : CA) {j k : Nat} (hj : j < A.n) (hk : k < A.n) : (some (A.b j) = some (A.b k)) = (j = k) := by
  refine propext ⟨fun e => ?_, fun e => by rw [e]⟩
  by_cases h : j = k
  · exact h
  · have e' := Option.some.inj e
    have := A.apart hj hk h
    omega
theorem cn_ca (A : CA) {c : Nat} (hc : c < 32 + 4 * A.n) : cn A (ca A c) = some c := by
  unfold cn ca
  by_cases h : c < 32
  · rw [if_pos h, if_pos (by omega)]
    congr 1
    omega
  · rw [if_neg h]
    have hk : (c - 32) / 4 < A.n := by omega
    have h1 := A.p1 _ hk
    rw [if_neg (by omega)]
    have e : srch (fun k => decide (A.b k ≤ A.b ((c - 32) / 4) + (c - 32) % 4 ∧ A.b ((c - 32) / 4) + (c - 32) % 4 < A.b k + 4)) 0 A.n = some ((c - 32) / 4) := by
      rw [srch_some]
      refine ⟨Nat.zero_le _, by omega, by simp; omega, fun k _ hk2 => ?_⟩
      have := A.p2 k _ hk2 hk
      simp only [decide_eq_false_iff_not]
      omega
    rw [e]
    show some (32 + 4 * ((c - 32) / 4) + (A.b ((c - 32) / 4) + (c - 32) % 4 - A.b ((c - 32) / 4))) = some c
    congr 1
    omega
theorem ca_cn (A : CA) {a c : Nat} (h : cn A a = some c) : ca A c = a ∧ c < 32 + 4 * A.n := by
  unfold cn at h
  by_cases h1 : A.x ≤ a ∧ a < A.x + 32
  · rw [if_pos h1] at h
    cases h
    unfold ca
    rw [if_pos (by omega)]
    omega
  · rw [if_neg h1] at h
    cases hs : srch (fun k => decide (A.b k ≤ a ∧ a < A.b k + 4)) 0 A.n with
    | none => rw [hs] at h; cases h
    | some k =>
      rw [hs] at h
      cases h
      obtain ⟨-, h2, h3, -⟩ := srch_some.1 hs
      simp only [decide_eq_true_eq] at h3
      unfold ca
      rw [if_neg (by omega), show (32 + 4 * k + (a - A.b k) - 32) / 4 = k by omega, show (32 + 4 * k + (a - A.b k) - 32) % 4 = a - A.b k by omega]
      omega
def aI (len : Nat) (g : Nat → Int) : AE := eI len (fun i => if i < len then iI (g i) else 0)
def aZ (len : Nat) (g : Nat → Int) : AE := eZ len (fun i => if i < len then iI (g i) else 0)
def cfx (A : CA) (κ : Sg) (c : Nat) : AE := match c with
  | 0 => eO 8 (fun _ => 0) (fun k => match k with | 0 => some (A.x + 1) | 1 => some (A.x + 9) | 2 => some (A.x + 12) | 3 => some (A.x + 18) | 4 => some (A.x + 22) | 5 => some (A.x + 23) | _ => none)
  | 1 => eO 4 (fun k => if k = 0 then iI (κ 0 0) else if k = 8 then iI (κ 5 0) else if k = 9 then iI (κ 4 0) else 0) (fun k => if 1 ≤ k ∧ k ≤ 7 then some (A.x + (1 + k)) else none)
  | 2 => aZ 8 (fun i => κ 1 i)
  | 3 => aI 8 (fun i => κ 2 (2 * i))
  | 4 => aI 8 (fun i => κ 2 (2 * i + 1))
  | 5 => aI 8 (fun i => κ 3 i)
  | 6 => aI 10 (fun i => κ 6 i)
  | 7 => aI 10 (fun i => κ 7 i)
  | 8 => aI 10 (fun i => κ 8 i)
  | 9 => eO 2 (fun _ => 0) (fun k => if k ≤ 1 then some (A.x + (10 + k)) else none)
  | 10 => eO 0 (fun k => if k = 0 ∨ k = 2 then iI A.n else 0) (fun k => if k = 1 then some A.la else none)
  | 11 => eO 0 (fun k => if k = 0 ∨ k = 2 then iI A.n else 0) (fun k => if k = 1 then some A.lb else none)
  | 12 => eO 5 (fun _ => 0) (fun k => if k = 0 then some (A.x + 1) else if k = 1 then some (A.x + 9) else if k ≤ 6 then some (A.x + (11 + k)) else none)
  | 13 => aZ 1920 (fun i => κ 42 i)
  | 14 => aZ 240 (fun i => κ 43 i)
  | 15 => aI 240 (fun i => κ 44 i)
  | 16 => aI 8 (fun i => κ 45 i)
  | 17 => aI 8 (fun i => κ 46 i)
  | 18 => eO 6 (fun k => if k = 5 then iI (κ 50 0) else if k = 6 then iI (κ 51 0) else 0) (fun k => if k = 0 then some (A.x + 9) else if k = 1 then some (A.x + 12) else if k ≤ 4 then some (A.x + (17 + k)) else none)
  | 19 => aZ 16 (fun i => κ 47 i)
  | 20 => aI 5 (fun i => κ 48 i)
  | 21 => aI 5 (fun i => κ 49 i)
  | 22 => eO 3 (fun k => if k = 2 then iI (κ 52 0) else if k = 3 then iI (κ 53 0) else if k = 4 then iI (κ 54 0) else 0) (fun k => if k = 0 then some (A.x + 1) else if k = 1 then some (A.x + 9) else none)
  | 23 => eO 7 (fun k => if k = 2 then iI (κ 55 0) else 0) (fun k => if k = 0 then some (A.x + 1) else if k = 1 then some (A.x + 9) else if 3 ≤ k ∧ k ≤ 10 then some (A.x + (21 + k)) else none)
  | 24 => aI 16 (fun i => κ 56 i)
  | 25 => aI 16 (fun i => κ 57 i)
  | 26 => aI 16 (fun i => κ 58 i)
  | 27 => aI 16 (fun i => κ 59 i)
  | 28 => aI 16 (fun i => κ 60 i)
  | 29 => aI 256 (fun i => κ 61 i)
  | 30 => aI 16 (fun i => κ 62 i)
  | _ => aI 16 (fun i => κ 63 i)
def cbd (A : CA) (κ : Sg) (k r : Nat) : AE := match r with
  | 0 => eO 1 (fun f => if f = 0 then iI k else if f ≤ 10 then iI (κ (9 + f) k) else 0) (fun f => if 11 ≤ f ∧ f ≤ 13 then some (A.b k + (f - 10)) else none)
  | 1 => aI 8 (fun i => κ 20 (8 * k + i))
  | 2 => aI 8 (fun i => κ 41 (8 * k + i))
  | _ => aI 8 (fun i => κ 21 (8 * k + i))
def cc (A : CA) (κ : Sg) (c : Nat) : AE := if c < 32 then cfx A κ c else cbd A κ ((c - 32) / 4) ((c - 32) % 4)
def own (f j : Nat) : Nat := match f with
  | 0 => 1 | 4 => 1 | 5 => 1 | 1 => 2 | 2 => (if j % 2 = 0 then 3 else 4) | 3 => 5 | 6 => 6 | 7 => 7 | 8 => 8
  | 42 => 13 | 43 => 14 | 44 => 15 | 45 => 16 | 46 => 17 | 47 => 19 | 48 => 20 | 49 => 21 | 50 => 18 | 51 => 18 | 52 => 22 | 53 => 22 | 54 => 22 | 55 => 23
  | 56 => 24 | 57 => 25 | 58 => 26 | 59 => 27 | 60 => 28 | 61 => 29 | 62 => 30 | 63 => 31
  | 20 => 32 + 4 * (j / 8) + 1 | 41 => 32 + 4 * (j / 8) + 2 | 21 => 32 + 4 * (j / 8) + 3
  | _ => 32 + 4 * j
theorem own_bid {f : Nat} (h1 : 1 ≤ f) (h2 : f ≤ 10) (k : Nat) : own (9 + f) k = 32 + 4 * k := by
  have : f = 1 ∨ f = 2 ∨ f = 3 ∨ f = 4 ∨ f = 5 ∨ f = 6 ∨ f = 7 ∨ f = 8 ∨ f = 9 ∨ f = 10 := by omega
  rcases this with rfl | rfl | rfl | rfl | rfl | rfl | rfl | rfl | rfl | rfl <;> rfl
theorem sg_own {κ : Sg} {f j f' j' : Nat} {v : Int} (h : own f' j' ≠ own f j) : sg κ f j v f' j' = κ f' j' := by
  unfold sg
  rw [if_neg]
  rintro ⟨rfl, rfl⟩
  exact h rfl
theorem aI_congr {len : Nat} {g g' : Nat → Int} (h : ∀ i, i < len → g i = g' i) : aI len g = aI len g' := by
  unfold aI
  congr 2
  funext i
  by_cases hi : i < len
  · rw [if_pos hi, if_pos hi, h i hi]
  · rw [if_neg hi, if_neg hi]
theorem aZ_congr {len : Nat} {g g' : Nat → Int} (h : ∀ i, i < len → g i = g' i) : aZ len g = aZ len g' := by
  unfold aZ
  congr 3
  funext i
  by_cases hi : i < len
  · rw [if_pos hi, if_pos hi, h i hi]
  · rw [if_neg hi, if_neg hi]
theorem cfx_own (A : CA) {κ : Sg} {f j : Nat} {v : Int} : ∀ {c : Nat}, c < 32 → c ≠ own f j → cfx A (sg κ f j v) c = cfx A κ c
  | 0, _, _ => rfl
  | 1, _, h => by simp only [cfx]; rw [sg_own (f' := 0) (j' := 0) h, sg_own (f' := 5) (j' := 0) h, sg_own (f' := 4) (j' := 0) h]
  | 2, _, h => aZ_congr (fun i _ => sg_own h)
  | 3, _, h => aI_congr (fun i _ => sg_own (by rw [show own 2 (2 * i) = 3 by simp [own]]; exact h))
  | 4, _, h => aI_congr (fun i _ => sg_own (by rw [show own 2 (2 * i + 1) = 4 by simp [own]]; exact h))
  | 5, _, h => aI_congr (fun i _ => sg_own h)
  | 6, _, h => aI_congr (fun i _ => sg_own h)
  | 7, _, h => aI_congr (fun i _ => sg_own h)
  | 8, _, h => aI_congr (fun i _ => sg_own h)
  | 9, _, _ => rfl
  | 10, _, _ => rfl
  | 11, _, _ => rfl
  | 12, _, _ => rfl
  | 13, _, h => aZ_congr (fun i _ => sg_own h)
  | 14, _, h => aZ_congr (fun i _ => sg_own h)
  | 15, _, h => aI_congr (fun i _ => sg_own h)
  | 16, _, h => aI_congr (fun i _ => sg_own h)
  | 17, _, h => aI_congr (fun i _ => sg_own h)
  | 18, _, h => by simp only [cfx]; rw [sg_own (f' := 50) (j' := 0) h, sg_own (f' := 51) (j' := 0) h]
  | 19, _, h => aZ_congr (fun i _ => sg_own h)
  | 20, _, h => aI_congr (fun i _ => sg_own h)
  | 21, _, h => aI_congr (fun i _ => sg_own h)
  | 22, _, h => by simp only [cfx]; rw [sg_own (f' := 52) (j' := 0) h, sg_own (f' := 53) (j' := 0) h, sg_own (f' := 54) (j' := 0) h]
  | 23, _, h => by simp only [cfx]; rw [sg_own (f' := 55) (j' := 0) h]
  | 24, _, h => aI_congr (fun i _ => sg_own h)
  | 25, _, h => aI_congr (fun i _ => sg_own h)
  | 26, _, h => aI_congr (fun i _ => sg_own h)
  | 27, _, h => aI_congr (fun i _ => sg_own h)
  | 28, _, h => aI_congr (fun i _ => sg_own h)
  | 29, _, h => aI_congr (fun i _ => sg_own h)
  | 30, _, h => aI_congr (fun i _ => sg_own h)
  | 31, _, h => aI_congr (fun i _ => sg_own h)
  | _ + 32, h, _ => by omega
theorem cbd_own (A : CA) {κ : Sg} {f j : Nat} {v : Int} {k : Nat} : ∀ {r : Nat}, r < 4 → 32 + 4 * k + r ≠ own f j → cbd A (sg κ f j v) k r = cbd A κ k r
  | 0, _, h => by
    simp only [cbd]
    congr 4
    funext f'
    by_cases h0 : f' = 0
    · rw [if_pos h0, if_pos h0]
    · rw [if_neg h0, if_neg h0]
      by_cases h1 : f' ≤ 10
      · rw [if_pos h1, if_pos h1, sg_own (by rw [own_bid (by omega) h1]; exact h)]
      · rw [if_neg h1, if_neg h1]
  | 1, _, h => aI_congr (fun i hi => sg_own (by rw [show own 20 (8 * k + i) = 32 + 4 * ((8 * k + i) / 8) + 1 from rfl, show (8 * k + i) / 8 = k by omega]; exact h))
  | 2, _, h => aI_congr (fun i hi => sg_own (by rw [show own 41 (8 * k + i) = 32 + 4 * ((8 * k + i) / 8) + 2 from rfl, show (8 * k + i) / 8 = k by omega]; exact h))
  | 3, _, h => aI_congr (fun i hi => sg_own (by rw [show own 21 (8 * k + i) = 32 + 4 * ((8 * k + i) / 8) + 3 from rfl, show (8 * k + i) / 8 = k by omega]; exact h))
  | _ + 4, h, _ => by omega
theorem cc_own (A : CA) {κ : Sg} {f j : Nat} {v : Int} {c : Nat} (h : c ≠ own f j) : cc A (sg κ f j v) c = cc A κ c := by
  unfold cc
  by_cases hc : c < 32
  · rw [if_pos hc, if_pos hc, cfx_own A hc h]
  · rw [if_neg hc, if_neg hc, cbd_own A (by omega) (by omega)]
def CH (h : Hp) (A : CA) (κ : Sg) : Hp := (h.1, fun a => match cn A a with | some c => some (cc A κ c) | none => h.2 a)
theorem CH_at (h : Hp) (A : CA) (κ : Sg) {c : Nat} (hc : c < 32 + 4 * A.n) : (CH h A κ).2 (ca A c) = some (cc A κ c) := by
  simp only [CH, cn_ca A hc]
theorem CH_put (h : Hp) (A : CA) (κ κ' : Sg) {c : Nat} (hc : c < 32 + 4 * A.n) (hK : ∀ d, d ≠ c → cc A κ' d = cc A κ d) : hput (CH h A κ) (ca A c) (cc A κ' c) = CH h A κ' := by
  refine Prod.ext rfl ?_
  funext a
  show va_up (CH h A κ).2 (ca A c) (some _) a = (CH h A κ').2 a
  by_cases ha : a = ca A c
  · rw [ha, va_up_self, CH_at h A κ' hc]
  · rw [va_up_ne _ _ ha]
    simp only [CH]
    cases hn : cn A a with
    | none => rfl
    | some d =>
      have := (ca_cn A hn).1
      show some (cc A κ d) = some (cc A κ' d)
      rw [hK d (fun e => ha (by rw [← e, this]))]
section CHR
variable {α : Type} {h : Hp} {A : CA} {κ : Sg}
theorem obj_C {c ci : Nat} {I : Nat → Int32} {F : Nat → Option Nat} (hc : c < 32 + 4 * A.n) (e : cc A κ c = eO ci I F) (K : Nat → (Nat → Int32) → (Nat → Option Nat) → Option α) : obj (CH h A κ) (some (ca A c)) ci K = K (ca A c) I F := by
  simp only [obj, CH_at h A κ hc, e]
  simp
theorem arI_C {c n : Nat} {f : Nat → Int32} (hc : c < 32 + 4 * A.n) (e : cc A κ c = eI n f) (K : Nat → Nat → (Nat → Int32) → Option α) : arI (CH h A κ) (some (ca A c)) K = K (ca A c) n f := by
  simp only [arI, CH_at h A κ hc, e]
theorem arZ_C {c n : Nat} {f : Nat → Int32} (hc : c < 32 + 4 * A.n) (e : cc A κ c = eZ n f) (K : Nat → Nat → (Nat → Int32) → Option α) : arZ (CH h A κ) (some (ca A c)) K = K (ca A c) n f := by
  simp only [arZ, CH_at h A κ hc, e]
theorem ldI_C {c len f : Nat} (idx : Nat → Nat) (hc : c < 32 + 4 * A.n) (hl : len ≤ 2000) (e : cc A κ c = aI len (fun i => κ f (idx i))) {z : Int} (z0 : 0 ≤ z) (z1 : z < len) (K : Int32 → Option α) : ldI (CH h A κ) (some (ca A c)) (iI z) K = K (iI (κ f (idx z.toNat))) := by
  unfold ldI
  rw [arI_C hc e, iI_toInt (by omega) (by omega), if_pos ⟨z0, z1⟩, iI_clamp (by omega) (by omega)]
  show K (if z.toNat < len then iI (κ f (idx z.toNat)) else 0) = _
  rw [if_pos (by omega)]
theorem ldZ_C {c len f : Nat} (idx : Nat → Nat) (hc : c < 32 + 4 * A.n) (hl : len ≤ 2000) (e : cc A κ c = aZ len (fun i => κ f (idx i))) {z : Int} (z0 : 0 ≤ z) (z1 : z < len) (K : Int32 → Option α) : ldZ (CH h A κ) (some (ca A c)) (iI z) K = K (iI (κ f (idx z.toNat))) := by
  unfold ldZ
  rw [arZ_C hc e, iI_toInt (by omega) (by omega), if_pos ⟨z0, z1⟩, iI_clamp (by omega) (by omega)]
  show K (if z.toNat < len then iI (κ f (idx z.toNat)) else 0) = _
  rw [if_pos (by omega)]
theorem upd_trunc {len f j : Nat} {idx : Nat → Nat} (hi : ∀ i j, i < len → j < len → idx i = idx j → i = j) (hj : j < len) (v : Int) : upd (fun i => if i < len then iI (κ f (idx i)) else 0) j (iI v) = fun i => if i < len then iI (sg κ f (idx j) v f (idx i)) else 0 := by
  funext i
  by_cases h1 : i = j
  · subst h1
    simp [upd, sg, hj]
  · by_cases h2 : i < len
    · have : idx i ≠ idx j := fun e => h1 (hi i j h2 hj e)
      simp [upd, sg, h1, h2, this]
    · simp [upd, h1, h2]
theorem stI_C {c len f : Nat} (idx : Nat → Nat) (hc : c < 32 + 4 * A.n) (hl : len ≤ 2000) (e : ∀ κ, cc A κ c = aI len (fun i => κ f (idx i))) (ho : ∀ i, i < len → own f (idx i) = c) (hi : ∀ i j, i < len → j < len → idx i = idx j → i = j) {z : Int} (z0 : 0 ≤ z) (z1 : z < len) (v : Int) (K : Hp → Option α) : stI (CH h A κ) (some (ca A c)) (iI z) (iI v) K = K (CH h A (sg κ f (idx z.toNat) v)) := by
  unfold stI
  rw [arI_C hc (e κ), iI_toInt (by omega) (by omega), if_pos ⟨z0, z1⟩, iI_clamp (by omega) (by omega), upd_trunc hi (by omega)]
  congr 1
  have hp := CH_put h A κ (sg κ f (idx z.toNat) v) hc (fun d hd => cc_own A (by rw [ho _ (by omega)]; exact hd))
  rw [e] at hp
  exact hp
theorem stZ_C {c len f : Nat} (idx : Nat → Nat) (hc : c < 32 + 4 * A.n) (hl : len ≤ 2000) (e : ∀ κ, cc A κ c = aZ len (fun i => κ f (idx i))) (ho : ∀ i, i < len → own f (idx i) = c) (hi : ∀ i j, i < len → j < len → idx i = idx j → i = j) {z : Int} (z0 : 0 ≤ z) (z1 : z < len) (v : Int) (hv : v = 0 ∨ v = 1) (K : Hp → Option α) : stZ (CH h A κ) (some (ca A c)) (iI z) (iI v) K = K (CH h A (sg κ f (idx z.toNat) v)) := by
  unfold stZ
  rw [arZ_C hc (e κ), iI_toInt (by omega) (by omega), if_pos ⟨⟨z0, z1⟩, by rcases hv with rfl | rfl; exact Or.inl iI_0.symm; exact Or.inr iI_1.symm⟩, iI_clamp (by omega) (by omega), upd_trunc hi (by omega)]
  congr 1
  have hp := CH_put h A κ (sg κ f (idx z.toNat) v) hc (fun d hd => cc_own A (by rw [ho _ (by omega)]; exact hd))
  rw [e] at hp
  exact hp
theorem pI_C {c ci k f j : Nat} {I : Sg → Nat → Int32} {F : Nat → Option Nat} (hc : c < 32 + 4 * A.n) (e : ∀ κ, cc A κ c = eO ci (I κ) F) (ho : own f j = c) (v : Int) (hu : upd (I κ) k (iI v) = I (sg κ f j v)) (K : Hp → Option α) : pI (CH h A κ) (some (ca A c)) ci k (iI v) K = K (CH h A (sg κ f j v)) := by
  unfold pI
  rw [obj_C hc (e κ), hu]
  congr 1
  have hp := CH_put h A κ (sg κ f j v) hc (fun d hd => cc_own A (by rw [ho]; exact hd))
  rw [e] at hp
  exact hp
theorem pZ_C {c ci k f j : Nat} {I : Sg → Nat → Int32} {F : Nat → Option Nat} (hc : c < 32 + 4 * A.n) (e : ∀ κ, cc A κ c = eO ci (I κ) F) (ho : own f j = c) (v : Int) (hv : v = 0 ∨ v = 1) (hu : upd (I κ) k (iI v) = I (sg κ f j v)) (K : Hp → Option α) : pZ (CH h A κ) (some (ca A c)) ci k (iI v) K = K (CH h A (sg κ f j v)) := by
  unfold pZ
  rw [obj_C hc (e κ), hu, if_pos (by rcases hv with rfl | rfl; exact Or.inl iI_0.symm; exact Or.inr iI_1.symm)]
  congr 1
  have hp := CH_put h A κ (sg κ f j v) hc (fun d hd => cc_own A (by rw [ho]; exact hd))
  rw [e] at hp
  exact hp
theorem ca_bid (A : CA) (k r : Nat) (hr : r < 4) : ca A (32 + 4 * k + r) = A.b k + r := by
  unfold ca
  rw [if_neg (by omega), show (32 + 4 * k + r - 32) / 4 = k by omega, show (32 + 4 * k + r - 32) % 4 = r by omega]
theorem cc_bid (A : CA) (κ : Sg) (k r : Nat) (hr : r < 4) : cc A κ (32 + 4 * k + r) = cbd A κ k r := by
  unfold cc
  rw [if_neg (by omega), show (32 + 4 * k + r - 32) / 4 = k by omega, show (32 + 4 * k + r - 32) % 4 = r by omega]
end CHR
def cv (κ : Sg) (b : Nat) (i : Int) : Int := κ 41 (8 * b + i).toNat
def dl (κ : Sg) (b : Nat) (i : Int) : Int := κ 21 (8 * b + i).toNat
