/-! HALF 2: the values. Loops, numbers, and the reference's cells -/
section LPS
variable {α S : Type}
theorem lp_succ (B : (S → Option α) → S → Option α) (n : Nat) (s : S) : lp B (n + 1) s = B (lp B n) s := rfl
/-- the first j from i on below i + d with P j -/
def srch (P : Nat → Bool) : Nat → Nat → Option Nat
  | _, 0 => none
  | i, d + 1 => if P i then some i else srch P (i + 1) d
theorem srch_none {P : Nat → Bool} : ∀ {d i : Nat}, srch P i d = none ↔ ∀ j, i ≤ j → j < i + d → P j = false
  | 0, i => ⟨fun _ j h1 h2 => by omega, fun _ => rfl⟩
  | d + 1, i => by
    unfold srch
    by_cases h : P i = true
    · rw [if_pos h]
      exact ⟨fun z => (by cases z), fun z => (by rw [z i (Nat.le_refl _) (by omega)] at h; cases h)⟩
    · rw [if_neg h, srch_none]
      have hf : P i = false := by cases hp : P i with | false => rfl | true => exact absurd hp h
      refine ⟨fun z j h1 h2 => ?_, fun z j h1 h2 => z j (by omega) (by omega)⟩
      rcases Nat.lt_or_ge i j with q | q
      · exact z j q (by omega)
      · have e : j = i := by omega
        rw [e]; exact hf
theorem srch_some {P : Nat → Bool} : ∀ {d i j : Nat}, srch P i d = some j ↔ (i ≤ j ∧ j < i + d ∧ P j = true ∧ ∀ k, i ≤ k → k < j → P k = false)
  | 0, i, j => ⟨fun z => (by cases z), fun z => by omega⟩
  | d + 1, i, j => by
    unfold srch
    by_cases h : P i = true
    · rw [if_pos h]
      constructor
      · intro z; cases z; exact ⟨Nat.le_refl _, by omega, h, fun k h1 h2 => by omega⟩
      · rintro ⟨h1, h2, h3, h4⟩
        rcases Nat.lt_or_ge i j with q | q
        · rw [h4 i (Nat.le_refl _) q] at h; cases h
        · rw [show i = j by omega]
    · rw [if_neg h, srch_some]
      have hf : P i = false := by cases hp : P i with | false => rfl | true => exact absurd hp h
      constructor
      · rintro ⟨h1, h2, h3, h4⟩
        refine ⟨by omega, by omega, h3, fun k g1 g2 => ?_⟩
        rcases Nat.lt_or_ge i k with q | q
        · exact h4 k q g2
        · rw [show k = i by omega]; exact hf
      · rintro ⟨h1, h2, h3, h4⟩
        have : i ≠ j := fun e => by rw [← e] at h3; exact h h3
        exact ⟨by omega, by omega, h3, fun k g1 g2 => h4 k (by omega) g2⟩
theorem srch_congr {P Q : Nat → Bool} : ∀ {d i : Nat}, (∀ j, i ≤ j → j < i + d → P j = Q j) → srch P i d = srch Q i d
  | 0, _, _ => rfl
  | d + 1, i, h => by
    unfold srch
    rw [h i (Nat.le_refl _) (by omega), srch_congr (fun j h1 h2 => h j (by omega) (by omega))]
/-- a loop that looks for something -/
theorem lp_search {B : (S → Option α) → S → Option α} (st : Nat → S) (N : Nat) (P : Nat → Bool) (rt : Nat → Option α) (re : Option α) (hs : ∀ i, i < N → ∀ k, B k (st i) = if P i then rt i else k (st (i + 1))) (he : ∀ k, B k (st N) = re) :
    ∀ (d i n : Nat), i + d = N → d < n → lp B n (st i) = (match srch P i d with | some j => rt j | none => re)
  | 0, i, n, h1, h2 => by
    obtain ⟨n, rfl⟩ : ∃ k, n = k + 1 := ⟨n - 1, by omega⟩
    rw [lp_succ, show i = N by omega, he]
    rfl
  | d + 1, i, n, h1, h2 => by
    obtain ⟨n, rfl⟩ : ∃ k, n = k + 1 := ⟨n - 1, by omega⟩
    rw [lp_succ, hs i (by omega)]
    unfold srch
    by_cases h : P i = true
    · rw [if_pos h, if_pos h]
    · rw [if_neg h, if_neg h]
      exact lp_search st N P rt re hs he d (i + 1) n (by omega) (by omega)
/-- a loop that goes to its end -/
theorem lp_count {B : (S → Option α) → S → Option α} (st : Nat → S) (N : Nat) (re : Option α) (hs : ∀ i, i < N → ∀ k, B k (st i) = k (st (i + 1))) (he : ∀ k, B k (st N) = re) :
    ∀ (d i n : Nat), i + d = N → d < n → lp B n (st i) = re
  | 0, i, n, h1, h2 => by
    obtain ⟨n, rfl⟩ : ∃ k, n = k + 1 := ⟨n - 1, by omega⟩
    rw [lp_succ, show i = N by omega, he]
  | d + 1, i, n, h1, h2 => by
    obtain ⟨n, rfl⟩ : ∃ k, n = k + 1 := ⟨n - 1, by omega⟩
    rw [lp_succ, hs i (by omega)]
    exact lp_count st N re hs he d (i + 1) n (by omega) (by omega)
/-- a loop that goes to its end, with a state of its own -/
theorem lp_fold {T : Type} {B : (S → Option α) → S → Option α} (st : Nat → T → S) (g : Nat → T → T) (Inv : Nat → T → Prop) (N : Nat) (re : T → Option α) (hs : ∀ i t, i < N → Inv i t → Inv (i + 1) (g i t) ∧ ∀ k, B k (st i t) = k (st (i + 1) (g i t))) (he : ∀ t k, Inv N t → B k (st N t) = re t) :
    ∀ (d i n : Nat) (t : T), i + d = N → d < n → Inv i t → ∃ u, Inv N u ∧ lp B n (st i t) = re u
  | 0, i, n, t, h1, h2, h3 => by
    obtain ⟨n, rfl⟩ : ∃ k, n = k + 1 := ⟨n - 1, by omega⟩
    have e : i = N := by omega
    subst e
    exact ⟨t, h3, by rw [lp_succ, he t _ h3]⟩
  | d + 1, i, n, t, h1, h2, h3 => by
    obtain ⟨n, rfl⟩ : ∃ k, n = k + 1 := ⟨n - 1, by omega⟩
    obtain ⟨g1, g2⟩ := hs i t (by omega) h3
    obtain ⟨u, u1, u2⟩ := lp_fold st g Inv N re hs he d (i + 1) n (g i t) (by omega) (by omega) g1
    exact ⟨u, u1, by rw [lp_succ, g2]; exact u2⟩
end LPS
theorem FU_eq : FU = 5000 := rfl
theorem bd_s {α β : Type} (r : β) (h : Hp) (K : β → Hp → Option α) : bd (some (r, h)) K = K r h := rfl
/-! the reference's cells: object at m, its arrays behind it -/
def mo (k : Nat) : Nat := if k ≤ 3 then k else if k ≤ 8 then k - 2 else k - 3
def mA (k : Nat) : Bool := decide (k ≤ 33) && !(k == 0 || k == 4 || k == 5 || k == 9)
def mZ (k : Nat) : Bool := k == 1 || k == 19 || k == 22 || k == 25
def mlen (k : Nat) : Nat := if k = 2 then 16 else if k ≤ 3 then 8 else if k ≤ 8 then 10 else if k = 20 ∨ k = 21 ∨ k = 29 ∨ k = 30 then 128 else if k = 22 then 1920 else if k = 23 then 8 else if k = 33 then 256 else 16
def mfld (o : Nat) : Nat := if o ≤ 3 then o else if o ≤ 6 then o + 2 else o + 3
def mF (m : Nat) : Nat → Option Nat := fun k => if mA k then some (m + mo k) else none
def mcell (m : Nat) (I : Nat → Int32) (A : Nat → Nat → Int32) (o : Nat) : AE := if o = 0 then eO 9 I (mF m) else if mZ (mfld o) then eZ (mlen (mfld o)) (A (mfld o)) else eI (mlen (mfld o)) (A (mfld o))
/-- the heap h with the reference at m: its numbers I, its arrays A -/
def mh (h : Hp) (m : Nat) (I : Nat → Int32) (A : Nat → Nat → Int32) : Hp := (h.1, fun a => if m ≤ a ∧ a < m + 31 then some (mcell m I A (a - m)) else h.2 a)
theorem mo_lt {k : Nat} (hk : mA k = true) : mo k < 31 ∧ 0 < mo k ∧ mfld (mo k) = k := by
  have : ∀ k, k ≤ 33 → mA k = true → mo k < 31 ∧ 0 < mo k ∧ mfld (mo k) = k := by decide
  refine this k ?_ hk
  simp [mA] at hk
  exact hk.1
theorem mh_0 (h : Hp) (m : Nat) (I : Nat → Int32) (A : Nat → Nat → Int32) : (mh h m I A).2 m = some (eO 9 I (mF m)) := by
  simp [mh, mcell]
theorem mh_k (h : Hp) (m : Nat) (I : Nat → Int32) (A : Nat → Nat → Int32) {k : Nat} (hk : mA k = true) : (mh h m I A).2 (m + mo k) = some (if mZ k then eZ (mlen k) (A k) else eI (mlen k) (A k)) := by
  obtain ⟨h1, h2, h3⟩ := mo_lt hk
  simp only [mh, mcell]
  rw [if_pos ⟨by omega, by omega⟩, show m + mo k - m = mo k by omega, if_neg (by omega), h3]
theorem mh_out (h : Hp) (m : Nat) (I : Nat → Int32) (A : Nat → Nat → Int32) {a : Nat} (ha : a < m ∨ m + 31 ≤ a) : (mh h m I A).2 a = h.2 a := by
  simp only [mh]
  rw [if_neg (by omega)]
theorem mh_put (h : Hp) (m : Nat) (I : Nat → Int32) (A : Nat → Nat → Int32) {k : Nat} (hk : mA k = true) (f : Nat → Int32) : hput (mh h m I A) (m + mo k) (if mZ k then eZ (mlen k) f else eI (mlen k) f) = mh h m I (va_up A k f) := by
  obtain ⟨h1, h2, h3⟩ := mo_lt hk
  have hfo : ∀ o, o < 31 → 0 < o → mo (mfld o) = o := by decide
  refine Prod.ext rfl ?_
  funext a
  show va_up (mh h m I A).2 (m + mo k) (some _) a = (mh h m I (va_up A k f)).2 a
  by_cases ha : a = m + mo k
  · rw [ha, va_up_self, mh_k h m I (va_up A k f) hk, va_up_self]
  · rw [va_up_ne _ _ ha]
    by_cases hr : m ≤ a ∧ a < m + 31
    · by_cases h0 : a = m
      · rw [h0, mh_0, mh_0]
      · have h5 := hfo (a - m) (by omega) (by omega)
        have hk2 : mA (mfld (a - m)) = true := (by decide : ∀ o, o < 31 → 0 < o → mA (mfld o) = true) (a - m) (by omega) (by omega)
        have ea : a = m + mo (mfld (a - m)) := by omega
        have hne : mfld (a - m) ≠ k := fun e => ha (by rw [← e]; exact ea)
        generalize mfld (a - m) = k2 at hk2 ea hne
        rw [ea, mh_k h m I A hk2, mh_k h m I _ hk2, va_up_ne _ _ hne]
    · rw [mh_out _ _ _ _ (by omega), mh_out _ _ _ _ (by omega)]
theorem mh_putI (h : Hp) (m : Nat) (I I' : Nat → Int32) (A : Nat → Nat → Int32) : hput (mh h m I A) m (eO 9 I' (mF m)) = mh h m I' A := by
  refine Prod.ext rfl ?_
  funext a
  show va_up (mh h m I A).2 m (some _) a = (mh h m I' A).2 a
  by_cases ha : a = m
  · rw [ha, va_up_self, mh_0]
  · rw [va_up_ne _ _ ha]
    by_cases hr : m ≤ a ∧ a < m + 31
    · have h5 := (by decide : ∀ o, o < 31 → 0 < o → mo (mfld o) = o) (a - m) (by omega) (by omega)
      have hk2 : mA (mfld (a - m)) = true := (by decide : ∀ o, o < 31 → 0 < o → mA (mfld o) = true) (a - m) (by omega) (by omega)
      have ea : a = m + mo (mfld (a - m)) := by omega
      generalize mfld (a - m) = k2 at hk2 ea
      rw [ea, mh_k h m I A hk2, mh_k h m I' A hk2]
    · rw [mh_out _ _ _ _ (by omega), mh_out _ _ _ _ (by omega)]
section MH
variable {α : Type} {h : Hp} {m : Nat} {I : Nat → Int32} {A : Nat → Nat → Int32}
theorem gI_m (k : Nat) (K : Int32 → Option α) : gI (mh h m I A) (some m) 9 k K = K (I k) := by
  simp only [gI, obj, mh_0]
  simp
theorem rcv_m (K : Nat → Option α) : rcv (mh h m I A) (some m) 9 K = K m := by
  simp only [rcv, obj, mh_0]
  simp
theorem gR_m {k : Nat} (hk : mA k = true) (K : Option Nat → Option α) : gR (mh h m I A) (some m) 9 k K = K (some (m + mo k)) := by
  simp only [gR, obj, mh_0, mF, if_pos hk]
  simp
theorem pI_m (k : Nat) (x : Int32) (K : Hp → Option α) : pI (mh h m I A) (some m) 9 k x K = K (mh h m (upd I k x) A) := by
  simp only [pI, obj, mh_0]
  simp [mh_putI]
theorem ldI_m {k : Nat} (hk : mA k = true) (hz : mZ k = false) (i : Int32) (K : Int32 → Option α) : ldI (mh h m I A) (some (m + mo k)) i K = if 0 ≤ i.toInt ∧ i.toInt < mlen k then K (A k i.toNatClampNeg) else none := by
  simp only [ldI, arI, mh_k h m I A hk, hz]
  simp
theorem ldZ_m {k : Nat} (hk : mA k = true) (hz : mZ k = true) (i : Int32) (K : Int32 → Option α) : ldZ (mh h m I A) (some (m + mo k)) i K = if 0 ≤ i.toInt ∧ i.toInt < mlen k then K (A k i.toNatClampNeg) else none := by
  simp only [ldZ, arZ, mh_k h m I A hk, hz]
  simp
theorem stI_m {k : Nat} (hk : mA k = true) (hz : mZ k = false) (i x : Int32) (K : Hp → Option α) : stI (mh h m I A) (some (m + mo k)) i x K = if 0 ≤ i.toInt ∧ i.toInt < mlen k then K (mh h m I (va_up A k (upd (A k) i.toNatClampNeg x))) else none := by
  have e := mh_put h m I A hk (upd (A k) i.toNatClampNeg x)
  simp only [hz, Bool.false_eq_true, if_false] at e
  simp only [stI, arI, mh_k h m I A hk, hz]
  simp [e]
theorem stZ_m {k : Nat} (hk : mA k = true) (hz : mZ k = true) (i x : Int32) (K : Hp → Option α) : stZ (mh h m I A) (some (m + mo k)) i x K = if (0 ≤ i.toInt ∧ i.toInt < mlen k) ∧ (x = 0 ∨ x = 1) then K (mh h m I (va_up A k (upd (A k) i.toNatClampNeg x))) else none := by
  have e := mh_put h m I A hk (upd (A k) i.toNatClampNeg x)
  simp only [hz, if_true] at e
  simp only [stZ, arZ, mh_k h m I A hk, hz]
  simp [e]
end MH
