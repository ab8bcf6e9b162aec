/-! numbers: an int of the machine as a whole number -/
def iI (z : Int) : Int32 := Int32.ofInt z
theorem iI_toInt {z : Int} (h1 : -2147483648 ≤ z) (h2 : z < 2147483648) : (iI z).toInt = z := Int32.toInt_ofInt_of_le h1 h2
theorem iI_of (x : Int32) : iI x.toInt = x := Int32.ofInt_toInt x
theorem iI_rng (x : Int32) : -2147483648 ≤ x.toInt ∧ x.toInt < 2147483648 := ⟨Int32.le_toInt x, Int32.toInt_lt x⟩
theorem iI_add (a b : Int) : iI a + iI b = iI (a + b) := Int32.toInt_inj.1 (by simp [iI, Int32.toInt_add])
theorem iI_sub (a b : Int) : iI a - iI b = iI (a - b) := Int32.toInt_inj.1 (by simp [iI, Int32.toInt_sub])
theorem iI_mul (a b : Int) : iI a * iI b = iI (a * b) := Int32.toInt_inj.1 (by simp [iI, Int32.toInt_mul])
theorem iI_le {a b : Int} (a1 : -2147483648 ≤ a) (a2 : a < 2147483648) (b1 : -2147483648 ≤ b) (b2 : b < 2147483648) : iI a ≤ iI b ↔ a ≤ b := by rw [Int32.le_iff_toInt_le, iI_toInt a1 a2, iI_toInt b1 b2]
theorem iI_lt {a b : Int} (a1 : -2147483648 ≤ a) (a2 : a < 2147483648) (b1 : -2147483648 ≤ b) (b2 : b < 2147483648) : iI a < iI b ↔ a < b := by rw [Int32.lt_iff_toInt_lt, iI_toInt a1 a2, iI_toInt b1 b2]
theorem iI_eq {a b : Int} (a1 : -2147483648 ≤ a) (a2 : a < 2147483648) (b1 : -2147483648 ≤ b) (b2 : b < 2147483648) : iI a = iI b ↔ a = b := by rw [← Int32.toInt_inj, iI_toInt a1 a2, iI_toInt b1 b2]
theorem iI_clamp {z : Int} (h1 : -2147483648 ≤ z) (h2 : z < 2147483648) : (iI z).toNatClampNeg = z.toNat := Int32.toNatClampNeg_ofInt_of_le h1 h2
theorem iI_div {a b : Int} (a1 : 0 ≤ a) (a2 : a < 2147483648) (b1 : 0 < b) (b2 : b < 2147483648) : iI a / iI b = iI (a / b) := by
  have hb : iI b ≠ -1 := by
    intro e
    have := congrArg Int32.toInt e
    rw [iI_toInt (by omega) b2] at this
    simp at this
    omega
  apply Int32.toInt_inj.1
  have hd : a / b ≤ a := Int.ediv_le_self b a1
  have hd0 : 0 ≤ a / b := Int.ediv_nonneg a1 (by omega)
  rw [Int32.toInt_div_of_ne_right _ _ hb, iI_toInt (by omega) a2, iI_toInt (by omega) b2, iI_toInt (by omega) (by omega), Int.tdiv_eq_ediv_of_nonneg a1]
theorem iI_rem {a b : Int} (a1 : 0 ≤ a) (a2 : a < 2147483648) (b1 : 0 < b) (b2 : b < 2147483648) : iI a - iI a / iI b * iI b = iI (a % b) := by
  rw [iI_div a1 a2 b1 b2, iI_mul, iI_sub]
  congr 1
  have := Int.emod_add_mul_ediv a b
  have e : a / b * b = b * (a / b) := Int.mul_comm _ _
  omega
theorem iI_nI (n : Nat) : nI n = iI (n : Int) := Int32.toInt_inj.1 (by simp [iI, nI])
theorem iI_ofNat (n : Nat) : Int32.ofNat n = iI (n : Int) := iI_nI n
theorem iI_lit (n : Nat) : (OfNat.ofNat n : Int32) = iI (n : Int) := iI_nI n
theorem iI_0 : (0 : Int32) = iI 0 := by decide
theorem iI_1 : (1 : Int32) = iI 1 := by decide
theorem iI_neg (a : Int) : -iI a = iI (-a) := Int32.toInt_inj.1 (by simp [iI, Int32.toInt_neg])
theorem iI_m1 : (-1 : Int32) = iI (-1) := by decide
/-! the reference with its state as whole numbers: sg f 0 the number in field f, sg f i the i-th of the array in field f -/
abbrev Sg : Type := Nat → Nat → Int
def sg (σ : Sg) (k i : Nat) (x : Int) : Sg := fun f j => if f = k ∧ j = i then x else σ f j
theorem sg_eq (σ : Sg) (k i : Nat) (x : Int) : sg σ k i x k i = x := by simp [sg]
theorem sg_f (σ : Sg) {k f : Nat} (i j : Nat) (x : Int) (h : f ≠ k) : sg σ k i x f j = σ f j := by simp [sg, h]
theorem sg_i (σ : Sg) (k : Nat) {i j : Nat} (x : Int) (h : j ≠ i) : sg σ k i x k j = σ k j := by simp [sg, h]
def mI (σ : Sg) : Nat → Int32 := fun f => if mA f then 0 else iI (σ f 0)
def MH (h : Hp) (m : Nat) (σ : Sg) : Hp := mh h m (mI σ) (fun f i => iI (σ f i))
theorem mh_congr {h : Hp} {m : Nat} {I : Nat → Int32} {A A' : Nat → Nat → Int32} (e : ∀ f, mA f = true → A f = A' f) : mh h m I A = mh h m I A' := by
  refine Prod.ext rfl ?_
  funext a
  by_cases hr : m ≤ a ∧ a < m + 31
  · by_cases h0 : a = m
    · rw [h0, mh_0, mh_0]
    · have h5 := (by decide : ∀ o, o < 31 → 0 < o → mo (mfld o) = o) (a - m) (by omega) (by omega)
      have hk2 : mA (mfld (a - m)) = true := (by decide : ∀ o, o < 31 → 0 < o → mA (mfld o) = true) (a - m) (by omega) (by omega)
      have ea : a = m + mo (mfld (a - m)) := by omega
      generalize mfld (a - m) = k2 at hk2 ea
      rw [ea, mh_k h m I A hk2, mh_k h m I A' hk2, e k2 hk2]
  · rw [mh_out _ _ _ _ (by omega), mh_out _ _ _ _ (by omega)]
theorem mlen_le (k : Nat) : mlen k ≤ 1920 := by unfold mlen; (repeat' split) <;> omega
section MS
variable {α : Type} {h : Hp} {m : Nat} {σ : Sg}
theorem gI_M {k : Nat} (hk : mA k = false) (K : Int32 → Option α) : gI (MH h m σ) (some m) 9 k K = K (iI (σ k 0)) := by
  unfold MH
  rw [gI_m]
  simp [mI, hk]
theorem rcv_M (K : Nat → Option α) : rcv (MH h m σ) (some m) 9 K = K m := rcv_m K
theorem gR_M {k : Nat} (hk : mA k = true) (K : Option Nat → Option α) : gR (MH h m σ) (some m) 9 k K = K (some (m + mo k)) := gR_m hk K
theorem pI_M {k : Nat} (hk : mA k = false) (x : Int) (K : Hp → Option α) : pI (MH h m σ) (some m) 9 k (iI x) K = K (MH h m (sg σ k 0 x)) := by
  unfold MH
  rw [pI_m]
  congr 1
  have e : upd (mI σ) k (iI x) = mI (sg σ k 0 x) := by
    funext f
    by_cases hf : f = k
    · subst hf; simp [upd, sg, mI, hk]
    · simp [upd, sg, mI, hf]
  rw [e]
  refine mh_congr (fun f hf => ?_)
  have hne : f ≠ k := fun z => by rw [z, hk] at hf; cases hf
  funext i
  simp [sg, hne]
theorem MH_set {k : Nat} (hk : mA k = true) (j : Nat) (x : Int) : mh h m (mI σ) (va_up (fun f i => iI (σ f i)) k (upd (fun i => iI (σ k i)) j (iI x))) = MH h m (sg σ k j x) := by
  unfold MH
  have e : mI (sg σ k j x) = mI σ := by
    funext f
    by_cases hf : f = k
    · subst hf; simp [mI, hk]
    · simp [mI, sg, hf]
  rw [e]
  refine mh_congr (fun f hf => ?_)
  funext i
  by_cases hf : f = k
  · rw [hf]
    by_cases hi : i = j
    · subst hi; simp [va_up, upd, sg]
    · simp [va_up, upd, sg, hi]
  · simp [va_up, sg, hf]
theorem ldI_M {k : Nat} (hk : mA k = true) (hz : mZ k = false) {z : Int} (z0 : 0 ≤ z) (z1 : z < mlen k) (K : Int32 → Option α) : ldI (MH h m σ) (some (m + mo k)) (iI z) K = K (iI (σ k z.toNat)) := by
  have := mlen_le k
  unfold MH
  rw [ldI_m hk hz, iI_toInt (by omega) (by omega), if_pos ⟨z0, z1⟩, iI_clamp (by omega) (by omega)]
theorem ldZ_M {k : Nat} (hk : mA k = true) (hz : mZ k = true) {z : Int} (z0 : 0 ≤ z) (z1 : z < mlen k) (K : Int32 → Option α) : ldZ (MH h m σ) (some (m + mo k)) (iI z) K = K (iI (σ k z.toNat)) := by
  have := mlen_le k
  unfold MH
  rw [ldZ_m hk hz, iI_toInt (by omega) (by omega), if_pos ⟨z0, z1⟩, iI_clamp (by omega) (by omega)]
theorem stI_M {k : Nat} (hk : mA k = true) (hz : mZ k = false) {z : Int} (z0 : 0 ≤ z) (z1 : z < mlen k) (x : Int) (K : Hp → Option α) : stI (MH h m σ) (some (m + mo k)) (iI z) (iI x) K = K (MH h m (sg σ k z.toNat x)) := by
  have := mlen_le k
  rw [← MH_set hk z.toNat x]
  unfold MH
  rw [stI_m hk hz, iI_toInt (by omega) (by omega), if_pos ⟨z0, z1⟩, iI_clamp (by omega) (by omega)]
theorem stZ_M {k : Nat} (hk : mA k = true) (hz : mZ k = true) {z : Int} (z0 : 0 ≤ z) (z1 : z < mlen k) {x : Int} (hx : x = 0 ∨ x = 1) (K : Hp → Option α) : stZ (MH h m σ) (some (m + mo k)) (iI z) (iI x) K = K (MH h m (sg σ k z.toNat x)) := by
  have := mlen_le k
  rw [← MH_set hk z.toNat x]
  unfold MH
  rw [stZ_m hk hz, iI_toInt (by omega) (by omega), if_pos ⟨⟨z0, z1⟩, by rcases hx with rfl | rfl; exact Or.inl iI_0.symm; exact Or.inr iI_1.symm⟩, iI_clamp (by omega) (by omega)]
theorem rtZ_i {x : Int} (hx : x = 0 ∨ x = 1) (h : Hp) : rtZ (iI x) h = some (iI x, h) := by
  unfold rtZ
  rw [if_pos (by rcases hx with rfl | rfl; exact Or.inl iI_0.symm; exact Or.inr iI_1.symm)]
end MS
