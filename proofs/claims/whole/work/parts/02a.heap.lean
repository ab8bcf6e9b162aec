/-! the heap of values: what the class, the reference and the lists hold, as a function; and what it says of the machine's heap -/
abbrev AE : Type := (Nat × (Nat → Int32)) ⊕ (Nat × (Nat → Int32)) ⊕ (Nat × (Nat → Option Nat)) ⊕ (Nat × (Nat → Int32) × (Nat → Option Nat))
abbrev Hp : Type := Nat × (Nat → Option AE)
abbrev GG : Type := (Nat × Nat × Nat) × va_G × ClassId × ClassId × ClassId
abbrev eI (n : Nat) (f : Nat → Int32) : AE := .inl (n, f)
abbrev eZ (n : Nat) (f : Nat → Int32) : AE := .inr (.inl (n, f))
abbrev eR (n : Nat) (f : Nat → Option Nat) : AE := .inr (.inr (.inl (n, f)))
abbrev eO (ci : Nat) (I : Nat → Int32) (F : Nat → Option Nat) : AE := .inr (.inr (.inr (ci, I, F)))
def tyC (ci : Nat) : Nat → FieldType := match ci with
  | 0 => tyJx4a65c
  | 1 => tyX0
  | 2 => tyX1
  | 3 => tyX2
  | 4 => tyX3
  | 5 => tyX4
  | 6 => tyX5
  | 7 => tyX6
  | 8 => tyX7
  | _ => tyX8
def isRT (t : FieldType) : Bool := match t with
  | .object _ => true
  | .array _ => true
  | _ => false
def isR (ci k : Nat) : Bool := isRT (tyC ci k)
def fv (ci : Nat) (I : Nat → Int32) (F : Nat → Option Nat) : Nat → Value := fun k => if isR ci k then va_rf (F k) else .int (I k)
def hput (h : Hp) (a : Nat) (e : AE) : Hp := (h.1, va_up h.2 a (some e))
def hnew (h : Hp) (e : AE) : Hp := (h.1 + 1, va_up h.2 h.1 (some e))
def tysG (G : GG) : List (ClassId × FieldType) := [(G.2.2.1, .int), (G.2.2.2.1, .boolean), (G.2.2.2.2, .object "java/lang/Object")]
def KK (G : GG) (U : State) : Prop := va_K G.2.1 vwCl (tysG G) U
def AA (G : GG) : Nat → Prop := fun q => G.1.1 ≤ q
def SZ (G : GG) (U : State) (H : Heap) : Prop := va_Z "java/util/ArrayList" "DEFAULTCAPACITY_EMPTY_ELEMENTDATA" "[Ljava/lang/Object;" (.ref G.1.2.1) (AA G) U H
def rAt (G : GG) (a : Nat) (e : AE) (H : Heap) : Prop := match e with
  | .inl x => H[a]? = some (vp_cell G.2.2.1 (x.1, .inl x.2))
  | .inr (.inl x) => H[a]? = some (vp_cell G.2.2.2.1 (x.1, .inl x.2))
  | .inr (.inr (.inl x)) => (0 < x.1 → H[a]? = some (vp_cell G.2.2.2.2 (x.1, .inr (.inr (.inr (.inr x.2)))))) ∧ ∃ cell : Cell, H[a]? = some cell ∧ cell.cls = G.2.2.2.2 ∧ cell.vm.isStatics = false ∧ cell.slots.size.toInt32 = Int32.ofNat x.1
  | .inr (.inr (.inr x)) => ∃ r : vw_C, vwCl[x.1]? = some r ∧ t_OB a (G.2.1.1 x.1) r.2.2 (G.2.1.2 x.1) H (fv x.1 x.2.1 x.2.2)
def wOk (G : GG) (a : Nat) (e : AE) : Prop := G.1.1 ≤ a ∨ ∃ f, e = eR 0 f
def Rep (G : GG) (h : Hp) (H : Heap) : Prop := H.size = h.1 ∧ G.1.1 ≤ h.1 ∧ ∀ (a : Nat) (e : AE), h.2 a = some e → rAt G a e H ∧ wOk G a e
theorem rAt.kept {G : GG} {a : Nat} {e : AE} {H H1 : Heap} (h : rAt G a e H) (hq : H1[a]? = H[a]?) : rAt G a e H1 := by
  rcases e with x | x | x | x
  · exact hq.trans h
  · exact hq.trans h
  · obtain ⟨h1, cell, h2, h3⟩ := h
    exact ⟨fun z => hq.trans (h1 z), cell, hq.trans h2, h3⟩
  · obtain ⟨r, h1, h2⟩ := h
    exact ⟨r, h1, h2.kept hq⟩
theorem rAt.lt {G : GG} {a : Nat} {e : AE} {H : Heap} (h : rAt G a e H) : a < H.size := by
  rcases e with x | x | x | x
  · exact (Array.getElem?_eq_some_iff.mp h).1
  · exact (Array.getElem?_eq_some_iff.mp h).1
  · obtain ⟨h1, cell, h2, h3⟩ := h
    exact (Array.getElem?_eq_some_iff.mp h2).1
  · obtain ⟨r, h1, cell, h2, -⟩ := h
    exact (Array.getElem?_eq_some_iff.mp h2).1
theorem Rep.put {G : GG} {h : Hp} {H H1 : Heap} {a : Nat} {e : AE} (hR : Rep G h H) (hw : G.1.1 ≤ a) (hz : H1.size = H.size) (oq : ∀ q : Nat, q ≠ a → H1[q]? = H[q]?) (ha : rAt G a e H1) : Rep G (hput h a e) H1 := by
  obtain ⟨h1, h2, h3⟩ := hR
  refine ⟨hz.trans h1, h2, fun b e' hb => ?_⟩
  by_cases hq : b = a
  · subst hq
    simp only [hput, va_up, if_true, Option.some.injEq] at hb
    subst hb
    exact ⟨ha, Or.inl hw⟩
  · simp only [hput, va_up, if_neg hq] at hb
    exact ⟨(h3 b e' hb).1.kept (oq b hq), (h3 b e' hb).2⟩
theorem Rep.new {G : GG} {h : Hp} {H H1 : Heap} {e : AE} (hR : Rep G h H) (hz : H1.size = H.size + 1) (oq : ∀ q : Nat, q < H.size → H1[q]? = H[q]?) (ha : rAt G H.size e H1) : Rep G (hnew h e) H1 := by
  obtain ⟨h1, h2, h3⟩ := hR
  refine ⟨by rw [hz, h1]; rfl, Nat.le_succ_of_le h2, fun b e' hb => ?_⟩
  by_cases hq : b = h.1
  · subst hq
    simp only [hnew, va_up, if_true, Option.some.injEq] at hb
    subst hb
    rw [h1] at ha
    exact ⟨ha, Or.inl h2⟩
  · simp only [hnew, va_up, if_neg hq] at hb
    exact ⟨(h3 b e' hb).1.kept (oq b (h3 b e' hb).1.lt), (h3 b e' hb).2⟩
theorem wOk.I {G : GG} {a n : Nat} {f : Nat → Int32} (h : wOk G a (eI n f)) : G.1.1 ≤ a := by
  rcases h with h | ⟨f, h⟩
  · exact h
  · cases h
theorem wOk.Z {G : GG} {a n : Nat} {f : Nat → Int32} (h : wOk G a (eZ n f)) : G.1.1 ≤ a := by
  rcases h with h | ⟨f, h⟩
  · exact h
  · cases h
theorem wOk.R {G : GG} {a n : Nat} {f : Nat → Option Nat} (h : wOk G a (eR n f)) (hn : 0 < n) : G.1.1 ≤ a := by
  rcases h with h | ⟨f, h⟩
  · exact h
  · cases h
    exact absurd hn (Nat.lt_irrefl 0)
theorem wOk.O {G : GG} {a ci : Nat} {I : Nat → Int32} {F : Nat → Option Nat} (h : wOk G a (eO ci I F)) : G.1.1 ≤ a := by
  rcases h with h | ⟨f, h⟩
  · exact h
  · cases h
theorem fv_upd {ci k : Nat} (hk : isR ci k = false) (I : Nat → Int32) (F : Nat → Option Nat) (x : Int32) (j : Nat) : updV (fv ci I F) k (.int x) j = fv ci (upd I k x) F j := by
  by_cases hj : j = k
  · subst hj
    simp [updV, fv, upd, hk]
  · simp [updV, fv, upd, hj]
theorem fv_updR {ci k : Nat} (hk : isR ci k = true) (I : Nat → Int32) (F : Nat → Option Nat) (x : Option Nat) (j : Nat) : updV (fv ci I F) k (va_rf x) j = fv ci I (va_up F k x) j := by
  by_cases hj : j = k
  · subst hj
    simp [updV, fv, va_up, hk]
  · simp [updV, fv, va_up, hj]
/-! the operations: each says what it needs of the heap; what isn't so ends in none -/
section OPS
variable {α : Type}
def obj (h : Hp) (r : Option Nat) (ci : Nat) (K : Nat → (Nat → Int32) → (Nat → Option Nat) → Option α) : Option α := match r with
  | none => none
  | some a => match h.2 a with
    | some (.inr (.inr (.inr x))) => if x.1 = ci then K a x.2.1 x.2.2 else none
    | _ => none
def arI (h : Hp) (r : Option Nat) (K : Nat → Nat → (Nat → Int32) → Option α) : Option α := match r with
  | none => none
  | some a => match h.2 a with
    | some (.inl x) => K a x.1 x.2
    | _ => none
def arZ (h : Hp) (r : Option Nat) (K : Nat → Nat → (Nat → Int32) → Option α) : Option α := match r with
  | none => none
  | some a => match h.2 a with
    | some (.inr (.inl x)) => K a x.1 x.2
    | _ => none
def arR (h : Hp) (r : Option Nat) (K : Nat → Nat → (Nat → Option Nat) → Option α) : Option α := match r with
  | none => none
  | some a => match h.2 a with
    | some (.inr (.inr (.inl x))) => K a x.1 x.2
    | _ => none
def gI (h : Hp) (r : Option Nat) (ci k : Nat) (K : Int32 → Option α) : Option α := obj h r ci (fun _ I _ => K (I k))
def gR (h : Hp) (r : Option Nat) (ci k : Nat) (K : Option Nat → Option α) : Option α := obj h r ci (fun _ _ F => K (F k))
def pI (h : Hp) (r : Option Nat) (ci k : Nat) (x : Int32) (K : Hp → Option α) : Option α := obj h r ci (fun a I F => K (hput h a (eO ci (upd I k x) F)))
def pZ (h : Hp) (r : Option Nat) (ci k : Nat) (x : Int32) (K : Hp → Option α) : Option α := obj h r ci (fun a I F => if x = 0 ∨ x = 1 then K (hput h a (eO ci (upd I k x) F)) else none)
def pR (h : Hp) (r : Option Nat) (ci k : Nat) (x : Option Nat) (K : Hp → Option α) : Option α := obj h r ci (fun a I F => K (hput h a (eO ci I (va_up F k x))))
def rcv (h : Hp) (r : Option Nat) (ci : Nat) (K : Nat → Option α) : Option α := obj h r ci (fun a _ _ => K a)
def ldI (h : Hp) (r : Option Nat) (i : Int32) (K : Int32 → Option α) : Option α := arI h r (fun _ n f => if 0 ≤ i.toInt ∧ i.toInt < n then K (f i.toNatClampNeg) else none)
def ldZ (h : Hp) (r : Option Nat) (i : Int32) (K : Int32 → Option α) : Option α := arZ h r (fun _ n f => if 0 ≤ i.toInt ∧ i.toInt < n then K (f i.toNatClampNeg) else none)
def ldR (h : Hp) (r : Option Nat) (i : Int32) (K : Option Nat → Option α) : Option α := arR h r (fun _ n f => if 0 ≤ i.toInt ∧ i.toInt < n then K (f i.toNatClampNeg) else none)
def stI (h : Hp) (r : Option Nat) (i x : Int32) (K : Hp → Option α) : Option α := arI h r (fun a n f => if 0 ≤ i.toInt ∧ i.toInt < n then K (hput h a (eI n (upd f i.toNatClampNeg x))) else none)
def stZ (h : Hp) (r : Option Nat) (i x : Int32) (K : Hp → Option α) : Option α := arZ h r (fun a n f => if (0 ≤ i.toInt ∧ i.toInt < n) ∧ (x = 0 ∨ x = 1) then K (hput h a (eZ n (upd f i.toNatClampNeg x))) else none)
def alI (h : Hp) (r : Option Nat) (K : Int32 → Option α) : Option α := arI h r (fun _ n _ => K (Int32.ofNat n))
def alR (h : Hp) (r : Option Nat) (K : Int32 → Option α) : Option α := arR h r (fun _ n _ => K (Int32.ofNat n))
def nwO (h : Hp) (ci : Nat) (K : Nat → Hp → Option α) : Option α := K h.1 (hnew h (eO ci (fun _ => 0) (fun _ => none)))
def nwI (h : Hp) (n : Nat) (K : Nat → Hp → Option α) : Option α := K h.1 (hnew h (eI n (fun _ => 0)))
def nwZ (h : Hp) (n : Nat) (K : Nat → Hp → Option α) : Option α := K h.1 (hnew h (eZ n (fun _ => 0)))
def ckc (h : Hp) (r : Option Nat) (ci : Nat) (K : Option α) : Option α := match r with
  | none => K
  | some a => obj h (some a) ci (fun _ _ _ => K)
def bd {β : Type} (o : Option (β × Hp)) (K : β → Hp → Option α) : Option α := match o with
  | none => none
  | some x => K x.1 x.2
def dv (y : Int32) (K : Option α) : Option α := if y = 0 then none else K
def rtZ (x : Int32) (h : Hp) : Option (Int32 × Hp) := if x = 0 ∨ x = 1 then some (x, h) else none
def rtI (x : Int32) (h : Hp) : Option (Int32 × Hp) := some (x, h)
def rtR (x : Option Nat) (h : Hp) : Option (Option Nat × Hp) := some (x, h)
def rtV (h : Hp) : Option (Unit × Hp) := some ((), h)
/-- a loop: so many turns at most -/
def lp {S : Type} (B : (S → Option α) → S → Option α) : Nat → S → Option α
  | 0, _ => none
  | n + 1, s => B (lp B n) s
theorem obj_inv {h : Hp} {r : Option Nat} {ci : Nat} {K : Nat → (Nat → Int32) → (Nat → Option Nat) → Option α} {y : α} (hq : obj h r ci K = some y) : ∃ a I F, r = some a ∧ h.2 a = some (eO ci I F) ∧ K a I F = some y := by
  unfold obj at hq
  split at hq
  · cases hq
  · rename_i a
    split at hq
    · rename_i x hx
      by_cases hc : x.1 = ci
      · rw [if_pos hc] at hq
        refine ⟨a, x.2.1, x.2.2, rfl, ?_, hq⟩
        rw [hx, ← hc]
      · rw [if_neg hc] at hq
        cases hq
    · cases hq
theorem arI_inv {h : Hp} {r : Option Nat} {K : Nat → Nat → (Nat → Int32) → Option α} {y : α} (hq : arI h r K = some y) : ∃ a n f, r = some a ∧ h.2 a = some (eI n f) ∧ K a n f = some y := by
  unfold arI at hq
  split at hq
  · cases hq
  · rename_i a
    split at hq
    · rename_i x hx
      exact ⟨a, x.1, x.2, rfl, hx, hq⟩
    · cases hq
theorem arZ_inv {h : Hp} {r : Option Nat} {K : Nat → Nat → (Nat → Int32) → Option α} {y : α} (hq : arZ h r K = some y) : ∃ a n f, r = some a ∧ h.2 a = some (eZ n f) ∧ K a n f = some y := by
  unfold arZ at hq
  split at hq
  · cases hq
  · rename_i a
    split at hq
    · rename_i x hx
      exact ⟨a, x.1, x.2, rfl, hx, hq⟩
    · cases hq
theorem arR_inv {h : Hp} {r : Option Nat} {K : Nat → Nat → (Nat → Option Nat) → Option α} {y : α} (hq : arR h r K = some y) : ∃ a n f, r = some a ∧ h.2 a = some (eR n f) ∧ K a n f = some y := by
  unfold arR at hq
  split at hq
  · cases hq
  · rename_i a
    split at hq
    · rename_i x hx
      exact ⟨a, x.1, x.2, rfl, hx, hq⟩
    · cases hq
theorem ite_inv {c : Prop} [Decidable c] {A : Option α} {y : α} (hq : (if c then A else none) = some y) : c ∧ A = some y := by
  by_cases h : c
  · rw [if_pos h] at hq
    exact ⟨h, hq⟩
  · rw [if_neg h] at hq
    cases hq
theorem ite_t {c : Prop} [Decidable c] {A B : Option α} {y : α} (hq : (if c then A else B) = some y) (h : c) : A = some y := by rwa [if_pos h] at hq
theorem ite_f {c : Prop} [Decidable c] {A B : Option α} {y : α} (hq : (if c then A else B) = some y) (h : ¬ c) : B = some y := by rwa [if_neg h] at hq
theorem bd_inv {β : Type} {o : Option (β × Hp)} {K : β → Hp → Option α} {y : α} (hq : bd o K = some y) : ∃ r h, o = some (r, h) ∧ K r h = some y := by
  unfold bd at hq
  split at hq
  · cases hq
  · rename_i x
    exact ⟨x.1, x.2, rfl, hq⟩
theorem dv_inv {z : Int32} {K : Option α} {y : α} (hq : dv z K = some y) : ¬ z = 0 ∧ K = some y := by
  unfold dv at hq
  by_cases h : z = 0
  · rw [if_pos h] at hq
    cases hq
  · rw [if_neg h] at hq
    exact ⟨h, hq⟩
theorem vp_in_of2 {i : Int32} {n : Nat} (h : 0 ≤ i.toInt ∧ i.toInt < n) : vp_in i n := vp_in_iff.mpr h
theorem lp_ind {S : Type} {B : (S → Option α) → S → Option α} {y : α} {P : S → Prop} (hs : ∀ k : S → Option α, (∀ s, k s = some y → P s) → ∀ s, B k s = some y → P s) : ∀ (n : Nat) (s : S), lp B n s = some y → P s
  | 0, s, h => by cases h
  | n + 1, s, h => hs (lp B n) (lp_ind hs n) s h
end OPS
