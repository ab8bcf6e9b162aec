/-! new objects: the heap with a list of cells at its end -/
def lH (h : Hp) (x : Nat) (l : List AE) : Hp := (x + l.length, fun q => if x ≤ q ∧ q < x + l.length then l[q - x]? else h.2 q)
theorem lH_at (h : Hp) (x : Nat) (l : List AE) {i : Nat} (hi : i < l.length) : (lH h x l).2 (x + i) = l[i]? := by
  show (if x ≤ x + i ∧ x + i < x + l.length then l[x + i - x]? else h.2 (x + i)) = _
  rw [if_pos (by omega), show x + i - x = i by omega]
theorem lH_out (h : Hp) (x : Nat) (l : List AE) {q : Nat} (hq : q < x ∨ x + l.length ≤ q) : (lH h x l).2 q = h.2 q := by
  show (if x ≤ q ∧ q < x + l.length then l[q - x]? else h.2 q) = _
  rw [if_neg (by omega)]
theorem lH_nil {h : Hp} {x : Nat} (e : h.1 = x) : h = lH h x [] := by
  refine Prod.ext e ?_
  funext q
  rw [lH_out h x [] (by simp; omega)]
theorem lH_new (h : Hp) (x : Nat) (l : List AE) (e : AE) : hnew (lH h x l) e = lH h x (l ++ [e]) := by
  refine Prod.ext (by show x + l.length + 1 = x + (l ++ [e]).length; simp; omega) ?_
  funext q
  show va_up (lH h x l).2 (x + l.length) (some e) q = (lH h x (l ++ [e])).2 q
  by_cases c : q = x + l.length
  · rw [c, va_up_self, lH_at h x (l ++ [e]) (by simp)]
    simp
  · rw [va_up_ne _ _ c]
    by_cases d : x ≤ q ∧ q < x + l.length
    · obtain ⟨i, rfl⟩ : ∃ i, q = x + i := ⟨q - x, by omega⟩
      rw [lH_at h x l (by omega), lH_at h x (l ++ [e]) (by simp; omega), List.getElem?_append_left (by omega)]
    · rw [lH_out h x l (by omega), lH_out h x (l ++ [e]) (by simp; omega)]
theorem lH_put (h : Hp) (x : Nat) (l : List AE) {i : Nat} (hi : i < l.length) (e : AE) : hput (lH h x l) (x + i) e = lH h x (l.set i e) := by
  refine Prod.ext (by show x + l.length = x + (l.set i e).length; simp) ?_
  funext q
  show va_up (lH h x l).2 (x + i) (some e) q = (lH h x (l.set i e)).2 q
  by_cases c : q = x + i
  · rw [c, va_up_self, lH_at h x (l.set i e) (by simpa using hi)]
    simp [hi]
  · rw [va_up_ne _ _ c]
    by_cases d : x ≤ q ∧ q < x + l.length
    · obtain ⟨j, rfl⟩ : ∃ j, q = x + j := ⟨q - x, by omega⟩
      rw [lH_at h x l (by omega), lH_at h x (l.set i e) (by simp; omega), List.getElem?_set_ne (by omega)]
    · rw [lH_out h x l (by omega), lH_out h x (l.set i e) (by simp; omega)]
section
variable {α : Type} {h : Hp} {x : Nat} {l : List AE}
theorem L_nwO {ci : Nat} (K : Nat → Hp → Option α) : nwO (lH h x l) ci K = K (x + l.length) (lH h x (l ++ [eO ci (fun _ => 0) (fun _ => none)])) := by
  unfold nwO; rw [lH_new]; rfl
theorem L_nwI {n : Nat} (K : Nat → Hp → Option α) : nwI (lH h x l) n K = K (x + l.length) (lH h x (l ++ [eI n (fun _ => 0)])) := by
  unfold nwI; rw [lH_new]; rfl
theorem L_nwZ {n : Nat} (K : Nat → Hp → Option α) : nwZ (lH h x l) n K = K (x + l.length) (lH h x (l ++ [eZ n (fun _ => 0)])) := by
  unfold nwZ; rw [lH_new]; rfl
theorem L_pR {i ci k : Nat} {v : Option Nat} {I : Nat → Int32} {F : Nat → Option Nat} (hi : l[i]? = some (eO ci I F)) (K : Hp → Option α) : pR (lH h x l) (some (x + i)) ci k v K = K (lH h x (l.set i (eO ci I (va_up F k v)))) := by
  have hlt : i < l.length := (List.getElem?_eq_some_iff.1 hi).1
  unfold pR
  rw [obj_at (by rw [lH_at h x l hlt]; exact hi), lH_put h x l hlt]
theorem L_pI {i ci k : Nat} {v : Int32} {I : Nat → Int32} {F : Nat → Option Nat} (hi : l[i]? = some (eO ci I F)) (K : Hp → Option α) : pI (lH h x l) (some (x + i)) ci k v K = K (lH h x (l.set i (eO ci (upd I k v) F))) := by
  have hlt : i < l.length := (List.getElem?_eq_some_iff.1 hi).1
  unfold pI
  rw [obj_at (by rw [lH_at h x l hlt]; exact hi), lH_put h x l hlt]
theorem L_gR {i ci k : Nat} {I : Nat → Int32} {F : Nat → Option Nat} (hi : l[i]? = some (eO ci I F)) (K : Option Nat → Option α) : gR (lH h x l) (some (x + i)) ci k K = K (F k) := by
  have hlt : i < l.length := (List.getElem?_eq_some_iff.1 hi).1
  unfold gR
  rw [obj_at (by rw [lH_at h x l hlt]; exact hi)]
theorem L_rc {i ci : Nat} {I : Nat → Int32} {F : Nat → Option Nat} (hi : l[i]? = some (eO ci I F)) (K : Nat → Option α) : rcv (lH h x l) (some (x + i)) ci K = K (x + i) := by
  have hlt : i < l.length := (List.getElem?_eq_some_iff.1 hi).1
  unfold rcv
  rw [obj_at (by rw [lH_at h x l hlt]; exact hi)]
theorem L_stI {i n : Nat} {f : Nat → Int32} {z v : Int} (hi : l[i]? = some (eI n f)) (z0 : 0 ≤ z) (z1 : z < n) (hn : n ≤ 2000) (K : Hp → Option α) : stI (lH h x l) (some (x + i)) (iI z) (iI v) K = K (lH h x (l.set i (eI n (upd f z.toNat (iI v))))) := by
  have hlt : i < l.length := (List.getElem?_eq_some_iff.1 hi).1
  have e : (lH h x l).2 (x + i) = some (eI n f) := by rw [lH_at h x l hlt]; exact hi
  unfold stI
  simp only [arI, e]
  rw [iI_toInt (by omega) (by omega), if_pos ⟨z0, z1⟩, iI_clamp (by omega) (by omega), lH_put h x l hlt]
end
