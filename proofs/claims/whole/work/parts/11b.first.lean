/-! the first best of a list -/
theorem alL_mem (n : Nat) : ∀ (k : Nat) (l : List Nat), l.length = k → (∀ a, a ∈ l → a < n) → l ∈ alL n k
  | 0, l, h, _ => by
    have : l = [] := List.eq_nil_of_length_eq_zero h
    rw [this]
    exact List.mem_singleton.2 rfl
  | k + 1, [], h, _ => by simp at h
  | k + 1, a :: t, h, ha => by
    unfold alL
    rw [List.mem_flatMap]
    refine ⟨t, alL_mem n k t (by simpa using h) (fun b hb => ha b (List.mem_cons_of_mem _ hb)), ?_⟩
    rw [List.mem_map]
    exact ⟨a, List.mem_range.2 (ha a (List.mem_cons_self ..)), rfl⟩
def ltL (lk : Nat → Nat) (n : Nat) : List Nat := (List.range n).map lk
theorem gtL_ltL {lk : Nat → Nat} {n b : Nat} (h : b < n) : gtL (ltL lk n) b = lk b := by
  unfold gtL ltL
  simp [List.getD, h]
theorem chk {lk : Nat → Nat} {n : Nat} (h1 : 1 ≤ n) (h5 : n ≤ 5) (hl : ∀ b, b < n → lk b < n ∧ lk (lk b) = b) : ddL (pmL (gtL (ltL lk n)) n) = dfL (gtL (ltL lk n)) n 7 (fun _ => false) := by
  have hin : inL (ltL lk n) n = true := by
    unfold inL
    rw [List.all_eq_true]
    intro i hi
    rw [List.mem_range] at hi
    obtain ⟨z1, z2⟩ := hl i hi
    rw [gtL_ltL hi, gtL_ltL z1]
    simp [z1, z2]
  have hmem : ltL lk n ∈ alL n n := alL_mem n n _ (by simp [ltL]) (fun a ha => by
    unfold ltL at ha
    rw [List.mem_map] at ha
    obtain ⟨b, b1, b2⟩ := ha
    rw [List.mem_range] at b1
    rw [← b2]
    exact (hl b b1).1)
  have key : okL (ltL lk n) n = true := by
    have : n = 1 ∨ n = 2 ∨ n = 3 ∨ n = 4 ∨ n = 5 := by omega
    have fin : (alL n n).all (fun l => !inL l n || okL l n) = true := by
      rcases this with rfl | rfl | rfl | rfl | rfl
      · exact chk1
      · exact chk2
      · exact chk3
      · exact chk4
      · exact chk5
    have := List.all_eq_true.1 fin _ hmem
    rw [hin] at this
    simpa using this
  unfold okL at key
  simpa using key
section
def fm (W : List Nat → Int) (a : Int × (List Nat)) (xs : List (List Nat)) : Int × (List Nat) := xs.foldl (fun a x => if a.1 < W x then (W x, x) else a) a
theorem fm_ge (W : List Nat → Int) : ∀ (xs : List (List Nat)) (a : Int × (List Nat)), a.1 ≤ (fm W a xs).1
  | [], a => Int.le_refl _
  | x :: xs, a => by
    have := fm_ge W xs (if a.1 < W x then (W x, x) else a)
    have e : fm W a (x :: xs) = fm W (if a.1 < W x then (W x, x) else a) xs := rfl
    rw [e]
    split at this
    · rename_i h
      rw [if_pos h]
      have h2 : W x ≤ (fm W (W x, x) xs).1 := this
      omega
    · rename_i h
      rw [if_neg h]
      exact this
theorem fm_low (W : List Nat → Int) : ∀ (xs : List (List Nat)) (a : Int × (List Nat)), (∀ x, x ∈ xs → W x ≤ a.1) → fm W a xs = a
  | [], a, _ => rfl
  | x :: xs, a, h => by
    have hx := h x (List.mem_cons_self ..)
    have e : fm W a (x :: xs) = fm W (if a.1 < W x then (W x, x) else a) xs := rfl
    rw [e, if_neg (by omega)]
    exact fm_low W xs a (fun y hy => h y (List.mem_cons_of_mem _ hy))
theorem fm_app (W : List Nat → Int) (xs ys : List (List Nat)) (a : Int × (List Nat)) : fm W a (xs ++ ys) = fm W (fm W a xs) ys := List.foldl_append
theorem fm_filter (W : List Nat → Int) (x : (List Nat)) : ∀ (xs : List (List Nat)) (a : Int × (List Nat)), W x ≤ a.1 → fm W a (xs.filter (fun y => decide (y ≠ x))) = fm W a xs
  | [], a, _ => rfl
  | y :: xs, a, h => by
    have e : fm W a (y :: xs) = fm W (if a.1 < W y then (W y, y) else a) xs := rfl
    by_cases q : y = x
    · subst q
      rw [List.filter_cons_of_neg (by simp), e, if_neg (by omega)]
      exact fm_filter W y xs a h
    · rw [List.filter_cons_of_pos (by simp [q]), e]
      show fm W (if a.1 < W y then (W y, y) else a) (xs.filter _) = _
      refine fm_filter W x xs _ ?_
      split
      · show W x ≤ W y; omega
      · exact h
end
theorem fm_dd (W : List Nat → Int) : ∀ (xs : List (List Nat)) (a : Int × List Nat), fm W a (ddL xs) = fm W a xs
  | [], _ => rfl
  | x :: xs, a => by
    have e : fm W a (x :: xs) = fm W (if a.1 < W x then (W x, x) else a) xs := rfl
    unfold ddL
    show fm W (if a.1 < W x then (W x, x) else a) ((ddL xs).filter _) = _
    rw [e, fm_filter W x (ddL xs) _ (by
      split
      · exact Int.le_refl _
      · omega), fm_dd W xs]
/-- the reference's way over numbers p, held against the list -/
def bsP (V : Nat → Int) : Nat → Int × Nat
  | 0 => (-1, 0)
  | p + 1 => if (bsP V p).1 < V p then (V p, p) else bsP V p
theorem bsP_fm {V : Nat → Int} {X : Nat → List Nat} {W : List Nat → Int} {N : Nat} (hV : ∀ p, p < N → V p = W (X p)) (h0 : ∀ p, p < N → 0 ≤ V p) : ∀ p, p ≤ N → (bsP V p).1 = (fm W (-1, []) ((List.range p).map X)).1 ∧ (0 < p → X (bsP V p).2 = (fm W (-1, []) ((List.range p).map X)).2 ∧ (bsP V p).2 < p ∧ 0 ≤ (bsP V p).1)
  | 0, _ => ⟨rfl, fun h => absurd h (Nat.lt_irrefl _)⟩
  | p + 1, hp => by
    obtain ⟨h1, h2⟩ := bsP_fm hV h0 p (by omega)
    have e : fm W (-1, []) ((List.range (p + 1)).map X) = if (fm W (-1, []) ((List.range p).map X)).1 < W (X p) then (W (X p), X p) else fm W (-1, []) ((List.range p).map X) := by
      rw [List.range_succ, List.map_append, fm_app]
      rfl
    rw [e]
    unfold bsP
    rw [h1, hV p (by omega)]
    by_cases c : (fm W (-1, []) ((List.range p).map X)).1 < W (X p)
    · rw [if_pos c, if_pos c]
      exact ⟨rfl, fun _ => ⟨rfl, Nat.lt_succ_self _, by show 0 ≤ W (X p); rw [← hV p (by omega)]; exact h0 p (by omega)⟩⟩
    · rw [if_neg c, if_neg c]
      refine ⟨h1, fun _ => ?_⟩
      by_cases q : 0 < p
      · obtain ⟨z1, z2, z3⟩ := h2 q
        exact ⟨z1, by omega, z3⟩
      · exfalso
        have ep : p = 0 := by omega
        subst ep
        apply c
        show (-1 : Int) < W (X 0)
        have := h0 0 (by omega)
        rw [hV 0 (by omega)] at this
        omega
theorem fm_mem (W : List Nat → Int) : ∀ (xs : List (List Nat)) (a : Int × List Nat), fm W a xs = a ∨ ((fm W a xs).2 ∈ xs ∧ (fm W a xs).1 = W (fm W a xs).2)
  | [], _ => Or.inl rfl
  | x :: xs, a => by
    have e : fm W a (x :: xs) = fm W (if a.1 < W x then (W x, x) else a) xs := rfl
    rw [e]
    by_cases c : a.1 < W x
    · rw [if_pos c]
      rcases fm_mem W xs (W x, x) with z | z
      · rw [z]
        exact Or.inr ⟨List.mem_cons_self .., rfl⟩
      · exact Or.inr ⟨List.mem_cons_of_mem _ z.1, z.2⟩
    · rw [if_neg c]
      rcases fm_mem W xs a with z | z
      · exact Or.inl z
      · exact Or.inr ⟨List.mem_cons_of_mem _ z.1, z.2⟩
theorem fm_congr {W W' : List Nat → Int} : ∀ (xs : List (List Nat)) (a : Int × List Nat), (∀ x, x ∈ xs → W x = W' x) → fm W a xs = fm W' a xs
  | [], _, _ => rfl
  | x :: xs, a, h => by
    have e : ∀ W : List Nat → Int, fm W a (x :: xs) = fm W (if a.1 < W x then (W x, x) else a) xs := fun _ => rfl
    rw [e W, e W', h x (List.mem_cons_self ..)]
    exact fm_congr xs _ (fun y hy => h y (List.mem_cons_of_mem _ hy))
/-- an order of heads: each has not come when it comes -/
def HD (lk : Nat → Nat) (n : Nat) : (Nat → Bool) → List Nat → Prop
  | _, [] => True
  | x, b :: l => (b < n ∧ x b = false) ∧ HD lk n (cU lk x b) l
theorem dfL_HD (lk : Nat → Nat) (n : Nat) : ∀ (f : Nat) (x : Nat → Bool) (s : List Nat), s ∈ dfL lk n f x → HD lk n x s
  | 0, x, s, hs => by
    have : s = [] := by simpa [dfL] using hs
    subst this
    exact trivial
  | f + 1, x, s, hs => by
    unfold dfL at hs
    split at hs
    · have : s = [] := by simpa using hs
      subst this
      exact trivial
    · rw [List.mem_flatMap] at hs
      obtain ⟨i, i1, i2⟩ := hs
      rw [List.mem_map] at i2
      obtain ⟨s', s1, s2⟩ := i2
      rw [List.mem_filter, List.mem_range] at i1
      rw [← s2]
      exact ⟨⟨i1.1, by simpa using i1.2⟩, dfL_HD lk n f _ s' s1⟩
theorem HD_mem {lk : Nat → Nat} {n : Nat} : ∀ {x : Nat → Bool} {l : List Nat}, HD lk n x l → ∀ b, b ∈ l → b < n
  | _, [], _, b, hb => by cases hb
  | x, a :: l, h, b, hb => by
    rcases List.mem_cons.1 hb with z | z
    · rw [z]; exact h.1.1
    · exact HD_mem h.2 b z
/-! bids come in a list -/
def gs (lk : Nat → Nat) (x : Sg × (Nat → Bool)) (b : Nat) : Sg × (Nat → Bool) := if x.2 b then x else (comeS x.1 b, cU lk x.2 b)
def goL (lk : Nat → Nat) (σ : Sg) (l : List Nat) : Sg × (Nat → Bool) := l.foldl (gs lk) (clrS σ, fun _ => false)
theorem gs_rd (lk : Nat → Nat) : ∀ (l : List Nat) (x : Sg × (Nat → Bool)), l.foldl (gs lk) x = (rdL lk x.2 l).foldl (gs lk) x
  | [], _ => rfl
  | b :: l, x => by
    unfold rdL
    by_cases c : x.2 b = true
    · rw [if_pos c]
      show l.foldl (gs lk) (gs lk x b) = _
      have e : gs lk x b = x := by unfold gs; rw [if_pos c]
      rw [e]
      exact gs_rd lk l x
    · rw [if_neg c]
      show l.foldl (gs lk) (gs lk x b) = (rdL lk (cU lk x.2 b) l).foldl (gs lk) (gs lk x b)
      have e : (gs lk x b).2 = cU lk x.2 b := by unfold gs; rw [if_neg c]
      rw [gs_rd lk l (gs lk x b), e]
def lkN (σ : Sg) (b : Nat) : Nat := if σ 18 b = -1 then b else (σ 18 b).toNat
theorem goF_goL {σ : Sg} {n : Nat} (hn : (n : Int) = σ 9 0) (hl : LSy σ) {f : Nat → Nat} (hf : ∀ k, k < n → f k < n) {lk : Nat → Nat} (hlk : ∀ b, b < n → lk b = lkN σ b) : ∀ k, k ≤ n → goF σ f k = goL lk σ ((List.range k).map f)
  | 0, _ => rfl
  | k + 1, hk => by
    have ih := goF_goL hn hl hf hlk k (by omega)
    unfold goF
    rw [ih]
    have e : goL lk σ ((List.range (k + 1)).map f) = gs lk (goL lk σ ((List.range k).map f)) (f k) := by
      unfold goL
      rw [List.range_succ, List.map_append, List.foldl_append]
      rfl
    rw [e]
    unfold gs
    by_cases c : (goL lk σ ((List.range k).map f)).2 (f k) = true
    · rw [if_pos c, if_pos c]
    · rw [if_neg c, if_neg c]
      congr 1
      funext i
      unfold cU
      rw [hlk _ (hf k (by omega))]
      unfold lkN
      rcases hl (f k) (by have := hf k (by omega); omega) with z | ⟨z1, z2, z3, z4⟩
      · rw [if_pos z, z]
        have : decide ((i : Int) = -1) = false := by simp only [decide_eq_false_iff_not]; omega
        rw [this, Bool.or_false, Bool.or_assoc, Bool.or_self]
      · rw [if_neg (by omega)]
        congr 1
        apply Bool.eq_iff_iff.2
        simp only [decide_eq_true_eq]
        omega
