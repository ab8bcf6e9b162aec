/-! the parts of a new object -/
theorem lH_app (h : Hp) (x : Nat) (P l : List AE) : lH (lH h x P) (x + P.length) l = lH h x (P ++ l) := by
  refine Prod.ext (by show x + P.length + l.length = x + (P ++ l).length; simp; omega) ?_
  funext q
  by_cases c : q < x + P.length
  · rw [lH_out _ _ l (Or.inl c)]
    by_cases d : x ≤ q
    · obtain ⟨i, rfl⟩ : ∃ i, q = x + i := ⟨q - x, by omega⟩
      rw [lH_at h x P (by omega), lH_at h x (P ++ l) (by simp; omega), List.getElem?_append_left (by omega)]
    · rw [lH_out h x P (by omega), lH_out h x (P ++ l) (by omega)]
  · by_cases d : q < x + P.length + l.length
    · obtain ⟨i, rfl⟩ : ∃ i, q = x + P.length + i := ⟨q - (x + P.length), by omega⟩
      rw [lH_at _ _ l (by omega), Nat.add_assoc, lH_at h x (P ++ l) (by simp; omega), List.getElem?_append_right (by omega)]
      congr 1
      omega
    · rw [lH_out _ _ l (by omega), lH_out h x P (by omega), lH_out h x (P ++ l) (by simp; omega)]
section
variable {α : Type} {h : Hp} {x : Nat} {l : List AE}
theorem L0_pR {ci k : Nat} {v : Option Nat} {I : Nat → Int32} {F : Nat → Option Nat} (hi : l[0]? = some (eO ci I F)) (K : Hp → Option α) : pR (lH h x l) (some x) ci k v K = K (lH h x (l.set 0 (eO ci I (va_up F k v)))) := L_pR (i := 0) hi K
theorem L0_pI {ci k : Nat} {v : Int32} {I : Nat → Int32} {F : Nat → Option Nat} (hi : l[0]? = some (eO ci I F)) (K : Hp → Option α) : pI (lH h x l) (some x) ci k v K = K (lH h x (l.set 0 (eO ci (upd I k v) F))) := L_pI (i := 0) hi K
theorem L0_gR {ci k : Nat} {I : Nat → Int32} {F : Nat → Option Nat} (hi : l[0]? = some (eO ci I F)) (K : Option Nat → Option α) : gR (lH h x l) (some x) ci k K = K (F k) := L_gR (i := 0) hi K
theorem L_sub {ci : Nat} {f : Nat → Hp → Option (Unit × Hp)} {C : Nat → List AE} (hf : ∀ h y, f y (lH h y [eO ci (fun _ => 0) (fun _ => none)]) = some ((), lH h y (C y))) (K : Nat → Hp → Option α) : nwO (lH h x l) ci (fun n h => bd (f n h) (fun _ h => K n h)) = K (x + l.length) (lH h x (l ++ C (x + l.length))) := by
  rw [L_nwO, ← lH_app h x l [eO ci (fun _ => 0) (fun _ => none)], hf, bd_s, lH_app]
end
def C_X4 (a0 : Option Nat) (a1 : Option Nat) (y : Nat) : List AE := [eO 5 (fun _ => 0) (va_up (va_up (va_up (va_up (va_up (va_up (va_up (fun _ => none) 2 (some (y + 1))) 3 (some (y + 2))) 4 (some (y + 3))) 5 (some (y + 4))) 6 (some (y + 5))) 0 a0) 1 a1), eZ 1920 (fun _ => 0), eZ 240 (fun _ => 0), eI 240 (fun _ => 0), eI 8 (fun _ => 0), eI 8 (fun _ => 0)]
theorem i_X4 (a0 : Option Nat) (a1 : Option Nat) (h : Hp) (y : Nat) : f_X4_init y a0 a1 (lH h y [eO 5 (fun _ => 0) (fun _ => none)]) = some ((), lH h y (C_X4 a0 a1 y)) := by
  unfold f_X4_init
  refine (L_nwZ _).trans ?_
  refine (L0_pR (by rfl) _).trans ?_
  refine (L_nwZ _).trans ?_
  refine (L0_pR (by rfl) _).trans ?_
  refine (L_nwI _).trans ?_
  refine (L0_pR (by rfl) _).trans ?_
  refine (L_nwI _).trans ?_
  refine (L0_pR (by rfl) _).trans ?_
  refine (L_nwI _).trans ?_
  refine (L0_pR (by rfl) _).trans ?_
  refine (L0_pR (by rfl) _).trans ?_
  refine (L0_pR (by rfl) _).trans ?_
  rfl
def C_X5 (a0 : Option Nat) (a1 : Option Nat) (y : Nat) : List AE := [eO 6 (fun _ => 0) (va_up (va_up (va_up (va_up (va_up (fun _ => none) 2 (some (y + 1))) 3 (some (y + 2))) 4 (some (y + 3))) 0 a0) 1 a1), eZ 16 (fun _ => 0), eI 5 (fun _ => 0), eI 5 (fun _ => 0)]
theorem i_X5 (a0 : Option Nat) (a1 : Option Nat) (h : Hp) (y : Nat) : f_X5_init y a0 a1 (lH h y [eO 6 (fun _ => 0) (fun _ => none)]) = some ((), lH h y (C_X5 a0 a1 y)) := by
  unfold f_X5_init
  refine (L_nwZ _).trans ?_
  refine (L0_pR (by rfl) _).trans ?_
  refine (L_nwI _).trans ?_
  refine (L0_pR (by rfl) _).trans ?_
  refine (L_nwI _).trans ?_
  refine (L0_pR (by rfl) _).trans ?_
  refine (L0_pR (by rfl) _).trans ?_
  refine (L0_pR (by rfl) _).trans ?_
  rfl
def C_X2 (a0 : Option Nat) (a1 : Option Nat) (y : Nat) : List AE := [eO 3 (fun _ => 0) (va_up (va_up (fun _ => none) 0 a0) 1 a1)]
theorem i_X2 (a0 : Option Nat) (a1 : Option Nat) (h : Hp) (y : Nat) : f_X2_init y a0 a1 (lH h y [eO 3 (fun _ => 0) (fun _ => none)]) = some ((), lH h y (C_X2 a0 a1 y)) := by
  unfold f_X2_init
  refine (L0_pR (by rfl) _).trans ?_
  refine (L0_pR (by rfl) _).trans ?_
  rfl
def C_X6 (a0 : Option Nat) (a1 : Option Nat) (y : Nat) : List AE := [eO 7 (fun _ => 0) (va_up (va_up (va_up (va_up (va_up (va_up (va_up (va_up (va_up (va_up (fun _ => none) 3 (some (y + 1))) 4 (some (y + 2))) 5 (some (y + 3))) 6 (some (y + 4))) 7 (some (y + 5))) 8 (some (y + 6))) 9 (some (y + 7))) 10 (some (y + 8))) 0 a0) 1 a1), eI 16 (fun _ => 0), eI 16 (fun _ => 0), eI 16 (fun _ => 0), eI 16 (fun _ => 0), eI 16 (fun _ => 0), eI 256 (fun _ => 0), eI 16 (fun _ => 0), eI 16 (fun _ => 0)]
theorem i_X6 (a0 : Option Nat) (a1 : Option Nat) (h : Hp) (y : Nat) : f_X6_init y a0 a1 (lH h y [eO 7 (fun _ => 0) (fun _ => none)]) = some ((), lH h y (C_X6 a0 a1 y)) := by
  unfold f_X6_init
  refine (L_nwI _).trans ?_
  refine (L0_pR (by rfl) _).trans ?_
  refine (L_nwI _).trans ?_
  refine (L0_pR (by rfl) _).trans ?_
  refine (L_nwI _).trans ?_
  refine (L0_pR (by rfl) _).trans ?_
  refine (L_nwI _).trans ?_
  refine (L0_pR (by rfl) _).trans ?_
  refine (L_nwI _).trans ?_
  refine (L0_pR (by rfl) _).trans ?_
  refine (L_nwI _).trans ?_
  refine (L0_pR (by rfl) _).trans ?_
  refine (L_nwI _).trans ?_
  refine (L0_pR (by rfl) _).trans ?_
  refine (L_nwI _).trans ?_
  refine (L0_pR (by rfl) _).trans ?_
  refine (L0_pR (by rfl) _).trans ?_
  refine (L0_pR (by rfl) _).trans ?_
  rfl
def C_X1 (E : Nat × Nat) (y : Nat) : List AE := [eO 2 (fun _ => 0) (va_up (va_up (fun _ => none) 0 (some (y + 1))) 1 (some (y + 2))), eO 0 (upd (fun _ => 0) 0 0) (va_up (fun _ => none) 1 (some E.1)), eO 0 (upd (fun _ => 0) 0 0) (va_up (fun _ => none) 1 (some E.1))]
theorem i_J (E : Nat × Nat) (h : Hp) (y : Nat) : f_Jx4a65c_init_da8c8 E y (lH h y [eO 0 (fun _ => 0) (fun _ => none)]) = some ((), lH h y [eO 0 (upd (fun _ => 0) 0 0) (va_up (fun _ => none) 1 (some E.1))]) := by
  unfold f_Jx4a65c_init_da8c8 f_Jxc12de_init_da8c8 f_Jxa1e45_init_da8c8 rtV
  rw [bd_s]
  have e1 : (pI (lH h y [eO 0 (fun _ => 0) (fun _ => none)]) (some y) 0 0 0 (fun h => some ((), h))) = some ((), lH h y [eO 0 (upd (fun _ => 0) 0 0) (fun _ => none)]) := L0_pI (by rfl) _
  rw [e1, bd_s]
  refine (L0_pR (by rfl) _).trans ?_
  rfl
theorem i_X1 (E : Nat × Nat) (h : Hp) (y : Nat) : f_X1_init E y (lH h y [eO 2 (fun _ => 0) (fun _ => none)]) = some ((), lH h y (C_X1 E y)) := by
  unfold f_X1_init
  refine (L_sub (fun h y => i_J E h y) _).trans ?_
  refine (L0_pR (by rfl) _).trans ?_
  refine (L_sub (fun h y => i_J E h y) _).trans ?_
  refine (L0_pR (by rfl) _).trans ?_
  rfl
def gj (v : Int) (j : Nat) : Nat → Int32 := fun i => if i < j then iI v else 0
theorem gj_s (v : Int) (j : Nat) : upd (gj v j) j (iI v) = gj v (j + 1) := by
  funext i
  unfold upd gj
  by_cases c : i = j
  · rw [if_pos c, if_pos (by omega)]
  · rw [if_neg c]
    by_cases d : i < j
    · rw [if_pos d, if_pos (by omega)]
    · rw [if_neg d, if_neg (by omega)]
theorem gj_0 (v : Int) : gj v 0 = fun _ => 0 := by
  funext i
  unfold gj
  rw [if_neg (by omega)]
def C_X3 (a0 : Int32) (y : Nat) : List AE := [eO 4 (upd (upd (fun _ => 0) 9 1) 0 a0) (va_up (va_up (va_up (va_up (va_up (va_up (va_up (fun _ => none) 1 (some (y + 1))) 2 (some (y + 2))) 3 (some (y + 3))) 4 (some (y + 4))) 5 (some (y + 5))) 6 (some (y + 6))) 7 (some (y + 7))), eZ 8 (fun _ => 0), eI 8 (gj 5 8), eI 8 (gj 8 8), eI 8 (gj 2 8), eI 10 (fun _ => 0), eI 10 (fun _ => 0), eI 10 (fun _ => 0)]
theorem i_X3 (a0 : Int32) (h : Hp) (y : Nat) : f_X3_init y a0 (lH h y [eO 4 (fun _ => 0) (fun _ => none)]) = some ((), lH h y (C_X3 a0 y)) := by
  unfold f_X3_init
  refine (L_nwZ _).trans ?_
  refine (L0_pR (by rfl) _).trans ?_
  refine (L_nwI _).trans ?_
  refine (L0_pR (by rfl) _).trans ?_
  refine (L_nwI _).trans ?_
  refine (L0_pR (by rfl) _).trans ?_
  refine (L_nwI _).trans ?_
  refine (L0_pR (by rfl) _).trans ?_
  refine (L_nwI _).trans ?_
  refine (L0_pR (by rfl) _).trans ?_
  refine (L_nwI _).trans ?_
  refine (L0_pR (by rfl) _).trans ?_
  refine (L_nwI _).trans ?_
  refine (L0_pR (by rfl) _).trans ?_
  refine (L0_pI (by rfl) _).trans ?_
  refine (L0_pI (by rfl) _).trans ?_
  show f_X3_init_72 (some y) 0 (lH h y [eO 4 (upd (upd (fun _ => 0) 9 1) 0 a0) (va_up (va_up (va_up (va_up (va_up (va_up (va_up (fun _ => none) 1 (some (y + 1))) 2 (some (y + 2))) 3 (some (y + 3))) 4 (some (y + 4))) 5 (some (y + 5))) 6 (some (y + 6))) 7 (some (y + 7))), eZ 8 (fun _ => 0), eI 8 (fun _ => 0), eI 8 (fun _ => 0), eI 8 (fun _ => 0), eI 10 (fun _ => 0), eI 10 (fun _ => 0), eI 10 (fun _ => 0)]) = _
  unfold f_X3_init_72
  rw [iI_0]
  have := lp_count (B := fun k72 w => fb_X3_init_72 k72 w.1 w.2.1 w.2.2) (fun j => (some y, iI (j : Int), lH h y [eO 4 (upd (upd (fun _ => 0) 9 1) 0 a0) (va_up (va_up (va_up (va_up (va_up (va_up (va_up (fun _ => none) 1 (some (y + 1))) 2 (some (y + 2))) 3 (some (y + 3))) 4 (some (y + 4))) 5 (some (y + 5))) 6 (some (y + 6))) 7 (some (y + 7))), eZ 8 (fun _ => 0), eI 8 (gj 5 j), eI 8 (gj 8 j), eI 8 (gj 2 j), eI 10 (fun _ => 0), eI 10 (fun _ => 0), eI 10 (fun _ => 0)])) 8 (some ((), lH h y (C_X3 a0 y)))
    (fun j hj k => by
      show fb_X3_init_72 k (some y) (iI (j : Int)) (lH h y [eO 4 (upd (upd (fun _ => 0) 9 1) 0 a0) (va_up (va_up (va_up (va_up (va_up (va_up (va_up (fun _ => none) 1 (some (y + 1))) 2 (some (y + 2))) 3 (some (y + 3))) 4 (some (y + 4))) 5 (some (y + 5))) 6 (some (y + 6))) 7 (some (y + 7))), eZ 8 (fun _ => 0), eI 8 (gj 5 j), eI 8 (gj 8 j), eI 8 (gj 2 j), eI 10 (fun _ => 0), eI 10 (fun _ => 0), eI 10 (fun _ => 0)]) = k (some y, iI ((j + 1 : Nat) : Int), lH h y [eO 4 (upd (upd (fun _ => 0) 9 1) 0 a0) (va_up (va_up (va_up (va_up (va_up (va_up (va_up (fun _ => none) 1 (some (y + 1))) 2 (some (y + 2))) 3 (some (y + 3))) 4 (some (y + 4))) 5 (some (y + 5))) 6 (some (y + 6))) 7 (some (y + 7))), eZ 8 (fun _ => 0), eI 8 (gj 5 (j + 1)), eI 8 (gj 8 (j + 1)), eI 8 (gj 2 (j + 1)), eI 10 (fun _ => 0), eI 10 (fun _ => 0), eI 10 (fun _ => 0)])
      unfold fb_X3_init_72
      rw [iL8, iL5, iL2, iI_1, iI_add, jle (by omega) (by omega) (by omega) (by omega), if_neg (by omega)]
      refine (L0_gR (by rfl) _).trans ?_
      refine (L_stI (i := 2) (by rfl) (by omega) (by omega) (by omega) _).trans ?_
      refine (L0_gR (by rfl) _).trans ?_
      refine (L_stI (i := 3) (by rfl) (by omega) (by omega) (by omega) _).trans ?_
      refine (L0_gR (by rfl) _).trans ?_
      refine (L_stI (i := 4) (by rfl) (by omega) (by omega) (by omega) _).trans ?_
      rw [← gj_s 5 j, ← gj_s 8 j, ← gj_s 2 j]
      rfl)
    (fun k => by
      show fb_X3_init_72 k (some y) (iI ((8 : Nat) : Int)) (lH h y [eO 4 (upd (upd (fun _ => 0) 9 1) 0 a0) (va_up (va_up (va_up (va_up (va_up (va_up (va_up (fun _ => none) 1 (some (y + 1))) 2 (some (y + 2))) 3 (some (y + 3))) 4 (some (y + 4))) 5 (some (y + 5))) 6 (some (y + 6))) 7 (some (y + 7))), eZ 8 (fun _ => 0), eI 8 (gj 5 8), eI 8 (gj 8 8), eI 8 (gj 2 8), eI 10 (fun _ => 0), eI 10 (fun _ => 0), eI 10 (fun _ => 0)]) = _
      unfold fb_X3_init_72
      rw [if_pos (by decide)]
      rfl) 8 0 FU (by omega) (by rw [FU_eq]; omega)
  rw [gj_0, gj_0, gj_0] at this
  exact this
def clN (a0 : Int32) : Int32 := if 2 < (if a0 < 8 then a0 else 8) then (if a0 < 8 then a0 else 8) else 2
def C_X7 (E : Nat × Nat) (a0 : Int32) (x : Nat) : List AE := [eO 8 (fun _ => 0) (va_up (va_up (va_up (va_up (va_up (va_up (fun _ => none) 0 (some (x + 1))) 1 (some (x + 9))) 2 (some (x + 12))) 3 (some (x + 18))) 4 (some (x + 22))) 5 (some (x + 23)))] ++ C_X3 (clN a0) (x + 1) ++ C_X1 E (x + 9) ++ C_X4 (some (x + 1)) (some (x + 9)) (x + 12) ++ C_X5 (some (x + 9)) (some (x + 12)) (x + 18) ++ C_X2 (some (x + 1)) (some (x + 9)) (x + 22) ++ C_X6 (some (x + 1)) (some (x + 9)) (x + 23)
theorem i_X7 (E : Nat × Nat) (a0 : Int32) (h : Hp) (x : Nat) : f_X7_init E x a0 (lH h x [eO 8 (fun _ => 0) (fun _ => none)]) = some ((), lH h x (C_X7 E a0 x)) := by
  unfold f_X7_init
  refine (L_sub (fun h y => i_X3 (clN a0) h y) _).trans ?_
  refine (L_sub (fun h y => i_X1 E h y) _).trans ?_
  refine (L_sub (fun h y => i_X4 _ _ h y) _).trans ?_
  refine (L0_pR (by rfl) _).trans ?_
  refine (L0_pR (by rfl) _).trans ?_
  refine (L0_pR (by rfl) _).trans ?_
  refine (L_sub (fun h y => i_X5 _ _ h y) _).trans ?_
  refine (L0_pR (by rfl) _).trans ?_
  refine (L_sub (fun h y => i_X2 _ _ h y) _).trans ?_
  refine (L0_pR (by rfl) _).trans ?_
  refine (L_sub (fun h y => i_X6 _ _ h y) _).trans ?_
  refine (L0_pR (by rfl) _).trans ?_
  rfl
