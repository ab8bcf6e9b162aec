/-! the rows of control, of locals, of calls and of returns, over the values' functions -/
def FU : Nat := 5000
def LV (ls : Array Slot) (nL : Nat) (l : List (Nat × Value)) : Prop := lv_has ls nL l ∧ ∀ q ∈ l, q.2.category = 1
theorem LV.at {ls : Array Slot} {nL : Nat} {l : List (Nat × Value)} (h : LV ls nL l) (k : Nat) {i : Nat} {v : Value} (hk : l[k]? = some (i, v)) : ls[i]? = some (.val v) := lv_at h.1 k hk
theorem LV.sub {ls : Array Slot} {nL : Nat} {l l' : List (Nat × Value)} (h : LV ls nL l) (ks : List Nat) (hl : lv_pick l ks = l') : LV ls nL l' := by
  refine ⟨lv_sub h.1 ks hl, fun q hq => ?_⟩
  rw [← hl] at hq
  obtain ⟨k, -, hk⟩ := List.mem_filterMap.mp hq
  exact h.2 q (List.mem_of_getElem? hk)
theorem LV.sz {ls : Array Slot} {nL : Nat} {l : List (Nat × Value)} (h : LV ls nL l) : ls.size = nL := h.1.1
theorem rf_cat (r : Option Nat) : (va_rf r).category = 1 := by cases r <;> rfl
theorem LV.store {ls : Array Slot} {nL : Nat} {l : List (Nat × Value)} {i : Nat} {v : Value} (h : LV ls nL l) (hi : i < nL) (hc : v.category = 1) : ∃ ls', storeLocals ls i v = some ls' ∧ LV ls' nL ((i, v) :: l.filter (fun q => !(q.1 == i))) := by
  obtain ⟨ls', e1, e2⟩ := lv_store1 h.1 hi hc
  have e3 : l.filter (fun q => !(q.1 == i) && !(q.1 + 1 == i && q.2.category == 2)) = l.filter (fun q => !(q.1 == i)) := by
    apply List.filter_congr
    intro q hq
    rw [h.2 q hq]
    simp
  rw [e3] at e2
  refine ⟨ls', e1, e2, fun q hq => ?_⟩
  rcases List.mem_cons.mp hq with z | z
  · rw [z]; exact hc
  · exact h.2 q (List.mem_filter.mp z).1
section RC
variable {p : Program} {l : Launch} {e : Env} {R : Room} {s : State} {m : MethodId} {args : Array Value} {below : List Frame} {meth : Method} {c : Code} {H : Heap} {locs : List Loc} {cells slots : Nat} {Q : State → Prop}
variable {cc : ByteArray} {pc nL : Nat} {ls : Array Slot} {rest : List Value} {own : String} {G : GG} {h : Hp} {α : Type} {y : α} {lv lv' : List (Nat × Value)}
theorem xil (hx : p.tables.exec = Jvm.exec) (hb : c.code = cc) (hl : LV ls nL lv) {i : Nat} {x : Int32} (k : Nat) (hk : lv[k]? = some (i, .int x)) (hd : decode cc pc = .ok (.iload i, 2))
    (kk : W p l e R s m args below meth c H locs cells slots Q (F0 m (pc + 2) ls (.int x :: rest))) : W p l e R s m args below meth c H locs cells slots Q (F0 m pc ls rest) := lv_iload hx hb hd (hl.at k hk) kk
theorem xiln (hx : p.tables.exec = Jvm.exec) (hb : c.code = cc) (hl : LV ls nL lv) {i : Fin 4} {x : Int32} (k : Nat) (hk : lv[k]? = some (i.val, .int x)) (hd : decode cc pc = .ok (.iload_n i, 1))
    (kk : W p l e R s m args below meth c H locs cells slots Q (F0 m (pc + 1) ls (.int x :: rest))) : W p l e R s m args below meth c H locs cells slots Q (F0 m pc ls rest) := lv_iload_n hx hb hd rfl (hl.at k hk) kk
theorem xal (hx : p.tables.exec = Jvm.exec) (hb : c.code = cc) (hl : LV ls nL lv) {i : Nat} {x : Option Nat} (k : Nat) (hk : lv[k]? = some (i, va_rf x)) (hd : decode cc pc = .ok (.aload i, 2))
    (kk : W p l e R s m args below meth c H locs cells slots Q (F0 m (pc + 2) ls (va_rf x :: rest))) : W p l e R s m args below meth c H locs cells slots Q (F0 m pc ls rest) := by
  cases x with
  | none => exact lv_aloadN hx hb hd (hl.at k hk) kk
  | some a => exact lv_aload hx hb hd (hl.at k hk) kk
theorem xaln (hx : p.tables.exec = Jvm.exec) (hb : c.code = cc) (hl : LV ls nL lv) {i : Fin 4} {x : Option Nat} (k : Nat) (hk : lv[k]? = some (i.val, va_rf x)) (hd : decode cc pc = .ok (.aload_n i, 1))
    (kk : W p l e R s m args below meth c H locs cells slots Q (F0 m (pc + 1) ls (va_rf x :: rest))) : W p l e R s m args below meth c H locs cells slots Q (F0 m pc ls rest) := by
  cases x with
  | none => exact lv_aload_nN hx hb hd rfl (hl.at k hk) kk
  | some a => exact lv_aload_n hx hb hd rfl (hl.at k hk) kk
theorem xis (hx : p.tables.exec = Jvm.exec) (hb : c.code = cc) (hl : LV ls nL lv) {i : Nat} {x : Int32} (hn : i < nL) (hd : decode cc pc = .ok (.istore i, 2)) (hv : (i, Value.int x) :: lv.filter (fun q => !(q.1 == i)) = lv')
    (kk : ∀ ls' : Array Slot, LV ls' nL lv' → W p l e R s m args below meth c H locs cells slots Q (F0 m (pc + 2) ls' rest)) : W p l e R s m args below meth c H locs cells slots Q (F0 m pc ls (.int x :: rest)) := by
  obtain ⟨ls', e', h'⟩ := hl.store (v := .int x) hn rfl
  intro T hT X
  obtain ⟨t, a, b⟩ := kk ls' (hv ▸ h') T hT X
  refine ⟨t, ?_, b⟩
  jvm_step X.here [X.here.top, ↓top_set X.here.top, hx, hb, hd, e']
  exact a
theorem xisn (hx : p.tables.exec = Jvm.exec) (hb : c.code = cc) (hl : LV ls nL lv) {i : Fin 4} {x : Int32} (hn : i.val < nL) (hd : decode cc pc = .ok (.istore_n i, 1)) (hv : (i.val, Value.int x) :: lv.filter (fun q => !(q.1 == i.val)) = lv')
    (kk : ∀ ls' : Array Slot, LV ls' nL lv' → W p l e R s m args below meth c H locs cells slots Q (F0 m (pc + 1) ls' rest)) : W p l e R s m args below meth c H locs cells slots Q (F0 m pc ls (.int x :: rest)) := by
  obtain ⟨ls', e', h'⟩ := hl.store (v := .int x) hn rfl
  intro T hT X
  obtain ⟨t, a, b⟩ := kk ls' (hv ▸ h') T hT X
  refine ⟨t, ?_, b⟩
  jvm_step X.here [X.here.top, ↓top_set X.here.top, hx, hb, hd, e']
  exact a
theorem xas (hx : p.tables.exec = Jvm.exec) (hb : c.code = cc) (hl : LV ls nL lv) {i : Nat} {x : Option Nat} (hn : i < nL) (hd : decode cc pc = .ok (.astore i, 2)) (hv : (i, va_rf x) :: lv.filter (fun q => !(q.1 == i)) = lv')
    (kk : ∀ ls' : Array Slot, LV ls' nL lv' → W p l e R s m args below meth c H locs cells slots Q (F0 m (pc + 2) ls' rest)) : W p l e R s m args below meth c H locs cells slots Q (F0 m pc ls (va_rf x :: rest)) := by
  obtain ⟨ls', e', h'⟩ := hl.store (v := va_rf x) hn (rf_cat x)
  intro T hT X
  obtain ⟨t, a, b⟩ := kk ls' (hv ▸ h') T hT X
  refine ⟨t, ?_, b⟩
  cases x <;> (simp only [va_rf] at e' ⊢; jvm_step X.here [X.here.top, ↓top_set X.here.top, hx, hb, hd, e', Value.isRef]; exact a)
theorem xasn (hx : p.tables.exec = Jvm.exec) (hb : c.code = cc) (hl : LV ls nL lv) {i : Fin 4} {x : Option Nat} (hn : i.val < nL) (hd : decode cc pc = .ok (.astore_n i, 1)) (hv : (i.val, va_rf x) :: lv.filter (fun q => !(q.1 == i.val)) = lv')
    (kk : ∀ ls' : Array Slot, LV ls' nL lv' → W p l e R s m args below meth c H locs cells slots Q (F0 m (pc + 1) ls' rest)) : W p l e R s m args below meth c H locs cells slots Q (F0 m pc ls (va_rf x :: rest)) := by
  obtain ⟨ls', e', h'⟩ := hl.store (v := va_rf x) hn (rf_cat x)
  intro T hT X
  obtain ⟨t, a, b⟩ := kk ls' (hv ▸ h') T hT X
  refine ⟨t, ?_, b⟩
  cases x <;> (simp only [va_rf] at e' ⊢; jvm_step X.here [X.here.top, ↓top_set X.here.top, hx, hb, hd, e', Value.isRef]; exact a)
theorem xinc (hx : p.tables.exec = Jvm.exec) (hb : c.code = cc) (hl : LV ls nL lv) {i : Nat} {n : Int} {x v : Int32} (k : Nat) (hk : lv[k]? = some (i, .int x)) (hw : x + Int32.ofInt n = v) (hn : i < nL) (hd : decode cc pc = .ok (.iinc i n, 3)) (hv : (i, Value.int v) :: lv.filter (fun q => !(q.1 == i)) = lv')
    (kk : ∀ ls' : Array Slot, LV ls' nL lv' → W p l e R s m args below meth c H locs cells slots Q (F0 m (pc + 3) ls' rest)) : W p l e R s m args below meth c H locs cells slots Q (F0 m pc ls rest) := by
  obtain ⟨ls', e', h'⟩ := hl.store (v := .int v) hn rfl
  have hg := hl.at k hk
  subst hw
  intro T hT X
  obtain ⟨t, a, b⟩ := kk ls' (hv ▸ h') T hT X
  refine ⟨t, ?_, b⟩
  jvm_step X.here [X.here.top, ↓top_set X.here.top, hx, hb, hd, hg, e']
  exact a
theorem xcEq (hx : p.tables.exec = Jvm.exec) (hb : c.code = cc) {x z : Int32} {A B : Option α} (hq : (if x = z then A else B) = some y) {off : Int} {tgt : Nat} (hd : decode cc pc = .ok (.if_icmp .eq off, 3)) (ht : (pc : Int) + off = (tgt : Int)) (kt : A = some y → W p l e R s m args below meth c H locs cells slots Q (F0 m tgt ls rest)) (kf : B = some y → W p l e R s m args below meth c H locs cells slots Q (F0 m (pc + 3) ls rest)) : W p l e R s m args below meth c H locs cells slots Q (F0 m pc ls (.int z :: .int x :: rest)) := lv_icmp_eq hx hb hd ht (fun z => kt (ite_t hq z)) (fun z => kf (ite_f hq z))
theorem xcNe (hx : p.tables.exec = Jvm.exec) (hb : c.code = cc) {x z : Int32} {A B : Option α} (hq : (if x = z then B else A) = some y) {off : Int} {tgt : Nat} (hd : decode cc pc = .ok (.if_icmp .ne off, 3)) (ht : (pc : Int) + off = (tgt : Int)) (kt : A = some y → W p l e R s m args below meth c H locs cells slots Q (F0 m tgt ls rest)) (kf : B = some y → W p l e R s m args below meth c H locs cells slots Q (F0 m (pc + 3) ls rest)) : W p l e R s m args below meth c H locs cells slots Q (F0 m pc ls (.int z :: .int x :: rest)) := lv_icmp_ne hx hb hd ht (fun z => kt (ite_f hq z)) (fun z => kf (ite_t hq (by first | exact z | exact Classical.not_not.mp z)))
theorem xcLt (hx : p.tables.exec = Jvm.exec) (hb : c.code = cc) {x z : Int32} {A B : Option α} (hq : (if x < z then A else B) = some y) {off : Int} {tgt : Nat} (hd : decode cc pc = .ok (.if_icmp .lt off, 3)) (ht : (pc : Int) + off = (tgt : Int)) (kt : A = some y → W p l e R s m args below meth c H locs cells slots Q (F0 m tgt ls rest)) (kf : B = some y → W p l e R s m args below meth c H locs cells slots Q (F0 m (pc + 3) ls rest)) : W p l e R s m args below meth c H locs cells slots Q (F0 m pc ls (.int z :: .int x :: rest)) := lv_icmp_lt hx hb hd ht (fun z => kt (ite_t hq z)) (fun z => kf (ite_f hq z))
theorem xcGe (hx : p.tables.exec = Jvm.exec) (hb : c.code = cc) {x z : Int32} {A B : Option α} (hq : (if z ≤ x then A else B) = some y) {off : Int} {tgt : Nat} (hd : decode cc pc = .ok (.if_icmp .ge off, 3)) (ht : (pc : Int) + off = (tgt : Int)) (kt : A = some y → W p l e R s m args below meth c H locs cells slots Q (F0 m tgt ls rest)) (kf : B = some y → W p l e R s m args below meth c H locs cells slots Q (F0 m (pc + 3) ls rest)) : W p l e R s m args below meth c H locs cells slots Q (F0 m pc ls (.int z :: .int x :: rest)) := lv_icmp_ge hx hb hd ht (fun z => kt (ite_t hq z)) (fun z => kf (ite_f hq z))
theorem xcGt (hx : p.tables.exec = Jvm.exec) (hb : c.code = cc) {x z : Int32} {A B : Option α} (hq : (if z < x then A else B) = some y) {off : Int} {tgt : Nat} (hd : decode cc pc = .ok (.if_icmp .gt off, 3)) (ht : (pc : Int) + off = (tgt : Int)) (kt : A = some y → W p l e R s m args below meth c H locs cells slots Q (F0 m tgt ls rest)) (kf : B = some y → W p l e R s m args below meth c H locs cells slots Q (F0 m (pc + 3) ls rest)) : W p l e R s m args below meth c H locs cells slots Q (F0 m pc ls (.int z :: .int x :: rest)) := lv_icmp_gt hx hb hd ht (fun z => kt (ite_t hq z)) (fun z => kf (ite_f hq z))
theorem xcLe (hx : p.tables.exec = Jvm.exec) (hb : c.code = cc) {x z : Int32} {A B : Option α} (hq : (if x ≤ z then A else B) = some y) {off : Int} {tgt : Nat} (hd : decode cc pc = .ok (.if_icmp .le off, 3)) (ht : (pc : Int) + off = (tgt : Int)) (kt : A = some y → W p l e R s m args below meth c H locs cells slots Q (F0 m tgt ls rest)) (kf : B = some y → W p l e R s m args below meth c H locs cells slots Q (F0 m (pc + 3) ls rest)) : W p l e R s m args below meth c H locs cells slots Q (F0 m pc ls (.int z :: .int x :: rest)) := lv_icmp_le hx hb hd ht (fun z => kt (ite_t hq z)) (fun z => kf (ite_f hq z))
theorem xzEq (hx : p.tables.exec = Jvm.exec) (hb : c.code = cc) {x : Int32} {A B : Option α} (hq : (if x = 0 then A else B) = some y) {off : Int} {tgt : Nat} (hd : decode cc pc = .ok (.ifCond .eq off, 3)) (ht : (pc : Int) + off = (tgt : Int)) (kt : A = some y → W p l e R s m args below meth c H locs cells slots Q (F0 m tgt ls rest)) (kf : B = some y → W p l e R s m args below meth c H locs cells slots Q (F0 m (pc + 3) ls rest)) : W p l e R s m args below meth c H locs cells slots Q (F0 m pc ls (.int x :: rest)) := lv_if_eq hx hb hd ht (fun z => kt (ite_t hq z)) (fun z => kf (ite_f hq z))
theorem xzNe (hx : p.tables.exec = Jvm.exec) (hb : c.code = cc) {x : Int32} {A B : Option α} (hq : (if x = 0 then B else A) = some y) {off : Int} {tgt : Nat} (hd : decode cc pc = .ok (.ifCond .ne off, 3)) (ht : (pc : Int) + off = (tgt : Int)) (kt : A = some y → W p l e R s m args below meth c H locs cells slots Q (F0 m tgt ls rest)) (kf : B = some y → W p l e R s m args below meth c H locs cells slots Q (F0 m (pc + 3) ls rest)) : W p l e R s m args below meth c H locs cells slots Q (F0 m pc ls (.int x :: rest)) := lv_if_ne hx hb hd ht (fun z => kt (ite_f hq z)) (fun z => kf (ite_t hq (by first | exact z | exact Classical.not_not.mp z)))
theorem xzLt (hx : p.tables.exec = Jvm.exec) (hb : c.code = cc) {x : Int32} {A B : Option α} (hq : (if x < 0 then A else B) = some y) {off : Int} {tgt : Nat} (hd : decode cc pc = .ok (.ifCond .lt off, 3)) (ht : (pc : Int) + off = (tgt : Int)) (kt : A = some y → W p l e R s m args below meth c H locs cells slots Q (F0 m tgt ls rest)) (kf : B = some y → W p l e R s m args below meth c H locs cells slots Q (F0 m (pc + 3) ls rest)) : W p l e R s m args below meth c H locs cells slots Q (F0 m pc ls (.int x :: rest)) := lv_if_lt hx hb hd ht (fun z => kt (ite_t hq z)) (fun z => kf (ite_f hq z))
theorem xzGe (hx : p.tables.exec = Jvm.exec) (hb : c.code = cc) {x : Int32} {A B : Option α} (hq : (if 0 ≤ x then A else B) = some y) {off : Int} {tgt : Nat} (hd : decode cc pc = .ok (.ifCond .ge off, 3)) (ht : (pc : Int) + off = (tgt : Int)) (kt : A = some y → W p l e R s m args below meth c H locs cells slots Q (F0 m tgt ls rest)) (kf : B = some y → W p l e R s m args below meth c H locs cells slots Q (F0 m (pc + 3) ls rest)) : W p l e R s m args below meth c H locs cells slots Q (F0 m pc ls (.int x :: rest)) := lv_if_ge hx hb hd ht (fun z => kt (ite_t hq z)) (fun z => kf (ite_f hq z))
theorem xzGt (hx : p.tables.exec = Jvm.exec) (hb : c.code = cc) {x : Int32} {A B : Option α} (hq : (if 0 < x then A else B) = some y) {off : Int} {tgt : Nat} (hd : decode cc pc = .ok (.ifCond .gt off, 3)) (ht : (pc : Int) + off = (tgt : Int)) (kt : A = some y → W p l e R s m args below meth c H locs cells slots Q (F0 m tgt ls rest)) (kf : B = some y → W p l e R s m args below meth c H locs cells slots Q (F0 m (pc + 3) ls rest)) : W p l e R s m args below meth c H locs cells slots Q (F0 m pc ls (.int x :: rest)) := lv_if_gt hx hb hd ht (fun z => kt (ite_t hq z)) (fun z => kf (ite_f hq z))
theorem xzLe (hx : p.tables.exec = Jvm.exec) (hb : c.code = cc) {x : Int32} {A B : Option α} (hq : (if x ≤ 0 then A else B) = some y) {off : Int} {tgt : Nat} (hd : decode cc pc = .ok (.ifCond .le off, 3)) (ht : (pc : Int) + off = (tgt : Int)) (kt : A = some y → W p l e R s m args below meth c H locs cells slots Q (F0 m tgt ls rest)) (kf : B = some y → W p l e R s m args below meth c H locs cells slots Q (F0 m (pc + 3) ls rest)) : W p l e R s m args below meth c H locs cells slots Q (F0 m pc ls (.int x :: rest)) := lv_if_le hx hb hd ht (fun z => kt (ite_t hq z)) (fun z => kf (ite_f hq z))
theorem xnul (hx : p.tables.exec = Jvm.exec) (hb : c.code = cc) {r : Option Nat} {A B : Option α} (hq : (if r = none then A else B) = some y) {off : Int} {tgt : Nat} (hd : decode cc pc = .ok (.ifnull off, 3)) (ht : (pc : Int) + off = (tgt : Int)) (kt : A = some y → W p l e R s m args below meth c H locs cells slots Q (F0 m tgt ls rest)) (kf : B = some y → W p l e R s m args below meth c H locs cells slots Q (F0 m (pc + 3) ls rest)) : W p l e R s m args below meth c H locs cells slots Q (F0 m pc ls (va_rf r :: rest)) := by
  cases r with
  | none => exact lv_ifnullN hx hb hd ht (kt (ite_t hq rfl))
  | some a => exact lv_ifnull hx hb hd (kf (ite_f hq (fun z => by cases z)))
theorem xnon (hx : p.tables.exec = Jvm.exec) (hb : c.code = cc) {r : Option Nat} {A B : Option α} (hq : (if r = none then B else A) = some y) {off : Int} {tgt : Nat} (hd : decode cc pc = .ok (.ifnonnull off, 3)) (ht : (pc : Int) + off = (tgt : Int)) (kt : A = some y → W p l e R s m args below meth c H locs cells slots Q (F0 m tgt ls rest)) (kf : B = some y → W p l e R s m args below meth c H locs cells slots Q (F0 m (pc + 3) ls rest)) : W p l e R s m args below meth c H locs cells slots Q (F0 m pc ls (va_rf r :: rest)) := by
  cases r with
  | none => exact lv_ifnonnullN hx hb hd (kf (ite_t hq rfl))
  | some a => exact lv_ifnonnull hx hb hd ht (kt (ite_f hq (fun z => by cases z)))
theorem xaEq (hx : p.tables.exec = Jvm.exec) (hb : c.code = cc) {r q : Option Nat} {A B : Option α} (hq : (if r = q then A else B) = some y) {off : Int} {tgt : Nat} (hd : decode cc pc = .ok (.if_acmp .eq off, 3)) (ht : (pc : Int) + off = (tgt : Int)) (kt : A = some y → W p l e R s m args below meth c H locs cells slots Q (F0 m tgt ls rest)) (kf : B = some y → W p l e R s m args below meth c H locs cells slots Q (F0 m (pc + 3) ls rest)) : W p l e R s m args below meth c H locs cells slots Q (F0 m pc ls (va_rf q :: va_rf r :: rest)) := lv_acmp_eq hx hb hd ht (fun z => kt (ite_t hq z)) (fun z => kf (ite_f hq z))
theorem xaNe (hx : p.tables.exec = Jvm.exec) (hb : c.code = cc) {r q : Option Nat} {A B : Option α} (hq : (if r = q then B else A) = some y) {off : Int} {tgt : Nat} (hd : decode cc pc = .ok (.if_acmp .ne off, 3)) (ht : (pc : Int) + off = (tgt : Int)) (kt : A = some y → W p l e R s m args below meth c H locs cells slots Q (F0 m tgt ls rest)) (kf : B = some y → W p l e R s m args below meth c H locs cells slots Q (F0 m (pc + 3) ls rest)) : W p l e R s m args below meth c H locs cells slots Q (F0 m pc ls (va_rf q :: va_rf r :: rest)) := lv_acmp_ne hx hb hd ht (fun z => kt (ite_f hq z)) (fun z => kf (ite_t hq z))
theorem xrI (hx : p.tables.exec = Jvm.exec) (hb : c.code = cc) (hr : meth.sig.returnType = some .int) (hlk : meth.locks = false) (hR : Rep G h H) (hS : va_S (AA G) s.heap H locs) {x v : Int32} {h1 : Hp} {mc ms : Nat} (hq : rtI x h = some (v, h1)) (hmc : cells ≤ mc) (hms : slots ≤ ms) (hd : decode cc pc = .ok (.ireturn, 1)) : W p l e R s m args below meth c H locs cells slots (MQ below (Qx G (some (.int v)) h1) args s mc ms (AA G)) (F0 m pc ls [.int x]) := by
  cases hq
  exact W.widen (k := mc) (n := ms) hmc hms (W.iret hx hb hr (fun t ht hW => ⟨⟨rfl, by rw [ht]; exact hR⟩, hS.F ht⟩) hS.2.2 hd hlk)
theorem xrZ (hx : p.tables.exec = Jvm.exec) (hb : c.code = cc) (hr : meth.sig.returnType = some .boolean) (hlk : meth.locks = false) (hR : Rep G h H) (hS : va_S (AA G) s.heap H locs) {x v : Int32} {h1 : Hp} {mc ms : Nat} (hq : rtZ x h = some (v, h1)) (hmc : cells ≤ mc) (hms : slots ≤ ms) (hd : decode cc pc = .ok (.ireturn, 1)) : W p l e R s m args below meth c H locs cells slots (MQ below (Qx G (some (.int v)) h1) args s mc ms (AA G)) (F0 m pc ls [.int x]) := by
  obtain ⟨hb2, hq⟩ := ite_inv hq
  cases hq
  exact W.widen (k := mc) (n := ms) hmc hms (W.zret hx hb hr (by rcases hb2 with rfl | rfl <;> decide) (fun t ht hW => ⟨⟨rfl, by rw [ht]; exact hR⟩, hS.F ht⟩) hS.2.2 hd hlk)
theorem xrV (hx : p.tables.exec = Jvm.exec) (hb : c.code = cc) (hr : meth.sig.returnType = none) (hlk : meth.locks = false) (hR : Rep G h H) (hS : va_S (AA G) s.heap H locs) {v : Unit} {h1 : Hp} {mc ms : Nat} (hq : rtV h = some (v, h1)) (hmc : cells ≤ mc) (hms : slots ≤ ms) (hd : decode cc pc = .ok (.return_, 1)) : W p l e R s m args below meth c H locs cells slots (MQ below (Qx G none h1) args s mc ms (AA G)) (F0 m pc ls []) := by
  cases hq
  exact W.widen (k := mc) (n := ms) hmc hms (W.vret hx hb hr (fun t ht hW => ⟨⟨rfl, by rw [ht]; exact hR⟩, hS.F ht⟩) hS.2.2 hd hlk)
theorem xrR (hx : p.tables.exec = Jvm.exec) (hb : c.code = cc) {rt : FieldType} (hr : meth.sig.returnType = some rt) (hrt : (∃ n, rt = .object n) ∨ ∃ t, rt = .array t) (hlk : meth.locks = false) (hR : Rep G h H) (hS : va_S (AA G) s.heap H locs) {x v : Option Nat} {h1 : Hp} {mc ms : Nat} (hq : rtR x h = some (v, h1)) (hmc : cells ≤ mc) (hms : slots ≤ ms) (hd : decode cc pc = .ok (.areturn, 1)) : W p l e R s m args below meth c H locs cells slots (MQ below (Qx G (some (va_rf v)) h1) args s mc ms (AA G)) (F0 m pc ls [va_rf x]) := by
  cases hq
  exact W.widen (k := mc) (n := ms) hmc hms (W.aret hx hb hr hrt (va_rf_or x) (fun t ht hW => ⟨⟨rfl, by rw [ht]; exact hR⟩, hS.F ht⟩) hS.2.2 hd hlk)
theorem pre_ok (Z : ZZ p s m args c cc own nL G) (hR : Rep G h H) (hS : va_S (AA G) s.heap H locs) : ∀ U : State, U.heap = H → s.WarmedH U.vm → Cn G h U := by
  obtain ⟨hx, hb, hml, hown, hts, hK, hZ, hN, hB⟩ := Z
  intro U hU hW
  have hZ1 := va_Z.kept (H1 := H) hZ (fun a h1 h2 => hS.2.1 a h1 h2)
  exact ⟨by rw [hU]; exact hR, va_K.moved hW.alike hK, by rw [hU]; exact va_Z.moved hW.alike hZ1, hN.moved hW⟩
theorem xrun {mc ms : Nat} {st0 : List Value} {v : Option Value} {h1 : Hp} {a : Array Value} (hr : va_Run p l e R s m args below meth c H locs cells slots mc ms (F0 m pc ls st0) rest (Qx G v h1 a) (AA G)) (hS : va_S (AA G) s.heap H locs)
    (kk : ∀ (H1 : Heap) (locs1 : List Loc), Rep G h1 H1 → va_S (AA G) s.heap H1 locs1 → W p l e R s m args below meth c H1 locs1 (cells + mc) (slots + ms) Q (F0 m (pc + 3) ls (v.toList ++ rest))) : W p l e R s m args below meth c H locs cells slots Q (F0 m pc ls st0) := by
  intro T hT X
  obtain ⟨v', st₀, t, T', L, h0, X', hL, e1, e2, ⟨⟨hv, hp⟩, hz, hk⟩, st⟩ := hr T hT X
  cases hv
  rw [h0] at hz hk
  obtain ⟨t2, a1, b1⟩ := kk T'.heap (locs ++ L) (by rw [e1]; exact hp)
    ⟨Nat.le_trans hS.1 (by rw [e1]; exact hz), fun q h1 h2 => by rw [e1, hk q (Nat.lt_of_lt_of_le h1 hS.1) h2]; exact hS.2.1 q h1 h2, fun q hq => by
      rcases List.mem_append.mp hq with h | h
      · exact hS.2.2 q h
      · exact hL q h⟩ T' rfl X'
  exact ⟨t2, st t2 a1, b1⟩
theorem recv_ok (Z : ZZ p s m args c cc own nL G) (hR : Rep G h H) {ci a N : Nat} {C : String} {T : u_T} {I : Nat → Int32} {F : Nat → Option Nat} (he : h.2 a = some (eO ci I F)) (hc : vwCl[ci]? = some (C, T, N)) : ∃ cell : Cell, H[a]? = some cell ∧ cell.vm.isStatics = false ∧ s.vm.findClass C = some cell.cls := by
  obtain ⟨hx, hb, hml, hown, hts, hK, hZ, hN, hB⟩ := Z
  obtain ⟨q', h1, cell, g1, g2, g3, -⟩ := (hR.2.2 a _ he).1
  exact ⟨cell, g1, by rw [g3]; rfl, by rw [g2]; exact (hK.1 ci _ hc).2.1⟩
theorem xcV (Z : ZZ p s m args c cc own nL G) (hR : Rep G h H) (hS : va_S (AA G) s.heap H locs) (hl : LV ls nL lv) {ci idx maxL n mc ms : Nat} {yy : MethodName} {bytes : ByteArray} {ret : Option FieldType} {rm : Room} {β : Type} {r : Option Nat} {f : Nat → Option (β × Hp)} {K : β → Hp → Option α} {V : β → Option Value} {As st : List Value}
    (hq : rcv h r ci (fun b => bd (f b) K) = some y) (hv : VL own idx ci yy bytes maxL ret n) (hM : ∀ (b : Nat) (x : β) (h1 : Hp), f b = some (x, h1) → Met l yy (Cond.code yy bytes maxL ret :: GT) rm (va_Pc (.ref b :: As) (Cn G h)) (Qx G (V x) h1) mc ms (AA G))
    (hrm : (rm.cells = mc ∧ rm.slots = ms) ∧ rm.frames + 1 ≤ R.frames ∧ 8 + (maxL + 11) + rm.locals ≤ R.locals) (hn : As.length = n) (hst : st = As.reverse ++ va_rf r :: rest) (hw : (rest.map fun v => v.category).sum ≤ 8) (hd : decode cc pc = .ok (.invokevirtual idx, 3)) (hf : cells + mc ≤ R.cells ∧ slots + ms ≤ R.slots)
    (kk : ∀ (x : β) (h1 : Hp) (H1 : Heap) (locs1 : List Loc), K x h1 = some y → Rep G h1 H1 → va_S (AA G) s.heap H1 locs1 → W p l e R s m args below meth c H1 locs1 (cells + mc) (slots + ms) Q (F0 m (pc + 3) ls ((V x).toList ++ rest))) : W p l e R s m args below meth c H locs cells slots Q (F0 m pc ls st) := by
  obtain ⟨b, I, F, rfl, he, hq⟩ := obj_inv hq
  obtain ⟨x, h1, hc, hq⟩ := bd_inv hq
  obtain ⟨⟨T, N, hci⟩, ⟨k1, k2, k3, k4, k5⟩, k6⟩ := hv
  obtain ⟨hx, hb, hml, hown, hts, hrest⟩ := id Z
  subst hst
  have cw : CallW R s args own yy.cls idx yy bytes maxL ret (Cond.code yy bytes maxL ret :: GT) rm mc ms n :=
    ⟨callB_of n hts (tbl_code k5) rfl hrm.1.1 hrm.1.2 (hts _ k4) (hts _ k1) k6 hrm.2, hts _ k2, hts _ k3⟩
  refine xrun (va_runV (As := As) (rest := rest) (b := b) ⟨hx, hb, hml, hown, hts⟩ (hM b x h1 hc) cw ⟨Cn_blind G h _, recv_ok Z hR he hci, fun U hU hW => ⟨rfl, pre_ok Z hR hS U hU hW⟩⟩ rfl hn hl.sz rfl (lv_room hw) hd hf) hS (fun H1 locs1 hR1 hS1 => kk x h1 H1 locs1 hq hR1 hS1)
theorem xcS (Z : ZZ p s m args c cc own nL G) (hR : Rep G h H) (hS : va_S (AA G) s.heap H locs) (hl : LV ls nL lv) {idx maxL n mc ms : Nat} {yy : MethodName} {bytes : ByteArray} {ret : Option FieldType} {rm : Room} {β : Type} {f : Option (β × Hp)} {K : β → Hp → Option α} {V : β → Option Value} {As st : List Value}
    (hq : bd f K = some y) (hv : SL own idx yy bytes maxL ret n) (hM : ∀ (x : β) (h1 : Hp), f = some (x, h1) → Met l yy (Cond.code yy bytes maxL ret :: GT) rm (va_Pc As (Cn G h)) (Qx G (V x) h1) mc ms (AA G))
    (hrm : (rm.cells = mc ∧ rm.slots = ms) ∧ rm.frames + 1 ≤ R.frames ∧ 8 + (maxL + 11) + rm.locals ≤ R.locals) (hn : As.length = n) (hst : st = As.reverse ++ rest) (hw : (rest.map fun v => v.category).sum ≤ 8) (hd : decode cc pc = .ok (.invokestatic idx, 3)) (hf : cells + mc ≤ R.cells ∧ slots + ms ≤ R.slots)
    (kk : ∀ (x : β) (h1 : Hp) (H1 : Heap) (locs1 : List Loc), K x h1 = some y → Rep G h1 H1 → va_S (AA G) s.heap H1 locs1 → W p l e R s m args below meth c H1 locs1 (cells + mc) (slots + ms) Q (F0 m (pc + 3) ls ((V x).toList ++ rest))) : W p l e R s m args below meth c H locs cells slots Q (F0 m pc ls st) := by
  obtain ⟨x, h1, hc, hq⟩ := bd_inv hq
  obtain ⟨⟨k1, k2, k4, k5⟩, k6⟩ := hv
  obtain ⟨hx, hb, hml, hown, hts, hrest⟩ := id Z
  subst hst
  refine xrun (va_runS (As := As) (rest := rest) ⟨hx, hb, hml, hown, hts⟩ (hM x h1 hc) ⟨callB_of n hts (tbl_code k5) rfl hrm.1.1 hrm.1.2 (hts _ k4) (hts _ k1) k6 hrm.2, hts _ k2⟩ ⟨Cn_blind G h _, fun U hU hW => ⟨rfl, pre_ok Z hR hS U hU hW⟩⟩ rfl hn hl.sz rfl (lv_room hw) hd hf) hS (fun H1 locs1 hR1 hS1 => kk x h1 H1 locs1 hq hR1 hS1)
theorem xcI (Z : ZZ p s m args c cc own nL G) (hR : Rep G h H) (hS : va_S (AA G) s.heap H locs) (hl : LV ls nL lv) {idx maxL n mc ms b : Nat} {yy : MethodName} {bytes : ByteArray} {rm : Room} {f : Option (Unit × Hp)} {K : Unit → Hp → Option α} {As st : List Value}
    (hq : bd f K = some y) (hv : IL own idx yy bytes maxL n) (hM : ∀ (x : Unit) (h1 : Hp), f = some (x, h1) → Met l yy (Cond.code yy bytes maxL none :: GT) rm (va_Pc (.ref b :: As) (Cn G h)) (Qx G none h1) mc ms (AA G))
    (hrm : (rm.cells = mc ∧ rm.slots = ms) ∧ rm.frames + 1 ≤ R.frames ∧ 8 + (maxL + 11) + rm.locals ≤ R.locals) (hn : As.length = n) (hst : st = As.reverse ++ .ref b :: rest) (hw : (rest.map fun v => v.category).sum ≤ 8) (hd : decode cc pc = .ok (.invokespecial idx, 3)) (hf : cells + mc ≤ R.cells ∧ slots + ms ≤ R.slots)
    (kk : ∀ (x : Unit) (h1 : Hp) (H1 : Heap) (locs1 : List Loc), K x h1 = some y → Rep G h1 H1 → va_S (AA G) s.heap H1 locs1 → W p l e R s m args below meth c H1 locs1 (cells + mc) (slots + ms) Q (F0 m (pc + 3) ls rest)) : W p l e R s m args below meth c H locs cells slots Q (F0 m pc ls st) := by
  obtain ⟨x, h1, hc, hq⟩ := bd_inv hq
  obtain ⟨⟨k1, k2, k4, k5⟩, k7, k6⟩ := hv
  obtain ⟨hx, hb, hml, hown, hts, hrest⟩ := id Z
  subst hst
  refine xrun (va_runI (As := As) (rest := rest) (b := b) ⟨hx, hb, hml, hown, hts⟩ (hM x h1 hc) ⟨callB_of n hts (tbl_code k5) rfl hrm.1.1 hrm.1.2 (hts _ k4) (hts _ k1) k6 hrm.2, k7, hts _ k2⟩ ⟨Cn_blind G h _, fun U hU hW => ⟨rfl, pre_ok Z hR hS U hU hW⟩⟩ rfl hn hl.sz rfl (lv_room hw) hd hf) hS (fun H1 locs1 hR1 hS1 => kk x h1 H1 locs1 hq hR1 hS1)
theorem xck (Z : ZZ p s m args c cc own nL G) (hR : Rep G h H) {ci idx N : Nat} {C : String} {r : Option Nat} {K : Option α} (hq : ckc h r ci K = some y) (hv : (∃ T : u_T, vwCl[ci]? = some (C, T, N)) ∧ Cond.classLink own idx C ∈ GT) (hd : decode cc pc = .ok (.checkcast idx, 3))
    (kk : K = some y → W p l e R s m args below meth c H locs cells slots Q (F0 m (pc + 3) ls (va_rf r :: rest))) : W p l e R s m args below meth c H locs cells slots Q (F0 m pc ls (va_rf r :: rest)) := by
  obtain ⟨hx, hb, hml, hown, hts, hK, hrest⟩ := id Z
  obtain ⟨⟨T, hc⟩, hcl⟩ := hv
  cases r with
  | none => exact lv_castN hx hb hd (kk hq)
  | some a =>
    have hq : obj h (some a) ci (fun _ _ _ => K) = some y := hq
    obtain ⟨a', I, F, e1, he, hq⟩ := obj_inv hq
    cases e1
    exact va_castS hx hb hown (hts _ hcl) (hK.1 ci _ hc).2 (recv_ok Z hR he hc) hd (kk hq)
def ar1 : Nat → List Value → List (Nat × Value)
  | _, [] => []
  | i, v :: vs => (i, v) :: ar1 (i + 1) vs
theorem ar1_eq : ∀ (av : List Value) (i : Nat), (∀ v ∈ av, v.category = 1) → lv_args i av = ar1 i av ∧ (lg_sl av).length = av.length ∧ ∀ q ∈ ar1 i av, q.2.category = 1
  | [], i, _ => ⟨rfl, rfl, fun q h => by cases h⟩
  | v :: vs, i, h => by
    have hv := h v List.mem_cons_self
    obtain ⟨e1, e2, e3⟩ := ar1_eq vs (i + 1) (fun w hw => h w (List.mem_cons_of_mem _ hw))
    have h2 : ¬ v.category = 2 := by omega
    refine ⟨?_, ?_, fun q hq => ?_⟩
    · simp only [lv_args, if_neg h2, e1, ar1]
    · have : lg_sl (v :: vs) = .val v :: lg_sl vs := by simp [lg_sl, h2]
      rw [this, List.length_cons, e2, List.length_cons]
    · rcases List.mem_cons.mp hq with z | z
      · rw [z]; exact hv
      · exact e3 q z
theorem xMet {yy : MethodName} {maxL mc ms : Nat} {ret : Option FieldType} {rm : Room} {av : List Value} {v : Option Value} {h1 : Hp} (hy : plainName yy.cls = true) (hsl : av.length ≤ maxL) (hcat : ∀ v ∈ av, v.category = 1)
    (body : ∀ (p : Program) (e : Env) (s : State) (m : MethodId) (below : List Frame) (meth : Method) (c : Code) (ls : Array Slot), ZZ p s m av.toArray c cc yy.cls maxL G → meth.sig.returnType = ret → meth.locks = false → meth.name = yy.name → Rep G h s.heap → va_S (AA G) s.heap s.heap [] → LV ls maxL (ar1 0 av) →
      W p l e rm s m av.toArray below meth c s.heap [] 0 0 (MQ below (Qx G v h1) av.toArray s mc ms (AA G)) (F0 m 0 ls [])) : Met l yy (Cond.code yy cc maxL ret :: GT) rm (va_Pc av (Cn G h)) (Qx G v h1) mc ms (AA G) := by
  refine Met.ofW (cc := cc) (maxL := maxL) (ret := ret) hy rfl ?_
  intro p e s m args below meth c s₁ B hml hv
  obtain ⟨rfl, hR, hK, hZ, hN⟩ := hv
  have hts := atoms_spec (ws := Cond.code yy cc maxL ret :: GT) B.pre
  obtain ⟨w1, w2, w3⟩ := ar1_eq av 0 hcat
  have hl := lv_entry av (n := maxL) (by rw [w2]; exact hsl)
  rw [w1] at hl
  rw [lg_entry_eq]
  generalize (lg_sl av ++ List.replicate (maxL - (lg_sl av).length) Slot.unset).toArray = ls at hl ⊢
  exact body p e s m below meth c ls ⟨B.exec, B.bytes, hml, findClass_of_methodNamed B.named, fun w hw => hts w (List.mem_cons_of_mem _ hw), hK, hZ, hN, by rw [hR.1]; exact hR.2.1⟩ B.returns B.notSynchronized (name_of_methodNamed B.named B.method).1 hR va_S.rf ⟨hl, w3⟩
end RC
