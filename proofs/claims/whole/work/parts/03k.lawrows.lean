def R_law : String := "FreightPathsLaw"
def lw_P (b : Addr) (xs : List Int32) (args : Array Value) (s : State) : Prop := args = #[.ref b] ∧ s.IntsAt b xs ∧ xs.length ≤ 2561 ∧ (Jvm.Cond.and given_1 narrow_1).before args s = true
def lw_Q (_ : Array Value) (s : State) (o : Outcome) (t : State) : Prop := o = .returned (some (.int 1)) ∧ Framed s o t [] 600000 7302250
def lw_Z (below : List Frame) (a : Array Value) (s : State) : State → Prop := fun t => ∃ o, t.status = .running ∧ Ended t below o ∧ lw_Q a s o t
/-- the law's own end, with 1 on the stack, nothing written that was there before, its room as the claim has it -/
theorem lw_ret {p : Program} {l : Launch} {e : Env} {s : State} {m : MethodId} {below : List Frame} {meth : Method} {c : Code} {b : Nat} (hx : p.tables.exec = Jvm.exec) (hb : c.code = code) (hr : meth.sig.returnType = ret) (hlocks : meth.locks = false) {pc : Nat} {H : Heap} {ls : Array Slot} (hdg : decode code pc = .ok (.ireturn, 1)) : W p l e room_1 s m #[Value.ref b] below meth c H [] 600000 7302250 (lw_Z below #[Value.ref b] s) (F0 m pc ls [.int 1]) := by
  intro T hT X
  obtain ⟨fs, hret, hrun, hended, hW, hframe⟩ := X.leave (v := some (.int 1)) (hlocks := hlocks) (fun h => by rw [hr] at h; cases h)
  have hmeth' : T.vm.method? m = some meth := X.method'
  refine ⟨T.setFrames fs, ?_, .returned (some (.int 1)), hrun, hended, rfl, ⟨_, rfl⟩, hW, hframe⟩
  jvm_step X.here [X.here.top, hx, hb, hdg, hmeth', hr, ret, narrow_b1]
  (try refine ⟨rfl, ?_⟩); (try refine ⟨rfl, ?_⟩)
  first | (intro acts; rw [hret _ acts rfl rfl rfl]) | rw [hret _ _ rfl rfl rfl]
  exact Steps.refl _
/-- what holds at the law's entry: the machine, the code, the tables' words (any of lw_tbl by 'hts w (by decide +kernel)'), the script of L ints xs at the cell b, what the Statement gives of the start (any of its parts by flat_of_before) -/
def lw_At (p : Program) (s : State) (m : MethodId) (meth : Method) (c : Code) (b L : Nat) (xs : Nat → Int32) : Prop :=
  p.tables.exec = Jvm.exec ∧ c.code = code ∧ meth.sig.returnType = ret ∧ c.maxLocals = 4 ∧ s.vm.findClass R_law = some m.cls ∧ (∀ w ∈ lw_tbl, w.before #[Value.ref b] s = true) ∧ va_X b L xs s s.heap ∧ b < s.heap.size ∧ meth.locks = false ∧ (Jvm.Cond.and given_1 narrow_1).before #[Value.ref b] s = true

/-! the law's own rows: its script, its call of cell, its end -/
section OLW
variable {α : Type}
def ldS (L : Nat) (xs : Nat → Int32) (i : Int32) (K : Int32 → Option α) : Option α := if 0 ≤ i.toInt ∧ i.toInt < L then K (xs i.toNatClampNeg) else none
def vl (x : Int32) (K : Int32 → Option α) : Option α := K x
theorem vl_inv {x : Int32} {K : Int32 → Option α} {y : α} (hq : vl x K = some y) : ∃ z, z = x ∧ K z = some y := ⟨x, rfl, hq⟩
theorem lp_indN {S : Type} {B : (S → Option α) → S → Option α} {y : α} {P : Nat → S → Prop} (hs : ∀ (n : Nat) (k : S → Option α), (∀ s, k s = some y → P n s) → ∀ s, B k s = some y → P (n + 1) s) : ∀ (n : Nat) (s : S), lp B n s = some y → P n s
  | 0, s, h => by cases h
  | n + 1, s, h => hs n (lp B n) (lp_indN hs n) s h
end OLW
def cellv (L : Nat) (xs : Nat → Int32) (_ : Nat) : Int32 := if Int32.ofNat L ≤ 0 then 0 else xs 0
theorem lw_no {h h1 : Hp} : ¬ rtI 0 h = some (1, h1) := by
  intro z
  have z2 := congrArg (Option.map Prod.fst) z
  simp [rtI] at z2
theorem cl_cell : SL RL 9 yL_cell cL_cell 2 (some .int) 2 := ⟨⟨by decide +kernel, by decide +kernel, by decide +kernel, by decide +kernel⟩, by decide, by decide, by decide +kernel⟩
abbrev rm_cell : Room := { frames := 0, cells := 0, slots := 0, locals := 0 }
section RLW
variable {p : Program} {l : Launch} {e : Env} {R : Room} {s : State} {m : MethodId} {args : Array Value} {below : List Frame} {meth : Method} {c : Code} {H : Heap} {locs : List Loc} {cells slots : Nat} {Q : State → Prop}
variable {cc : ByteArray} {pc nL : Nat} {ls : Array Slot} {rest : List Value} {own : String} {G : GG} {h : Hp} {α : Type} {y : α} {lv lv' : List (Nat × Value)} {b L : Nat} {xs : Nat → Int32}
theorem xls (hx : p.tables.exec = Jvm.exec) (hb : c.code = cc) (hX : va_X b L xs s s.heap) (hbl : b < s.heap.size) (hbA : ¬ AA G b) (hS : va_S (AA G) s.heap H locs) {i : Int32} {K : Int32 → Option α} (hq : ldS L xs i K = some y) (hd : decode cc pc = .ok (.iaload, 1))
    (kk : ∀ x : Int32, K x = some y → W p l e R s m args below meth c H locs cells slots Q (F0 m (pc + 1) ls (.int x :: rest))) : W p l e R s m args below meth c H locs cells slots Q (F0 m pc ls (.int i :: .ref b :: rest)) := by
  obtain ⟨hin, hq⟩ := ite_inv hq
  exact va_sld hx hb hX hbl hbA hS (vp_in_of2 hin) hd (kk _ hq)
def CnX (G : GG) (h : Hp) (b L : Nat) (xs : Nat → Int32) (U : State) : Prop := Cn G h U ∧ va_X b L xs U U.heap ∧ b < G.1.1
theorem CnX_blind (av : List Value) : FrameBlind (va_Pc av (CnX G h b L xs)) := by
  intro a U g mk q
  obtain ⟨q0, q1, q2, q3⟩ := q
  exact ⟨q0, (Cn_blind G h av a U g mk ⟨q0, q1⟩).2, va_X.moved (u := U) (U := U.calling g mk a) (Vm.Alike.refl U.vm) q2, q3⟩
set_option maxHeartbeats 4000000 in
set_option maxRecDepth 100000 in
theorem c_cell (l : Launch) : Met l yL_cell (Cond.code yL_cell cL_cell 2 (some .int) :: GT) rm_cell (va_Pc [.ref b, .int 0] (CnX G h b L xs)) (Qx G (some (.int (cellv L xs 0))) h) 0 0 (AA G) := by
  refine Met.ofW (cc := cL_cell) (maxL := 2) (ret := some .int) (by decide) rfl ?_
  intro p e s m args below meth c s₁ B hml hv
  obtain ⟨rfl, ⟨hR, hK, hZ, hN⟩, hX, hbl⟩ := hv
  have hx := B.exec
  have hb := B.bytes
  have hr := B.returns
  have hlk := B.notSynchronized
  have hl := lv_entry [.ref b, .int 0] (n := 2) (Nat.le_of_ble_eq_true rfl)
  rw [lg_entry_eq]
  generalize (lg_sl [.ref b, .int 0] ++ List.replicate (2 - (lg_sl [.ref b, .int 0]).length) Slot.unset).toArray = ls at hl ⊢
  have hl : lv_has ls 2 [(0, .ref b), (1, .int 0)] := hl
  have hS : va_S (AA G) s.heap s.heap [] := va_S.rf
  have hbs : b < s.heap.size := Nat.lt_of_lt_of_le hbl (by rw [hR.1]; exact hR.2.1)
  have hbA : ¬ AA G b := Nat.not_le.mpr hbl
  refine lv_iload_n hx hb dL_cell_0 rfl (lv_at hl 1 rfl) ?_
  refine lv_aload_n hx hb dL_cell_1 rfl (lv_at hl 0 rfl) ?_
  refine va_slen hx hb hX hbs hbA hS dL_cell_2 ?_
  refine lv_icmp_ge (tgt := 12) hx hb dL_cell_3 (by decide) (fun z => ?_) (fun z => ?_)
  · refine lv_iconst (v := 0) hx hb dL_cell_12 (by decide) ?_
    exact W.iret hx hb hr (fun t ht hW => ⟨⟨by rw [cellv, if_pos z], by rw [ht]; exact hR⟩, hS.F ht⟩) hS.2.2 dL_cell_13 hlk
  · refine lv_aload_n hx hb dL_cell_6 rfl (lv_at hl 0 rfl) ?_
    refine lv_iload_n hx hb dL_cell_7 rfl (lv_at hl 1 rfl) ?_
    have hL : 0 < L := Nat.pos_of_ne_zero (fun z0 => z (by rw [z0]; decide))
    refine va_sld hx hb hX hbs hbA hS (i := 0) (vp_in_of2 ⟨by decide, by show (0 : Int) < L; omega⟩) dL_cell_8 ?_
    refine lv_goto (tgt := 13) hx hb dL_cell_9 (by decide) ?_
    exact W.iret hx hb hr (fun t ht hW => ⟨⟨by rw [cellv, if_neg z]; rfl, by rw [ht]; exact hR⟩, hS.F ht⟩) hS.2.2 dL_cell_13 hlk
theorem xcell (Z : ZZ p s m args c code RL 4 G) (hR : Rep G h H) (hS : va_S (AA G) s.heap H locs) (hl : LV ls 4 lv) (hX : va_X b L xs s s.heap) (hbl : b < s.heap.size) (hG : G.1.1 = s.heap.size) {st : List Value} (hf : 1 ≤ R.frames) (hlo : 21 ≤ R.locals) (hst : st = .int 0 :: .ref b :: rest) (hw : (rest.map fun v => v.category).sum ≤ 8) (hd : decode code pc = .ok (.invokestatic 9, 3)) (hfc : cells + 0 ≤ R.cells ∧ slots + 0 ≤ R.slots)
    (kk : ∀ (H1 : Heap) (locs1 : List Loc), Rep G h H1 → va_S (AA G) s.heap H1 locs1 → W p l e R s m args below meth c H1 locs1 (cells + 0) (slots + 0) Q (F0 m (pc + 3) ls (.int (cellv L xs 0) :: rest))) : W p l e R s m args below meth c H locs cells slots Q (F0 m pc ls st) := by
  obtain ⟨⟨k1, k2, k4, k5⟩, k6⟩ := cl_cell
  obtain ⟨hx, hb, hml, hown, hts, hrest⟩ := id Z
  subst hst
  have hbA : ¬ AA G b := by unfold AA; omega
  refine xrun (va_runS (As := [.ref b, .int 0]) (rest := rest) ⟨hx, hb, hml, hown, hts⟩ (c_cell (b := b) (L := L) (xs := xs) (G := G) (h := h) l) ⟨callB_of 2 hts (tbl_code k5) rfl rfl rfl (hts _ k4) (hts _ k1) k6 ⟨hf, hlo⟩, hts _ k2⟩ ⟨CnX_blind _, fun U hU hW => ⟨rfl, pre_ok Z hR hS U hU hW, ?_, by omega⟩⟩ rfl rfl hl.sz rfl (lv_room hw) hd hfc) hS (fun H1 locs1 hR1 hS1 => kk H1 locs1 hR1 hS1)
  rw [hU]
  exact va_X.moved hW.alike (hX.kept (hS.2.1 b hbl hbA))
theorem xlret (hx : p.tables.exec = Jvm.exec) (hb : c.code = code) (hr : meth.sig.returnType = some .boolean) (hlk : meth.locks = false) (hG : G.1.1 = s.heap.size) (hS : va_S (AA G) s.heap H locs) (h1 : cells ≤ 600000) (h2 : slots ≤ 7302250) (hd : decode code pc = .ok (.ireturn, 1)) : W p l e room_1 s m #[Value.ref b] below meth c H locs cells slots (lw_Z below #[Value.ref b] s) (F0 m pc ls [.int 1]) := by
  refine va_forget (fun q hq => by have z := hS.2.2 q hq; unfold AA at z; omega) ?_
  refine W.widen (k := 600000) (n := 7302250) h1 h2 ?_
  exact lw_ret hx hb hr hlk hd
end RLW
