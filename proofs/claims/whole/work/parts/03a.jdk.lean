theorem fl_Jx4a65c_9 : FL RJx4a65c 9 0 1 := ⟨_, TJx4a65c, 3, "java/util/ArrayList", rfl, by decide, by decide +kernel, Or.inl rfl⟩
theorem fl_Jx4a65c_48 : FL RJx4a65c 48 0 2 := ⟨_, TJx4a65c, 3, "java/util/ArrayList", rfl, by decide, by decide +kernel, Or.inl rfl⟩
theorem fl_Jx4a65c_63 : FL RJx4a65c 63 0 0 := ⟨_, TJx4a65c, 3, "java/util/ArrayList", rfl, by decide, by decide +kernel, Or.inr (by decide +kernel)⟩
theorem fl_Jxc12de_7 : FL RJxc12de 7 0 0 := ⟨_, TJx4a65c, 3, "java/util/AbstractList", rfl, by decide, by decide +kernel, Or.inl rfl⟩
theorem nf_0_0 : nF 0 0 := fun _ _ _ z => by cases z; rfl
theorem nf_0_1 : nF 0 1 := fun _ _ _ z => by cases z; rfl
theorem nf_0_2 : nF 0 2 := fun _ _ _ z => by cases z; rfl
theorem me_J3_checkIndex_8e157 : Cond.static yJ3_checkIndex_8e157 ∈ GT ∧ Cond.initialized RJ3 ∈ GT ∧ Cond.code yJ3_checkIndex_8e157 cJ3_checkIndex_8e157 3 (some .int) ∈ GT := ⟨by decide +kernel, by decide +kernel, by decide +kernel⟩
theorem cl_J15_105 : SL RJ15 105 yJ3_checkIndex_8e157 cJ3_checkIndex_8e157 3 (some .int) 3 := ⟨⟨by decide +kernel, me_J3_checkIndex_8e157⟩, by decide, by decide, by decide +kernel⟩
theorem lk_J7_150 : Cond.methodLink RJ7 150 arraycopyName ∈ GT := by decide +kernel
theorem me_J7_copyOf_6403c : Cond.static yJ7_copyOf_6403c ∈ GT ∧ Cond.initialized RJ7 ∈ GT ∧ Cond.code yJ7_copyOf_6403c cJ7_copyOf_6403c 4 (some (.array (.object "java/lang/Object"))) ∈ GT := ⟨by decide +kernel, by decide +kernel, by decide +kernel⟩
theorem cl_J7_300 : SL RJ7 300 yJ7_copyOf_6403c cJ7_copyOf_6403c 4 (some (.array (.object "java/lang/Object"))) 3 := ⟨⟨by decide +kernel, me_J7_copyOf_6403c⟩, by decide, by decide, by decide +kernel⟩
theorem lk_J7_304 : Cond.methodLink RJ7 304 Lib.Math.min.name ∈ GT := by decide +kernel
theorem lk_J8_194 : Cond.methodLink RJ8 194 Lib.Math.max.name ∈ GT := by decide +kernel
theorem me_Jxc12de_init_da8c8 : Cond.instanceMethod yJxc12de_init_da8c8 ∈ GT ∧ Cond.initialized RJxc12de ∈ GT ∧ Cond.code yJxc12de_init_da8c8 cJxc12de_init_da8c8 1 none ∈ GT := ⟨by decide +kernel, by decide +kernel, by decide +kernel⟩
theorem cl_Jx4a65c_1 : IL RJx4a65c 1 yJxc12de_init_da8c8 cJxc12de_init_da8c8 1 0 := ⟨⟨by decide +kernel, me_Jxc12de_init_da8c8⟩, rfl, by decide, by decide, by decide +kernel⟩
theorem me_J7_copyOf_1904c : Cond.static yJ7_copyOf_1904c ∈ GT ∧ Cond.initialized RJ7 ∈ GT ∧ Cond.code yJ7_copyOf_1904c cJ7_copyOf_1904c 2 (some (.array (.object "java/lang/Object"))) ∈ GT := ⟨by decide +kernel, by decide +kernel, by decide +kernel⟩
theorem cl_Jx4a65c_66 : SL RJx4a65c 66 yJ7_copyOf_1904c cJ7_copyOf_1904c 2 (some (.array (.object "java/lang/Object"))) 2 := ⟨⟨by decide +kernel, me_J7_copyOf_1904c⟩, by decide, by decide, by decide +kernel⟩
theorem me_Jx4a65c_grow_92f84 : Cond.instanceMethod yJx4a65c_grow_92f84 ∈ GT ∧ Cond.selects RJx4a65c yJx4a65c_grow_92f84 yJx4a65c_grow_92f84 ∈ GT ∧ Cond.initialized RJx4a65c ∈ GT ∧ Cond.code yJx4a65c_grow_92f84 cJx4a65c_grow_92f84 4 (some (.array (.object "java/lang/Object"))) ∈ GT := ⟨by decide +kernel, by decide +kernel, by decide +kernel, by decide +kernel⟩
theorem cl_Jx4a65c_69 : VL RJx4a65c 69 0 yJx4a65c_grow_92f84 cJx4a65c_grow_92f84 4 (some (.array (.object "java/lang/Object"))) 1 := ⟨⟨TJx4a65c, 3, rfl⟩, ⟨by decide +kernel, me_Jx4a65c_grow_92f84⟩, by decide, by decide, by decide +kernel⟩
theorem me_J8_newLength_cabcc : Cond.static yJ8_newLength_cabcc ∈ GT ∧ Cond.initialized RJ8 ∈ GT ∧ Cond.code yJ8_newLength_cabcc cJ8_newLength_cabcc 4 (some .int) ∈ GT := ⟨by decide +kernel, by decide +kernel, by decide +kernel⟩
theorem cl_Jx4a65c_73 : SL RJx4a65c 73 yJ8_newLength_cabcc cJ8_newLength_cabcc 4 (some .int) 3 := ⟨⟨by decide +kernel, me_J8_newLength_cabcc⟩, by decide, by decide, by decide +kernel⟩
theorem lk_Jx4a65c_79 : Cond.methodLink RJx4a65c 79 Lib.Math.max.name ∈ GT := by decide +kernel
theorem lk_Jx4a65c_112 : Cond.methodLink RJx4a65c 112 arraycopyName ∈ GT := by decide +kernel
theorem me_J15_checkIndex_7cf53 : Cond.static yJ15_checkIndex_7cf53 ∈ GT ∧ Cond.initialized RJ15 ∈ GT ∧ Cond.code yJ15_checkIndex_7cf53 cJ15_checkIndex_7cf53 2 (some .int) ∈ GT := ⟨by decide +kernel, by decide +kernel, by decide +kernel⟩
theorem cl_Jx4a65c_118 : SL RJx4a65c 118 yJ15_checkIndex_7cf53 cJ15_checkIndex_7cf53 2 (some .int) 2 := ⟨⟨by decide +kernel, me_J15_checkIndex_7cf53⟩, by decide, by decide, by decide +kernel⟩
theorem me_Jx4a65c_elementData_915e3 : Cond.instanceMethod yJx4a65c_elementData_915e3 ∈ GT ∧ Cond.selects RJx4a65c yJx4a65c_elementData_915e3 yJx4a65c_elementData_915e3 ∈ GT ∧ Cond.initialized RJx4a65c ∈ GT ∧ Cond.code yJx4a65c_elementData_915e3 cJx4a65c_elementData_915e3 2 (some (.object "java/lang/Object")) ∈ GT := ⟨by decide +kernel, by decide +kernel, by decide +kernel, by decide +kernel⟩
theorem cl_Jx4a65c_123 : VL RJx4a65c 123 0 yJx4a65c_elementData_915e3 cJx4a65c_elementData_915e3 2 (some (.object "java/lang/Object")) 1 := ⟨⟨TJx4a65c, 3, rfl⟩, ⟨by decide +kernel, me_Jx4a65c_elementData_915e3⟩, by decide, by decide, by decide +kernel⟩
theorem me_Jx4a65c_grow_d5877 : Cond.instanceMethod yJx4a65c_grow_d5877 ∈ GT ∧ Cond.selects RJx4a65c yJx4a65c_grow_d5877 yJx4a65c_grow_d5877 ∈ GT ∧ Cond.initialized RJx4a65c ∈ GT ∧ Cond.code yJx4a65c_grow_d5877 cJx4a65c_grow_d5877 1 (some (.array (.object "java/lang/Object"))) ∈ GT := ⟨by decide +kernel, by decide +kernel, by decide +kernel, by decide +kernel⟩
theorem cl_Jx4a65c_129 : VL RJx4a65c 129 0 yJx4a65c_grow_d5877 cJx4a65c_grow_d5877 1 (some (.array (.object "java/lang/Object"))) 0 := ⟨⟨TJx4a65c, 3, rfl⟩, ⟨by decide +kernel, me_Jx4a65c_grow_d5877⟩, by decide, by decide, by decide +kernel⟩
theorem me_Jx4a65c_add_72be8 : Cond.instanceMethod yJx4a65c_add_72be8 ∈ GT ∧ Cond.selects RJx4a65c yJx4a65c_add_72be8 yJx4a65c_add_72be8 ∈ GT ∧ Cond.initialized RJx4a65c ∈ GT ∧ Cond.code yJx4a65c_add_72be8 cJx4a65c_add_72be8 4 none ∈ GT := ⟨by decide +kernel, by decide +kernel, by decide +kernel, by decide +kernel⟩
theorem cl_Jx4a65c_131 : VL RJx4a65c 131 0 yJx4a65c_add_72be8 cJx4a65c_add_72be8 4 none 3 := ⟨⟨TJx4a65c, 3, rfl⟩, ⟨by decide +kernel, me_Jx4a65c_add_72be8⟩, by decide, by decide, by decide +kernel⟩
theorem me_Jx4a65c_rangeCheckForAdd_d00df : Cond.instanceMethod yJx4a65c_rangeCheckForAdd_d00df ∈ GT ∧ Cond.selects RJx4a65c yJx4a65c_rangeCheckForAdd_d00df yJx4a65c_rangeCheckForAdd_d00df ∈ GT ∧ Cond.initialized RJx4a65c ∈ GT ∧ Cond.code yJx4a65c_rangeCheckForAdd_d00df cJx4a65c_rangeCheckForAdd_d00df 2 none ∈ GT := ⟨by decide +kernel, by decide +kernel, by decide +kernel, by decide +kernel⟩
theorem cl_Jx4a65c_135 : VL RJx4a65c 135 0 yJx4a65c_rangeCheckForAdd_d00df cJx4a65c_rangeCheckForAdd_d00df 2 none 1 := ⟨⟨TJx4a65c, 3, rfl⟩, ⟨by decide +kernel, me_Jx4a65c_rangeCheckForAdd_d00df⟩, by decide, by decide, by decide +kernel⟩
theorem lk_Jxa1e45_1 : Cond.methodLink RJxa1e45 1 objectInit ∈ GT := by decide +kernel
theorem me_Jxa1e45_init_da8c8 : Cond.instanceMethod yJxa1e45_init_da8c8 ∈ GT ∧ Cond.initialized RJxa1e45 ∈ GT ∧ Cond.code yJxa1e45_init_da8c8 cJxa1e45_init_da8c8 1 none ∈ GT := ⟨by decide +kernel, by decide +kernel, by decide +kernel⟩
theorem cl_Jxc12de_1 : IL RJxc12de 1 yJxa1e45_init_da8c8 cJxa1e45_init_da8c8 1 0 := ⟨⟨by decide +kernel, me_Jxa1e45_init_da8c8⟩, rfl, by decide, by decide, by decide +kernel⟩
section
variable {p : Program} {l : Launch} {e : Env} {s : State} {m : MethodId} {args : Array Value} {below : List Frame} {meth : Method} {c : Code} {G : GG}
abbrev rm_Jxa1e45_init_da8c8 : Room := { frames := 1, cells := 0, slots := 0, locals := 20 }
def f_Jxa1e45_init_da8c8 (this : Nat) (h : Hp) : Option (Unit × Hp) :=
rtV h
set_option maxHeartbeats 4000000 in
set_option maxRecDepth 100000 in
theorem c_Jxa1e45_init_da8c8 (l : Launch) {G : GG} (this : Nat) (h : Hp) (v : Unit) (h1 : Hp) (hq : f_Jxa1e45_init_da8c8 this h = some (v, h1)) : Met l yJxa1e45_init_da8c8 (Cond.code yJxa1e45_init_da8c8 cJxa1e45_init_da8c8 1 none :: GT) rm_Jxa1e45_init_da8c8 (va_Pc [.ref this] (Cn G h)) (Qx G none h1) 0 0 (AA G) := by
  refine xMetF (cc := cJxa1e45_init_da8c8) (by decide +kernel) (Nat.le_of_ble_eq_true rfl) (List.forall_mem_cons.mpr ⟨rfl, (fun _ z => by cases z)⟩) ?_
  intro p e s m below meth c ls Z hr hlk hin hR hS hl
  have hx := Z.1
  have hb := Z.2.1
  have hl : LV ls 1 [(0, va_rf (some this))] := hl
  unfold f_Jxa1e45_init_da8c8 at hq
  refine xaln hx hb hl (x := (some this)) 0 rfl dJxa1e45_init_da8c8_0 ?_
  refine xoi Z hl lk_Jxa1e45_1 (by decide) (by decide) dJxa1e45_init_da8c8_1 ?_
  exact xrV hx hb hr hlk hR hS hq (by decide) (by decide) dJxa1e45_init_da8c8_4
abbrev rm_Jxc12de_init_da8c8 : Room := { frames := 2, cells := 0, slots := 0, locals := 40 }
def f_Jxc12de_init_da8c8 (this : Nat) (h : Hp) : Option (Unit × Hp) :=
bd (f_Jxa1e45_init_da8c8 this h) (fun u1 h =>
pI h (some this) 0 0 0 (fun h =>
rtV h))
set_option maxHeartbeats 4000000 in
set_option maxRecDepth 100000 in
theorem c_Jxc12de_init_da8c8 (l : Launch) {G : GG} (this : Nat) (h : Hp) (v : Unit) (h1 : Hp) (hq : f_Jxc12de_init_da8c8 this h = some (v, h1)) : Met l yJxc12de_init_da8c8 (Cond.code yJxc12de_init_da8c8 cJxc12de_init_da8c8 1 none :: GT) rm_Jxc12de_init_da8c8 (va_Pc [.ref this] (Cn G h)) (Qx G none h1) 0 0 (AA G) := by
  refine xMetF (cc := cJxc12de_init_da8c8) (by decide +kernel) (Nat.le_of_ble_eq_true rfl) (List.forall_mem_cons.mpr ⟨rfl, (fun _ z => by cases z)⟩) ?_
  intro p e s m below meth c ls Z hr hlk hin hR hS hl
  have hx := Z.1
  have hb := Z.2.1
  have hl : LV ls 1 [(0, va_rf (some this))] := hl
  unfold f_Jxc12de_init_da8c8 at hq
  refine xaln hx hb hl (x := (some this)) 0 rfl dJxc12de_init_da8c8_0 ?_
  refine xcI Z hR hS hl (rest := []) (b := this) (As := []) hq cl_Jxc12de_1 (fun x h1 hc => c_Jxa1e45_init_da8c8 l this h x h1 hc) ⟨⟨rfl, rfl⟩, (by decide), (by decide)⟩ rfl rfl (by first | decide | (simp only [List.map_cons, List.map_nil, rf_cat, ct_int, ct_ref, List.sum_cons, List.sum_nil] <;> decide)) dJxc12de_init_da8c8_1 (by decide) (fun u1 h H locs hq hR hS => ?_)
  refine xaln hx hb hl (x := (some this)) 0 rfl dJxc12de_init_da8c8_4 ?_
  refine lv_iconst (v := 0) hx hb dJxc12de_init_da8c8_5 (by decide) ?_
  refine xpI Z hR hS hq fl_Jxc12de_7 rfl (Or.inl nf_0_0) dJxc12de_init_da8c8_6 (fun h H locs hq hR hS => ?_)
  exact xrV hx hb hr hlk hR hS hq (by decide) (by decide) dJxc12de_init_da8c8_9
abbrev rm_Jx4a65c_init_da8c8 : Room := { frames := 3, cells := 0, slots := 0, locals := 60 }
def f_Jx4a65c_init_da8c8 (E : Nat × Nat) (this : Nat) (h : Hp) : Option (Unit × Hp) :=
bd (f_Jxc12de_init_da8c8 this h) (fun u1 h =>
pR h (some this) 0 1 (some E.1) (fun h =>
rtV h))
set_option maxHeartbeats 4000000 in
set_option maxRecDepth 100000 in
theorem c_Jx4a65c_init_da8c8 (l : Launch) {G : GG} (this : Nat) (h : Hp) (v : Unit) (h1 : Hp) (hq : f_Jx4a65c_init_da8c8 G.1.2 this h = some (v, h1)) : Met l yJx4a65c_init_da8c8 (Cond.code yJx4a65c_init_da8c8 cJx4a65c_init_da8c8 1 none :: GT) rm_Jx4a65c_init_da8c8 (va_Pc [.ref this] (Cn G h)) (Qx G none h1) 0 0 (AA G) := by
  refine xMetF (cc := cJx4a65c_init_da8c8) (by decide +kernel) (Nat.le_of_ble_eq_true rfl) (List.forall_mem_cons.mpr ⟨rfl, (fun _ z => by cases z)⟩) ?_
  intro p e s m below meth c ls Z hr hlk hin hR hS hl
  have hx := Z.1
  have hb := Z.2.1
  have hl : LV ls 1 [(0, va_rf (some this))] := hl
  unfold f_Jx4a65c_init_da8c8 at hq
  refine xaln hx hb hl (x := (some this)) 0 rfl dJx4a65c_init_da8c8_0 ?_
  refine xcI Z hR hS hl (rest := []) (b := this) (As := []) hq cl_Jx4a65c_1 (fun x h1 hc => c_Jxc12de_init_da8c8 l this h x h1 hc) ⟨⟨rfl, rfl⟩, (by decide), (by decide)⟩ rfl rfl (by first | decide | (simp only [List.map_cons, List.map_nil, rf_cat, ct_int, ct_ref, List.sum_cons, List.sum_nil] <;> decide)) dJx4a65c_init_da8c8_1 (by decide) (fun u1 h H locs hq hR hS => ?_)
  refine xaln hx hb hl (x := (some this)) 0 rfl dJx4a65c_init_da8c8_4 ?_
  refine xgs Z hS dJx4a65c_init_da8c8_5 ?_
  refine xpR Z hR hS hq fl_Jx4a65c_9 rfl (Or.inl nf_0_1) dJx4a65c_init_da8c8_8 (fun h H locs hq hR hS => ?_)
  exact xrV hx hb hr hlk hR hS hq (by decide) (by decide) dJx4a65c_init_da8c8_11
abbrev rm_Jx4a65c_size_8abf5 : Room := { frames := 0, cells := 0, slots := 0, locals := 0 }
def f_Jx4a65c_size_8abf5 (this : Nat) (h : Hp) : Option (Int32 × Hp) :=
gI h (some this) 0 2 (fun x1 =>
rtI x1 h)
set_option maxHeartbeats 4000000 in
set_option maxRecDepth 100000 in
theorem c_Jx4a65c_size_8abf5 (l : Launch) {G : GG} (this : Nat) (h : Hp) (v : Int32) (h1 : Hp) (hq : f_Jx4a65c_size_8abf5 this h = some (v, h1)) : Met l yJx4a65c_size_8abf5 (Cond.code yJx4a65c_size_8abf5 cJx4a65c_size_8abf5 1 (some .int) :: GT) rm_Jx4a65c_size_8abf5 (va_Pc [.ref this] (Cn G h)) (Qx G (some (.int v)) h1) 0 0 (AA G) := by
  refine xMetF (cc := cJx4a65c_size_8abf5) (by decide +kernel) (Nat.le_of_ble_eq_true rfl) (List.forall_mem_cons.mpr ⟨rfl, (fun _ z => by cases z)⟩) ?_
  intro p e s m below meth c ls Z hr hlk hin hR hS hl
  have hx := Z.1
  have hb := Z.2.1
  have hl : LV ls 1 [(0, va_rf (some this))] := hl
  unfold f_Jx4a65c_size_8abf5 at hq
  refine xaln hx hb hl (x := (some this)) 0 rfl dJx4a65c_size_8abf5_0 ?_
  refine xgI Z hR hq fl_Jx4a65c_48 rfl dJx4a65c_size_8abf5_1 (fun x1 hq => ?_)
  exact xrI hx hb hr hlk hR hS hq (by decide) (by decide) dJx4a65c_size_8abf5_4
abbrev rm_J3_checkIndex_8e157 : Room := { frames := 0, cells := 0, slots := 0, locals := 0 }
def f_J3_checkIndex_8e157_9  (l0 : Int32) (l1 : Int32) (l2 : Option Nat) (h : Hp) : Option (Int32 × Hp) :=
none
set_option maxHeartbeats 4000000 in
set_option maxRecDepth 100000 in
theorem t_J3_checkIndex_8e157_9 (Z : ZZ p s m args c cJ3_checkIndex_8e157 RJ3 3 G) (hr : meth.sig.returnType = (some .int)) (hlk : meth.locks = false) (hin : meth.name = "checkIndex") {v : Int32} {h1 : Hp} : ∀ (l0 : Int32) (l1 : Int32) (l2 : Option Nat) (h : Hp) (H : Heap) (locs : List Loc) (ls : Array Slot), f_J3_checkIndex_8e157_9 l0 l1 l2 h = some (v, h1) → Rep G h H → va_S (AA G) s.heap H locs → LV ls 3 [(0, .int l0), (1, .int l1), (2, va_rf l2)] → W p l e rm_J3_checkIndex_8e157 s m args below meth c H locs 0 0 (MQ below (Qx G (some (.int v)) h1) args s 0 0 (AA G)) (F0 m 9 ls []) := by
  intro l0 l1 l2 h H locs ls hq hR hS hl
  have hx := Z.1
  have hb := Z.2.1
  unfold f_J3_checkIndex_8e157_9 at hq
  refine xaln hx hb hl (x := l2) 2 rfl dJ3_checkIndex_8e157_9 ?_
  refine xiln hx hb hl (x := l0) 0 rfl dJ3_checkIndex_8e157_10 ?_
  refine xiln hx hb hl (x := l1) 1 rfl dJ3_checkIndex_8e157_11 ?_
  cases hq
def f_J3_checkIndex_8e157 (a0 : Int32) (a1 : Int32) (a2 : Option Nat) (h : Hp) : Option (Int32 × Hp) :=
(if a0 < 0 then
f_J3_checkIndex_8e157_9 a0 a1 a2 h
else
(if a0 < a1 then
rtI a0 h
else
f_J3_checkIndex_8e157_9 a0 a1 a2 h))
set_option maxHeartbeats 4000000 in
set_option maxRecDepth 100000 in
theorem c_J3_checkIndex_8e157 (l : Launch) {G : GG} (a0 : Int32) (a1 : Int32) (a2 : Option Nat) (h : Hp) (v : Int32) (h1 : Hp) (hq : f_J3_checkIndex_8e157 a0 a1 a2 h = some (v, h1)) : Met l yJ3_checkIndex_8e157 (Cond.code yJ3_checkIndex_8e157 cJ3_checkIndex_8e157 3 (some .int) :: GT) rm_J3_checkIndex_8e157 (va_Pc [.int a0, .int a1, va_rf a2] (Cn G h)) (Qx G (some (.int v)) h1) 0 0 (AA G) := by
  refine xMetF (cc := cJ3_checkIndex_8e157) (by decide +kernel) (Nat.le_of_ble_eq_true rfl) (List.forall_mem_cons.mpr ⟨rfl, (List.forall_mem_cons.mpr ⟨rfl, (List.forall_mem_cons.mpr ⟨(rf_cat a2), (fun _ z => by cases z)⟩)⟩)⟩) ?_
  intro p e s m below meth c ls Z hr hlk hin hR hS hl
  have hx := Z.1
  have hb := Z.2.1
  have hl : LV ls 3 [(0, .int a0), (1, .int a1), (2, va_rf a2)] := hl
  unfold f_J3_checkIndex_8e157 at hq
  refine xiln hx hb hl (x := a0) 0 rfl dJ3_checkIndex_8e157_0 ?_
  refine xzLt hx hb hq (tgt := 9) dJ3_checkIndex_8e157_1 (by decide) (fun hq => ?_) (fun hq => ?_)
  · exact t_J3_checkIndex_8e157_9 Z hr hlk hin a0 a1 a2 h _ _ ls hq hR hS (hl.sub [0, 1, 2] rfl)
  refine xiln hx hb hl (x := a0) 0 rfl dJ3_checkIndex_8e157_4 ?_
  refine xiln hx hb hl (x := a1) 1 rfl dJ3_checkIndex_8e157_5 ?_
  refine xcLt hx hb hq (tgt := 16) dJ3_checkIndex_8e157_6 (by decide) (fun hq => ?_) (fun hq => ?_)
  · refine xiln hx hb hl (x := a0) 0 rfl dJ3_checkIndex_8e157_16 ?_
    exact xrI hx hb hr hlk hR hS hq (by decide) (by decide) dJ3_checkIndex_8e157_17
  exact t_J3_checkIndex_8e157_9 Z hr hlk hin a0 a1 a2 h _ _ ls hq hR hS (hl.sub [0, 1, 2] rfl)
abbrev rm_J15_checkIndex_7cf53 : Room := { frames := 1, cells := 0, slots := 0, locals := 22 }
def f_J15_checkIndex_7cf53 (a0 : Int32) (a1 : Int32) (h : Hp) : Option (Int32 × Hp) :=
bd (f_J3_checkIndex_8e157 a0 a1 none h) (fun x3 h =>
rtI x3 h)
set_option maxHeartbeats 4000000 in
set_option maxRecDepth 100000 in
theorem c_J15_checkIndex_7cf53 (l : Launch) {G : GG} (a0 : Int32) (a1 : Int32) (h : Hp) (v : Int32) (h1 : Hp) (hq : f_J15_checkIndex_7cf53 a0 a1 h = some (v, h1)) : Met l yJ15_checkIndex_7cf53 (Cond.code yJ15_checkIndex_7cf53 cJ15_checkIndex_7cf53 2 (some .int) :: GT) rm_J15_checkIndex_7cf53 (va_Pc [.int a0, .int a1] (Cn G h)) (Qx G (some (.int v)) h1) 0 0 (AA G) := by
  refine xMetF (cc := cJ15_checkIndex_7cf53) (by decide +kernel) (Nat.le_of_ble_eq_true rfl) (List.forall_mem_cons.mpr ⟨rfl, (List.forall_mem_cons.mpr ⟨rfl, (fun _ z => by cases z)⟩)⟩) ?_
  intro p e s m below meth c ls Z hr hlk hin hR hS hl
  have hx := Z.1
  have hb := Z.2.1
  have hl : LV ls 2 [(0, .int a0), (1, .int a1)] := hl
  unfold f_J15_checkIndex_7cf53 at hq
  refine xiln hx hb hl (x := a0) 0 rfl dJ15_checkIndex_7cf53_0 ?_
  refine xiln hx hb hl (x := a1) 1 rfl dJ15_checkIndex_7cf53_1 ?_
  refine lv_null hx hb dJ15_checkIndex_7cf53_2 ?_
  refine xcS Z hR hS hl (rest := []) (As := [.int a0, .int a1, va_rf none]) hq cl_J15_105 (fun x h1 hc => c_J3_checkIndex_8e157 l a0 a1 none h x h1 hc) ⟨⟨rfl, rfl⟩, (by decide), (by decide)⟩ rfl rfl (by first | decide | (simp only [List.map_cons, List.map_nil, rf_cat, ct_int, ct_ref, List.sum_cons, List.sum_nil] <;> decide)) dJ15_checkIndex_7cf53_3 (by decide) (fun x3 h H locs hq hR hS => ?_)
  exact xrI hx hb hr hlk hR hS hq (by decide) (by decide) dJ15_checkIndex_7cf53_6
abbrev rm_Jx4a65c_elementData_915e3 : Room := { frames := 0, cells := 0, slots := 0, locals := 0 }
def f_Jx4a65c_elementData_915e3 (this : Nat) (a0 : Int32) (h : Hp) : Option (Option Nat × Hp) :=
gR h (some this) 0 1 (fun x1 =>
ldR h x1 a0 (fun x5 =>
rtR x5 h))
set_option maxHeartbeats 4000000 in
set_option maxRecDepth 100000 in
theorem c_Jx4a65c_elementData_915e3 (l : Launch) {G : GG} (this : Nat) (a0 : Int32) (h : Hp) (v : Option Nat) (h1 : Hp) (hq : f_Jx4a65c_elementData_915e3 this a0 h = some (v, h1)) : Met l yJx4a65c_elementData_915e3 (Cond.code yJx4a65c_elementData_915e3 cJx4a65c_elementData_915e3 2 (some (.object "java/lang/Object")) :: GT) rm_Jx4a65c_elementData_915e3 (va_Pc [.ref this, .int a0] (Cn G h)) (Qx G (some (va_rf v)) h1) 0 0 (AA G) := by
  refine xMetF (cc := cJx4a65c_elementData_915e3) (by decide +kernel) (Nat.le_of_ble_eq_true rfl) (List.forall_mem_cons.mpr ⟨rfl, (List.forall_mem_cons.mpr ⟨rfl, (fun _ z => by cases z)⟩)⟩) ?_
  intro p e s m below meth c ls Z hr hlk hin hR hS hl
  have hx := Z.1
  have hb := Z.2.1
  have hl : LV ls 2 [(0, va_rf (some this)), (1, .int a0)] := hl
  unfold f_Jx4a65c_elementData_915e3 at hq
  refine xaln hx hb hl (x := (some this)) 0 rfl dJx4a65c_elementData_915e3_0 ?_
  refine xgR Z hR hq fl_Jx4a65c_9 rfl dJx4a65c_elementData_915e3_1 (fun x1 hq => ?_)
  refine xiln hx hb hl (x := a0) 1 rfl dJx4a65c_elementData_915e3_4 ?_
  refine xaR Z hR hq dJx4a65c_elementData_915e3_5 (fun x5 hq => ?_)
  exact xrR hx hb hr (by first | exact Or.inl ⟨_, rfl⟩ | exact Or.inr ⟨_, rfl⟩) hlk hR hS hq (by decide) (by decide) dJx4a65c_elementData_915e3_6
abbrev rm_Jx4a65c_get_915e3 : Room := { frames := 2, cells := 0, slots := 0, locals := 43 }
def f_Jx4a65c_get_915e3 (this : Nat) (a0 : Int32) (h : Hp) : Option (Option Nat × Hp) :=
gI h (some this) 0 2 (fun x2 =>
bd (f_J15_checkIndex_7cf53 a0 x2 h) (fun x5 h =>
rcv h (some this) 0 (fun b11 => bd (f_Jx4a65c_elementData_915e3 b11 a0 h) (fun x11 h =>
rtR x11 h))))
set_option maxHeartbeats 4000000 in
set_option maxRecDepth 100000 in
theorem c_Jx4a65c_get_915e3 (l : Launch) {G : GG} (this : Nat) (a0 : Int32) (h : Hp) (v : Option Nat) (h1 : Hp) (hq : f_Jx4a65c_get_915e3 this a0 h = some (v, h1)) : Met l yJx4a65c_get_915e3 (Cond.code yJx4a65c_get_915e3 cJx4a65c_get_915e3 2 (some (.object "java/lang/Object")) :: GT) rm_Jx4a65c_get_915e3 (va_Pc [.ref this, .int a0] (Cn G h)) (Qx G (some (va_rf v)) h1) 0 0 (AA G) := by
  refine xMetF (cc := cJx4a65c_get_915e3) (by decide +kernel) (Nat.le_of_ble_eq_true rfl) (List.forall_mem_cons.mpr ⟨rfl, (List.forall_mem_cons.mpr ⟨rfl, (fun _ z => by cases z)⟩)⟩) ?_
  intro p e s m below meth c ls Z hr hlk hin hR hS hl
  have hx := Z.1
  have hb := Z.2.1
  have hl : LV ls 2 [(0, va_rf (some this)), (1, .int a0)] := hl
  unfold f_Jx4a65c_get_915e3 at hq
  refine xiln hx hb hl (x := a0) 1 rfl dJx4a65c_get_915e3_0 ?_
  refine xaln hx hb hl (x := (some this)) 0 rfl dJx4a65c_get_915e3_1 ?_
  refine xgI Z hR hq fl_Jx4a65c_48 rfl dJx4a65c_get_915e3_2 (fun x2 hq => ?_)
  refine xcS Z hR hS hl (rest := []) (As := [.int a0, .int x2]) hq cl_Jx4a65c_118 (fun x h1 hc => c_J15_checkIndex_7cf53 l a0 x2 h x h1 hc) ⟨⟨rfl, rfl⟩, (by decide), (by decide)⟩ rfl rfl (by first | decide | (simp only [List.map_cons, List.map_nil, rf_cat, ct_int, ct_ref, List.sum_cons, List.sum_nil] <;> decide)) dJx4a65c_get_915e3_5 (by decide) (fun x5 h H locs hq hR hS => ?_)
  refine lv_pop hx hb dJx4a65c_get_915e3_8 rfl ?_
  refine xaln hx hb hl (x := (some this)) 0 rfl dJx4a65c_get_915e3_9 ?_
  refine xiln hx hb hl (x := a0) 1 rfl dJx4a65c_get_915e3_10 ?_
  refine xcV Z hR hS hl (rest := []) (As := [.int a0]) hq cl_Jx4a65c_123 (fun b x h1 hc => c_Jx4a65c_elementData_915e3 l b a0 h x h1 hc) ⟨⟨rfl, rfl⟩, (by decide), (by decide)⟩ rfl rfl (by first | decide | (simp only [List.map_cons, List.map_nil, rf_cat, ct_int, ct_ref, List.sum_cons, List.sum_nil] <;> decide)) dJx4a65c_get_915e3_11 (by decide) (fun x11 h H locs hq hR hS => ?_)
  exact xrR hx hb hr (by first | exact Or.inl ⟨_, rfl⟩ | exact Or.inr ⟨_, rfl⟩) hlk hR hS hq (by decide) (by decide) dJx4a65c_get_915e3_14
abbrev rm_Jx4a65c_rangeCheckForAdd_d00df : Room := { frames := 0, cells := 0, slots := 0, locals := 0 }
def f_Jx4a65c_rangeCheckForAdd_d00df_12   (h : Hp) : Option (Unit × Hp) :=
none
set_option maxHeartbeats 4000000 in
set_option maxRecDepth 100000 in
theorem t_Jx4a65c_rangeCheckForAdd_d00df_12 (Z : ZZ p s m args c cJx4a65c_rangeCheckForAdd_d00df RJx4a65c 2 G) (hr : meth.sig.returnType = none) (hlk : meth.locks = false) (hin : meth.name = "rangeCheckForAdd") {v : Unit} {h1 : Hp} : ∀  (h : Hp) (H : Heap) (locs : List Loc) (ls : Array Slot), f_Jx4a65c_rangeCheckForAdd_d00df_12  h = some (v, h1) → Rep G h H → va_S (AA G) s.heap H locs → LV ls 2 [] → W p l e rm_Jx4a65c_rangeCheckForAdd_d00df s m args below meth c H locs 0 0 (MQ below (Qx G none h1) args s 0 0 (AA G)) (F0 m 12 ls []) := by
  intro  h H locs ls hq hR hS hl
  have hx := Z.1
  have hb := Z.2.1
  unfold f_Jx4a65c_rangeCheckForAdd_d00df_12 at hq
  cases hq
def f_Jx4a65c_rangeCheckForAdd_d00df (this : Nat) (a0 : Int32) (h : Hp) : Option (Unit × Hp) :=
gI h (some this) 0 2 (fun x2 =>
(if x2 < a0 then
f_Jx4a65c_rangeCheckForAdd_d00df_12  h
else
(if 0 ≤ a0 then
rtV h
else
f_Jx4a65c_rangeCheckForAdd_d00df_12  h)))
set_option maxHeartbeats 4000000 in
set_option maxRecDepth 100000 in
theorem c_Jx4a65c_rangeCheckForAdd_d00df (l : Launch) {G : GG} (this : Nat) (a0 : Int32) (h : Hp) (v : Unit) (h1 : Hp) (hq : f_Jx4a65c_rangeCheckForAdd_d00df this a0 h = some (v, h1)) : Met l yJx4a65c_rangeCheckForAdd_d00df (Cond.code yJx4a65c_rangeCheckForAdd_d00df cJx4a65c_rangeCheckForAdd_d00df 2 none :: GT) rm_Jx4a65c_rangeCheckForAdd_d00df (va_Pc [.ref this, .int a0] (Cn G h)) (Qx G none h1) 0 0 (AA G) := by
  refine xMetF (cc := cJx4a65c_rangeCheckForAdd_d00df) (by decide +kernel) (Nat.le_of_ble_eq_true rfl) (List.forall_mem_cons.mpr ⟨rfl, (List.forall_mem_cons.mpr ⟨rfl, (fun _ z => by cases z)⟩)⟩) ?_
  intro p e s m below meth c ls Z hr hlk hin hR hS hl
  have hx := Z.1
  have hb := Z.2.1
  have hl : LV ls 2 [(0, va_rf (some this)), (1, .int a0)] := hl
  unfold f_Jx4a65c_rangeCheckForAdd_d00df at hq
  refine xiln hx hb hl (x := a0) 1 rfl dJx4a65c_rangeCheckForAdd_d00df_0 ?_
  refine xaln hx hb hl (x := (some this)) 0 rfl dJx4a65c_rangeCheckForAdd_d00df_1 ?_
  refine xgI Z hR hq fl_Jx4a65c_48 rfl dJx4a65c_rangeCheckForAdd_d00df_2 (fun x2 hq => ?_)
  refine xcGt hx hb hq (tgt := 12) dJx4a65c_rangeCheckForAdd_d00df_5 (by decide) (fun hq => ?_) (fun hq => ?_)
  · exact t_Jx4a65c_rangeCheckForAdd_d00df_12 Z hr hlk hin  h _ _ ls hq hR hS (hl.sub [] rfl)
  refine xiln hx hb hl (x := a0) 1 rfl dJx4a65c_rangeCheckForAdd_d00df_8 ?_
  refine xzGe hx hb hq (tgt := 25) dJx4a65c_rangeCheckForAdd_d00df_9 (by decide) (fun hq => ?_) (fun hq => ?_)
  · exact xrV hx hb hr hlk hR hS hq (by decide) (by decide) dJx4a65c_rangeCheckForAdd_d00df_25
  exact t_Jx4a65c_rangeCheckForAdd_d00df_12 Z hr hlk hin  h _ _ ls hq hR hS (hl.sub [] rfl)
abbrev rm_J8_newLength_cabcc : Room := { frames := 1, cells := 0, slots := 0, locals := 21 }
def f_J8_newLength_cabcc_21  (l0 : Int32) (l1 : Int32) (h : Hp) : Option (Int32 × Hp) :=
none
set_option maxHeartbeats 4000000 in
set_option maxRecDepth 100000 in
theorem t_J8_newLength_cabcc_21 (Z : ZZ p s m args c cJ8_newLength_cabcc RJ8 4 G) (hr : meth.sig.returnType = (some .int)) (hlk : meth.locks = false) (hin : meth.name = "newLength") {v : Int32} {h1 : Hp} : ∀ (l0 : Int32) (l1 : Int32) (h : Hp) (H : Heap) (locs : List Loc) (ls : Array Slot), f_J8_newLength_cabcc_21 l0 l1 h = some (v, h1) → Rep G h H → va_S (AA G) s.heap H locs → LV ls 4 [(0, .int l0), (1, .int l1)] → W p l e rm_J8_newLength_cabcc s m args below meth c H locs 0 0 (MQ below (Qx G (some (.int v)) h1) args s 0 0 (AA G)) (F0 m 21 ls []) := by
  intro l0 l1 h H locs ls hq hR hS hl
  have hx := Z.1
  have hb := Z.2.1
  unfold f_J8_newLength_cabcc_21 at hq
  refine xiln hx hb hl (x := l0) 0 rfl dJ8_newLength_cabcc_21 ?_
  refine xiln hx hb hl (x := l1) 1 rfl dJ8_newLength_cabcc_22 ?_
  cases hq
def f_J8_newLength_cabcc (a0 : Int32) (a1 : Int32) (a2 : Int32) (h : Hp) : Option (Int32 × Hp) :=
(if (a0 + (if a1 < a2 then a2 else a1)) ≤ 0 then
f_J8_newLength_cabcc_21 a0 a1 h
else
(if 2147483639 < (a0 + (if a1 < a2 then a2 else a1)) then
f_J8_newLength_cabcc_21 a0 a1 h
else
rtI (a0 + (if a1 < a2 then a2 else a1)) h))
set_option maxHeartbeats 4000000 in
set_option maxRecDepth 100000 in
theorem c_J8_newLength_cabcc (l : Launch) {G : GG} (a0 : Int32) (a1 : Int32) (a2 : Int32) (h : Hp) (v : Int32) (h1 : Hp) (hq : f_J8_newLength_cabcc a0 a1 a2 h = some (v, h1)) : Met l yJ8_newLength_cabcc (Cond.code yJ8_newLength_cabcc cJ8_newLength_cabcc 4 (some .int) :: GT) rm_J8_newLength_cabcc (va_Pc [.int a0, .int a1, .int a2] (Cn G h)) (Qx G (some (.int v)) h1) 0 0 (AA G) := by
  refine xMetF (cc := cJ8_newLength_cabcc) (by decide +kernel) (Nat.le_of_ble_eq_true rfl) (List.forall_mem_cons.mpr ⟨rfl, (List.forall_mem_cons.mpr ⟨rfl, (List.forall_mem_cons.mpr ⟨rfl, (fun _ z => by cases z)⟩)⟩)⟩) ?_
  intro p e s m below meth c ls Z hr hlk hin hR hS hl
  have hx := Z.1
  have hb := Z.2.1
  have hl : LV ls 4 [(0, .int a0), (1, .int a1), (2, .int a2)] := hl
  unfold f_J8_newLength_cabcc at hq
  refine xiln hx hb hl (x := a0) 0 rfl dJ8_newLength_cabcc_0 ?_
  refine xiln hx hb hl (x := a1) 1 rfl dJ8_newLength_cabcc_1 ?_
  refine xiln hx hb hl (x := a2) 2 rfl dJ8_newLength_cabcc_2 ?_
  refine xmx Z hl lk_J8_194 (by decide) (by first | decide | (simp only [List.map_cons, List.map_nil, rf_cat, ct_int, ct_ref, List.sum_cons, List.sum_nil] <;> decide)) (by decide) (by decide) dJ8_newLength_cabcc_3 ?_
  refine lv_iadd hx hb dJ8_newLength_cabcc_6 ?_
  refine xisn hx hb hl (x := (a0 + (if a1 < a2 then a2 else a1))) (lv' := [(3, .int (a0 + (if a1 < a2 then a2 else a1))), (0, .int a0), (1, .int a1), (2, .int a2)]) (by decide) dJ8_newLength_cabcc_7 rfl (fun ls hl => ?_)
  refine lv_iconst (v := 0) hx hb dJ8_newLength_cabcc_8 (by decide) ?_
  refine xiln hx hb hl (x := (a0 + (if a1 < a2 then a2 else a1))) 0 rfl dJ8_newLength_cabcc_9 ?_
  refine xcGe hx hb hq (tgt := 21) dJ8_newLength_cabcc_10 (by decide) (fun hq => ?_) (fun hq => ?_)
  · exact t_J8_newLength_cabcc_21 Z hr hlk hin a0 a1 h _ _ ls hq hR hS (hl.sub [1, 2] rfl)
  refine xiln hx hb hl (x := (a0 + (if a1 < a2 then a2 else a1))) 0 rfl dJ8_newLength_cabcc_13 ?_
  refine lv_ldc hx hb Z.2.2.2.1 (Z.2.2.2.2.1 _ ct_ok) dJ8_newLength_cabcc_14 ?_
  refine xcGt hx hb hq (tgt := 21) dJ8_newLength_cabcc_16 (by decide) (fun hq => ?_) (fun hq => ?_)
  · exact t_J8_newLength_cabcc_21 Z hr hlk hin a0 a1 h _ _ ls hq hR hS (hl.sub [1, 2] rfl)
  refine xiln hx hb hl (x := (a0 + (if a1 < a2 then a2 else a1))) 0 rfl dJ8_newLength_cabcc_19 ?_
  exact xrI hx hb hr hlk hR hS hq (by decide) (by decide) dJ8_newLength_cabcc_20
abbrev rm_J7_copyOf_6403c : Room := { frames := 1, cells := 1, slots := 100, locals := 40 }
def f_J7_copyOf_6403c (E : Nat × Nat) (a0 : Option Nat) (a1 : Int32) (a2 : Option Nat) (h : Hp) : Option (Option Nat × Hp) :=
(if a2 = (some E.2) then
nwR h a1 (fun n7 h =>
alR h a0 (fun x30 =>
acp h a0 0 (some n7) 0 (if a1 < x30 then a1 else x30) (fun h =>
rtR (some n7) h)))
else
none)
set_option maxHeartbeats 4000000 in
set_option maxRecDepth 100000 in
theorem c_J7_copyOf_6403c (l : Launch) {G : GG} (a0 : Option Nat) (a1 : Int32) (a2 : Option Nat) (h : Hp) (v : Option Nat) (h1 : Hp) (hq : f_J7_copyOf_6403c G.1.2 a0 a1 a2 h = some (v, h1)) : Met l yJ7_copyOf_6403c (Cond.code yJ7_copyOf_6403c cJ7_copyOf_6403c 4 (some (.array (.object "java/lang/Object"))) :: GT) rm_J7_copyOf_6403c (va_Pc [va_rf a0, .int a1, va_rf a2] (Cn G h)) (Qx G (some (va_rf v)) h1) 1 100 (AA G) := by
  refine xMetF (cc := cJ7_copyOf_6403c) (by decide +kernel) (Nat.le_of_ble_eq_true rfl) (List.forall_mem_cons.mpr ⟨(rf_cat a0), (List.forall_mem_cons.mpr ⟨rfl, (List.forall_mem_cons.mpr ⟨(rf_cat a2), (fun _ z => by cases z)⟩)⟩)⟩) ?_
  intro p e s m below meth c ls Z hr hlk hin hR hS hl
  have hx := Z.1
  have hb := Z.2.1
  have hl : LV ls 4 [(0, va_rf a0), (1, .int a1), (2, va_rf a2)] := hl
  unfold f_J7_copyOf_6403c at hq
  refine xaln hx hb hl (x := a2) 2 rfl dJ7_copyOf_6403c_0 ?_
  refine xlm Z dJ7_copyOf_6403c_1 ?_
  refine xaNe hx hb hq (tgt := 13) dJ7_copyOf_6403c_3 (by decide) (fun hq => ?_) (fun hq => ?_)
  · refine xaln hx hb hl (x := a2) 2 rfl dJ7_copyOf_6403c_13 ?_
    cases hq
  refine xiln hx hb hl (x := a1) 1 rfl dJ7_copyOf_6403c_6 ?_
  refine xnR Z hR hS hq (by decide +kernel) (by decide) (by decide) dJ7_copyOf_6403c_7 (fun n7 h H hq hR hS => ?_)
  refine lv_goto (tgt := 24) hx hb dJ7_copyOf_6403c_10 (by decide) ?_
  refine xasn hx hb hl (x := (some n7)) (lv' := [(3, va_rf (some n7)), (0, va_rf a0), (1, .int a1), (2, va_rf a2)]) (by decide) dJ7_copyOf_6403c_24 rfl (fun ls hl => ?_)
  refine xaln hx hb hl (x := a0) 1 rfl dJ7_copyOf_6403c_25 ?_
  refine lv_iconst (v := 0) hx hb dJ7_copyOf_6403c_26 (by decide) ?_
  refine xaln hx hb hl (x := (some n7)) 0 rfl dJ7_copyOf_6403c_27 ?_
  refine lv_iconst (v := 0) hx hb dJ7_copyOf_6403c_28 (by decide) ?_
  refine xaln hx hb hl (x := a0) 1 rfl dJ7_copyOf_6403c_29 ?_
  refine xlR Z hR hq dJ7_copyOf_6403c_30 (fun x30 hq => ?_)
  refine xiln hx hb hl (x := a1) 2 rfl dJ7_copyOf_6403c_31 ?_
  refine xmn Z hl lk_J7_304 (by decide) (by first | decide | (simp only [List.map_cons, List.map_nil, rf_cat, ct_int, ct_ref, List.sum_cons, List.sum_nil] <;> decide)) (by decide) (by decide) dJ7_copyOf_6403c_32 ?_
  refine xcp Z hR hS hl hq lk_J7_150 (by decide) (by first | decide | (simp only [List.map_cons, List.map_nil, rf_cat, ct_int, ct_ref, List.sum_cons, List.sum_nil] <;> decide)) dJ7_copyOf_6403c_35 (fun h H locs hq hR hS => ?_)
  refine xaln hx hb hl (x := (some n7)) 0 rfl dJ7_copyOf_6403c_38 ?_
  exact xrR hx hb hr (by first | exact Or.inl ⟨_, rfl⟩ | exact Or.inr ⟨_, rfl⟩) hlk hR hS hq (by decide) (by decide) dJ7_copyOf_6403c_39
abbrev rm_J7_copyOf_1904c : Room := { frames := 2, cells := 1, slots := 100, locals := 63 }
def f_J7_copyOf_1904c (E : Nat × Nat) (a0 : Option Nat) (a1 : Int32) (h : Hp) : Option (Option Nat × Hp) :=
gcl h a0 (
bd (f_J7_copyOf_6403c E a0 a1 (some E.2) h) (fun x6 h =>
rtR x6 h))
set_option maxHeartbeats 4000000 in
set_option maxRecDepth 100000 in
theorem c_J7_copyOf_1904c (l : Launch) {G : GG} (a0 : Option Nat) (a1 : Int32) (h : Hp) (v : Option Nat) (h1 : Hp) (hq : f_J7_copyOf_1904c G.1.2 a0 a1 h = some (v, h1)) : Met l yJ7_copyOf_1904c (Cond.code yJ7_copyOf_1904c cJ7_copyOf_1904c 2 (some (.array (.object "java/lang/Object"))) :: GT) rm_J7_copyOf_1904c (va_Pc [va_rf a0, .int a1] (Cn G h)) (Qx G (some (va_rf v)) h1) 1 100 (AA G) := by
  refine xMetF (cc := cJ7_copyOf_1904c) (by decide +kernel) (Nat.le_of_ble_eq_true rfl) (List.forall_mem_cons.mpr ⟨(rf_cat a0), (List.forall_mem_cons.mpr ⟨rfl, (fun _ z => by cases z)⟩)⟩) ?_
  intro p e s m below meth c ls Z hr hlk hin hR hS hl
  have hx := Z.1
  have hb := Z.2.1
  have hl : LV ls 2 [(0, va_rf a0), (1, .int a1)] := hl
  unfold f_J7_copyOf_1904c at hq
  refine xaln hx hb hl (x := a0) 0 rfl dJ7_copyOf_1904c_0 ?_
  refine xiln hx hb hl (x := a1) 1 rfl dJ7_copyOf_1904c_1 ?_
  refine xaln hx hb hl (x := a0) 0 rfl dJ7_copyOf_1904c_2 ?_
  refine xgc Z hR hl hq (by decide) (by first | decide | (simp only [List.map_cons, List.map_nil, rf_cat, ct_int, ct_ref, List.sum_cons, List.sum_nil] <;> decide)) dJ7_copyOf_1904c_3 (fun hq => ?_)
  refine xcS Z hR hS hl (rest := []) (As := [va_rf a0, .int a1, va_rf (some G.1.2.2)]) hq cl_J7_300 (fun x h1 hc => c_J7_copyOf_6403c l a0 a1 (some G.1.2.2) h x h1 hc) ⟨⟨rfl, rfl⟩, (by decide), (by decide)⟩ rfl rfl (by first | decide | (simp only [List.map_cons, List.map_nil, rf_cat, ct_int, ct_ref, List.sum_cons, List.sum_nil] <;> decide)) dJ7_copyOf_1904c_6 (by decide) (fun x6 h H locs hq hR hS => ?_)
  exact xrR hx hb hr (by first | exact Or.inl ⟨_, rfl⟩ | exact Or.inr ⟨_, rfl⟩) hlk hR hS hq (by decide) (by decide) dJ7_copyOf_1904c_9
abbrev rm_Jx4a65c_grow_92f84 : Room := { frames := 3, cells := 1, slots := 100, locals := 84 }
def f_Jx4a65c_grow_92f84_20  (E : Nat × Nat) (l0 : Option Nat) (l1 : Int32) (l2 : Int32) (h : Hp) : Option (Option Nat × Hp) :=
bd (f_J8_newLength_cabcc l2 (l1 - l2) (l2 >>> (1 &&& 31)) h) (fun x27 h =>
gR h l0 0 1 (fun x33 =>
bd (f_J7_copyOf_1904c E x33 x27 h) (fun x37 h =>
pR h l0 0 1 x37 (fun h =>
rtR x37 h))))
set_option maxHeartbeats 4000000 in
set_option maxRecDepth 100000 in
theorem t_Jx4a65c_grow_92f84_20 (Z : ZZ p s m args c cJx4a65c_grow_92f84 RJx4a65c 4 G) (hr : meth.sig.returnType = (some (.array (.object "java/lang/Object")))) (hlk : meth.locks = false) (hin : meth.name = "grow") {v : Option Nat} {h1 : Hp} : ∀ (l0 : Option Nat) (l1 : Int32) (l2 : Int32) (h : Hp) (H : Heap) (locs : List Loc) (ls : Array Slot), f_Jx4a65c_grow_92f84_20 G.1.2 l0 l1 l2 h = some (v, h1) → Rep G h H → va_S (AA G) s.heap H locs → LV ls 4 [(0, va_rf l0), (1, .int l1), (2, .int l2)] → W p l e rm_Jx4a65c_grow_92f84 s m args below meth c H locs 0 0 (MQ below (Qx G (some (va_rf v)) h1) args s 1 100 (AA G)) (F0 m 20 ls []) := by
  intro l0 l1 l2 h H locs ls hq hR hS hl
  have hx := Z.1
  have hb := Z.2.1
  unfold f_Jx4a65c_grow_92f84_20 at hq
  refine xiln hx hb hl (x := l2) 2 rfl dJx4a65c_grow_92f84_20 ?_
  refine xiln hx hb hl (x := l1) 1 rfl dJx4a65c_grow_92f84_21 ?_
  refine xiln hx hb hl (x := l2) 2 rfl dJx4a65c_grow_92f84_22 ?_
  refine lv_isub hx hb dJx4a65c_grow_92f84_23 ?_
  refine xiln hx hb hl (x := l2) 2 rfl dJx4a65c_grow_92f84_24 ?_
  refine lv_iconst (v := 1) hx hb dJx4a65c_grow_92f84_25 (by decide) ?_
  refine lv_ishr hx hb dJx4a65c_grow_92f84_26 ?_
  refine xcS Z hR hS hl (rest := []) (As := [.int l2, .int (l1 - l2), .int (l2 >>> (1 &&& 31))]) hq cl_Jx4a65c_73 (fun x h1 hc => c_J8_newLength_cabcc l l2 (l1 - l2) (l2 >>> (1 &&& 31)) h x h1 hc) ⟨⟨rfl, rfl⟩, (by decide), (by decide)⟩ rfl rfl (by first | decide | (simp only [List.map_cons, List.map_nil, rf_cat, ct_int, ct_ref, List.sum_cons, List.sum_nil] <;> decide)) dJx4a65c_grow_92f84_27 (by decide) (fun x27 h H locs hq hR hS => ?_)
  refine xisn hx hb hl (x := x27) (lv' := [(3, .int x27), (0, va_rf l0), (1, .int l1), (2, .int l2)]) (by decide) dJx4a65c_grow_92f84_30 rfl (fun ls hl => ?_)
  refine xaln hx hb hl (x := l0) 1 rfl dJx4a65c_grow_92f84_31 ?_
  refine xaln hx hb hl (x := l0) 1 rfl dJx4a65c_grow_92f84_32 ?_
  refine xgR Z hR hq fl_Jx4a65c_9 rfl dJx4a65c_grow_92f84_33 (fun x33 hq => ?_)
  refine xiln hx hb hl (x := x27) 0 rfl dJx4a65c_grow_92f84_36 ?_
  refine xcS Z hR hS hl (rest := [va_rf l0]) (As := [va_rf x33, .int x27]) hq cl_Jx4a65c_66 (fun x h1 hc => c_J7_copyOf_1904c l x33 x27 h x h1 hc) ⟨⟨rfl, rfl⟩, (by decide), (by decide)⟩ rfl rfl (by first | decide | (simp only [List.map_cons, List.map_nil, rf_cat, ct_int, ct_ref, List.sum_cons, List.sum_nil] <;> decide)) dJx4a65c_grow_92f84_37 (by decide) (fun x37 h H locs hq hR hS => ?_)
  refine lv_dup_x1 hx hb dJx4a65c_grow_92f84_40 (rf_cat x37) (rf_cat l0) ?_
  refine xpR Z hR hS hq fl_Jx4a65c_9 rfl (Or.inl nf_0_1) dJx4a65c_grow_92f84_41 (fun h H locs hq hR hS => ?_)
  exact xrR hx hb hr (by first | exact Or.inl ⟨_, rfl⟩ | exact Or.inr ⟨_, rfl⟩) hlk hR hS hq (by decide) (by decide) dJx4a65c_grow_92f84_44
def f_Jx4a65c_grow_92f84 (E : Nat × Nat) (this : Nat) (a0 : Int32) (h : Hp) : Option (Option Nat × Hp) :=
gR h (some this) 0 1 (fun x1 =>
alR h x1 (fun x4 =>
(if 0 < x4 then
f_Jx4a65c_grow_92f84_20 E (some this) a0 x4 h
else
gR h (some this) 0 1 (fun x11 =>
(if x11 = (some E.1) then
nwR h (if 10 < a0 then a0 else 10) (fun n52 h =>
pR h (some this) 0 1 (some n52) (fun h =>
rtR (some n52) h))
else
f_Jx4a65c_grow_92f84_20 E (some this) a0 x4 h)))))
set_option maxHeartbeats 4000000 in
set_option maxRecDepth 100000 in
theorem c_Jx4a65c_grow_92f84 (l : Launch) {G : GG} (this : Nat) (a0 : Int32) (h : Hp) (v : Option Nat) (h1 : Hp) (hq : f_Jx4a65c_grow_92f84 G.1.2 this a0 h = some (v, h1)) : Met l yJx4a65c_grow_92f84 (Cond.code yJx4a65c_grow_92f84 cJx4a65c_grow_92f84 4 (some (.array (.object "java/lang/Object"))) :: GT) rm_Jx4a65c_grow_92f84 (va_Pc [.ref this, .int a0] (Cn G h)) (Qx G (some (va_rf v)) h1) 1 100 (AA G) := by
  refine xMetF (cc := cJx4a65c_grow_92f84) (by decide +kernel) (Nat.le_of_ble_eq_true rfl) (List.forall_mem_cons.mpr ⟨rfl, (List.forall_mem_cons.mpr ⟨rfl, (fun _ z => by cases z)⟩)⟩) ?_
  intro p e s m below meth c ls Z hr hlk hin hR hS hl
  have hx := Z.1
  have hb := Z.2.1
  have hl : LV ls 4 [(0, va_rf (some this)), (1, .int a0)] := hl
  unfold f_Jx4a65c_grow_92f84 at hq
  refine xaln hx hb hl (x := (some this)) 0 rfl dJx4a65c_grow_92f84_0 ?_
  refine xgR Z hR hq fl_Jx4a65c_9 rfl dJx4a65c_grow_92f84_1 (fun x1 hq => ?_)
  refine xlR Z hR hq dJx4a65c_grow_92f84_4 (fun x4 hq => ?_)
  refine xisn hx hb hl (x := x4) (lv' := [(2, .int x4), (0, va_rf (some this)), (1, .int a0)]) (by decide) dJx4a65c_grow_92f84_5 rfl (fun ls hl => ?_)
  refine xiln hx hb hl (x := x4) 0 rfl dJx4a65c_grow_92f84_6 ?_
  refine xzGt hx hb hq (tgt := 20) dJx4a65c_grow_92f84_7 (by decide) (fun hq => ?_) (fun hq => ?_)
  · exact t_Jx4a65c_grow_92f84_20 Z hr hlk hin (some this) a0 x4 h _ _ ls hq hR hS (hl.sub [1, 2, 0] rfl)
  refine xaln hx hb hl (x := (some this)) 1 rfl dJx4a65c_grow_92f84_10 ?_
  refine xgR Z hR hq fl_Jx4a65c_9 rfl dJx4a65c_grow_92f84_11 (fun x11 hq => ?_)
  refine xgs Z hS dJx4a65c_grow_92f84_14 ?_
  refine xaEq hx hb hq (tgt := 45) dJx4a65c_grow_92f84_17 (by decide) (fun hq => ?_) (fun hq => ?_)
  · refine xaln hx hb hl (x := (some this)) 1 rfl dJx4a65c_grow_92f84_45 ?_
    refine lv_bipush (v := 10) hx hb dJx4a65c_grow_92f84_46 (by decide) ?_
    refine xiln hx hb hl (x := a0) 2 rfl dJx4a65c_grow_92f84_48 ?_
    refine xmx Z hl lk_Jx4a65c_79 (by decide) (by first | decide | (simp only [List.map_cons, List.map_nil, rf_cat, ct_int, ct_ref, List.sum_cons, List.sum_nil] <;> decide)) (by decide) (by decide) dJx4a65c_grow_92f84_49 ?_
    refine xnR Z hR hS hq (by decide +kernel) (by decide) (by decide) dJx4a65c_grow_92f84_52 (fun n52 h H hq hR hS => ?_)
    refine lv_dup_x1 hx hb dJx4a65c_grow_92f84_55 (rf_cat (some n52)) (rf_cat (some this)) ?_
    refine xpR Z hR hS hq fl_Jx4a65c_9 rfl (Or.inl nf_0_1) dJx4a65c_grow_92f84_56 (fun h H locs hq hR hS => ?_)
    exact xrR hx hb hr (by first | exact Or.inl ⟨_, rfl⟩ | exact Or.inr ⟨_, rfl⟩) hlk hR hS hq (by decide) (by decide) dJx4a65c_grow_92f84_59
  exact t_Jx4a65c_grow_92f84_20 Z hr hlk hin (some this) a0 x4 h _ _ ls hq hR hS (hl.sub [1, 2, 0] rfl)
abbrev rm_Jx4a65c_grow_d5877 : Room := { frames := 4, cells := 1, slots := 100, locals := 107 }
def f_Jx4a65c_grow_d5877 (E : Nat × Nat) (this : Nat) (h : Hp) : Option (Option Nat × Hp) :=
gI h (some this) 0 2 (fun x2 =>
rcv h (some this) 0 (fun b7 => bd (f_Jx4a65c_grow_92f84 E b7 (x2 + 1) h) (fun x7 h =>
rtR x7 h)))
set_option maxHeartbeats 4000000 in
set_option maxRecDepth 100000 in
theorem c_Jx4a65c_grow_d5877 (l : Launch) {G : GG} (this : Nat) (h : Hp) (v : Option Nat) (h1 : Hp) (hq : f_Jx4a65c_grow_d5877 G.1.2 this h = some (v, h1)) : Met l yJx4a65c_grow_d5877 (Cond.code yJx4a65c_grow_d5877 cJx4a65c_grow_d5877 1 (some (.array (.object "java/lang/Object"))) :: GT) rm_Jx4a65c_grow_d5877 (va_Pc [.ref this] (Cn G h)) (Qx G (some (va_rf v)) h1) 1 100 (AA G) := by
  refine xMetF (cc := cJx4a65c_grow_d5877) (by decide +kernel) (Nat.le_of_ble_eq_true rfl) (List.forall_mem_cons.mpr ⟨rfl, (fun _ z => by cases z)⟩) ?_
  intro p e s m below meth c ls Z hr hlk hin hR hS hl
  have hx := Z.1
  have hb := Z.2.1
  have hl : LV ls 1 [(0, va_rf (some this))] := hl
  unfold f_Jx4a65c_grow_d5877 at hq
  refine xaln hx hb hl (x := (some this)) 0 rfl dJx4a65c_grow_d5877_0 ?_
  refine xaln hx hb hl (x := (some this)) 0 rfl dJx4a65c_grow_d5877_1 ?_
  refine xgI Z hR hq fl_Jx4a65c_48 rfl dJx4a65c_grow_d5877_2 (fun x2 hq => ?_)
  refine lv_iconst (v := 1) hx hb dJx4a65c_grow_d5877_5 (by decide) ?_
  refine lv_iadd hx hb dJx4a65c_grow_d5877_6 ?_
  refine xcV Z hR hS hl (rest := []) (As := [.int (x2 + 1)]) hq cl_Jx4a65c_69 (fun b x h1 hc => c_Jx4a65c_grow_92f84 l b (x2 + 1) h x h1 hc) ⟨⟨rfl, rfl⟩, (by decide), (by decide)⟩ rfl rfl (by first | decide | (simp only [List.map_cons, List.map_nil, rf_cat, ct_int, ct_ref, List.sum_cons, List.sum_nil] <;> decide)) dJx4a65c_grow_d5877_7 (by decide) (fun x7 h H locs hq hR hS => ?_)
  exact xrR hx hb hr (by first | exact Or.inl ⟨_, rfl⟩ | exact Or.inr ⟨_, rfl⟩) hlk hR hS hq (by decide) (by decide) dJx4a65c_grow_d5877_10
abbrev rm_Jx4a65c_add_7a177 : Room := { frames := 5, cells := 1, slots := 100, locals := 127 }
def f_Jx4a65c_add_7a177_38  (E : Nat × Nat) (l0 : Option Nat) (l1 : Int32) (l2 : Option Nat) (l3 : Int32) (l4 : Option Nat) (h : Hp) : Option (Unit × Hp) :=
acp h l4 l1 l4 (l1 + 1) (l3 - l1) (fun h =>
stR h l4 l1 l2 (fun h =>
pI h l0 0 2 (l3 + 1) (fun h =>
rtV h)))
set_option maxHeartbeats 4000000 in
set_option maxRecDepth 100000 in
theorem t_Jx4a65c_add_7a177_38 (Z : ZZ p s m args c cJx4a65c_add_7a177 RJx4a65c 5 G) (hr : meth.sig.returnType = none) (hlk : meth.locks = false) (hin : meth.name = "add") {v : Unit} {h1 : Hp} : ∀ (l0 : Option Nat) (l1 : Int32) (l2 : Option Nat) (l3 : Int32) (l4 : Option Nat) (h : Hp) (H : Heap) (locs : List Loc) (ls : Array Slot), f_Jx4a65c_add_7a177_38 G.1.2 l0 l1 l2 l3 l4 h = some (v, h1) → Rep G h H → va_S (AA G) s.heap H locs → LV ls 5 [(0, va_rf l0), (1, .int l1), (2, va_rf l2), (3, .int l3), (4, va_rf l4)] → W p l e rm_Jx4a65c_add_7a177 s m args below meth c H locs 1 100 (MQ below (Qx G none h1) args s 1 100 (AA G)) (F0 m 38 ls []) := by
  intro l0 l1 l2 l3 l4 h H locs ls hq hR hS hl
  have hx := Z.1
  have hb := Z.2.1
  unfold f_Jx4a65c_add_7a177_38 at hq
  refine xal hx hb hl (x := l4) 4 rfl dJx4a65c_add_7a177_38 ?_
  refine xiln hx hb hl (x := l1) 1 rfl dJx4a65c_add_7a177_40 ?_
  refine xal hx hb hl (x := l4) 4 rfl dJx4a65c_add_7a177_41 ?_
  refine xiln hx hb hl (x := l1) 1 rfl dJx4a65c_add_7a177_43 ?_
  refine lv_iconst (v := 1) hx hb dJx4a65c_add_7a177_44 (by decide) ?_
  refine lv_iadd hx hb dJx4a65c_add_7a177_45 ?_
  refine xiln hx hb hl (x := l3) 3 rfl dJx4a65c_add_7a177_46 ?_
  refine xiln hx hb hl (x := l1) 1 rfl dJx4a65c_add_7a177_47 ?_
  refine lv_isub hx hb dJx4a65c_add_7a177_48 ?_
  refine xcp Z hR hS hl hq lk_Jx4a65c_112 (by decide) (by first | decide | (simp only [List.map_cons, List.map_nil, rf_cat, ct_int, ct_ref, List.sum_cons, List.sum_nil] <;> decide)) dJx4a65c_add_7a177_49 (fun h H locs hq hR hS => ?_)
  refine xal hx hb hl (x := l4) 4 rfl dJx4a65c_add_7a177_52 ?_
  refine xiln hx hb hl (x := l1) 1 rfl dJx4a65c_add_7a177_54 ?_
  refine xaln hx hb hl (x := l2) 2 rfl dJx4a65c_add_7a177_55 ?_
  refine xsR Z hR hS hq dJx4a65c_add_7a177_56 (fun h H locs hq hR hS => ?_)
  refine xaln hx hb hl (x := l0) 0 rfl dJx4a65c_add_7a177_57 ?_
  refine xiln hx hb hl (x := l3) 3 rfl dJx4a65c_add_7a177_58 ?_
  refine lv_iconst (v := 1) hx hb dJx4a65c_add_7a177_59 (by decide) ?_
  refine lv_iadd hx hb dJx4a65c_add_7a177_60 ?_
  refine xpI Z hR hS hq fl_Jx4a65c_48 rfl (Or.inl nf_0_2) dJx4a65c_add_7a177_61 (fun h H locs hq hR hS => ?_)
  exact xrV hx hb hr hlk hR hS hq (by decide) (by decide) dJx4a65c_add_7a177_64
def f_Jx4a65c_add_7a177 (E : Nat × Nat) (this : Nat) (a0 : Int32) (a1 : Option Nat) (h : Hp) : Option (Unit × Hp) :=
rcv h (some this) 0 (fun b2 => bd (f_Jx4a65c_rangeCheckForAdd_d00df b2 a0 h) (fun u2 h =>
gI h (some this) 0 0 (fun x7 =>
pI h (some this) 0 0 (x7 + 1) (fun h =>
gI h (some this) 0 2 (fun x16 =>
gR h (some this) 0 1 (fun x22 =>
alR h x22 (fun x28 =>
(if x16 = x28 then
rcv h (some this) 0 (fun b33 => bd (f_Jx4a65c_grow_d5877 E b33 h) (fun x33 h =>
f_Jx4a65c_add_7a177_38 E (some this) a0 a1 x16 x33 h))
else
f_Jx4a65c_add_7a177_38 E (some this) a0 a1 x16 x22 h))))))))
set_option maxHeartbeats 4000000 in
set_option maxRecDepth 100000 in
theorem c_Jx4a65c_add_7a177 (l : Launch) {G : GG} (this : Nat) (a0 : Int32) (a1 : Option Nat) (h : Hp) (v : Unit) (h1 : Hp) (hq : f_Jx4a65c_add_7a177 G.1.2 this a0 a1 h = some (v, h1)) : Met l yJx4a65c_add_7a177 (Cond.code yJx4a65c_add_7a177 cJx4a65c_add_7a177 5 none :: GT) rm_Jx4a65c_add_7a177 (va_Pc [.ref this, .int a0, va_rf a1] (Cn G h)) (Qx G none h1) 1 100 (AA G) := by
  refine xMetF (cc := cJx4a65c_add_7a177) (by decide +kernel) (Nat.le_of_ble_eq_true rfl) (List.forall_mem_cons.mpr ⟨rfl, (List.forall_mem_cons.mpr ⟨rfl, (List.forall_mem_cons.mpr ⟨(rf_cat a1), (fun _ z => by cases z)⟩)⟩)⟩) ?_
  intro p e s m below meth c ls Z hr hlk hin hR hS hl
  have hx := Z.1
  have hb := Z.2.1
  have hl : LV ls 5 [(0, va_rf (some this)), (1, .int a0), (2, va_rf a1)] := hl
  unfold f_Jx4a65c_add_7a177 at hq
  refine xaln hx hb hl (x := (some this)) 0 rfl dJx4a65c_add_7a177_0 ?_
  refine xiln hx hb hl (x := a0) 1 rfl dJx4a65c_add_7a177_1 ?_
  refine xcV Z hR hS hl (rest := []) (As := [.int a0]) hq cl_Jx4a65c_135 (fun b x h1 hc => c_Jx4a65c_rangeCheckForAdd_d00df l b a0 h x h1 hc) ⟨⟨rfl, rfl⟩, (by decide), (by decide)⟩ rfl rfl (by first | decide | (simp only [List.map_cons, List.map_nil, rf_cat, ct_int, ct_ref, List.sum_cons, List.sum_nil] <;> decide)) dJx4a65c_add_7a177_2 (by decide) (fun u2 h H locs hq hR hS => ?_)
  refine xaln hx hb hl (x := (some this)) 0 rfl dJx4a65c_add_7a177_5 ?_
  refine lv_dup hx hb dJx4a65c_add_7a177_6 (rf_cat (some this)) ?_
  refine xgI Z hR hq fl_Jx4a65c_63 rfl dJx4a65c_add_7a177_7 (fun x7 hq => ?_)
  refine lv_iconst (v := 1) hx hb dJx4a65c_add_7a177_10 (by decide) ?_
  refine lv_iadd hx hb dJx4a65c_add_7a177_11 ?_
  refine xpI Z hR hS hq fl_Jx4a65c_63 rfl (Or.inl nf_0_0) dJx4a65c_add_7a177_12 (fun h H locs hq hR hS => ?_)
  refine xaln hx hb hl (x := (some this)) 0 rfl dJx4a65c_add_7a177_15 ?_
  refine xgI Z hR hq fl_Jx4a65c_48 rfl dJx4a65c_add_7a177_16 (fun x16 hq => ?_)
  refine lv_dup hx hb dJx4a65c_add_7a177_19 rfl ?_
  refine xisn hx hb hl (x := x16) (lv' := [(3, .int x16), (0, va_rf (some this)), (1, .int a0), (2, va_rf a1)]) (by decide) dJx4a65c_add_7a177_20 rfl (fun ls hl => ?_)
  refine xaln hx hb hl (x := (some this)) 1 rfl dJx4a65c_add_7a177_21 ?_
  refine xgR Z hR hq fl_Jx4a65c_9 rfl dJx4a65c_add_7a177_22 (fun x22 hq => ?_)
  refine lv_dup hx hb dJx4a65c_add_7a177_25 (rf_cat x22) ?_
  refine xas hx hb hl (x := x22) (lv' := [(4, va_rf x22), (3, .int x16), (0, va_rf (some this)), (1, .int a0), (2, va_rf a1)]) (by decide) dJx4a65c_add_7a177_26 rfl (fun ls hl => ?_)
  refine xlR Z hR hq dJx4a65c_add_7a177_28 (fun x28 hq => ?_)
  refine xcNe hx hb hq (tgt := 38) dJx4a65c_add_7a177_29 (by decide) (fun hq => ?_) (fun hq => ?_)
  · exact W.widen (k := 1) (n := 100) (by decide) (by decide) (t_Jx4a65c_add_7a177_38 Z hr hlk hin (some this) a0 a1 x16 x22 h _ _ ls hq hR hS (hl.sub [2, 3, 4, 1, 0] rfl))
  refine xaln hx hb hl (x := (some this)) 2 rfl dJx4a65c_add_7a177_32 ?_
  refine xcV Z hR hS hl (rest := []) (As := []) hq cl_Jx4a65c_129 (fun b x h1 hc => c_Jx4a65c_grow_d5877 l b h x h1 hc) ⟨⟨rfl, rfl⟩, (by decide), (by decide)⟩ rfl rfl (by first | decide | (simp only [List.map_cons, List.map_nil, rf_cat, ct_int, ct_ref, List.sum_cons, List.sum_nil] <;> decide)) dJx4a65c_add_7a177_33 (by decide) (fun x33 h H locs hq hR hS => ?_)
  refine xas hx hb hl (x := x33) (lv' := [(4, va_rf x33), (3, .int x16), (0, va_rf (some this)), (1, .int a0), (2, va_rf a1)]) (by decide) dJx4a65c_add_7a177_36 rfl (fun ls hl => ?_)
  exact t_Jx4a65c_add_7a177_38 Z hr hlk hin (some this) a0 a1 x16 x33 h _ _ ls hq hR hS (hl.sub [2, 3, 4, 1, 0] rfl)
abbrev rm_Jx4a65c_add_72be8 : Room := { frames := 5, cells := 1, slots := 100, locals := 127 }
def f_Jx4a65c_add_72be8_11  (E : Nat × Nat) (l0 : Option Nat) (l1 : Option Nat) (l2 : Option Nat) (l3 : Int32) (h : Hp) : Option (Unit × Hp) :=
stR h l2 l3 l1 (fun h =>
pI h l0 0 2 (l3 + 1) (fun h =>
rtV h))
set_option maxHeartbeats 4000000 in
set_option maxRecDepth 100000 in
theorem t_Jx4a65c_add_72be8_11 (Z : ZZ p s m args c cJx4a65c_add_72be8 RJx4a65c 4 G) (hr : meth.sig.returnType = none) (hlk : meth.locks = false) (hin : meth.name = "add") {v : Unit} {h1 : Hp} : ∀ (l0 : Option Nat) (l1 : Option Nat) (l2 : Option Nat) (l3 : Int32) (h : Hp) (H : Heap) (locs : List Loc) (ls : Array Slot), f_Jx4a65c_add_72be8_11 G.1.2 l0 l1 l2 l3 h = some (v, h1) → Rep G h H → va_S (AA G) s.heap H locs → LV ls 4 [(0, va_rf l0), (1, va_rf l1), (2, va_rf l2), (3, .int l3)] → W p l e rm_Jx4a65c_add_72be8 s m args below meth c H locs 1 100 (MQ below (Qx G none h1) args s 1 100 (AA G)) (F0 m 11 ls []) := by
  intro l0 l1 l2 l3 h H locs ls hq hR hS hl
  have hx := Z.1
  have hb := Z.2.1
  unfold f_Jx4a65c_add_72be8_11 at hq
  refine xaln hx hb hl (x := l2) 2 rfl dJx4a65c_add_72be8_11 ?_
  refine xiln hx hb hl (x := l3) 3 rfl dJx4a65c_add_72be8_12 ?_
  refine xaln hx hb hl (x := l1) 1 rfl dJx4a65c_add_72be8_13 ?_
  refine xsR Z hR hS hq dJx4a65c_add_72be8_14 (fun h H locs hq hR hS => ?_)
  refine xaln hx hb hl (x := l0) 0 rfl dJx4a65c_add_72be8_15 ?_
  refine xiln hx hb hl (x := l3) 3 rfl dJx4a65c_add_72be8_16 ?_
  refine lv_iconst (v := 1) hx hb dJx4a65c_add_72be8_17 (by decide) ?_
  refine lv_iadd hx hb dJx4a65c_add_72be8_18 ?_
  refine xpI Z hR hS hq fl_Jx4a65c_48 rfl (Or.inl nf_0_2) dJx4a65c_add_72be8_19 (fun h H locs hq hR hS => ?_)
  exact xrV hx hb hr hlk hR hS hq (by decide) (by decide) dJx4a65c_add_72be8_22
def f_Jx4a65c_add_72be8 (E : Nat × Nat) (this : Nat) (a0 : Option Nat) (a1 : Option Nat) (a2 : Int32) (h : Hp) : Option (Unit × Hp) :=
alR h a1 (fun x2 =>
(if a2 = x2 then
rcv h (some this) 0 (fun b7 => bd (f_Jx4a65c_grow_d5877 E b7 h) (fun x7 h =>
f_Jx4a65c_add_72be8_11 E (some this) a0 x7 a2 h))
else
f_Jx4a65c_add_72be8_11 E (some this) a0 a1 a2 h))
set_option maxHeartbeats 4000000 in
set_option maxRecDepth 100000 in
theorem c_Jx4a65c_add_72be8 (l : Launch) {G : GG} (this : Nat) (a0 : Option Nat) (a1 : Option Nat) (a2 : Int32) (h : Hp) (v : Unit) (h1 : Hp) (hq : f_Jx4a65c_add_72be8 G.1.2 this a0 a1 a2 h = some (v, h1)) : Met l yJx4a65c_add_72be8 (Cond.code yJx4a65c_add_72be8 cJx4a65c_add_72be8 4 none :: GT) rm_Jx4a65c_add_72be8 (va_Pc [.ref this, va_rf a0, va_rf a1, .int a2] (Cn G h)) (Qx G none h1) 1 100 (AA G) := by
  refine xMetF (cc := cJx4a65c_add_72be8) (by decide +kernel) (Nat.le_of_ble_eq_true rfl) (List.forall_mem_cons.mpr ⟨rfl, (List.forall_mem_cons.mpr ⟨(rf_cat a0), (List.forall_mem_cons.mpr ⟨(rf_cat a1), (List.forall_mem_cons.mpr ⟨rfl, (fun _ z => by cases z)⟩)⟩)⟩)⟩) ?_
  intro p e s m below meth c ls Z hr hlk hin hR hS hl
  have hx := Z.1
  have hb := Z.2.1
  have hl : LV ls 4 [(0, va_rf (some this)), (1, va_rf a0), (2, va_rf a1), (3, .int a2)] := hl
  unfold f_Jx4a65c_add_72be8 at hq
  refine xiln hx hb hl (x := a2) 3 rfl dJx4a65c_add_72be8_0 ?_
  refine xaln hx hb hl (x := a1) 2 rfl dJx4a65c_add_72be8_1 ?_
  refine xlR Z hR hq dJx4a65c_add_72be8_2 (fun x2 hq => ?_)
  refine xcNe hx hb hq (tgt := 11) dJx4a65c_add_72be8_3 (by decide) (fun hq => ?_) (fun hq => ?_)
  · exact W.widen (k := 1) (n := 100) (by decide) (by decide) (t_Jx4a65c_add_72be8_11 Z hr hlk hin (some this) a0 a1 a2 h _ _ ls hq hR hS (hl.sub [0, 1, 2, 3] rfl))
  refine xaln hx hb hl (x := (some this)) 0 rfl dJx4a65c_add_72be8_6 ?_
  refine xcV Z hR hS hl (rest := []) (As := []) hq cl_Jx4a65c_129 (fun b x h1 hc => c_Jx4a65c_grow_d5877 l b h x h1 hc) ⟨⟨rfl, rfl⟩, (by decide), (by decide)⟩ rfl rfl (by first | decide | (simp only [List.map_cons, List.map_nil, rf_cat, ct_int, ct_ref, List.sum_cons, List.sum_nil] <;> decide)) dJx4a65c_add_72be8_7 (by decide) (fun x7 h H locs hq hR hS => ?_)
  refine xasn hx hb hl (x := x7) (lv' := [(2, va_rf x7), (0, va_rf (some this)), (1, va_rf a0), (3, .int a2)]) (by decide) dJx4a65c_add_72be8_10 rfl (fun ls hl => ?_)
  exact t_Jx4a65c_add_72be8_11 Z hr hlk hin (some this) a0 x7 a2 h _ _ ls hq hR hS (hl.sub [1, 2, 0, 3] rfl)
abbrev rm_Jx4a65c_add_9ea2d : Room := { frames := 6, cells := 1, slots := 100, locals := 150 }
def f_Jx4a65c_add_9ea2d (E : Nat × Nat) (this : Nat) (a0 : Option Nat) (h : Hp) : Option (Int32 × Hp) :=
gI h (some this) 0 0 (fun x2 =>
pI h (some this) 0 0 (x2 + 1) (fun h =>
gR h (some this) 0 1 (fun x13 =>
gI h (some this) 0 2 (fun x17 =>
rcv h (some this) 0 (fun b20 => bd (f_Jx4a65c_add_72be8 E b20 a0 x13 x17 h) (fun u20 h =>
rtZ 1 h))))))
set_option maxHeartbeats 4000000 in
set_option maxRecDepth 100000 in
theorem c_Jx4a65c_add_9ea2d (l : Launch) {G : GG} (this : Nat) (a0 : Option Nat) (h : Hp) (v : Int32) (h1 : Hp) (hq : f_Jx4a65c_add_9ea2d G.1.2 this a0 h = some (v, h1)) : Met l yJx4a65c_add_9ea2d (Cond.code yJx4a65c_add_9ea2d cJx4a65c_add_9ea2d 2 (some .boolean) :: GT) rm_Jx4a65c_add_9ea2d (va_Pc [.ref this, va_rf a0] (Cn G h)) (Qx G (some (.int v)) h1) 1 100 (AA G) := by
  refine xMetF (cc := cJx4a65c_add_9ea2d) (by decide +kernel) (Nat.le_of_ble_eq_true rfl) (List.forall_mem_cons.mpr ⟨rfl, (List.forall_mem_cons.mpr ⟨(rf_cat a0), (fun _ z => by cases z)⟩)⟩) ?_
  intro p e s m below meth c ls Z hr hlk hin hR hS hl
  have hx := Z.1
  have hb := Z.2.1
  have hl : LV ls 2 [(0, va_rf (some this)), (1, va_rf a0)] := hl
  unfold f_Jx4a65c_add_9ea2d at hq
  refine xaln hx hb hl (x := (some this)) 0 rfl dJx4a65c_add_9ea2d_0 ?_
  refine lv_dup hx hb dJx4a65c_add_9ea2d_1 (rf_cat (some this)) ?_
  refine xgI Z hR hq fl_Jx4a65c_63 rfl dJx4a65c_add_9ea2d_2 (fun x2 hq => ?_)
  refine lv_iconst (v := 1) hx hb dJx4a65c_add_9ea2d_5 (by decide) ?_
  refine lv_iadd hx hb dJx4a65c_add_9ea2d_6 ?_
  refine xpI Z hR hS hq fl_Jx4a65c_63 rfl (Or.inl nf_0_0) dJx4a65c_add_9ea2d_7 (fun h H locs hq hR hS => ?_)
  refine xaln hx hb hl (x := (some this)) 0 rfl dJx4a65c_add_9ea2d_10 ?_
  refine xaln hx hb hl (x := a0) 1 rfl dJx4a65c_add_9ea2d_11 ?_
  refine xaln hx hb hl (x := (some this)) 0 rfl dJx4a65c_add_9ea2d_12 ?_
  refine xgR Z hR hq fl_Jx4a65c_9 rfl dJx4a65c_add_9ea2d_13 (fun x13 hq => ?_)
  refine xaln hx hb hl (x := (some this)) 0 rfl dJx4a65c_add_9ea2d_16 ?_
  refine xgI Z hR hq fl_Jx4a65c_48 rfl dJx4a65c_add_9ea2d_17 (fun x17 hq => ?_)
  refine xcV Z hR hS hl (rest := []) (As := [va_rf a0, va_rf x13, .int x17]) hq cl_Jx4a65c_131 (fun b x h1 hc => c_Jx4a65c_add_72be8 l b a0 x13 x17 h x h1 hc) ⟨⟨rfl, rfl⟩, (by decide), (by decide)⟩ rfl rfl (by first | decide | (simp only [List.map_cons, List.map_nil, rf_cat, ct_int, ct_ref, List.sum_cons, List.sum_nil] <;> decide)) dJx4a65c_add_9ea2d_20 (by decide) (fun u20 h H locs hq hR hS => ?_)
  refine lv_iconst (v := 1) hx hb dJx4a65c_add_9ea2d_23 (by decide) ?_
  exact xrZ hx hb hr hlk hR hS hq (by decide) (by decide) dJx4a65c_add_9ea2d_24
end
