theorem me_X8_sectionOf : Cond.instanceMethod yX8_sectionOf ∈ GT ∧ Cond.selects RX8 yX8_sectionOf yX8_sectionOf ∈ GT ∧ Cond.initialized RX8 ∈ GT ∧ Cond.code yX8_sectionOf cX8_sectionOf 3 (some .int) ∈ GT := ⟨by decide +kernel, by decide +kernel, by decide +kernel, by decide +kernel⟩
theorem cl_X8_122 : VL RX8 122 9 yX8_sectionOf cX8_sectionOf 3 (some .int) 2 := ⟨⟨TX8, 34, rfl⟩, ⟨by decide +kernel, me_X8_sectionOf⟩, by decide, by decide, by decide +kernel⟩
theorem me_X8_legs : Cond.instanceMethod yX8_legs ∈ GT ∧ Cond.selects RX8 yX8_legs yX8_legs ∈ GT ∧ Cond.initialized RX8 ∈ GT ∧ Cond.code yX8_legs cX8_legs 2 (some .int) ∈ GT := ⟨by decide +kernel, by decide +kernel, by decide +kernel, by decide +kernel⟩
theorem cl_X8_126 : VL RX8 126 9 yX8_legs cX8_legs 2 (some .int) 1 := ⟨⟨TX8, 34, rfl⟩, ⟨by decide +kernel, me_X8_legs⟩, by decide, by decide, by decide +kernel⟩
theorem me_X8_behind : Cond.instanceMethod yX8_behind ∈ GT ∧ Cond.selects RX8 yX8_behind yX8_behind ∈ GT ∧ Cond.initialized RX8 ∈ GT ∧ Cond.code yX8_behind cX8_behind 1 (some .int) ∈ GT := ⟨by decide +kernel, by decide +kernel, by decide +kernel, by decide +kernel⟩
theorem cl_X8_130 : VL RX8 130 9 yX8_behind cX8_behind 1 (some .int) 0 := ⟨⟨TX8, 34, rfl⟩, ⟨by decide +kernel, me_X8_behind⟩, by decide, by decide, by decide +kernel⟩
theorem me_X8_longOf : Cond.instanceMethod yX8_longOf ∈ GT ∧ Cond.selects RX8 yX8_longOf yX8_longOf ∈ GT ∧ Cond.initialized RX8 ∈ GT ∧ Cond.code yX8_longOf cX8_longOf 3 (some .int) ∈ GT := ⟨by decide +kernel, by decide +kernel, by decide +kernel, by decide +kernel⟩
theorem cl_X8_134 : VL RX8 134 9 yX8_longOf cX8_longOf 3 (some .int) 2 := ⟨⟨TX8, 34, rfl⟩, ⟨by decide +kernel, me_X8_longOf⟩, by decide, by decide, by decide +kernel⟩
theorem me_X8_isClosed : Cond.instanceMethod yX8_isClosed ∈ GT ∧ Cond.selects RX8 yX8_isClosed yX8_isClosed ∈ GT ∧ Cond.initialized RX8 ∈ GT ∧ Cond.code yX8_isClosed cX8_isClosed 4 (some .boolean) ∈ GT := ⟨by decide +kernel, by decide +kernel, by decide +kernel, by decide +kernel⟩
theorem cl_X8_137 : VL RX8 137 9 yX8_isClosed cX8_isClosed 4 (some .boolean) 2 := ⟨⟨TX8, 34, rfl⟩, ⟨by decide +kernel, me_X8_isClosed⟩, by decide, by decide, by decide +kernel⟩
theorem me_X8_isSameWay : Cond.instanceMethod yX8_isSameWay ∈ GT ∧ Cond.selects RX8 yX8_isSameWay yX8_isSameWay ∈ GT ∧ Cond.initialized RX8 ∈ GT ∧ Cond.code yX8_isSameWay cX8_isSameWay 3 (some .boolean) ∈ GT := ⟨by decide +kernel, by decide +kernel, by decide +kernel, by decide +kernel⟩
theorem cl_X8_141 : VL RX8 141 9 yX8_isSameWay cX8_isSameWay 3 (some .boolean) 2 := ⟨⟨TX8, 34, rfl⟩, ⟨by decide +kernel, me_X8_isSameWay⟩, by decide, by decide, by decide +kernel⟩
theorem me_X8_legOver : Cond.instanceMethod yX8_legOver ∈ GT ∧ Cond.selects RX8 yX8_legOver yX8_legOver ∈ GT ∧ Cond.initialized RX8 ∈ GT ∧ Cond.code yX8_legOver cX8_legOver 4 (some .int) ∈ GT := ⟨by decide +kernel, by decide +kernel, by decide +kernel, by decide +kernel⟩
theorem cl_X8_144 : VL RX8 144 9 yX8_legOver cX8_legOver 4 (some .int) 2 := ⟨⟨TX8, 34, rfl⟩, ⟨by decide +kernel, me_X8_legOver⟩, by decide, by decide, by decide +kernel⟩
theorem me_X8_areApart : Cond.instanceMethod yX8_areApart ∈ GT ∧ Cond.selects RX8 yX8_areApart yX8_areApart ∈ GT ∧ Cond.initialized RX8 ∈ GT ∧ Cond.code yX8_areApart cX8_areApart 5 (some .boolean) ∈ GT := ⟨by decide +kernel, by decide +kernel, by decide +kernel, by decide +kernel⟩
theorem cl_X8_147 : VL RX8 147 9 yX8_areApart cX8_areApart 5 (some .boolean) 4 := ⟨⟨TX8, 34, rfl⟩, ⟨by decide +kernel, me_X8_areApart⟩, by decide, by decide, by decide +kernel⟩
theorem me_X8_stationOf : Cond.instanceMethod yX8_stationOf ∈ GT ∧ Cond.selects RX8 yX8_stationOf yX8_stationOf ∈ GT ∧ Cond.initialized RX8 ∈ GT ∧ Cond.code yX8_stationOf cX8_stationOf 3 (some .int) ∈ GT := ⟨by decide +kernel, by decide +kernel, by decide +kernel, by decide +kernel⟩
theorem cl_X8_151 : VL RX8 151 9 yX8_stationOf cX8_stationOf 3 (some .int) 2 := ⟨⟨TX8, 34, rfl⟩, ⟨by decide +kernel, me_X8_stationOf⟩, by decide, by decide, by decide +kernel⟩
theorem me_X8_comesTo : Cond.instanceMethod yX8_comesTo ∈ GT ∧ Cond.selects RX8 yX8_comesTo yX8_comesTo ∈ GT ∧ Cond.initialized RX8 ∈ GT ∧ Cond.code yX8_comesTo cX8_comesTo 3 (some .int) ∈ GT := ⟨by decide +kernel, by decide +kernel, by decide +kernel, by decide +kernel⟩
theorem cl_X8_154 : VL RX8 154 9 yX8_comesTo cX8_comesTo 3 (some .int) 2 := ⟨⟨TX8, 34, rfl⟩, ⟨by decide +kernel, me_X8_comesTo⟩, by decide, by decide, by decide +kernel⟩
theorem me_X8_isStanding : Cond.instanceMethod yX8_isStanding ∈ GT ∧ Cond.selects RX8 yX8_isStanding yX8_isStanding ∈ GT ∧ Cond.initialized RX8 ∈ GT ∧ Cond.code yX8_isStanding cX8_isStanding 5 (some .boolean) ∈ GT := ⟨by decide +kernel, by decide +kernel, by decide +kernel, by decide +kernel⟩
theorem cl_X8_157 : VL RX8 157 9 yX8_isStanding cX8_isStanding 5 (some .boolean) 3 := ⟨⟨TX8, 34, rfl⟩, ⟨by decide +kernel, me_X8_isStanding⟩, by decide, by decide, by decide +kernel⟩
theorem me_X8_canStand : Cond.instanceMethod yX8_canStand ∈ GT ∧ Cond.selects RX8 yX8_canStand yX8_canStand ∈ GT ∧ Cond.initialized RX8 ∈ GT ∧ Cond.code yX8_canStand cX8_canStand 6 (some .boolean) ∈ GT := ⟨by decide +kernel, by decide +kernel, by decide +kernel, by decide +kernel⟩
theorem cl_X8_160 : VL RX8 160 9 yX8_canStand cX8_canStand 6 (some .boolean) 3 := ⟨⟨TX8, 34, rfl⟩, ⟨by decide +kernel, me_X8_canStand⟩, by decide, by decide, by decide +kernel⟩
theorem me_X8_canLeave : Cond.instanceMethod yX8_canLeave ∈ GT ∧ Cond.selects RX8 yX8_canLeave yX8_canLeave ∈ GT ∧ Cond.initialized RX8 ∈ GT ∧ Cond.code yX8_canLeave cX8_canLeave 8 (some .boolean) ∈ GT := ⟨by decide +kernel, by decide +kernel, by decide +kernel, by decide +kernel⟩
theorem cl_X8_163 : VL RX8 163 9 yX8_canLeave cX8_canLeave 8 (some .boolean) 3 := ⟨⟨TX8, 34, rfl⟩, ⟨by decide +kernel, me_X8_canLeave⟩, by decide, by decide, by decide +kernel⟩
theorem me_X8_seeks : Cond.instanceMethod yX8_seeks ∈ GT ∧ Cond.selects RX8 yX8_seeks yX8_seeks ∈ GT ∧ Cond.initialized RX8 ∈ GT ∧ Cond.code yX8_seeks cX8_seeks 7 (some .boolean) ∈ GT := ⟨by decide +kernel, by decide +kernel, by decide +kernel, by decide +kernel⟩
theorem cl_X8_166 : VL RX8 166 9 yX8_seeks cX8_seeks 7 (some .boolean) 1 := ⟨⟨TX8, 34, rfl⟩, ⟨by decide +kernel, me_X8_seeks⟩, by decide, by decide, by decide +kernel⟩
section
variable {p : Program} {l : Launch} {e : Env} {s : State} {m : MethodId} {args : Array Value} {below : List Frame} {meth : Method} {c : Code} {G : GG}
abbrev rm_X8_longOf : Room := { frames := 1, cells := 0, slots := 0, locals := 22 }
def f_X8_longOf (this : Nat) (a0 : Int32) (a1 : Int32) (h : Hp) : Option (Int32 × Hp) :=
gR h (some this) 9 2 (fun x1 =>
rcv h (some this) 9 (fun b8 => bd (f_X8_sectionOf b8 a0 a1 h) (fun x8 h =>
gR h (some this) 9 13 (fun x13 =>
ldI h x13 a0 (fun x17 =>
ldI h x1 ((2 * x8) + x17) (fun x19 =>
rtI x19 h))))))
set_option maxHeartbeats 4000000 in
set_option maxRecDepth 100000 in
theorem c_X8_longOf (l : Launch) {G : GG} (this : Nat) (a0 : Int32) (a1 : Int32) (h : Hp) (v : Int32) (h1 : Hp) (hq : f_X8_longOf this a0 a1 h = some (v, h1)) : Met l yX8_longOf (Cond.code yX8_longOf cX8_longOf 3 (some .int) :: GT) rm_X8_longOf (va_Pc [.ref this, .int a0, .int a1] (Cn G h)) (Qx G (some (.int v)) h1) 0 0 (AA G) := by
  refine xMet (cc := cX8_longOf) (by decide) (Nat.le_of_ble_eq_true rfl) (List.forall_mem_cons.mpr ⟨rfl, (List.forall_mem_cons.mpr ⟨rfl, (List.forall_mem_cons.mpr ⟨rfl, (fun _ z => by cases z)⟩)⟩)⟩) ?_
  intro p e s m below meth c ls Z hr hlk hin hR hS hl
  have hx := Z.1
  have hb := Z.2.1
  have hl : LV ls 3 [(0, va_rf (some this)), (1, .int a0), (2, .int a1)] := hl
  unfold f_X8_longOf at hq
  refine xaln hx hb hl (x := (some this)) 0 rfl dX8_longOf_0 ?_
  refine xgR Z hR hq fl_X8_13 rfl dX8_longOf_1 (fun x1 hq => ?_)
  refine lv_iconst (v := 2) hx hb dX8_longOf_4 (by decide) ?_
  refine xaln hx hb hl (x := (some this)) 0 rfl dX8_longOf_5 ?_
  refine xiln hx hb hl (x := a0) 1 rfl dX8_longOf_6 ?_
  refine xiln hx hb hl (x := a1) 2 rfl dX8_longOf_7 ?_
  refine xcV Z hR hS hl (rest := [.int 2, va_rf x1]) (As := [.int a0, .int a1]) hq cl_X8_122 (fun b x h1 hc => c_X8_sectionOf l b a0 a1 h x h1 hc) ⟨⟨rfl, rfl⟩, (by decide), (by decide)⟩ rfl rfl (by first | decide | (simp only [List.map_cons, List.map_nil, rf_cat, ct_int, ct_ref, List.sum_cons, List.sum_nil] <;> decide)) dX8_longOf_8 (by decide) (fun x8 h H locs hq hR hS => ?_)
  refine lv_imul hx hb dX8_longOf_11 ?_
  refine xaln hx hb hl (x := (some this)) 0 rfl dX8_longOf_12 ?_
  refine xgR Z hR hq fl_X8_42 rfl dX8_longOf_13 (fun x13 hq => ?_)
  refine xiln hx hb hl (x := a0) 1 rfl dX8_longOf_16 ?_
  refine xaI Z hR hq dX8_longOf_17 (fun x17 hq => ?_)
  refine lv_iadd hx hb dX8_longOf_18 ?_
  refine xaI Z hR hq dX8_longOf_19 (fun x19 hq => ?_)
  exact xrI hx hb hr hlk hR hS hq (by decide) (by decide) dX8_longOf_20
abbrev rm_X8_legOver : Room := { frames := 1, cells := 0, slots := 0, locals := 22 }
def fb_X8_legOver_2  (k2 : Option Nat × Int32 × Int32 × Int32 × Hp → Option (Int32 × Hp)) (l0 : Option Nat) (l1 : Int32) (l2 : Int32) (l3 : Int32) (h : Hp) : Option (Int32 × Hp) :=
rcv h l0 9 (fun b5 => bd (f_X8_legs b5 l1 h) (fun x5 h =>
(if x5 ≤ l3 then
rtI (-1) h
else
rcv h l0 9 (fun b14 => bd (f_X8_sectionOf b14 l1 l3 h) (fun x14 h =>
(if x14 = l2 then
rtI l3 h
else
k2 (l0, l1, l2, (l3 + 1), h)))))))
set_option maxHeartbeats 4000000 in
set_option maxRecDepth 100000 in
theorem tb_X8_legOver_2 (Z : ZZ p s m args c cX8_legOver RX8 4 G) (hr : meth.sig.returnType = (some .int)) (hlk : meth.locks = false) (hin : meth.name = "legOver") {v : Int32} {h1 : Hp} {k2 : Option Nat × Int32 × Int32 × Int32 × Hp → Option (Int32 × Hp)} (hk2 : ∀ u : Option Nat × Int32 × Int32 × Int32 × Hp, k2 u = some (v, h1) → ∀ (H : Heap) (locs : List Loc) (ls : Array Slot), Rep G u.2.2.2.2 H → va_S (AA G) s.heap H locs → LV ls 4 [(0, va_rf u.1), (1, .int u.2.1), (2, .int u.2.2.1), (3, .int u.2.2.2.1)] → W p l e rm_X8_legOver s m args below meth c H locs 0 0 (MQ below (Qx G (some (.int v)) h1) args s 0 0 (AA G)) (F0 m 2 ls [])) : ∀ (l0 : Option Nat) (l1 : Int32) (l2 : Int32) (l3 : Int32) (h : Hp) (H : Heap) (locs : List Loc) (ls : Array Slot), fb_X8_legOver_2 k2 l0 l1 l2 l3 h = some (v, h1) → Rep G h H → va_S (AA G) s.heap H locs → LV ls 4 [(0, va_rf l0), (1, .int l1), (2, .int l2), (3, .int l3)] → W p l e rm_X8_legOver s m args below meth c H locs 0 0 (MQ below (Qx G (some (.int v)) h1) args s 0 0 (AA G)) (F0 m 2 ls []) := by
  intro l0 l1 l2 l3 h H locs ls hq hR hS hl
  have hx := Z.1
  have hb := Z.2.1
  unfold fb_X8_legOver_2 at hq
  refine xiln hx hb hl (x := l3) 3 rfl dX8_legOver_2 ?_
  refine xaln hx hb hl (x := l0) 0 rfl dX8_legOver_3 ?_
  refine xiln hx hb hl (x := l1) 1 rfl dX8_legOver_4 ?_
  refine xcV Z hR hS hl (rest := [.int l3]) (As := [.int l1]) hq cl_X8_126 (fun b x h1 hc => c_X8_legs l b l1 h x h1 hc) ⟨⟨rfl, rfl⟩, (by decide), (by decide)⟩ rfl rfl (by first | decide | (simp only [List.map_cons, List.map_nil, rf_cat, ct_int, ct_ref, List.sum_cons, List.sum_nil] <;> decide)) dX8_legOver_5 (by decide) (fun x5 h H locs hq hR hS => ?_)
  refine xcGe hx hb hq (tgt := 29) dX8_legOver_8 (by decide) (fun hq => ?_) (fun hq => ?_)
  · refine lv_iconst (v := (-1)) hx hb dX8_legOver_29 (by decide) ?_
    exact xrI hx hb hr hlk hR hS hq (by decide) (by decide) dX8_legOver_30
  refine xaln hx hb hl (x := l0) 0 rfl dX8_legOver_11 ?_
  refine xiln hx hb hl (x := l1) 1 rfl dX8_legOver_12 ?_
  refine xiln hx hb hl (x := l3) 3 rfl dX8_legOver_13 ?_
  refine xcV Z hR hS hl (rest := []) (As := [.int l1, .int l3]) hq cl_X8_122 (fun b x h1 hc => c_X8_sectionOf l b l1 l3 h x h1 hc) ⟨⟨rfl, rfl⟩, (by decide), (by decide)⟩ rfl rfl (by first | decide | (simp only [List.map_cons, List.map_nil, rf_cat, ct_int, ct_ref, List.sum_cons, List.sum_nil] <;> decide)) dX8_legOver_14 (by decide) (fun x14 h H locs hq hR hS => ?_)
  refine xiln hx hb hl (x := l2) 2 rfl dX8_legOver_17 ?_
  refine xcNe hx hb hq (tgt := 23) dX8_legOver_18 (by decide) (fun hq => ?_) (fun hq => ?_)
  · refine xinc hx hb hl (x := l3) (v := (l3 + 1)) (lv' := [(3, .int (l3 + 1)), (0, va_rf l0), (1, .int l1), (2, .int l2)]) 3 rfl (by rw [show Int32.ofInt (1) = (1 : Int32) from by decide]) (by decide) dX8_legOver_23 rfl (fun ls hl => ?_)
    refine lv_goto (tgt := 2) hx hb dX8_legOver_26 (by decide) ?_
    exact hk2 (l0, l1, l2, (l3 + 1), h) hq H locs ls hR hS (hl.sub [1, 2, 3, 0] rfl)
  refine xiln hx hb hl (x := l3) 3 rfl dX8_legOver_21 ?_
  exact xrI hx hb hr hlk hR hS hq (by decide) (by decide) dX8_legOver_22
def f_X8_legOver_2  (l0 : Option Nat) (l1 : Int32) (l2 : Int32) (l3 : Int32) (h : Hp) : Option (Int32 × Hp) :=
  lp (fun (k2 : Option Nat × Int32 × Int32 × Int32 × Hp → Option (Int32 × Hp)) (u : Option Nat × Int32 × Int32 × Int32 × Hp) => fb_X8_legOver_2 k2 u.1 u.2.1 u.2.2.1 u.2.2.2.1 u.2.2.2.2) FU (l0, l1, l2, l3, h)
theorem t_X8_legOver_2 (Z : ZZ p s m args c cX8_legOver RX8 4 G) (hr : meth.sig.returnType = (some .int)) (hlk : meth.locks = false) (hin : meth.name = "legOver") {v : Int32} {h1 : Hp} : ∀ (l0 : Option Nat) (l1 : Int32) (l2 : Int32) (l3 : Int32) (h : Hp) (H : Heap) (locs : List Loc) (ls : Array Slot), f_X8_legOver_2 l0 l1 l2 l3 h = some (v, h1) → Rep G h H → va_S (AA G) s.heap H locs → LV ls 4 [(0, va_rf l0), (1, .int l1), (2, .int l2), (3, .int l3)] → W p l e rm_X8_legOver s m args below meth c H locs 0 0 (MQ below (Qx G (some (.int v)) h1) args s 0 0 (AA G)) (F0 m 2 ls []) := by
  intro l0 l1 l2 l3 h H locs ls hq hR hS hl
  exact lp_ind (P := fun u : Option Nat × Int32 × Int32 × Int32 × Hp => ∀ (H : Heap) (locs : List Loc) (ls : Array Slot), Rep G u.2.2.2.2 H → va_S (AA G) s.heap H locs → LV ls 4 [(0, va_rf u.1), (1, .int u.2.1), (2, .int u.2.2.1), (3, .int u.2.2.2.1)] → W p l e rm_X8_legOver s m args below meth c H locs 0 0 (MQ below (Qx G (some (.int v)) h1) args s 0 0 (AA G)) (F0 m 2 ls [])) (fun k hk u hq H locs ls hR hS hl => tb_X8_legOver_2 Z hr hlk hin hk u.1 u.2.1 u.2.2.1 u.2.2.2.1 u.2.2.2.2 H locs ls hq hR hS hl) FU (l0, l1, l2, l3, h) hq H locs ls hR hS hl
def f_X8_legOver (this : Nat) (a0 : Int32) (a1 : Int32) (h : Hp) : Option (Int32 × Hp) :=
f_X8_legOver_2 (some this) a0 a1 0 h
set_option maxHeartbeats 4000000 in
set_option maxRecDepth 100000 in
theorem c_X8_legOver (l : Launch) {G : GG} (this : Nat) (a0 : Int32) (a1 : Int32) (h : Hp) (v : Int32) (h1 : Hp) (hq : f_X8_legOver this a0 a1 h = some (v, h1)) : Met l yX8_legOver (Cond.code yX8_legOver cX8_legOver 4 (some .int) :: GT) rm_X8_legOver (va_Pc [.ref this, .int a0, .int a1] (Cn G h)) (Qx G (some (.int v)) h1) 0 0 (AA G) := by
  refine xMet (cc := cX8_legOver) (by decide) (Nat.le_of_ble_eq_true rfl) (List.forall_mem_cons.mpr ⟨rfl, (List.forall_mem_cons.mpr ⟨rfl, (List.forall_mem_cons.mpr ⟨rfl, (fun _ z => by cases z)⟩)⟩)⟩) ?_
  intro p e s m below meth c ls Z hr hlk hin hR hS hl
  have hx := Z.1
  have hb := Z.2.1
  have hl : LV ls 4 [(0, va_rf (some this)), (1, .int a0), (2, .int a1)] := hl
  unfold f_X8_legOver at hq
  refine lv_iconst (v := 0) hx hb dX8_legOver_0 (by decide) ?_
  refine xisn hx hb hl (x := 0) (lv' := [(3, .int 0), (0, va_rf (some this)), (1, .int a0), (2, .int a1)]) (by decide) dX8_legOver_1 rfl (fun ls hl => ?_)
  exact t_X8_legOver_2 Z hr hlk hin (some this) a0 a1 0 h _ _ ls hq hR hS (hl.sub [1, 2, 3, 0] rfl)
abbrev rm_X8_isSameWay : Room := { frames := 0, cells := 0, slots := 0, locals := 0 }
def f_X8_isSameWay_48  (s0 : Int32) (h : Hp) : Option (Int32 × Hp) :=
rtZ s0 h
set_option maxHeartbeats 4000000 in
set_option maxRecDepth 100000 in
theorem t_X8_isSameWay_48 (Z : ZZ p s m args c cX8_isSameWay RX8 3 G) (hr : meth.sig.returnType = (some .boolean)) (hlk : meth.locks = false) (hin : meth.name = "isSameWay") {v : Int32} {h1 : Hp} : ∀ (s0 : Int32) (h : Hp) (H : Heap) (locs : List Loc) (ls : Array Slot), f_X8_isSameWay_48 s0 h = some (v, h1) → Rep G h H → va_S (AA G) s.heap H locs → LV ls 3 [] → W p l e rm_X8_isSameWay s m args below meth c H locs 0 0 (MQ below (Qx G (some (.int v)) h1) args s 0 0 (AA G)) (F0 m 48 ls [.int s0]) := by
  intro s0 h H locs ls hq hR hS hl
  have hx := Z.1
  have hb := Z.2.1
  unfold f_X8_isSameWay_48 at hq
  exact xrZ hx hb hr hlk hR hS hq (by decide) (by decide) dX8_isSameWay_48
def f_X8_isSameWay_40  (s0 : Int32) (s1 : Int32) (h : Hp) : Option (Int32 × Hp) :=
(if s0 = s1 then
f_X8_isSameWay_48 1 h
else
f_X8_isSameWay_48 0 h)
set_option maxHeartbeats 4000000 in
set_option maxRecDepth 100000 in
theorem t_X8_isSameWay_40 (Z : ZZ p s m args c cX8_isSameWay RX8 3 G) (hr : meth.sig.returnType = (some .boolean)) (hlk : meth.locks = false) (hin : meth.name = "isSameWay") {v : Int32} {h1 : Hp} : ∀ (s0 : Int32) (s1 : Int32) (h : Hp) (H : Heap) (locs : List Loc) (ls : Array Slot), f_X8_isSameWay_40 s0 s1 h = some (v, h1) → Rep G h H → va_S (AA G) s.heap H locs → LV ls 3 [] → W p l e rm_X8_isSameWay s m args below meth c H locs 0 0 (MQ below (Qx G (some (.int v)) h1) args s 0 0 (AA G)) (F0 m 40 ls [.int s1, .int s0]) := by
  intro s0 s1 h H locs ls hq hR hS hl
  have hx := Z.1
  have hb := Z.2.1
  unfold f_X8_isSameWay_40 at hq
  refine xcNe hx hb hq (tgt := 47) dX8_isSameWay_40 (by decide) (fun hq => ?_) (fun hq => ?_)
  · refine lv_iconst (v := 0) hx hb dX8_isSameWay_47 (by decide) ?_
    exact t_X8_isSameWay_48 Z hr hlk hin 0 h H locs ls hq hR hS (hl.sub [] rfl)
  refine lv_iconst (v := 1) hx hb dX8_isSameWay_43 (by decide) ?_
  refine lv_goto (tgt := 48) hx hb dX8_isSameWay_44 (by decide) ?_
  exact t_X8_isSameWay_48 Z hr hlk hin 1 h H locs ls hq hR hS (hl.sub [] rfl)
def f_X8_isSameWay_20  (s0 : Int32) (l0 : Option Nat) (l2 : Int32) (h : Hp) : Option (Int32 × Hp) :=
gR h l0 9 11 (fun x21 =>
ldI h x21 l2 (fun x25 =>
gR h l0 9 12 (fun x27 =>
ldI h x27 l2 (fun x31 =>
(if x31 ≤ x25 then
f_X8_isSameWay_40 s0 0 h
else
f_X8_isSameWay_40 s0 1 h)))))
set_option maxHeartbeats 4000000 in
set_option maxRecDepth 100000 in
theorem t_X8_isSameWay_20 (Z : ZZ p s m args c cX8_isSameWay RX8 3 G) (hr : meth.sig.returnType = (some .boolean)) (hlk : meth.locks = false) (hin : meth.name = "isSameWay") {v : Int32} {h1 : Hp} : ∀ (s0 : Int32) (l0 : Option Nat) (l2 : Int32) (h : Hp) (H : Heap) (locs : List Loc) (ls : Array Slot), f_X8_isSameWay_20 s0 l0 l2 h = some (v, h1) → Rep G h H → va_S (AA G) s.heap H locs → LV ls 3 [(0, va_rf l0), (2, .int l2)] → W p l e rm_X8_isSameWay s m args below meth c H locs 0 0 (MQ below (Qx G (some (.int v)) h1) args s 0 0 (AA G)) (F0 m 20 ls [.int s0]) := by
  intro s0 l0 l2 h H locs ls hq hR hS hl
  have hx := Z.1
  have hb := Z.2.1
  unfold f_X8_isSameWay_20 at hq
  refine xaln hx hb hl (x := l0) 0 rfl dX8_isSameWay_20 ?_
  refine xgR Z hR hq fl_X8_36 rfl dX8_isSameWay_21 (fun x21 hq => ?_)
  refine xiln hx hb hl (x := l2) 1 rfl dX8_isSameWay_24 ?_
  refine xaI Z hR hq dX8_isSameWay_25 (fun x25 hq => ?_)
  refine xaln hx hb hl (x := l0) 0 rfl dX8_isSameWay_26 ?_
  refine xgR Z hR hq fl_X8_39 rfl dX8_isSameWay_27 (fun x27 hq => ?_)
  refine xiln hx hb hl (x := l2) 1 rfl dX8_isSameWay_30 ?_
  refine xaI Z hR hq dX8_isSameWay_31 (fun x31 hq => ?_)
  refine xcGe hx hb hq (tgt := 39) dX8_isSameWay_32 (by decide) (fun hq => ?_) (fun hq => ?_)
  · refine lv_iconst (v := 0) hx hb dX8_isSameWay_39 (by decide) ?_
    exact t_X8_isSameWay_40 Z hr hlk hin s0 0 h H locs ls hq hR hS (hl.sub [] rfl)
  refine lv_iconst (v := 1) hx hb dX8_isSameWay_35 (by decide) ?_
  refine lv_goto (tgt := 40) hx hb dX8_isSameWay_36 (by decide) ?_
  exact t_X8_isSameWay_40 Z hr hlk hin s0 1 h H locs ls hq hR hS (hl.sub [] rfl)
def f_X8_isSameWay (this : Nat) (a0 : Int32) (a1 : Int32) (h : Hp) : Option (Int32 × Hp) :=
gR h (some this) 9 11 (fun x1 =>
ldI h x1 a0 (fun x5 =>
gR h (some this) 9 12 (fun x7 =>
ldI h x7 a0 (fun x11 =>
(if x11 ≤ x5 then
f_X8_isSameWay_20 0 (some this) a1 h
else
f_X8_isSameWay_20 1 (some this) a1 h)))))
set_option maxHeartbeats 4000000 in
set_option maxRecDepth 100000 in
theorem c_X8_isSameWay (l : Launch) {G : GG} (this : Nat) (a0 : Int32) (a1 : Int32) (h : Hp) (v : Int32) (h1 : Hp) (hq : f_X8_isSameWay this a0 a1 h = some (v, h1)) : Met l yX8_isSameWay (Cond.code yX8_isSameWay cX8_isSameWay 3 (some .boolean) :: GT) rm_X8_isSameWay (va_Pc [.ref this, .int a0, .int a1] (Cn G h)) (Qx G (some (.int v)) h1) 0 0 (AA G) := by
  refine xMet (cc := cX8_isSameWay) (by decide) (Nat.le_of_ble_eq_true rfl) (List.forall_mem_cons.mpr ⟨rfl, (List.forall_mem_cons.mpr ⟨rfl, (List.forall_mem_cons.mpr ⟨rfl, (fun _ z => by cases z)⟩)⟩)⟩) ?_
  intro p e s m below meth c ls Z hr hlk hin hR hS hl
  have hx := Z.1
  have hb := Z.2.1
  have hl : LV ls 3 [(0, va_rf (some this)), (1, .int a0), (2, .int a1)] := hl
  unfold f_X8_isSameWay at hq
  refine xaln hx hb hl (x := (some this)) 0 rfl dX8_isSameWay_0 ?_
  refine xgR Z hR hq fl_X8_36 rfl dX8_isSameWay_1 (fun x1 hq => ?_)
  refine xiln hx hb hl (x := a0) 1 rfl dX8_isSameWay_4 ?_
  refine xaI Z hR hq dX8_isSameWay_5 (fun x5 hq => ?_)
  refine xaln hx hb hl (x := (some this)) 0 rfl dX8_isSameWay_6 ?_
  refine xgR Z hR hq fl_X8_39 rfl dX8_isSameWay_7 (fun x7 hq => ?_)
  refine xiln hx hb hl (x := a0) 1 rfl dX8_isSameWay_10 ?_
  refine xaI Z hR hq dX8_isSameWay_11 (fun x11 hq => ?_)
  refine xcGe hx hb hq (tgt := 19) dX8_isSameWay_12 (by decide) (fun hq => ?_) (fun hq => ?_)
  · refine lv_iconst (v := 0) hx hb dX8_isSameWay_19 (by decide) ?_
    exact t_X8_isSameWay_20 Z hr hlk hin 0 (some this) a1 h _ _ ls hq hR hS (hl.sub [0, 2] rfl)
  refine lv_iconst (v := 1) hx hb dX8_isSameWay_15 (by decide) ?_
  refine lv_goto (tgt := 20) hx hb dX8_isSameWay_16 (by decide) ?_
  exact t_X8_isSameWay_20 Z hr hlk hin 1 (some this) a1 h _ _ ls hq hR hS (hl.sub [0, 2] rfl)
abbrev rm_X8_isClosed : Room := { frames := 1, cells := 0, slots := 0, locals := 22 }
def f_X8_isClosed_43  (k2 : Option Nat × Int32 × Int32 × Int32 × Hp → Option (Int32 × Hp)) (l0 : Option Nat) (l1 : Int32) (l2 : Int32) (l3 : Int32) (h : Hp) : Option (Int32 × Hp) :=
k2 (l0, l1, l2, (l3 + 1), h)
set_option maxHeartbeats 4000000 in
set_option maxRecDepth 100000 in
theorem t_X8_isClosed_43 (Z : ZZ p s m args c cX8_isClosed RX8 4 G) (hr : meth.sig.returnType = (some .boolean)) (hlk : meth.locks = false) (hin : meth.name = "isClosed") {v : Int32} {h1 : Hp} {k2 : Option Nat × Int32 × Int32 × Int32 × Hp → Option (Int32 × Hp)} (hk2 : ∀ u : Option Nat × Int32 × Int32 × Int32 × Hp, k2 u = some (v, h1) → ∀ (H : Heap) (locs : List Loc) (ls : Array Slot), Rep G u.2.2.2.2 H → va_S (AA G) s.heap H locs → LV ls 4 [(0, va_rf u.1), (1, .int u.2.1), (2, .int u.2.2.1), (3, .int u.2.2.2.1)] → W p l e rm_X8_isClosed s m args below meth c H locs 0 0 (MQ below (Qx G (some (.int v)) h1) args s 0 0 (AA G)) (F0 m 2 ls [])) : ∀ (l0 : Option Nat) (l1 : Int32) (l2 : Int32) (l3 : Int32) (h : Hp) (H : Heap) (locs : List Loc) (ls : Array Slot), f_X8_isClosed_43 k2 l0 l1 l2 l3 h = some (v, h1) → Rep G h H → va_S (AA G) s.heap H locs → LV ls 4 [(0, va_rf l0), (1, .int l1), (2, .int l2), (3, .int l3)] → W p l e rm_X8_isClosed s m args below meth c H locs 0 0 (MQ below (Qx G (some (.int v)) h1) args s 0 0 (AA G)) (F0 m 43 ls []) := by
  intro l0 l1 l2 l3 h H locs ls hq hR hS hl
  have hx := Z.1
  have hb := Z.2.1
  unfold f_X8_isClosed_43 at hq
  refine xinc hx hb hl (x := l3) (v := (l3 + 1)) (lv' := [(3, .int (l3 + 1)), (0, va_rf l0), (1, .int l1), (2, .int l2)]) 3 rfl (by rw [show Int32.ofInt (1) = (1 : Int32) from by decide]) (by decide) dX8_isClosed_43 rfl (fun ls hl => ?_)
  refine lv_goto (tgt := 2) hx hb dX8_isClosed_46 (by decide) ?_
  exact hk2 (l0, l1, l2, (l3 + 1), h) hq H locs ls hR hS (hl.sub [1, 2, 3, 0] rfl)
def fb_X8_isClosed_2  (k2 : Option Nat × Int32 × Int32 × Int32 × Hp → Option (Int32 × Hp)) (l0 : Option Nat) (l1 : Int32) (l2 : Int32) (l3 : Int32) (h : Hp) : Option (Int32 × Hp) :=
gI h l0 9 5 (fun x4 =>
(if x4 ≤ l3 then
rtZ 0 h
else
gR h l0 9 6 (fun x11 =>
ldI h x11 l3 (fun x15 =>
(if x15 = l1 then
gR h l0 9 7 (fun x22 =>
ldI h x22 l3 (fun x26 =>
gR h l0 9 8 (fun x28 =>
ldI h x28 l3 (fun x32 =>
bd (f_X8_in l2 x26 (x32 - 1) h) (fun x35 h =>
(if x35 = 0 then
f_X8_isClosed_43 k2 l0 l1 l2 l3 h
else
rtZ 1 h))))))
else
f_X8_isClosed_43 k2 l0 l1 l2 l3 h)))))
set_option maxHeartbeats 4000000 in
set_option maxRecDepth 100000 in
theorem tb_X8_isClosed_2 (Z : ZZ p s m args c cX8_isClosed RX8 4 G) (hr : meth.sig.returnType = (some .boolean)) (hlk : meth.locks = false) (hin : meth.name = "isClosed") {v : Int32} {h1 : Hp} {k2 : Option Nat × Int32 × Int32 × Int32 × Hp → Option (Int32 × Hp)} (hk2 : ∀ u : Option Nat × Int32 × Int32 × Int32 × Hp, k2 u = some (v, h1) → ∀ (H : Heap) (locs : List Loc) (ls : Array Slot), Rep G u.2.2.2.2 H → va_S (AA G) s.heap H locs → LV ls 4 [(0, va_rf u.1), (1, .int u.2.1), (2, .int u.2.2.1), (3, .int u.2.2.2.1)] → W p l e rm_X8_isClosed s m args below meth c H locs 0 0 (MQ below (Qx G (some (.int v)) h1) args s 0 0 (AA G)) (F0 m 2 ls [])) : ∀ (l0 : Option Nat) (l1 : Int32) (l2 : Int32) (l3 : Int32) (h : Hp) (H : Heap) (locs : List Loc) (ls : Array Slot), fb_X8_isClosed_2 k2 l0 l1 l2 l3 h = some (v, h1) → Rep G h H → va_S (AA G) s.heap H locs → LV ls 4 [(0, va_rf l0), (1, .int l1), (2, .int l2), (3, .int l3)] → W p l e rm_X8_isClosed s m args below meth c H locs 0 0 (MQ below (Qx G (some (.int v)) h1) args s 0 0 (AA G)) (F0 m 2 ls []) := by
  intro l0 l1 l2 l3 h H locs ls hq hR hS hl
  have hx := Z.1
  have hb := Z.2.1
  unfold fb_X8_isClosed_2 at hq
  refine xiln hx hb hl (x := l3) 3 rfl dX8_isClosed_2 ?_
  refine xaln hx hb hl (x := l0) 0 rfl dX8_isClosed_3 ?_
  refine xgI Z hR hq fl_X8_115 rfl dX8_isClosed_4 (fun x4 hq => ?_)
  refine xcGe hx hb hq (tgt := 49) dX8_isClosed_7 (by decide) (fun hq => ?_) (fun hq => ?_)
  · refine lv_iconst (v := 0) hx hb dX8_isClosed_49 (by decide) ?_
    exact xrZ hx hb hr hlk hR hS hq (by decide) (by decide) dX8_isClosed_50
  refine xaln hx hb hl (x := l0) 0 rfl dX8_isClosed_10 ?_
  refine xgR Z hR hq fl_X8_24 rfl dX8_isClosed_11 (fun x11 hq => ?_)
  refine xiln hx hb hl (x := l3) 3 rfl dX8_isClosed_14 ?_
  refine xaI Z hR hq dX8_isClosed_15 (fun x15 hq => ?_)
  refine xiln hx hb hl (x := l1) 1 rfl dX8_isClosed_16 ?_
  refine xcNe hx hb hq (tgt := 43) dX8_isClosed_17 (by decide) (fun hq => ?_) (fun hq => ?_)
  · exact t_X8_isClosed_43 Z hr hlk hin hk2 l0 l1 l2 l3 h H locs ls hq hR hS (hl.sub [0, 1, 2, 3] rfl)
  refine xiln hx hb hl (x := l2) 2 rfl dX8_isClosed_20 ?_
  refine xaln hx hb hl (x := l0) 0 rfl dX8_isClosed_21 ?_
  refine xgR Z hR hq fl_X8_27 rfl dX8_isClosed_22 (fun x22 hq => ?_)
  refine xiln hx hb hl (x := l3) 3 rfl dX8_isClosed_25 ?_
  refine xaI Z hR hq dX8_isClosed_26 (fun x26 hq => ?_)
  refine xaln hx hb hl (x := l0) 0 rfl dX8_isClosed_27 ?_
  refine xgR Z hR hq fl_X8_30 rfl dX8_isClosed_28 (fun x28 hq => ?_)
  refine xiln hx hb hl (x := l3) 3 rfl dX8_isClosed_31 ?_
  refine xaI Z hR hq dX8_isClosed_32 (fun x32 hq => ?_)
  refine lv_iconst (v := 1) hx hb dX8_isClosed_33 (by decide) ?_
  refine lv_isub hx hb dX8_isClosed_34 ?_
  refine xcS Z hR hS hl (rest := []) (As := [.int l2, .int x26, .int (x32 - 1)]) hq cl_X8_111 (fun x h1 hc => c_X8_in l l2 x26 (x32 - 1) h x h1 hc) ⟨⟨rfl, rfl⟩, (by decide), (by decide)⟩ rfl rfl (by first | decide | (simp only [List.map_cons, List.map_nil, rf_cat, ct_int, ct_ref, List.sum_cons, List.sum_nil] <;> decide)) dX8_isClosed_35 (by decide) (fun x35 h H locs hq hR hS => ?_)
  refine xzEq hx hb hq (tgt := 43) dX8_isClosed_38 (by decide) (fun hq => ?_) (fun hq => ?_)
  · exact t_X8_isClosed_43 Z hr hlk hin hk2 l0 l1 l2 l3 h H locs ls hq hR hS (hl.sub [0, 1, 2, 3] rfl)
  refine lv_iconst (v := 1) hx hb dX8_isClosed_41 (by decide) ?_
  exact xrZ hx hb hr hlk hR hS hq (by decide) (by decide) dX8_isClosed_42
def f_X8_isClosed_2  (l0 : Option Nat) (l1 : Int32) (l2 : Int32) (l3 : Int32) (h : Hp) : Option (Int32 × Hp) :=
  lp (fun (k2 : Option Nat × Int32 × Int32 × Int32 × Hp → Option (Int32 × Hp)) (u : Option Nat × Int32 × Int32 × Int32 × Hp) => fb_X8_isClosed_2 k2 u.1 u.2.1 u.2.2.1 u.2.2.2.1 u.2.2.2.2) FU (l0, l1, l2, l3, h)
theorem t_X8_isClosed_2 (Z : ZZ p s m args c cX8_isClosed RX8 4 G) (hr : meth.sig.returnType = (some .boolean)) (hlk : meth.locks = false) (hin : meth.name = "isClosed") {v : Int32} {h1 : Hp} : ∀ (l0 : Option Nat) (l1 : Int32) (l2 : Int32) (l3 : Int32) (h : Hp) (H : Heap) (locs : List Loc) (ls : Array Slot), f_X8_isClosed_2 l0 l1 l2 l3 h = some (v, h1) → Rep G h H → va_S (AA G) s.heap H locs → LV ls 4 [(0, va_rf l0), (1, .int l1), (2, .int l2), (3, .int l3)] → W p l e rm_X8_isClosed s m args below meth c H locs 0 0 (MQ below (Qx G (some (.int v)) h1) args s 0 0 (AA G)) (F0 m 2 ls []) := by
  intro l0 l1 l2 l3 h H locs ls hq hR hS hl
  exact lp_ind (P := fun u : Option Nat × Int32 × Int32 × Int32 × Hp => ∀ (H : Heap) (locs : List Loc) (ls : Array Slot), Rep G u.2.2.2.2 H → va_S (AA G) s.heap H locs → LV ls 4 [(0, va_rf u.1), (1, .int u.2.1), (2, .int u.2.2.1), (3, .int u.2.2.2.1)] → W p l e rm_X8_isClosed s m args below meth c H locs 0 0 (MQ below (Qx G (some (.int v)) h1) args s 0 0 (AA G)) (F0 m 2 ls [])) (fun k hk u hq H locs ls hR hS hl => tb_X8_isClosed_2 Z hr hlk hin hk u.1 u.2.1 u.2.2.1 u.2.2.2.1 u.2.2.2.2 H locs ls hq hR hS hl) FU (l0, l1, l2, l3, h) hq H locs ls hR hS hl
def f_X8_isClosed (this : Nat) (a0 : Int32) (a1 : Int32) (h : Hp) : Option (Int32 × Hp) :=
f_X8_isClosed_2 (some this) a0 a1 0 h
set_option maxHeartbeats 4000000 in
set_option maxRecDepth 100000 in
theorem c_X8_isClosed (l : Launch) {G : GG} (this : Nat) (a0 : Int32) (a1 : Int32) (h : Hp) (v : Int32) (h1 : Hp) (hq : f_X8_isClosed this a0 a1 h = some (v, h1)) : Met l yX8_isClosed (Cond.code yX8_isClosed cX8_isClosed 4 (some .boolean) :: GT) rm_X8_isClosed (va_Pc [.ref this, .int a0, .int a1] (Cn G h)) (Qx G (some (.int v)) h1) 0 0 (AA G) := by
  refine xMet (cc := cX8_isClosed) (by decide) (Nat.le_of_ble_eq_true rfl) (List.forall_mem_cons.mpr ⟨rfl, (List.forall_mem_cons.mpr ⟨rfl, (List.forall_mem_cons.mpr ⟨rfl, (fun _ z => by cases z)⟩)⟩)⟩) ?_
  intro p e s m below meth c ls Z hr hlk hin hR hS hl
  have hx := Z.1
  have hb := Z.2.1
  have hl : LV ls 4 [(0, va_rf (some this)), (1, .int a0), (2, .int a1)] := hl
  unfold f_X8_isClosed at hq
  refine lv_iconst (v := 0) hx hb dX8_isClosed_0 (by decide) ?_
  refine xisn hx hb hl (x := 0) (lv' := [(3, .int 0), (0, va_rf (some this)), (1, .int a0), (2, .int a1)]) (by decide) dX8_isClosed_1 rfl (fun ls hl => ?_)
  exact t_X8_isClosed_2 Z hr hlk hin (some this) a0 a1 0 h _ _ ls hq hR hS (hl.sub [1, 2, 3, 0] rfl)
abbrev rm_X8_behind : Room := { frames := 0, cells := 0, slots := 0, locals := 0 }
def f_X8_behind_17  (s0 : Int32) (h : Hp) : Option (Int32 × Hp) :=
rtI s0 h
set_option maxHeartbeats 4000000 in
set_option maxRecDepth 100000 in
theorem t_X8_behind_17 (Z : ZZ p s m args c cX8_behind RX8 1 G) (hr : meth.sig.returnType = (some .int)) (hlk : meth.locks = false) (hin : meth.name = "behind") {v : Int32} {h1 : Hp} : ∀ (s0 : Int32) (h : Hp) (H : Heap) (locs : List Loc) (ls : Array Slot), f_X8_behind_17 s0 h = some (v, h1) → Rep G h H → va_S (AA G) s.heap H locs → LV ls 1 [] → W p l e rm_X8_behind s m args below meth c H locs 0 0 (MQ below (Qx G (some (.int v)) h1) args s 0 0 (AA G)) (F0 m 17 ls [.int s0]) := by
  intro s0 h H locs ls hq hR hS hl
  have hx := Z.1
  have hb := Z.2.1
  unfold f_X8_behind_17 at hq
  exact xrI hx hb hr hlk hR hS hq (by decide) (by decide) dX8_behind_17
def f_X8_behind (this : Nat) (h : Hp) : Option (Int32 × Hp) :=
gI h (some this) 9 4 (fun x1 =>
(if x1 ≤ 0 then
f_X8_behind_17 0 h
else
gI h (some this) 9 4 (fun x8 =>
f_X8_behind_17 (x8 - 1) h)))
set_option maxHeartbeats 4000000 in
set_option maxRecDepth 100000 in
theorem c_X8_behind (l : Launch) {G : GG} (this : Nat) (h : Hp) (v : Int32) (h1 : Hp) (hq : f_X8_behind this h = some (v, h1)) : Met l yX8_behind (Cond.code yX8_behind cX8_behind 1 (some .int) :: GT) rm_X8_behind (va_Pc [.ref this] (Cn G h)) (Qx G (some (.int v)) h1) 0 0 (AA G) := by
  refine xMet (cc := cX8_behind) (by decide) (Nat.le_of_ble_eq_true rfl) (List.forall_mem_cons.mpr ⟨rfl, (fun _ z => by cases z)⟩) ?_
  intro p e s m below meth c ls Z hr hlk hin hR hS hl
  have hx := Z.1
  have hb := Z.2.1
  have hl : LV ls 1 [(0, va_rf (some this))] := hl
  unfold f_X8_behind at hq
  refine xaln hx hb hl (x := (some this)) 0 rfl dX8_behind_0 ?_
  refine xgI Z hR hq fl_X8_20 rfl dX8_behind_1 (fun x1 hq => ?_)
  refine xzLe hx hb hq (tgt := 16) dX8_behind_4 (by decide) (fun hq => ?_) (fun hq => ?_)
  · refine lv_iconst (v := 0) hx hb dX8_behind_16 (by decide) ?_
    exact t_X8_behind_17 Z hr hlk hin 0 h _ _ ls hq hR hS (hl.sub [] rfl)
  refine xaln hx hb hl (x := (some this)) 0 rfl dX8_behind_7 ?_
  refine xgI Z hR hq fl_X8_20 rfl dX8_behind_8 (fun x8 hq => ?_)
  refine lv_iconst (v := 1) hx hb dX8_behind_11 (by decide) ?_
  refine lv_isub hx hb dX8_behind_12 ?_
  refine lv_goto (tgt := 17) hx hb dX8_behind_13 (by decide) ?_
  exact t_X8_behind_17 Z hr hlk hin (x8 - 1) h _ _ ls hq hR hS (hl.sub [] rfl)
abbrev rm_X8_areApart : Room := { frames := 1, cells := 0, slots := 0, locals := 20 }
def f_X8_areApart_30  (s0 : Int32) (h : Hp) : Option (Int32 × Hp) :=
rtZ s0 h
set_option maxHeartbeats 4000000 in
set_option maxRecDepth 100000 in
theorem t_X8_areApart_30 (Z : ZZ p s m args c cX8_areApart RX8 5 G) (hr : meth.sig.returnType = (some .boolean)) (hlk : meth.locks = false) (hin : meth.name = "areApart") {v : Int32} {h1 : Hp} : ∀ (s0 : Int32) (h : Hp) (H : Heap) (locs : List Loc) (ls : Array Slot), f_X8_areApart_30 s0 h = some (v, h1) → Rep G h H → va_S (AA G) s.heap H locs → LV ls 5 [] → W p l e rm_X8_areApart s m args below meth c H locs 0 0 (MQ below (Qx G (some (.int v)) h1) args s 0 0 (AA G)) (F0 m 30 ls [.int s0]) := by
  intro s0 h H locs ls hq hR hS hl
  have hx := Z.1
  have hb := Z.2.1
  unfold f_X8_areApart_30 at hq
  exact xrZ hx hb hr hlk hR hS hq (by decide) (by decide) dX8_areApart_30
def f_X8_areApart_25   (h : Hp) : Option (Int32 × Hp) :=
f_X8_areApart_30 1 h
set_option maxHeartbeats 4000000 in
set_option maxRecDepth 100000 in
theorem t_X8_areApart_25 (Z : ZZ p s m args c cX8_areApart RX8 5 G) (hr : meth.sig.returnType = (some .boolean)) (hlk : meth.locks = false) (hin : meth.name = "areApart") {v : Int32} {h1 : Hp} : ∀  (h : Hp) (H : Heap) (locs : List Loc) (ls : Array Slot), f_X8_areApart_25  h = some (v, h1) → Rep G h H → va_S (AA G) s.heap H locs → LV ls 5 [] → W p l e rm_X8_areApart s m args below meth c H locs 0 0 (MQ below (Qx G (some (.int v)) h1) args s 0 0 (AA G)) (F0 m 25 ls []) := by
  intro  h H locs ls hq hR hS hl
  have hx := Z.1
  have hb := Z.2.1
  unfold f_X8_areApart_25 at hq
  refine lv_iconst (v := 1) hx hb dX8_areApart_25 (by decide) ?_
  refine lv_goto (tgt := 30) hx hb dX8_areApart_26 (by decide) ?_
  exact t_X8_areApart_30 Z hr hlk hin 1 h H locs ls hq hR hS (hl.sub [] rfl)
def f_X8_areApart (this : Nat) (a0 : Int32) (a1 : Int32) (a2 : Int32) (a3 : Int32) (h : Hp) : Option (Int32 × Hp) :=
rcv h (some this) 9 (fun b6 => bd (f_X8_behind b6 h) (fun x6 h =>
(if ((a2 + a3) + x6) ≤ a0 then
f_X8_areApart_25  h
else
rcv h (some this) 9 (fun b18 => bd (f_X8_behind b18 h) (fun x18 h =>
(if a2 < ((a0 + a1) + x18) then
f_X8_areApart_30 0 h
else
f_X8_areApart_25  h))))))
set_option maxHeartbeats 4000000 in
set_option maxRecDepth 100000 in
theorem c_X8_areApart (l : Launch) {G : GG} (this : Nat) (a0 : Int32) (a1 : Int32) (a2 : Int32) (a3 : Int32) (h : Hp) (v : Int32) (h1 : Hp) (hq : f_X8_areApart this a0 a1 a2 a3 h = some (v, h1)) : Met l yX8_areApart (Cond.code yX8_areApart cX8_areApart 5 (some .boolean) :: GT) rm_X8_areApart (va_Pc [.ref this, .int a0, .int a1, .int a2, .int a3] (Cn G h)) (Qx G (some (.int v)) h1) 0 0 (AA G) := by
  refine xMet (cc := cX8_areApart) (by decide) (Nat.le_of_ble_eq_true rfl) (List.forall_mem_cons.mpr ⟨rfl, (List.forall_mem_cons.mpr ⟨rfl, (List.forall_mem_cons.mpr ⟨rfl, (List.forall_mem_cons.mpr ⟨rfl, (List.forall_mem_cons.mpr ⟨rfl, (fun _ z => by cases z)⟩)⟩)⟩)⟩)⟩) ?_
  intro p e s m below meth c ls Z hr hlk hin hR hS hl
  have hx := Z.1
  have hb := Z.2.1
  have hl : LV ls 5 [(0, va_rf (some this)), (1, .int a0), (2, .int a1), (3, .int a2), (4, .int a3)] := hl
  unfold f_X8_areApart at hq
  refine xiln hx hb hl (x := a0) 1 rfl dX8_areApart_0 ?_
  refine xiln hx hb hl (x := a2) 3 rfl dX8_areApart_1 ?_
  refine xil hx hb hl (x := a3) 4 rfl dX8_areApart_2 ?_
  refine lv_iadd hx hb dX8_areApart_4 ?_
  refine xaln hx hb hl (x := (some this)) 0 rfl dX8_areApart_5 ?_
  refine xcV Z hR hS hl (rest := [.int (a2 + a3), .int a0]) (As := []) hq cl_X8_130 (fun b x h1 hc => c_X8_behind l b h x h1 hc) ⟨⟨rfl, rfl⟩, (by decide), (by decide)⟩ rfl rfl (by first | decide | (simp only [List.map_cons, List.map_nil, rf_cat, ct_int, ct_ref, List.sum_cons, List.sum_nil] <;> decide)) dX8_areApart_6 (by decide) (fun x6 h H locs hq hR hS => ?_)
  refine lv_iadd hx hb dX8_areApart_9 ?_
  refine xcGe hx hb hq (tgt := 25) dX8_areApart_10 (by decide) (fun hq => ?_) (fun hq => ?_)
  · exact t_X8_areApart_25 Z hr hlk hin  h _ _ ls hq hR hS (hl.sub [] rfl)
  refine xiln hx hb hl (x := a2) 3 rfl dX8_areApart_13 ?_
  refine xiln hx hb hl (x := a0) 1 rfl dX8_areApart_14 ?_
  refine xiln hx hb hl (x := a1) 2 rfl dX8_areApart_15 ?_
  refine lv_iadd hx hb dX8_areApart_16 ?_
  refine xaln hx hb hl (x := (some this)) 0 rfl dX8_areApart_17 ?_
  refine xcV Z hR hS hl (rest := [.int (a0 + a1), .int a2]) (As := []) hq cl_X8_130 (fun b x h1 hc => c_X8_behind l b h x h1 hc) ⟨⟨rfl, rfl⟩, (by decide), (by decide)⟩ rfl rfl (by first | decide | (simp only [List.map_cons, List.map_nil, rf_cat, ct_int, ct_ref, List.sum_cons, List.sum_nil] <;> decide)) dX8_areApart_18 (by decide) (fun x18 h H locs hq hR hS => ?_)
  refine lv_iadd hx hb dX8_areApart_21 ?_
  refine xcLt hx hb hq (tgt := 29) dX8_areApart_22 (by decide) (fun hq => ?_) (fun hq => ?_)
  · refine lv_iconst (v := 0) hx hb dX8_areApart_29 (by decide) ?_
    exact t_X8_areApart_30 Z hr hlk hin 0 h _ _ ls hq hR hS (hl.sub [] rfl)
  exact t_X8_areApart_25 Z hr hlk hin  h _ _ ls hq hR hS (hl.sub [] rfl)
abbrev rm_X8_canLeave : Room := { frames := 2, cells := 0, slots := 0, locals := 45 }
def f_X8_canLeave_147  (k50 : Option Nat × Int32 × Int32 × Int32 × Int32 × Int32 × Hp → Option (Int32 × Hp)) (l0 : Option Nat) (l1 : Int32) (l3 : Int32) (l4 : Int32) (l5 : Int32) (l6 : Int32) (h : Hp) : Option (Int32 × Hp) :=
k50 (l0, l1, l3, l4, l5, (l6 + 1), h)
set_option maxHeartbeats 4000000 in
set_option maxRecDepth 100000 in
theorem t_X8_canLeave_147 (Z : ZZ p s m args c cX8_canLeave RX8 8 G) (hr : meth.sig.returnType = (some .boolean)) (hlk : meth.locks = false) (hin : meth.name = "canLeave") {v : Int32} {h1 : Hp} {k50 : Option Nat × Int32 × Int32 × Int32 × Int32 × Int32 × Hp → Option (Int32 × Hp)} (hk50 : ∀ u : Option Nat × Int32 × Int32 × Int32 × Int32 × Int32 × Hp, k50 u = some (v, h1) → ∀ (H : Heap) (locs : List Loc) (ls : Array Slot), Rep G u.2.2.2.2.2.2 H → va_S (AA G) s.heap H locs → LV ls 8 [(0, va_rf u.1), (1, .int u.2.1), (3, .int u.2.2.1), (4, .int u.2.2.2.1), (5, .int u.2.2.2.2.1), (6, .int u.2.2.2.2.2.1)] → W p l e rm_X8_canLeave s m args below meth c H locs 0 0 (MQ below (Qx G (some (.int v)) h1) args s 0 0 (AA G)) (F0 m 50 ls [])) : ∀ (l0 : Option Nat) (l1 : Int32) (l3 : Int32) (l4 : Int32) (l5 : Int32) (l6 : Int32) (h : Hp) (H : Heap) (locs : List Loc) (ls : Array Slot), f_X8_canLeave_147 k50 l0 l1 l3 l4 l5 l6 h = some (v, h1) → Rep G h H → va_S (AA G) s.heap H locs → LV ls 8 [(0, va_rf l0), (1, .int l1), (3, .int l3), (4, .int l4), (5, .int l5), (6, .int l6)] → W p l e rm_X8_canLeave s m args below meth c H locs 0 0 (MQ below (Qx G (some (.int v)) h1) args s 0 0 (AA G)) (F0 m 147 ls []) := by
  intro l0 l1 l3 l4 l5 l6 h H locs ls hq hR hS hl
  have hx := Z.1
  have hb := Z.2.1
  unfold f_X8_canLeave_147 at hq
  refine xinc hx hb hl (x := l6) (v := (l6 + 1)) (lv' := [(6, .int (l6 + 1)), (0, va_rf l0), (1, .int l1), (3, .int l3), (4, .int l4), (5, .int l5)]) 5 rfl (by rw [show Int32.ofInt (1) = (1 : Int32) from by decide]) (by decide) dX8_canLeave_147 rfl (fun ls hl => ?_)
  refine lv_goto (tgt := 50) hx hb dX8_canLeave_150 (by decide) ?_
  exact hk50 (l0, l1, l3, l4, l5, (l6 + 1), h) hq H locs ls hR hS (hl.sub [1, 2, 3, 4, 5, 0] rfl)
def f_X8_canLeave_98  (k50 : Option Nat × Int32 × Int32 × Int32 × Int32 × Int32 × Hp → Option (Int32 × Hp)) (l0 : Option Nat) (l1 : Int32) (l3 : Int32) (l4 : Int32) (l5 : Int32) (l6 : Int32) (h : Hp) : Option (Int32 × Hp) :=
rcv h l0 9 (fun b103 => bd (f_X8_legOver b103 l6 l4 h) (fun x103 h =>
(if x103 = (-1) then
f_X8_canLeave_147 k50 l0 l1 l3 l4 l5 l6 h
else
gR h l0 9 20 (fun x119 =>
ldI h x119 ((8 * l6) + x103) (fun x130 =>
rcv h l0 9 (fun b136 => bd (f_X8_longOf b136 l6 x103 h) (fun x136 h =>
rcv h l0 9 (fun b139 => bd (f_X8_areApart b139 l3 l5 x130 x136 h) (fun x139 h =>
(if x139 = 0 then
rtZ 0 h
else
f_X8_canLeave_147 k50 l0 l1 l3 l4 l5 l6 h))))))))))
set_option maxHeartbeats 4000000 in
set_option maxRecDepth 100000 in
theorem t_X8_canLeave_98 (Z : ZZ p s m args c cX8_canLeave RX8 8 G) (hr : meth.sig.returnType = (some .boolean)) (hlk : meth.locks = false) (hin : meth.name = "canLeave") {v : Int32} {h1 : Hp} {k50 : Option Nat × Int32 × Int32 × Int32 × Int32 × Int32 × Hp → Option (Int32 × Hp)} (hk50 : ∀ u : Option Nat × Int32 × Int32 × Int32 × Int32 × Int32 × Hp, k50 u = some (v, h1) → ∀ (H : Heap) (locs : List Loc) (ls : Array Slot), Rep G u.2.2.2.2.2.2 H → va_S (AA G) s.heap H locs → LV ls 8 [(0, va_rf u.1), (1, .int u.2.1), (3, .int u.2.2.1), (4, .int u.2.2.2.1), (5, .int u.2.2.2.2.1), (6, .int u.2.2.2.2.2.1)] → W p l e rm_X8_canLeave s m args below meth c H locs 0 0 (MQ below (Qx G (some (.int v)) h1) args s 0 0 (AA G)) (F0 m 50 ls [])) : ∀ (l0 : Option Nat) (l1 : Int32) (l3 : Int32) (l4 : Int32) (l5 : Int32) (l6 : Int32) (h : Hp) (H : Heap) (locs : List Loc) (ls : Array Slot), f_X8_canLeave_98 k50 l0 l1 l3 l4 l5 l6 h = some (v, h1) → Rep G h H → va_S (AA G) s.heap H locs → LV ls 8 [(0, va_rf l0), (1, .int l1), (3, .int l3), (4, .int l4), (5, .int l5), (6, .int l6)] → W p l e rm_X8_canLeave s m args below meth c H locs 0 0 (MQ below (Qx G (some (.int v)) h1) args s 0 0 (AA G)) (F0 m 98 ls []) := by
  intro l0 l1 l3 l4 l5 l6 h H locs ls hq hR hS hl
  have hx := Z.1
  have hb := Z.2.1
  unfold f_X8_canLeave_98 at hq
  refine xaln hx hb hl (x := l0) 0 rfl dX8_canLeave_98 ?_
  refine xil hx hb hl (x := l6) 5 rfl dX8_canLeave_99 ?_
  refine xil hx hb hl (x := l4) 3 rfl dX8_canLeave_101 ?_
  refine xcV Z hR hS hl (rest := []) (As := [.int l6, .int l4]) hq cl_X8_144 (fun b x h1 hc => c_X8_legOver l b l6 l4 h x h1 hc) ⟨⟨rfl, rfl⟩, (by decide), (by decide)⟩ rfl rfl (by first | decide | (simp only [List.map_cons, List.map_nil, rf_cat, ct_int, ct_ref, List.sum_cons, List.sum_nil] <;> decide)) dX8_canLeave_103 (by decide) (fun x103 h H locs hq hR hS => ?_)
  refine xis hx hb hl (x := x103) (lv' := [(7, .int x103), (0, va_rf l0), (1, .int l1), (3, .int l3), (4, .int l4), (5, .int l5), (6, .int l6)]) (by decide) dX8_canLeave_106 rfl (fun ls hl => ?_)
  refine xil hx hb hl (x := x103) 0 rfl dX8_canLeave_108 ?_
  refine lv_iconst (v := (-1)) hx hb dX8_canLeave_110 (by decide) ?_
  refine xcEq hx hb hq (tgt := 147) dX8_canLeave_111 (by decide) (fun hq => ?_) (fun hq => ?_)
  · exact t_X8_canLeave_147 Z hr hlk hin hk50 l0 l1 l3 l4 l5 l6 h H locs ls hq hR hS (hl.sub [1, 2, 3, 4, 5, 6] rfl)
  refine xaln hx hb hl (x := l0) 1 rfl dX8_canLeave_114 ?_
  refine xiln hx hb hl (x := l3) 3 rfl dX8_canLeave_115 ?_
  refine xil hx hb hl (x := l5) 5 rfl dX8_canLeave_116 ?_
  refine xaln hx hb hl (x := l0) 1 rfl dX8_canLeave_118 ?_
  refine xgR Z hR hq fl_X8_63 rfl dX8_canLeave_119 (fun x119 hq => ?_)
  refine lv_bipush (v := 8) hx hb dX8_canLeave_122 (by decide) ?_
  refine xil hx hb hl (x := l6) 6 rfl dX8_canLeave_124 ?_
  refine lv_imul hx hb dX8_canLeave_126 ?_
  refine xil hx hb hl (x := x103) 0 rfl dX8_canLeave_127 ?_
  refine lv_iadd hx hb dX8_canLeave_129 ?_
  refine xaI Z hR hq dX8_canLeave_130 (fun x130 hq => ?_)
  refine xaln hx hb hl (x := l0) 1 rfl dX8_canLeave_131 ?_
  refine xil hx hb hl (x := l6) 6 rfl dX8_canLeave_132 ?_
  refine xil hx hb hl (x := x103) 0 rfl dX8_canLeave_134 ?_
  refine xcV Z hR hS hl (rest := [.int x130, .int l5, .int l3, va_rf l0]) (As := [.int l6, .int x103]) hq cl_X8_134 (fun b x h1 hc => c_X8_longOf l b l6 x103 h x h1 hc) ⟨⟨rfl, rfl⟩, (by decide), (by decide)⟩ rfl rfl (by first | decide | (simp only [List.map_cons, List.map_nil, rf_cat, ct_int, ct_ref, List.sum_cons, List.sum_nil] <;> decide)) dX8_canLeave_136 (by decide) (fun x136 h H locs hq hR hS => ?_)
  refine xcV Z hR hS hl (rest := []) (As := [.int l3, .int l5, .int x130, .int x136]) hq cl_X8_147 (fun b x h1 hc => c_X8_areApart l b l3 l5 x130 x136 h x h1 hc) ⟨⟨rfl, rfl⟩, (by decide), (by decide)⟩ rfl rfl (by first | decide | (simp only [List.map_cons, List.map_nil, rf_cat, ct_int, ct_ref, List.sum_cons, List.sum_nil] <;> decide)) dX8_canLeave_139 (by decide) (fun x139 h H locs hq hR hS => ?_)
  refine xzNe hx hb hq (tgt := 147) dX8_canLeave_142 (by decide) (fun hq => ?_) (fun hq => ?_)
  · exact t_X8_canLeave_147 Z hr hlk hin hk50 l0 l1 l3 l4 l5 l6 h H locs ls hq hR hS (hl.sub [1, 2, 3, 4, 5, 6] rfl)
  refine lv_iconst (v := 0) hx hb dX8_canLeave_145 (by decide) ?_
  exact xrZ hx hb hr hlk hR hS hq (by decide) (by decide) dX8_canLeave_146
def fb_X8_canLeave_50  (k50 : Option Nat × Int32 × Int32 × Int32 × Int32 × Int32 × Hp → Option (Int32 × Hp)) (l0 : Option Nat) (l1 : Int32) (l3 : Int32) (l4 : Int32) (l5 : Int32) (l6 : Int32) (h : Hp) : Option (Int32 × Hp) :=
gI h l0 9 9 (fun x53 =>
(if x53 ≤ l6 then
rtZ 1 h
else
(if l6 = l1 then
f_X8_canLeave_147 k50 l0 l1 l3 l4 l5 l6 h
else
gR h l0 9 19 (fun x66 =>
ldZ h x66 l6 (fun x71 =>
(if x71 = 0 then
f_X8_canLeave_147 k50 l0 l1 l3 l4 l5 l6 h
else
gR h l0 9 1 (fun x76 =>
ldZ h x76 l4 (fun x81 =>
(if x81 = 0 then
f_X8_canLeave_98 k50 l0 l1 l3 l4 l5 l6 h
else
rcv h l0 9 (fun b89 => bd (f_X8_isSameWay b89 l6 l1 h) (fun x89 h =>
(if x89 = 0 then
f_X8_canLeave_147 k50 l0 l1 l3 l4 l5 l6 h
else
f_X8_canLeave_98 k50 l0 l1 l3 l4 l5 l6 h))))))))))))
set_option maxHeartbeats 4000000 in
set_option maxRecDepth 100000 in
theorem tb_X8_canLeave_50 (Z : ZZ p s m args c cX8_canLeave RX8 8 G) (hr : meth.sig.returnType = (some .boolean)) (hlk : meth.locks = false) (hin : meth.name = "canLeave") {v : Int32} {h1 : Hp} {k50 : Option Nat × Int32 × Int32 × Int32 × Int32 × Int32 × Hp → Option (Int32 × Hp)} (hk50 : ∀ u : Option Nat × Int32 × Int32 × Int32 × Int32 × Int32 × Hp, k50 u = some (v, h1) → ∀ (H : Heap) (locs : List Loc) (ls : Array Slot), Rep G u.2.2.2.2.2.2 H → va_S (AA G) s.heap H locs → LV ls 8 [(0, va_rf u.1), (1, .int u.2.1), (3, .int u.2.2.1), (4, .int u.2.2.2.1), (5, .int u.2.2.2.2.1), (6, .int u.2.2.2.2.2.1)] → W p l e rm_X8_canLeave s m args below meth c H locs 0 0 (MQ below (Qx G (some (.int v)) h1) args s 0 0 (AA G)) (F0 m 50 ls [])) : ∀ (l0 : Option Nat) (l1 : Int32) (l3 : Int32) (l4 : Int32) (l5 : Int32) (l6 : Int32) (h : Hp) (H : Heap) (locs : List Loc) (ls : Array Slot), fb_X8_canLeave_50 k50 l0 l1 l3 l4 l5 l6 h = some (v, h1) → Rep G h H → va_S (AA G) s.heap H locs → LV ls 8 [(0, va_rf l0), (1, .int l1), (3, .int l3), (4, .int l4), (5, .int l5), (6, .int l6)] → W p l e rm_X8_canLeave s m args below meth c H locs 0 0 (MQ below (Qx G (some (.int v)) h1) args s 0 0 (AA G)) (F0 m 50 ls []) := by
  intro l0 l1 l3 l4 l5 l6 h H locs ls hq hR hS hl
  have hx := Z.1
  have hb := Z.2.1
  unfold fb_X8_canLeave_50 at hq
  refine xil hx hb hl (x := l6) 5 rfl dX8_canLeave_50 ?_
  refine xaln hx hb hl (x := l0) 0 rfl dX8_canLeave_52 ?_
  refine xgI Z hR hq fl_X8_108 rfl dX8_canLeave_53 (fun x53 hq => ?_)
  refine xcGe hx hb hq (tgt := 153) dX8_canLeave_56 (by decide) (fun hq => ?_) (fun hq => ?_)
  · refine lv_iconst (v := 1) hx hb dX8_canLeave_153 (by decide) ?_
    exact xrZ hx hb hr hlk hR hS hq (by decide) (by decide) dX8_canLeave_154
  refine xil hx hb hl (x := l6) 5 rfl dX8_canLeave_59 ?_
  refine xiln hx hb hl (x := l1) 1 rfl dX8_canLeave_61 ?_
  refine xcEq hx hb hq (tgt := 147) dX8_canLeave_62 (by decide) (fun hq => ?_) (fun hq => ?_)
  · exact t_X8_canLeave_147 Z hr hlk hin hk50 l0 l1 l3 l4 l5 l6 h H locs ls hq hR hS (hl.sub [0, 1, 2, 3, 4, 5] rfl)
  refine xaln hx hb hl (x := l0) 0 rfl dX8_canLeave_65 ?_
  refine xgR Z hR hq fl_X8_60 rfl dX8_canLeave_66 (fun x66 hq => ?_)
  refine xil hx hb hl (x := l6) 5 rfl dX8_canLeave_69 ?_
  refine xaZ Z hR hq dX8_canLeave_71 (fun x71 hq => ?_)
  refine xzEq hx hb hq (tgt := 147) dX8_canLeave_72 (by decide) (fun hq => ?_) (fun hq => ?_)
  · exact t_X8_canLeave_147 Z hr hlk hin hk50 l0 l1 l3 l4 l5 l6 h H locs ls hq hR hS (hl.sub [0, 1, 2, 3, 4, 5] rfl)
  refine xaln hx hb hl (x := l0) 0 rfl dX8_canLeave_75 ?_
  refine xgR Z hR hq fl_X8_9 rfl dX8_canLeave_76 (fun x76 hq => ?_)
  refine xil hx hb hl (x := l4) 3 rfl dX8_canLeave_79 ?_
  refine xaZ Z hR hq dX8_canLeave_81 (fun x81 hq => ?_)
  refine xzEq hx hb hq (tgt := 98) dX8_canLeave_82 (by decide) (fun hq => ?_) (fun hq => ?_)
  · exact t_X8_canLeave_98 Z hr hlk hin hk50 l0 l1 l3 l4 l5 l6 h H locs ls hq hR hS (hl.sub [0, 1, 2, 3, 4, 5] rfl)
  refine xaln hx hb hl (x := l0) 0 rfl dX8_canLeave_85 ?_
  refine xil hx hb hl (x := l6) 5 rfl dX8_canLeave_86 ?_
  refine xiln hx hb hl (x := l1) 1 rfl dX8_canLeave_88 ?_
  refine xcV Z hR hS hl (rest := []) (As := [.int l6, .int l1]) hq cl_X8_141 (fun b x h1 hc => c_X8_isSameWay l b l6 l1 h x h1 hc) ⟨⟨rfl, rfl⟩, (by decide), (by decide)⟩ rfl rfl (by first | decide | (simp only [List.map_cons, List.map_nil, rf_cat, ct_int, ct_ref, List.sum_cons, List.sum_nil] <;> decide)) dX8_canLeave_89 (by decide) (fun x89 h H locs hq hR hS => ?_)
  refine xzNe hx hb hq (tgt := 98) dX8_canLeave_92 (by decide) (fun hq => ?_) (fun hq => ?_)
  · exact t_X8_canLeave_98 Z hr hlk hin hk50 l0 l1 l3 l4 l5 l6 h H locs ls hq hR hS (hl.sub [0, 1, 2, 3, 4, 5] rfl)
  refine lv_goto (tgt := 147) hx hb dX8_canLeave_95 (by decide) ?_
  exact t_X8_canLeave_147 Z hr hlk hin hk50 l0 l1 l3 l4 l5 l6 h H locs ls hq hR hS (hl.sub [0, 1, 2, 3, 4, 5] rfl)
def f_X8_canLeave_50  (l0 : Option Nat) (l1 : Int32) (l3 : Int32) (l4 : Int32) (l5 : Int32) (l6 : Int32) (h : Hp) : Option (Int32 × Hp) :=
  lp (fun (k50 : Option Nat × Int32 × Int32 × Int32 × Int32 × Int32 × Hp → Option (Int32 × Hp)) (u : Option Nat × Int32 × Int32 × Int32 × Int32 × Int32 × Hp) => fb_X8_canLeave_50 k50 u.1 u.2.1 u.2.2.1 u.2.2.2.1 u.2.2.2.2.1 u.2.2.2.2.2.1 u.2.2.2.2.2.2) FU (l0, l1, l3, l4, l5, l6, h)
theorem t_X8_canLeave_50 (Z : ZZ p s m args c cX8_canLeave RX8 8 G) (hr : meth.sig.returnType = (some .boolean)) (hlk : meth.locks = false) (hin : meth.name = "canLeave") {v : Int32} {h1 : Hp} : ∀ (l0 : Option Nat) (l1 : Int32) (l3 : Int32) (l4 : Int32) (l5 : Int32) (l6 : Int32) (h : Hp) (H : Heap) (locs : List Loc) (ls : Array Slot), f_X8_canLeave_50 l0 l1 l3 l4 l5 l6 h = some (v, h1) → Rep G h H → va_S (AA G) s.heap H locs → LV ls 8 [(0, va_rf l0), (1, .int l1), (3, .int l3), (4, .int l4), (5, .int l5), (6, .int l6)] → W p l e rm_X8_canLeave s m args below meth c H locs 0 0 (MQ below (Qx G (some (.int v)) h1) args s 0 0 (AA G)) (F0 m 50 ls []) := by
  intro l0 l1 l3 l4 l5 l6 h H locs ls hq hR hS hl
  exact lp_ind (P := fun u : Option Nat × Int32 × Int32 × Int32 × Int32 × Int32 × Hp => ∀ (H : Heap) (locs : List Loc) (ls : Array Slot), Rep G u.2.2.2.2.2.2 H → va_S (AA G) s.heap H locs → LV ls 8 [(0, va_rf u.1), (1, .int u.2.1), (3, .int u.2.2.1), (4, .int u.2.2.2.1), (5, .int u.2.2.2.2.1), (6, .int u.2.2.2.2.2.1)] → W p l e rm_X8_canLeave s m args below meth c H locs 0 0 (MQ below (Qx G (some (.int v)) h1) args s 0 0 (AA G)) (F0 m 50 ls [])) (fun k hk u hq H locs ls hR hS hl => tb_X8_canLeave_50 Z hr hlk hin hk u.1 u.2.1 u.2.2.1 u.2.2.2.1 u.2.2.2.2.1 u.2.2.2.2.2.1 u.2.2.2.2.2.2 H locs ls hq hR hS hl) FU (l0, l1, l3, l4, l5, l6, h) hq H locs ls hR hS hl
def fb_X8_canLeave_19  (k19 : Option Nat × Int32 × Int32 × Int32 × Int32 × Int32 × Hp → Option (Int32 × Hp)) (l0 : Option Nat) (l1 : Int32) (l3 : Int32) (l4 : Int32) (l5 : Int32) (l6 : Int32) (h : Hp) : Option (Int32 × Hp) :=
(if (l3 + l5) ≤ l6 then
f_X8_canLeave_50 l0 l1 l3 l4 l5 0 h
else
rcv h l0 9 (fun b33 => bd (f_X8_isClosed b33 l4 l6 h) (fun x33 h =>
(if x33 = 0 then
k19 (l0, l1, l3, l4, l5, (l6 + 1), h)
else
rtZ 0 h))))
set_option maxHeartbeats 4000000 in
set_option maxRecDepth 100000 in
theorem tb_X8_canLeave_19 (Z : ZZ p s m args c cX8_canLeave RX8 8 G) (hr : meth.sig.returnType = (some .boolean)) (hlk : meth.locks = false) (hin : meth.name = "canLeave") {v : Int32} {h1 : Hp} {k19 : Option Nat × Int32 × Int32 × Int32 × Int32 × Int32 × Hp → Option (Int32 × Hp)} (hk19 : ∀ u : Option Nat × Int32 × Int32 × Int32 × Int32 × Int32 × Hp, k19 u = some (v, h1) → ∀ (H : Heap) (locs : List Loc) (ls : Array Slot), Rep G u.2.2.2.2.2.2 H → va_S (AA G) s.heap H locs → LV ls 8 [(0, va_rf u.1), (1, .int u.2.1), (3, .int u.2.2.1), (4, .int u.2.2.2.1), (5, .int u.2.2.2.2.1), (6, .int u.2.2.2.2.2.1)] → W p l e rm_X8_canLeave s m args below meth c H locs 0 0 (MQ below (Qx G (some (.int v)) h1) args s 0 0 (AA G)) (F0 m 19 ls [])) : ∀ (l0 : Option Nat) (l1 : Int32) (l3 : Int32) (l4 : Int32) (l5 : Int32) (l6 : Int32) (h : Hp) (H : Heap) (locs : List Loc) (ls : Array Slot), fb_X8_canLeave_19 k19 l0 l1 l3 l4 l5 l6 h = some (v, h1) → Rep G h H → va_S (AA G) s.heap H locs → LV ls 8 [(0, va_rf l0), (1, .int l1), (3, .int l3), (4, .int l4), (5, .int l5), (6, .int l6)] → W p l e rm_X8_canLeave s m args below meth c H locs 0 0 (MQ below (Qx G (some (.int v)) h1) args s 0 0 (AA G)) (F0 m 19 ls []) := by
  intro l0 l1 l3 l4 l5 l6 h H locs ls hq hR hS hl
  have hx := Z.1
  have hb := Z.2.1
  unfold fb_X8_canLeave_19 at hq
  refine xil hx hb hl (x := l6) 5 rfl dX8_canLeave_19 ?_
  refine xiln hx hb hl (x := l3) 2 rfl dX8_canLeave_21 ?_
  refine xil hx hb hl (x := l5) 4 rfl dX8_canLeave_22 ?_
  refine lv_iadd hx hb dX8_canLeave_24 ?_
  refine xcGe hx hb hq (tgt := 47) dX8_canLeave_25 (by decide) (fun hq => ?_) (fun hq => ?_)
  · refine lv_iconst (v := 0) hx hb dX8_canLeave_47 (by decide) ?_
    refine xis hx hb hl (x := 0) (lv' := [(6, .int 0), (0, va_rf l0), (1, .int l1), (3, .int l3), (4, .int l4), (5, .int l5)]) (by decide) dX8_canLeave_48 rfl (fun ls hl => ?_)
    exact t_X8_canLeave_50 Z hr hlk hin l0 l1 l3 l4 l5 0 h H locs ls hq hR hS (hl.sub [1, 2, 3, 4, 5, 0] rfl)
  refine xaln hx hb hl (x := l0) 0 rfl dX8_canLeave_28 ?_
  refine xil hx hb hl (x := l4) 3 rfl dX8_canLeave_29 ?_
  refine xil hx hb hl (x := l6) 5 rfl dX8_canLeave_31 ?_
  refine xcV Z hR hS hl (rest := []) (As := [.int l4, .int l6]) hq cl_X8_137 (fun b x h1 hc => c_X8_isClosed l b l4 l6 h x h1 hc) ⟨⟨rfl, rfl⟩, (by decide), (by decide)⟩ rfl rfl (by first | decide | (simp only [List.map_cons, List.map_nil, rf_cat, ct_int, ct_ref, List.sum_cons, List.sum_nil] <;> decide)) dX8_canLeave_33 (by decide) (fun x33 h H locs hq hR hS => ?_)
  refine xzEq hx hb hq (tgt := 41) dX8_canLeave_36 (by decide) (fun hq => ?_) (fun hq => ?_)
  · refine xinc hx hb hl (x := l6) (v := (l6 + 1)) (lv' := [(6, .int (l6 + 1)), (0, va_rf l0), (1, .int l1), (3, .int l3), (4, .int l4), (5, .int l5)]) 5 rfl (by rw [show Int32.ofInt (1) = (1 : Int32) from by decide]) (by decide) dX8_canLeave_41 rfl (fun ls hl => ?_)
    refine lv_goto (tgt := 19) hx hb dX8_canLeave_44 (by decide) ?_
    exact hk19 (l0, l1, l3, l4, l5, (l6 + 1), h) hq H locs ls hR hS (hl.sub [1, 2, 3, 4, 5, 0] rfl)
  refine lv_iconst (v := 0) hx hb dX8_canLeave_39 (by decide) ?_
  exact xrZ hx hb hr hlk hR hS hq (by decide) (by decide) dX8_canLeave_40
def f_X8_canLeave_19  (l0 : Option Nat) (l1 : Int32) (l3 : Int32) (l4 : Int32) (l5 : Int32) (l6 : Int32) (h : Hp) : Option (Int32 × Hp) :=
  lp (fun (k19 : Option Nat × Int32 × Int32 × Int32 × Int32 × Int32 × Hp → Option (Int32 × Hp)) (u : Option Nat × Int32 × Int32 × Int32 × Int32 × Int32 × Hp) => fb_X8_canLeave_19 k19 u.1 u.2.1 u.2.2.1 u.2.2.2.1 u.2.2.2.2.1 u.2.2.2.2.2.1 u.2.2.2.2.2.2) FU (l0, l1, l3, l4, l5, l6, h)
theorem t_X8_canLeave_19 (Z : ZZ p s m args c cX8_canLeave RX8 8 G) (hr : meth.sig.returnType = (some .boolean)) (hlk : meth.locks = false) (hin : meth.name = "canLeave") {v : Int32} {h1 : Hp} : ∀ (l0 : Option Nat) (l1 : Int32) (l3 : Int32) (l4 : Int32) (l5 : Int32) (l6 : Int32) (h : Hp) (H : Heap) (locs : List Loc) (ls : Array Slot), f_X8_canLeave_19 l0 l1 l3 l4 l5 l6 h = some (v, h1) → Rep G h H → va_S (AA G) s.heap H locs → LV ls 8 [(0, va_rf l0), (1, .int l1), (3, .int l3), (4, .int l4), (5, .int l5), (6, .int l6)] → W p l e rm_X8_canLeave s m args below meth c H locs 0 0 (MQ below (Qx G (some (.int v)) h1) args s 0 0 (AA G)) (F0 m 19 ls []) := by
  intro l0 l1 l3 l4 l5 l6 h H locs ls hq hR hS hl
  exact lp_ind (P := fun u : Option Nat × Int32 × Int32 × Int32 × Int32 × Int32 × Hp => ∀ (H : Heap) (locs : List Loc) (ls : Array Slot), Rep G u.2.2.2.2.2.2 H → va_S (AA G) s.heap H locs → LV ls 8 [(0, va_rf u.1), (1, .int u.2.1), (3, .int u.2.2.1), (4, .int u.2.2.2.1), (5, .int u.2.2.2.2.1), (6, .int u.2.2.2.2.2.1)] → W p l e rm_X8_canLeave s m args below meth c H locs 0 0 (MQ below (Qx G (some (.int v)) h1) args s 0 0 (AA G)) (F0 m 19 ls [])) (fun k hk u hq H locs ls hR hS hl => tb_X8_canLeave_19 Z hr hlk hin hk u.1 u.2.1 u.2.2.1 u.2.2.2.1 u.2.2.2.2.1 u.2.2.2.2.2.1 u.2.2.2.2.2.2 H locs ls hq hR hS hl) FU (l0, l1, l3, l4, l5, l6, h) hq H locs ls hR hS hl
def f_X8_canLeave (this : Nat) (a0 : Int32) (a1 : Int32) (a2 : Int32) (h : Hp) : Option (Int32 × Hp) :=
rcv h (some this) 9 (fun b3 => bd (f_X8_sectionOf b3 a0 a1 h) (fun x3 h =>
rcv h (some this) 9 (fun b11 => bd (f_X8_longOf b11 a0 a1 h) (fun x11 h =>
f_X8_canLeave_19 (some this) a0 a2 x3 x11 a2 h))))
set_option maxHeartbeats 4000000 in
set_option maxRecDepth 100000 in
theorem c_X8_canLeave (l : Launch) {G : GG} (this : Nat) (a0 : Int32) (a1 : Int32) (a2 : Int32) (h : Hp) (v : Int32) (h1 : Hp) (hq : f_X8_canLeave this a0 a1 a2 h = some (v, h1)) : Met l yX8_canLeave (Cond.code yX8_canLeave cX8_canLeave 8 (some .boolean) :: GT) rm_X8_canLeave (va_Pc [.ref this, .int a0, .int a1, .int a2] (Cn G h)) (Qx G (some (.int v)) h1) 0 0 (AA G) := by
  refine xMet (cc := cX8_canLeave) (by decide) (Nat.le_of_ble_eq_true rfl) (List.forall_mem_cons.mpr ⟨rfl, (List.forall_mem_cons.mpr ⟨rfl, (List.forall_mem_cons.mpr ⟨rfl, (List.forall_mem_cons.mpr ⟨rfl, (fun _ z => by cases z)⟩)⟩)⟩)⟩) ?_
  intro p e s m below meth c ls Z hr hlk hin hR hS hl
  have hx := Z.1
  have hb := Z.2.1
  have hl : LV ls 8 [(0, va_rf (some this)), (1, .int a0), (2, .int a1), (3, .int a2)] := hl
  unfold f_X8_canLeave at hq
  refine xaln hx hb hl (x := (some this)) 0 rfl dX8_canLeave_0 ?_
  refine xiln hx hb hl (x := a0) 1 rfl dX8_canLeave_1 ?_
  refine xiln hx hb hl (x := a1) 2 rfl dX8_canLeave_2 ?_
  refine xcV Z hR hS hl (rest := []) (As := [.int a0, .int a1]) hq cl_X8_122 (fun b x h1 hc => c_X8_sectionOf l b a0 a1 h x h1 hc) ⟨⟨rfl, rfl⟩, (by decide), (by decide)⟩ rfl rfl (by first | decide | (simp only [List.map_cons, List.map_nil, rf_cat, ct_int, ct_ref, List.sum_cons, List.sum_nil] <;> decide)) dX8_canLeave_3 (by decide) (fun x3 h H locs hq hR hS => ?_)
  refine xis hx hb hl (x := x3) (lv' := [(4, .int x3), (0, va_rf (some this)), (1, .int a0), (2, .int a1), (3, .int a2)]) (by decide) dX8_canLeave_6 rfl (fun ls hl => ?_)
  refine xaln hx hb hl (x := (some this)) 1 rfl dX8_canLeave_8 ?_
  refine xiln hx hb hl (x := a0) 2 rfl dX8_canLeave_9 ?_
  refine xiln hx hb hl (x := a1) 3 rfl dX8_canLeave_10 ?_
  refine xcV Z hR hS hl (rest := []) (As := [.int a0, .int a1]) hq cl_X8_134 (fun b x h1 hc => c_X8_longOf l b a0 a1 h x h1 hc) ⟨⟨rfl, rfl⟩, (by decide), (by decide)⟩ rfl rfl (by first | decide | (simp only [List.map_cons, List.map_nil, rf_cat, ct_int, ct_ref, List.sum_cons, List.sum_nil] <;> decide)) dX8_canLeave_11 (by decide) (fun x11 h H locs hq hR hS => ?_)
  refine xis hx hb hl (x := x11) (lv' := [(5, .int x11), (4, .int x3), (0, va_rf (some this)), (1, .int a0), (2, .int a1), (3, .int a2)]) (by decide) dX8_canLeave_14 rfl (fun ls hl => ?_)
  refine xiln hx hb hl (x := a2) 5 rfl dX8_canLeave_16 ?_
  refine xis hx hb hl (x := a2) (lv' := [(6, .int a2), (5, .int x11), (4, .int x3), (0, va_rf (some this)), (1, .int a0), (2, .int a1), (3, .int a2)]) (by decide) dX8_canLeave_17 rfl (fun ls hl => ?_)
  exact t_X8_canLeave_19 Z hr hlk hin (some this) a0 a2 x3 x11 a2 h _ _ ls hq hR hS (hl.sub [3, 4, 6, 2, 1, 0] rfl)
abbrev rm_X8_comesTo : Room := { frames := 2, cells := 0, slots := 0, locals := 44 }
def f_X8_comesTo (this : Nat) (a0 : Int32) (a1 : Int32) (h : Hp) : Option (Int32 × Hp) :=
gR h (some this) 9 20 (fun x1 =>
ldI h x1 (((8 * a0) + a1) - 1) (fun x12 =>
rcv h (some this) 9 (fun b18 => bd (f_X8_longOf b18 a0 (a1 - 1) h) (fun x18 h =>
rtI (x12 + x18) h))))
set_option maxHeartbeats 4000000 in
set_option maxRecDepth 100000 in
theorem c_X8_comesTo (l : Launch) {G : GG} (this : Nat) (a0 : Int32) (a1 : Int32) (h : Hp) (v : Int32) (h1 : Hp) (hq : f_X8_comesTo this a0 a1 h = some (v, h1)) : Met l yX8_comesTo (Cond.code yX8_comesTo cX8_comesTo 3 (some .int) :: GT) rm_X8_comesTo (va_Pc [.ref this, .int a0, .int a1] (Cn G h)) (Qx G (some (.int v)) h1) 0 0 (AA G) := by
  refine xMet (cc := cX8_comesTo) (by decide) (Nat.le_of_ble_eq_true rfl) (List.forall_mem_cons.mpr ⟨rfl, (List.forall_mem_cons.mpr ⟨rfl, (List.forall_mem_cons.mpr ⟨rfl, (fun _ z => by cases z)⟩)⟩)⟩) ?_
  intro p e s m below meth c ls Z hr hlk hin hR hS hl
  have hx := Z.1
  have hb := Z.2.1
  have hl : LV ls 3 [(0, va_rf (some this)), (1, .int a0), (2, .int a1)] := hl
  unfold f_X8_comesTo at hq
  refine xaln hx hb hl (x := (some this)) 0 rfl dX8_comesTo_0 ?_
  refine xgR Z hR hq fl_X8_63 rfl dX8_comesTo_1 (fun x1 hq => ?_)
  refine lv_bipush (v := 8) hx hb dX8_comesTo_4 (by decide) ?_
  refine xiln hx hb hl (x := a0) 1 rfl dX8_comesTo_6 ?_
  refine lv_imul hx hb dX8_comesTo_7 ?_
  refine xiln hx hb hl (x := a1) 2 rfl dX8_comesTo_8 ?_
  refine lv_iadd hx hb dX8_comesTo_9 ?_
  refine lv_iconst (v := 1) hx hb dX8_comesTo_10 (by decide) ?_
  refine lv_isub hx hb dX8_comesTo_11 ?_
  refine xaI Z hR hq dX8_comesTo_12 (fun x12 hq => ?_)
  refine xaln hx hb hl (x := (some this)) 0 rfl dX8_comesTo_13 ?_
  refine xiln hx hb hl (x := a0) 1 rfl dX8_comesTo_14 ?_
  refine xiln hx hb hl (x := a1) 2 rfl dX8_comesTo_15 ?_
  refine lv_iconst (v := 1) hx hb dX8_comesTo_16 (by decide) ?_
  refine lv_isub hx hb dX8_comesTo_17 ?_
  refine xcV Z hR hS hl (rest := [.int x12]) (As := [.int a0, .int (a1 - 1)]) hq cl_X8_134 (fun b x h1 hc => c_X8_longOf l b a0 (a1 - 1) h x h1 hc) ⟨⟨rfl, rfl⟩, (by decide), (by decide)⟩ rfl rfl (by first | decide | (simp only [List.map_cons, List.map_nil, rf_cat, ct_int, ct_ref, List.sum_cons, List.sum_nil] <;> decide)) dX8_comesTo_18 (by decide) (fun x18 h H locs hq hR hS => ?_)
  refine lv_iadd hx hb dX8_comesTo_21 ?_
  exact xrI hx hb hr hlk hR hS hq (by decide) (by decide) dX8_comesTo_22
abbrev rm_X8_isStanding : Room := { frames := 3, cells := 0, slots := 0, locals := 66 }
def f_X8_isStanding_54  (k3 : Option Nat × Int32 × Int32 × Int32 × Int32 × Hp → Option (Int32 × Hp)) (l0 : Option Nat) (l1 : Int32) (l2 : Int32) (l3 : Int32) (l4 : Int32) (h : Hp) : Option (Int32 × Hp) :=
k3 (l0, l1, l2, l3, (l4 + 1), h)
set_option maxHeartbeats 4000000 in
set_option maxRecDepth 100000 in
theorem t_X8_isStanding_54 (Z : ZZ p s m args c cX8_isStanding RX8 5 G) (hr : meth.sig.returnType = (some .boolean)) (hlk : meth.locks = false) (hin : meth.name = "isStanding") {v : Int32} {h1 : Hp} {k3 : Option Nat × Int32 × Int32 × Int32 × Int32 × Hp → Option (Int32 × Hp)} (hk3 : ∀ u : Option Nat × Int32 × Int32 × Int32 × Int32 × Hp, k3 u = some (v, h1) → ∀ (H : Heap) (locs : List Loc) (ls : Array Slot), Rep G u.2.2.2.2.2 H → va_S (AA G) s.heap H locs → LV ls 5 [(0, va_rf u.1), (1, .int u.2.1), (2, .int u.2.2.1), (3, .int u.2.2.2.1), (4, .int u.2.2.2.2.1)] → W p l e rm_X8_isStanding s m args below meth c H locs 0 0 (MQ below (Qx G (some (.int v)) h1) args s 0 0 (AA G)) (F0 m 3 ls [])) : ∀ (l0 : Option Nat) (l1 : Int32) (l2 : Int32) (l3 : Int32) (l4 : Int32) (h : Hp) (H : Heap) (locs : List Loc) (ls : Array Slot), f_X8_isStanding_54 k3 l0 l1 l2 l3 l4 h = some (v, h1) → Rep G h H → va_S (AA G) s.heap H locs → LV ls 5 [(0, va_rf l0), (1, .int l1), (2, .int l2), (3, .int l3), (4, .int l4)] → W p l e rm_X8_isStanding s m args below meth c H locs 0 0 (MQ below (Qx G (some (.int v)) h1) args s 0 0 (AA G)) (F0 m 54 ls []) := by
  intro l0 l1 l2 l3 l4 h H locs ls hq hR hS hl
  have hx := Z.1
  have hb := Z.2.1
  unfold f_X8_isStanding_54 at hq
  refine xinc hx hb hl (x := l4) (v := (l4 + 1)) (lv' := [(4, .int (l4 + 1)), (0, va_rf l0), (1, .int l1), (2, .int l2), (3, .int l3)]) 4 rfl (by rw [show Int32.ofInt (1) = (1 : Int32) from by decide]) (by decide) dX8_isStanding_54 rfl (fun ls hl => ?_)
  refine lv_goto (tgt := 3) hx hb dX8_isStanding_57 (by decide) ?_
  exact hk3 (l0, l1, l2, l3, (l4 + 1), h) hq H locs ls hR hS (hl.sub [1, 2, 3, 4, 0] rfl)
def fb_X8_isStanding_3  (k3 : Option Nat × Int32 × Int32 × Int32 × Int32 × Hp → Option (Int32 × Hp)) (l0 : Option Nat) (l1 : Int32) (l2 : Int32) (l3 : Int32) (l4 : Int32) (h : Hp) : Option (Int32 × Hp) :=
rcv h l0 9 (fun b7 => bd (f_X8_legs b7 l1 h) (fun x7 h =>
(if x7 ≤ l4 then
rtZ 0 h
else
rcv h l0 9 (fun b17 => bd (f_X8_stationOf b17 l1 l4 h) (fun x17 h =>
(if x17 = l2 then
rcv h l0 9 (fun b29 => bd (f_X8_comesTo b29 l1 l4 h) (fun x29 h =>
gR h l0 9 20 (fun x33 =>
ldI h x33 ((8 * l1) + l4) (fun x43 =>
bd (f_X8_in l3 x29 (x43 - 1) h) (fun x46 h =>
(if x46 = 0 then
f_X8_isStanding_54 k3 l0 l1 l2 l3 l4 h
else
rtZ 1 h))))))
else
f_X8_isStanding_54 k3 l0 l1 l2 l3 l4 h))))))
set_option maxHeartbeats 4000000 in
set_option maxRecDepth 100000 in
theorem tb_X8_isStanding_3 (Z : ZZ p s m args c cX8_isStanding RX8 5 G) (hr : meth.sig.returnType = (some .boolean)) (hlk : meth.locks = false) (hin : meth.name = "isStanding") {v : Int32} {h1 : Hp} {k3 : Option Nat × Int32 × Int32 × Int32 × Int32 × Hp → Option (Int32 × Hp)} (hk3 : ∀ u : Option Nat × Int32 × Int32 × Int32 × Int32 × Hp, k3 u = some (v, h1) → ∀ (H : Heap) (locs : List Loc) (ls : Array Slot), Rep G u.2.2.2.2.2 H → va_S (AA G) s.heap H locs → LV ls 5 [(0, va_rf u.1), (1, .int u.2.1), (2, .int u.2.2.1), (3, .int u.2.2.2.1), (4, .int u.2.2.2.2.1)] → W p l e rm_X8_isStanding s m args below meth c H locs 0 0 (MQ below (Qx G (some (.int v)) h1) args s 0 0 (AA G)) (F0 m 3 ls [])) : ∀ (l0 : Option Nat) (l1 : Int32) (l2 : Int32) (l3 : Int32) (l4 : Int32) (h : Hp) (H : Heap) (locs : List Loc) (ls : Array Slot), fb_X8_isStanding_3 k3 l0 l1 l2 l3 l4 h = some (v, h1) → Rep G h H → va_S (AA G) s.heap H locs → LV ls 5 [(0, va_rf l0), (1, .int l1), (2, .int l2), (3, .int l3), (4, .int l4)] → W p l e rm_X8_isStanding s m args below meth c H locs 0 0 (MQ below (Qx G (some (.int v)) h1) args s 0 0 (AA G)) (F0 m 3 ls []) := by
  intro l0 l1 l2 l3 l4 h H locs ls hq hR hS hl
  have hx := Z.1
  have hb := Z.2.1
  unfold fb_X8_isStanding_3 at hq
  refine xil hx hb hl (x := l4) 4 rfl dX8_isStanding_3 ?_
  refine xaln hx hb hl (x := l0) 0 rfl dX8_isStanding_5 ?_
  refine xiln hx hb hl (x := l1) 1 rfl dX8_isStanding_6 ?_
  refine xcV Z hR hS hl (rest := [.int l4]) (As := [.int l1]) hq cl_X8_126 (fun b x h1 hc => c_X8_legs l b l1 h x h1 hc) ⟨⟨rfl, rfl⟩, (by decide), (by decide)⟩ rfl rfl (by first | decide | (simp only [List.map_cons, List.map_nil, rf_cat, ct_int, ct_ref, List.sum_cons, List.sum_nil] <;> decide)) dX8_isStanding_7 (by decide) (fun x7 h H locs hq hR hS => ?_)
  refine xcGe hx hb hq (tgt := 60) dX8_isStanding_10 (by decide) (fun hq => ?_) (fun hq => ?_)
  · refine lv_iconst (v := 0) hx hb dX8_isStanding_60 (by decide) ?_
    exact xrZ hx hb hr hlk hR hS hq (by decide) (by decide) dX8_isStanding_61
  refine xaln hx hb hl (x := l0) 0 rfl dX8_isStanding_13 ?_
  refine xiln hx hb hl (x := l1) 1 rfl dX8_isStanding_14 ?_
  refine xil hx hb hl (x := l4) 4 rfl dX8_isStanding_15 ?_
  refine xcV Z hR hS hl (rest := []) (As := [.int l1, .int l4]) hq cl_X8_151 (fun b x h1 hc => c_X8_stationOf l b l1 l4 h x h1 hc) ⟨⟨rfl, rfl⟩, (by decide), (by decide)⟩ rfl rfl (by first | decide | (simp only [List.map_cons, List.map_nil, rf_cat, ct_int, ct_ref, List.sum_cons, List.sum_nil] <;> decide)) dX8_isStanding_17 (by decide) (fun x17 h H locs hq hR hS => ?_)
  refine xiln hx hb hl (x := l2) 2 rfl dX8_isStanding_20 ?_
  refine xcNe hx hb hq (tgt := 54) dX8_isStanding_21 (by decide) (fun hq => ?_) (fun hq => ?_)
  · exact t_X8_isStanding_54 Z hr hlk hin hk3 l0 l1 l2 l3 l4 h H locs ls hq hR hS (hl.sub [0, 1, 2, 3, 4] rfl)
  refine xiln hx hb hl (x := l3) 3 rfl dX8_isStanding_24 ?_
  refine xaln hx hb hl (x := l0) 0 rfl dX8_isStanding_25 ?_
  refine xiln hx hb hl (x := l1) 1 rfl dX8_isStanding_26 ?_
  refine xil hx hb hl (x := l4) 4 rfl dX8_isStanding_27 ?_
  refine xcV Z hR hS hl (rest := [.int l3]) (As := [.int l1, .int l4]) hq cl_X8_154 (fun b x h1 hc => c_X8_comesTo l b l1 l4 h x h1 hc) ⟨⟨rfl, rfl⟩, (by decide), (by decide)⟩ rfl rfl (by first | decide | (simp only [List.map_cons, List.map_nil, rf_cat, ct_int, ct_ref, List.sum_cons, List.sum_nil] <;> decide)) dX8_isStanding_29 (by decide) (fun x29 h H locs hq hR hS => ?_)
  refine xaln hx hb hl (x := l0) 0 rfl dX8_isStanding_32 ?_
  refine xgR Z hR hq fl_X8_63 rfl dX8_isStanding_33 (fun x33 hq => ?_)
  refine lv_bipush (v := 8) hx hb dX8_isStanding_36 (by decide) ?_
  refine xiln hx hb hl (x := l1) 1 rfl dX8_isStanding_38 ?_
  refine lv_imul hx hb dX8_isStanding_39 ?_
  refine xil hx hb hl (x := l4) 4 rfl dX8_isStanding_40 ?_
  refine lv_iadd hx hb dX8_isStanding_42 ?_
  refine xaI Z hR hq dX8_isStanding_43 (fun x43 hq => ?_)
  refine lv_iconst (v := 1) hx hb dX8_isStanding_44 (by decide) ?_
  refine lv_isub hx hb dX8_isStanding_45 ?_
  refine xcS Z hR hS hl (rest := []) (As := [.int l3, .int x29, .int (x43 - 1)]) hq cl_X8_111 (fun x h1 hc => c_X8_in l l3 x29 (x43 - 1) h x h1 hc) ⟨⟨rfl, rfl⟩, (by decide), (by decide)⟩ rfl rfl (by first | decide | (simp only [List.map_cons, List.map_nil, rf_cat, ct_int, ct_ref, List.sum_cons, List.sum_nil] <;> decide)) dX8_isStanding_46 (by decide) (fun x46 h H locs hq hR hS => ?_)
  refine xzEq hx hb hq (tgt := 54) dX8_isStanding_49 (by decide) (fun hq => ?_) (fun hq => ?_)
  · exact t_X8_isStanding_54 Z hr hlk hin hk3 l0 l1 l2 l3 l4 h H locs ls hq hR hS (hl.sub [0, 1, 2, 3, 4] rfl)
  refine lv_iconst (v := 1) hx hb dX8_isStanding_52 (by decide) ?_
  exact xrZ hx hb hr hlk hR hS hq (by decide) (by decide) dX8_isStanding_53
def f_X8_isStanding_3  (l0 : Option Nat) (l1 : Int32) (l2 : Int32) (l3 : Int32) (l4 : Int32) (h : Hp) : Option (Int32 × Hp) :=
  lp (fun (k3 : Option Nat × Int32 × Int32 × Int32 × Int32 × Hp → Option (Int32 × Hp)) (u : Option Nat × Int32 × Int32 × Int32 × Int32 × Hp) => fb_X8_isStanding_3 k3 u.1 u.2.1 u.2.2.1 u.2.2.2.1 u.2.2.2.2.1 u.2.2.2.2.2) FU (l0, l1, l2, l3, l4, h)
theorem t_X8_isStanding_3 (Z : ZZ p s m args c cX8_isStanding RX8 5 G) (hr : meth.sig.returnType = (some .boolean)) (hlk : meth.locks = false) (hin : meth.name = "isStanding") {v : Int32} {h1 : Hp} : ∀ (l0 : Option Nat) (l1 : Int32) (l2 : Int32) (l3 : Int32) (l4 : Int32) (h : Hp) (H : Heap) (locs : List Loc) (ls : Array Slot), f_X8_isStanding_3 l0 l1 l2 l3 l4 h = some (v, h1) → Rep G h H → va_S (AA G) s.heap H locs → LV ls 5 [(0, va_rf l0), (1, .int l1), (2, .int l2), (3, .int l3), (4, .int l4)] → W p l e rm_X8_isStanding s m args below meth c H locs 0 0 (MQ below (Qx G (some (.int v)) h1) args s 0 0 (AA G)) (F0 m 3 ls []) := by
  intro l0 l1 l2 l3 l4 h H locs ls hq hR hS hl
  exact lp_ind (P := fun u : Option Nat × Int32 × Int32 × Int32 × Int32 × Hp => ∀ (H : Heap) (locs : List Loc) (ls : Array Slot), Rep G u.2.2.2.2.2 H → va_S (AA G) s.heap H locs → LV ls 5 [(0, va_rf u.1), (1, .int u.2.1), (2, .int u.2.2.1), (3, .int u.2.2.2.1), (4, .int u.2.2.2.2.1)] → W p l e rm_X8_isStanding s m args below meth c H locs 0 0 (MQ below (Qx G (some (.int v)) h1) args s 0 0 (AA G)) (F0 m 3 ls [])) (fun k hk u hq H locs ls hR hS hl => tb_X8_isStanding_3 Z hr hlk hin hk u.1 u.2.1 u.2.2.1 u.2.2.2.1 u.2.2.2.2.1 u.2.2.2.2.2 H locs ls hq hR hS hl) FU (l0, l1, l2, l3, l4, h) hq H locs ls hR hS hl
def f_X8_isStanding (this : Nat) (a0 : Int32) (a1 : Int32) (a2 : Int32) (h : Hp) : Option (Int32 × Hp) :=
f_X8_isStanding_3 (some this) a0 a1 a2 1 h
set_option maxHeartbeats 4000000 in
set_option maxRecDepth 100000 in
theorem c_X8_isStanding (l : Launch) {G : GG} (this : Nat) (a0 : Int32) (a1 : Int32) (a2 : Int32) (h : Hp) (v : Int32) (h1 : Hp) (hq : f_X8_isStanding this a0 a1 a2 h = some (v, h1)) : Met l yX8_isStanding (Cond.code yX8_isStanding cX8_isStanding 5 (some .boolean) :: GT) rm_X8_isStanding (va_Pc [.ref this, .int a0, .int a1, .int a2] (Cn G h)) (Qx G (some (.int v)) h1) 0 0 (AA G) := by
  refine xMet (cc := cX8_isStanding) (by decide) (Nat.le_of_ble_eq_true rfl) (List.forall_mem_cons.mpr ⟨rfl, (List.forall_mem_cons.mpr ⟨rfl, (List.forall_mem_cons.mpr ⟨rfl, (List.forall_mem_cons.mpr ⟨rfl, (fun _ z => by cases z)⟩)⟩)⟩)⟩) ?_
  intro p e s m below meth c ls Z hr hlk hin hR hS hl
  have hx := Z.1
  have hb := Z.2.1
  have hl : LV ls 5 [(0, va_rf (some this)), (1, .int a0), (2, .int a1), (3, .int a2)] := hl
  unfold f_X8_isStanding at hq
  refine lv_iconst (v := 1) hx hb dX8_isStanding_0 (by decide) ?_
  refine xis hx hb hl (x := 1) (lv' := [(4, .int 1), (0, va_rf (some this)), (1, .int a0), (2, .int a1), (3, .int a2)]) (by decide) dX8_isStanding_1 rfl (fun ls hl => ?_)
  exact t_X8_isStanding_3 Z hr hlk hin (some this) a0 a1 a2 1 h _ _ ls hq hR hS (hl.sub [1, 2, 3, 4, 0] rfl)
abbrev rm_X8_canStand : Room := { frames := 4, cells := 0, slots := 0, locals := 90 }
def f_X8_canStand_49  (k6 : Option Nat × Int32 × Int32 × Int32 × Int32 × Int32 × Hp → Option (Int32 × Hp)) (s0 : Int32) (s1 : Int32) (l0 : Option Nat) (l1 : Int32) (l2 : Int32) (l3 : Int32) (l5 : Int32) (h : Hp) : Option (Int32 × Hp) :=
k6 (l0, l1, l2, l3, (s0 + s1), (l5 + 1), h)
set_option maxHeartbeats 4000000 in
set_option maxRecDepth 100000 in
theorem t_X8_canStand_49 (Z : ZZ p s m args c cX8_canStand RX8 6 G) (hr : meth.sig.returnType = (some .boolean)) (hlk : meth.locks = false) (hin : meth.name = "canStand") {v : Int32} {h1 : Hp} {k6 : Option Nat × Int32 × Int32 × Int32 × Int32 × Int32 × Hp → Option (Int32 × Hp)} (hk6 : ∀ u : Option Nat × Int32 × Int32 × Int32 × Int32 × Int32 × Hp, k6 u = some (v, h1) → ∀ (H : Heap) (locs : List Loc) (ls : Array Slot), Rep G u.2.2.2.2.2.2 H → va_S (AA G) s.heap H locs → LV ls 6 [(0, va_rf u.1), (1, .int u.2.1), (2, .int u.2.2.1), (3, .int u.2.2.2.1), (4, .int u.2.2.2.2.1), (5, .int u.2.2.2.2.2.1)] → W p l e rm_X8_canStand s m args below meth c H locs 0 0 (MQ below (Qx G (some (.int v)) h1) args s 0 0 (AA G)) (F0 m 6 ls [])) : ∀ (s0 : Int32) (s1 : Int32) (l0 : Option Nat) (l1 : Int32) (l2 : Int32) (l3 : Int32) (l5 : Int32) (h : Hp) (H : Heap) (locs : List Loc) (ls : Array Slot), f_X8_canStand_49 k6 s0 s1 l0 l1 l2 l3 l5 h = some (v, h1) → Rep G h H → va_S (AA G) s.heap H locs → LV ls 6 [(0, va_rf l0), (1, .int l1), (2, .int l2), (3, .int l3), (5, .int l5)] → W p l e rm_X8_canStand s m args below meth c H locs 0 0 (MQ below (Qx G (some (.int v)) h1) args s 0 0 (AA G)) (F0 m 49 ls [.int s1, .int s0]) := by
  intro s0 s1 l0 l1 l2 l3 l5 h H locs ls hq hR hS hl
  have hx := Z.1
  have hb := Z.2.1
  unfold f_X8_canStand_49 at hq
  refine lv_iadd hx hb dX8_canStand_49 ?_
  refine xis hx hb hl (x := (s0 + s1)) (lv' := [(4, .int (s0 + s1)), (0, va_rf l0), (1, .int l1), (2, .int l2), (3, .int l3), (5, .int l5)]) (by decide) dX8_canStand_50 rfl (fun ls hl => ?_)
  refine xinc hx hb hl (x := l5) (v := (l5 + 1)) (lv' := [(5, .int (l5 + 1)), (4, .int (s0 + s1)), (0, va_rf l0), (1, .int l1), (2, .int l2), (3, .int l3)]) 5 rfl (by rw [show Int32.ofInt (1) = (1 : Int32) from by decide]) (by decide) dX8_canStand_52 rfl (fun ls hl => ?_)
  refine lv_goto (tgt := 6) hx hb dX8_canStand_55 (by decide) ?_
  exact hk6 (l0, l1, l2, l3, (s0 + s1), (l5 + 1), h) hq H locs ls hR hS (hl.sub [2, 3, 4, 5, 1, 0] rfl)
def f_X8_canStand_48  (k6 : Option Nat × Int32 × Int32 × Int32 × Int32 × Int32 × Hp → Option (Int32 × Hp)) (s0 : Int32) (l0 : Option Nat) (l1 : Int32) (l2 : Int32) (l3 : Int32) (l5 : Int32) (h : Hp) : Option (Int32 × Hp) :=
f_X8_canStand_49 k6 s0 0 l0 l1 l2 l3 l5 h
set_option maxHeartbeats 4000000 in
set_option maxRecDepth 100000 in
theorem t_X8_canStand_48 (Z : ZZ p s m args c cX8_canStand RX8 6 G) (hr : meth.sig.returnType = (some .boolean)) (hlk : meth.locks = false) (hin : meth.name = "canStand") {v : Int32} {h1 : Hp} {k6 : Option Nat × Int32 × Int32 × Int32 × Int32 × Int32 × Hp → Option (Int32 × Hp)} (hk6 : ∀ u : Option Nat × Int32 × Int32 × Int32 × Int32 × Int32 × Hp, k6 u = some (v, h1) → ∀ (H : Heap) (locs : List Loc) (ls : Array Slot), Rep G u.2.2.2.2.2.2 H → va_S (AA G) s.heap H locs → LV ls 6 [(0, va_rf u.1), (1, .int u.2.1), (2, .int u.2.2.1), (3, .int u.2.2.2.1), (4, .int u.2.2.2.2.1), (5, .int u.2.2.2.2.2.1)] → W p l e rm_X8_canStand s m args below meth c H locs 0 0 (MQ below (Qx G (some (.int v)) h1) args s 0 0 (AA G)) (F0 m 6 ls [])) : ∀ (s0 : Int32) (l0 : Option Nat) (l1 : Int32) (l2 : Int32) (l3 : Int32) (l5 : Int32) (h : Hp) (H : Heap) (locs : List Loc) (ls : Array Slot), f_X8_canStand_48 k6 s0 l0 l1 l2 l3 l5 h = some (v, h1) → Rep G h H → va_S (AA G) s.heap H locs → LV ls 6 [(0, va_rf l0), (1, .int l1), (2, .int l2), (3, .int l3), (5, .int l5)] → W p l e rm_X8_canStand s m args below meth c H locs 0 0 (MQ below (Qx G (some (.int v)) h1) args s 0 0 (AA G)) (F0 m 48 ls [.int s0]) := by
  intro s0 l0 l1 l2 l3 l5 h H locs ls hq hR hS hl
  have hx := Z.1
  have hb := Z.2.1
  unfold f_X8_canStand_48 at hq
  refine lv_iconst (v := 0) hx hb dX8_canStand_48 (by decide) ?_
  exact t_X8_canStand_49 Z hr hlk hin hk6 s0 0 l0 l1 l2 l3 l5 h H locs ls hq hR hS (hl.sub [0, 1, 2, 3, 4] rfl)
def f_X8_canStand_74  (s0 : Int32) (h : Hp) : Option (Int32 × Hp) :=
rtZ s0 h
set_option maxHeartbeats 4000000 in
set_option maxRecDepth 100000 in
theorem t_X8_canStand_74 (Z : ZZ p s m args c cX8_canStand RX8 6 G) (hr : meth.sig.returnType = (some .boolean)) (hlk : meth.locks = false) (hin : meth.name = "canStand") {v : Int32} {h1 : Hp} : ∀ (s0 : Int32) (h : Hp) (H : Heap) (locs : List Loc) (ls : Array Slot), f_X8_canStand_74 s0 h = some (v, h1) → Rep G h H → va_S (AA G) s.heap H locs → LV ls 6 [] → W p l e rm_X8_canStand s m args below meth c H locs 0 0 (MQ below (Qx G (some (.int v)) h1) args s 0 0 (AA G)) (F0 m 74 ls [.int s0]) := by
  intro s0 h H locs ls hq hR hS hl
  have hx := Z.1
  have hb := Z.2.1
  unfold f_X8_canStand_74 at hq
  exact xrZ hx hb hr hlk hR hS hq (by decide) (by decide) dX8_canStand_74
def fb_X8_canStand_6  (k6 : Option Nat × Int32 × Int32 × Int32 × Int32 × Int32 × Hp → Option (Int32 × Hp)) (l0 : Option Nat) (l1 : Int32) (l2 : Int32) (l3 : Int32) (l4 : Int32) (l5 : Int32) (h : Hp) : Option (Int32 × Hp) :=
gI h l0 9 9 (fun x9 =>
(if x9 ≤ l5 then
gR h l0 9 3 (fun x61 =>
ldI h x61 l2 (fun x65 =>
(if x65 < l4 then
f_X8_canStand_74 0 h
else
f_X8_canStand_74 1 h)))
else
(if l5 = l1 then
f_X8_canStand_48 k6 l4 l0 l1 l2 l3 l5 h
else
gR h l0 9 19 (fun x24 =>
ldZ h x24 l5 (fun x29 =>
(if x29 = 0 then
f_X8_canStand_48 k6 l4 l0 l1 l2 l3 l5 h
else
rcv h l0 9 (fun b38 => bd (f_X8_isStanding b38 l5 l2 l3 h) (fun x38 h =>
(if x38 = 0 then
f_X8_canStand_48 k6 l4 l0 l1 l2 l3 l5 h
else
f_X8_canStand_49 k6 l4 1 l0 l1 l2 l3 l5 h)))))))))
set_option maxHeartbeats 4000000 in
set_option maxRecDepth 100000 in
theorem tb_X8_canStand_6 (Z : ZZ p s m args c cX8_canStand RX8 6 G) (hr : meth.sig.returnType = (some .boolean)) (hlk : meth.locks = false) (hin : meth.name = "canStand") {v : Int32} {h1 : Hp} {k6 : Option Nat × Int32 × Int32 × Int32 × Int32 × Int32 × Hp → Option (Int32 × Hp)} (hk6 : ∀ u : Option Nat × Int32 × Int32 × Int32 × Int32 × Int32 × Hp, k6 u = some (v, h1) → ∀ (H : Heap) (locs : List Loc) (ls : Array Slot), Rep G u.2.2.2.2.2.2 H → va_S (AA G) s.heap H locs → LV ls 6 [(0, va_rf u.1), (1, .int u.2.1), (2, .int u.2.2.1), (3, .int u.2.2.2.1), (4, .int u.2.2.2.2.1), (5, .int u.2.2.2.2.2.1)] → W p l e rm_X8_canStand s m args below meth c H locs 0 0 (MQ below (Qx G (some (.int v)) h1) args s 0 0 (AA G)) (F0 m 6 ls [])) : ∀ (l0 : Option Nat) (l1 : Int32) (l2 : Int32) (l3 : Int32) (l4 : Int32) (l5 : Int32) (h : Hp) (H : Heap) (locs : List Loc) (ls : Array Slot), fb_X8_canStand_6 k6 l0 l1 l2 l3 l4 l5 h = some (v, h1) → Rep G h H → va_S (AA G) s.heap H locs → LV ls 6 [(0, va_rf l0), (1, .int l1), (2, .int l2), (3, .int l3), (4, .int l4), (5, .int l5)] → W p l e rm_X8_canStand s m args below meth c H locs 0 0 (MQ below (Qx G (some (.int v)) h1) args s 0 0 (AA G)) (F0 m 6 ls []) := by
  intro l0 l1 l2 l3 l4 l5 h H locs ls hq hR hS hl
  have hx := Z.1
  have hb := Z.2.1
  unfold fb_X8_canStand_6 at hq
  refine xil hx hb hl (x := l5) 5 rfl dX8_canStand_6 ?_
  refine xaln hx hb hl (x := l0) 0 rfl dX8_canStand_8 ?_
  refine xgI Z hR hq fl_X8_108 rfl dX8_canStand_9 (fun x9 hq => ?_)
  refine xcGe hx hb hq (tgt := 58) dX8_canStand_12 (by decide) (fun hq => ?_) (fun hq => ?_)
  · refine xil hx hb hl (x := l4) 4 rfl dX8_canStand_58 ?_
    refine xaln hx hb hl (x := l0) 0 rfl dX8_canStand_60 ?_
    refine xgR Z hR hq fl_X8_17 rfl dX8_canStand_61 (fun x61 hq => ?_)
    refine xiln hx hb hl (x := l2) 2 rfl dX8_canStand_64 ?_
    refine xaI Z hR hq dX8_canStand_65 (fun x65 hq => ?_)
    refine xcGt hx hb hq (tgt := 73) dX8_canStand_66 (by decide) (fun hq => ?_) (fun hq => ?_)
    · refine lv_iconst (v := 0) hx hb dX8_canStand_73 (by decide) ?_
      exact t_X8_canStand_74 Z hr hlk hin 0 h H locs ls hq hR hS (hl.sub [] rfl)
    refine lv_iconst (v := 1) hx hb dX8_canStand_69 (by decide) ?_
    refine lv_goto (tgt := 74) hx hb dX8_canStand_70 (by decide) ?_
    exact t_X8_canStand_74 Z hr hlk hin 1 h H locs ls hq hR hS (hl.sub [] rfl)
  refine xil hx hb hl (x := l4) 4 rfl dX8_canStand_15 ?_
  refine xil hx hb hl (x := l5) 5 rfl dX8_canStand_17 ?_
  refine xiln hx hb hl (x := l1) 1 rfl dX8_canStand_19 ?_
  refine xcEq hx hb hq (tgt := 48) dX8_canStand_20 (by decide) (fun hq => ?_) (fun hq => ?_)
  · exact t_X8_canStand_48 Z hr hlk hin hk6 l4 l0 l1 l2 l3 l5 h H locs ls hq hR hS (hl.sub [0, 1, 2, 3, 5] rfl)
  refine xaln hx hb hl (x := l0) 0 rfl dX8_canStand_23 ?_
  refine xgR Z hR hq fl_X8_60 rfl dX8_canStand_24 (fun x24 hq => ?_)
  refine xil hx hb hl (x := l5) 5 rfl dX8_canStand_27 ?_
  refine xaZ Z hR hq dX8_canStand_29 (fun x29 hq => ?_)
  refine xzEq hx hb hq (tgt := 48) dX8_canStand_30 (by decide) (fun hq => ?_) (fun hq => ?_)
  · exact t_X8_canStand_48 Z hr hlk hin hk6 l4 l0 l1 l2 l3 l5 h H locs ls hq hR hS (hl.sub [0, 1, 2, 3, 5] rfl)
  refine xaln hx hb hl (x := l0) 0 rfl dX8_canStand_33 ?_
  refine xil hx hb hl (x := l5) 5 rfl dX8_canStand_34 ?_
  refine xiln hx hb hl (x := l2) 2 rfl dX8_canStand_36 ?_
  refine xiln hx hb hl (x := l3) 3 rfl dX8_canStand_37 ?_
  refine xcV Z hR hS hl (rest := [.int l4]) (As := [.int l5, .int l2, .int l3]) hq cl_X8_157 (fun b x h1 hc => c_X8_isStanding l b l5 l2 l3 h x h1 hc) ⟨⟨rfl, rfl⟩, (by decide), (by decide)⟩ rfl rfl (by first | decide | (simp only [List.map_cons, List.map_nil, rf_cat, ct_int, ct_ref, List.sum_cons, List.sum_nil] <;> decide)) dX8_canStand_38 (by decide) (fun x38 h H locs hq hR hS => ?_)
  refine xzEq hx hb hq (tgt := 48) dX8_canStand_41 (by decide) (fun hq => ?_) (fun hq => ?_)
  · exact t_X8_canStand_48 Z hr hlk hin hk6 l4 l0 l1 l2 l3 l5 h H locs ls hq hR hS (hl.sub [0, 1, 2, 3, 5] rfl)
  refine lv_iconst (v := 1) hx hb dX8_canStand_44 (by decide) ?_
  refine lv_goto (tgt := 49) hx hb dX8_canStand_45 (by decide) ?_
  exact t_X8_canStand_49 Z hr hlk hin hk6 l4 1 l0 l1 l2 l3 l5 h H locs ls hq hR hS (hl.sub [0, 1, 2, 3, 5] rfl)
def f_X8_canStand_6  (l0 : Option Nat) (l1 : Int32) (l2 : Int32) (l3 : Int32) (l4 : Int32) (l5 : Int32) (h : Hp) : Option (Int32 × Hp) :=
  lp (fun (k6 : Option Nat × Int32 × Int32 × Int32 × Int32 × Int32 × Hp → Option (Int32 × Hp)) (u : Option Nat × Int32 × Int32 × Int32 × Int32 × Int32 × Hp) => fb_X8_canStand_6 k6 u.1 u.2.1 u.2.2.1 u.2.2.2.1 u.2.2.2.2.1 u.2.2.2.2.2.1 u.2.2.2.2.2.2) FU (l0, l1, l2, l3, l4, l5, h)
theorem t_X8_canStand_6 (Z : ZZ p s m args c cX8_canStand RX8 6 G) (hr : meth.sig.returnType = (some .boolean)) (hlk : meth.locks = false) (hin : meth.name = "canStand") {v : Int32} {h1 : Hp} : ∀ (l0 : Option Nat) (l1 : Int32) (l2 : Int32) (l3 : Int32) (l4 : Int32) (l5 : Int32) (h : Hp) (H : Heap) (locs : List Loc) (ls : Array Slot), f_X8_canStand_6 l0 l1 l2 l3 l4 l5 h = some (v, h1) → Rep G h H → va_S (AA G) s.heap H locs → LV ls 6 [(0, va_rf l0), (1, .int l1), (2, .int l2), (3, .int l3), (4, .int l4), (5, .int l5)] → W p l e rm_X8_canStand s m args below meth c H locs 0 0 (MQ below (Qx G (some (.int v)) h1) args s 0 0 (AA G)) (F0 m 6 ls []) := by
  intro l0 l1 l2 l3 l4 l5 h H locs ls hq hR hS hl
  exact lp_ind (P := fun u : Option Nat × Int32 × Int32 × Int32 × Int32 × Int32 × Hp => ∀ (H : Heap) (locs : List Loc) (ls : Array Slot), Rep G u.2.2.2.2.2.2 H → va_S (AA G) s.heap H locs → LV ls 6 [(0, va_rf u.1), (1, .int u.2.1), (2, .int u.2.2.1), (3, .int u.2.2.2.1), (4, .int u.2.2.2.2.1), (5, .int u.2.2.2.2.2.1)] → W p l e rm_X8_canStand s m args below meth c H locs 0 0 (MQ below (Qx G (some (.int v)) h1) args s 0 0 (AA G)) (F0 m 6 ls [])) (fun k hk u hq H locs ls hR hS hl => tb_X8_canStand_6 Z hr hlk hin hk u.1 u.2.1 u.2.2.1 u.2.2.2.1 u.2.2.2.2.1 u.2.2.2.2.2.1 u.2.2.2.2.2.2 H locs ls hq hR hS hl) FU (l0, l1, l2, l3, l4, l5, h) hq H locs ls hR hS hl
def f_X8_canStand (this : Nat) (a0 : Int32) (a1 : Int32) (a2 : Int32) (h : Hp) : Option (Int32 × Hp) :=
f_X8_canStand_6 (some this) a0 a1 a2 1 0 h
set_option maxHeartbeats 4000000 in
set_option maxRecDepth 100000 in
theorem c_X8_canStand (l : Launch) {G : GG} (this : Nat) (a0 : Int32) (a1 : Int32) (a2 : Int32) (h : Hp) (v : Int32) (h1 : Hp) (hq : f_X8_canStand this a0 a1 a2 h = some (v, h1)) : Met l yX8_canStand (Cond.code yX8_canStand cX8_canStand 6 (some .boolean) :: GT) rm_X8_canStand (va_Pc [.ref this, .int a0, .int a1, .int a2] (Cn G h)) (Qx G (some (.int v)) h1) 0 0 (AA G) := by
  refine xMet (cc := cX8_canStand) (by decide) (Nat.le_of_ble_eq_true rfl) (List.forall_mem_cons.mpr ⟨rfl, (List.forall_mem_cons.mpr ⟨rfl, (List.forall_mem_cons.mpr ⟨rfl, (List.forall_mem_cons.mpr ⟨rfl, (fun _ z => by cases z)⟩)⟩)⟩)⟩) ?_
  intro p e s m below meth c ls Z hr hlk hin hR hS hl
  have hx := Z.1
  have hb := Z.2.1
  have hl : LV ls 6 [(0, va_rf (some this)), (1, .int a0), (2, .int a1), (3, .int a2)] := hl
  unfold f_X8_canStand at hq
  refine lv_iconst (v := 1) hx hb dX8_canStand_0 (by decide) ?_
  refine xis hx hb hl (x := 1) (lv' := [(4, .int 1), (0, va_rf (some this)), (1, .int a0), (2, .int a1), (3, .int a2)]) (by decide) dX8_canStand_1 rfl (fun ls hl => ?_)
  refine lv_iconst (v := 0) hx hb dX8_canStand_3 (by decide) ?_
  refine xis hx hb hl (x := 0) (lv' := [(5, .int 0), (4, .int 1), (0, va_rf (some this)), (1, .int a0), (2, .int a1), (3, .int a2)]) (by decide) dX8_canStand_4 rfl (fun ls hl => ?_)
  exact t_X8_canStand_6 Z hr hlk hin (some this) a0 a1 a2 1 0 h _ _ ls hq hR hS (hl.sub [2, 3, 4, 5, 1, 0] rfl)
abbrev rm_X8_seeks : Room := { frames := 5, cells := 0, slots := 0, locals := 115 }
def f_X8_seeks_171  (k30 : Option Nat × Int32 × Int32 × Int32 × Hp → Option (Int32 × Hp)) (k41 : Option Nat × Int32 × Int32 × Int32 × Int32 × Int32 × Hp → Option (Int32 × Hp)) (l0 : Option Nat) (l1 : Int32) (l2 : Int32) (l3 : Int32) (l4 : Int32) (l5 : Int32) (h : Hp) : Option (Int32 × Hp) :=
k41 (l0, l1, l2, l3, l4, (l5 + 1), h)
set_option maxHeartbeats 4000000 in
set_option maxRecDepth 100000 in
theorem t_X8_seeks_171 (Z : ZZ p s m args c cX8_seeks RX8 7 G) (hr : meth.sig.returnType = (some .boolean)) (hlk : meth.locks = false) (hin : meth.name = "seeks") {v : Int32} {h1 : Hp} {k30 : Option Nat × Int32 × Int32 × Int32 × Hp → Option (Int32 × Hp)} (hk30 : ∀ u : Option Nat × Int32 × Int32 × Int32 × Hp, k30 u = some (v, h1) → ∀ (H : Heap) (locs : List Loc) (ls : Array Slot), Rep G u.2.2.2.2 H → va_S (AA G) s.heap H locs → LV ls 7 [(0, va_rf u.1), (1, .int u.2.1), (2, .int u.2.2.1), (3, .int u.2.2.2.1)] → W p l e rm_X8_seeks s m args below meth c H locs 0 0 (MQ below (Qx G (some (.int v)) h1) args s 0 0 (AA G)) (F0 m 30 ls [])) {k41 : Option Nat × Int32 × Int32 × Int32 × Int32 × Int32 × Hp → Option (Int32 × Hp)} (hk41 : ∀ u : Option Nat × Int32 × Int32 × Int32 × Int32 × Int32 × Hp, k41 u = some (v, h1) → ∀ (H : Heap) (locs : List Loc) (ls : Array Slot), Rep G u.2.2.2.2.2.2 H → va_S (AA G) s.heap H locs → LV ls 7 [(0, va_rf u.1), (1, .int u.2.1), (2, .int u.2.2.1), (3, .int u.2.2.2.1), (4, .int u.2.2.2.2.1), (5, .int u.2.2.2.2.2.1)] → W p l e rm_X8_seeks s m args below meth c H locs 0 0 (MQ below (Qx G (some (.int v)) h1) args s 0 0 (AA G)) (F0 m 41 ls [])) : ∀ (l0 : Option Nat) (l1 : Int32) (l2 : Int32) (l3 : Int32) (l4 : Int32) (l5 : Int32) (h : Hp) (H : Heap) (locs : List Loc) (ls : Array Slot), f_X8_seeks_171 k30 k41 l0 l1 l2 l3 l4 l5 h = some (v, h1) → Rep G h H → va_S (AA G) s.heap H locs → LV ls 7 [(0, va_rf l0), (1, .int l1), (2, .int l2), (3, .int l3), (4, .int l4), (5, .int l5)] → W p l e rm_X8_seeks s m args below meth c H locs 0 0 (MQ below (Qx G (some (.int v)) h1) args s 0 0 (AA G)) (F0 m 171 ls []) := by
  intro l0 l1 l2 l3 l4 l5 h H locs ls hq hR hS hl
  have hx := Z.1
  have hb := Z.2.1
  unfold f_X8_seeks_171 at hq
  refine xinc hx hb hl (x := l5) (v := (l5 + 1)) (lv' := [(5, .int (l5 + 1)), (0, va_rf l0), (1, .int l1), (2, .int l2), (3, .int l3), (4, .int l4)]) 5 rfl (by rw [show Int32.ofInt (1) = (1 : Int32) from by decide]) (by decide) dX8_seeks_171 rfl (fun ls hl => ?_)
  refine lv_goto (tgt := 41) hx hb dX8_seeks_174 (by decide) ?_
  exact hk41 (l0, l1, l2, l3, l4, (l5 + 1), h) hq H locs ls hR hS (hl.sub [1, 2, 3, 4, 5, 0] rfl)
def f_X8_seeks_120  (k30 : Option Nat × Int32 × Int32 × Int32 × Hp → Option (Int32 × Hp)) (k41 : Option Nat × Int32 × Int32 × Int32 × Int32 × Int32 × Hp → Option (Int32 × Hp)) (l0 : Option Nat) (l1 : Int32) (l2 : Int32) (l3 : Int32) (l4 : Int32) (l5 : Int32) (h : Hp) : Option (Int32 × Hp) :=
rcv h l0 9 (fun b125 => bd (f_X8_longOf b125 l1 l3 h) (fun x125 h =>
(if l4 = 0 then
f_X8_seeks_171 k30 k41 l0 l1 l2 l3 l4 l5 h
else
(if 240 ≤ (l5 + x125) then
f_X8_seeks_171 k30 k41 l0 l1 l2 l3 l4 l5 h
else
rcv h l0 9 (fun b149 => bd (f_X8_canLeave b149 l1 l3 l5 h) (fun x149 h =>
(if x149 = 0 then
f_X8_seeks_171 k30 k41 l0 l1 l2 l3 l4 l5 h
else
gR h l0 9 22 (fun x156 =>
stZ h x156 ((240 * (l3 + 1)) + (l5 + x125)) 1 (fun h =>
f_X8_seeks_171 k30 k41 l0 l1 l2 l3 l4 l5 h)))))))))
set_option maxHeartbeats 4000000 in
set_option maxRecDepth 100000 in
theorem t_X8_seeks_120 (Z : ZZ p s m args c cX8_seeks RX8 7 G) (hr : meth.sig.returnType = (some .boolean)) (hlk : meth.locks = false) (hin : meth.name = "seeks") {v : Int32} {h1 : Hp} {k30 : Option Nat × Int32 × Int32 × Int32 × Hp → Option (Int32 × Hp)} (hk30 : ∀ u : Option Nat × Int32 × Int32 × Int32 × Hp, k30 u = some (v, h1) → ∀ (H : Heap) (locs : List Loc) (ls : Array Slot), Rep G u.2.2.2.2 H → va_S (AA G) s.heap H locs → LV ls 7 [(0, va_rf u.1), (1, .int u.2.1), (2, .int u.2.2.1), (3, .int u.2.2.2.1)] → W p l e rm_X8_seeks s m args below meth c H locs 0 0 (MQ below (Qx G (some (.int v)) h1) args s 0 0 (AA G)) (F0 m 30 ls [])) {k41 : Option Nat × Int32 × Int32 × Int32 × Int32 × Int32 × Hp → Option (Int32 × Hp)} (hk41 : ∀ u : Option Nat × Int32 × Int32 × Int32 × Int32 × Int32 × Hp, k41 u = some (v, h1) → ∀ (H : Heap) (locs : List Loc) (ls : Array Slot), Rep G u.2.2.2.2.2.2 H → va_S (AA G) s.heap H locs → LV ls 7 [(0, va_rf u.1), (1, .int u.2.1), (2, .int u.2.2.1), (3, .int u.2.2.2.1), (4, .int u.2.2.2.2.1), (5, .int u.2.2.2.2.2.1)] → W p l e rm_X8_seeks s m args below meth c H locs 0 0 (MQ below (Qx G (some (.int v)) h1) args s 0 0 (AA G)) (F0 m 41 ls [])) : ∀ (l0 : Option Nat) (l1 : Int32) (l2 : Int32) (l3 : Int32) (l4 : Int32) (l5 : Int32) (h : Hp) (H : Heap) (locs : List Loc) (ls : Array Slot), f_X8_seeks_120 k30 k41 l0 l1 l2 l3 l4 l5 h = some (v, h1) → Rep G h H → va_S (AA G) s.heap H locs → LV ls 7 [(0, va_rf l0), (1, .int l1), (2, .int l2), (3, .int l3), (4, .int l4), (5, .int l5)] → W p l e rm_X8_seeks s m args below meth c H locs 0 0 (MQ below (Qx G (some (.int v)) h1) args s 0 0 (AA G)) (F0 m 120 ls []) := by
  intro l0 l1 l2 l3 l4 l5 h H locs ls hq hR hS hl
  have hx := Z.1
  have hb := Z.2.1
  unfold f_X8_seeks_120 at hq
  refine xil hx hb hl (x := l5) 5 rfl dX8_seeks_120 ?_
  refine xaln hx hb hl (x := l0) 0 rfl dX8_seeks_122 ?_
  refine xiln hx hb hl (x := l1) 1 rfl dX8_seeks_123 ?_
  refine xiln hx hb hl (x := l3) 3 rfl dX8_seeks_124 ?_
  refine xcV Z hR hS hl (rest := [.int l5]) (As := [.int l1, .int l3]) hq cl_X8_134 (fun b x h1 hc => c_X8_longOf l b l1 l3 h x h1 hc) ⟨⟨rfl, rfl⟩, (by decide), (by decide)⟩ rfl rfl (by first | decide | (simp only [List.map_cons, List.map_nil, rf_cat, ct_int, ct_ref, List.sum_cons, List.sum_nil] <;> decide)) dX8_seeks_125 (by decide) (fun x125 h H locs hq hR hS => ?_)
  refine lv_iadd hx hb dX8_seeks_128 ?_
  refine xis hx hb hl (x := (l5 + x125)) (lv' := [(6, .int (l5 + x125)), (0, va_rf l0), (1, .int l1), (2, .int l2), (3, .int l3), (4, .int l4), (5, .int l5)]) (by decide) dX8_seeks_129 rfl (fun ls hl => ?_)
  refine xil hx hb hl (x := l4) 5 rfl dX8_seeks_131 ?_
  refine xzEq hx hb hq (tgt := 171) dX8_seeks_133 (by decide) (fun hq => ?_) (fun hq => ?_)
  · exact t_X8_seeks_171 Z hr hlk hin hk30 hk41 l0 l1 l2 l3 l4 l5 h H locs ls hq hR hS (hl.sub [1, 2, 3, 4, 5, 6] rfl)
  refine xil hx hb hl (x := (l5 + x125)) 0 rfl dX8_seeks_136 ?_
  refine lv_sipush (v := 240) hx hb dX8_seeks_138 (by decide) ?_
  refine xcGe hx hb hq (tgt := 171) dX8_seeks_141 (by decide) (fun hq => ?_) (fun hq => ?_)
  · exact t_X8_seeks_171 Z hr hlk hin hk30 hk41 l0 l1 l2 l3 l4 l5 h H locs ls hq hR hS (hl.sub [1, 2, 3, 4, 5, 6] rfl)
  refine xaln hx hb hl (x := l0) 1 rfl dX8_seeks_144 ?_
  refine xiln hx hb hl (x := l1) 2 rfl dX8_seeks_145 ?_
  refine xiln hx hb hl (x := l3) 4 rfl dX8_seeks_146 ?_
  refine xil hx hb hl (x := l5) 6 rfl dX8_seeks_147 ?_
  refine xcV Z hR hS hl (rest := []) (As := [.int l1, .int l3, .int l5]) hq cl_X8_163 (fun b x h1 hc => c_X8_canLeave l b l1 l3 l5 h x h1 hc) ⟨⟨rfl, rfl⟩, (by decide), (by decide)⟩ rfl rfl (by first | decide | (simp only [List.map_cons, List.map_nil, rf_cat, ct_int, ct_ref, List.sum_cons, List.sum_nil] <;> decide)) dX8_seeks_149 (by decide) (fun x149 h H locs hq hR hS => ?_)
  refine xzEq hx hb hq (tgt := 171) dX8_seeks_152 (by decide) (fun hq => ?_) (fun hq => ?_)
  · exact t_X8_seeks_171 Z hr hlk hin hk30 hk41 l0 l1 l2 l3 l4 l5 h H locs ls hq hR hS (hl.sub [1, 2, 3, 4, 5, 6] rfl)
  refine xaln hx hb hl (x := l0) 1 rfl dX8_seeks_155 ?_
  refine xgR Z hR hq fl_X8_69 rfl dX8_seeks_156 (fun x156 hq => ?_)
  refine lv_sipush (v := 240) hx hb dX8_seeks_159 (by decide) ?_
  refine xiln hx hb hl (x := l3) 4 rfl dX8_seeks_162 ?_
  refine lv_iconst (v := 1) hx hb dX8_seeks_163 (by decide) ?_
  refine lv_iadd hx hb dX8_seeks_164 ?_
  refine lv_imul hx hb dX8_seeks_165 ?_
  refine xil hx hb hl (x := (l5 + x125)) 0 rfl dX8_seeks_166 ?_
  refine lv_iadd hx hb dX8_seeks_168 ?_
  refine lv_iconst (v := 1) hx hb dX8_seeks_169 (by decide) ?_
  refine xsZ Z hR hS hq dX8_seeks_170 (fun h H locs hq hR hS => ?_)
  exact t_X8_seeks_171 Z hr hlk hin hk30 hk41 l0 l1 l2 l3 l4 l5 h H locs ls hq hR hS (hl.sub [1, 2, 3, 4, 5, 6] rfl)
def f_X8_seeks_69  (k30 : Option Nat × Int32 × Int32 × Int32 × Hp → Option (Int32 × Hp)) (k41 : Option Nat × Int32 × Int32 × Int32 × Int32 × Int32 × Hp → Option (Int32 × Hp)) (s0 : Int32) (l0 : Option Nat) (l1 : Int32) (l2 : Int32) (l3 : Int32) (l5 : Int32) (h : Hp) : Option (Int32 × Hp) :=
f_X8_seeks_120 k30 k41 l0 l1 l2 l3 s0 l5 h
set_option maxHeartbeats 4000000 in
set_option maxRecDepth 100000 in
theorem t_X8_seeks_69 (Z : ZZ p s m args c cX8_seeks RX8 7 G) (hr : meth.sig.returnType = (some .boolean)) (hlk : meth.locks = false) (hin : meth.name = "seeks") {v : Int32} {h1 : Hp} {k30 : Option Nat × Int32 × Int32 × Int32 × Hp → Option (Int32 × Hp)} (hk30 : ∀ u : Option Nat × Int32 × Int32 × Int32 × Hp, k30 u = some (v, h1) → ∀ (H : Heap) (locs : List Loc) (ls : Array Slot), Rep G u.2.2.2.2 H → va_S (AA G) s.heap H locs → LV ls 7 [(0, va_rf u.1), (1, .int u.2.1), (2, .int u.2.2.1), (3, .int u.2.2.2.1)] → W p l e rm_X8_seeks s m args below meth c H locs 0 0 (MQ below (Qx G (some (.int v)) h1) args s 0 0 (AA G)) (F0 m 30 ls [])) {k41 : Option Nat × Int32 × Int32 × Int32 × Int32 × Int32 × Hp → Option (Int32 × Hp)} (hk41 : ∀ u : Option Nat × Int32 × Int32 × Int32 × Int32 × Int32 × Hp, k41 u = some (v, h1) → ∀ (H : Heap) (locs : List Loc) (ls : Array Slot), Rep G u.2.2.2.2.2.2 H → va_S (AA G) s.heap H locs → LV ls 7 [(0, va_rf u.1), (1, .int u.2.1), (2, .int u.2.2.1), (3, .int u.2.2.2.1), (4, .int u.2.2.2.2.1), (5, .int u.2.2.2.2.2.1)] → W p l e rm_X8_seeks s m args below meth c H locs 0 0 (MQ below (Qx G (some (.int v)) h1) args s 0 0 (AA G)) (F0 m 41 ls [])) : ∀ (s0 : Int32) (l0 : Option Nat) (l1 : Int32) (l2 : Int32) (l3 : Int32) (l5 : Int32) (h : Hp) (H : Heap) (locs : List Loc) (ls : Array Slot), f_X8_seeks_69 k30 k41 s0 l0 l1 l2 l3 l5 h = some (v, h1) → Rep G h H → va_S (AA G) s.heap H locs → LV ls 7 [(0, va_rf l0), (1, .int l1), (2, .int l2), (3, .int l3), (5, .int l5)] → W p l e rm_X8_seeks s m args below meth c H locs 0 0 (MQ below (Qx G (some (.int v)) h1) args s 0 0 (AA G)) (F0 m 69 ls [.int s0]) := by
  intro s0 l0 l1 l2 l3 l5 h H locs ls hq hR hS hl
  have hx := Z.1
  have hb := Z.2.1
  unfold f_X8_seeks_69 at hq
  refine xis hx hb hl (x := s0) (lv' := [(4, .int s0), (0, va_rf l0), (1, .int l1), (2, .int l2), (3, .int l3), (5, .int l5)]) (by decide) dX8_seeks_69 rfl (fun ls hl => ?_)
  refine lv_goto (tgt := 120) hx hb dX8_seeks_71 (by decide) ?_
  exact t_X8_seeks_120 Z hr hlk hin hk30 hk41 l0 l1 l2 l3 s0 l5 h H locs ls hq hR hS (hl.sub [1, 2, 3, 4, 0, 5] rfl)
def f_X8_seeks_118  (k30 : Option Nat × Int32 × Int32 × Int32 × Hp → Option (Int32 × Hp)) (k41 : Option Nat × Int32 × Int32 × Int32 × Int32 × Int32 × Hp → Option (Int32 × Hp)) (s0 : Int32) (l0 : Option Nat) (l1 : Int32) (l2 : Int32) (l3 : Int32) (l5 : Int32) (h : Hp) : Option (Int32 × Hp) :=
f_X8_seeks_120 k30 k41 l0 l1 l2 l3 s0 l5 h
set_option maxHeartbeats 4000000 in
set_option maxRecDepth 100000 in
theorem t_X8_seeks_118 (Z : ZZ p s m args c cX8_seeks RX8 7 G) (hr : meth.sig.returnType = (some .boolean)) (hlk : meth.locks = false) (hin : meth.name = "seeks") {v : Int32} {h1 : Hp} {k30 : Option Nat × Int32 × Int32 × Int32 × Hp → Option (Int32 × Hp)} (hk30 : ∀ u : Option Nat × Int32 × Int32 × Int32 × Hp, k30 u = some (v, h1) → ∀ (H : Heap) (locs : List Loc) (ls : Array Slot), Rep G u.2.2.2.2 H → va_S (AA G) s.heap H locs → LV ls 7 [(0, va_rf u.1), (1, .int u.2.1), (2, .int u.2.2.1), (3, .int u.2.2.2.1)] → W p l e rm_X8_seeks s m args below meth c H locs 0 0 (MQ below (Qx G (some (.int v)) h1) args s 0 0 (AA G)) (F0 m 30 ls [])) {k41 : Option Nat × Int32 × Int32 × Int32 × Int32 × Int32 × Hp → Option (Int32 × Hp)} (hk41 : ∀ u : Option Nat × Int32 × Int32 × Int32 × Int32 × Int32 × Hp, k41 u = some (v, h1) → ∀ (H : Heap) (locs : List Loc) (ls : Array Slot), Rep G u.2.2.2.2.2.2 H → va_S (AA G) s.heap H locs → LV ls 7 [(0, va_rf u.1), (1, .int u.2.1), (2, .int u.2.2.1), (3, .int u.2.2.2.1), (4, .int u.2.2.2.2.1), (5, .int u.2.2.2.2.2.1)] → W p l e rm_X8_seeks s m args below meth c H locs 0 0 (MQ below (Qx G (some (.int v)) h1) args s 0 0 (AA G)) (F0 m 41 ls [])) : ∀ (s0 : Int32) (l0 : Option Nat) (l1 : Int32) (l2 : Int32) (l3 : Int32) (l5 : Int32) (h : Hp) (H : Heap) (locs : List Loc) (ls : Array Slot), f_X8_seeks_118 k30 k41 s0 l0 l1 l2 l3 l5 h = some (v, h1) → Rep G h H → va_S (AA G) s.heap H locs → LV ls 7 [(0, va_rf l0), (1, .int l1), (2, .int l2), (3, .int l3), (5, .int l5)] → W p l e rm_X8_seeks s m args below meth c H locs 0 0 (MQ below (Qx G (some (.int v)) h1) args s 0 0 (AA G)) (F0 m 118 ls [.int s0]) := by
  intro s0 l0 l1 l2 l3 l5 h H locs ls hq hR hS hl
  have hx := Z.1
  have hb := Z.2.1
  unfold f_X8_seeks_118 at hq
  refine xis hx hb hl (x := s0) (lv' := [(4, .int s0), (0, va_rf l0), (1, .int l1), (2, .int l2), (3, .int l3), (5, .int l5)]) (by decide) dX8_seeks_118 rfl (fun ls hl => ?_)
  exact t_X8_seeks_120 Z hr hlk hin hk30 hk41 l0 l1 l2 l3 s0 l5 h H locs ls hq hR hS (hl.sub [1, 2, 3, 4, 0, 5] rfl)
def f_X8_seeks_113  (k30 : Option Nat × Int32 × Int32 × Int32 × Hp → Option (Int32 × Hp)) (k41 : Option Nat × Int32 × Int32 × Int32 × Int32 × Int32 × Hp → Option (Int32 × Hp)) (l0 : Option Nat) (l1 : Int32) (l2 : Int32) (l3 : Int32) (l5 : Int32) (h : Hp) : Option (Int32 × Hp) :=
f_X8_seeks_118 k30 k41 1 l0 l1 l2 l3 l5 h
set_option maxHeartbeats 4000000 in
set_option maxRecDepth 100000 in
theorem t_X8_seeks_113 (Z : ZZ p s m args c cX8_seeks RX8 7 G) (hr : meth.sig.returnType = (some .boolean)) (hlk : meth.locks = false) (hin : meth.name = "seeks") {v : Int32} {h1 : Hp} {k30 : Option Nat × Int32 × Int32 × Int32 × Hp → Option (Int32 × Hp)} (hk30 : ∀ u : Option Nat × Int32 × Int32 × Int32 × Hp, k30 u = some (v, h1) → ∀ (H : Heap) (locs : List Loc) (ls : Array Slot), Rep G u.2.2.2.2 H → va_S (AA G) s.heap H locs → LV ls 7 [(0, va_rf u.1), (1, .int u.2.1), (2, .int u.2.2.1), (3, .int u.2.2.2.1)] → W p l e rm_X8_seeks s m args below meth c H locs 0 0 (MQ below (Qx G (some (.int v)) h1) args s 0 0 (AA G)) (F0 m 30 ls [])) {k41 : Option Nat × Int32 × Int32 × Int32 × Int32 × Int32 × Hp → Option (Int32 × Hp)} (hk41 : ∀ u : Option Nat × Int32 × Int32 × Int32 × Int32 × Int32 × Hp, k41 u = some (v, h1) → ∀ (H : Heap) (locs : List Loc) (ls : Array Slot), Rep G u.2.2.2.2.2.2 H → va_S (AA G) s.heap H locs → LV ls 7 [(0, va_rf u.1), (1, .int u.2.1), (2, .int u.2.2.1), (3, .int u.2.2.2.1), (4, .int u.2.2.2.2.1), (5, .int u.2.2.2.2.2.1)] → W p l e rm_X8_seeks s m args below meth c H locs 0 0 (MQ below (Qx G (some (.int v)) h1) args s 0 0 (AA G)) (F0 m 41 ls [])) : ∀ (l0 : Option Nat) (l1 : Int32) (l2 : Int32) (l3 : Int32) (l5 : Int32) (h : Hp) (H : Heap) (locs : List Loc) (ls : Array Slot), f_X8_seeks_113 k30 k41 l0 l1 l2 l3 l5 h = some (v, h1) → Rep G h H → va_S (AA G) s.heap H locs → LV ls 7 [(0, va_rf l0), (1, .int l1), (2, .int l2), (3, .int l3), (5, .int l5)] → W p l e rm_X8_seeks s m args below meth c H locs 0 0 (MQ below (Qx G (some (.int v)) h1) args s 0 0 (AA G)) (F0 m 113 ls []) := by
  intro l0 l1 l2 l3 l5 h H locs ls hq hR hS hl
  have hx := Z.1
  have hb := Z.2.1
  unfold f_X8_seeks_113 at hq
  refine lv_iconst (v := 1) hx hb dX8_seeks_113 (by decide) ?_
  refine lv_goto (tgt := 118) hx hb dX8_seeks_114 (by decide) ?_
  exact t_X8_seeks_118 Z hr hlk hin hk30 hk41 1 l0 l1 l2 l3 l5 h H locs ls hq hR hS (hl.sub [0, 1, 2, 3, 4] rfl)
def f_X8_seeks_117  (k30 : Option Nat × Int32 × Int32 × Int32 × Hp → Option (Int32 × Hp)) (k41 : Option Nat × Int32 × Int32 × Int32 × Int32 × Int32 × Hp → Option (Int32 × Hp)) (l0 : Option Nat) (l1 : Int32) (l2 : Int32) (l3 : Int32) (l5 : Int32) (h : Hp) : Option (Int32 × Hp) :=
f_X8_seeks_118 k30 k41 0 l0 l1 l2 l3 l5 h
set_option maxHeartbeats 4000000 in
set_option maxRecDepth 100000 in
theorem t_X8_seeks_117 (Z : ZZ p s m args c cX8_seeks RX8 7 G) (hr : meth.sig.returnType = (some .boolean)) (hlk : meth.locks = false) (hin : meth.name = "seeks") {v : Int32} {h1 : Hp} {k30 : Option Nat × Int32 × Int32 × Int32 × Hp → Option (Int32 × Hp)} (hk30 : ∀ u : Option Nat × Int32 × Int32 × Int32 × Hp, k30 u = some (v, h1) → ∀ (H : Heap) (locs : List Loc) (ls : Array Slot), Rep G u.2.2.2.2 H → va_S (AA G) s.heap H locs → LV ls 7 [(0, va_rf u.1), (1, .int u.2.1), (2, .int u.2.2.1), (3, .int u.2.2.2.1)] → W p l e rm_X8_seeks s m args below meth c H locs 0 0 (MQ below (Qx G (some (.int v)) h1) args s 0 0 (AA G)) (F0 m 30 ls [])) {k41 : Option Nat × Int32 × Int32 × Int32 × Int32 × Int32 × Hp → Option (Int32 × Hp)} (hk41 : ∀ u : Option Nat × Int32 × Int32 × Int32 × Int32 × Int32 × Hp, k41 u = some (v, h1) → ∀ (H : Heap) (locs : List Loc) (ls : Array Slot), Rep G u.2.2.2.2.2.2 H → va_S (AA G) s.heap H locs → LV ls 7 [(0, va_rf u.1), (1, .int u.2.1), (2, .int u.2.2.1), (3, .int u.2.2.2.1), (4, .int u.2.2.2.2.1), (5, .int u.2.2.2.2.2.1)] → W p l e rm_X8_seeks s m args below meth c H locs 0 0 (MQ below (Qx G (some (.int v)) h1) args s 0 0 (AA G)) (F0 m 41 ls [])) : ∀ (l0 : Option Nat) (l1 : Int32) (l2 : Int32) (l3 : Int32) (l5 : Int32) (h : Hp) (H : Heap) (locs : List Loc) (ls : Array Slot), f_X8_seeks_117 k30 k41 l0 l1 l2 l3 l5 h = some (v, h1) → Rep G h H → va_S (AA G) s.heap H locs → LV ls 7 [(0, va_rf l0), (1, .int l1), (2, .int l2), (3, .int l3), (5, .int l5)] → W p l e rm_X8_seeks s m args below meth c H locs 0 0 (MQ below (Qx G (some (.int v)) h1) args s 0 0 (AA G)) (F0 m 117 ls []) := by
  intro l0 l1 l2 l3 l5 h H locs ls hq hR hS hl
  have hx := Z.1
  have hb := Z.2.1
  unfold f_X8_seeks_117 at hq
  refine lv_iconst (v := 0) hx hb dX8_seeks_117 (by decide) ?_
  exact t_X8_seeks_118 Z hr hlk hin hk30 hk41 0 l0 l1 l2 l3 l5 h H locs ls hq hR hS (hl.sub [0, 1, 2, 3, 4] rfl)
def fb_X8_seeks_41  (k30 : Option Nat × Int32 × Int32 × Int32 × Hp → Option (Int32 × Hp)) (k41 : Option Nat × Int32 × Int32 × Int32 × Int32 × Int32 × Hp → Option (Int32 × Hp)) (l0 : Option Nat) (l1 : Int32) (l2 : Int32) (l3 : Int32) (l4 : Int32) (l5 : Int32) (h : Hp) : Option (Int32 × Hp) :=
(if 240 ≤ l5 then
k30 (l0, l1, l2, (l3 + 1), h)
else
(if l3 = 0 then
gR h l0 9 14 (fun x56 =>
ldI h x56 l1 (fun x60 =>
(if l5 < x60 then
f_X8_seeks_69 k30 k41 0 l0 l1 l2 l3 l5 h
else
f_X8_seeks_69 k30 k41 1 l0 l1 l2 l3 l5 h)))
else
gR h l0 9 22 (fun x75 =>
ldZ h x75 ((240 * l3) + l5) (fun x86 =>
(if x86 = 0 then
(if l4 = 0 then
f_X8_seeks_117 k30 k41 l0 l1 l2 l3 l5 h
else
rcv h l0 9 (fun b100 => bd (f_X8_stationOf b100 l1 l3 h) (fun x100 h =>
rcv h l0 9 (fun b107 => bd (f_X8_canStand b107 l1 x100 (l5 - 1) h) (fun x107 h =>
(if x107 = 0 then
f_X8_seeks_117 k30 k41 l0 l1 l2 l3 l5 h
else
f_X8_seeks_113 k30 k41 l0 l1 l2 l3 l5 h))))))
else
f_X8_seeks_113 k30 k41 l0 l1 l2 l3 l5 h)))))
set_option maxHeartbeats 4000000 in
set_option maxRecDepth 100000 in
theorem tb_X8_seeks_41 (Z : ZZ p s m args c cX8_seeks RX8 7 G) (hr : meth.sig.returnType = (some .boolean)) (hlk : meth.locks = false) (hin : meth.name = "seeks") {v : Int32} {h1 : Hp} {k30 : Option Nat × Int32 × Int32 × Int32 × Hp → Option (Int32 × Hp)} (hk30 : ∀ u : Option Nat × Int32 × Int32 × Int32 × Hp, k30 u = some (v, h1) → ∀ (H : Heap) (locs : List Loc) (ls : Array Slot), Rep G u.2.2.2.2 H → va_S (AA G) s.heap H locs → LV ls 7 [(0, va_rf u.1), (1, .int u.2.1), (2, .int u.2.2.1), (3, .int u.2.2.2.1)] → W p l e rm_X8_seeks s m args below meth c H locs 0 0 (MQ below (Qx G (some (.int v)) h1) args s 0 0 (AA G)) (F0 m 30 ls [])) {k41 : Option Nat × Int32 × Int32 × Int32 × Int32 × Int32 × Hp → Option (Int32 × Hp)} (hk41 : ∀ u : Option Nat × Int32 × Int32 × Int32 × Int32 × Int32 × Hp, k41 u = some (v, h1) → ∀ (H : Heap) (locs : List Loc) (ls : Array Slot), Rep G u.2.2.2.2.2.2 H → va_S (AA G) s.heap H locs → LV ls 7 [(0, va_rf u.1), (1, .int u.2.1), (2, .int u.2.2.1), (3, .int u.2.2.2.1), (4, .int u.2.2.2.2.1), (5, .int u.2.2.2.2.2.1)] → W p l e rm_X8_seeks s m args below meth c H locs 0 0 (MQ below (Qx G (some (.int v)) h1) args s 0 0 (AA G)) (F0 m 41 ls [])) : ∀ (l0 : Option Nat) (l1 : Int32) (l2 : Int32) (l3 : Int32) (l4 : Int32) (l5 : Int32) (h : Hp) (H : Heap) (locs : List Loc) (ls : Array Slot), fb_X8_seeks_41 k30 k41 l0 l1 l2 l3 l4 l5 h = some (v, h1) → Rep G h H → va_S (AA G) s.heap H locs → LV ls 7 [(0, va_rf l0), (1, .int l1), (2, .int l2), (3, .int l3), (4, .int l4), (5, .int l5)] → W p l e rm_X8_seeks s m args below meth c H locs 0 0 (MQ below (Qx G (some (.int v)) h1) args s 0 0 (AA G)) (F0 m 41 ls []) := by
  intro l0 l1 l2 l3 l4 l5 h H locs ls hq hR hS hl
  have hx := Z.1
  have hb := Z.2.1
  unfold fb_X8_seeks_41 at hq
  refine xil hx hb hl (x := l5) 5 rfl dX8_seeks_41 ?_
  refine lv_sipush (v := 240) hx hb dX8_seeks_43 (by decide) ?_
  refine xcGe hx hb hq (tgt := 177) dX8_seeks_46 (by decide) (fun hq => ?_) (fun hq => ?_)
  · refine xinc hx hb hl (x := l3) (v := (l3 + 1)) (lv' := [(3, .int (l3 + 1)), (0, va_rf l0), (1, .int l1), (2, .int l2), (4, .int l4), (5, .int l5)]) 3 rfl (by rw [show Int32.ofInt (1) = (1 : Int32) from by decide]) (by decide) dX8_seeks_177 rfl (fun ls hl => ?_)
    refine lv_goto (tgt := 30) hx hb dX8_seeks_180 (by decide) ?_
    exact hk30 (l0, l1, l2, (l3 + 1), h) hq H locs ls hR hS (hl.sub [1, 2, 3, 0] rfl)
  refine xiln hx hb hl (x := l3) 3 rfl dX8_seeks_49 ?_
  refine xzNe hx hb hq (tgt := 74) dX8_seeks_50 (by decide) (fun hq => ?_) (fun hq => ?_)
  · refine xaln hx hb hl (x := l0) 0 rfl dX8_seeks_74 ?_
    refine xgR Z hR hq fl_X8_69 rfl dX8_seeks_75 (fun x75 hq => ?_)
    refine lv_sipush (v := 240) hx hb dX8_seeks_78 (by decide) ?_
    refine xiln hx hb hl (x := l3) 3 rfl dX8_seeks_81 ?_
    refine lv_imul hx hb dX8_seeks_82 ?_
    refine xil hx hb hl (x := l5) 5 rfl dX8_seeks_83 ?_
    refine lv_iadd hx hb dX8_seeks_85 ?_
    refine xaZ Z hR hq dX8_seeks_86 (fun x86 hq => ?_)
    refine xzNe hx hb hq (tgt := 113) dX8_seeks_87 (by decide) (fun hq => ?_) (fun hq => ?_)
    · exact t_X8_seeks_113 Z hr hlk hin hk30 hk41 l0 l1 l2 l3 l5 h H locs ls hq hR hS (hl.sub [0, 1, 2, 3, 5] rfl)
    refine xil hx hb hl (x := l4) 4 rfl dX8_seeks_90 ?_
    refine xzEq hx hb hq (tgt := 117) dX8_seeks_92 (by decide) (fun hq => ?_) (fun hq => ?_)
    · exact t_X8_seeks_117 Z hr hlk hin hk30 hk41 l0 l1 l2 l3 l5 h H locs ls hq hR hS (hl.sub [0, 1, 2, 3, 5] rfl)
    refine xaln hx hb hl (x := l0) 0 rfl dX8_seeks_95 ?_
    refine xiln hx hb hl (x := l1) 1 rfl dX8_seeks_96 ?_
    refine xaln hx hb hl (x := l0) 0 rfl dX8_seeks_97 ?_
    refine xiln hx hb hl (x := l1) 1 rfl dX8_seeks_98 ?_
    refine xiln hx hb hl (x := l3) 3 rfl dX8_seeks_99 ?_
    refine xcV Z hR hS hl (rest := [.int l1, va_rf l0]) (As := [.int l1, .int l3]) hq cl_X8_151 (fun b x h1 hc => c_X8_stationOf l b l1 l3 h x h1 hc) ⟨⟨rfl, rfl⟩, (by decide), (by decide)⟩ rfl rfl (by first | decide | (simp only [List.map_cons, List.map_nil, rf_cat, ct_int, ct_ref, List.sum_cons, List.sum_nil] <;> decide)) dX8_seeks_100 (by decide) (fun x100 h H locs hq hR hS => ?_)
    refine xil hx hb hl (x := l5) 5 rfl dX8_seeks_103 ?_
    refine lv_iconst (v := 1) hx hb dX8_seeks_105 (by decide) ?_
    refine lv_isub hx hb dX8_seeks_106 ?_
    refine xcV Z hR hS hl (rest := []) (As := [.int l1, .int x100, .int (l5 - 1)]) hq cl_X8_160 (fun b x h1 hc => c_X8_canStand l b l1 x100 (l5 - 1) h x h1 hc) ⟨⟨rfl, rfl⟩, (by decide), (by decide)⟩ rfl rfl (by first | decide | (simp only [List.map_cons, List.map_nil, rf_cat, ct_int, ct_ref, List.sum_cons, List.sum_nil] <;> decide)) dX8_seeks_107 (by decide) (fun x107 h H locs hq hR hS => ?_)
    refine xzEq hx hb hq (tgt := 117) dX8_seeks_110 (by decide) (fun hq => ?_) (fun hq => ?_)
    · exact t_X8_seeks_117 Z hr hlk hin hk30 hk41 l0 l1 l2 l3 l5 h H locs ls hq hR hS (hl.sub [0, 1, 2, 3, 5] rfl)
    exact t_X8_seeks_113 Z hr hlk hin hk30 hk41 l0 l1 l2 l3 l5 h H locs ls hq hR hS (hl.sub [0, 1, 2, 3, 5] rfl)
  refine xil hx hb hl (x := l5) 5 rfl dX8_seeks_53 ?_
  refine xaln hx hb hl (x := l0) 0 rfl dX8_seeks_55 ?_
  refine xgR Z hR hq fl_X8_45 rfl dX8_seeks_56 (fun x56 hq => ?_)
  refine xiln hx hb hl (x := l1) 1 rfl dX8_seeks_59 ?_
  refine xaI Z hR hq dX8_seeks_60 (fun x60 hq => ?_)
  refine xcLt hx hb hq (tgt := 68) dX8_seeks_61 (by decide) (fun hq => ?_) (fun hq => ?_)
  · refine lv_iconst (v := 0) hx hb dX8_seeks_68 (by decide) ?_
    exact t_X8_seeks_69 Z hr hlk hin hk30 hk41 0 l0 l1 l2 l3 l5 h H locs ls hq hR hS (hl.sub [0, 1, 2, 3, 5] rfl)
  refine lv_iconst (v := 1) hx hb dX8_seeks_64 (by decide) ?_
  refine lv_goto (tgt := 69) hx hb dX8_seeks_65 (by decide) ?_
  exact t_X8_seeks_69 Z hr hlk hin hk30 hk41 1 l0 l1 l2 l3 l5 h H locs ls hq hR hS (hl.sub [0, 1, 2, 3, 5] rfl)
def f_X8_seeks_41  (k30 : Option Nat × Int32 × Int32 × Int32 × Hp → Option (Int32 × Hp)) (l0 : Option Nat) (l1 : Int32) (l2 : Int32) (l3 : Int32) (l4 : Int32) (l5 : Int32) (h : Hp) : Option (Int32 × Hp) :=
  lp (fun (k41 : Option Nat × Int32 × Int32 × Int32 × Int32 × Int32 × Hp → Option (Int32 × Hp)) (u : Option Nat × Int32 × Int32 × Int32 × Int32 × Int32 × Hp) => fb_X8_seeks_41 k30 k41 u.1 u.2.1 u.2.2.1 u.2.2.2.1 u.2.2.2.2.1 u.2.2.2.2.2.1 u.2.2.2.2.2.2) FU (l0, l1, l2, l3, l4, l5, h)
theorem t_X8_seeks_41 (Z : ZZ p s m args c cX8_seeks RX8 7 G) (hr : meth.sig.returnType = (some .boolean)) (hlk : meth.locks = false) (hin : meth.name = "seeks") {v : Int32} {h1 : Hp} {k30 : Option Nat × Int32 × Int32 × Int32 × Hp → Option (Int32 × Hp)} (hk30 : ∀ u : Option Nat × Int32 × Int32 × Int32 × Hp, k30 u = some (v, h1) → ∀ (H : Heap) (locs : List Loc) (ls : Array Slot), Rep G u.2.2.2.2 H → va_S (AA G) s.heap H locs → LV ls 7 [(0, va_rf u.1), (1, .int u.2.1), (2, .int u.2.2.1), (3, .int u.2.2.2.1)] → W p l e rm_X8_seeks s m args below meth c H locs 0 0 (MQ below (Qx G (some (.int v)) h1) args s 0 0 (AA G)) (F0 m 30 ls [])) : ∀ (l0 : Option Nat) (l1 : Int32) (l2 : Int32) (l3 : Int32) (l4 : Int32) (l5 : Int32) (h : Hp) (H : Heap) (locs : List Loc) (ls : Array Slot), f_X8_seeks_41 k30 l0 l1 l2 l3 l4 l5 h = some (v, h1) → Rep G h H → va_S (AA G) s.heap H locs → LV ls 7 [(0, va_rf l0), (1, .int l1), (2, .int l2), (3, .int l3), (4, .int l4), (5, .int l5)] → W p l e rm_X8_seeks s m args below meth c H locs 0 0 (MQ below (Qx G (some (.int v)) h1) args s 0 0 (AA G)) (F0 m 41 ls []) := by
  intro l0 l1 l2 l3 l4 l5 h H locs ls hq hR hS hl
  exact lp_ind (P := fun u : Option Nat × Int32 × Int32 × Int32 × Int32 × Int32 × Hp => ∀ (H : Heap) (locs : List Loc) (ls : Array Slot), Rep G u.2.2.2.2.2.2 H → va_S (AA G) s.heap H locs → LV ls 7 [(0, va_rf u.1), (1, .int u.2.1), (2, .int u.2.2.1), (3, .int u.2.2.2.1), (4, .int u.2.2.2.2.1), (5, .int u.2.2.2.2.2.1)] → W p l e rm_X8_seeks s m args below meth c H locs 0 0 (MQ below (Qx G (some (.int v)) h1) args s 0 0 (AA G)) (F0 m 41 ls [])) (fun k hk u hq H locs ls hR hS hl => tb_X8_seeks_41 Z hr hlk hin hk30 hk u.1 u.2.1 u.2.2.1 u.2.2.2.1 u.2.2.2.2.1 u.2.2.2.2.2.1 u.2.2.2.2.2.2 H locs ls hq hR hS hl) FU (l0, l1, l2, l3, l4, l5, h) hq H locs ls hR hS hl
def f_X8_seeks_295  (k240 : Option Nat × Int32 × Int32 × Int32 × Hp → Option (Int32 × Hp)) (l0 : Option Nat) (l1 : Int32) (l3 : Int32) (l4 : Int32) (h : Hp) : Option (Int32 × Hp) :=
k240 (l0, l1, l3, (l4 + (-1)), h)
set_option maxHeartbeats 4000000 in
set_option maxRecDepth 100000 in
theorem t_X8_seeks_295 (Z : ZZ p s m args c cX8_seeks RX8 7 G) (hr : meth.sig.returnType = (some .boolean)) (hlk : meth.locks = false) (hin : meth.name = "seeks") {v : Int32} {h1 : Hp} {k240 : Option Nat × Int32 × Int32 × Int32 × Hp → Option (Int32 × Hp)} (hk240 : ∀ u : Option Nat × Int32 × Int32 × Int32 × Hp, k240 u = some (v, h1) → ∀ (H : Heap) (locs : List Loc) (ls : Array Slot), Rep G u.2.2.2.2 H → va_S (AA G) s.heap H locs → LV ls 7 [(0, va_rf u.1), (1, .int u.2.1), (3, .int u.2.2.1), (4, .int u.2.2.2.1)] → W p l e rm_X8_seeks s m args below meth c H locs 0 0 (MQ below (Qx G (some (.int v)) h1) args s 0 0 (AA G)) (F0 m 240 ls [])) : ∀ (l0 : Option Nat) (l1 : Int32) (l3 : Int32) (l4 : Int32) (h : Hp) (H : Heap) (locs : List Loc) (ls : Array Slot), f_X8_seeks_295 k240 l0 l1 l3 l4 h = some (v, h1) → Rep G h H → va_S (AA G) s.heap H locs → LV ls 7 [(0, va_rf l0), (1, .int l1), (3, .int l3), (4, .int l4)] → W p l e rm_X8_seeks s m args below meth c H locs 0 0 (MQ below (Qx G (some (.int v)) h1) args s 0 0 (AA G)) (F0 m 295 ls []) := by
  intro l0 l1 l3 l4 h H locs ls hq hR hS hl
  have hx := Z.1
  have hb := Z.2.1
  unfold f_X8_seeks_295 at hq
  refine xinc hx hb hl (x := l4) (v := (l4 + (-1))) (lv' := [(4, .int (l4 + (-1))), (0, va_rf l0), (1, .int l1), (3, .int l3)]) 3 rfl (by rw [show Int32.ofInt (-1) = (-1 : Int32) from by decide]) (by decide) dX8_seeks_295 rfl (fun ls hl => ?_)
  refine lv_goto (tgt := 240) hx hb dX8_seeks_298 (by decide) ?_
  exact hk240 (l0, l1, l3, (l4 + (-1)), h) hq H locs ls hR hS (hl.sub [1, 2, 3, 0] rfl)
def fb_X8_seeks_268  (k240 : Option Nat × Int32 × Int32 × Int32 × Hp → Option (Int32 × Hp)) (k268 : Option Nat × Int32 × Int32 × Int32 × Hp → Option (Int32 × Hp)) (l0 : Option Nat) (l1 : Int32) (l3 : Int32) (l4 : Int32) (h : Hp) : Option (Int32 × Hp) :=
(if l4 ≤ 0 then
f_X8_seeks_295 k240 l0 l1 l3 l4 h
else
gR h l0 9 22 (fun x274 =>
ldZ h x274 ((240 * l4) + l3) (fun x285 =>
(if x285 = 0 then
k268 (l0, l1, (l3 + (-1)), l4, h)
else
f_X8_seeks_295 k240 l0 l1 l3 l4 h))))
set_option maxHeartbeats 4000000 in
set_option maxRecDepth 100000 in
theorem tb_X8_seeks_268 (Z : ZZ p s m args c cX8_seeks RX8 7 G) (hr : meth.sig.returnType = (some .boolean)) (hlk : meth.locks = false) (hin : meth.name = "seeks") {v : Int32} {h1 : Hp} {k240 : Option Nat × Int32 × Int32 × Int32 × Hp → Option (Int32 × Hp)} (hk240 : ∀ u : Option Nat × Int32 × Int32 × Int32 × Hp, k240 u = some (v, h1) → ∀ (H : Heap) (locs : List Loc) (ls : Array Slot), Rep G u.2.2.2.2 H → va_S (AA G) s.heap H locs → LV ls 7 [(0, va_rf u.1), (1, .int u.2.1), (3, .int u.2.2.1), (4, .int u.2.2.2.1)] → W p l e rm_X8_seeks s m args below meth c H locs 0 0 (MQ below (Qx G (some (.int v)) h1) args s 0 0 (AA G)) (F0 m 240 ls [])) {k268 : Option Nat × Int32 × Int32 × Int32 × Hp → Option (Int32 × Hp)} (hk268 : ∀ u : Option Nat × Int32 × Int32 × Int32 × Hp, k268 u = some (v, h1) → ∀ (H : Heap) (locs : List Loc) (ls : Array Slot), Rep G u.2.2.2.2 H → va_S (AA G) s.heap H locs → LV ls 7 [(0, va_rf u.1), (1, .int u.2.1), (3, .int u.2.2.1), (4, .int u.2.2.2.1)] → W p l e rm_X8_seeks s m args below meth c H locs 0 0 (MQ below (Qx G (some (.int v)) h1) args s 0 0 (AA G)) (F0 m 268 ls [])) : ∀ (l0 : Option Nat) (l1 : Int32) (l3 : Int32) (l4 : Int32) (h : Hp) (H : Heap) (locs : List Loc) (ls : Array Slot), fb_X8_seeks_268 k240 k268 l0 l1 l3 l4 h = some (v, h1) → Rep G h H → va_S (AA G) s.heap H locs → LV ls 7 [(0, va_rf l0), (1, .int l1), (3, .int l3), (4, .int l4)] → W p l e rm_X8_seeks s m args below meth c H locs 0 0 (MQ below (Qx G (some (.int v)) h1) args s 0 0 (AA G)) (F0 m 268 ls []) := by
  intro l0 l1 l3 l4 h H locs ls hq hR hS hl
  have hx := Z.1
  have hb := Z.2.1
  unfold fb_X8_seeks_268 at hq
  refine xil hx hb hl (x := l4) 3 rfl dX8_seeks_268 ?_
  refine xzLe hx hb hq (tgt := 295) dX8_seeks_270 (by decide) (fun hq => ?_) (fun hq => ?_)
  · exact t_X8_seeks_295 Z hr hlk hin hk240 l0 l1 l3 l4 h H locs ls hq hR hS (hl.sub [0, 1, 2, 3] rfl)
  refine xaln hx hb hl (x := l0) 0 rfl dX8_seeks_273 ?_
  refine xgR Z hR hq fl_X8_69 rfl dX8_seeks_274 (fun x274 hq => ?_)
  refine lv_sipush (v := 240) hx hb dX8_seeks_277 (by decide) ?_
  refine xil hx hb hl (x := l4) 3 rfl dX8_seeks_280 ?_
  refine lv_imul hx hb dX8_seeks_282 ?_
  refine xiln hx hb hl (x := l3) 2 rfl dX8_seeks_283 ?_
  refine lv_iadd hx hb dX8_seeks_284 ?_
  refine xaZ Z hR hq dX8_seeks_285 (fun x285 hq => ?_)
  refine xzNe hx hb hq (tgt := 295) dX8_seeks_286 (by decide) (fun hq => ?_) (fun hq => ?_)
  · exact t_X8_seeks_295 Z hr hlk hin hk240 l0 l1 l3 l4 h H locs ls hq hR hS (hl.sub [0, 1, 2, 3] rfl)
  refine xinc hx hb hl (x := l3) (v := (l3 + (-1))) (lv' := [(3, .int (l3 + (-1))), (0, va_rf l0), (1, .int l1), (4, .int l4)]) 2 rfl (by rw [show Int32.ofInt (-1) = (-1 : Int32) from by decide]) (by decide) dX8_seeks_289 rfl (fun ls hl => ?_)
  refine lv_goto (tgt := 268) hx hb dX8_seeks_292 (by decide) ?_
  exact hk268 (l0, l1, (l3 + (-1)), l4, h) hq H locs ls hR hS (hl.sub [1, 2, 0, 3] rfl)
def f_X8_seeks_268  (k240 : Option Nat × Int32 × Int32 × Int32 × Hp → Option (Int32 × Hp)) (l0 : Option Nat) (l1 : Int32) (l3 : Int32) (l4 : Int32) (h : Hp) : Option (Int32 × Hp) :=
  lp (fun (k268 : Option Nat × Int32 × Int32 × Int32 × Hp → Option (Int32 × Hp)) (u : Option Nat × Int32 × Int32 × Int32 × Hp) => fb_X8_seeks_268 k240 k268 u.1 u.2.1 u.2.2.1 u.2.2.2.1 u.2.2.2.2) FU (l0, l1, l3, l4, h)
theorem t_X8_seeks_268 (Z : ZZ p s m args c cX8_seeks RX8 7 G) (hr : meth.sig.returnType = (some .boolean)) (hlk : meth.locks = false) (hin : meth.name = "seeks") {v : Int32} {h1 : Hp} {k240 : Option Nat × Int32 × Int32 × Int32 × Hp → Option (Int32 × Hp)} (hk240 : ∀ u : Option Nat × Int32 × Int32 × Int32 × Hp, k240 u = some (v, h1) → ∀ (H : Heap) (locs : List Loc) (ls : Array Slot), Rep G u.2.2.2.2 H → va_S (AA G) s.heap H locs → LV ls 7 [(0, va_rf u.1), (1, .int u.2.1), (3, .int u.2.2.1), (4, .int u.2.2.2.1)] → W p l e rm_X8_seeks s m args below meth c H locs 0 0 (MQ below (Qx G (some (.int v)) h1) args s 0 0 (AA G)) (F0 m 240 ls [])) : ∀ (l0 : Option Nat) (l1 : Int32) (l3 : Int32) (l4 : Int32) (h : Hp) (H : Heap) (locs : List Loc) (ls : Array Slot), f_X8_seeks_268 k240 l0 l1 l3 l4 h = some (v, h1) → Rep G h H → va_S (AA G) s.heap H locs → LV ls 7 [(0, va_rf l0), (1, .int l1), (3, .int l3), (4, .int l4)] → W p l e rm_X8_seeks s m args below meth c H locs 0 0 (MQ below (Qx G (some (.int v)) h1) args s 0 0 (AA G)) (F0 m 268 ls []) := by
  intro l0 l1 l3 l4 h H locs ls hq hR hS hl
  exact lp_ind (P := fun u : Option Nat × Int32 × Int32 × Int32 × Hp => ∀ (H : Heap) (locs : List Loc) (ls : Array Slot), Rep G u.2.2.2.2 H → va_S (AA G) s.heap H locs → LV ls 7 [(0, va_rf u.1), (1, .int u.2.1), (3, .int u.2.2.1), (4, .int u.2.2.2.1)] → W p l e rm_X8_seeks s m args below meth c H locs 0 0 (MQ below (Qx G (some (.int v)) h1) args s 0 0 (AA G)) (F0 m 268 ls [])) (fun k hk u hq H locs ls hR hS hl => tb_X8_seeks_268 Z hr hlk hin hk240 hk u.1 u.2.1 u.2.2.1 u.2.2.2.1 u.2.2.2.2 H locs ls hq hR hS hl) FU (l0, l1, l3, l4, h) hq H locs ls hR hS hl
def fb_X8_seeks_240  (k240 : Option Nat × Int32 × Int32 × Int32 × Hp → Option (Int32 × Hp)) (l0 : Option Nat) (l1 : Int32) (l3 : Int32) (l4 : Int32) (h : Hp) : Option (Int32 × Hp) :=
(if l4 < 0 then
rtZ 1 h
else
rcv h l0 9 (fun b250 => bd (f_X8_longOf b250 l1 l4 h) (fun x250 h =>
gR h l0 9 23 (fun x257 =>
stI h x257 l4 (l3 - x250) (fun h =>
f_X8_seeks_268 k240 l0 l1 (l3 - x250) l4 h)))))
set_option maxHeartbeats 4000000 in
set_option maxRecDepth 100000 in
theorem tb_X8_seeks_240 (Z : ZZ p s m args c cX8_seeks RX8 7 G) (hr : meth.sig.returnType = (some .boolean)) (hlk : meth.locks = false) (hin : meth.name = "seeks") {v : Int32} {h1 : Hp} {k240 : Option Nat × Int32 × Int32 × Int32 × Hp → Option (Int32 × Hp)} (hk240 : ∀ u : Option Nat × Int32 × Int32 × Int32 × Hp, k240 u = some (v, h1) → ∀ (H : Heap) (locs : List Loc) (ls : Array Slot), Rep G u.2.2.2.2 H → va_S (AA G) s.heap H locs → LV ls 7 [(0, va_rf u.1), (1, .int u.2.1), (3, .int u.2.2.1), (4, .int u.2.2.2.1)] → W p l e rm_X8_seeks s m args below meth c H locs 0 0 (MQ below (Qx G (some (.int v)) h1) args s 0 0 (AA G)) (F0 m 240 ls [])) : ∀ (l0 : Option Nat) (l1 : Int32) (l3 : Int32) (l4 : Int32) (h : Hp) (H : Heap) (locs : List Loc) (ls : Array Slot), fb_X8_seeks_240 k240 l0 l1 l3 l4 h = some (v, h1) → Rep G h H → va_S (AA G) s.heap H locs → LV ls 7 [(0, va_rf l0), (1, .int l1), (3, .int l3), (4, .int l4)] → W p l e rm_X8_seeks s m args below meth c H locs 0 0 (MQ below (Qx G (some (.int v)) h1) args s 0 0 (AA G)) (F0 m 240 ls []) := by
  intro l0 l1 l3 l4 h H locs ls hq hR hS hl
  have hx := Z.1
  have hb := Z.2.1
  unfold fb_X8_seeks_240 at hq
  refine xil hx hb hl (x := l4) 3 rfl dX8_seeks_240 ?_
  refine xzLt hx hb hq (tgt := 301) dX8_seeks_242 (by decide) (fun hq => ?_) (fun hq => ?_)
  · refine lv_iconst (v := 1) hx hb dX8_seeks_301 (by decide) ?_
    exact xrZ hx hb hr hlk hR hS hq (by decide) (by decide) dX8_seeks_302
  refine xiln hx hb hl (x := l3) 2 rfl dX8_seeks_245 ?_
  refine xaln hx hb hl (x := l0) 0 rfl dX8_seeks_246 ?_
  refine xiln hx hb hl (x := l1) 1 rfl dX8_seeks_247 ?_
  refine xil hx hb hl (x := l4) 3 rfl dX8_seeks_248 ?_
  refine xcV Z hR hS hl (rest := [.int l3]) (As := [.int l1, .int l4]) hq cl_X8_134 (fun b x h1 hc => c_X8_longOf l b l1 l4 h x h1 hc) ⟨⟨rfl, rfl⟩, (by decide), (by decide)⟩ rfl rfl (by first | decide | (simp only [List.map_cons, List.map_nil, rf_cat, ct_int, ct_ref, List.sum_cons, List.sum_nil] <;> decide)) dX8_seeks_250 (by decide) (fun x250 h H locs hq hR hS => ?_)
  refine lv_isub hx hb dX8_seeks_253 ?_
  refine xis hx hb hl (x := (l3 - x250)) (lv' := [(5, .int (l3 - x250)), (0, va_rf l0), (1, .int l1), (3, .int l3), (4, .int l4)]) (by decide) dX8_seeks_254 rfl (fun ls hl => ?_)
  refine xaln hx hb hl (x := l0) 1 rfl dX8_seeks_256 ?_
  refine xgR Z hR hq fl_X8_72 rfl dX8_seeks_257 (fun x257 hq => ?_)
  refine xil hx hb hl (x := l4) 4 rfl dX8_seeks_260 ?_
  refine xil hx hb hl (x := (l3 - x250)) 0 rfl dX8_seeks_262 ?_
  refine xsI Z hR hS hq dX8_seeks_264 (fun h H locs hq hR hS => ?_)
  refine xil hx hb hl (x := (l3 - x250)) 0 rfl dX8_seeks_265 ?_
  refine xisn hx hb hl (x := (l3 - x250)) (lv' := [(3, .int (l3 - x250)), (5, .int (l3 - x250)), (0, va_rf l0), (1, .int l1), (4, .int l4)]) (by decide) dX8_seeks_267 rfl (fun ls hl => ?_)
  exact t_X8_seeks_268 Z hr hlk hin hk240 l0 l1 (l3 - x250) l4 h H locs ls hq hR hS (hl.sub [2, 3, 0, 4] rfl)
def f_X8_seeks_240  (l0 : Option Nat) (l1 : Int32) (l3 : Int32) (l4 : Int32) (h : Hp) : Option (Int32 × Hp) :=
  lp (fun (k240 : Option Nat × Int32 × Int32 × Int32 × Hp → Option (Int32 × Hp)) (u : Option Nat × Int32 × Int32 × Int32 × Hp) => fb_X8_seeks_240 k240 u.1 u.2.1 u.2.2.1 u.2.2.2.1 u.2.2.2.2) FU (l0, l1, l3, l4, h)
theorem t_X8_seeks_240 (Z : ZZ p s m args c cX8_seeks RX8 7 G) (hr : meth.sig.returnType = (some .boolean)) (hlk : meth.locks = false) (hin : meth.name = "seeks") {v : Int32} {h1 : Hp} : ∀ (l0 : Option Nat) (l1 : Int32) (l3 : Int32) (l4 : Int32) (h : Hp) (H : Heap) (locs : List Loc) (ls : Array Slot), f_X8_seeks_240 l0 l1 l3 l4 h = some (v, h1) → Rep G h H → va_S (AA G) s.heap H locs → LV ls 7 [(0, va_rf l0), (1, .int l1), (3, .int l3), (4, .int l4)] → W p l e rm_X8_seeks s m args below meth c H locs 0 0 (MQ below (Qx G (some (.int v)) h1) args s 0 0 (AA G)) (F0 m 240 ls []) := by
  intro l0 l1 l3 l4 h H locs ls hq hR hS hl
  exact lp_ind (P := fun u : Option Nat × Int32 × Int32 × Int32 × Hp => ∀ (H : Heap) (locs : List Loc) (ls : Array Slot), Rep G u.2.2.2.2 H → va_S (AA G) s.heap H locs → LV ls 7 [(0, va_rf u.1), (1, .int u.2.1), (3, .int u.2.2.1), (4, .int u.2.2.2.1)] → W p l e rm_X8_seeks s m args below meth c H locs 0 0 (MQ below (Qx G (some (.int v)) h1) args s 0 0 (AA G)) (F0 m 240 ls [])) (fun k hk u hq H locs ls hR hS hl => tb_X8_seeks_240 Z hr hlk hin hk u.1 u.2.1 u.2.2.1 u.2.2.2.1 u.2.2.2.2 H locs ls hq hR hS hl) FU (l0, l1, l3, l4, h) hq H locs ls hR hS hl
def f_X8_seeks_216  (l0 : Option Nat) (l1 : Int32) (l2 : Int32) (l3 : Int32) (h : Hp) : Option (Int32 × Hp) :=
gR h l0 9 15 (fun x218 =>
ldI h x218 l1 (fun x222 =>
(if l3 ≤ x222 then
gR h l0 9 23 (fun x229 =>
stI h x229 l2 l3 (fun h =>
f_X8_seeks_240 l0 l1 l3 (l2 - 1) h))
else
rtZ 0 h)))
set_option maxHeartbeats 4000000 in
set_option maxRecDepth 100000 in
theorem t_X8_seeks_216 (Z : ZZ p s m args c cX8_seeks RX8 7 G) (hr : meth.sig.returnType = (some .boolean)) (hlk : meth.locks = false) (hin : meth.name = "seeks") {v : Int32} {h1 : Hp} : ∀ (l0 : Option Nat) (l1 : Int32) (l2 : Int32) (l3 : Int32) (h : Hp) (H : Heap) (locs : List Loc) (ls : Array Slot), f_X8_seeks_216 l0 l1 l2 l3 h = some (v, h1) → Rep G h H → va_S (AA G) s.heap H locs → LV ls 7 [(0, va_rf l0), (1, .int l1), (2, .int l2), (3, .int l3)] → W p l e rm_X8_seeks s m args below meth c H locs 0 0 (MQ below (Qx G (some (.int v)) h1) args s 0 0 (AA G)) (F0 m 216 ls []) := by
  intro l0 l1 l2 l3 h H locs ls hq hR hS hl
  have hx := Z.1
  have hb := Z.2.1
  unfold f_X8_seeks_216 at hq
  refine xiln hx hb hl (x := l3) 3 rfl dX8_seeks_216 ?_
  refine xaln hx hb hl (x := l0) 0 rfl dX8_seeks_217 ?_
  refine xgR Z hR hq fl_X8_48 rfl dX8_seeks_218 (fun x218 hq => ?_)
  refine xiln hx hb hl (x := l1) 1 rfl dX8_seeks_221 ?_
  refine xaI Z hR hq dX8_seeks_222 (fun x222 hq => ?_)
  refine xcLe hx hb hq (tgt := 228) dX8_seeks_223 (by decide) (fun hq => ?_) (fun hq => ?_)
  · refine xaln hx hb hl (x := l0) 0 rfl dX8_seeks_228 ?_
    refine xgR Z hR hq fl_X8_72 rfl dX8_seeks_229 (fun x229 hq => ?_)
    refine xiln hx hb hl (x := l2) 2 rfl dX8_seeks_232 ?_
    refine xiln hx hb hl (x := l3) 3 rfl dX8_seeks_233 ?_
    refine xsI Z hR hS hq dX8_seeks_234 (fun h H locs hq hR hS => ?_)
    refine xiln hx hb hl (x := l2) 2 rfl dX8_seeks_235 ?_
    refine lv_iconst (v := 1) hx hb dX8_seeks_236 (by decide) ?_
    refine lv_isub hx hb dX8_seeks_237 ?_
    refine xis hx hb hl (x := (l2 - 1)) (lv' := [(4, .int (l2 - 1)), (0, va_rf l0), (1, .int l1), (2, .int l2), (3, .int l3)]) (by decide) dX8_seeks_238 rfl (fun ls hl => ?_)
    exact t_X8_seeks_240 Z hr hlk hin l0 l1 l3 (l2 - 1) h H locs ls hq hR hS (hl.sub [1, 2, 4, 0] rfl)
  refine lv_iconst (v := 0) hx hb dX8_seeks_226 (by decide) ?_
  exact xrZ hx hb hr hlk hR hS hq (by decide) (by decide) dX8_seeks_227
def fb_X8_seeks_185  (k185 : Option Nat × Int32 × Int32 × Int32 × Hp → Option (Int32 × Hp)) (l0 : Option Nat) (l1 : Int32) (l2 : Int32) (l3 : Int32) (h : Hp) : Option (Int32 × Hp) :=
gR h l0 9 15 (fun x187 =>
ldI h x187 l1 (fun x191 =>
(if x191 < l3 then
f_X8_seeks_216 l0 l1 l2 l3 h
else
gR h l0 9 22 (fun x196 =>
ldZ h x196 ((240 * l2) + l3) (fun x206 =>
(if x206 = 0 then
k185 (l0, l1, l2, (l3 + 1), h)
else
f_X8_seeks_216 l0 l1 l2 l3 h))))))
set_option maxHeartbeats 4000000 in
set_option maxRecDepth 100000 in
theorem tb_X8_seeks_185 (Z : ZZ p s m args c cX8_seeks RX8 7 G) (hr : meth.sig.returnType = (some .boolean)) (hlk : meth.locks = false) (hin : meth.name = "seeks") {v : Int32} {h1 : Hp} {k185 : Option Nat × Int32 × Int32 × Int32 × Hp → Option (Int32 × Hp)} (hk185 : ∀ u : Option Nat × Int32 × Int32 × Int32 × Hp, k185 u = some (v, h1) → ∀ (H : Heap) (locs : List Loc) (ls : Array Slot), Rep G u.2.2.2.2 H → va_S (AA G) s.heap H locs → LV ls 7 [(0, va_rf u.1), (1, .int u.2.1), (2, .int u.2.2.1), (3, .int u.2.2.2.1)] → W p l e rm_X8_seeks s m args below meth c H locs 0 0 (MQ below (Qx G (some (.int v)) h1) args s 0 0 (AA G)) (F0 m 185 ls [])) : ∀ (l0 : Option Nat) (l1 : Int32) (l2 : Int32) (l3 : Int32) (h : Hp) (H : Heap) (locs : List Loc) (ls : Array Slot), fb_X8_seeks_185 k185 l0 l1 l2 l3 h = some (v, h1) → Rep G h H → va_S (AA G) s.heap H locs → LV ls 7 [(0, va_rf l0), (1, .int l1), (2, .int l2), (3, .int l3)] → W p l e rm_X8_seeks s m args below meth c H locs 0 0 (MQ below (Qx G (some (.int v)) h1) args s 0 0 (AA G)) (F0 m 185 ls []) := by
  intro l0 l1 l2 l3 h H locs ls hq hR hS hl
  have hx := Z.1
  have hb := Z.2.1
  unfold fb_X8_seeks_185 at hq
  refine xiln hx hb hl (x := l3) 3 rfl dX8_seeks_185 ?_
  refine xaln hx hb hl (x := l0) 0 rfl dX8_seeks_186 ?_
  refine xgR Z hR hq fl_X8_48 rfl dX8_seeks_187 (fun x187 hq => ?_)
  refine xiln hx hb hl (x := l1) 1 rfl dX8_seeks_190 ?_
  refine xaI Z hR hq dX8_seeks_191 (fun x191 hq => ?_)
  refine xcGt hx hb hq (tgt := 216) dX8_seeks_192 (by decide) (fun hq => ?_) (fun hq => ?_)
  · exact t_X8_seeks_216 Z hr hlk hin l0 l1 l2 l3 h H locs ls hq hR hS (hl.sub [0, 1, 2, 3] rfl)
  refine xaln hx hb hl (x := l0) 0 rfl dX8_seeks_195 ?_
  refine xgR Z hR hq fl_X8_69 rfl dX8_seeks_196 (fun x196 hq => ?_)
  refine lv_sipush (v := 240) hx hb dX8_seeks_199 (by decide) ?_
  refine xiln hx hb hl (x := l2) 2 rfl dX8_seeks_202 ?_
  refine lv_imul hx hb dX8_seeks_203 ?_
  refine xiln hx hb hl (x := l3) 3 rfl dX8_seeks_204 ?_
  refine lv_iadd hx hb dX8_seeks_205 ?_
  refine xaZ Z hR hq dX8_seeks_206 (fun x206 hq => ?_)
  refine xzNe hx hb hq (tgt := 216) dX8_seeks_207 (by decide) (fun hq => ?_) (fun hq => ?_)
  · exact t_X8_seeks_216 Z hr hlk hin l0 l1 l2 l3 h H locs ls hq hR hS (hl.sub [0, 1, 2, 3] rfl)
  refine xinc hx hb hl (x := l3) (v := (l3 + 1)) (lv' := [(3, .int (l3 + 1)), (0, va_rf l0), (1, .int l1), (2, .int l2)]) 3 rfl (by rw [show Int32.ofInt (1) = (1 : Int32) from by decide]) (by decide) dX8_seeks_210 rfl (fun ls hl => ?_)
  refine lv_goto (tgt := 185) hx hb dX8_seeks_213 (by decide) ?_
  exact hk185 (l0, l1, l2, (l3 + 1), h) hq H locs ls hR hS (hl.sub [1, 2, 3, 0] rfl)
def f_X8_seeks_185  (l0 : Option Nat) (l1 : Int32) (l2 : Int32) (l3 : Int32) (h : Hp) : Option (Int32 × Hp) :=
  lp (fun (k185 : Option Nat × Int32 × Int32 × Int32 × Hp → Option (Int32 × Hp)) (u : Option Nat × Int32 × Int32 × Int32 × Hp) => fb_X8_seeks_185 k185 u.1 u.2.1 u.2.2.1 u.2.2.2.1 u.2.2.2.2) FU (l0, l1, l2, l3, h)
theorem t_X8_seeks_185 (Z : ZZ p s m args c cX8_seeks RX8 7 G) (hr : meth.sig.returnType = (some .boolean)) (hlk : meth.locks = false) (hin : meth.name = "seeks") {v : Int32} {h1 : Hp} : ∀ (l0 : Option Nat) (l1 : Int32) (l2 : Int32) (l3 : Int32) (h : Hp) (H : Heap) (locs : List Loc) (ls : Array Slot), f_X8_seeks_185 l0 l1 l2 l3 h = some (v, h1) → Rep G h H → va_S (AA G) s.heap H locs → LV ls 7 [(0, va_rf l0), (1, .int l1), (2, .int l2), (3, .int l3)] → W p l e rm_X8_seeks s m args below meth c H locs 0 0 (MQ below (Qx G (some (.int v)) h1) args s 0 0 (AA G)) (F0 m 185 ls []) := by
  intro l0 l1 l2 l3 h H locs ls hq hR hS hl
  exact lp_ind (P := fun u : Option Nat × Int32 × Int32 × Int32 × Hp => ∀ (H : Heap) (locs : List Loc) (ls : Array Slot), Rep G u.2.2.2.2 H → va_S (AA G) s.heap H locs → LV ls 7 [(0, va_rf u.1), (1, .int u.2.1), (2, .int u.2.2.1), (3, .int u.2.2.2.1)] → W p l e rm_X8_seeks s m args below meth c H locs 0 0 (MQ below (Qx G (some (.int v)) h1) args s 0 0 (AA G)) (F0 m 185 ls [])) (fun k hk u hq H locs ls hR hS hl => tb_X8_seeks_185 Z hr hlk hin hk u.1 u.2.1 u.2.2.1 u.2.2.2.1 u.2.2.2.2 H locs ls hq hR hS hl) FU (l0, l1, l2, l3, h) hq H locs ls hR hS hl
def fb_X8_seeks_30  (k30 : Option Nat × Int32 × Int32 × Int32 × Hp → Option (Int32 × Hp)) (l0 : Option Nat) (l1 : Int32) (l2 : Int32) (l3 : Int32) (h : Hp) : Option (Int32 × Hp) :=
(if l2 ≤ l3 then
f_X8_seeks_185 l0 l1 l2 0 h
else
f_X8_seeks_41 k30 l0 l1 l2 l3 0 0 h)
set_option maxHeartbeats 4000000 in
set_option maxRecDepth 100000 in
theorem tb_X8_seeks_30 (Z : ZZ p s m args c cX8_seeks RX8 7 G) (hr : meth.sig.returnType = (some .boolean)) (hlk : meth.locks = false) (hin : meth.name = "seeks") {v : Int32} {h1 : Hp} {k30 : Option Nat × Int32 × Int32 × Int32 × Hp → Option (Int32 × Hp)} (hk30 : ∀ u : Option Nat × Int32 × Int32 × Int32 × Hp, k30 u = some (v, h1) → ∀ (H : Heap) (locs : List Loc) (ls : Array Slot), Rep G u.2.2.2.2 H → va_S (AA G) s.heap H locs → LV ls 7 [(0, va_rf u.1), (1, .int u.2.1), (2, .int u.2.2.1), (3, .int u.2.2.2.1)] → W p l e rm_X8_seeks s m args below meth c H locs 0 0 (MQ below (Qx G (some (.int v)) h1) args s 0 0 (AA G)) (F0 m 30 ls [])) : ∀ (l0 : Option Nat) (l1 : Int32) (l2 : Int32) (l3 : Int32) (h : Hp) (H : Heap) (locs : List Loc) (ls : Array Slot), fb_X8_seeks_30 k30 l0 l1 l2 l3 h = some (v, h1) → Rep G h H → va_S (AA G) s.heap H locs → LV ls 7 [(0, va_rf l0), (1, .int l1), (2, .int l2), (3, .int l3)] → W p l e rm_X8_seeks s m args below meth c H locs 0 0 (MQ below (Qx G (some (.int v)) h1) args s 0 0 (AA G)) (F0 m 30 ls []) := by
  intro l0 l1 l2 l3 h H locs ls hq hR hS hl
  have hx := Z.1
  have hb := Z.2.1
  unfold fb_X8_seeks_30 at hq
  refine xiln hx hb hl (x := l3) 3 rfl dX8_seeks_30 ?_
  refine xiln hx hb hl (x := l2) 2 rfl dX8_seeks_31 ?_
  refine xcGe hx hb hq (tgt := 183) dX8_seeks_32 (by decide) (fun hq => ?_) (fun hq => ?_)
  · refine lv_iconst (v := 0) hx hb dX8_seeks_183 (by decide) ?_
    refine xisn hx hb hl (x := 0) (lv' := [(3, .int 0), (0, va_rf l0), (1, .int l1), (2, .int l2)]) (by decide) dX8_seeks_184 rfl (fun ls hl => ?_)
    exact t_X8_seeks_185 Z hr hlk hin l0 l1 l2 0 h H locs ls hq hR hS (hl.sub [1, 2, 3, 0] rfl)
  refine lv_iconst (v := 0) hx hb dX8_seeks_35 (by decide) ?_
  refine xis hx hb hl (x := 0) (lv' := [(4, .int 0), (0, va_rf l0), (1, .int l1), (2, .int l2), (3, .int l3)]) (by decide) dX8_seeks_36 rfl (fun ls hl => ?_)
  refine lv_iconst (v := 0) hx hb dX8_seeks_38 (by decide) ?_
  refine xis hx hb hl (x := 0) (lv' := [(5, .int 0), (4, .int 0), (0, va_rf l0), (1, .int l1), (2, .int l2), (3, .int l3)]) (by decide) dX8_seeks_39 rfl (fun ls hl => ?_)
  exact t_X8_seeks_41 Z hr hlk hin hk30 l0 l1 l2 l3 0 0 h H locs ls hq hR hS (hl.sub [2, 3, 4, 5, 1, 0] rfl)
def f_X8_seeks_30  (l0 : Option Nat) (l1 : Int32) (l2 : Int32) (l3 : Int32) (h : Hp) : Option (Int32 × Hp) :=
  lp (fun (k30 : Option Nat × Int32 × Int32 × Int32 × Hp → Option (Int32 × Hp)) (u : Option Nat × Int32 × Int32 × Int32 × Hp) => fb_X8_seeks_30 k30 u.1 u.2.1 u.2.2.1 u.2.2.2.1 u.2.2.2.2) FU (l0, l1, l2, l3, h)
theorem t_X8_seeks_30 (Z : ZZ p s m args c cX8_seeks RX8 7 G) (hr : meth.sig.returnType = (some .boolean)) (hlk : meth.locks = false) (hin : meth.name = "seeks") {v : Int32} {h1 : Hp} : ∀ (l0 : Option Nat) (l1 : Int32) (l2 : Int32) (l3 : Int32) (h : Hp) (H : Heap) (locs : List Loc) (ls : Array Slot), f_X8_seeks_30 l0 l1 l2 l3 h = some (v, h1) → Rep G h H → va_S (AA G) s.heap H locs → LV ls 7 [(0, va_rf l0), (1, .int l1), (2, .int l2), (3, .int l3)] → W p l e rm_X8_seeks s m args below meth c H locs 0 0 (MQ below (Qx G (some (.int v)) h1) args s 0 0 (AA G)) (F0 m 30 ls []) := by
  intro l0 l1 l2 l3 h H locs ls hq hR hS hl
  exact lp_ind (P := fun u : Option Nat × Int32 × Int32 × Int32 × Hp => ∀ (H : Heap) (locs : List Loc) (ls : Array Slot), Rep G u.2.2.2.2 H → va_S (AA G) s.heap H locs → LV ls 7 [(0, va_rf u.1), (1, .int u.2.1), (2, .int u.2.2.1), (3, .int u.2.2.2.1)] → W p l e rm_X8_seeks s m args below meth c H locs 0 0 (MQ below (Qx G (some (.int v)) h1) args s 0 0 (AA G)) (F0 m 30 ls [])) (fun k hk u hq H locs ls hR hS hl => tb_X8_seeks_30 Z hr hlk hin hk u.1 u.2.1 u.2.2.1 u.2.2.2.1 u.2.2.2.2 H locs ls hq hR hS hl) FU (l0, l1, l2, l3, h) hq H locs ls hR hS hl
def fb_X8_seeks_8  (k8 : Option Nat × Int32 × Int32 × Int32 × Hp → Option (Int32 × Hp)) (l0 : Option Nat) (l1 : Int32) (l2 : Int32) (l3 : Int32) (h : Hp) : Option (Int32 × Hp) :=
(if 1920 ≤ l3 then
f_X8_seeks_30 l0 l1 l2 0 h
else
gR h l0 9 22 (fun x16 =>
stZ h x16 l3 0 (fun h =>
k8 (l0, l1, l2, (l3 + 1), h))))
set_option maxHeartbeats 4000000 in
set_option maxRecDepth 100000 in
theorem tb_X8_seeks_8 (Z : ZZ p s m args c cX8_seeks RX8 7 G) (hr : meth.sig.returnType = (some .boolean)) (hlk : meth.locks = false) (hin : meth.name = "seeks") {v : Int32} {h1 : Hp} {k8 : Option Nat × Int32 × Int32 × Int32 × Hp → Option (Int32 × Hp)} (hk8 : ∀ u : Option Nat × Int32 × Int32 × Int32 × Hp, k8 u = some (v, h1) → ∀ (H : Heap) (locs : List Loc) (ls : Array Slot), Rep G u.2.2.2.2 H → va_S (AA G) s.heap H locs → LV ls 7 [(0, va_rf u.1), (1, .int u.2.1), (2, .int u.2.2.1), (3, .int u.2.2.2.1)] → W p l e rm_X8_seeks s m args below meth c H locs 0 0 (MQ below (Qx G (some (.int v)) h1) args s 0 0 (AA G)) (F0 m 8 ls [])) : ∀ (l0 : Option Nat) (l1 : Int32) (l2 : Int32) (l3 : Int32) (h : Hp) (H : Heap) (locs : List Loc) (ls : Array Slot), fb_X8_seeks_8 k8 l0 l1 l2 l3 h = some (v, h1) → Rep G h H → va_S (AA G) s.heap H locs → LV ls 7 [(0, va_rf l0), (1, .int l1), (2, .int l2), (3, .int l3)] → W p l e rm_X8_seeks s m args below meth c H locs 0 0 (MQ below (Qx G (some (.int v)) h1) args s 0 0 (AA G)) (F0 m 8 ls []) := by
  intro l0 l1 l2 l3 h H locs ls hq hR hS hl
  have hx := Z.1
  have hb := Z.2.1
  unfold fb_X8_seeks_8 at hq
  refine xiln hx hb hl (x := l3) 3 rfl dX8_seeks_8 ?_
  refine lv_sipush (v := 1920) hx hb dX8_seeks_9 (by decide) ?_
  refine xcGe hx hb hq (tgt := 28) dX8_seeks_12 (by decide) (fun hq => ?_) (fun hq => ?_)
  · refine lv_iconst (v := 0) hx hb dX8_seeks_28 (by decide) ?_
    refine xisn hx hb hl (x := 0) (lv' := [(3, .int 0), (0, va_rf l0), (1, .int l1), (2, .int l2)]) (by decide) dX8_seeks_29 rfl (fun ls hl => ?_)
    exact t_X8_seeks_30 Z hr hlk hin l0 l1 l2 0 h H locs ls hq hR hS (hl.sub [1, 2, 3, 0] rfl)
  refine xaln hx hb hl (x := l0) 0 rfl dX8_seeks_15 ?_
  refine xgR Z hR hq fl_X8_69 rfl dX8_seeks_16 (fun x16 hq => ?_)
  refine xiln hx hb hl (x := l3) 3 rfl dX8_seeks_19 ?_
  refine lv_iconst (v := 0) hx hb dX8_seeks_20 (by decide) ?_
  refine xsZ Z hR hS hq dX8_seeks_21 (fun h H locs hq hR hS => ?_)
  refine xinc hx hb hl (x := l3) (v := (l3 + 1)) (lv' := [(3, .int (l3 + 1)), (0, va_rf l0), (1, .int l1), (2, .int l2)]) 3 rfl (by rw [show Int32.ofInt (1) = (1 : Int32) from by decide]) (by decide) dX8_seeks_22 rfl (fun ls hl => ?_)
  refine lv_goto (tgt := 8) hx hb dX8_seeks_25 (by decide) ?_
  exact hk8 (l0, l1, l2, (l3 + 1), h) hq H locs ls hR hS (hl.sub [1, 2, 3, 0] rfl)
def f_X8_seeks_8  (l0 : Option Nat) (l1 : Int32) (l2 : Int32) (l3 : Int32) (h : Hp) : Option (Int32 × Hp) :=
  lp (fun (k8 : Option Nat × Int32 × Int32 × Int32 × Hp → Option (Int32 × Hp)) (u : Option Nat × Int32 × Int32 × Int32 × Hp) => fb_X8_seeks_8 k8 u.1 u.2.1 u.2.2.1 u.2.2.2.1 u.2.2.2.2) FU (l0, l1, l2, l3, h)
theorem t_X8_seeks_8 (Z : ZZ p s m args c cX8_seeks RX8 7 G) (hr : meth.sig.returnType = (some .boolean)) (hlk : meth.locks = false) (hin : meth.name = "seeks") {v : Int32} {h1 : Hp} : ∀ (l0 : Option Nat) (l1 : Int32) (l2 : Int32) (l3 : Int32) (h : Hp) (H : Heap) (locs : List Loc) (ls : Array Slot), f_X8_seeks_8 l0 l1 l2 l3 h = some (v, h1) → Rep G h H → va_S (AA G) s.heap H locs → LV ls 7 [(0, va_rf l0), (1, .int l1), (2, .int l2), (3, .int l3)] → W p l e rm_X8_seeks s m args below meth c H locs 0 0 (MQ below (Qx G (some (.int v)) h1) args s 0 0 (AA G)) (F0 m 8 ls []) := by
  intro l0 l1 l2 l3 h H locs ls hq hR hS hl
  exact lp_ind (P := fun u : Option Nat × Int32 × Int32 × Int32 × Hp => ∀ (H : Heap) (locs : List Loc) (ls : Array Slot), Rep G u.2.2.2.2 H → va_S (AA G) s.heap H locs → LV ls 7 [(0, va_rf u.1), (1, .int u.2.1), (2, .int u.2.2.1), (3, .int u.2.2.2.1)] → W p l e rm_X8_seeks s m args below meth c H locs 0 0 (MQ below (Qx G (some (.int v)) h1) args s 0 0 (AA G)) (F0 m 8 ls [])) (fun k hk u hq H locs ls hR hS hl => tb_X8_seeks_8 Z hr hlk hin hk u.1 u.2.1 u.2.2.1 u.2.2.2.1 u.2.2.2.2 H locs ls hq hR hS hl) FU (l0, l1, l2, l3, h) hq H locs ls hR hS hl
def f_X8_seeks (this : Nat) (a0 : Int32) (h : Hp) : Option (Int32 × Hp) :=
rcv h (some this) 9 (fun b2 => bd (f_X8_legs b2 a0 h) (fun x2 h =>
f_X8_seeks_8 (some this) a0 x2 0 h))
set_option maxHeartbeats 4000000 in
set_option maxRecDepth 100000 in
theorem c_X8_seeks (l : Launch) {G : GG} (this : Nat) (a0 : Int32) (h : Hp) (v : Int32) (h1 : Hp) (hq : f_X8_seeks this a0 h = some (v, h1)) : Met l yX8_seeks (Cond.code yX8_seeks cX8_seeks 7 (some .boolean) :: GT) rm_X8_seeks (va_Pc [.ref this, .int a0] (Cn G h)) (Qx G (some (.int v)) h1) 0 0 (AA G) := by
  refine xMet (cc := cX8_seeks) (by decide) (Nat.le_of_ble_eq_true rfl) (List.forall_mem_cons.mpr ⟨rfl, (List.forall_mem_cons.mpr ⟨rfl, (fun _ z => by cases z)⟩)⟩) ?_
  intro p e s m below meth c ls Z hr hlk hin hR hS hl
  have hx := Z.1
  have hb := Z.2.1
  have hl : LV ls 7 [(0, va_rf (some this)), (1, .int a0)] := hl
  unfold f_X8_seeks at hq
  refine xaln hx hb hl (x := (some this)) 0 rfl dX8_seeks_0 ?_
  refine xiln hx hb hl (x := a0) 1 rfl dX8_seeks_1 ?_
  refine xcV Z hR hS hl (rest := []) (As := [.int a0]) hq cl_X8_126 (fun b x h1 hc => c_X8_legs l b a0 h x h1 hc) ⟨⟨rfl, rfl⟩, (by decide), (by decide)⟩ rfl rfl (by first | decide | (simp only [List.map_cons, List.map_nil, rf_cat, ct_int, ct_ref, List.sum_cons, List.sum_nil] <;> decide)) dX8_seeks_2 (by decide) (fun x2 h H locs hq hR hS => ?_)
  refine xisn hx hb hl (x := x2) (lv' := [(2, .int x2), (0, va_rf (some this)), (1, .int a0)]) (by decide) dX8_seeks_5 rfl (fun ls hl => ?_)
  refine lv_iconst (v := 0) hx hb dX8_seeks_6 (by decide) ?_
  refine xisn hx hb hl (x := 0) (lv' := [(3, .int 0), (2, .int x2), (0, va_rf (some this)), (1, .int a0)]) (by decide) dX8_seeks_7 rfl (fun ls hl => ?_)
  exact t_X8_seeks_8 Z hr hlk hin (some this) a0 x2 0 h _ _ ls hq hR hS (hl.sub [2, 3, 1, 0] rfl)
abbrev rm_X8_find : Room := { frames := 6, cells := 0, slots := 0, locals := 141 }
def f_X8_find_30  (s0 : Int32) (h : Hp) : Option (Int32 × Hp) :=
rtI s0 h
set_option maxHeartbeats 4000000 in
set_option maxRecDepth 100000 in
theorem t_X8_find_30 (Z : ZZ p s m args c cX8_find RX8 2 G) (hr : meth.sig.returnType = (some .int)) (hlk : meth.locks = false) (hin : meth.name = "find") {v : Int32} {h1 : Hp} : ∀ (s0 : Int32) (h : Hp) (H : Heap) (locs : List Loc) (ls : Array Slot), f_X8_find_30 s0 h = some (v, h1) → Rep G h H → va_S (AA G) s.heap H locs → LV ls 2 [] → W p l e rm_X8_find s m args below meth c H locs 0 0 (MQ below (Qx G (some (.int v)) h1) args s 0 0 (AA G)) (F0 m 30 ls [.int s0]) := by
  intro s0 h H locs ls hq hR hS hl
  have hx := Z.1
  have hb := Z.2.1
  unfold f_X8_find_30 at hq
  exact xrI hx hb hr hlk hR hS hq (by decide) (by decide) dX8_find_30
def f_X8_find_29   (h : Hp) : Option (Int32 × Hp) :=
f_X8_find_30 (-1) h
set_option maxHeartbeats 4000000 in
set_option maxRecDepth 100000 in
theorem t_X8_find_29 (Z : ZZ p s m args c cX8_find RX8 2 G) (hr : meth.sig.returnType = (some .int)) (hlk : meth.locks = false) (hin : meth.name = "find") {v : Int32} {h1 : Hp} : ∀  (h : Hp) (H : Heap) (locs : List Loc) (ls : Array Slot), f_X8_find_29  h = some (v, h1) → Rep G h H → va_S (AA G) s.heap H locs → LV ls 2 [] → W p l e rm_X8_find s m args below meth c H locs 0 0 (MQ below (Qx G (some (.int v)) h1) args s 0 0 (AA G)) (F0 m 29 ls []) := by
  intro  h H locs ls hq hR hS hl
  have hx := Z.1
  have hb := Z.2.1
  unfold f_X8_find_29 at hq
  refine lv_iconst (v := (-1)) hx hb dX8_find_29 (by decide) ?_
  exact t_X8_find_30 Z hr hlk hin (-1) h H locs ls hq hR hS (hl.sub [] rfl)
def f_X8_find (this : Nat) (a0 : Int32) (h : Hp) : Option (Int32 × Hp) :=
rcv h (some this) 9 (fun b2 => bd (f_X8_isBid b2 a0 h) (fun x2 h =>
(if x2 = 0 then
f_X8_find_29  h
else
rcv h (some this) 9 (fun b10 => bd (f_X8_seeks b10 a0 h) (fun x10 h =>
(if x10 = 0 then
f_X8_find_29  h
else
gR h (some this) 9 23 (fun x17 =>
rcv h (some this) 9 (fun b22 => bd (f_X8_legs b22 a0 h) (fun x22 h =>
ldI h x17 x22 (fun x25 =>
f_X8_find_30 x25 h))))))))))
set_option maxHeartbeats 4000000 in
set_option maxRecDepth 100000 in
theorem c_X8_find (l : Launch) {G : GG} (this : Nat) (a0 : Int32) (h : Hp) (v : Int32) (h1 : Hp) (hq : f_X8_find this a0 h = some (v, h1)) : Met l yX8_find (Cond.code yX8_find cX8_find 2 (some .int) :: GT) rm_X8_find (va_Pc [.ref this, .int a0] (Cn G h)) (Qx G (some (.int v)) h1) 0 0 (AA G) := by
  refine xMet (cc := cX8_find) (by decide) (Nat.le_of_ble_eq_true rfl) (List.forall_mem_cons.mpr ⟨rfl, (List.forall_mem_cons.mpr ⟨rfl, (fun _ z => by cases z)⟩)⟩) ?_
  intro p e s m below meth c ls Z hr hlk hin hR hS hl
  have hx := Z.1
  have hb := Z.2.1
  have hl : LV ls 2 [(0, va_rf (some this)), (1, .int a0)] := hl
  unfold f_X8_find at hq
  refine xaln hx hb hl (x := (some this)) 0 rfl dX8_find_0 ?_
  refine xiln hx hb hl (x := a0) 1 rfl dX8_find_1 ?_
  refine xcV Z hR hS hl (rest := []) (As := [.int a0]) hq cl_X8_118 (fun b x h1 hc => c_X8_isBid l b a0 h x h1 hc) ⟨⟨rfl, rfl⟩, (by decide), (by decide)⟩ rfl rfl (by first | decide | (simp only [List.map_cons, List.map_nil, rf_cat, ct_int, ct_ref, List.sum_cons, List.sum_nil] <;> decide)) dX8_find_2 (by decide) (fun x2 h H locs hq hR hS => ?_)
  refine xzEq hx hb hq (tgt := 29) dX8_find_5 (by decide) (fun hq => ?_) (fun hq => ?_)
  · exact t_X8_find_29 Z hr hlk hin  h _ _ ls hq hR hS (hl.sub [] rfl)
  refine xaln hx hb hl (x := (some this)) 0 rfl dX8_find_8 ?_
  refine xiln hx hb hl (x := a0) 1 rfl dX8_find_9 ?_
  refine xcV Z hR hS hl (rest := []) (As := [.int a0]) hq cl_X8_166 (fun b x h1 hc => c_X8_seeks l b a0 h x h1 hc) ⟨⟨rfl, rfl⟩, (by decide), (by decide)⟩ rfl rfl (by first | decide | (simp only [List.map_cons, List.map_nil, rf_cat, ct_int, ct_ref, List.sum_cons, List.sum_nil] <;> decide)) dX8_find_10 (by decide) (fun x10 h H locs hq hR hS => ?_)
  refine xzEq hx hb hq (tgt := 29) dX8_find_13 (by decide) (fun hq => ?_) (fun hq => ?_)
  · exact t_X8_find_29 Z hr hlk hin  h _ _ ls hq hR hS (hl.sub [] rfl)
  refine xaln hx hb hl (x := (some this)) 0 rfl dX8_find_16 ?_
  refine xgR Z hR hq fl_X8_72 rfl dX8_find_17 (fun x17 hq => ?_)
  refine xaln hx hb hl (x := (some this)) 0 rfl dX8_find_20 ?_
  refine xiln hx hb hl (x := a0) 1 rfl dX8_find_21 ?_
  refine xcV Z hR hS hl (rest := [va_rf x17]) (As := [.int a0]) hq cl_X8_126 (fun b x h1 hc => c_X8_legs l b a0 h x h1 hc) ⟨⟨rfl, rfl⟩, (by decide), (by decide)⟩ rfl rfl (by first | decide | (simp only [List.map_cons, List.map_nil, rf_cat, ct_int, ct_ref, List.sum_cons, List.sum_nil] <;> decide)) dX8_find_22 (by decide) (fun x22 h H locs hq hR hS => ?_)
  refine xaI Z hR hq dX8_find_25 (fun x25 hq => ?_)
  refine lv_goto (tgt := 30) hx hb dX8_find_26 (by decide) ?_
  exact t_X8_find_30 Z hr hlk hin x25 h _ _ ls hq hR hS (hl.sub [] rfl)
end
