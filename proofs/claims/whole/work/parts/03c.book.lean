theorem fl_X1_10 : FL RX1 10 2 0 := ⟨_, TX1, 2, "FreightPaths$Book", rfl, by decide, by decide +kernel, Or.inl rfl⟩
theorem fl_X1_16 : FL RX1 16 2 1 := ⟨_, TX1, 2, "FreightPaths$Book", rfl, by decide, by decide +kernel, Or.inl rfl⟩
theorem fl_X1_29 : FL RX1 29 1 8 := ⟨_, TX0, 14, "FreightPaths$Bid", rfl, by decide, by decide +kernel, Or.inl rfl⟩
theorem fl_X1_40 : FL RX1 40 1 10 := ⟨_, TX0, 14, "FreightPaths$Bid", rfl, by decide, by decide +kernel, Or.inl rfl⟩
theorem fl_X1_44 : FL RX1 44 1 7 := ⟨_, TX0, 14, "FreightPaths$Bid", rfl, by decide, by decide +kernel, Or.inl rfl⟩
theorem if_X1_2_0 : iF RX1 2 0 := fun _ _ _ z => by cases z; exact ⟨rfl, rfl⟩
theorem if_X1_2_1 : iF RX1 2 1 := fun _ _ _ z => by cases z; exact ⟨rfl, rfl⟩
theorem ck_X1_27 : (∃ T : u_T, vwCl[1]? = some ("FreightPaths$Bid", T, 14)) ∧ Cond.classLink RX1 27 "FreightPaths$Bid" ∈ GT := ⟨⟨TX0, rfl⟩, by decide +kernel⟩
theorem nl_X1_7 : NL RX1 7 "java/util/ArrayList" 0 3 := ⟨⟨TJx4a65c, rfl⟩, by decide +kernel, by decide +kernel, by decide +kernel⟩
theorem lk_X1_1 : Cond.methodLink RX1 1 objectInit ∈ GT := by decide +kernel
theorem me_Jx4a65c_init_da8c8 : Cond.instanceMethod yJx4a65c_init_da8c8 ∈ GT ∧ Cond.initialized RJx4a65c ∈ GT ∧ Cond.code yJx4a65c_init_da8c8 cJx4a65c_init_da8c8 1 none ∈ GT := ⟨by decide +kernel, by decide +kernel, by decide +kernel⟩
theorem cl_X1_9 : IL RX1 9 yJx4a65c_init_da8c8 cJx4a65c_init_da8c8 1 0 := ⟨⟨by decide +kernel, me_Jx4a65c_init_da8c8⟩, rfl, by decide, by decide, by decide +kernel⟩
theorem me_Jx4a65c_size_8abf5 : Cond.instanceMethod yJx4a65c_size_8abf5 ∈ GT ∧ Cond.selects RJx4a65c yJx4a65c_size_8abf5 yJx4a65c_size_8abf5 ∈ GT ∧ Cond.initialized RJx4a65c ∈ GT ∧ Cond.code yJx4a65c_size_8abf5 cJx4a65c_size_8abf5 1 (some .int) ∈ GT := ⟨by decide +kernel, by decide +kernel, by decide +kernel, by decide +kernel⟩
theorem cl_X1_19 : VL RX1 19 0 yJx4a65c_size_8abf5 cJx4a65c_size_8abf5 1 (some .int) 0 := ⟨⟨TJx4a65c, 3, rfl⟩, ⟨by decide +kernel, me_Jx4a65c_size_8abf5⟩, by decide, by decide, by decide +kernel⟩
theorem me_Jx4a65c_get_915e3 : Cond.instanceMethod yJx4a65c_get_915e3 ∈ GT ∧ Cond.selects RJx4a65c yJx4a65c_get_915e3 yJx4a65c_get_915e3 ∈ GT ∧ Cond.initialized RJx4a65c ∈ GT ∧ Cond.code yJx4a65c_get_915e3 cJx4a65c_get_915e3 2 (some (.object "java/lang/Object")) ∈ GT := ⟨by decide +kernel, by decide +kernel, by decide +kernel, by decide +kernel⟩
theorem cl_X1_23 : VL RX1 23 0 yJx4a65c_get_915e3 cJx4a65c_get_915e3 2 (some (.object "java/lang/Object")) 1 := ⟨⟨TJx4a65c, 3, rfl⟩, ⟨by decide +kernel, me_Jx4a65c_get_915e3⟩, by decide, by decide, by decide +kernel⟩
theorem me_Jx4a65c_add_7a177 : Cond.instanceMethod yJx4a65c_add_7a177 ∈ GT ∧ Cond.selects RJx4a65c yJx4a65c_add_7a177 yJx4a65c_add_7a177 ∈ GT ∧ Cond.initialized RJx4a65c ∈ GT ∧ Cond.code yJx4a65c_add_7a177 cJx4a65c_add_7a177 5 none ∈ GT := ⟨by decide +kernel, by decide +kernel, by decide +kernel, by decide +kernel⟩
theorem cl_X1_33 : VL RX1 33 0 yJx4a65c_add_7a177 cJx4a65c_add_7a177 5 none 2 := ⟨⟨TJx4a65c, 3, rfl⟩, ⟨by decide +kernel, me_Jx4a65c_add_7a177⟩, by decide, by decide, by decide +kernel⟩
theorem me_Jx4a65c_add_9ea2d : Cond.instanceMethod yJx4a65c_add_9ea2d ∈ GT ∧ Cond.selects RJx4a65c yJx4a65c_add_9ea2d yJx4a65c_add_9ea2d ∈ GT ∧ Cond.initialized RJx4a65c ∈ GT ∧ Cond.code yJx4a65c_add_9ea2d cJx4a65c_add_9ea2d 2 (some .boolean) ∈ GT := ⟨by decide +kernel, by decide +kernel, by decide +kernel, by decide +kernel⟩
theorem cl_X1_37 : VL RX1 37 0 yJx4a65c_add_9ea2d cJx4a65c_add_9ea2d 2 (some .boolean) 1 := ⟨⟨TJx4a65c, 3, rfl⟩, ⟨by decide +kernel, me_Jx4a65c_add_9ea2d⟩, by decide, by decide, by decide +kernel⟩
section
variable {p : Program} {l : Launch} {e : Env} {s : State} {m : MethodId} {args : Array Value} {below : List Frame} {meth : Method} {c : Code} {G : GG}
abbrev rm_X1_init : Room := { frames := 4, cells := 2, slots := 6, locals := 80 }
def f_X1_init (E : Nat × Nat) (this : Nat) (h : Hp) : Option (Unit × Hp) :=
nwO h 0 (fun n5 h =>
bd (f_Jx4a65c_init_da8c8 E n5 h) (fun u9 h =>
pR h (some this) 2 0 (some n5) (fun h =>
nwO h 0 (fun n16 h =>
bd (f_Jx4a65c_init_da8c8 E n16 h) (fun u20 h =>
pR h (some this) 2 1 (some n16) (fun h =>
rtV h))))))
set_option maxHeartbeats 4000000 in
set_option maxRecDepth 100000 in
theorem c_X1_init (l : Launch) {G : GG} (this : Nat) (h : Hp) (v : Unit) (h1 : Hp) (hq : f_X1_init G.1.2 this h = some (v, h1)) : Met l yX1_init (Cond.code yX1_init cX1_init 1 none :: GT) rm_X1_init (va_Pc [.ref this] (Cn G h)) (Qx G none h1) 2 6 (AA G) := by
  refine xMet (cc := cX1_init) (by decide) (Nat.le_of_ble_eq_true rfl) (List.forall_mem_cons.mpr ⟨rfl, (fun _ z => by cases z)⟩) ?_
  intro p e s m below meth c ls Z hr hlk hin hR hS hl
  have hx := Z.1
  have hb := Z.2.1
  have hl : LV ls 1 [(0, va_rf (some this))] := hl
  unfold f_X1_init at hq
  refine xaln hx hb hl (x := (some this)) 0 rfl dX1_init_0 ?_
  refine xoi Z hl lk_X1_1 (by decide) (by decide) dX1_init_1 ?_
  refine xaln hx hb hl (x := (some this)) 0 rfl dX1_init_4 ?_
  refine xnO Z hR hS hq nl_X1_7 (by decide) (by decide) dX1_init_5 (fun n5 h H hq hR hS => ?_)
  refine lv_dup hx hb dX1_init_8 (rf_cat (some n5)) ?_
  refine xcI Z hR hS hl (rest := [va_rf (some n5), va_rf (some this)]) (b := n5) (As := []) hq cl_X1_9 (fun x h1 hc => c_Jx4a65c_init_da8c8 l n5 h x h1 hc) ⟨⟨rfl, rfl⟩, (by decide), (by decide)⟩ rfl rfl (by first | decide | (simp only [List.map_cons, List.map_nil, rf_cat, ct_int, ct_ref, List.sum_cons, List.sum_nil] <;> decide)) dX1_init_9 (by decide) (fun u9 h H locs hq hR hS => ?_)
  refine xpR Z hR hS hq fl_X1_10 rfl (Or.inr ⟨if_X1_2_0, hin⟩) dX1_init_12 (fun h H locs hq hR hS => ?_)
  refine xaln hx hb hl (x := (some this)) 0 rfl dX1_init_15 ?_
  refine xnO Z hR hS hq nl_X1_7 (by decide) (by decide) dX1_init_16 (fun n16 h H hq hR hS => ?_)
  refine lv_dup hx hb dX1_init_19 (rf_cat (some n16)) ?_
  refine xcI Z hR hS hl (rest := [va_rf (some n16), va_rf (some this)]) (b := n16) (As := []) hq cl_X1_9 (fun x h1 hc => c_Jx4a65c_init_da8c8 l n16 h x h1 hc) ⟨⟨rfl, rfl⟩, (by decide), (by decide)⟩ rfl rfl (by first | decide | (simp only [List.map_cons, List.map_nil, rf_cat, ct_int, ct_ref, List.sum_cons, List.sum_nil] <;> decide)) dX1_init_20 (by decide) (fun u20 h H locs hq hR hS => ?_)
  refine xpR Z hR hS hq fl_X1_16 rfl (Or.inr ⟨if_X1_2_1, hin⟩) dX1_init_23 (fun h H locs hq hR hS => ?_)
  exact xrV hx hb hr hlk hR hS hq (by decide) (by decide) dX1_init_26
abbrev rm_X1_size : Room := { frames := 1, cells := 0, slots := 0, locals := 20 }
def f_X1_size (this : Nat) (h : Hp) : Option (Int32 × Hp) :=
gR h (some this) 2 0 (fun x1 =>
rcv h x1 0 (fun b4 => bd (f_Jx4a65c_size_8abf5 b4 h) (fun x4 h =>
rtI x4 h)))
set_option maxHeartbeats 4000000 in
set_option maxRecDepth 100000 in
theorem c_X1_size (l : Launch) {G : GG} (this : Nat) (h : Hp) (v : Int32) (h1 : Hp) (hq : f_X1_size this h = some (v, h1)) : Met l yX1_size (Cond.code yX1_size cX1_size 1 (some .int) :: GT) rm_X1_size (va_Pc [.ref this] (Cn G h)) (Qx G (some (.int v)) h1) 0 0 (AA G) := by
  refine xMet (cc := cX1_size) (by decide) (Nat.le_of_ble_eq_true rfl) (List.forall_mem_cons.mpr ⟨rfl, (fun _ z => by cases z)⟩) ?_
  intro p e s m below meth c ls Z hr hlk hin hR hS hl
  have hx := Z.1
  have hb := Z.2.1
  have hl : LV ls 1 [(0, va_rf (some this))] := hl
  unfold f_X1_size at hq
  refine xaln hx hb hl (x := (some this)) 0 rfl dX1_size_0 ?_
  refine xgR Z hR hq fl_X1_10 rfl dX1_size_1 (fun x1 hq => ?_)
  refine xcV Z hR hS hl (rest := []) (As := []) hq cl_X1_19 (fun b x h1 hc => c_Jx4a65c_size_8abf5 l b h x h1 hc) ⟨⟨rfl, rfl⟩, (by decide), (by decide)⟩ rfl rfl (by first | decide | (simp only [List.map_cons, List.map_nil, rf_cat, ct_int, ct_ref, List.sum_cons, List.sum_nil] <;> decide)) dX1_size_4 (by decide) (fun x4 h H locs hq hR hS => ?_)
  exact xrI hx hb hr hlk hR hS hq (by decide) (by decide) dX1_size_7
abbrev rm_X1_at : Room := { frames := 3, cells := 0, slots := 0, locals := 64 }
def f_X1_at_30  (s0 : Option Nat) (h : Hp) : Option (Option Nat × Hp) :=
rtR s0 h
set_option maxHeartbeats 4000000 in
set_option maxRecDepth 100000 in
theorem t_X1_at_30 (Z : ZZ p s m args c cX1_at RX1 2 G) (hr : meth.sig.returnType = (some (.object "FreightPaths$Bid"))) (hlk : meth.locks = false) (hin : meth.name = "at") {v : Option Nat} {h1 : Hp} : ∀ (s0 : Option Nat) (h : Hp) (H : Heap) (locs : List Loc) (ls : Array Slot), f_X1_at_30 s0 h = some (v, h1) → Rep G h H → va_S (AA G) s.heap H locs → LV ls 2 [] → W p l e rm_X1_at s m args below meth c H locs 0 0 (MQ below (Qx G (some (va_rf v)) h1) args s 0 0 (AA G)) (F0 m 30 ls [va_rf s0]) := by
  intro s0 h H locs ls hq hR hS hl
  have hx := Z.1
  have hb := Z.2.1
  unfold f_X1_at_30 at hq
  exact xrR hx hb hr (by first | exact Or.inl ⟨_, rfl⟩ | exact Or.inr ⟨_, rfl⟩) hlk hR hS hq (by decide) (by decide) dX1_at_30
def f_X1_at_29   (h : Hp) : Option (Option Nat × Hp) :=
f_X1_at_30 none h
set_option maxHeartbeats 4000000 in
set_option maxRecDepth 100000 in
theorem t_X1_at_29 (Z : ZZ p s m args c cX1_at RX1 2 G) (hr : meth.sig.returnType = (some (.object "FreightPaths$Bid"))) (hlk : meth.locks = false) (hin : meth.name = "at") {v : Option Nat} {h1 : Hp} : ∀  (h : Hp) (H : Heap) (locs : List Loc) (ls : Array Slot), f_X1_at_29  h = some (v, h1) → Rep G h H → va_S (AA G) s.heap H locs → LV ls 2 [] → W p l e rm_X1_at s m args below meth c H locs 0 0 (MQ below (Qx G (some (va_rf v)) h1) args s 0 0 (AA G)) (F0 m 29 ls []) := by
  intro  h H locs ls hq hR hS hl
  have hx := Z.1
  have hb := Z.2.1
  unfold f_X1_at_29 at hq
  refine lv_null hx hb dX1_at_29 ?_
  exact t_X1_at_30 Z hr hlk hin none h H locs ls hq hR hS (hl.sub [] rfl)
def f_X1_at (this : Nat) (a0 : Int32) (h : Hp) : Option (Option Nat × Hp) :=
(if a0 < 0 then
f_X1_at_29  h
else
gR h (some this) 2 0 (fun x6 =>
rcv h x6 0 (fun b9 => bd (f_Jx4a65c_size_8abf5 b9 h) (fun x9 h =>
(if x9 ≤ a0 then
f_X1_at_29  h
else
gR h (some this) 2 0 (fun x16 =>
rcv h x16 0 (fun b20 => bd (f_Jx4a65c_get_915e3 b20 a0 h) (fun x20 h =>
ckc h x20 1 (
f_X1_at_30 x20 h)))))))))
set_option maxHeartbeats 4000000 in
set_option maxRecDepth 100000 in
theorem c_X1_at (l : Launch) {G : GG} (this : Nat) (a0 : Int32) (h : Hp) (v : Option Nat) (h1 : Hp) (hq : f_X1_at this a0 h = some (v, h1)) : Met l yX1_at (Cond.code yX1_at cX1_at 2 (some (.object "FreightPaths$Bid")) :: GT) rm_X1_at (va_Pc [.ref this, .int a0] (Cn G h)) (Qx G (some (va_rf v)) h1) 0 0 (AA G) := by
  refine xMet (cc := cX1_at) (by decide) (Nat.le_of_ble_eq_true rfl) (List.forall_mem_cons.mpr ⟨rfl, (List.forall_mem_cons.mpr ⟨rfl, (fun _ z => by cases z)⟩)⟩) ?_
  intro p e s m below meth c ls Z hr hlk hin hR hS hl
  have hx := Z.1
  have hb := Z.2.1
  have hl : LV ls 2 [(0, va_rf (some this)), (1, .int a0)] := hl
  unfold f_X1_at at hq
  refine xiln hx hb hl (x := a0) 1 rfl dX1_at_0 ?_
  refine xzLt hx hb hq (tgt := 29) dX1_at_1 (by decide) (fun hq => ?_) (fun hq => ?_)
  · exact t_X1_at_29 Z hr hlk hin  h _ _ ls hq hR hS (hl.sub [] rfl)
  refine xiln hx hb hl (x := a0) 1 rfl dX1_at_4 ?_
  refine xaln hx hb hl (x := (some this)) 0 rfl dX1_at_5 ?_
  refine xgR Z hR hq fl_X1_10 rfl dX1_at_6 (fun x6 hq => ?_)
  refine xcV Z hR hS hl (rest := [.int a0]) (As := []) hq cl_X1_19 (fun b x h1 hc => c_Jx4a65c_size_8abf5 l b h x h1 hc) ⟨⟨rfl, rfl⟩, (by decide), (by decide)⟩ rfl rfl (by first | decide | (simp only [List.map_cons, List.map_nil, rf_cat, ct_int, ct_ref, List.sum_cons, List.sum_nil] <;> decide)) dX1_at_9 (by decide) (fun x9 h H locs hq hR hS => ?_)
  refine xcGe hx hb hq (tgt := 29) dX1_at_12 (by decide) (fun hq => ?_) (fun hq => ?_)
  · exact t_X1_at_29 Z hr hlk hin  h _ _ ls hq hR hS (hl.sub [] rfl)
  refine xaln hx hb hl (x := (some this)) 0 rfl dX1_at_15 ?_
  refine xgR Z hR hq fl_X1_10 rfl dX1_at_16 (fun x16 hq => ?_)
  refine xiln hx hb hl (x := a0) 1 rfl dX1_at_19 ?_
  refine xcV Z hR hS hl (rest := []) (As := [.int a0]) hq cl_X1_23 (fun b x h1 hc => c_Jx4a65c_get_915e3 l b a0 h x h1 hc) ⟨⟨rfl, rfl⟩, (by decide), (by decide)⟩ rfl rfl (by first | decide | (simp only [List.map_cons, List.map_nil, rf_cat, ct_int, ct_ref, List.sum_cons, List.sum_nil] <;> decide)) dX1_at_20 (by decide) (fun x20 h H locs hq hR hS => ?_)
  refine xck Z hR hq ck_X1_27 dX1_at_23 (fun hq => ?_)
  refine lv_goto (tgt := 30) hx hb dX1_at_26 (by decide) ?_
  exact t_X1_at_30 Z hr hlk hin x20 h _ _ ls hq hR hS (hl.sub [] rfl)
abbrev rm_X1_add : Room := { frames := 7, cells := 2, slots := 200, locals := 171 }
def f_X1_add_41  (E : Nat × Nat) (l0 : Option Nat) (l1 : Option Nat) (l2 : Int32) (h : Hp) : Option (Unit × Hp) :=
gR h l0 2 1 (fun x42 =>
rcv h x42 0 (fun b47 => bd (f_Jx4a65c_add_7a177 E b47 l2 l1 h) (fun u47 h =>
gR h l0 2 0 (fun x51 =>
rcv h x51 0 (fun b55 => bd (f_Jx4a65c_add_9ea2d E b55 l1 h) (fun x55 h =>
rtV h))))))
set_option maxHeartbeats 4000000 in
set_option maxRecDepth 100000 in
theorem t_X1_add_41 (Z : ZZ p s m args c cX1_add RX1 3 G) (hr : meth.sig.returnType = none) (hlk : meth.locks = false) (hin : meth.name = "add") {v : Unit} {h1 : Hp} : ∀ (l0 : Option Nat) (l1 : Option Nat) (l2 : Int32) (h : Hp) (H : Heap) (locs : List Loc) (ls : Array Slot), f_X1_add_41 G.1.2 l0 l1 l2 h = some (v, h1) → Rep G h H → va_S (AA G) s.heap H locs → LV ls 3 [(0, va_rf l0), (1, va_rf l1), (2, .int l2)] → W p l e rm_X1_add s m args below meth c H locs 0 0 (MQ below (Qx G none h1) args s 2 200 (AA G)) (F0 m 41 ls []) := by
  intro l0 l1 l2 h H locs ls hq hR hS hl
  have hx := Z.1
  have hb := Z.2.1
  unfold f_X1_add_41 at hq
  refine xaln hx hb hl (x := l0) 0 rfl dX1_add_41 ?_
  refine xgR Z hR hq fl_X1_16 rfl dX1_add_42 (fun x42 hq => ?_)
  refine xiln hx hb hl (x := l2) 2 rfl dX1_add_45 ?_
  refine xaln hx hb hl (x := l1) 1 rfl dX1_add_46 ?_
  refine xcV Z hR hS hl (rest := []) (As := [.int l2, va_rf l1]) hq cl_X1_33 (fun b x h1 hc => c_Jx4a65c_add_7a177 l b l2 l1 h x h1 hc) ⟨⟨rfl, rfl⟩, (by decide), (by decide)⟩ rfl rfl (by first | decide | (simp only [List.map_cons, List.map_nil, rf_cat, ct_int, ct_ref, List.sum_cons, List.sum_nil] <;> decide)) dX1_add_47 (by decide) (fun u47 h H locs hq hR hS => ?_)
  refine xaln hx hb hl (x := l0) 0 rfl dX1_add_50 ?_
  refine xgR Z hR hq fl_X1_10 rfl dX1_add_51 (fun x51 hq => ?_)
  refine xaln hx hb hl (x := l1) 1 rfl dX1_add_54 ?_
  refine xcV Z hR hS hl (rest := []) (As := [va_rf l1]) hq cl_X1_37 (fun b x h1 hc => c_Jx4a65c_add_9ea2d l b l1 h x h1 hc) ⟨⟨rfl, rfl⟩, (by decide), (by decide)⟩ rfl rfl (by first | decide | (simp only [List.map_cons, List.map_nil, rf_cat, ct_int, ct_ref, List.sum_cons, List.sum_nil] <;> decide)) dX1_add_55 (by decide) (fun x55 h H locs hq hR hS => ?_)
  refine lv_pop hx hb dX1_add_58 rfl ?_
  exact xrV hx hb hr hlk hR hS hq (by decide) (by decide) dX1_add_59
def fb_X1_add_8  (k8 : Option Nat × Option Nat × Int32 × Hp → Option (Unit × Hp)) (E : Nat × Nat) (l0 : Option Nat) (l1 : Option Nat) (l2 : Int32) (h : Hp) : Option (Unit × Hp) :=
(if l2 ≤ 0 then
f_X1_add_41 E l0 l1 l2 h
else
gR h l0 2 1 (fun x13 =>
rcv h x13 0 (fun b19 => bd (f_Jx4a65c_get_915e3 b19 (l2 - 1) h) (fun x19 h =>
ckc h x19 1 (
gI h x19 1 8 (fun x25 =>
gI h l1 1 8 (fun x29 =>
(if x25 ≤ x29 then
f_X1_add_41 E l0 l1 l2 h
else
k8 (l0, l1, (l2 + (-1)), h)))))))))
set_option maxHeartbeats 4000000 in
set_option maxRecDepth 100000 in
theorem tb_X1_add_8 (Z : ZZ p s m args c cX1_add RX1 3 G) (hr : meth.sig.returnType = none) (hlk : meth.locks = false) (hin : meth.name = "add") {v : Unit} {h1 : Hp} {k8 : Option Nat × Option Nat × Int32 × Hp → Option (Unit × Hp)} (hk8 : ∀ u : Option Nat × Option Nat × Int32 × Hp, k8 u = some (v, h1) → ∀ (H : Heap) (locs : List Loc) (ls : Array Slot), Rep G u.2.2.2 H → va_S (AA G) s.heap H locs → LV ls 3 [(0, va_rf u.1), (1, va_rf u.2.1), (2, .int u.2.2.1)] → W p l e rm_X1_add s m args below meth c H locs 0 0 (MQ below (Qx G none h1) args s 2 200 (AA G)) (F0 m 8 ls [])) : ∀ (l0 : Option Nat) (l1 : Option Nat) (l2 : Int32) (h : Hp) (H : Heap) (locs : List Loc) (ls : Array Slot), fb_X1_add_8 k8 G.1.2 l0 l1 l2 h = some (v, h1) → Rep G h H → va_S (AA G) s.heap H locs → LV ls 3 [(0, va_rf l0), (1, va_rf l1), (2, .int l2)] → W p l e rm_X1_add s m args below meth c H locs 0 0 (MQ below (Qx G none h1) args s 2 200 (AA G)) (F0 m 8 ls []) := by
  intro l0 l1 l2 h H locs ls hq hR hS hl
  have hx := Z.1
  have hb := Z.2.1
  unfold fb_X1_add_8 at hq
  refine xiln hx hb hl (x := l2) 2 rfl dX1_add_8 ?_
  refine xzLe hx hb hq (tgt := 41) dX1_add_9 (by decide) (fun hq => ?_) (fun hq => ?_)
  · exact t_X1_add_41 Z hr hlk hin l0 l1 l2 h H locs ls hq hR hS (hl.sub [0, 1, 2] rfl)
  refine xaln hx hb hl (x := l0) 0 rfl dX1_add_12 ?_
  refine xgR Z hR hq fl_X1_16 rfl dX1_add_13 (fun x13 hq => ?_)
  refine xiln hx hb hl (x := l2) 2 rfl dX1_add_16 ?_
  refine lv_iconst (v := 1) hx hb dX1_add_17 (by decide) ?_
  refine lv_isub hx hb dX1_add_18 ?_
  refine xcV Z hR hS hl (rest := []) (As := [.int (l2 - 1)]) hq cl_X1_23 (fun b x h1 hc => c_Jx4a65c_get_915e3 l b (l2 - 1) h x h1 hc) ⟨⟨rfl, rfl⟩, (by decide), (by decide)⟩ rfl rfl (by first | decide | (simp only [List.map_cons, List.map_nil, rf_cat, ct_int, ct_ref, List.sum_cons, List.sum_nil] <;> decide)) dX1_add_19 (by decide) (fun x19 h H locs hq hR hS => ?_)
  refine xck Z hR hq ck_X1_27 dX1_add_22 (fun hq => ?_)
  refine xgI Z hR hq fl_X1_29 rfl dX1_add_25 (fun x25 hq => ?_)
  refine xaln hx hb hl (x := l1) 1 rfl dX1_add_28 ?_
  refine xgI Z hR hq fl_X1_29 rfl dX1_add_29 (fun x29 hq => ?_)
  refine xcLe hx hb hq (tgt := 41) dX1_add_32 (by decide) (fun hq => ?_) (fun hq => ?_)
  · exact t_X1_add_41 Z hr hlk hin l0 l1 l2 h H locs ls hq hR hS (hl.sub [0, 1, 2] rfl)
  refine xinc hx hb hl (x := l2) (v := (l2 + (-1))) (lv' := [(2, .int (l2 + (-1))), (0, va_rf l0), (1, va_rf l1)]) 2 rfl (by rw [show Int32.ofInt (-1) = (-1 : Int32) from by decide]) (by decide) dX1_add_35 rfl (fun ls hl => ?_)
  refine lv_goto (tgt := 8) hx hb dX1_add_38 (by decide) ?_
  exact hk8 (l0, l1, (l2 + (-1)), h) hq H locs ls hR hS (hl.sub [1, 2, 0] rfl)
def f_X1_add_8  (E : Nat × Nat) (l0 : Option Nat) (l1 : Option Nat) (l2 : Int32) (h : Hp) : Option (Unit × Hp) :=
  lp (fun (k8 : Option Nat × Option Nat × Int32 × Hp → Option (Unit × Hp)) (u : Option Nat × Option Nat × Int32 × Hp) => fb_X1_add_8 k8 E u.1 u.2.1 u.2.2.1 u.2.2.2) FU (l0, l1, l2, h)
theorem t_X1_add_8 (Z : ZZ p s m args c cX1_add RX1 3 G) (hr : meth.sig.returnType = none) (hlk : meth.locks = false) (hin : meth.name = "add") {v : Unit} {h1 : Hp} : ∀ (l0 : Option Nat) (l1 : Option Nat) (l2 : Int32) (h : Hp) (H : Heap) (locs : List Loc) (ls : Array Slot), f_X1_add_8 G.1.2 l0 l1 l2 h = some (v, h1) → Rep G h H → va_S (AA G) s.heap H locs → LV ls 3 [(0, va_rf l0), (1, va_rf l1), (2, .int l2)] → W p l e rm_X1_add s m args below meth c H locs 0 0 (MQ below (Qx G none h1) args s 2 200 (AA G)) (F0 m 8 ls []) := by
  intro l0 l1 l2 h H locs ls hq hR hS hl
  exact lp_ind (P := fun u : Option Nat × Option Nat × Int32 × Hp => ∀ (H : Heap) (locs : List Loc) (ls : Array Slot), Rep G u.2.2.2 H → va_S (AA G) s.heap H locs → LV ls 3 [(0, va_rf u.1), (1, va_rf u.2.1), (2, .int u.2.2.1)] → W p l e rm_X1_add s m args below meth c H locs 0 0 (MQ below (Qx G none h1) args s 2 200 (AA G)) (F0 m 8 ls [])) (fun k hk u hq H locs ls hR hS hl => tb_X1_add_8 Z hr hlk hin hk u.1 u.2.1 u.2.2.1 u.2.2.2 H locs ls hq hR hS hl) FU (l0, l1, l2, h) hq H locs ls hR hS hl
def f_X1_add (E : Nat × Nat) (this : Nat) (a0 : Option Nat) (h : Hp) : Option (Unit × Hp) :=
gR h (some this) 2 1 (fun x1 =>
rcv h x1 0 (fun b4 => bd (f_Jx4a65c_size_8abf5 b4 h) (fun x4 h =>
f_X1_add_8 E (some this) a0 x4 h)))
set_option maxHeartbeats 4000000 in
set_option maxRecDepth 100000 in
theorem c_X1_add (l : Launch) {G : GG} (this : Nat) (a0 : Option Nat) (h : Hp) (v : Unit) (h1 : Hp) (hq : f_X1_add G.1.2 this a0 h = some (v, h1)) : Met l yX1_add (Cond.code yX1_add cX1_add 3 none :: GT) rm_X1_add (va_Pc [.ref this, va_rf a0] (Cn G h)) (Qx G none h1) 2 200 (AA G) := by
  refine xMet (cc := cX1_add) (by decide) (Nat.le_of_ble_eq_true rfl) (List.forall_mem_cons.mpr ⟨rfl, (List.forall_mem_cons.mpr ⟨(rf_cat a0), (fun _ z => by cases z)⟩)⟩) ?_
  intro p e s m below meth c ls Z hr hlk hin hR hS hl
  have hx := Z.1
  have hb := Z.2.1
  have hl : LV ls 3 [(0, va_rf (some this)), (1, va_rf a0)] := hl
  unfold f_X1_add at hq
  refine xaln hx hb hl (x := (some this)) 0 rfl dX1_add_0 ?_
  refine xgR Z hR hq fl_X1_16 rfl dX1_add_1 (fun x1 hq => ?_)
  refine xcV Z hR hS hl (rest := []) (As := []) hq cl_X1_19 (fun b x h1 hc => c_Jx4a65c_size_8abf5 l b h x h1 hc) ⟨⟨rfl, rfl⟩, (by decide), (by decide)⟩ rfl rfl (by first | decide | (simp only [List.map_cons, List.map_nil, rf_cat, ct_int, ct_ref, List.sum_cons, List.sum_nil] <;> decide)) dX1_add_4 (by decide) (fun x4 h H locs hq hR hS => ?_)
  refine xisn hx hb hl (x := x4) (lv' := [(2, .int x4), (0, va_rf (some this)), (1, va_rf a0)]) (by decide) dX1_add_7 rfl (fun ls hl => ?_)
  exact t_X1_add_8 Z hr hlk hin (some this) a0 x4 h _ _ ls hq hR hS (hl.sub [1, 2, 0] rfl)
abbrev rm_X1_dropAll : Room := { frames := 3, cells := 0, slots := 0, locals := 64 }
def fb_X1_dropAll_2  (k2 : Option Nat × Int32 × Hp → Option (Unit × Hp)) (l0 : Option Nat) (l1 : Int32) (h : Hp) : Option (Unit × Hp) :=
gR h l0 2 0 (fun x4 =>
rcv h x4 0 (fun b7 => bd (f_Jx4a65c_size_8abf5 b7 h) (fun x7 h =>
(if x7 ≤ l1 then
rtV h
else
gR h l0 2 0 (fun x14 =>
rcv h x14 0 (fun b18 => bd (f_Jx4a65c_get_915e3 b18 l1 h) (fun x18 h =>
ckc h x18 1 (
pZ h x18 1 10 0 (fun h =>
k2 (l0, (l1 + 1), h))))))))))
set_option maxHeartbeats 4000000 in
set_option maxRecDepth 100000 in
theorem tb_X1_dropAll_2 (Z : ZZ p s m args c cX1_dropAll RX1 2 G) (hr : meth.sig.returnType = none) (hlk : meth.locks = false) (hin : meth.name = "dropAll") {v : Unit} {h1 : Hp} {k2 : Option Nat × Int32 × Hp → Option (Unit × Hp)} (hk2 : ∀ u : Option Nat × Int32 × Hp, k2 u = some (v, h1) → ∀ (H : Heap) (locs : List Loc) (ls : Array Slot), Rep G u.2.2 H → va_S (AA G) s.heap H locs → LV ls 2 [(0, va_rf u.1), (1, .int u.2.1)] → W p l e rm_X1_dropAll s m args below meth c H locs 0 0 (MQ below (Qx G none h1) args s 0 0 (AA G)) (F0 m 2 ls [])) : ∀ (l0 : Option Nat) (l1 : Int32) (h : Hp) (H : Heap) (locs : List Loc) (ls : Array Slot), fb_X1_dropAll_2 k2 l0 l1 h = some (v, h1) → Rep G h H → va_S (AA G) s.heap H locs → LV ls 2 [(0, va_rf l0), (1, .int l1)] → W p l e rm_X1_dropAll s m args below meth c H locs 0 0 (MQ below (Qx G none h1) args s 0 0 (AA G)) (F0 m 2 ls []) := by
  intro l0 l1 h H locs ls hq hR hS hl
  have hx := Z.1
  have hb := Z.2.1
  unfold fb_X1_dropAll_2 at hq
  refine xiln hx hb hl (x := l1) 1 rfl dX1_dropAll_2 ?_
  refine xaln hx hb hl (x := l0) 0 rfl dX1_dropAll_3 ?_
  refine xgR Z hR hq fl_X1_10 rfl dX1_dropAll_4 (fun x4 hq => ?_)
  refine xcV Z hR hS hl (rest := [.int l1]) (As := []) hq cl_X1_19 (fun b x h1 hc => c_Jx4a65c_size_8abf5 l b h x h1 hc) ⟨⟨rfl, rfl⟩, (by decide), (by decide)⟩ rfl rfl (by first | decide | (simp only [List.map_cons, List.map_nil, rf_cat, ct_int, ct_ref, List.sum_cons, List.sum_nil] <;> decide)) dX1_dropAll_7 (by decide) (fun x7 h H locs hq hR hS => ?_)
  refine xcGe hx hb hq (tgt := 34) dX1_dropAll_10 (by decide) (fun hq => ?_) (fun hq => ?_)
  · exact xrV hx hb hr hlk hR hS hq (by decide) (by decide) dX1_dropAll_34
  refine xaln hx hb hl (x := l0) 0 rfl dX1_dropAll_13 ?_
  refine xgR Z hR hq fl_X1_10 rfl dX1_dropAll_14 (fun x14 hq => ?_)
  refine xiln hx hb hl (x := l1) 1 rfl dX1_dropAll_17 ?_
  refine xcV Z hR hS hl (rest := []) (As := [.int l1]) hq cl_X1_23 (fun b x h1 hc => c_Jx4a65c_get_915e3 l b l1 h x h1 hc) ⟨⟨rfl, rfl⟩, (by decide), (by decide)⟩ rfl rfl (by first | decide | (simp only [List.map_cons, List.map_nil, rf_cat, ct_int, ct_ref, List.sum_cons, List.sum_nil] <;> decide)) dX1_dropAll_18 (by decide) (fun x18 h H locs hq hR hS => ?_)
  refine xck Z hR hq ck_X1_27 dX1_dropAll_21 (fun hq => ?_)
  refine lv_iconst (v := 0) hx hb dX1_dropAll_24 (by decide) ?_
  refine xpZ Z hR hS hq fl_X1_40 rfl (Or.inl nf_1_10) dX1_dropAll_25 (fun h H locs hq hR hS => ?_)
  refine xinc hx hb hl (x := l1) (v := (l1 + 1)) (lv' := [(1, .int (l1 + 1)), (0, va_rf l0)]) 1 rfl (by rw [show Int32.ofInt (1) = (1 : Int32) from by decide]) (by decide) dX1_dropAll_28 rfl (fun ls hl => ?_)
  refine lv_goto (tgt := 2) hx hb dX1_dropAll_31 (by decide) ?_
  exact hk2 (l0, (l1 + 1), h) hq H locs ls hR hS (hl.sub [1, 0] rfl)
def f_X1_dropAll_2  (l0 : Option Nat) (l1 : Int32) (h : Hp) : Option (Unit × Hp) :=
  lp (fun (k2 : Option Nat × Int32 × Hp → Option (Unit × Hp)) (u : Option Nat × Int32 × Hp) => fb_X1_dropAll_2 k2 u.1 u.2.1 u.2.2) FU (l0, l1, h)
theorem t_X1_dropAll_2 (Z : ZZ p s m args c cX1_dropAll RX1 2 G) (hr : meth.sig.returnType = none) (hlk : meth.locks = false) (hin : meth.name = "dropAll") {v : Unit} {h1 : Hp} : ∀ (l0 : Option Nat) (l1 : Int32) (h : Hp) (H : Heap) (locs : List Loc) (ls : Array Slot), f_X1_dropAll_2 l0 l1 h = some (v, h1) → Rep G h H → va_S (AA G) s.heap H locs → LV ls 2 [(0, va_rf l0), (1, .int l1)] → W p l e rm_X1_dropAll s m args below meth c H locs 0 0 (MQ below (Qx G none h1) args s 0 0 (AA G)) (F0 m 2 ls []) := by
  intro l0 l1 h H locs ls hq hR hS hl
  exact lp_ind (P := fun u : Option Nat × Int32 × Hp => ∀ (H : Heap) (locs : List Loc) (ls : Array Slot), Rep G u.2.2 H → va_S (AA G) s.heap H locs → LV ls 2 [(0, va_rf u.1), (1, .int u.2.1)] → W p l e rm_X1_dropAll s m args below meth c H locs 0 0 (MQ below (Qx G none h1) args s 0 0 (AA G)) (F0 m 2 ls [])) (fun k hk u hq H locs ls hR hS hl => tb_X1_dropAll_2 Z hr hlk hin hk u.1 u.2.1 u.2.2 H locs ls hq hR hS hl) FU (l0, l1, h) hq H locs ls hR hS hl
def f_X1_dropAll (this : Nat) (h : Hp) : Option (Unit × Hp) :=
f_X1_dropAll_2 (some this) 0 h
set_option maxHeartbeats 4000000 in
set_option maxRecDepth 100000 in
theorem c_X1_dropAll (l : Launch) {G : GG} (this : Nat) (h : Hp) (v : Unit) (h1 : Hp) (hq : f_X1_dropAll this h = some (v, h1)) : Met l yX1_dropAll (Cond.code yX1_dropAll cX1_dropAll 2 none :: GT) rm_X1_dropAll (va_Pc [.ref this] (Cn G h)) (Qx G none h1) 0 0 (AA G) := by
  refine xMet (cc := cX1_dropAll) (by decide) (Nat.le_of_ble_eq_true rfl) (List.forall_mem_cons.mpr ⟨rfl, (fun _ z => by cases z)⟩) ?_
  intro p e s m below meth c ls Z hr hlk hin hR hS hl
  have hx := Z.1
  have hb := Z.2.1
  have hl : LV ls 2 [(0, va_rf (some this))] := hl
  unfold f_X1_dropAll at hq
  refine lv_iconst (v := 0) hx hb dX1_dropAll_0 (by decide) ?_
  refine xisn hx hb hl (x := 0) (lv' := [(1, .int 0), (0, va_rf (some this))]) (by decide) dX1_dropAll_1 rfl (fun ls hl => ?_)
  exact t_X1_dropAll_2 Z hr hlk hin (some this) 0 h _ _ ls hq hR hS (hl.sub [1, 0] rfl)
abbrev rm_X1_pathsGiven : Room := { frames := 3, cells := 0, slots := 0, locals := 64 }
def f_X1_pathsGiven_38  (k4 : Option Nat × Int32 × Int32 × Hp → Option (Int32 × Hp)) (s0 : Int32) (s1 : Int32) (l0 : Option Nat) (l2 : Int32) (h : Hp) : Option (Int32 × Hp) :=
k4 (l0, (s0 + s1), (l2 + 1), h)
set_option maxHeartbeats 4000000 in
set_option maxRecDepth 100000 in
theorem t_X1_pathsGiven_38 (Z : ZZ p s m args c cX1_pathsGiven RX1 3 G) (hr : meth.sig.returnType = (some .int)) (hlk : meth.locks = false) (hin : meth.name = "pathsGiven") {v : Int32} {h1 : Hp} {k4 : Option Nat × Int32 × Int32 × Hp → Option (Int32 × Hp)} (hk4 : ∀ u : Option Nat × Int32 × Int32 × Hp, k4 u = some (v, h1) → ∀ (H : Heap) (locs : List Loc) (ls : Array Slot), Rep G u.2.2.2 H → va_S (AA G) s.heap H locs → LV ls 3 [(0, va_rf u.1), (1, .int u.2.1), (2, .int u.2.2.1)] → W p l e rm_X1_pathsGiven s m args below meth c H locs 0 0 (MQ below (Qx G (some (.int v)) h1) args s 0 0 (AA G)) (F0 m 4 ls [])) : ∀ (s0 : Int32) (s1 : Int32) (l0 : Option Nat) (l2 : Int32) (h : Hp) (H : Heap) (locs : List Loc) (ls : Array Slot), f_X1_pathsGiven_38 k4 s0 s1 l0 l2 h = some (v, h1) → Rep G h H → va_S (AA G) s.heap H locs → LV ls 3 [(0, va_rf l0), (2, .int l2)] → W p l e rm_X1_pathsGiven s m args below meth c H locs 0 0 (MQ below (Qx G (some (.int v)) h1) args s 0 0 (AA G)) (F0 m 38 ls [.int s1, .int s0]) := by
  intro s0 s1 l0 l2 h H locs ls hq hR hS hl
  have hx := Z.1
  have hb := Z.2.1
  unfold f_X1_pathsGiven_38 at hq
  refine lv_iadd hx hb dX1_pathsGiven_38 ?_
  refine xisn hx hb hl (x := (s0 + s1)) (lv' := [(1, .int (s0 + s1)), (0, va_rf l0), (2, .int l2)]) (by decide) dX1_pathsGiven_39 rfl (fun ls hl => ?_)
  refine xinc hx hb hl (x := l2) (v := (l2 + 1)) (lv' := [(2, .int (l2 + 1)), (1, .int (s0 + s1)), (0, va_rf l0)]) 2 rfl (by rw [show Int32.ofInt (1) = (1 : Int32) from by decide]) (by decide) dX1_pathsGiven_40 rfl (fun ls hl => ?_)
  refine lv_goto (tgt := 4) hx hb dX1_pathsGiven_43 (by decide) ?_
  exact hk4 (l0, (s0 + s1), (l2 + 1), h) hq H locs ls hR hS (hl.sub [2, 1, 0] rfl)
def fb_X1_pathsGiven_4  (k4 : Option Nat × Int32 × Int32 × Hp → Option (Int32 × Hp)) (l0 : Option Nat) (l1 : Int32) (l2 : Int32) (h : Hp) : Option (Int32 × Hp) :=
gR h l0 2 0 (fun x6 =>
rcv h x6 0 (fun b9 => bd (f_Jx4a65c_size_8abf5 b9 h) (fun x9 h =>
(if x9 ≤ l2 then
rtI l1 h
else
gR h l0 2 0 (fun x17 =>
rcv h x17 0 (fun b21 => bd (f_Jx4a65c_get_915e3 b21 l2 h) (fun x21 h =>
ckc h x21 1 (
gI h x21 1 10 (fun x27 =>
(if x27 = 0 then
f_X1_pathsGiven_38 k4 l1 0 l0 l2 h
else
f_X1_pathsGiven_38 k4 l1 1 l0 l2 h))))))))))
set_option maxHeartbeats 4000000 in
set_option maxRecDepth 100000 in
theorem tb_X1_pathsGiven_4 (Z : ZZ p s m args c cX1_pathsGiven RX1 3 G) (hr : meth.sig.returnType = (some .int)) (hlk : meth.locks = false) (hin : meth.name = "pathsGiven") {v : Int32} {h1 : Hp} {k4 : Option Nat × Int32 × Int32 × Hp → Option (Int32 × Hp)} (hk4 : ∀ u : Option Nat × Int32 × Int32 × Hp, k4 u = some (v, h1) → ∀ (H : Heap) (locs : List Loc) (ls : Array Slot), Rep G u.2.2.2 H → va_S (AA G) s.heap H locs → LV ls 3 [(0, va_rf u.1), (1, .int u.2.1), (2, .int u.2.2.1)] → W p l e rm_X1_pathsGiven s m args below meth c H locs 0 0 (MQ below (Qx G (some (.int v)) h1) args s 0 0 (AA G)) (F0 m 4 ls [])) : ∀ (l0 : Option Nat) (l1 : Int32) (l2 : Int32) (h : Hp) (H : Heap) (locs : List Loc) (ls : Array Slot), fb_X1_pathsGiven_4 k4 l0 l1 l2 h = some (v, h1) → Rep G h H → va_S (AA G) s.heap H locs → LV ls 3 [(0, va_rf l0), (1, .int l1), (2, .int l2)] → W p l e rm_X1_pathsGiven s m args below meth c H locs 0 0 (MQ below (Qx G (some (.int v)) h1) args s 0 0 (AA G)) (F0 m 4 ls []) := by
  intro l0 l1 l2 h H locs ls hq hR hS hl
  have hx := Z.1
  have hb := Z.2.1
  unfold fb_X1_pathsGiven_4 at hq
  refine xiln hx hb hl (x := l2) 2 rfl dX1_pathsGiven_4 ?_
  refine xaln hx hb hl (x := l0) 0 rfl dX1_pathsGiven_5 ?_
  refine xgR Z hR hq fl_X1_10 rfl dX1_pathsGiven_6 (fun x6 hq => ?_)
  refine xcV Z hR hS hl (rest := [.int l2]) (As := []) hq cl_X1_19 (fun b x h1 hc => c_Jx4a65c_size_8abf5 l b h x h1 hc) ⟨⟨rfl, rfl⟩, (by decide), (by decide)⟩ rfl rfl (by first | decide | (simp only [List.map_cons, List.map_nil, rf_cat, ct_int, ct_ref, List.sum_cons, List.sum_nil] <;> decide)) dX1_pathsGiven_9 (by decide) (fun x9 h H locs hq hR hS => ?_)
  refine xcGe hx hb hq (tgt := 46) dX1_pathsGiven_12 (by decide) (fun hq => ?_) (fun hq => ?_)
  · refine xiln hx hb hl (x := l1) 1 rfl dX1_pathsGiven_46 ?_
    exact xrI hx hb hr hlk hR hS hq (by decide) (by decide) dX1_pathsGiven_47
  refine xiln hx hb hl (x := l1) 1 rfl dX1_pathsGiven_15 ?_
  refine xaln hx hb hl (x := l0) 0 rfl dX1_pathsGiven_16 ?_
  refine xgR Z hR hq fl_X1_10 rfl dX1_pathsGiven_17 (fun x17 hq => ?_)
  refine xiln hx hb hl (x := l2) 2 rfl dX1_pathsGiven_20 ?_
  refine xcV Z hR hS hl (rest := [.int l1]) (As := [.int l2]) hq cl_X1_23 (fun b x h1 hc => c_Jx4a65c_get_915e3 l b l2 h x h1 hc) ⟨⟨rfl, rfl⟩, (by decide), (by decide)⟩ rfl rfl (by first | decide | (simp only [List.map_cons, List.map_nil, rf_cat, ct_int, ct_ref, List.sum_cons, List.sum_nil] <;> decide)) dX1_pathsGiven_21 (by decide) (fun x21 h H locs hq hR hS => ?_)
  refine xck Z hR hq ck_X1_27 dX1_pathsGiven_24 (fun hq => ?_)
  refine xgI Z hR hq fl_X1_40 rfl dX1_pathsGiven_27 (fun x27 hq => ?_)
  refine xzEq hx hb hq (tgt := 37) dX1_pathsGiven_30 (by decide) (fun hq => ?_) (fun hq => ?_)
  · refine lv_iconst (v := 0) hx hb dX1_pathsGiven_37 (by decide) ?_
    exact t_X1_pathsGiven_38 Z hr hlk hin hk4 l1 0 l0 l2 h H locs ls hq hR hS (hl.sub [0, 2] rfl)
  refine lv_iconst (v := 1) hx hb dX1_pathsGiven_33 (by decide) ?_
  refine lv_goto (tgt := 38) hx hb dX1_pathsGiven_34 (by decide) ?_
  exact t_X1_pathsGiven_38 Z hr hlk hin hk4 l1 1 l0 l2 h H locs ls hq hR hS (hl.sub [0, 2] rfl)
def f_X1_pathsGiven_4  (l0 : Option Nat) (l1 : Int32) (l2 : Int32) (h : Hp) : Option (Int32 × Hp) :=
  lp (fun (k4 : Option Nat × Int32 × Int32 × Hp → Option (Int32 × Hp)) (u : Option Nat × Int32 × Int32 × Hp) => fb_X1_pathsGiven_4 k4 u.1 u.2.1 u.2.2.1 u.2.2.2) FU (l0, l1, l2, h)
theorem t_X1_pathsGiven_4 (Z : ZZ p s m args c cX1_pathsGiven RX1 3 G) (hr : meth.sig.returnType = (some .int)) (hlk : meth.locks = false) (hin : meth.name = "pathsGiven") {v : Int32} {h1 : Hp} : ∀ (l0 : Option Nat) (l1 : Int32) (l2 : Int32) (h : Hp) (H : Heap) (locs : List Loc) (ls : Array Slot), f_X1_pathsGiven_4 l0 l1 l2 h = some (v, h1) → Rep G h H → va_S (AA G) s.heap H locs → LV ls 3 [(0, va_rf l0), (1, .int l1), (2, .int l2)] → W p l e rm_X1_pathsGiven s m args below meth c H locs 0 0 (MQ below (Qx G (some (.int v)) h1) args s 0 0 (AA G)) (F0 m 4 ls []) := by
  intro l0 l1 l2 h H locs ls hq hR hS hl
  exact lp_ind (P := fun u : Option Nat × Int32 × Int32 × Hp => ∀ (H : Heap) (locs : List Loc) (ls : Array Slot), Rep G u.2.2.2 H → va_S (AA G) s.heap H locs → LV ls 3 [(0, va_rf u.1), (1, .int u.2.1), (2, .int u.2.2.1)] → W p l e rm_X1_pathsGiven s m args below meth c H locs 0 0 (MQ below (Qx G (some (.int v)) h1) args s 0 0 (AA G)) (F0 m 4 ls [])) (fun k hk u hq H locs ls hR hS hl => tb_X1_pathsGiven_4 Z hr hlk hin hk u.1 u.2.1 u.2.2.1 u.2.2.2 H locs ls hq hR hS hl) FU (l0, l1, l2, h) hq H locs ls hR hS hl
def f_X1_pathsGiven (this : Nat) (h : Hp) : Option (Int32 × Hp) :=
f_X1_pathsGiven_4 (some this) 0 0 h
set_option maxHeartbeats 4000000 in
set_option maxRecDepth 100000 in
theorem c_X1_pathsGiven (l : Launch) {G : GG} (this : Nat) (h : Hp) (v : Int32) (h1 : Hp) (hq : f_X1_pathsGiven this h = some (v, h1)) : Met l yX1_pathsGiven (Cond.code yX1_pathsGiven cX1_pathsGiven 3 (some .int) :: GT) rm_X1_pathsGiven (va_Pc [.ref this] (Cn G h)) (Qx G (some (.int v)) h1) 0 0 (AA G) := by
  refine xMet (cc := cX1_pathsGiven) (by decide) (Nat.le_of_ble_eq_true rfl) (List.forall_mem_cons.mpr ⟨rfl, (fun _ z => by cases z)⟩) ?_
  intro p e s m below meth c ls Z hr hlk hin hR hS hl
  have hx := Z.1
  have hb := Z.2.1
  have hl : LV ls 3 [(0, va_rf (some this))] := hl
  unfold f_X1_pathsGiven at hq
  refine lv_iconst (v := 0) hx hb dX1_pathsGiven_0 (by decide) ?_
  refine xisn hx hb hl (x := 0) (lv' := [(1, .int 0), (0, va_rf (some this))]) (by decide) dX1_pathsGiven_1 rfl (fun ls hl => ?_)
  refine lv_iconst (v := 0) hx hb dX1_pathsGiven_2 (by decide) ?_
  refine xisn hx hb hl (x := 0) (lv' := [(2, .int 0), (1, .int 0), (0, va_rf (some this))]) (by decide) dX1_pathsGiven_3 rfl (fun ls hl => ?_)
  exact t_X1_pathsGiven_4 Z hr hlk hin (some this) 0 0 h _ _ ls hq hR hS (hl.sub [2, 1, 0] rfl)
abbrev rm_X1_worthsGiven : Room := { frames := 3, cells := 0, slots := 0, locals := 64 }
def f_X1_worthsGiven_51  (k4 : Option Nat × Int32 × Int32 × Hp → Option (Int32 × Hp)) (s0 : Int32) (s1 : Int32) (l0 : Option Nat) (l2 : Int32) (h : Hp) : Option (Int32 × Hp) :=
k4 (l0, (s0 + s1), (l2 + 1), h)
set_option maxHeartbeats 4000000 in
set_option maxRecDepth 100000 in
theorem t_X1_worthsGiven_51 (Z : ZZ p s m args c cX1_worthsGiven RX1 3 G) (hr : meth.sig.returnType = (some .int)) (hlk : meth.locks = false) (hin : meth.name = "worthsGiven") {v : Int32} {h1 : Hp} {k4 : Option Nat × Int32 × Int32 × Hp → Option (Int32 × Hp)} (hk4 : ∀ u : Option Nat × Int32 × Int32 × Hp, k4 u = some (v, h1) → ∀ (H : Heap) (locs : List Loc) (ls : Array Slot), Rep G u.2.2.2 H → va_S (AA G) s.heap H locs → LV ls 3 [(0, va_rf u.1), (1, .int u.2.1), (2, .int u.2.2.1)] → W p l e rm_X1_worthsGiven s m args below meth c H locs 0 0 (MQ below (Qx G (some (.int v)) h1) args s 0 0 (AA G)) (F0 m 4 ls [])) : ∀ (s0 : Int32) (s1 : Int32) (l0 : Option Nat) (l2 : Int32) (h : Hp) (H : Heap) (locs : List Loc) (ls : Array Slot), f_X1_worthsGiven_51 k4 s0 s1 l0 l2 h = some (v, h1) → Rep G h H → va_S (AA G) s.heap H locs → LV ls 3 [(0, va_rf l0), (2, .int l2)] → W p l e rm_X1_worthsGiven s m args below meth c H locs 0 0 (MQ below (Qx G (some (.int v)) h1) args s 0 0 (AA G)) (F0 m 51 ls [.int s1, .int s0]) := by
  intro s0 s1 l0 l2 h H locs ls hq hR hS hl
  have hx := Z.1
  have hb := Z.2.1
  unfold f_X1_worthsGiven_51 at hq
  refine lv_iadd hx hb dX1_worthsGiven_51 ?_
  refine xisn hx hb hl (x := (s0 + s1)) (lv' := [(1, .int (s0 + s1)), (0, va_rf l0), (2, .int l2)]) (by decide) dX1_worthsGiven_52 rfl (fun ls hl => ?_)
  refine xinc hx hb hl (x := l2) (v := (l2 + 1)) (lv' := [(2, .int (l2 + 1)), (1, .int (s0 + s1)), (0, va_rf l0)]) 2 rfl (by rw [show Int32.ofInt (1) = (1 : Int32) from by decide]) (by decide) dX1_worthsGiven_53 rfl (fun ls hl => ?_)
  refine lv_goto (tgt := 4) hx hb dX1_worthsGiven_56 (by decide) ?_
  exact hk4 (l0, (s0 + s1), (l2 + 1), h) hq H locs ls hR hS (hl.sub [2, 1, 0] rfl)
def fb_X1_worthsGiven_4  (k4 : Option Nat × Int32 × Int32 × Hp → Option (Int32 × Hp)) (l0 : Option Nat) (l1 : Int32) (l2 : Int32) (h : Hp) : Option (Int32 × Hp) :=
gR h l0 2 0 (fun x6 =>
rcv h x6 0 (fun b9 => bd (f_Jx4a65c_size_8abf5 b9 h) (fun x9 h =>
(if x9 ≤ l2 then
rtI l1 h
else
gR h l0 2 0 (fun x17 =>
rcv h x17 0 (fun b21 => bd (f_Jx4a65c_get_915e3 b21 l2 h) (fun x21 h =>
ckc h x21 1 (
gI h x21 1 10 (fun x27 =>
(if x27 = 0 then
f_X1_worthsGiven_51 k4 l1 0 l0 l2 h
else
gR h l0 2 0 (fun x34 =>
rcv h x34 0 (fun b38 => bd (f_Jx4a65c_get_915e3 b38 l2 h) (fun x38 h =>
ckc h x38 1 (
gI h x38 1 7 (fun x44 =>
f_X1_worthsGiven_51 k4 l1 x44 l0 l2 h)))))))))))))))
set_option maxHeartbeats 4000000 in
set_option maxRecDepth 100000 in
theorem tb_X1_worthsGiven_4 (Z : ZZ p s m args c cX1_worthsGiven RX1 3 G) (hr : meth.sig.returnType = (some .int)) (hlk : meth.locks = false) (hin : meth.name = "worthsGiven") {v : Int32} {h1 : Hp} {k4 : Option Nat × Int32 × Int32 × Hp → Option (Int32 × Hp)} (hk4 : ∀ u : Option Nat × Int32 × Int32 × Hp, k4 u = some (v, h1) → ∀ (H : Heap) (locs : List Loc) (ls : Array Slot), Rep G u.2.2.2 H → va_S (AA G) s.heap H locs → LV ls 3 [(0, va_rf u.1), (1, .int u.2.1), (2, .int u.2.2.1)] → W p l e rm_X1_worthsGiven s m args below meth c H locs 0 0 (MQ below (Qx G (some (.int v)) h1) args s 0 0 (AA G)) (F0 m 4 ls [])) : ∀ (l0 : Option Nat) (l1 : Int32) (l2 : Int32) (h : Hp) (H : Heap) (locs : List Loc) (ls : Array Slot), fb_X1_worthsGiven_4 k4 l0 l1 l2 h = some (v, h1) → Rep G h H → va_S (AA G) s.heap H locs → LV ls 3 [(0, va_rf l0), (1, .int l1), (2, .int l2)] → W p l e rm_X1_worthsGiven s m args below meth c H locs 0 0 (MQ below (Qx G (some (.int v)) h1) args s 0 0 (AA G)) (F0 m 4 ls []) := by
  intro l0 l1 l2 h H locs ls hq hR hS hl
  have hx := Z.1
  have hb := Z.2.1
  unfold fb_X1_worthsGiven_4 at hq
  refine xiln hx hb hl (x := l2) 2 rfl dX1_worthsGiven_4 ?_
  refine xaln hx hb hl (x := l0) 0 rfl dX1_worthsGiven_5 ?_
  refine xgR Z hR hq fl_X1_10 rfl dX1_worthsGiven_6 (fun x6 hq => ?_)
  refine xcV Z hR hS hl (rest := [.int l2]) (As := []) hq cl_X1_19 (fun b x h1 hc => c_Jx4a65c_size_8abf5 l b h x h1 hc) ⟨⟨rfl, rfl⟩, (by decide), (by decide)⟩ rfl rfl (by first | decide | (simp only [List.map_cons, List.map_nil, rf_cat, ct_int, ct_ref, List.sum_cons, List.sum_nil] <;> decide)) dX1_worthsGiven_9 (by decide) (fun x9 h H locs hq hR hS => ?_)
  refine xcGe hx hb hq (tgt := 59) dX1_worthsGiven_12 (by decide) (fun hq => ?_) (fun hq => ?_)
  · refine xiln hx hb hl (x := l1) 1 rfl dX1_worthsGiven_59 ?_
    exact xrI hx hb hr hlk hR hS hq (by decide) (by decide) dX1_worthsGiven_60
  refine xiln hx hb hl (x := l1) 1 rfl dX1_worthsGiven_15 ?_
  refine xaln hx hb hl (x := l0) 0 rfl dX1_worthsGiven_16 ?_
  refine xgR Z hR hq fl_X1_10 rfl dX1_worthsGiven_17 (fun x17 hq => ?_)
  refine xiln hx hb hl (x := l2) 2 rfl dX1_worthsGiven_20 ?_
  refine xcV Z hR hS hl (rest := [.int l1]) (As := [.int l2]) hq cl_X1_23 (fun b x h1 hc => c_Jx4a65c_get_915e3 l b l2 h x h1 hc) ⟨⟨rfl, rfl⟩, (by decide), (by decide)⟩ rfl rfl (by first | decide | (simp only [List.map_cons, List.map_nil, rf_cat, ct_int, ct_ref, List.sum_cons, List.sum_nil] <;> decide)) dX1_worthsGiven_21 (by decide) (fun x21 h H locs hq hR hS => ?_)
  refine xck Z hR hq ck_X1_27 dX1_worthsGiven_24 (fun hq => ?_)
  refine xgI Z hR hq fl_X1_40 rfl dX1_worthsGiven_27 (fun x27 hq => ?_)
  refine xzEq hx hb hq (tgt := 50) dX1_worthsGiven_30 (by decide) (fun hq => ?_) (fun hq => ?_)
  · refine lv_iconst (v := 0) hx hb dX1_worthsGiven_50 (by decide) ?_
    exact t_X1_worthsGiven_51 Z hr hlk hin hk4 l1 0 l0 l2 h H locs ls hq hR hS (hl.sub [0, 2] rfl)
  refine xaln hx hb hl (x := l0) 0 rfl dX1_worthsGiven_33 ?_
  refine xgR Z hR hq fl_X1_10 rfl dX1_worthsGiven_34 (fun x34 hq => ?_)
  refine xiln hx hb hl (x := l2) 2 rfl dX1_worthsGiven_37 ?_
  refine xcV Z hR hS hl (rest := [.int l1]) (As := [.int l2]) hq cl_X1_23 (fun b x h1 hc => c_Jx4a65c_get_915e3 l b l2 h x h1 hc) ⟨⟨rfl, rfl⟩, (by decide), (by decide)⟩ rfl rfl (by first | decide | (simp only [List.map_cons, List.map_nil, rf_cat, ct_int, ct_ref, List.sum_cons, List.sum_nil] <;> decide)) dX1_worthsGiven_38 (by decide) (fun x38 h H locs hq hR hS => ?_)
  refine xck Z hR hq ck_X1_27 dX1_worthsGiven_41 (fun hq => ?_)
  refine xgI Z hR hq fl_X1_44 rfl dX1_worthsGiven_44 (fun x44 hq => ?_)
  refine lv_goto (tgt := 51) hx hb dX1_worthsGiven_47 (by decide) ?_
  exact t_X1_worthsGiven_51 Z hr hlk hin hk4 l1 x44 l0 l2 h H locs ls hq hR hS (hl.sub [0, 2] rfl)
def f_X1_worthsGiven_4  (l0 : Option Nat) (l1 : Int32) (l2 : Int32) (h : Hp) : Option (Int32 × Hp) :=
  lp (fun (k4 : Option Nat × Int32 × Int32 × Hp → Option (Int32 × Hp)) (u : Option Nat × Int32 × Int32 × Hp) => fb_X1_worthsGiven_4 k4 u.1 u.2.1 u.2.2.1 u.2.2.2) FU (l0, l1, l2, h)
theorem t_X1_worthsGiven_4 (Z : ZZ p s m args c cX1_worthsGiven RX1 3 G) (hr : meth.sig.returnType = (some .int)) (hlk : meth.locks = false) (hin : meth.name = "worthsGiven") {v : Int32} {h1 : Hp} : ∀ (l0 : Option Nat) (l1 : Int32) (l2 : Int32) (h : Hp) (H : Heap) (locs : List Loc) (ls : Array Slot), f_X1_worthsGiven_4 l0 l1 l2 h = some (v, h1) → Rep G h H → va_S (AA G) s.heap H locs → LV ls 3 [(0, va_rf l0), (1, .int l1), (2, .int l2)] → W p l e rm_X1_worthsGiven s m args below meth c H locs 0 0 (MQ below (Qx G (some (.int v)) h1) args s 0 0 (AA G)) (F0 m 4 ls []) := by
  intro l0 l1 l2 h H locs ls hq hR hS hl
  exact lp_ind (P := fun u : Option Nat × Int32 × Int32 × Hp => ∀ (H : Heap) (locs : List Loc) (ls : Array Slot), Rep G u.2.2.2 H → va_S (AA G) s.heap H locs → LV ls 3 [(0, va_rf u.1), (1, .int u.2.1), (2, .int u.2.2.1)] → W p l e rm_X1_worthsGiven s m args below meth c H locs 0 0 (MQ below (Qx G (some (.int v)) h1) args s 0 0 (AA G)) (F0 m 4 ls [])) (fun k hk u hq H locs ls hR hS hl => tb_X1_worthsGiven_4 Z hr hlk hin hk u.1 u.2.1 u.2.2.1 u.2.2.2 H locs ls hq hR hS hl) FU (l0, l1, l2, h) hq H locs ls hR hS hl
def f_X1_worthsGiven (this : Nat) (h : Hp) : Option (Int32 × Hp) :=
f_X1_worthsGiven_4 (some this) 0 0 h
set_option maxHeartbeats 4000000 in
set_option maxRecDepth 100000 in
theorem c_X1_worthsGiven (l : Launch) {G : GG} (this : Nat) (h : Hp) (v : Int32) (h1 : Hp) (hq : f_X1_worthsGiven this h = some (v, h1)) : Met l yX1_worthsGiven (Cond.code yX1_worthsGiven cX1_worthsGiven 3 (some .int) :: GT) rm_X1_worthsGiven (va_Pc [.ref this] (Cn G h)) (Qx G (some (.int v)) h1) 0 0 (AA G) := by
  refine xMet (cc := cX1_worthsGiven) (by decide) (Nat.le_of_ble_eq_true rfl) (List.forall_mem_cons.mpr ⟨rfl, (fun _ z => by cases z)⟩) ?_
  intro p e s m below meth c ls Z hr hlk hin hR hS hl
  have hx := Z.1
  have hb := Z.2.1
  have hl : LV ls 3 [(0, va_rf (some this))] := hl
  unfold f_X1_worthsGiven at hq
  refine lv_iconst (v := 0) hx hb dX1_worthsGiven_0 (by decide) ?_
  refine xisn hx hb hl (x := 0) (lv' := [(1, .int 0), (0, va_rf (some this))]) (by decide) dX1_worthsGiven_1 rfl (fun ls hl => ?_)
  refine lv_iconst (v := 0) hx hb dX1_worthsGiven_2 (by decide) ?_
  refine xisn hx hb hl (x := 0) (lv' := [(2, .int 0), (1, .int 0), (0, va_rf (some this))]) (by decide) dX1_worthsGiven_3 rfl (fun ls hl => ?_)
  exact t_X1_worthsGiven_4 Z hr hlk hin (some this) 0 0 h _ _ ls hq hR hS (hl.sub [2, 1, 0] rfl)
end
