theorem me_X8_isAhead : Cond.instanceMethod yX8_isAhead ∈ GT ∧ Cond.selects RX8 yX8_isAhead yX8_isAhead ∈ GT ∧ Cond.initialized RX8 ∈ GT ∧ Cond.code yX8_isAhead cX8_isAhead 3 (some .boolean) ∈ GT := ⟨by decide +kernel, by decide +kernel, by decide +kernel, by decide +kernel⟩
theorem cl_X8_169 : VL RX8 169 9 yX8_isAhead cX8_isAhead 3 (some .boolean) 2 := ⟨⟨TX8, 34, rfl⟩, ⟨by decide +kernel, me_X8_isAhead⟩, by decide, by decide, by decide +kernel⟩
theorem me_X8_give : Cond.instanceMethod yX8_give ∈ GT ∧ Cond.selects RX8 yX8_give yX8_give ∈ GT ∧ Cond.initialized RX8 ∈ GT ∧ Cond.code yX8_give cX8_give 3 (some .boolean) ∈ GT := ⟨by decide +kernel, by decide +kernel, by decide +kernel, by decide +kernel⟩
theorem cl_X8_172 : VL RX8 172 9 yX8_give cX8_give 3 (some .boolean) 1 := ⟨⟨TX8, 34, rfl⟩, ⟨by decide +kernel, me_X8_give⟩, by decide, by decide, by decide +kernel⟩
theorem me_X8_ranks : Cond.instanceMethod yX8_ranks ∈ GT ∧ Cond.selects RX8 yX8_ranks yX8_ranks ∈ GT ∧ Cond.initialized RX8 ∈ GT ∧ Cond.code yX8_ranks cX8_ranks 3 none ∈ GT := ⟨by decide +kernel, by decide +kernel, by decide +kernel, by decide +kernel⟩
theorem cl_X8_175 : VL RX8 175 9 yX8_ranks cX8_ranks 3 none 0 := ⟨⟨TX8, 34, rfl⟩, ⟨by decide +kernel, me_X8_ranks⟩, by decide, by decide, by decide +kernel⟩
theorem me_X8_goes : Cond.instanceMethod yX8_goes ∈ GT ∧ Cond.selects RX8 yX8_goes yX8_goes ∈ GT ∧ Cond.initialized RX8 ∈ GT ∧ Cond.code yX8_goes cX8_goes 5 (some .int) ∈ GT := ⟨by decide +kernel, by decide +kernel, by decide +kernel, by decide +kernel⟩
theorem cl_X8_178 : VL RX8 178 9 yX8_goes cX8_goes 5 (some .int) 0 := ⟨⟨TX8, 34, rfl⟩, ⟨by decide +kernel, me_X8_goes⟩, by decide, by decide, by decide +kernel⟩
theorem me_X8_count : Cond.instanceMethod yX8_count ∈ GT ∧ Cond.selects RX8 yX8_count yX8_count ∈ GT ∧ Cond.initialized RX8 ∈ GT ∧ Cond.code yX8_count cX8_count 4 (some .int) ∈ GT := ⟨by decide +kernel, by decide +kernel, by decide +kernel, by decide +kernel⟩
theorem cl_X8_181 : VL RX8 181 9 yX8_count cX8_count 4 (some .int) 1 := ⟨⟨TX8, 34, rfl⟩, ⟨by decide +kernel, me_X8_count⟩, by decide, by decide, by decide +kernel⟩
theorem me_X8_orders : Cond.instanceMethod yX8_orders ∈ GT ∧ Cond.selects RX8 yX8_orders yX8_orders ∈ GT ∧ Cond.initialized RX8 ∈ GT ∧ Cond.code yX8_orders cX8_orders 8 none ∈ GT := ⟨by decide +kernel, by decide +kernel, by decide +kernel, by decide +kernel⟩
theorem cl_X8_184 : VL RX8 184 9 yX8_orders cX8_orders 8 none 1 := ⟨⟨TX8, 34, rfl⟩, ⟨by decide +kernel, me_X8_orders⟩, by decide, by decide, by decide +kernel⟩
section
variable {p : Program} {l : Launch} {e : Env} {s : State} {m : MethodId} {args : Array Value} {below : List Frame} {meth : Method} {c : Code} {G : GG}
abbrev rm_X8_give : Room := { frames := 6, cells := 0, slots := 0, locals := 141 }
def f_X8_give_16   (h : Hp) : Option (Int32 × Hp) :=
rtZ 0 h
set_option maxHeartbeats 4000000 in
set_option maxRecDepth 100000 in
theorem t_X8_give_16 (Z : ZZ p s m args c cX8_give RX8 3 G) (hr : meth.sig.returnType = (some .boolean)) (hlk : meth.locks = false) (hin : meth.name = "give") {v : Int32} {h1 : Hp} : ∀  (h : Hp) (H : Heap) (locs : List Loc) (ls : Array Slot), f_X8_give_16  h = some (v, h1) → Rep G h H → va_S (AA G) s.heap H locs → LV ls 3 [] → W p l e rm_X8_give s m args below meth c H locs 0 0 (MQ below (Qx G (some (.int v)) h1) args s 0 0 (AA G)) (F0 m 16 ls []) := by
  intro  h H locs ls hq hR hS hl
  have hx := Z.1
  have hb := Z.2.1
  unfold f_X8_give_16 at hq
  refine lv_iconst (v := 0) hx hb dX8_give_16 (by decide) ?_
  exact xrZ hx hb hr hlk hR hS hq (by decide) (by decide) dX8_give_17
def fb_X8_give_27  (k27 : Option Nat × Int32 × Int32 × Hp → Option (Int32 × Hp)) (l0 : Option Nat) (l1 : Int32) (l2 : Int32) (h : Hp) : Option (Int32 × Hp) :=
rcv h l0 9 (fun b30 => bd (f_X8_legs b30 l1 h) (fun x30 h =>
(if x30 < l2 then
rtZ 1 h
else
gR h l0 9 20 (fun x37 =>
gR h l0 9 23 (fun x47 =>
ldI h x47 l2 (fun x51 =>
stI h x37 ((8 * l1) + l2) x51 (fun h =>
k27 (l0, l1, (l2 + 1), h))))))))
set_option maxHeartbeats 4000000 in
set_option maxRecDepth 100000 in
theorem tb_X8_give_27 (Z : ZZ p s m args c cX8_give RX8 3 G) (hr : meth.sig.returnType = (some .boolean)) (hlk : meth.locks = false) (hin : meth.name = "give") {v : Int32} {h1 : Hp} {k27 : Option Nat × Int32 × Int32 × Hp → Option (Int32 × Hp)} (hk27 : ∀ u : Option Nat × Int32 × Int32 × Hp, k27 u = some (v, h1) → ∀ (H : Heap) (locs : List Loc) (ls : Array Slot), Rep G u.2.2.2 H → va_S (AA G) s.heap H locs → LV ls 3 [(0, va_rf u.1), (1, .int u.2.1), (2, .int u.2.2.1)] → W p l e rm_X8_give s m args below meth c H locs 0 0 (MQ below (Qx G (some (.int v)) h1) args s 0 0 (AA G)) (F0 m 27 ls [])) : ∀ (l0 : Option Nat) (l1 : Int32) (l2 : Int32) (h : Hp) (H : Heap) (locs : List Loc) (ls : Array Slot), fb_X8_give_27 k27 l0 l1 l2 h = some (v, h1) → Rep G h H → va_S (AA G) s.heap H locs → LV ls 3 [(0, va_rf l0), (1, .int l1), (2, .int l2)] → W p l e rm_X8_give s m args below meth c H locs 0 0 (MQ below (Qx G (some (.int v)) h1) args s 0 0 (AA G)) (F0 m 27 ls []) := by
  intro l0 l1 l2 h H locs ls hq hR hS hl
  have hx := Z.1
  have hb := Z.2.1
  unfold fb_X8_give_27 at hq
  refine xiln hx hb hl (x := l2) 2 rfl dX8_give_27 ?_
  refine xaln hx hb hl (x := l0) 0 rfl dX8_give_28 ?_
  refine xiln hx hb hl (x := l1) 1 rfl dX8_give_29 ?_
  refine xcV Z hR hS hl (rest := [.int l2]) (As := [.int l1]) hq cl_X8_126 (fun b x h1 hc => c_X8_legs l b l1 h x h1 hc) ⟨⟨rfl, rfl⟩, (by decide), (by decide)⟩ rfl rfl (by first | decide | (simp only [List.map_cons, List.map_nil, rf_cat, ct_int, ct_ref, List.sum_cons, List.sum_nil] <;> decide)) dX8_give_30 (by decide) (fun x30 h H locs hq hR hS => ?_)
  refine xcGt hx hb hq (tgt := 59) dX8_give_33 (by decide) (fun hq => ?_) (fun hq => ?_)
  · refine lv_iconst (v := 1) hx hb dX8_give_59 (by decide) ?_
    exact xrZ hx hb hr hlk hR hS hq (by decide) (by decide) dX8_give_60
  refine xaln hx hb hl (x := l0) 0 rfl dX8_give_36 ?_
  refine xgR Z hR hq fl_X8_63 rfl dX8_give_37 (fun x37 hq => ?_)
  refine lv_bipush (v := 8) hx hb dX8_give_40 (by decide) ?_
  refine xiln hx hb hl (x := l1) 1 rfl dX8_give_42 ?_
  refine lv_imul hx hb dX8_give_43 ?_
  refine xiln hx hb hl (x := l2) 2 rfl dX8_give_44 ?_
  refine lv_iadd hx hb dX8_give_45 ?_
  refine xaln hx hb hl (x := l0) 0 rfl dX8_give_46 ?_
  refine xgR Z hR hq fl_X8_72 rfl dX8_give_47 (fun x47 hq => ?_)
  refine xiln hx hb hl (x := l2) 2 rfl dX8_give_50 ?_
  refine xaI Z hR hq dX8_give_51 (fun x51 hq => ?_)
  refine xsI Z hR hS hq dX8_give_52 (fun h H locs hq hR hS => ?_)
  refine xinc hx hb hl (x := l2) (v := (l2 + 1)) (lv' := [(2, .int (l2 + 1)), (0, va_rf l0), (1, .int l1)]) 2 rfl (by rw [show Int32.ofInt (1) = (1 : Int32) from by decide]) (by decide) dX8_give_53 rfl (fun ls hl => ?_)
  refine lv_goto (tgt := 27) hx hb dX8_give_56 (by decide) ?_
  exact hk27 (l0, l1, (l2 + 1), h) hq H locs ls hR hS (hl.sub [1, 2, 0] rfl)
def f_X8_give_27  (l0 : Option Nat) (l1 : Int32) (l2 : Int32) (h : Hp) : Option (Int32 × Hp) :=
  lp (fun (k27 : Option Nat × Int32 × Int32 × Hp → Option (Int32 × Hp)) (u : Option Nat × Int32 × Int32 × Hp) => fb_X8_give_27 k27 u.1 u.2.1 u.2.2.1 u.2.2.2) FU (l0, l1, l2, h)
theorem t_X8_give_27 (Z : ZZ p s m args c cX8_give RX8 3 G) (hr : meth.sig.returnType = (some .boolean)) (hlk : meth.locks = false) (hin : meth.name = "give") {v : Int32} {h1 : Hp} : ∀ (l0 : Option Nat) (l1 : Int32) (l2 : Int32) (h : Hp) (H : Heap) (locs : List Loc) (ls : Array Slot), f_X8_give_27 l0 l1 l2 h = some (v, h1) → Rep G h H → va_S (AA G) s.heap H locs → LV ls 3 [(0, va_rf l0), (1, .int l1), (2, .int l2)] → W p l e rm_X8_give s m args below meth c H locs 0 0 (MQ below (Qx G (some (.int v)) h1) args s 0 0 (AA G)) (F0 m 27 ls []) := by
  intro l0 l1 l2 h H locs ls hq hR hS hl
  exact lp_ind (P := fun u : Option Nat × Int32 × Int32 × Hp => ∀ (H : Heap) (locs : List Loc) (ls : Array Slot), Rep G u.2.2.2 H → va_S (AA G) s.heap H locs → LV ls 3 [(0, va_rf u.1), (1, .int u.2.1), (2, .int u.2.2.1)] → W p l e rm_X8_give s m args below meth c H locs 0 0 (MQ below (Qx G (some (.int v)) h1) args s 0 0 (AA G)) (F0 m 27 ls [])) (fun k hk u hq H locs ls hR hS hl => tb_X8_give_27 Z hr hlk hin hk u.1 u.2.1 u.2.2.1 u.2.2.2 H locs ls hq hR hS hl) FU (l0, l1, l2, h) hq H locs ls hR hS hl
def f_X8_give (this : Nat) (a0 : Int32) (h : Hp) : Option (Int32 × Hp) :=
rcv h (some this) 9 (fun b2 => bd (f_X8_isBid b2 a0 h) (fun x2 h =>
(if x2 = 0 then
f_X8_give_16  h
else
rcv h (some this) 9 (fun b10 => bd (f_X8_seeks b10 a0 h) (fun x10 h =>
(if x10 = 0 then
f_X8_give_16  h
else
gR h (some this) 9 19 (fun x19 =>
stZ h x19 a0 1 (fun h =>
f_X8_give_27 (some this) a0 0 h))))))))
set_option maxHeartbeats 4000000 in
set_option maxRecDepth 100000 in
theorem c_X8_give (l : Launch) {G : GG} (this : Nat) (a0 : Int32) (h : Hp) (v : Int32) (h1 : Hp) (hq : f_X8_give this a0 h = some (v, h1)) : Met l yX8_give (Cond.code yX8_give cX8_give 3 (some .boolean) :: GT) rm_X8_give (va_Pc [.ref this, .int a0] (Cn G h)) (Qx G (some (.int v)) h1) 0 0 (AA G) := by
  refine xMet (cc := cX8_give) (by decide) (Nat.le_of_ble_eq_true rfl) (List.forall_mem_cons.mpr ⟨rfl, (List.forall_mem_cons.mpr ⟨rfl, (fun _ z => by cases z)⟩)⟩) ?_
  intro p e s m below meth c ls Z hr hlk hin hR hS hl
  have hx := Z.1
  have hb := Z.2.1
  have hl : LV ls 3 [(0, va_rf (some this)), (1, .int a0)] := hl
  unfold f_X8_give at hq
  refine xaln hx hb hl (x := (some this)) 0 rfl dX8_give_0 ?_
  refine xiln hx hb hl (x := a0) 1 rfl dX8_give_1 ?_
  refine xcV Z hR hS hl (rest := []) (As := [.int a0]) hq cl_X8_118 (fun b x h1 hc => c_X8_isBid l b a0 h x h1 hc) ⟨⟨rfl, rfl⟩, (by decide), (by decide)⟩ rfl rfl (by first | decide | (simp only [List.map_cons, List.map_nil, rf_cat, ct_int, ct_ref, List.sum_cons, List.sum_nil] <;> decide)) dX8_give_2 (by decide) (fun x2 h H locs hq hR hS => ?_)
  refine xzEq hx hb hq (tgt := 16) dX8_give_5 (by decide) (fun hq => ?_) (fun hq => ?_)
  · exact t_X8_give_16 Z hr hlk hin  h _ _ ls hq hR hS (hl.sub [] rfl)
  refine xaln hx hb hl (x := (some this)) 0 rfl dX8_give_8 ?_
  refine xiln hx hb hl (x := a0) 1 rfl dX8_give_9 ?_
  refine xcV Z hR hS hl (rest := []) (As := [.int a0]) hq cl_X8_166 (fun b x h1 hc => c_X8_seeks l b a0 h x h1 hc) ⟨⟨rfl, rfl⟩, (by decide), (by decide)⟩ rfl rfl (by first | decide | (simp only [List.map_cons, List.map_nil, rf_cat, ct_int, ct_ref, List.sum_cons, List.sum_nil] <;> decide)) dX8_give_10 (by decide) (fun x10 h H locs hq hR hS => ?_)
  refine xzNe hx hb hq (tgt := 18) dX8_give_13 (by decide) (fun hq => ?_) (fun hq => ?_)
  · refine xaln hx hb hl (x := (some this)) 0 rfl dX8_give_18 ?_
    refine xgR Z hR hq fl_X8_60 rfl dX8_give_19 (fun x19 hq => ?_)
    refine xiln hx hb hl (x := a0) 1 rfl dX8_give_22 ?_
    refine lv_iconst (v := 1) hx hb dX8_give_23 (by decide) ?_
    refine xsZ Z hR hS hq dX8_give_24 (fun h H locs hq hR hS => ?_)
    refine lv_iconst (v := 0) hx hb dX8_give_25 (by decide) ?_
    refine xisn hx hb hl (x := 0) (lv' := [(2, .int 0), (0, va_rf (some this)), (1, .int a0)]) (by decide) dX8_give_26 rfl (fun ls hl => ?_)
    exact t_X8_give_27 Z hr hlk hin (some this) a0 0 h _ _ ls hq hR hS (hl.sub [1, 2, 0] rfl)
  exact t_X8_give_16 Z hr hlk hin  h _ _ ls hq hR hS (hl.sub [] rfl)
abbrev rm_X8_drop : Room := { frames := 2, cells := 0, slots := 0, locals := 43 }
def f_X8_drop_17   (h : Hp) : Option (Int32 × Hp) :=
rtZ 0 h
set_option maxHeartbeats 4000000 in
set_option maxRecDepth 100000 in
theorem t_X8_drop_17 (Z : ZZ p s m args c cX8_drop RX8 2 G) (hr : meth.sig.returnType = (some .boolean)) (hlk : meth.locks = false) (hin : meth.name = "drop") {v : Int32} {h1 : Hp} : ∀  (h : Hp) (H : Heap) (locs : List Loc) (ls : Array Slot), f_X8_drop_17  h = some (v, h1) → Rep G h H → va_S (AA G) s.heap H locs → LV ls 2 [] → W p l e rm_X8_drop s m args below meth c H locs 0 0 (MQ below (Qx G (some (.int v)) h1) args s 0 0 (AA G)) (F0 m 17 ls []) := by
  intro  h H locs ls hq hR hS hl
  have hx := Z.1
  have hb := Z.2.1
  unfold f_X8_drop_17 at hq
  refine lv_iconst (v := 0) hx hb dX8_drop_17 (by decide) ?_
  exact xrZ hx hb hr hlk hR hS hq (by decide) (by decide) dX8_drop_18
def f_X8_drop (this : Nat) (a0 : Int32) (h : Hp) : Option (Int32 × Hp) :=
rcv h (some this) 9 (fun b2 => bd (f_X8_isBid b2 a0 h) (fun x2 h =>
(if x2 = 0 then
f_X8_drop_17  h
else
gR h (some this) 9 19 (fun x9 =>
ldZ h x9 a0 (fun x13 =>
(if x13 = 0 then
f_X8_drop_17  h
else
gR h (some this) 9 19 (fun x20 =>
stZ h x20 a0 0 (fun h =>
rtZ 1 h))))))))
set_option maxHeartbeats 4000000 in
set_option maxRecDepth 100000 in
theorem c_X8_drop (l : Launch) {G : GG} (this : Nat) (a0 : Int32) (h : Hp) (v : Int32) (h1 : Hp) (hq : f_X8_drop this a0 h = some (v, h1)) : Met l yX8_drop (Cond.code yX8_drop cX8_drop 2 (some .boolean) :: GT) rm_X8_drop (va_Pc [.ref this, .int a0] (Cn G h)) (Qx G (some (.int v)) h1) 0 0 (AA G) := by
  refine xMet (cc := cX8_drop) (by decide) (Nat.le_of_ble_eq_true rfl) (List.forall_mem_cons.mpr ⟨rfl, (List.forall_mem_cons.mpr ⟨rfl, (fun _ z => by cases z)⟩)⟩) ?_
  intro p e s m below meth c ls Z hr hlk hin hR hS hl
  have hx := Z.1
  have hb := Z.2.1
  have hl : LV ls 2 [(0, va_rf (some this)), (1, .int a0)] := hl
  unfold f_X8_drop at hq
  refine xaln hx hb hl (x := (some this)) 0 rfl dX8_drop_0 ?_
  refine xiln hx hb hl (x := a0) 1 rfl dX8_drop_1 ?_
  refine xcV Z hR hS hl (rest := []) (As := [.int a0]) hq cl_X8_118 (fun b x h1 hc => c_X8_isBid l b a0 h x h1 hc) ⟨⟨rfl, rfl⟩, (by decide), (by decide)⟩ rfl rfl (by first | decide | (simp only [List.map_cons, List.map_nil, rf_cat, ct_int, ct_ref, List.sum_cons, List.sum_nil] <;> decide)) dX8_drop_2 (by decide) (fun x2 h H locs hq hR hS => ?_)
  refine xzEq hx hb hq (tgt := 17) dX8_drop_5 (by decide) (fun hq => ?_) (fun hq => ?_)
  · exact t_X8_drop_17 Z hr hlk hin  h _ _ ls hq hR hS (hl.sub [] rfl)
  refine xaln hx hb hl (x := (some this)) 0 rfl dX8_drop_8 ?_
  refine xgR Z hR hq fl_X8_60 rfl dX8_drop_9 (fun x9 hq => ?_)
  refine xiln hx hb hl (x := a0) 1 rfl dX8_drop_12 ?_
  refine xaZ Z hR hq dX8_drop_13 (fun x13 hq => ?_)
  refine xzNe hx hb hq (tgt := 19) dX8_drop_14 (by decide) (fun hq => ?_) (fun hq => ?_)
  · refine xaln hx hb hl (x := (some this)) 0 rfl dX8_drop_19 ?_
    refine xgR Z hR hq fl_X8_60 rfl dX8_drop_20 (fun x20 hq => ?_)
    refine xiln hx hb hl (x := a0) 1 rfl dX8_drop_23 ?_
    refine lv_iconst (v := 0) hx hb dX8_drop_24 (by decide) ?_
    refine xsZ Z hR hS hq dX8_drop_25 (fun h H locs hq hR hS => ?_)
    refine lv_iconst (v := 1) hx hb dX8_drop_26 (by decide) ?_
    exact xrZ hx hb hr hlk hR hS hq (by decide) (by decide) dX8_drop_27
  exact t_X8_drop_17 Z hr hlk hin  h _ _ ls hq hR hS (hl.sub [] rfl)
abbrev rm_X8_isAhead : Room := { frames := 0, cells := 0, slots := 0, locals := 0 }
def f_X8_isAhead_40  (s0 : Int32) (h : Hp) : Option (Int32 × Hp) :=
rtZ s0 h
set_option maxHeartbeats 4000000 in
set_option maxRecDepth 100000 in
theorem t_X8_isAhead_40 (Z : ZZ p s m args c cX8_isAhead RX8 3 G) (hr : meth.sig.returnType = (some .boolean)) (hlk : meth.locks = false) (hin : meth.name = "isAhead") {v : Int32} {h1 : Hp} : ∀ (s0 : Int32) (h : Hp) (H : Heap) (locs : List Loc) (ls : Array Slot), f_X8_isAhead_40 s0 h = some (v, h1) → Rep G h H → va_S (AA G) s.heap H locs → LV ls 3 [] → W p l e rm_X8_isAhead s m args below meth c H locs 0 0 (MQ below (Qx G (some (.int v)) h1) args s 0 0 (AA G)) (F0 m 40 ls [.int s0]) := by
  intro s0 h H locs ls hq hR hS hl
  have hx := Z.1
  have hb := Z.2.1
  unfold f_X8_isAhead_40 at hq
  exact xrZ hx hb hr hlk hR hS hq (by decide) (by decide) dX8_isAhead_40
def f_X8_isAhead_35   (h : Hp) : Option (Int32 × Hp) :=
f_X8_isAhead_40 1 h
set_option maxHeartbeats 4000000 in
set_option maxRecDepth 100000 in
theorem t_X8_isAhead_35 (Z : ZZ p s m args c cX8_isAhead RX8 3 G) (hr : meth.sig.returnType = (some .boolean)) (hlk : meth.locks = false) (hin : meth.name = "isAhead") {v : Int32} {h1 : Hp} : ∀  (h : Hp) (H : Heap) (locs : List Loc) (ls : Array Slot), f_X8_isAhead_35  h = some (v, h1) → Rep G h H → va_S (AA G) s.heap H locs → LV ls 3 [] → W p l e rm_X8_isAhead s m args below meth c H locs 0 0 (MQ below (Qx G (some (.int v)) h1) args s 0 0 (AA G)) (F0 m 35 ls []) := by
  intro  h H locs ls hq hR hS hl
  have hx := Z.1
  have hb := Z.2.1
  unfold f_X8_isAhead_35 at hq
  refine lv_iconst (v := 1) hx hb dX8_isAhead_35 (by decide) ?_
  refine lv_goto (tgt := 40) hx hb dX8_isAhead_36 (by decide) ?_
  exact t_X8_isAhead_40 Z hr hlk hin 1 h H locs ls hq hR hS (hl.sub [] rfl)
def f_X8_isAhead_39   (h : Hp) : Option (Int32 × Hp) :=
f_X8_isAhead_40 0 h
set_option maxHeartbeats 4000000 in
set_option maxRecDepth 100000 in
theorem t_X8_isAhead_39 (Z : ZZ p s m args c cX8_isAhead RX8 3 G) (hr : meth.sig.returnType = (some .boolean)) (hlk : meth.locks = false) (hin : meth.name = "isAhead") {v : Int32} {h1 : Hp} : ∀  (h : Hp) (H : Heap) (locs : List Loc) (ls : Array Slot), f_X8_isAhead_39  h = some (v, h1) → Rep G h H → va_S (AA G) s.heap H locs → LV ls 3 [] → W p l e rm_X8_isAhead s m args below meth c H locs 0 0 (MQ below (Qx G (some (.int v)) h1) args s 0 0 (AA G)) (F0 m 39 ls []) := by
  intro  h H locs ls hq hR hS hl
  have hx := Z.1
  have hb := Z.2.1
  unfold f_X8_isAhead_39 at hq
  refine lv_iconst (v := 0) hx hb dX8_isAhead_39 (by decide) ?_
  exact t_X8_isAhead_40 Z hr hlk hin 0 h H locs ls hq hR hS (hl.sub [] rfl)
def f_X8_isAhead (this : Nat) (a0 : Int32) (a1 : Int32) (h : Hp) : Option (Int32 × Hp) :=
gR h (some this) 9 17 (fun x1 =>
ldI h x1 a0 (fun x5 =>
gR h (some this) 9 17 (fun x7 =>
ldI h x7 a1 (fun x11 =>
(if x5 < x11 then
f_X8_isAhead_35  h
else
gR h (some this) 9 17 (fun x16 =>
ldI h x16 a0 (fun x20 =>
gR h (some this) 9 17 (fun x22 =>
ldI h x22 a1 (fun x26 =>
(if x20 = x26 then
(if a1 ≤ a0 then
f_X8_isAhead_39  h
else
f_X8_isAhead_35  h)
else
f_X8_isAhead_39  h))))))))))
set_option maxHeartbeats 4000000 in
set_option maxRecDepth 100000 in
theorem c_X8_isAhead (l : Launch) {G : GG} (this : Nat) (a0 : Int32) (a1 : Int32) (h : Hp) (v : Int32) (h1 : Hp) (hq : f_X8_isAhead this a0 a1 h = some (v, h1)) : Met l yX8_isAhead (Cond.code yX8_isAhead cX8_isAhead 3 (some .boolean) :: GT) rm_X8_isAhead (va_Pc [.ref this, .int a0, .int a1] (Cn G h)) (Qx G (some (.int v)) h1) 0 0 (AA G) := by
  refine xMet (cc := cX8_isAhead) (by decide) (Nat.le_of_ble_eq_true rfl) (List.forall_mem_cons.mpr ⟨rfl, (List.forall_mem_cons.mpr ⟨rfl, (List.forall_mem_cons.mpr ⟨rfl, (fun _ z => by cases z)⟩)⟩)⟩) ?_
  intro p e s m below meth c ls Z hr hlk hin hR hS hl
  have hx := Z.1
  have hb := Z.2.1
  have hl : LV ls 3 [(0, va_rf (some this)), (1, .int a0), (2, .int a1)] := hl
  unfold f_X8_isAhead at hq
  refine xaln hx hb hl (x := (some this)) 0 rfl dX8_isAhead_0 ?_
  refine xgR Z hR hq fl_X8_54 rfl dX8_isAhead_1 (fun x1 hq => ?_)
  refine xiln hx hb hl (x := a0) 1 rfl dX8_isAhead_4 ?_
  refine xaI Z hR hq dX8_isAhead_5 (fun x5 hq => ?_)
  refine xaln hx hb hl (x := (some this)) 0 rfl dX8_isAhead_6 ?_
  refine xgR Z hR hq fl_X8_54 rfl dX8_isAhead_7 (fun x7 hq => ?_)
  refine xiln hx hb hl (x := a1) 2 rfl dX8_isAhead_10 ?_
  refine xaI Z hR hq dX8_isAhead_11 (fun x11 hq => ?_)
  refine xcLt hx hb hq (tgt := 35) dX8_isAhead_12 (by decide) (fun hq => ?_) (fun hq => ?_)
  · exact t_X8_isAhead_35 Z hr hlk hin  h _ _ ls hq hR hS (hl.sub [] rfl)
  refine xaln hx hb hl (x := (some this)) 0 rfl dX8_isAhead_15 ?_
  refine xgR Z hR hq fl_X8_54 rfl dX8_isAhead_16 (fun x16 hq => ?_)
  refine xiln hx hb hl (x := a0) 1 rfl dX8_isAhead_19 ?_
  refine xaI Z hR hq dX8_isAhead_20 (fun x20 hq => ?_)
  refine xaln hx hb hl (x := (some this)) 0 rfl dX8_isAhead_21 ?_
  refine xgR Z hR hq fl_X8_54 rfl dX8_isAhead_22 (fun x22 hq => ?_)
  refine xiln hx hb hl (x := a1) 2 rfl dX8_isAhead_25 ?_
  refine xaI Z hR hq dX8_isAhead_26 (fun x26 hq => ?_)
  refine xcNe hx hb hq (tgt := 39) dX8_isAhead_27 (by decide) (fun hq => ?_) (fun hq => ?_)
  · exact t_X8_isAhead_39 Z hr hlk hin  h _ _ ls hq hR hS (hl.sub [] rfl)
  refine xiln hx hb hl (x := a0) 1 rfl dX8_isAhead_30 ?_
  refine xiln hx hb hl (x := a1) 2 rfl dX8_isAhead_31 ?_
  refine xcGe hx hb hq (tgt := 39) dX8_isAhead_32 (by decide) (fun hq => ?_) (fun hq => ?_)
  · exact t_X8_isAhead_39 Z hr hlk hin  h _ _ ls hq hR hS (hl.sub [] rfl)
  exact t_X8_isAhead_35 Z hr hlk hin  h _ _ ls hq hR hS (hl.sub [] rfl)
abbrev rm_X8_ranks : Room := { frames := 1, cells := 0, slots := 0, locals := 22 }
def f_X8_ranks_52  (k2 : Option Nat × Int32 × Hp → Option (Unit × Hp)) (l0 : Option Nat) (l1 : Int32) (l2 : Int32) (h : Hp) : Option (Unit × Hp) :=
gR h l0 9 24 (fun x53 =>
stI h x53 l2 l1 (fun h =>
k2 (l0, (l1 + 1), h)))
set_option maxHeartbeats 4000000 in
set_option maxRecDepth 100000 in
theorem t_X8_ranks_52 (Z : ZZ p s m args c cX8_ranks RX8 3 G) (hr : meth.sig.returnType = none) (hlk : meth.locks = false) (hin : meth.name = "ranks") {v : Unit} {h1 : Hp} {k2 : Option Nat × Int32 × Hp → Option (Unit × Hp)} (hk2 : ∀ u : Option Nat × Int32 × Hp, k2 u = some (v, h1) → ∀ (H : Heap) (locs : List Loc) (ls : Array Slot), Rep G u.2.2 H → va_S (AA G) s.heap H locs → LV ls 3 [(0, va_rf u.1), (1, .int u.2.1)] → W p l e rm_X8_ranks s m args below meth c H locs 0 0 (MQ below (Qx G none h1) args s 0 0 (AA G)) (F0 m 2 ls [])) : ∀ (l0 : Option Nat) (l1 : Int32) (l2 : Int32) (h : Hp) (H : Heap) (locs : List Loc) (ls : Array Slot), f_X8_ranks_52 k2 l0 l1 l2 h = some (v, h1) → Rep G h H → va_S (AA G) s.heap H locs → LV ls 3 [(0, va_rf l0), (1, .int l1), (2, .int l2)] → W p l e rm_X8_ranks s m args below meth c H locs 0 0 (MQ below (Qx G none h1) args s 0 0 (AA G)) (F0 m 52 ls []) := by
  intro l0 l1 l2 h H locs ls hq hR hS hl
  have hx := Z.1
  have hb := Z.2.1
  unfold f_X8_ranks_52 at hq
  refine xaln hx hb hl (x := l0) 0 rfl dX8_ranks_52 ?_
  refine xgR Z hR hq fl_X8_75 rfl dX8_ranks_53 (fun x53 hq => ?_)
  refine xiln hx hb hl (x := l2) 2 rfl dX8_ranks_56 ?_
  refine xiln hx hb hl (x := l1) 1 rfl dX8_ranks_57 ?_
  refine xsI Z hR hS hq dX8_ranks_58 (fun h H locs hq hR hS => ?_)
  refine xinc hx hb hl (x := l1) (v := (l1 + 1)) (lv' := [(1, .int (l1 + 1)), (0, va_rf l0), (2, .int l2)]) 1 rfl (by rw [show Int32.ofInt (1) = (1 : Int32) from by decide]) (by decide) dX8_ranks_59 rfl (fun ls hl => ?_)
  refine lv_goto (tgt := 2) hx hb dX8_ranks_62 (by decide) ?_
  exact hk2 (l0, (l1 + 1), h) hq H locs ls hR hS (hl.sub [1, 0] rfl)
def fb_X8_ranks_12  (k2 : Option Nat × Int32 × Hp → Option (Unit × Hp)) (k12 : Option Nat × Int32 × Int32 × Hp → Option (Unit × Hp)) (l0 : Option Nat) (l1 : Int32) (l2 : Int32) (h : Hp) : Option (Unit × Hp) :=
(if l2 ≤ 0 then
f_X8_ranks_52 k2 l0 l1 l2 h
else
gR h l0 9 24 (fun x19 =>
ldI h x19 (l2 - 1) (fun x25 =>
rcv h l0 9 (fun b26 => bd (f_X8_isAhead b26 l1 x25 h) (fun x26 h =>
(if x26 = 0 then
f_X8_ranks_52 k2 l0 l1 l2 h
else
gR h l0 9 24 (fun x33 =>
gR h l0 9 24 (fun x38 =>
ldI h x38 (l2 - 1) (fun x44 =>
stI h x33 l2 x44 (fun h =>
k12 (l0, l1, (l2 + (-1)), h)))))))))))
set_option maxHeartbeats 4000000 in
set_option maxRecDepth 100000 in
theorem tb_X8_ranks_12 (Z : ZZ p s m args c cX8_ranks RX8 3 G) (hr : meth.sig.returnType = none) (hlk : meth.locks = false) (hin : meth.name = "ranks") {v : Unit} {h1 : Hp} {k2 : Option Nat × Int32 × Hp → Option (Unit × Hp)} (hk2 : ∀ u : Option Nat × Int32 × Hp, k2 u = some (v, h1) → ∀ (H : Heap) (locs : List Loc) (ls : Array Slot), Rep G u.2.2 H → va_S (AA G) s.heap H locs → LV ls 3 [(0, va_rf u.1), (1, .int u.2.1)] → W p l e rm_X8_ranks s m args below meth c H locs 0 0 (MQ below (Qx G none h1) args s 0 0 (AA G)) (F0 m 2 ls [])) {k12 : Option Nat × Int32 × Int32 × Hp → Option (Unit × Hp)} (hk12 : ∀ u : Option Nat × Int32 × Int32 × Hp, k12 u = some (v, h1) → ∀ (H : Heap) (locs : List Loc) (ls : Array Slot), Rep G u.2.2.2 H → va_S (AA G) s.heap H locs → LV ls 3 [(0, va_rf u.1), (1, .int u.2.1), (2, .int u.2.2.1)] → W p l e rm_X8_ranks s m args below meth c H locs 0 0 (MQ below (Qx G none h1) args s 0 0 (AA G)) (F0 m 12 ls [])) : ∀ (l0 : Option Nat) (l1 : Int32) (l2 : Int32) (h : Hp) (H : Heap) (locs : List Loc) (ls : Array Slot), fb_X8_ranks_12 k2 k12 l0 l1 l2 h = some (v, h1) → Rep G h H → va_S (AA G) s.heap H locs → LV ls 3 [(0, va_rf l0), (1, .int l1), (2, .int l2)] → W p l e rm_X8_ranks s m args below meth c H locs 0 0 (MQ below (Qx G none h1) args s 0 0 (AA G)) (F0 m 12 ls []) := by
  intro l0 l1 l2 h H locs ls hq hR hS hl
  have hx := Z.1
  have hb := Z.2.1
  unfold fb_X8_ranks_12 at hq
  refine xiln hx hb hl (x := l2) 2 rfl dX8_ranks_12 ?_
  refine xzLe hx hb hq (tgt := 52) dX8_ranks_13 (by decide) (fun hq => ?_) (fun hq => ?_)
  · exact t_X8_ranks_52 Z hr hlk hin hk2 l0 l1 l2 h H locs ls hq hR hS (hl.sub [0, 1, 2] rfl)
  refine xaln hx hb hl (x := l0) 0 rfl dX8_ranks_16 ?_
  refine xiln hx hb hl (x := l1) 1 rfl dX8_ranks_17 ?_
  refine xaln hx hb hl (x := l0) 0 rfl dX8_ranks_18 ?_
  refine xgR Z hR hq fl_X8_75 rfl dX8_ranks_19 (fun x19 hq => ?_)
  refine xiln hx hb hl (x := l2) 2 rfl dX8_ranks_22 ?_
  refine lv_iconst (v := 1) hx hb dX8_ranks_23 (by decide) ?_
  refine lv_isub hx hb dX8_ranks_24 ?_
  refine xaI Z hR hq dX8_ranks_25 (fun x25 hq => ?_)
  refine xcV Z hR hS hl (rest := []) (As := [.int l1, .int x25]) hq cl_X8_169 (fun b x h1 hc => c_X8_isAhead l b l1 x25 h x h1 hc) ⟨⟨rfl, rfl⟩, (by decide), (by decide)⟩ rfl rfl (by first | decide | (simp only [List.map_cons, List.map_nil, rf_cat, ct_int, ct_ref, List.sum_cons, List.sum_nil] <;> decide)) dX8_ranks_26 (by decide) (fun x26 h H locs hq hR hS => ?_)
  refine xzEq hx hb hq (tgt := 52) dX8_ranks_29 (by decide) (fun hq => ?_) (fun hq => ?_)
  · exact t_X8_ranks_52 Z hr hlk hin hk2 l0 l1 l2 h H locs ls hq hR hS (hl.sub [0, 1, 2] rfl)
  refine xaln hx hb hl (x := l0) 0 rfl dX8_ranks_32 ?_
  refine xgR Z hR hq fl_X8_75 rfl dX8_ranks_33 (fun x33 hq => ?_)
  refine xiln hx hb hl (x := l2) 2 rfl dX8_ranks_36 ?_
  refine xaln hx hb hl (x := l0) 0 rfl dX8_ranks_37 ?_
  refine xgR Z hR hq fl_X8_75 rfl dX8_ranks_38 (fun x38 hq => ?_)
  refine xiln hx hb hl (x := l2) 2 rfl dX8_ranks_41 ?_
  refine lv_iconst (v := 1) hx hb dX8_ranks_42 (by decide) ?_
  refine lv_isub hx hb dX8_ranks_43 ?_
  refine xaI Z hR hq dX8_ranks_44 (fun x44 hq => ?_)
  refine xsI Z hR hS hq dX8_ranks_45 (fun h H locs hq hR hS => ?_)
  refine xinc hx hb hl (x := l2) (v := (l2 + (-1))) (lv' := [(2, .int (l2 + (-1))), (0, va_rf l0), (1, .int l1)]) 2 rfl (by rw [show Int32.ofInt (-1) = (-1 : Int32) from by decide]) (by decide) dX8_ranks_46 rfl (fun ls hl => ?_)
  refine lv_goto (tgt := 12) hx hb dX8_ranks_49 (by decide) ?_
  exact hk12 (l0, l1, (l2 + (-1)), h) hq H locs ls hR hS (hl.sub [1, 2, 0] rfl)
def f_X8_ranks_12  (k2 : Option Nat × Int32 × Hp → Option (Unit × Hp)) (l0 : Option Nat) (l1 : Int32) (l2 : Int32) (h : Hp) : Option (Unit × Hp) :=
  lp (fun (k12 : Option Nat × Int32 × Int32 × Hp → Option (Unit × Hp)) (u : Option Nat × Int32 × Int32 × Hp) => fb_X8_ranks_12 k2 k12 u.1 u.2.1 u.2.2.1 u.2.2.2) FU (l0, l1, l2, h)
theorem t_X8_ranks_12 (Z : ZZ p s m args c cX8_ranks RX8 3 G) (hr : meth.sig.returnType = none) (hlk : meth.locks = false) (hin : meth.name = "ranks") {v : Unit} {h1 : Hp} {k2 : Option Nat × Int32 × Hp → Option (Unit × Hp)} (hk2 : ∀ u : Option Nat × Int32 × Hp, k2 u = some (v, h1) → ∀ (H : Heap) (locs : List Loc) (ls : Array Slot), Rep G u.2.2 H → va_S (AA G) s.heap H locs → LV ls 3 [(0, va_rf u.1), (1, .int u.2.1)] → W p l e rm_X8_ranks s m args below meth c H locs 0 0 (MQ below (Qx G none h1) args s 0 0 (AA G)) (F0 m 2 ls [])) : ∀ (l0 : Option Nat) (l1 : Int32) (l2 : Int32) (h : Hp) (H : Heap) (locs : List Loc) (ls : Array Slot), f_X8_ranks_12 k2 l0 l1 l2 h = some (v, h1) → Rep G h H → va_S (AA G) s.heap H locs → LV ls 3 [(0, va_rf l0), (1, .int l1), (2, .int l2)] → W p l e rm_X8_ranks s m args below meth c H locs 0 0 (MQ below (Qx G none h1) args s 0 0 (AA G)) (F0 m 12 ls []) := by
  intro l0 l1 l2 h H locs ls hq hR hS hl
  exact lp_ind (P := fun u : Option Nat × Int32 × Int32 × Hp => ∀ (H : Heap) (locs : List Loc) (ls : Array Slot), Rep G u.2.2.2 H → va_S (AA G) s.heap H locs → LV ls 3 [(0, va_rf u.1), (1, .int u.2.1), (2, .int u.2.2.1)] → W p l e rm_X8_ranks s m args below meth c H locs 0 0 (MQ below (Qx G none h1) args s 0 0 (AA G)) (F0 m 12 ls [])) (fun k hk u hq H locs ls hR hS hl => tb_X8_ranks_12 Z hr hlk hin hk2 hk u.1 u.2.1 u.2.2.1 u.2.2.2 H locs ls hq hR hS hl) FU (l0, l1, l2, h) hq H locs ls hR hS hl
def fb_X8_ranks_2  (k2 : Option Nat × Int32 × Hp → Option (Unit × Hp)) (l0 : Option Nat) (l1 : Int32) (h : Hp) : Option (Unit × Hp) :=
gI h l0 9 9 (fun x4 =>
(if x4 ≤ l1 then
rtV h
else
f_X8_ranks_12 k2 l0 l1 l1 h))
set_option maxHeartbeats 4000000 in
set_option maxRecDepth 100000 in
theorem tb_X8_ranks_2 (Z : ZZ p s m args c cX8_ranks RX8 3 G) (hr : meth.sig.returnType = none) (hlk : meth.locks = false) (hin : meth.name = "ranks") {v : Unit} {h1 : Hp} {k2 : Option Nat × Int32 × Hp → Option (Unit × Hp)} (hk2 : ∀ u : Option Nat × Int32 × Hp, k2 u = some (v, h1) → ∀ (H : Heap) (locs : List Loc) (ls : Array Slot), Rep G u.2.2 H → va_S (AA G) s.heap H locs → LV ls 3 [(0, va_rf u.1), (1, .int u.2.1)] → W p l e rm_X8_ranks s m args below meth c H locs 0 0 (MQ below (Qx G none h1) args s 0 0 (AA G)) (F0 m 2 ls [])) : ∀ (l0 : Option Nat) (l1 : Int32) (h : Hp) (H : Heap) (locs : List Loc) (ls : Array Slot), fb_X8_ranks_2 k2 l0 l1 h = some (v, h1) → Rep G h H → va_S (AA G) s.heap H locs → LV ls 3 [(0, va_rf l0), (1, .int l1)] → W p l e rm_X8_ranks s m args below meth c H locs 0 0 (MQ below (Qx G none h1) args s 0 0 (AA G)) (F0 m 2 ls []) := by
  intro l0 l1 h H locs ls hq hR hS hl
  have hx := Z.1
  have hb := Z.2.1
  unfold fb_X8_ranks_2 at hq
  refine xiln hx hb hl (x := l1) 1 rfl dX8_ranks_2 ?_
  refine xaln hx hb hl (x := l0) 0 rfl dX8_ranks_3 ?_
  refine xgI Z hR hq fl_X8_108 rfl dX8_ranks_4 (fun x4 hq => ?_)
  refine xcGe hx hb hq (tgt := 65) dX8_ranks_7 (by decide) (fun hq => ?_) (fun hq => ?_)
  · exact xrV hx hb hr hlk hR hS hq (by decide) (by decide) dX8_ranks_65
  refine xiln hx hb hl (x := l1) 1 rfl dX8_ranks_10 ?_
  refine xisn hx hb hl (x := l1) (lv' := [(2, .int l1), (0, va_rf l0), (1, .int l1)]) (by decide) dX8_ranks_11 rfl (fun ls hl => ?_)
  exact t_X8_ranks_12 Z hr hlk hin hk2 l0 l1 l1 h H locs ls hq hR hS (hl.sub [1, 2, 0] rfl)
def f_X8_ranks_2  (l0 : Option Nat) (l1 : Int32) (h : Hp) : Option (Unit × Hp) :=
  lp (fun (k2 : Option Nat × Int32 × Hp → Option (Unit × Hp)) (u : Option Nat × Int32 × Hp) => fb_X8_ranks_2 k2 u.1 u.2.1 u.2.2) FU (l0, l1, h)
theorem t_X8_ranks_2 (Z : ZZ p s m args c cX8_ranks RX8 3 G) (hr : meth.sig.returnType = none) (hlk : meth.locks = false) (hin : meth.name = "ranks") {v : Unit} {h1 : Hp} : ∀ (l0 : Option Nat) (l1 : Int32) (h : Hp) (H : Heap) (locs : List Loc) (ls : Array Slot), f_X8_ranks_2 l0 l1 h = some (v, h1) → Rep G h H → va_S (AA G) s.heap H locs → LV ls 3 [(0, va_rf l0), (1, .int l1)] → W p l e rm_X8_ranks s m args below meth c H locs 0 0 (MQ below (Qx G none h1) args s 0 0 (AA G)) (F0 m 2 ls []) := by
  intro l0 l1 h H locs ls hq hR hS hl
  exact lp_ind (P := fun u : Option Nat × Int32 × Hp => ∀ (H : Heap) (locs : List Loc) (ls : Array Slot), Rep G u.2.2 H → va_S (AA G) s.heap H locs → LV ls 3 [(0, va_rf u.1), (1, .int u.2.1)] → W p l e rm_X8_ranks s m args below meth c H locs 0 0 (MQ below (Qx G none h1) args s 0 0 (AA G)) (F0 m 2 ls [])) (fun k hk u hq H locs ls hR hS hl => tb_X8_ranks_2 Z hr hlk hin hk u.1 u.2.1 u.2.2 H locs ls hq hR hS hl) FU (l0, l1, h) hq H locs ls hR hS hl
def f_X8_ranks (this : Nat) (h : Hp) : Option (Unit × Hp) :=
f_X8_ranks_2 (some this) 0 h
set_option maxHeartbeats 4000000 in
set_option maxRecDepth 100000 in
theorem c_X8_ranks (l : Launch) {G : GG} (this : Nat) (h : Hp) (v : Unit) (h1 : Hp) (hq : f_X8_ranks this h = some (v, h1)) : Met l yX8_ranks (Cond.code yX8_ranks cX8_ranks 3 none :: GT) rm_X8_ranks (va_Pc [.ref this] (Cn G h)) (Qx G none h1) 0 0 (AA G) := by
  refine xMet (cc := cX8_ranks) (by decide) (Nat.le_of_ble_eq_true rfl) (List.forall_mem_cons.mpr ⟨rfl, (fun _ z => by cases z)⟩) ?_
  intro p e s m below meth c ls Z hr hlk hin hR hS hl
  have hx := Z.1
  have hb := Z.2.1
  have hl : LV ls 3 [(0, va_rf (some this))] := hl
  unfold f_X8_ranks at hq
  refine lv_iconst (v := 0) hx hb dX8_ranks_0 (by decide) ?_
  refine xisn hx hb hl (x := 0) (lv' := [(1, .int 0), (0, va_rf (some this))]) (by decide) dX8_ranks_1 rfl (fun ls hl => ?_)
  exact t_X8_ranks_2 Z hr hlk hin (some this) 0 h _ _ ls hq hR hS (hl.sub [1, 0] rfl)
abbrev rm_X8_goes : Room := { frames := 7, cells := 0, slots := 0, locals := 163 }
def f_X8_goes_115  (k32 : Option Nat × Int32 × Hp → Option (Int32 × Hp)) (l0 : Option Nat) (l1 : Int32) (h : Hp) : Option (Int32 × Hp) :=
k32 (l0, (l1 + 1), h)
set_option maxHeartbeats 4000000 in
set_option maxRecDepth 100000 in
theorem t_X8_goes_115 (Z : ZZ p s m args c cX8_goes RX8 5 G) (hr : meth.sig.returnType = (some .int)) (hlk : meth.locks = false) (hin : meth.name = "goes") {v : Int32} {h1 : Hp} {k32 : Option Nat × Int32 × Hp → Option (Int32 × Hp)} (hk32 : ∀ u : Option Nat × Int32 × Hp, k32 u = some (v, h1) → ∀ (H : Heap) (locs : List Loc) (ls : Array Slot), Rep G u.2.2 H → va_S (AA G) s.heap H locs → LV ls 5 [(0, va_rf u.1), (1, .int u.2.1)] → W p l e rm_X8_goes s m args below meth c H locs 0 0 (MQ below (Qx G (some (.int v)) h1) args s 0 0 (AA G)) (F0 m 32 ls [])) : ∀ (l0 : Option Nat) (l1 : Int32) (h : Hp) (H : Heap) (locs : List Loc) (ls : Array Slot), f_X8_goes_115 k32 l0 l1 h = some (v, h1) → Rep G h H → va_S (AA G) s.heap H locs → LV ls 5 [(0, va_rf l0), (1, .int l1)] → W p l e rm_X8_goes s m args below meth c H locs 0 0 (MQ below (Qx G (some (.int v)) h1) args s 0 0 (AA G)) (F0 m 115 ls []) := by
  intro l0 l1 h H locs ls hq hR hS hl
  have hx := Z.1
  have hb := Z.2.1
  unfold f_X8_goes_115 at hq
  refine xinc hx hb hl (x := l1) (v := (l1 + 1)) (lv' := [(1, .int (l1 + 1)), (0, va_rf l0)]) 1 rfl (by rw [show Int32.ofInt (1) = (1 : Int32) from by decide]) (by decide) dX8_goes_115 rfl (fun ls hl => ?_)
  refine lv_goto (tgt := 32) hx hb dX8_goes_118 (by decide) ?_
  exact hk32 (l0, (l1 + 1), h) hq H locs ls hR hS (hl.sub [1, 0] rfl)
def f_X8_goes_153  (k125 : Option Nat × Int32 × Int32 × Hp → Option (Int32 × Hp)) (s0 : Int32) (s1 : Int32) (l0 : Option Nat) (l2 : Int32) (h : Hp) : Option (Int32 × Hp) :=
k125 (l0, (s0 + s1), (l2 + 1), h)
set_option maxHeartbeats 4000000 in
set_option maxRecDepth 100000 in
theorem t_X8_goes_153 (Z : ZZ p s m args c cX8_goes RX8 5 G) (hr : meth.sig.returnType = (some .int)) (hlk : meth.locks = false) (hin : meth.name = "goes") {v : Int32} {h1 : Hp} {k125 : Option Nat × Int32 × Int32 × Hp → Option (Int32 × Hp)} (hk125 : ∀ u : Option Nat × Int32 × Int32 × Hp, k125 u = some (v, h1) → ∀ (H : Heap) (locs : List Loc) (ls : Array Slot), Rep G u.2.2.2 H → va_S (AA G) s.heap H locs → LV ls 5 [(0, va_rf u.1), (1, .int u.2.1), (2, .int u.2.2.1)] → W p l e rm_X8_goes s m args below meth c H locs 0 0 (MQ below (Qx G (some (.int v)) h1) args s 0 0 (AA G)) (F0 m 125 ls [])) : ∀ (s0 : Int32) (s1 : Int32) (l0 : Option Nat) (l2 : Int32) (h : Hp) (H : Heap) (locs : List Loc) (ls : Array Slot), f_X8_goes_153 k125 s0 s1 l0 l2 h = some (v, h1) → Rep G h H → va_S (AA G) s.heap H locs → LV ls 5 [(0, va_rf l0), (2, .int l2)] → W p l e rm_X8_goes s m args below meth c H locs 0 0 (MQ below (Qx G (some (.int v)) h1) args s 0 0 (AA G)) (F0 m 153 ls [.int s1, .int s0]) := by
  intro s0 s1 l0 l2 h H locs ls hq hR hS hl
  have hx := Z.1
  have hb := Z.2.1
  unfold f_X8_goes_153 at hq
  refine lv_iadd hx hb dX8_goes_153 ?_
  refine xisn hx hb hl (x := (s0 + s1)) (lv' := [(1, .int (s0 + s1)), (0, va_rf l0), (2, .int l2)]) (by decide) dX8_goes_154 rfl (fun ls hl => ?_)
  refine xinc hx hb hl (x := l2) (v := (l2 + 1)) (lv' := [(2, .int (l2 + 1)), (1, .int (s0 + s1)), (0, va_rf l0)]) 2 rfl (by rw [show Int32.ofInt (1) = (1 : Int32) from by decide]) (by decide) dX8_goes_155 rfl (fun ls hl => ?_)
  refine lv_goto (tgt := 125) hx hb dX8_goes_158 (by decide) ?_
  exact hk125 (l0, (s0 + s1), (l2 + 1), h) hq H locs ls hR hS (hl.sub [2, 1, 0] rfl)
def fb_X8_goes_125  (k125 : Option Nat × Int32 × Int32 × Hp → Option (Int32 × Hp)) (l0 : Option Nat) (l1 : Int32) (l2 : Int32) (h : Hp) : Option (Int32 × Hp) :=
gI h l0 9 9 (fun x127 =>
(if x127 ≤ l2 then
rtI l1 h
else
gR h l0 9 19 (fun x135 =>
ldZ h x135 l2 (fun x139 =>
(if x139 = 0 then
f_X8_goes_153 k125 l1 0 l0 l2 h
else
gR h l0 9 16 (fun x144 =>
ldI h x144 l2 (fun x148 =>
f_X8_goes_153 k125 l1 x148 l0 l2 h)))))))
set_option maxHeartbeats 4000000 in
set_option maxRecDepth 100000 in
theorem tb_X8_goes_125 (Z : ZZ p s m args c cX8_goes RX8 5 G) (hr : meth.sig.returnType = (some .int)) (hlk : meth.locks = false) (hin : meth.name = "goes") {v : Int32} {h1 : Hp} {k125 : Option Nat × Int32 × Int32 × Hp → Option (Int32 × Hp)} (hk125 : ∀ u : Option Nat × Int32 × Int32 × Hp, k125 u = some (v, h1) → ∀ (H : Heap) (locs : List Loc) (ls : Array Slot), Rep G u.2.2.2 H → va_S (AA G) s.heap H locs → LV ls 5 [(0, va_rf u.1), (1, .int u.2.1), (2, .int u.2.2.1)] → W p l e rm_X8_goes s m args below meth c H locs 0 0 (MQ below (Qx G (some (.int v)) h1) args s 0 0 (AA G)) (F0 m 125 ls [])) : ∀ (l0 : Option Nat) (l1 : Int32) (l2 : Int32) (h : Hp) (H : Heap) (locs : List Loc) (ls : Array Slot), fb_X8_goes_125 k125 l0 l1 l2 h = some (v, h1) → Rep G h H → va_S (AA G) s.heap H locs → LV ls 5 [(0, va_rf l0), (1, .int l1), (2, .int l2)] → W p l e rm_X8_goes s m args below meth c H locs 0 0 (MQ below (Qx G (some (.int v)) h1) args s 0 0 (AA G)) (F0 m 125 ls []) := by
  intro l0 l1 l2 h H locs ls hq hR hS hl
  have hx := Z.1
  have hb := Z.2.1
  unfold fb_X8_goes_125 at hq
  refine xiln hx hb hl (x := l2) 2 rfl dX8_goes_125 ?_
  refine xaln hx hb hl (x := l0) 0 rfl dX8_goes_126 ?_
  refine xgI Z hR hq fl_X8_108 rfl dX8_goes_127 (fun x127 hq => ?_)
  refine xcGe hx hb hq (tgt := 161) dX8_goes_130 (by decide) (fun hq => ?_) (fun hq => ?_)
  · refine xiln hx hb hl (x := l1) 1 rfl dX8_goes_161 ?_
    exact xrI hx hb hr hlk hR hS hq (by decide) (by decide) dX8_goes_162
  refine xiln hx hb hl (x := l1) 1 rfl dX8_goes_133 ?_
  refine xaln hx hb hl (x := l0) 0 rfl dX8_goes_134 ?_
  refine xgR Z hR hq fl_X8_60 rfl dX8_goes_135 (fun x135 hq => ?_)
  refine xiln hx hb hl (x := l2) 2 rfl dX8_goes_138 ?_
  refine xaZ Z hR hq dX8_goes_139 (fun x139 hq => ?_)
  refine xzEq hx hb hq (tgt := 152) dX8_goes_140 (by decide) (fun hq => ?_) (fun hq => ?_)
  · refine lv_iconst (v := 0) hx hb dX8_goes_152 (by decide) ?_
    exact t_X8_goes_153 Z hr hlk hin hk125 l1 0 l0 l2 h H locs ls hq hR hS (hl.sub [0, 2] rfl)
  refine xaln hx hb hl (x := l0) 0 rfl dX8_goes_143 ?_
  refine xgR Z hR hq fl_X8_51 rfl dX8_goes_144 (fun x144 hq => ?_)
  refine xiln hx hb hl (x := l2) 2 rfl dX8_goes_147 ?_
  refine xaI Z hR hq dX8_goes_148 (fun x148 hq => ?_)
  refine lv_goto (tgt := 153) hx hb dX8_goes_149 (by decide) ?_
  exact t_X8_goes_153 Z hr hlk hin hk125 l1 x148 l0 l2 h H locs ls hq hR hS (hl.sub [0, 2] rfl)
def f_X8_goes_125  (l0 : Option Nat) (l1 : Int32) (l2 : Int32) (h : Hp) : Option (Int32 × Hp) :=
  lp (fun (k125 : Option Nat × Int32 × Int32 × Hp → Option (Int32 × Hp)) (u : Option Nat × Int32 × Int32 × Hp) => fb_X8_goes_125 k125 u.1 u.2.1 u.2.2.1 u.2.2.2) FU (l0, l1, l2, h)
theorem t_X8_goes_125 (Z : ZZ p s m args c cX8_goes RX8 5 G) (hr : meth.sig.returnType = (some .int)) (hlk : meth.locks = false) (hin : meth.name = "goes") {v : Int32} {h1 : Hp} : ∀ (l0 : Option Nat) (l1 : Int32) (l2 : Int32) (h : Hp) (H : Heap) (locs : List Loc) (ls : Array Slot), f_X8_goes_125 l0 l1 l2 h = some (v, h1) → Rep G h H → va_S (AA G) s.heap H locs → LV ls 5 [(0, va_rf l0), (1, .int l1), (2, .int l2)] → W p l e rm_X8_goes s m args below meth c H locs 0 0 (MQ below (Qx G (some (.int v)) h1) args s 0 0 (AA G)) (F0 m 125 ls []) := by
  intro l0 l1 l2 h H locs ls hq hR hS hl
  exact lp_ind (P := fun u : Option Nat × Int32 × Int32 × Hp => ∀ (H : Heap) (locs : List Loc) (ls : Array Slot), Rep G u.2.2.2 H → va_S (AA G) s.heap H locs → LV ls 5 [(0, va_rf u.1), (1, .int u.2.1), (2, .int u.2.2.1)] → W p l e rm_X8_goes s m args below meth c H locs 0 0 (MQ below (Qx G (some (.int v)) h1) args s 0 0 (AA G)) (F0 m 125 ls [])) (fun k hk u hq H locs ls hR hS hl => tb_X8_goes_125 Z hr hlk hin hk u.1 u.2.1 u.2.2.1 u.2.2.2 H locs ls hq hR hS hl) FU (l0, l1, l2, h) hq H locs ls hR hS hl
def fb_X8_goes_32  (k32 : Option Nat × Int32 × Hp → Option (Int32 × Hp)) (l0 : Option Nat) (l1 : Int32) (h : Hp) : Option (Int32 × Hp) :=
gI h l0 9 9 (fun x34 =>
(if x34 ≤ l1 then
f_X8_goes_125 l0 0 0 h
else
gR h l0 9 24 (fun x41 =>
ldI h x41 l1 (fun x45 =>
gR h l0 9 25 (fun x48 =>
ldZ h x48 x45 (fun x52 =>
(if x52 = 0 then
gR h l0 9 25 (fun x60 =>
stZ h x60 x45 1 (fun h =>
gR h l0 9 18 (fun x67 =>
ldI h x67 x45 (fun x71 =>
rcv h l0 9 (fun b75 => bd (f_X8_give b75 x45 h) (fun x75 h =>
(if x71 = (-1) then
f_X8_goes_115 k32 l0 l1 h
else
gR h l0 9 25 (fun x89 =>
stZ h x89 x71 1 (fun h =>
(if x75 = 0 then
f_X8_goes_115 k32 l0 l1 h
else
rcv h l0 9 (fun b102 => bd (f_X8_give b102 x71 h) (fun x102 h =>
(if x102 = 0 then
gR h l0 9 19 (fun x109 =>
stZ h x109 x45 0 (fun h =>
f_X8_goes_115 k32 l0 l1 h))
else
f_X8_goes_115 k32 l0 l1 h)))))))))))))
else
f_X8_goes_115 k32 l0 l1 h)))))))
set_option maxHeartbeats 4000000 in
set_option maxRecDepth 100000 in
theorem tb_X8_goes_32 (Z : ZZ p s m args c cX8_goes RX8 5 G) (hr : meth.sig.returnType = (some .int)) (hlk : meth.locks = false) (hin : meth.name = "goes") {v : Int32} {h1 : Hp} {k32 : Option Nat × Int32 × Hp → Option (Int32 × Hp)} (hk32 : ∀ u : Option Nat × Int32 × Hp, k32 u = some (v, h1) → ∀ (H : Heap) (locs : List Loc) (ls : Array Slot), Rep G u.2.2 H → va_S (AA G) s.heap H locs → LV ls 5 [(0, va_rf u.1), (1, .int u.2.1)] → W p l e rm_X8_goes s m args below meth c H locs 0 0 (MQ below (Qx G (some (.int v)) h1) args s 0 0 (AA G)) (F0 m 32 ls [])) : ∀ (l0 : Option Nat) (l1 : Int32) (h : Hp) (H : Heap) (locs : List Loc) (ls : Array Slot), fb_X8_goes_32 k32 l0 l1 h = some (v, h1) → Rep G h H → va_S (AA G) s.heap H locs → LV ls 5 [(0, va_rf l0), (1, .int l1)] → W p l e rm_X8_goes s m args below meth c H locs 0 0 (MQ below (Qx G (some (.int v)) h1) args s 0 0 (AA G)) (F0 m 32 ls []) := by
  intro l0 l1 h H locs ls hq hR hS hl
  have hx := Z.1
  have hb := Z.2.1
  unfold fb_X8_goes_32 at hq
  refine xiln hx hb hl (x := l1) 1 rfl dX8_goes_32 ?_
  refine xaln hx hb hl (x := l0) 0 rfl dX8_goes_33 ?_
  refine xgI Z hR hq fl_X8_108 rfl dX8_goes_34 (fun x34 hq => ?_)
  refine xcGe hx hb hq (tgt := 121) dX8_goes_37 (by decide) (fun hq => ?_) (fun hq => ?_)
  · refine lv_iconst (v := 0) hx hb dX8_goes_121 (by decide) ?_
    refine xisn hx hb hl (x := 0) (lv' := [(1, .int 0), (0, va_rf l0)]) (by decide) dX8_goes_122 rfl (fun ls hl => ?_)
    refine lv_iconst (v := 0) hx hb dX8_goes_123 (by decide) ?_
    refine xisn hx hb hl (x := 0) (lv' := [(2, .int 0), (1, .int 0), (0, va_rf l0)]) (by decide) dX8_goes_124 rfl (fun ls hl => ?_)
    exact t_X8_goes_125 Z hr hlk hin l0 0 0 h H locs ls hq hR hS (hl.sub [2, 1, 0] rfl)
  refine xaln hx hb hl (x := l0) 0 rfl dX8_goes_40 ?_
  refine xgR Z hR hq fl_X8_75 rfl dX8_goes_41 (fun x41 hq => ?_)
  refine xiln hx hb hl (x := l1) 1 rfl dX8_goes_44 ?_
  refine xaI Z hR hq dX8_goes_45 (fun x45 hq => ?_)
  refine xisn hx hb hl (x := x45) (lv' := [(2, .int x45), (0, va_rf l0), (1, .int l1)]) (by decide) dX8_goes_46 rfl (fun ls hl => ?_)
  refine xaln hx hb hl (x := l0) 1 rfl dX8_goes_47 ?_
  refine xgR Z hR hq fl_X8_78 rfl dX8_goes_48 (fun x48 hq => ?_)
  refine xiln hx hb hl (x := x45) 0 rfl dX8_goes_51 ?_
  refine xaZ Z hR hq dX8_goes_52 (fun x52 hq => ?_)
  refine xzEq hx hb hq (tgt := 59) dX8_goes_53 (by decide) (fun hq => ?_) (fun hq => ?_)
  · refine xaln hx hb hl (x := l0) 1 rfl dX8_goes_59 ?_
    refine xgR Z hR hq fl_X8_78 rfl dX8_goes_60 (fun x60 hq => ?_)
    refine xiln hx hb hl (x := x45) 0 rfl dX8_goes_63 ?_
    refine lv_iconst (v := 1) hx hb dX8_goes_64 (by decide) ?_
    refine xsZ Z hR hS hq dX8_goes_65 (fun h H locs hq hR hS => ?_)
    refine xaln hx hb hl (x := l0) 1 rfl dX8_goes_66 ?_
    refine xgR Z hR hq fl_X8_57 rfl dX8_goes_67 (fun x67 hq => ?_)
    refine xiln hx hb hl (x := x45) 0 rfl dX8_goes_70 ?_
    refine xaI Z hR hq dX8_goes_71 (fun x71 hq => ?_)
    refine xisn hx hb hl (x := x71) (lv' := [(3, .int x71), (2, .int x45), (0, va_rf l0), (1, .int l1)]) (by decide) dX8_goes_72 rfl (fun ls hl => ?_)
    refine xaln hx hb hl (x := l0) 2 rfl dX8_goes_73 ?_
    refine xiln hx hb hl (x := x45) 1 rfl dX8_goes_74 ?_
    refine xcV Z hR hS hl (rest := []) (As := [.int x45]) hq cl_X8_172 (fun b x h1 hc => c_X8_give l b x45 h x h1 hc) ⟨⟨rfl, rfl⟩, (by decide), (by decide)⟩ rfl rfl (by first | decide | (simp only [List.map_cons, List.map_nil, rf_cat, ct_int, ct_ref, List.sum_cons, List.sum_nil] <;> decide)) dX8_goes_75 (by decide) (fun x75 h H locs hq hR hS => ?_)
    refine xis hx hb hl (x := x75) (lv' := [(4, .int x75), (3, .int x71), (2, .int x45), (0, va_rf l0), (1, .int l1)]) (by decide) dX8_goes_78 rfl (fun ls hl => ?_)
    refine xiln hx hb hl (x := x71) 1 rfl dX8_goes_80 ?_
    refine lv_iconst (v := (-1)) hx hb dX8_goes_81 (by decide) ?_
    refine xcNe hx hb hq (tgt := 88) dX8_goes_82 (by decide) (fun hq => ?_) (fun hq => ?_)
    · refine xaln hx hb hl (x := l0) 3 rfl dX8_goes_88 ?_
      refine xgR Z hR hq fl_X8_78 rfl dX8_goes_89 (fun x89 hq => ?_)
      refine xiln hx hb hl (x := x71) 1 rfl dX8_goes_92 ?_
      refine lv_iconst (v := 1) hx hb dX8_goes_93 (by decide) ?_
      refine xsZ Z hR hS hq dX8_goes_94 (fun h H locs hq hR hS => ?_)
      refine xil hx hb hl (x := x75) 0 rfl dX8_goes_95 ?_
      refine xzEq hx hb hq (tgt := 115) dX8_goes_97 (by decide) (fun hq => ?_) (fun hq => ?_)
      · exact t_X8_goes_115 Z hr hlk hin hk32 l0 l1 h H locs ls hq hR hS (hl.sub [3, 4] rfl)
      refine xaln hx hb hl (x := l0) 3 rfl dX8_goes_100 ?_
      refine xiln hx hb hl (x := x71) 1 rfl dX8_goes_101 ?_
      refine xcV Z hR hS hl (rest := []) (As := [.int x71]) hq cl_X8_172 (fun b x h1 hc => c_X8_give l b x71 h x h1 hc) ⟨⟨rfl, rfl⟩, (by decide), (by decide)⟩ rfl rfl (by first | decide | (simp only [List.map_cons, List.map_nil, rf_cat, ct_int, ct_ref, List.sum_cons, List.sum_nil] <;> decide)) dX8_goes_102 (by decide) (fun x102 h H locs hq hR hS => ?_)
      refine xzNe hx hb hq (tgt := 115) dX8_goes_105 (by decide) (fun hq => ?_) (fun hq => ?_)
      · exact t_X8_goes_115 Z hr hlk hin hk32 l0 l1 h H locs ls hq hR hS (hl.sub [3, 4] rfl)
      refine xaln hx hb hl (x := l0) 3 rfl dX8_goes_108 ?_
      refine xgR Z hR hq fl_X8_60 rfl dX8_goes_109 (fun x109 hq => ?_)
      refine xiln hx hb hl (x := x45) 2 rfl dX8_goes_112 ?_
      refine lv_iconst (v := 0) hx hb dX8_goes_113 (by decide) ?_
      refine xsZ Z hR hS hq dX8_goes_114 (fun h H locs hq hR hS => ?_)
      exact t_X8_goes_115 Z hr hlk hin hk32 l0 l1 h H locs ls hq hR hS (hl.sub [3, 4] rfl)
    refine lv_goto (tgt := 115) hx hb dX8_goes_85 (by decide) ?_
    exact t_X8_goes_115 Z hr hlk hin hk32 l0 l1 h H locs ls hq hR hS (hl.sub [3, 4] rfl)
  refine lv_goto (tgt := 115) hx hb dX8_goes_56 (by decide) ?_
  exact t_X8_goes_115 Z hr hlk hin hk32 l0 l1 h H locs ls hq hR hS (hl.sub [1, 2] rfl)
def f_X8_goes_32  (l0 : Option Nat) (l1 : Int32) (h : Hp) : Option (Int32 × Hp) :=
  lp (fun (k32 : Option Nat × Int32 × Hp → Option (Int32 × Hp)) (u : Option Nat × Int32 × Hp) => fb_X8_goes_32 k32 u.1 u.2.1 u.2.2) FU (l0, l1, h)
theorem t_X8_goes_32 (Z : ZZ p s m args c cX8_goes RX8 5 G) (hr : meth.sig.returnType = (some .int)) (hlk : meth.locks = false) (hin : meth.name = "goes") {v : Int32} {h1 : Hp} : ∀ (l0 : Option Nat) (l1 : Int32) (h : Hp) (H : Heap) (locs : List Loc) (ls : Array Slot), f_X8_goes_32 l0 l1 h = some (v, h1) → Rep G h H → va_S (AA G) s.heap H locs → LV ls 5 [(0, va_rf l0), (1, .int l1)] → W p l e rm_X8_goes s m args below meth c H locs 0 0 (MQ below (Qx G (some (.int v)) h1) args s 0 0 (AA G)) (F0 m 32 ls []) := by
  intro l0 l1 h H locs ls hq hR hS hl
  exact lp_ind (P := fun u : Option Nat × Int32 × Hp => ∀ (H : Heap) (locs : List Loc) (ls : Array Slot), Rep G u.2.2 H → va_S (AA G) s.heap H locs → LV ls 5 [(0, va_rf u.1), (1, .int u.2.1)] → W p l e rm_X8_goes s m args below meth c H locs 0 0 (MQ below (Qx G (some (.int v)) h1) args s 0 0 (AA G)) (F0 m 32 ls [])) (fun k hk u hq H locs ls hR hS hl => tb_X8_goes_32 Z hr hlk hin hk u.1 u.2.1 u.2.2 H locs ls hq hR hS hl) FU (l0, l1, h) hq H locs ls hR hS hl
def fb_X8_goes_2  (k2 : Option Nat × Int32 × Hp → Option (Int32 × Hp)) (l0 : Option Nat) (l1 : Int32) (h : Hp) : Option (Int32 × Hp) :=
gI h l0 9 9 (fun x4 =>
(if x4 ≤ l1 then
f_X8_goes_32 l0 0 h
else
gR h l0 9 25 (fun x11 =>
stZ h x11 l1 0 (fun h =>
gR h l0 9 19 (fun x18 =>
stZ h x18 l1 0 (fun h =>
k2 (l0, (l1 + 1), h)))))))
set_option maxHeartbeats 4000000 in
set_option maxRecDepth 100000 in
theorem tb_X8_goes_2 (Z : ZZ p s m args c cX8_goes RX8 5 G) (hr : meth.sig.returnType = (some .int)) (hlk : meth.locks = false) (hin : meth.name = "goes") {v : Int32} {h1 : Hp} {k2 : Option Nat × Int32 × Hp → Option (Int32 × Hp)} (hk2 : ∀ u : Option Nat × Int32 × Hp, k2 u = some (v, h1) → ∀ (H : Heap) (locs : List Loc) (ls : Array Slot), Rep G u.2.2 H → va_S (AA G) s.heap H locs → LV ls 5 [(0, va_rf u.1), (1, .int u.2.1)] → W p l e rm_X8_goes s m args below meth c H locs 0 0 (MQ below (Qx G (some (.int v)) h1) args s 0 0 (AA G)) (F0 m 2 ls [])) : ∀ (l0 : Option Nat) (l1 : Int32) (h : Hp) (H : Heap) (locs : List Loc) (ls : Array Slot), fb_X8_goes_2 k2 l0 l1 h = some (v, h1) → Rep G h H → va_S (AA G) s.heap H locs → LV ls 5 [(0, va_rf l0), (1, .int l1)] → W p l e rm_X8_goes s m args below meth c H locs 0 0 (MQ below (Qx G (some (.int v)) h1) args s 0 0 (AA G)) (F0 m 2 ls []) := by
  intro l0 l1 h H locs ls hq hR hS hl
  have hx := Z.1
  have hb := Z.2.1
  unfold fb_X8_goes_2 at hq
  refine xiln hx hb hl (x := l1) 1 rfl dX8_goes_2 ?_
  refine xaln hx hb hl (x := l0) 0 rfl dX8_goes_3 ?_
  refine xgI Z hR hq fl_X8_108 rfl dX8_goes_4 (fun x4 hq => ?_)
  refine xcGe hx hb hq (tgt := 30) dX8_goes_7 (by decide) (fun hq => ?_) (fun hq => ?_)
  · refine lv_iconst (v := 0) hx hb dX8_goes_30 (by decide) ?_
    refine xisn hx hb hl (x := 0) (lv' := [(1, .int 0), (0, va_rf l0)]) (by decide) dX8_goes_31 rfl (fun ls hl => ?_)
    exact t_X8_goes_32 Z hr hlk hin l0 0 h H locs ls hq hR hS (hl.sub [1, 0] rfl)
  refine xaln hx hb hl (x := l0) 0 rfl dX8_goes_10 ?_
  refine xgR Z hR hq fl_X8_78 rfl dX8_goes_11 (fun x11 hq => ?_)
  refine xiln hx hb hl (x := l1) 1 rfl dX8_goes_14 ?_
  refine lv_iconst (v := 0) hx hb dX8_goes_15 (by decide) ?_
  refine xsZ Z hR hS hq dX8_goes_16 (fun h H locs hq hR hS => ?_)
  refine xaln hx hb hl (x := l0) 0 rfl dX8_goes_17 ?_
  refine xgR Z hR hq fl_X8_60 rfl dX8_goes_18 (fun x18 hq => ?_)
  refine xiln hx hb hl (x := l1) 1 rfl dX8_goes_21 ?_
  refine lv_iconst (v := 0) hx hb dX8_goes_22 (by decide) ?_
  refine xsZ Z hR hS hq dX8_goes_23 (fun h H locs hq hR hS => ?_)
  refine xinc hx hb hl (x := l1) (v := (l1 + 1)) (lv' := [(1, .int (l1 + 1)), (0, va_rf l0)]) 1 rfl (by rw [show Int32.ofInt (1) = (1 : Int32) from by decide]) (by decide) dX8_goes_24 rfl (fun ls hl => ?_)
  refine lv_goto (tgt := 2) hx hb dX8_goes_27 (by decide) ?_
  exact hk2 (l0, (l1 + 1), h) hq H locs ls hR hS (hl.sub [1, 0] rfl)
def f_X8_goes_2  (l0 : Option Nat) (l1 : Int32) (h : Hp) : Option (Int32 × Hp) :=
  lp (fun (k2 : Option Nat × Int32 × Hp → Option (Int32 × Hp)) (u : Option Nat × Int32 × Hp) => fb_X8_goes_2 k2 u.1 u.2.1 u.2.2) FU (l0, l1, h)
theorem t_X8_goes_2 (Z : ZZ p s m args c cX8_goes RX8 5 G) (hr : meth.sig.returnType = (some .int)) (hlk : meth.locks = false) (hin : meth.name = "goes") {v : Int32} {h1 : Hp} : ∀ (l0 : Option Nat) (l1 : Int32) (h : Hp) (H : Heap) (locs : List Loc) (ls : Array Slot), f_X8_goes_2 l0 l1 h = some (v, h1) → Rep G h H → va_S (AA G) s.heap H locs → LV ls 5 [(0, va_rf l0), (1, .int l1)] → W p l e rm_X8_goes s m args below meth c H locs 0 0 (MQ below (Qx G (some (.int v)) h1) args s 0 0 (AA G)) (F0 m 2 ls []) := by
  intro l0 l1 h H locs ls hq hR hS hl
  exact lp_ind (P := fun u : Option Nat × Int32 × Hp => ∀ (H : Heap) (locs : List Loc) (ls : Array Slot), Rep G u.2.2 H → va_S (AA G) s.heap H locs → LV ls 5 [(0, va_rf u.1), (1, .int u.2.1)] → W p l e rm_X8_goes s m args below meth c H locs 0 0 (MQ below (Qx G (some (.int v)) h1) args s 0 0 (AA G)) (F0 m 2 ls [])) (fun k hk u hq H locs ls hR hS hl => tb_X8_goes_2 Z hr hlk hin hk u.1 u.2.1 u.2.2 H locs ls hq hR hS hl) FU (l0, l1, h) hq H locs ls hR hS hl
def f_X8_goes (this : Nat) (h : Hp) : Option (Int32 × Hp) :=
f_X8_goes_2 (some this) 0 h
set_option maxHeartbeats 4000000 in
set_option maxRecDepth 100000 in
theorem c_X8_goes (l : Launch) {G : GG} (this : Nat) (h : Hp) (v : Int32) (h1 : Hp) (hq : f_X8_goes this h = some (v, h1)) : Met l yX8_goes (Cond.code yX8_goes cX8_goes 5 (some .int) :: GT) rm_X8_goes (va_Pc [.ref this] (Cn G h)) (Qx G (some (.int v)) h1) 0 0 (AA G) := by
  refine xMet (cc := cX8_goes) (by decide) (Nat.le_of_ble_eq_true rfl) (List.forall_mem_cons.mpr ⟨rfl, (fun _ z => by cases z)⟩) ?_
  intro p e s m below meth c ls Z hr hlk hin hR hS hl
  have hx := Z.1
  have hb := Z.2.1
  have hl : LV ls 5 [(0, va_rf (some this))] := hl
  unfold f_X8_goes at hq
  refine lv_iconst (v := 0) hx hb dX8_goes_0 (by decide) ?_
  refine xisn hx hb hl (x := 0) (lv' := [(1, .int 0), (0, va_rf (some this))]) (by decide) dX8_goes_1 rfl (fun ls hl => ?_)
  exact t_X8_goes_2 Z hr hlk hin (some this) 0 h _ _ ls hq hR hS (hl.sub [1, 0] rfl)
abbrev rm_X8_count : Room := { frames := 0, cells := 0, slots := 0, locals := 0 }
def f_X8_count_75  (k52 : Option Nat × Int32 × Int32 × Hp → Option (Int32 × Hp)) (s0 : Int32) (s1 : Int32) (l0 : Option Nat) (l3 : Int32) (h : Hp) : Option (Int32 × Hp) :=
k52 (l0, (s0 + s1), (l3 + 1), h)
set_option maxHeartbeats 4000000 in
set_option maxRecDepth 100000 in
theorem t_X8_count_75 (Z : ZZ p s m args c cX8_count RX8 4 G) (hr : meth.sig.returnType = (some .int)) (hlk : meth.locks = false) (hin : meth.name = "count") {v : Int32} {h1 : Hp} {k52 : Option Nat × Int32 × Int32 × Hp → Option (Int32 × Hp)} (hk52 : ∀ u : Option Nat × Int32 × Int32 × Hp, k52 u = some (v, h1) → ∀ (H : Heap) (locs : List Loc) (ls : Array Slot), Rep G u.2.2.2 H → va_S (AA G) s.heap H locs → LV ls 4 [(0, va_rf u.1), (2, .int u.2.1), (3, .int u.2.2.1)] → W p l e rm_X8_count s m args below meth c H locs 0 0 (MQ below (Qx G (some (.int v)) h1) args s 0 0 (AA G)) (F0 m 52 ls [])) : ∀ (s0 : Int32) (s1 : Int32) (l0 : Option Nat) (l3 : Int32) (h : Hp) (H : Heap) (locs : List Loc) (ls : Array Slot), f_X8_count_75 k52 s0 s1 l0 l3 h = some (v, h1) → Rep G h H → va_S (AA G) s.heap H locs → LV ls 4 [(0, va_rf l0), (3, .int l3)] → W p l e rm_X8_count s m args below meth c H locs 0 0 (MQ below (Qx G (some (.int v)) h1) args s 0 0 (AA G)) (F0 m 75 ls [.int s1, .int s0]) := by
  intro s0 s1 l0 l3 h H locs ls hq hR hS hl
  have hx := Z.1
  have hb := Z.2.1
  unfold f_X8_count_75 at hq
  refine lv_iadd hx hb dX8_count_75 ?_
  refine xisn hx hb hl (x := (s0 + s1)) (lv' := [(2, .int (s0 + s1)), (0, va_rf l0), (3, .int l3)]) (by decide) dX8_count_76 rfl (fun ls hl => ?_)
  refine xinc hx hb hl (x := l3) (v := (l3 + 1)) (lv' := [(3, .int (l3 + 1)), (2, .int (s0 + s1)), (0, va_rf l0)]) 2 rfl (by rw [show Int32.ofInt (1) = (1 : Int32) from by decide]) (by decide) dX8_count_77 rfl (fun ls hl => ?_)
  refine lv_goto (tgt := 52) hx hb dX8_count_80 (by decide) ?_
  exact hk52 (l0, (s0 + s1), (l3 + 1), h) hq H locs ls hR hS (hl.sub [2, 1, 0] rfl)
def fb_X8_count_52  (k52 : Option Nat × Int32 × Int32 × Hp → Option (Int32 × Hp)) (l0 : Option Nat) (l2 : Int32) (l3 : Int32) (h : Hp) : Option (Int32 × Hp) :=
gI h l0 9 9 (fun x54 =>
(if x54 ≤ l3 then
rtI l2 h
else
gR h l0 9 19 (fun x62 =>
ldZ h x62 l3 (fun x66 =>
(if x66 = 0 then
f_X8_count_75 k52 l2 0 l0 l3 h
else
f_X8_count_75 k52 l2 1 l0 l3 h)))))
set_option maxHeartbeats 4000000 in
set_option maxRecDepth 100000 in
theorem tb_X8_count_52 (Z : ZZ p s m args c cX8_count RX8 4 G) (hr : meth.sig.returnType = (some .int)) (hlk : meth.locks = false) (hin : meth.name = "count") {v : Int32} {h1 : Hp} {k52 : Option Nat × Int32 × Int32 × Hp → Option (Int32 × Hp)} (hk52 : ∀ u : Option Nat × Int32 × Int32 × Hp, k52 u = some (v, h1) → ∀ (H : Heap) (locs : List Loc) (ls : Array Slot), Rep G u.2.2.2 H → va_S (AA G) s.heap H locs → LV ls 4 [(0, va_rf u.1), (2, .int u.2.1), (3, .int u.2.2.1)] → W p l e rm_X8_count s m args below meth c H locs 0 0 (MQ below (Qx G (some (.int v)) h1) args s 0 0 (AA G)) (F0 m 52 ls [])) : ∀ (l0 : Option Nat) (l2 : Int32) (l3 : Int32) (h : Hp) (H : Heap) (locs : List Loc) (ls : Array Slot), fb_X8_count_52 k52 l0 l2 l3 h = some (v, h1) → Rep G h H → va_S (AA G) s.heap H locs → LV ls 4 [(0, va_rf l0), (2, .int l2), (3, .int l3)] → W p l e rm_X8_count s m args below meth c H locs 0 0 (MQ below (Qx G (some (.int v)) h1) args s 0 0 (AA G)) (F0 m 52 ls []) := by
  intro l0 l2 l3 h H locs ls hq hR hS hl
  have hx := Z.1
  have hb := Z.2.1
  unfold fb_X8_count_52 at hq
  refine xiln hx hb hl (x := l3) 2 rfl dX8_count_52 ?_
  refine xaln hx hb hl (x := l0) 0 rfl dX8_count_53 ?_
  refine xgI Z hR hq fl_X8_108 rfl dX8_count_54 (fun x54 hq => ?_)
  refine xcGe hx hb hq (tgt := 83) dX8_count_57 (by decide) (fun hq => ?_) (fun hq => ?_)
  · refine xiln hx hb hl (x := l2) 1 rfl dX8_count_83 ?_
    exact xrI hx hb hr hlk hR hS hq (by decide) (by decide) dX8_count_84
  refine xiln hx hb hl (x := l2) 1 rfl dX8_count_60 ?_
  refine xaln hx hb hl (x := l0) 0 rfl dX8_count_61 ?_
  refine xgR Z hR hq fl_X8_60 rfl dX8_count_62 (fun x62 hq => ?_)
  refine xiln hx hb hl (x := l3) 2 rfl dX8_count_65 ?_
  refine xaZ Z hR hq dX8_count_66 (fun x66 hq => ?_)
  refine xzEq hx hb hq (tgt := 74) dX8_count_67 (by decide) (fun hq => ?_) (fun hq => ?_)
  · refine lv_iconst (v := 0) hx hb dX8_count_74 (by decide) ?_
    exact t_X8_count_75 Z hr hlk hin hk52 l2 0 l0 l3 h H locs ls hq hR hS (hl.sub [0, 2] rfl)
  refine lv_iconst (v := 1) hx hb dX8_count_70 (by decide) ?_
  refine lv_goto (tgt := 75) hx hb dX8_count_71 (by decide) ?_
  exact t_X8_count_75 Z hr hlk hin hk52 l2 1 l0 l3 h H locs ls hq hR hS (hl.sub [0, 2] rfl)
def f_X8_count_52  (l0 : Option Nat) (l2 : Int32) (l3 : Int32) (h : Hp) : Option (Int32 × Hp) :=
  lp (fun (k52 : Option Nat × Int32 × Int32 × Hp → Option (Int32 × Hp)) (u : Option Nat × Int32 × Int32 × Hp) => fb_X8_count_52 k52 u.1 u.2.1 u.2.2.1 u.2.2.2) FU (l0, l2, l3, h)
theorem t_X8_count_52 (Z : ZZ p s m args c cX8_count RX8 4 G) (hr : meth.sig.returnType = (some .int)) (hlk : meth.locks = false) (hin : meth.name = "count") {v : Int32} {h1 : Hp} : ∀ (l0 : Option Nat) (l2 : Int32) (l3 : Int32) (h : Hp) (H : Heap) (locs : List Loc) (ls : Array Slot), f_X8_count_52 l0 l2 l3 h = some (v, h1) → Rep G h H → va_S (AA G) s.heap H locs → LV ls 4 [(0, va_rf l0), (2, .int l2), (3, .int l3)] → W p l e rm_X8_count s m args below meth c H locs 0 0 (MQ below (Qx G (some (.int v)) h1) args s 0 0 (AA G)) (F0 m 52 ls []) := by
  intro l0 l2 l3 h H locs ls hq hR hS hl
  exact lp_ind (P := fun u : Option Nat × Int32 × Int32 × Hp => ∀ (H : Heap) (locs : List Loc) (ls : Array Slot), Rep G u.2.2.2 H → va_S (AA G) s.heap H locs → LV ls 4 [(0, va_rf u.1), (2, .int u.2.1), (3, .int u.2.2.1)] → W p l e rm_X8_count s m args below meth c H locs 0 0 (MQ below (Qx G (some (.int v)) h1) args s 0 0 (AA G)) (F0 m 52 ls [])) (fun k hk u hq H locs ls hR hS hl => tb_X8_count_52 Z hr hlk hin hk u.1 u.2.1 u.2.2.1 u.2.2.2 H locs ls hq hR hS hl) FU (l0, l2, l3, h) hq H locs ls hR hS hl
def f_X8_count_115  (k87 : Option Nat × Int32 × Int32 × Hp → Option (Int32 × Hp)) (s0 : Int32) (s1 : Int32) (l0 : Option Nat) (l3 : Int32) (h : Hp) : Option (Int32 × Hp) :=
k87 (l0, (s0 + s1), (l3 + 1), h)
set_option maxHeartbeats 4000000 in
set_option maxRecDepth 100000 in
theorem t_X8_count_115 (Z : ZZ p s m args c cX8_count RX8 4 G) (hr : meth.sig.returnType = (some .int)) (hlk : meth.locks = false) (hin : meth.name = "count") {v : Int32} {h1 : Hp} {k87 : Option Nat × Int32 × Int32 × Hp → Option (Int32 × Hp)} (hk87 : ∀ u : Option Nat × Int32 × Int32 × Hp, k87 u = some (v, h1) → ∀ (H : Heap) (locs : List Loc) (ls : Array Slot), Rep G u.2.2.2 H → va_S (AA G) s.heap H locs → LV ls 4 [(0, va_rf u.1), (2, .int u.2.1), (3, .int u.2.2.1)] → W p l e rm_X8_count s m args below meth c H locs 0 0 (MQ below (Qx G (some (.int v)) h1) args s 0 0 (AA G)) (F0 m 87 ls [])) : ∀ (s0 : Int32) (s1 : Int32) (l0 : Option Nat) (l3 : Int32) (h : Hp) (H : Heap) (locs : List Loc) (ls : Array Slot), f_X8_count_115 k87 s0 s1 l0 l3 h = some (v, h1) → Rep G h H → va_S (AA G) s.heap H locs → LV ls 4 [(0, va_rf l0), (3, .int l3)] → W p l e rm_X8_count s m args below meth c H locs 0 0 (MQ below (Qx G (some (.int v)) h1) args s 0 0 (AA G)) (F0 m 115 ls [.int s1, .int s0]) := by
  intro s0 s1 l0 l3 h H locs ls hq hR hS hl
  have hx := Z.1
  have hb := Z.2.1
  unfold f_X8_count_115 at hq
  refine lv_iadd hx hb dX8_count_115 ?_
  refine xisn hx hb hl (x := (s0 + s1)) (lv' := [(2, .int (s0 + s1)), (0, va_rf l0), (3, .int l3)]) (by decide) dX8_count_116 rfl (fun ls hl => ?_)
  refine xinc hx hb hl (x := l3) (v := (l3 + 1)) (lv' := [(3, .int (l3 + 1)), (2, .int (s0 + s1)), (0, va_rf l0)]) 2 rfl (by rw [show Int32.ofInt (1) = (1 : Int32) from by decide]) (by decide) dX8_count_117 rfl (fun ls hl => ?_)
  refine lv_goto (tgt := 87) hx hb dX8_count_120 (by decide) ?_
  exact hk87 (l0, (s0 + s1), (l3 + 1), h) hq H locs ls hR hS (hl.sub [2, 1, 0] rfl)
def fb_X8_count_87  (k87 : Option Nat × Int32 × Int32 × Hp → Option (Int32 × Hp)) (l0 : Option Nat) (l2 : Int32) (l3 : Int32) (h : Hp) : Option (Int32 × Hp) :=
gI h l0 9 9 (fun x89 =>
(if x89 ≤ l3 then
rtI l2 h
else
gR h l0 9 19 (fun x97 =>
ldZ h x97 l3 (fun x101 =>
(if x101 = 0 then
f_X8_count_115 k87 l2 0 l0 l3 h
else
gR h l0 9 16 (fun x106 =>
ldI h x106 l3 (fun x110 =>
f_X8_count_115 k87 l2 x110 l0 l3 h)))))))
set_option maxHeartbeats 4000000 in
set_option maxRecDepth 100000 in
theorem tb_X8_count_87 (Z : ZZ p s m args c cX8_count RX8 4 G) (hr : meth.sig.returnType = (some .int)) (hlk : meth.locks = false) (hin : meth.name = "count") {v : Int32} {h1 : Hp} {k87 : Option Nat × Int32 × Int32 × Hp → Option (Int32 × Hp)} (hk87 : ∀ u : Option Nat × Int32 × Int32 × Hp, k87 u = some (v, h1) → ∀ (H : Heap) (locs : List Loc) (ls : Array Slot), Rep G u.2.2.2 H → va_S (AA G) s.heap H locs → LV ls 4 [(0, va_rf u.1), (2, .int u.2.1), (3, .int u.2.2.1)] → W p l e rm_X8_count s m args below meth c H locs 0 0 (MQ below (Qx G (some (.int v)) h1) args s 0 0 (AA G)) (F0 m 87 ls [])) : ∀ (l0 : Option Nat) (l2 : Int32) (l3 : Int32) (h : Hp) (H : Heap) (locs : List Loc) (ls : Array Slot), fb_X8_count_87 k87 l0 l2 l3 h = some (v, h1) → Rep G h H → va_S (AA G) s.heap H locs → LV ls 4 [(0, va_rf l0), (2, .int l2), (3, .int l3)] → W p l e rm_X8_count s m args below meth c H locs 0 0 (MQ below (Qx G (some (.int v)) h1) args s 0 0 (AA G)) (F0 m 87 ls []) := by
  intro l0 l2 l3 h H locs ls hq hR hS hl
  have hx := Z.1
  have hb := Z.2.1
  unfold fb_X8_count_87 at hq
  refine xiln hx hb hl (x := l3) 2 rfl dX8_count_87 ?_
  refine xaln hx hb hl (x := l0) 0 rfl dX8_count_88 ?_
  refine xgI Z hR hq fl_X8_108 rfl dX8_count_89 (fun x89 hq => ?_)
  refine xcGe hx hb hq (tgt := 123) dX8_count_92 (by decide) (fun hq => ?_) (fun hq => ?_)
  · refine xiln hx hb hl (x := l2) 1 rfl dX8_count_123 ?_
    exact xrI hx hb hr hlk hR hS hq (by decide) (by decide) dX8_count_124
  refine xiln hx hb hl (x := l2) 1 rfl dX8_count_95 ?_
  refine xaln hx hb hl (x := l0) 0 rfl dX8_count_96 ?_
  refine xgR Z hR hq fl_X8_60 rfl dX8_count_97 (fun x97 hq => ?_)
  refine xiln hx hb hl (x := l3) 2 rfl dX8_count_100 ?_
  refine xaZ Z hR hq dX8_count_101 (fun x101 hq => ?_)
  refine xzEq hx hb hq (tgt := 114) dX8_count_102 (by decide) (fun hq => ?_) (fun hq => ?_)
  · refine lv_iconst (v := 0) hx hb dX8_count_114 (by decide) ?_
    exact t_X8_count_115 Z hr hlk hin hk87 l2 0 l0 l3 h H locs ls hq hR hS (hl.sub [0, 2] rfl)
  refine xaln hx hb hl (x := l0) 0 rfl dX8_count_105 ?_
  refine xgR Z hR hq fl_X8_51 rfl dX8_count_106 (fun x106 hq => ?_)
  refine xiln hx hb hl (x := l3) 2 rfl dX8_count_109 ?_
  refine xaI Z hR hq dX8_count_110 (fun x110 hq => ?_)
  refine lv_goto (tgt := 115) hx hb dX8_count_111 (by decide) ?_
  exact t_X8_count_115 Z hr hlk hin hk87 l2 x110 l0 l3 h H locs ls hq hR hS (hl.sub [0, 2] rfl)
def f_X8_count_87  (l0 : Option Nat) (l2 : Int32) (l3 : Int32) (h : Hp) : Option (Int32 × Hp) :=
  lp (fun (k87 : Option Nat × Int32 × Int32 × Hp → Option (Int32 × Hp)) (u : Option Nat × Int32 × Int32 × Hp) => fb_X8_count_87 k87 u.1 u.2.1 u.2.2.1 u.2.2.2) FU (l0, l2, l3, h)
theorem t_X8_count_87 (Z : ZZ p s m args c cX8_count RX8 4 G) (hr : meth.sig.returnType = (some .int)) (hlk : meth.locks = false) (hin : meth.name = "count") {v : Int32} {h1 : Hp} : ∀ (l0 : Option Nat) (l2 : Int32) (l3 : Int32) (h : Hp) (H : Heap) (locs : List Loc) (ls : Array Slot), f_X8_count_87 l0 l2 l3 h = some (v, h1) → Rep G h H → va_S (AA G) s.heap H locs → LV ls 4 [(0, va_rf l0), (2, .int l2), (3, .int l3)] → W p l e rm_X8_count s m args below meth c H locs 0 0 (MQ below (Qx G (some (.int v)) h1) args s 0 0 (AA G)) (F0 m 87 ls []) := by
  intro l0 l2 l3 h H locs ls hq hR hS hl
  exact lp_ind (P := fun u : Option Nat × Int32 × Int32 × Hp => ∀ (H : Heap) (locs : List Loc) (ls : Array Slot), Rep G u.2.2.2 H → va_S (AA G) s.heap H locs → LV ls 4 [(0, va_rf u.1), (2, .int u.2.1), (3, .int u.2.2.1)] → W p l e rm_X8_count s m args below meth c H locs 0 0 (MQ below (Qx G (some (.int v)) h1) args s 0 0 (AA G)) (F0 m 87 ls [])) (fun k hk u hq H locs ls hR hS hl => tb_X8_count_87 Z hr hlk hin hk u.1 u.2.1 u.2.2.1 u.2.2.2 H locs ls hq hR hS hl) FU (l0, l2, l3, h) hq H locs ls hR hS hl
def f_X8_count (this : Nat) (a0 : Int32) (h : Hp) : Option (Int32 × Hp) :=
(if a0 = 0 then
gI h (some this) 9 0 (fun x41 =>
rtI x41 h)
else
if a0 = 1 then
gI h (some this) 9 9 (fun x46 =>
rtI x46 h)
else
if a0 = 2 then
f_X8_count_52 (some this) 0 0 h
else
if a0 = 3 then
f_X8_count_87 (some this) 0 0 h
else
if a0 = 4 then
gI h (some this) 9 5 (fun x126 =>
rtI x126 h)
else
if a0 = 5 then
gI h (some this) 9 4 (fun x131 =>
rtI x131 h)
else
rtI (-1) h)
set_option maxHeartbeats 4000000 in
set_option maxRecDepth 100000 in
theorem c_X8_count (l : Launch) {G : GG} (this : Nat) (a0 : Int32) (h : Hp) (v : Int32) (h1 : Hp) (hq : f_X8_count this a0 h = some (v, h1)) : Met l yX8_count (Cond.code yX8_count cX8_count 4 (some .int) :: GT) rm_X8_count (va_Pc [.ref this, .int a0] (Cn G h)) (Qx G (some (.int v)) h1) 0 0 (AA G) := by
  refine xMet (cc := cX8_count) (by decide) (Nat.le_of_ble_eq_true rfl) (List.forall_mem_cons.mpr ⟨rfl, (List.forall_mem_cons.mpr ⟨rfl, (fun _ z => by cases z)⟩)⟩) ?_
  intro p e s m below meth c ls Z hr hlk hin hR hS hl
  have hx := Z.1
  have hb := Z.2.1
  have hl : LV ls 4 [(0, va_rf (some this)), (1, .int a0)] := hl
  unfold f_X8_count at hq
  refine lv_iconst (v := 0) hx hb dX8_count_0 (by decide) ?_
  refine xisn hx hb hl (x := 0) (lv' := [(2, .int 0), (0, va_rf (some this)), (1, .int a0)]) (by decide) dX8_count_1 rfl (fun ls hl => ?_)
  refine xiln hx hb hl (x := a0) 2 rfl dX8_count_2 ?_
  by_cases e3_0 : a0 = 0
  · have hq := ite_t hq e3_0
    refine lv_tableIn (x := a0) (off := 37) (tgt := 40) hx hb dX8_count_3 (by rw [e3_0]; decide) (by rw [e3_0]; decide) (by rw [e3_0]; rfl) (by decide) ?_
    refine xaln hx hb hl (x := (some this)) 1 rfl dX8_count_40 ?_
    refine xgI Z hR hq fl_X8_105 rfl dX8_count_41 (fun x41 hq => ?_)
    exact xrI hx hb hr hlk hR hS hq (by decide) (by decide) dX8_count_44
  replace hq := ite_f hq e3_0
  by_cases e3_1 : a0 = 1
  · have hq := ite_t hq e3_1
    refine lv_tableIn (x := a0) (off := 42) (tgt := 45) hx hb dX8_count_3 (by rw [e3_1]; decide) (by rw [e3_1]; decide) (by rw [e3_1]; rfl) (by decide) ?_
    refine xaln hx hb hl (x := (some this)) 1 rfl dX8_count_45 ?_
    refine xgI Z hR hq fl_X8_108 rfl dX8_count_46 (fun x46 hq => ?_)
    exact xrI hx hb hr hlk hR hS hq (by decide) (by decide) dX8_count_49
  replace hq := ite_f hq e3_1
  by_cases e3_2 : a0 = 2
  · have hq := ite_t hq e3_2
    refine lv_tableIn (x := a0) (off := 47) (tgt := 50) hx hb dX8_count_3 (by rw [e3_2]; decide) (by rw [e3_2]; decide) (by rw [e3_2]; rfl) (by decide) ?_
    refine lv_iconst (v := 0) hx hb dX8_count_50 (by decide) ?_
    refine xisn hx hb hl (x := 0) (lv' := [(3, .int 0), (2, .int 0), (0, va_rf (some this)), (1, .int a0)]) (by decide) dX8_count_51 rfl (fun ls hl => ?_)
    exact t_X8_count_52 Z hr hlk hin (some this) 0 0 h _ _ ls hq hR hS (hl.sub [2, 1, 0] rfl)
  replace hq := ite_f hq e3_2
  by_cases e3_3 : a0 = 3
  · have hq := ite_t hq e3_3
    refine lv_tableIn (x := a0) (off := 82) (tgt := 85) hx hb dX8_count_3 (by rw [e3_3]; decide) (by rw [e3_3]; decide) (by rw [e3_3]; rfl) (by decide) ?_
    refine lv_iconst (v := 0) hx hb dX8_count_85 (by decide) ?_
    refine xisn hx hb hl (x := 0) (lv' := [(3, .int 0), (2, .int 0), (0, va_rf (some this)), (1, .int a0)]) (by decide) dX8_count_86 rfl (fun ls hl => ?_)
    exact t_X8_count_87 Z hr hlk hin (some this) 0 0 h _ _ ls hq hR hS (hl.sub [2, 1, 0] rfl)
  replace hq := ite_f hq e3_3
  by_cases e3_4 : a0 = 4
  · have hq := ite_t hq e3_4
    refine lv_tableIn (x := a0) (off := 122) (tgt := 125) hx hb dX8_count_3 (by rw [e3_4]; decide) (by rw [e3_4]; decide) (by rw [e3_4]; rfl) (by decide) ?_
    refine xaln hx hb hl (x := (some this)) 1 rfl dX8_count_125 ?_
    refine xgI Z hR hq fl_X8_115 rfl dX8_count_126 (fun x126 hq => ?_)
    exact xrI hx hb hr hlk hR hS hq (by decide) (by decide) dX8_count_129
  replace hq := ite_f hq e3_4
  by_cases e3_5 : a0 = 5
  · have hq := ite_t hq e3_5
    refine lv_tableIn (x := a0) (off := 127) (tgt := 130) hx hb dX8_count_3 (by rw [e3_5]; decide) (by rw [e3_5]; decide) (by rw [e3_5]; rfl) (by decide) ?_
    refine xaln hx hb hl (x := (some this)) 1 rfl dX8_count_130 ?_
    refine xgI Z hR hq fl_X8_20 rfl dX8_count_131 (fun x131 hq => ?_)
    exact xrI hx hb hr hlk hR hS hq (by decide) (by decide) dX8_count_134
  replace hq := ite_f hq e3_5
  refine lv_tableOut (x := a0) (tgt := 135) hx hb dX8_count_3 (sw_out 6 (by decide) (by intro j hj; match j, hj with | 0, _ => exact e3_0 | 1, _ => exact e3_1 | 2, _ => exact e3_2 | 3, _ => exact e3_3 | 4, _ => exact e3_4 | 5, _ => exact e3_5 | j + 6, hj => exact absurd hj (by omega))) (by decide) ?_
  refine lv_iconst (v := (-1)) hx hb dX8_count_135 (by decide) ?_
  exact xrI hx hb hr hlk hR hS hq (by decide) (by decide) dX8_count_136
abbrev rm_X8_round : Room := { frames := 8, cells := 0, slots := 0, locals := 187 }
def f_X8_round (this : Nat) (h : Hp) : Option (Int32 × Hp) :=
rcv h (some this) 9 (fun b1 => bd (f_X8_ranks b1 h) (fun u1 h =>
rcv h (some this) 9 (fun b5 => bd (f_X8_goes b5 h) (fun x5 h =>
rcv h (some this) 9 (fun b11 => bd (f_X8_count b11 2 h) (fun x11 h =>
rtI x11 h))))))
set_option maxHeartbeats 4000000 in
set_option maxRecDepth 100000 in
theorem c_X8_round (l : Launch) {G : GG} (this : Nat) (h : Hp) (v : Int32) (h1 : Hp) (hq : f_X8_round this h = some (v, h1)) : Met l yX8_round (Cond.code yX8_round cX8_round 1 (some .int) :: GT) rm_X8_round (va_Pc [.ref this] (Cn G h)) (Qx G (some (.int v)) h1) 0 0 (AA G) := by
  refine xMet (cc := cX8_round) (by decide) (Nat.le_of_ble_eq_true rfl) (List.forall_mem_cons.mpr ⟨rfl, (fun _ z => by cases z)⟩) ?_
  intro p e s m below meth c ls Z hr hlk hin hR hS hl
  have hx := Z.1
  have hb := Z.2.1
  have hl : LV ls 1 [(0, va_rf (some this))] := hl
  unfold f_X8_round at hq
  refine xaln hx hb hl (x := (some this)) 0 rfl dX8_round_0 ?_
  refine xcV Z hR hS hl (rest := []) (As := []) hq cl_X8_175 (fun b x h1 hc => c_X8_ranks l b h x h1 hc) ⟨⟨rfl, rfl⟩, (by decide), (by decide)⟩ rfl rfl (by first | decide | (simp only [List.map_cons, List.map_nil, rf_cat, ct_int, ct_ref, List.sum_cons, List.sum_nil] <;> decide)) dX8_round_1 (by decide) (fun u1 h H locs hq hR hS => ?_)
  refine xaln hx hb hl (x := (some this)) 0 rfl dX8_round_4 ?_
  refine xcV Z hR hS hl (rest := []) (As := []) hq cl_X8_178 (fun b x h1 hc => c_X8_goes l b h x h1 hc) ⟨⟨rfl, rfl⟩, (by decide), (by decide)⟩ rfl rfl (by first | decide | (simp only [List.map_cons, List.map_nil, rf_cat, ct_int, ct_ref, List.sum_cons, List.sum_nil] <;> decide)) dX8_round_5 (by decide) (fun x5 h H locs hq hR hS => ?_)
  refine lv_pop hx hb dX8_round_8 rfl ?_
  refine xaln hx hb hl (x := (some this)) 0 rfl dX8_round_9 ?_
  refine lv_iconst (v := 2) hx hb dX8_round_10 (by decide) ?_
  refine xcV Z hR hS hl (rest := []) (As := [.int 2]) hq cl_X8_181 (fun b x h1 hc => c_X8_count l b 2 h x h1 hc) ⟨⟨rfl, rfl⟩, (by decide), (by decide)⟩ rfl rfl (by first | decide | (simp only [List.map_cons, List.map_nil, rf_cat, ct_int, ct_ref, List.sum_cons, List.sum_nil] <;> decide)) dX8_round_11 (by decide) (fun x11 h H locs hq hR hS => ?_)
  exact xrI hx hb hr hlk hR hS hq (by decide) (by decide) dX8_round_14
abbrev rm_X8_orders : Room := { frames := 0, cells := 0, slots := 0, locals := 0 }
def fb_X8_orders_85  (k7 : Option Nat × Int32 × Int32 × Int32 × Hp → Option (Unit × Hp)) (k77 : Option Nat × Int32 × Int32 × Int32 × Int32 × Int32 × Hp → Option (Unit × Hp)) (k85 : Option Nat × Int32 × Int32 × Int32 × Int32 × Int32 × Hp → Option (Unit × Hp)) (l0 : Option Nat) (l2 : Int32) (l3 : Int32) (l4 : Int32) (l6 : Int32) (l7 : Int32) (h : Hp) : Option (Unit × Hp) :=
(if ((l3 >>> (l7 &&& 31)) &&& 1) = 1 then
k85 (l0, l2, l3, l4, l6, (l7 + 1), h)
else
k77 (l0, l2, l3, l4, (l6 + (-1)), l7, h))
set_option maxHeartbeats 4000000 in
set_option maxRecDepth 100000 in
theorem tb_X8_orders_85 (Z : ZZ p s m args c cX8_orders RX8 8 G) (hr : meth.sig.returnType = none) (hlk : meth.locks = false) (hin : meth.name = "orders") {v : Unit} {h1 : Hp} {k7 : Option Nat × Int32 × Int32 × Int32 × Hp → Option (Unit × Hp)} (hk7 : ∀ u : Option Nat × Int32 × Int32 × Int32 × Hp, k7 u = some (v, h1) → ∀ (H : Heap) (locs : List Loc) (ls : Array Slot), Rep G u.2.2.2.2 H → va_S (AA G) s.heap H locs → LV ls 8 [(0, va_rf u.1), (2, .int u.2.1), (3, .int u.2.2.1), (4, .int u.2.2.2.1)] → W p l e rm_X8_orders s m args below meth c H locs 0 0 (MQ below (Qx G none h1) args s 0 0 (AA G)) (F0 m 7 ls [])) {k77 : Option Nat × Int32 × Int32 × Int32 × Int32 × Int32 × Hp → Option (Unit × Hp)} (hk77 : ∀ u : Option Nat × Int32 × Int32 × Int32 × Int32 × Int32 × Hp, k77 u = some (v, h1) → ∀ (H : Heap) (locs : List Loc) (ls : Array Slot), Rep G u.2.2.2.2.2.2 H → va_S (AA G) s.heap H locs → LV ls 8 [(0, va_rf u.1), (2, .int u.2.1), (3, .int u.2.2.1), (4, .int u.2.2.2.1), (6, .int u.2.2.2.2.1), (7, .int u.2.2.2.2.2.1)] → W p l e rm_X8_orders s m args below meth c H locs 0 0 (MQ below (Qx G none h1) args s 0 0 (AA G)) (F0 m 77 ls [])) {k85 : Option Nat × Int32 × Int32 × Int32 × Int32 × Int32 × Hp → Option (Unit × Hp)} (hk85 : ∀ u : Option Nat × Int32 × Int32 × Int32 × Int32 × Int32 × Hp, k85 u = some (v, h1) → ∀ (H : Heap) (locs : List Loc) (ls : Array Slot), Rep G u.2.2.2.2.2.2 H → va_S (AA G) s.heap H locs → LV ls 8 [(0, va_rf u.1), (2, .int u.2.1), (3, .int u.2.2.1), (4, .int u.2.2.2.1), (6, .int u.2.2.2.2.1), (7, .int u.2.2.2.2.2.1)] → W p l e rm_X8_orders s m args below meth c H locs 0 0 (MQ below (Qx G none h1) args s 0 0 (AA G)) (F0 m 85 ls [])) : ∀ (l0 : Option Nat) (l2 : Int32) (l3 : Int32) (l4 : Int32) (l6 : Int32) (l7 : Int32) (h : Hp) (H : Heap) (locs : List Loc) (ls : Array Slot), fb_X8_orders_85 k7 k77 k85 l0 l2 l3 l4 l6 l7 h = some (v, h1) → Rep G h H → va_S (AA G) s.heap H locs → LV ls 8 [(0, va_rf l0), (2, .int l2), (3, .int l3), (4, .int l4), (6, .int l6), (7, .int l7)] → W p l e rm_X8_orders s m args below meth c H locs 0 0 (MQ below (Qx G none h1) args s 0 0 (AA G)) (F0 m 85 ls []) := by
  intro l0 l2 l3 l4 l6 l7 h H locs ls hq hR hS hl
  have hx := Z.1
  have hb := Z.2.1
  unfold fb_X8_orders_85 at hq
  refine xiln hx hb hl (x := l3) 2 rfl dX8_orders_85 ?_
  refine xil hx hb hl (x := l7) 5 rfl dX8_orders_86 ?_
  refine lv_ishr hx hb dX8_orders_88 ?_
  refine lv_iconst (v := 1) hx hb dX8_orders_89 (by decide) ?_
  refine lv_iand hx hb dX8_orders_90 ?_
  refine lv_iconst (v := 1) hx hb dX8_orders_91 (by decide) ?_
  refine xcNe hx hb hq (tgt := 101) dX8_orders_92 (by decide) (fun hq => ?_) (fun hq => ?_)
  · refine xinc hx hb hl (x := l6) (v := (l6 + (-1))) (lv' := [(6, .int (l6 + (-1))), (0, va_rf l0), (2, .int l2), (3, .int l3), (4, .int l4), (7, .int l7)]) 4 rfl (by rw [show Int32.ofInt (-1) = (-1 : Int32) from by decide]) (by decide) dX8_orders_101 rfl (fun ls hl => ?_)
    refine lv_goto (tgt := 77) hx hb dX8_orders_104 (by decide) ?_
    exact hk77 (l0, l2, l3, l4, (l6 + (-1)), l7, h) hq H locs ls hR hS (hl.sub [1, 2, 3, 4, 0, 5] rfl)
  refine xinc hx hb hl (x := l7) (v := (l7 + 1)) (lv' := [(7, .int (l7 + 1)), (0, va_rf l0), (2, .int l2), (3, .int l3), (4, .int l4), (6, .int l6)]) 5 rfl (by rw [show Int32.ofInt (1) = (1 : Int32) from by decide]) (by decide) dX8_orders_95 rfl (fun ls hl => ?_)
  refine lv_goto (tgt := 85) hx hb dX8_orders_98 (by decide) ?_
  exact hk85 (l0, l2, l3, l4, l6, (l7 + 1), h) hq H locs ls hR hS (hl.sub [1, 2, 3, 4, 5, 0] rfl)
def f_X8_orders_85  (k7 : Option Nat × Int32 × Int32 × Int32 × Hp → Option (Unit × Hp)) (k77 : Option Nat × Int32 × Int32 × Int32 × Int32 × Int32 × Hp → Option (Unit × Hp)) (l0 : Option Nat) (l2 : Int32) (l3 : Int32) (l4 : Int32) (l6 : Int32) (l7 : Int32) (h : Hp) : Option (Unit × Hp) :=
  lp (fun (k85 : Option Nat × Int32 × Int32 × Int32 × Int32 × Int32 × Hp → Option (Unit × Hp)) (u : Option Nat × Int32 × Int32 × Int32 × Int32 × Int32 × Hp) => fb_X8_orders_85 k7 k77 k85 u.1 u.2.1 u.2.2.1 u.2.2.2.1 u.2.2.2.2.1 u.2.2.2.2.2.1 u.2.2.2.2.2.2) FU (l0, l2, l3, l4, l6, l7, h)
theorem t_X8_orders_85 (Z : ZZ p s m args c cX8_orders RX8 8 G) (hr : meth.sig.returnType = none) (hlk : meth.locks = false) (hin : meth.name = "orders") {v : Unit} {h1 : Hp} {k7 : Option Nat × Int32 × Int32 × Int32 × Hp → Option (Unit × Hp)} (hk7 : ∀ u : Option Nat × Int32 × Int32 × Int32 × Hp, k7 u = some (v, h1) → ∀ (H : Heap) (locs : List Loc) (ls : Array Slot), Rep G u.2.2.2.2 H → va_S (AA G) s.heap H locs → LV ls 8 [(0, va_rf u.1), (2, .int u.2.1), (3, .int u.2.2.1), (4, .int u.2.2.2.1)] → W p l e rm_X8_orders s m args below meth c H locs 0 0 (MQ below (Qx G none h1) args s 0 0 (AA G)) (F0 m 7 ls [])) {k77 : Option Nat × Int32 × Int32 × Int32 × Int32 × Int32 × Hp → Option (Unit × Hp)} (hk77 : ∀ u : Option Nat × Int32 × Int32 × Int32 × Int32 × Int32 × Hp, k77 u = some (v, h1) → ∀ (H : Heap) (locs : List Loc) (ls : Array Slot), Rep G u.2.2.2.2.2.2 H → va_S (AA G) s.heap H locs → LV ls 8 [(0, va_rf u.1), (2, .int u.2.1), (3, .int u.2.2.1), (4, .int u.2.2.2.1), (6, .int u.2.2.2.2.1), (7, .int u.2.2.2.2.2.1)] → W p l e rm_X8_orders s m args below meth c H locs 0 0 (MQ below (Qx G none h1) args s 0 0 (AA G)) (F0 m 77 ls [])) : ∀ (l0 : Option Nat) (l2 : Int32) (l3 : Int32) (l4 : Int32) (l6 : Int32) (l7 : Int32) (h : Hp) (H : Heap) (locs : List Loc) (ls : Array Slot), f_X8_orders_85 k7 k77 l0 l2 l3 l4 l6 l7 h = some (v, h1) → Rep G h H → va_S (AA G) s.heap H locs → LV ls 8 [(0, va_rf l0), (2, .int l2), (3, .int l3), (4, .int l4), (6, .int l6), (7, .int l7)] → W p l e rm_X8_orders s m args below meth c H locs 0 0 (MQ below (Qx G none h1) args s 0 0 (AA G)) (F0 m 85 ls []) := by
  intro l0 l2 l3 l4 l6 l7 h H locs ls hq hR hS hl
  exact lp_ind (P := fun u : Option Nat × Int32 × Int32 × Int32 × Int32 × Int32 × Hp => ∀ (H : Heap) (locs : List Loc) (ls : Array Slot), Rep G u.2.2.2.2.2.2 H → va_S (AA G) s.heap H locs → LV ls 8 [(0, va_rf u.1), (2, .int u.2.1), (3, .int u.2.2.1), (4, .int u.2.2.2.1), (6, .int u.2.2.2.2.1), (7, .int u.2.2.2.2.2.1)] → W p l e rm_X8_orders s m args below meth c H locs 0 0 (MQ below (Qx G none h1) args s 0 0 (AA G)) (F0 m 85 ls [])) (fun k hk u hq H locs ls hR hS hl => tb_X8_orders_85 Z hr hlk hin hk7 hk77 hk u.1 u.2.1 u.2.2.1 u.2.2.2.1 u.2.2.2.2.1 u.2.2.2.2.2.1 u.2.2.2.2.2.2 H locs ls hq hR hS hl) FU (l0, l2, l3, l4, l6, l7, h) hq H locs ls hR hS hl
def fb_X8_orders_77  (k7 : Option Nat × Int32 × Int32 × Int32 × Hp → Option (Unit × Hp)) (k77 : Option Nat × Int32 × Int32 × Int32 × Int32 × Int32 × Hp → Option (Unit × Hp)) (l0 : Option Nat) (l2 : Int32) (l3 : Int32) (l4 : Int32) (l6 : Int32) (l7 : Int32) (h : Hp) : Option (Unit × Hp) :=
(if l6 ≤ 0 then
gR h l0 9 24 (fun x108 =>
stI h x108 l4 l7 (fun h =>
k7 (l0, l2, (l3 ||| (1 <<< (l7 &&& 31))), (l4 + 1), h)))
else
f_X8_orders_85 k7 k77 l0 l2 l3 l4 l6 (l7 + 1) h)
set_option maxHeartbeats 4000000 in
set_option maxRecDepth 100000 in
theorem tb_X8_orders_77 (Z : ZZ p s m args c cX8_orders RX8 8 G) (hr : meth.sig.returnType = none) (hlk : meth.locks = false) (hin : meth.name = "orders") {v : Unit} {h1 : Hp} {k7 : Option Nat × Int32 × Int32 × Int32 × Hp → Option (Unit × Hp)} (hk7 : ∀ u : Option Nat × Int32 × Int32 × Int32 × Hp, k7 u = some (v, h1) → ∀ (H : Heap) (locs : List Loc) (ls : Array Slot), Rep G u.2.2.2.2 H → va_S (AA G) s.heap H locs → LV ls 8 [(0, va_rf u.1), (2, .int u.2.1), (3, .int u.2.2.1), (4, .int u.2.2.2.1)] → W p l e rm_X8_orders s m args below meth c H locs 0 0 (MQ below (Qx G none h1) args s 0 0 (AA G)) (F0 m 7 ls [])) {k77 : Option Nat × Int32 × Int32 × Int32 × Int32 × Int32 × Hp → Option (Unit × Hp)} (hk77 : ∀ u : Option Nat × Int32 × Int32 × Int32 × Int32 × Int32 × Hp, k77 u = some (v, h1) → ∀ (H : Heap) (locs : List Loc) (ls : Array Slot), Rep G u.2.2.2.2.2.2 H → va_S (AA G) s.heap H locs → LV ls 8 [(0, va_rf u.1), (2, .int u.2.1), (3, .int u.2.2.1), (4, .int u.2.2.2.1), (6, .int u.2.2.2.2.1), (7, .int u.2.2.2.2.2.1)] → W p l e rm_X8_orders s m args below meth c H locs 0 0 (MQ below (Qx G none h1) args s 0 0 (AA G)) (F0 m 77 ls [])) : ∀ (l0 : Option Nat) (l2 : Int32) (l3 : Int32) (l4 : Int32) (l6 : Int32) (l7 : Int32) (h : Hp) (H : Heap) (locs : List Loc) (ls : Array Slot), fb_X8_orders_77 k7 k77 l0 l2 l3 l4 l6 l7 h = some (v, h1) → Rep G h H → va_S (AA G) s.heap H locs → LV ls 8 [(0, va_rf l0), (2, .int l2), (3, .int l3), (4, .int l4), (6, .int l6), (7, .int l7)] → W p l e rm_X8_orders s m args below meth c H locs 0 0 (MQ below (Qx G none h1) args s 0 0 (AA G)) (F0 m 77 ls []) := by
  intro l0 l2 l3 l4 l6 l7 h H locs ls hq hR hS hl
  have hx := Z.1
  have hb := Z.2.1
  unfold fb_X8_orders_77 at hq
  refine xil hx hb hl (x := l6) 4 rfl dX8_orders_77 ?_
  refine xzLe hx hb hq (tgt := 107) dX8_orders_79 (by decide) (fun hq => ?_) (fun hq => ?_)
  · refine xaln hx hb hl (x := l0) 0 rfl dX8_orders_107 ?_
    refine xgR Z hR hq fl_X8_75 rfl dX8_orders_108 (fun x108 hq => ?_)
    refine xil hx hb hl (x := l4) 3 rfl dX8_orders_111 ?_
    refine xil hx hb hl (x := l7) 5 rfl dX8_orders_113 ?_
    refine xsI Z hR hS hq dX8_orders_115 (fun h H locs hq hR hS => ?_)
    refine xiln hx hb hl (x := l3) 2 rfl dX8_orders_116 ?_
    refine lv_iconst (v := 1) hx hb dX8_orders_117 (by decide) ?_
    refine xil hx hb hl (x := l7) 5 rfl dX8_orders_118 ?_
    refine lv_ishl hx hb dX8_orders_120 ?_
    refine lv_ior hx hb dX8_orders_121 ?_
    refine xisn hx hb hl (x := (l3 ||| (1 <<< (l7 &&& 31)))) (lv' := [(3, .int (l3 ||| (1 <<< (l7 &&& 31)))), (0, va_rf l0), (2, .int l2), (4, .int l4), (6, .int l6), (7, .int l7)]) (by decide) dX8_orders_122 rfl (fun ls hl => ?_)
    refine xinc hx hb hl (x := l4) (v := (l4 + 1)) (lv' := [(4, .int (l4 + 1)), (3, .int (l3 ||| (1 <<< (l7 &&& 31)))), (0, va_rf l0), (2, .int l2), (6, .int l6), (7, .int l7)]) 3 rfl (by rw [show Int32.ofInt (1) = (1 : Int32) from by decide]) (by decide) dX8_orders_123 rfl (fun ls hl => ?_)
    refine lv_goto (tgt := 7) hx hb dX8_orders_126 (by decide) ?_
    exact hk7 (l0, l2, (l3 ||| (1 <<< (l7 &&& 31))), (l4 + 1), h) hq H locs ls hR hS (hl.sub [2, 3, 1, 0] rfl)
  refine xinc hx hb hl (x := l7) (v := (l7 + 1)) (lv' := [(7, .int (l7 + 1)), (0, va_rf l0), (2, .int l2), (3, .int l3), (4, .int l4), (6, .int l6)]) 5 rfl (by rw [show Int32.ofInt (1) = (1 : Int32) from by decide]) (by decide) dX8_orders_82 rfl (fun ls hl => ?_)
  exact t_X8_orders_85 Z hr hlk hin hk7 hk77 l0 l2 l3 l4 l6 (l7 + 1) h H locs ls hq hR hS (hl.sub [1, 2, 3, 4, 5, 0] rfl)
def f_X8_orders_77  (k7 : Option Nat × Int32 × Int32 × Int32 × Hp → Option (Unit × Hp)) (l0 : Option Nat) (l2 : Int32) (l3 : Int32) (l4 : Int32) (l6 : Int32) (l7 : Int32) (h : Hp) : Option (Unit × Hp) :=
  lp (fun (k77 : Option Nat × Int32 × Int32 × Int32 × Int32 × Int32 × Hp → Option (Unit × Hp)) (u : Option Nat × Int32 × Int32 × Int32 × Int32 × Int32 × Hp) => fb_X8_orders_77 k7 k77 u.1 u.2.1 u.2.2.1 u.2.2.2.1 u.2.2.2.2.1 u.2.2.2.2.2.1 u.2.2.2.2.2.2) FU (l0, l2, l3, l4, l6, l7, h)
theorem t_X8_orders_77 (Z : ZZ p s m args c cX8_orders RX8 8 G) (hr : meth.sig.returnType = none) (hlk : meth.locks = false) (hin : meth.name = "orders") {v : Unit} {h1 : Hp} {k7 : Option Nat × Int32 × Int32 × Int32 × Hp → Option (Unit × Hp)} (hk7 : ∀ u : Option Nat × Int32 × Int32 × Int32 × Hp, k7 u = some (v, h1) → ∀ (H : Heap) (locs : List Loc) (ls : Array Slot), Rep G u.2.2.2.2 H → va_S (AA G) s.heap H locs → LV ls 8 [(0, va_rf u.1), (2, .int u.2.1), (3, .int u.2.2.1), (4, .int u.2.2.2.1)] → W p l e rm_X8_orders s m args below meth c H locs 0 0 (MQ below (Qx G none h1) args s 0 0 (AA G)) (F0 m 7 ls [])) : ∀ (l0 : Option Nat) (l2 : Int32) (l3 : Int32) (l4 : Int32) (l6 : Int32) (l7 : Int32) (h : Hp) (H : Heap) (locs : List Loc) (ls : Array Slot), f_X8_orders_77 k7 l0 l2 l3 l4 l6 l7 h = some (v, h1) → Rep G h H → va_S (AA G) s.heap H locs → LV ls 8 [(0, va_rf l0), (2, .int l2), (3, .int l3), (4, .int l4), (6, .int l6), (7, .int l7)] → W p l e rm_X8_orders s m args below meth c H locs 0 0 (MQ below (Qx G none h1) args s 0 0 (AA G)) (F0 m 77 ls []) := by
  intro l0 l2 l3 l4 l6 l7 h H locs ls hq hR hS hl
  exact lp_ind (P := fun u : Option Nat × Int32 × Int32 × Int32 × Int32 × Int32 × Hp => ∀ (H : Heap) (locs : List Loc) (ls : Array Slot), Rep G u.2.2.2.2.2.2 H → va_S (AA G) s.heap H locs → LV ls 8 [(0, va_rf u.1), (2, .int u.2.1), (3, .int u.2.2.1), (4, .int u.2.2.2.1), (6, .int u.2.2.2.2.1), (7, .int u.2.2.2.2.2.1)] → W p l e rm_X8_orders s m args below meth c H locs 0 0 (MQ below (Qx G none h1) args s 0 0 (AA G)) (F0 m 77 ls [])) (fun k hk u hq H locs ls hR hS hl => tb_X8_orders_77 Z hr hlk hin hk7 hk u.1 u.2.1 u.2.2.1 u.2.2.2.1 u.2.2.2.2.1 u.2.2.2.2.2.1 u.2.2.2.2.2.2 H locs ls hq hR hS hl) FU (l0, l2, l3, l4, l6, l7, h) hq H locs ls hR hS hl
def fb_X8_orders_61  (k7 : Option Nat × Int32 × Int32 × Int32 × Hp → Option (Unit × Hp)) (k61 : Option Nat × Int32 × Int32 × Int32 × Int32 × Int32 × Hp → Option (Unit × Hp)) (l0 : Option Nat) (l2 : Int32) (l3 : Int32) (l4 : Int32) (l6 : Int32) (l7 : Int32) (h : Hp) : Option (Unit × Hp) :=
(if ((l3 >>> (l7 &&& 31)) &&& 1) = 1 then
k61 (l0, l2, l3, l4, l6, (l7 + 1), h)
else
f_X8_orders_77 k7 l0 l2 l3 l4 l6 l7 h)
set_option maxHeartbeats 4000000 in
set_option maxRecDepth 100000 in
theorem tb_X8_orders_61 (Z : ZZ p s m args c cX8_orders RX8 8 G) (hr : meth.sig.returnType = none) (hlk : meth.locks = false) (hin : meth.name = "orders") {v : Unit} {h1 : Hp} {k7 : Option Nat × Int32 × Int32 × Int32 × Hp → Option (Unit × Hp)} (hk7 : ∀ u : Option Nat × Int32 × Int32 × Int32 × Hp, k7 u = some (v, h1) → ∀ (H : Heap) (locs : List Loc) (ls : Array Slot), Rep G u.2.2.2.2 H → va_S (AA G) s.heap H locs → LV ls 8 [(0, va_rf u.1), (2, .int u.2.1), (3, .int u.2.2.1), (4, .int u.2.2.2.1)] → W p l e rm_X8_orders s m args below meth c H locs 0 0 (MQ below (Qx G none h1) args s 0 0 (AA G)) (F0 m 7 ls [])) {k61 : Option Nat × Int32 × Int32 × Int32 × Int32 × Int32 × Hp → Option (Unit × Hp)} (hk61 : ∀ u : Option Nat × Int32 × Int32 × Int32 × Int32 × Int32 × Hp, k61 u = some (v, h1) → ∀ (H : Heap) (locs : List Loc) (ls : Array Slot), Rep G u.2.2.2.2.2.2 H → va_S (AA G) s.heap H locs → LV ls 8 [(0, va_rf u.1), (2, .int u.2.1), (3, .int u.2.2.1), (4, .int u.2.2.2.1), (6, .int u.2.2.2.2.1), (7, .int u.2.2.2.2.2.1)] → W p l e rm_X8_orders s m args below meth c H locs 0 0 (MQ below (Qx G none h1) args s 0 0 (AA G)) (F0 m 61 ls [])) : ∀ (l0 : Option Nat) (l2 : Int32) (l3 : Int32) (l4 : Int32) (l6 : Int32) (l7 : Int32) (h : Hp) (H : Heap) (locs : List Loc) (ls : Array Slot), fb_X8_orders_61 k7 k61 l0 l2 l3 l4 l6 l7 h = some (v, h1) → Rep G h H → va_S (AA G) s.heap H locs → LV ls 8 [(0, va_rf l0), (2, .int l2), (3, .int l3), (4, .int l4), (6, .int l6), (7, .int l7)] → W p l e rm_X8_orders s m args below meth c H locs 0 0 (MQ below (Qx G none h1) args s 0 0 (AA G)) (F0 m 61 ls []) := by
  intro l0 l2 l3 l4 l6 l7 h H locs ls hq hR hS hl
  have hx := Z.1
  have hb := Z.2.1
  unfold fb_X8_orders_61 at hq
  refine xiln hx hb hl (x := l3) 2 rfl dX8_orders_61 ?_
  refine xil hx hb hl (x := l7) 5 rfl dX8_orders_62 ?_
  refine lv_ishr hx hb dX8_orders_64 ?_
  refine lv_iconst (v := 1) hx hb dX8_orders_65 (by decide) ?_
  refine lv_iand hx hb dX8_orders_66 ?_
  refine lv_iconst (v := 1) hx hb dX8_orders_67 (by decide) ?_
  refine xcNe hx hb hq (tgt := 77) dX8_orders_68 (by decide) (fun hq => ?_) (fun hq => ?_)
  · exact t_X8_orders_77 Z hr hlk hin hk7 l0 l2 l3 l4 l6 l7 h H locs ls hq hR hS (hl.sub [0, 1, 2, 3, 4, 5] rfl)
  refine xinc hx hb hl (x := l7) (v := (l7 + 1)) (lv' := [(7, .int (l7 + 1)), (0, va_rf l0), (2, .int l2), (3, .int l3), (4, .int l4), (6, .int l6)]) 5 rfl (by rw [show Int32.ofInt (1) = (1 : Int32) from by decide]) (by decide) dX8_orders_71 rfl (fun ls hl => ?_)
  refine lv_goto (tgt := 61) hx hb dX8_orders_74 (by decide) ?_
  exact hk61 (l0, l2, l3, l4, l6, (l7 + 1), h) hq H locs ls hR hS (hl.sub [1, 2, 3, 4, 5, 0] rfl)
def f_X8_orders_61  (k7 : Option Nat × Int32 × Int32 × Int32 × Hp → Option (Unit × Hp)) (l0 : Option Nat) (l2 : Int32) (l3 : Int32) (l4 : Int32) (l6 : Int32) (l7 : Int32) (h : Hp) : Option (Unit × Hp) :=
  lp (fun (k61 : Option Nat × Int32 × Int32 × Int32 × Int32 × Int32 × Hp → Option (Unit × Hp)) (u : Option Nat × Int32 × Int32 × Int32 × Int32 × Int32 × Hp) => fb_X8_orders_61 k7 k61 u.1 u.2.1 u.2.2.1 u.2.2.2.1 u.2.2.2.2.1 u.2.2.2.2.2.1 u.2.2.2.2.2.2) FU (l0, l2, l3, l4, l6, l7, h)
theorem t_X8_orders_61 (Z : ZZ p s m args c cX8_orders RX8 8 G) (hr : meth.sig.returnType = none) (hlk : meth.locks = false) (hin : meth.name = "orders") {v : Unit} {h1 : Hp} {k7 : Option Nat × Int32 × Int32 × Int32 × Hp → Option (Unit × Hp)} (hk7 : ∀ u : Option Nat × Int32 × Int32 × Int32 × Hp, k7 u = some (v, h1) → ∀ (H : Heap) (locs : List Loc) (ls : Array Slot), Rep G u.2.2.2.2 H → va_S (AA G) s.heap H locs → LV ls 8 [(0, va_rf u.1), (2, .int u.2.1), (3, .int u.2.2.1), (4, .int u.2.2.2.1)] → W p l e rm_X8_orders s m args below meth c H locs 0 0 (MQ below (Qx G none h1) args s 0 0 (AA G)) (F0 m 7 ls [])) : ∀ (l0 : Option Nat) (l2 : Int32) (l3 : Int32) (l4 : Int32) (l6 : Int32) (l7 : Int32) (h : Hp) (H : Heap) (locs : List Loc) (ls : Array Slot), f_X8_orders_61 k7 l0 l2 l3 l4 l6 l7 h = some (v, h1) → Rep G h H → va_S (AA G) s.heap H locs → LV ls 8 [(0, va_rf l0), (2, .int l2), (3, .int l3), (4, .int l4), (6, .int l6), (7, .int l7)] → W p l e rm_X8_orders s m args below meth c H locs 0 0 (MQ below (Qx G none h1) args s 0 0 (AA G)) (F0 m 61 ls []) := by
  intro l0 l2 l3 l4 l6 l7 h H locs ls hq hR hS hl
  exact lp_ind (P := fun u : Option Nat × Int32 × Int32 × Int32 × Int32 × Int32 × Hp => ∀ (H : Heap) (locs : List Loc) (ls : Array Slot), Rep G u.2.2.2.2.2.2 H → va_S (AA G) s.heap H locs → LV ls 8 [(0, va_rf u.1), (2, .int u.2.1), (3, .int u.2.2.1), (4, .int u.2.2.2.1), (6, .int u.2.2.2.2.1), (7, .int u.2.2.2.2.2.1)] → W p l e rm_X8_orders s m args below meth c H locs 0 0 (MQ below (Qx G none h1) args s 0 0 (AA G)) (F0 m 61 ls [])) (fun k hk u hq H locs ls hR hS hl => tb_X8_orders_61 Z hr hlk hin hk7 hk u.1 u.2.1 u.2.2.1 u.2.2.2.1 u.2.2.2.2.1 u.2.2.2.2.2.1 u.2.2.2.2.2.2 H locs ls hq hR hS hl) FU (l0, l2, l3, l4, l6, l7, h) hq H locs ls hR hS hl
def fb_X8_orders_22  (k7 : Option Nat × Int32 × Int32 × Int32 × Hp → Option (Unit × Hp)) (k22 : Option Nat × Int32 × Int32 × Int32 × Int32 × Int32 × Hp → Option (Unit × Hp)) (l0 : Option Nat) (l2 : Int32) (l3 : Int32) (l4 : Int32) (l5 : Int32) (l6 : Int32) (h : Hp) : Option (Unit × Hp) :=
gI h l0 9 9 (fun x25 =>
(if (x25 - l4) ≤ l6 then
dv l5 (
dv l5 (
f_X8_orders_61 k7 l0 (l2 - l2 / l5 * l5) l3 l4 (l2 / l5) 0 h))
else
k22 (l0, l2, l3, l4, (l5 * l6), (l6 + 1), h)))
set_option maxHeartbeats 4000000 in
set_option maxRecDepth 100000 in
theorem tb_X8_orders_22 (Z : ZZ p s m args c cX8_orders RX8 8 G) (hr : meth.sig.returnType = none) (hlk : meth.locks = false) (hin : meth.name = "orders") {v : Unit} {h1 : Hp} {k7 : Option Nat × Int32 × Int32 × Int32 × Hp → Option (Unit × Hp)} (hk7 : ∀ u : Option Nat × Int32 × Int32 × Int32 × Hp, k7 u = some (v, h1) → ∀ (H : Heap) (locs : List Loc) (ls : Array Slot), Rep G u.2.2.2.2 H → va_S (AA G) s.heap H locs → LV ls 8 [(0, va_rf u.1), (2, .int u.2.1), (3, .int u.2.2.1), (4, .int u.2.2.2.1)] → W p l e rm_X8_orders s m args below meth c H locs 0 0 (MQ below (Qx G none h1) args s 0 0 (AA G)) (F0 m 7 ls [])) {k22 : Option Nat × Int32 × Int32 × Int32 × Int32 × Int32 × Hp → Option (Unit × Hp)} (hk22 : ∀ u : Option Nat × Int32 × Int32 × Int32 × Int32 × Int32 × Hp, k22 u = some (v, h1) → ∀ (H : Heap) (locs : List Loc) (ls : Array Slot), Rep G u.2.2.2.2.2.2 H → va_S (AA G) s.heap H locs → LV ls 8 [(0, va_rf u.1), (2, .int u.2.1), (3, .int u.2.2.1), (4, .int u.2.2.2.1), (5, .int u.2.2.2.2.1), (6, .int u.2.2.2.2.2.1)] → W p l e rm_X8_orders s m args below meth c H locs 0 0 (MQ below (Qx G none h1) args s 0 0 (AA G)) (F0 m 22 ls [])) : ∀ (l0 : Option Nat) (l2 : Int32) (l3 : Int32) (l4 : Int32) (l5 : Int32) (l6 : Int32) (h : Hp) (H : Heap) (locs : List Loc) (ls : Array Slot), fb_X8_orders_22 k7 k22 l0 l2 l3 l4 l5 l6 h = some (v, h1) → Rep G h H → va_S (AA G) s.heap H locs → LV ls 8 [(0, va_rf l0), (2, .int l2), (3, .int l3), (4, .int l4), (5, .int l5), (6, .int l6)] → W p l e rm_X8_orders s m args below meth c H locs 0 0 (MQ below (Qx G none h1) args s 0 0 (AA G)) (F0 m 22 ls []) := by
  intro l0 l2 l3 l4 l5 l6 h H locs ls hq hR hS hl
  have hx := Z.1
  have hb := Z.2.1
  unfold fb_X8_orders_22 at hq
  refine xil hx hb hl (x := l6) 5 rfl dX8_orders_22 ?_
  refine xaln hx hb hl (x := l0) 0 rfl dX8_orders_24 ?_
  refine xgI Z hR hq fl_X8_108 rfl dX8_orders_25 (fun x25 hq => ?_)
  refine xil hx hb hl (x := l4) 3 rfl dX8_orders_28 ?_
  refine lv_isub hx hb dX8_orders_30 ?_
  refine xcGe hx hb hq (tgt := 47) dX8_orders_31 (by decide) (fun hq => ?_) (fun hq => ?_)
  · refine xiln hx hb hl (x := l2) 1 rfl dX8_orders_47 ?_
    refine xil hx hb hl (x := l5) 4 rfl dX8_orders_48 ?_
    obtain ⟨hz50, hq⟩ := dv_inv hq
    refine lv_idiv hx hb dX8_orders_50 hz50 ?_
    refine xis hx hb hl (x := (l2 / l5)) (lv' := [(6, .int (l2 / l5)), (0, va_rf l0), (2, .int l2), (3, .int l3), (4, .int l4), (5, .int l5)]) (by decide) dX8_orders_51 rfl (fun ls hl => ?_)
    refine xiln hx hb hl (x := l2) 2 rfl dX8_orders_53 ?_
    refine xil hx hb hl (x := l5) 5 rfl dX8_orders_54 ?_
    obtain ⟨hz56, hq⟩ := dv_inv hq
    refine lv_irem hx hb dX8_orders_56 hz56 ?_
    refine xisn hx hb hl (x := (l2 - l2 / l5 * l5)) (lv' := [(2, .int (l2 - l2 / l5 * l5)), (6, .int (l2 / l5)), (0, va_rf l0), (3, .int l3), (4, .int l4), (5, .int l5)]) (by decide) dX8_orders_57 rfl (fun ls hl => ?_)
    refine lv_iconst (v := 0) hx hb dX8_orders_58 (by decide) ?_
    refine xis hx hb hl (x := 0) (lv' := [(7, .int 0), (2, .int (l2 - l2 / l5 * l5)), (6, .int (l2 / l5)), (0, va_rf l0), (3, .int l3), (4, .int l4), (5, .int l5)]) (by decide) dX8_orders_59 rfl (fun ls hl => ?_)
    exact t_X8_orders_61 Z hr hlk hin hk7 l0 (l2 - l2 / l5 * l5) l3 l4 (l2 / l5) 0 h H locs ls hq hR hS (hl.sub [3, 1, 4, 5, 2, 0] rfl)
  refine xil hx hb hl (x := l5) 4 rfl dX8_orders_34 ?_
  refine xil hx hb hl (x := l6) 5 rfl dX8_orders_36 ?_
  refine lv_imul hx hb dX8_orders_38 ?_
  refine xis hx hb hl (x := (l5 * l6)) (lv' := [(5, .int (l5 * l6)), (0, va_rf l0), (2, .int l2), (3, .int l3), (4, .int l4), (6, .int l6)]) (by decide) dX8_orders_39 rfl (fun ls hl => ?_)
  refine xinc hx hb hl (x := l6) (v := (l6 + 1)) (lv' := [(6, .int (l6 + 1)), (5, .int (l5 * l6)), (0, va_rf l0), (2, .int l2), (3, .int l3), (4, .int l4)]) 5 rfl (by rw [show Int32.ofInt (1) = (1 : Int32) from by decide]) (by decide) dX8_orders_41 rfl (fun ls hl => ?_)
  refine lv_goto (tgt := 22) hx hb dX8_orders_44 (by decide) ?_
  exact hk22 (l0, l2, l3, l4, (l5 * l6), (l6 + 1), h) hq H locs ls hR hS (hl.sub [2, 3, 4, 5, 1, 0] rfl)
def f_X8_orders_22  (k7 : Option Nat × Int32 × Int32 × Int32 × Hp → Option (Unit × Hp)) (l0 : Option Nat) (l2 : Int32) (l3 : Int32) (l4 : Int32) (l5 : Int32) (l6 : Int32) (h : Hp) : Option (Unit × Hp) :=
  lp (fun (k22 : Option Nat × Int32 × Int32 × Int32 × Int32 × Int32 × Hp → Option (Unit × Hp)) (u : Option Nat × Int32 × Int32 × Int32 × Int32 × Int32 × Hp) => fb_X8_orders_22 k7 k22 u.1 u.2.1 u.2.2.1 u.2.2.2.1 u.2.2.2.2.1 u.2.2.2.2.2.1 u.2.2.2.2.2.2) FU (l0, l2, l3, l4, l5, l6, h)
theorem t_X8_orders_22 (Z : ZZ p s m args c cX8_orders RX8 8 G) (hr : meth.sig.returnType = none) (hlk : meth.locks = false) (hin : meth.name = "orders") {v : Unit} {h1 : Hp} {k7 : Option Nat × Int32 × Int32 × Int32 × Hp → Option (Unit × Hp)} (hk7 : ∀ u : Option Nat × Int32 × Int32 × Int32 × Hp, k7 u = some (v, h1) → ∀ (H : Heap) (locs : List Loc) (ls : Array Slot), Rep G u.2.2.2.2 H → va_S (AA G) s.heap H locs → LV ls 8 [(0, va_rf u.1), (2, .int u.2.1), (3, .int u.2.2.1), (4, .int u.2.2.2.1)] → W p l e rm_X8_orders s m args below meth c H locs 0 0 (MQ below (Qx G none h1) args s 0 0 (AA G)) (F0 m 7 ls [])) : ∀ (l0 : Option Nat) (l2 : Int32) (l3 : Int32) (l4 : Int32) (l5 : Int32) (l6 : Int32) (h : Hp) (H : Heap) (locs : List Loc) (ls : Array Slot), f_X8_orders_22 k7 l0 l2 l3 l4 l5 l6 h = some (v, h1) → Rep G h H → va_S (AA G) s.heap H locs → LV ls 8 [(0, va_rf l0), (2, .int l2), (3, .int l3), (4, .int l4), (5, .int l5), (6, .int l6)] → W p l e rm_X8_orders s m args below meth c H locs 0 0 (MQ below (Qx G none h1) args s 0 0 (AA G)) (F0 m 22 ls []) := by
  intro l0 l2 l3 l4 l5 l6 h H locs ls hq hR hS hl
  exact lp_ind (P := fun u : Option Nat × Int32 × Int32 × Int32 × Int32 × Int32 × Hp => ∀ (H : Heap) (locs : List Loc) (ls : Array Slot), Rep G u.2.2.2.2.2.2 H → va_S (AA G) s.heap H locs → LV ls 8 [(0, va_rf u.1), (2, .int u.2.1), (3, .int u.2.2.1), (4, .int u.2.2.2.1), (5, .int u.2.2.2.2.1), (6, .int u.2.2.2.2.2.1)] → W p l e rm_X8_orders s m args below meth c H locs 0 0 (MQ below (Qx G none h1) args s 0 0 (AA G)) (F0 m 22 ls [])) (fun k hk u hq H locs ls hR hS hl => tb_X8_orders_22 Z hr hlk hin hk7 hk u.1 u.2.1 u.2.2.1 u.2.2.2.1 u.2.2.2.2.1 u.2.2.2.2.2.1 u.2.2.2.2.2.2 H locs ls hq hR hS hl) FU (l0, l2, l3, l4, l5, l6, h) hq H locs ls hR hS hl
def fb_X8_orders_7  (k7 : Option Nat × Int32 × Int32 × Int32 × Hp → Option (Unit × Hp)) (l0 : Option Nat) (l2 : Int32) (l3 : Int32) (l4 : Int32) (h : Hp) : Option (Unit × Hp) :=
gI h l0 9 9 (fun x10 =>
(if x10 ≤ l4 then
rtV h
else
f_X8_orders_22 k7 l0 l2 l3 l4 1 2 h))
set_option maxHeartbeats 4000000 in
set_option maxRecDepth 100000 in
theorem tb_X8_orders_7 (Z : ZZ p s m args c cX8_orders RX8 8 G) (hr : meth.sig.returnType = none) (hlk : meth.locks = false) (hin : meth.name = "orders") {v : Unit} {h1 : Hp} {k7 : Option Nat × Int32 × Int32 × Int32 × Hp → Option (Unit × Hp)} (hk7 : ∀ u : Option Nat × Int32 × Int32 × Int32 × Hp, k7 u = some (v, h1) → ∀ (H : Heap) (locs : List Loc) (ls : Array Slot), Rep G u.2.2.2.2 H → va_S (AA G) s.heap H locs → LV ls 8 [(0, va_rf u.1), (2, .int u.2.1), (3, .int u.2.2.1), (4, .int u.2.2.2.1)] → W p l e rm_X8_orders s m args below meth c H locs 0 0 (MQ below (Qx G none h1) args s 0 0 (AA G)) (F0 m 7 ls [])) : ∀ (l0 : Option Nat) (l2 : Int32) (l3 : Int32) (l4 : Int32) (h : Hp) (H : Heap) (locs : List Loc) (ls : Array Slot), fb_X8_orders_7 k7 l0 l2 l3 l4 h = some (v, h1) → Rep G h H → va_S (AA G) s.heap H locs → LV ls 8 [(0, va_rf l0), (2, .int l2), (3, .int l3), (4, .int l4)] → W p l e rm_X8_orders s m args below meth c H locs 0 0 (MQ below (Qx G none h1) args s 0 0 (AA G)) (F0 m 7 ls []) := by
  intro l0 l2 l3 l4 h H locs ls hq hR hS hl
  have hx := Z.1
  have hb := Z.2.1
  unfold fb_X8_orders_7 at hq
  refine xil hx hb hl (x := l4) 3 rfl dX8_orders_7 ?_
  refine xaln hx hb hl (x := l0) 0 rfl dX8_orders_9 ?_
  refine xgI Z hR hq fl_X8_108 rfl dX8_orders_10 (fun x10 hq => ?_)
  refine xcGe hx hb hq (tgt := 129) dX8_orders_13 (by decide) (fun hq => ?_) (fun hq => ?_)
  · exact xrV hx hb hr hlk hR hS hq (by decide) (by decide) dX8_orders_129
  refine lv_iconst (v := 1) hx hb dX8_orders_16 (by decide) ?_
  refine xis hx hb hl (x := 1) (lv' := [(5, .int 1), (0, va_rf l0), (2, .int l2), (3, .int l3), (4, .int l4)]) (by decide) dX8_orders_17 rfl (fun ls hl => ?_)
  refine lv_iconst (v := 2) hx hb dX8_orders_19 (by decide) ?_
  refine xis hx hb hl (x := 2) (lv' := [(6, .int 2), (5, .int 1), (0, va_rf l0), (2, .int l2), (3, .int l3), (4, .int l4)]) (by decide) dX8_orders_20 rfl (fun ls hl => ?_)
  exact t_X8_orders_22 Z hr hlk hin hk7 l0 l2 l3 l4 1 2 h H locs ls hq hR hS (hl.sub [2, 3, 4, 5, 1, 0] rfl)
def f_X8_orders_7  (l0 : Option Nat) (l2 : Int32) (l3 : Int32) (l4 : Int32) (h : Hp) : Option (Unit × Hp) :=
  lp (fun (k7 : Option Nat × Int32 × Int32 × Int32 × Hp → Option (Unit × Hp)) (u : Option Nat × Int32 × Int32 × Int32 × Hp) => fb_X8_orders_7 k7 u.1 u.2.1 u.2.2.1 u.2.2.2.1 u.2.2.2.2) FU (l0, l2, l3, l4, h)
theorem t_X8_orders_7 (Z : ZZ p s m args c cX8_orders RX8 8 G) (hr : meth.sig.returnType = none) (hlk : meth.locks = false) (hin : meth.name = "orders") {v : Unit} {h1 : Hp} : ∀ (l0 : Option Nat) (l2 : Int32) (l3 : Int32) (l4 : Int32) (h : Hp) (H : Heap) (locs : List Loc) (ls : Array Slot), f_X8_orders_7 l0 l2 l3 l4 h = some (v, h1) → Rep G h H → va_S (AA G) s.heap H locs → LV ls 8 [(0, va_rf l0), (2, .int l2), (3, .int l3), (4, .int l4)] → W p l e rm_X8_orders s m args below meth c H locs 0 0 (MQ below (Qx G none h1) args s 0 0 (AA G)) (F0 m 7 ls []) := by
  intro l0 l2 l3 l4 h H locs ls hq hR hS hl
  exact lp_ind (P := fun u : Option Nat × Int32 × Int32 × Int32 × Hp => ∀ (H : Heap) (locs : List Loc) (ls : Array Slot), Rep G u.2.2.2.2 H → va_S (AA G) s.heap H locs → LV ls 8 [(0, va_rf u.1), (2, .int u.2.1), (3, .int u.2.2.1), (4, .int u.2.2.2.1)] → W p l e rm_X8_orders s m args below meth c H locs 0 0 (MQ below (Qx G none h1) args s 0 0 (AA G)) (F0 m 7 ls [])) (fun k hk u hq H locs ls hR hS hl => tb_X8_orders_7 Z hr hlk hin hk u.1 u.2.1 u.2.2.1 u.2.2.2.1 u.2.2.2.2 H locs ls hq hR hS hl) FU (l0, l2, l3, l4, h) hq H locs ls hR hS hl
def f_X8_orders (this : Nat) (a0 : Int32) (h : Hp) : Option (Unit × Hp) :=
f_X8_orders_7 (some this) a0 0 0 h
set_option maxHeartbeats 4000000 in
set_option maxRecDepth 100000 in
theorem c_X8_orders (l : Launch) {G : GG} (this : Nat) (a0 : Int32) (h : Hp) (v : Unit) (h1 : Hp) (hq : f_X8_orders this a0 h = some (v, h1)) : Met l yX8_orders (Cond.code yX8_orders cX8_orders 8 none :: GT) rm_X8_orders (va_Pc [.ref this, .int a0] (Cn G h)) (Qx G none h1) 0 0 (AA G) := by
  refine xMet (cc := cX8_orders) (by decide) (Nat.le_of_ble_eq_true rfl) (List.forall_mem_cons.mpr ⟨rfl, (List.forall_mem_cons.mpr ⟨rfl, (fun _ z => by cases z)⟩)⟩) ?_
  intro p e s m below meth c ls Z hr hlk hin hR hS hl
  have hx := Z.1
  have hb := Z.2.1
  have hl : LV ls 8 [(0, va_rf (some this)), (1, .int a0)] := hl
  unfold f_X8_orders at hq
  refine xiln hx hb hl (x := a0) 1 rfl dX8_orders_0 ?_
  refine xisn hx hb hl (x := a0) (lv' := [(2, .int a0), (0, va_rf (some this)), (1, .int a0)]) (by decide) dX8_orders_1 rfl (fun ls hl => ?_)
  refine lv_iconst (v := 0) hx hb dX8_orders_2 (by decide) ?_
  refine xisn hx hb hl (x := 0) (lv' := [(3, .int 0), (2, .int a0), (0, va_rf (some this)), (1, .int a0)]) (by decide) dX8_orders_3 rfl (fun ls hl => ?_)
  refine lv_iconst (v := 0) hx hb dX8_orders_4 (by decide) ?_
  refine xis hx hb hl (x := 0) (lv' := [(4, .int 0), (3, .int 0), (2, .int a0), (0, va_rf (some this)), (1, .int a0)]) (by decide) dX8_orders_5 rfl (fun ls hl => ?_)
  exact t_X8_orders_7 Z hr hlk hin (some this) a0 0 0 h _ _ ls hq hR hS (hl.sub [3, 2, 1, 0] rfl)
abbrev rm_X8_best : Room := { frames := 8, cells := 0, slots := 0, locals := 187 }
def f_X8_best_16   (h : Hp) : Option (Int32 × Hp) :=
rtI (-1) h
set_option maxHeartbeats 4000000 in
set_option maxRecDepth 100000 in
theorem t_X8_best_16 (Z : ZZ p s m args c cX8_best RX8 6 G) (hr : meth.sig.returnType = (some .int)) (hlk : meth.locks = false) (hin : meth.name = "best") {v : Int32} {h1 : Hp} : ∀  (h : Hp) (H : Heap) (locs : List Loc) (ls : Array Slot), f_X8_best_16  h = some (v, h1) → Rep G h H → va_S (AA G) s.heap H locs → LV ls 6 [] → W p l e rm_X8_best s m args below meth c H locs 0 0 (MQ below (Qx G (some (.int v)) h1) args s 0 0 (AA G)) (F0 m 16 ls []) := by
  intro  h H locs ls hq hR hS hl
  have hx := Z.1
  have hb := Z.2.1
  unfold f_X8_best_16 at hq
  refine lv_iconst (v := (-1)) hx hb dX8_best_16 (by decide) ?_
  exact xrI hx hb hr hlk hR hS hq (by decide) (by decide) dX8_best_17
def f_X8_best_80  (k47 : Option Nat × Int32 × Int32 × Int32 × Int32 × Hp → Option (Int32 × Hp)) (l0 : Option Nat) (l1 : Int32) (l2 : Int32) (l3 : Int32) (l4 : Int32) (h : Hp) : Option (Int32 × Hp) :=
k47 (l0, l1, l2, l3, (l4 + 1), h)
set_option maxHeartbeats 4000000 in
set_option maxRecDepth 100000 in
theorem t_X8_best_80 (Z : ZZ p s m args c cX8_best RX8 6 G) (hr : meth.sig.returnType = (some .int)) (hlk : meth.locks = false) (hin : meth.name = "best") {v : Int32} {h1 : Hp} {k47 : Option Nat × Int32 × Int32 × Int32 × Int32 × Hp → Option (Int32 × Hp)} (hk47 : ∀ u : Option Nat × Int32 × Int32 × Int32 × Int32 × Hp, k47 u = some (v, h1) → ∀ (H : Heap) (locs : List Loc) (ls : Array Slot), Rep G u.2.2.2.2.2 H → va_S (AA G) s.heap H locs → LV ls 6 [(0, va_rf u.1), (1, .int u.2.1), (2, .int u.2.2.1), (3, .int u.2.2.2.1), (4, .int u.2.2.2.2.1)] → W p l e rm_X8_best s m args below meth c H locs 0 0 (MQ below (Qx G (some (.int v)) h1) args s 0 0 (AA G)) (F0 m 47 ls [])) : ∀ (l0 : Option Nat) (l1 : Int32) (l2 : Int32) (l3 : Int32) (l4 : Int32) (h : Hp) (H : Heap) (locs : List Loc) (ls : Array Slot), f_X8_best_80 k47 l0 l1 l2 l3 l4 h = some (v, h1) → Rep G h H → va_S (AA G) s.heap H locs → LV ls 6 [(0, va_rf l0), (1, .int l1), (2, .int l2), (3, .int l3), (4, .int l4)] → W p l e rm_X8_best s m args below meth c H locs 0 0 (MQ below (Qx G (some (.int v)) h1) args s 0 0 (AA G)) (F0 m 80 ls []) := by
  intro l0 l1 l2 l3 l4 h H locs ls hq hR hS hl
  have hx := Z.1
  have hb := Z.2.1
  unfold f_X8_best_80 at hq
  refine xinc hx hb hl (x := l4) (v := (l4 + 1)) (lv' := [(4, .int (l4 + 1)), (0, va_rf l0), (1, .int l1), (2, .int l2), (3, .int l3)]) 4 rfl (by rw [show Int32.ofInt (1) = (1 : Int32) from by decide]) (by decide) dX8_best_80 rfl (fun ls hl => ?_)
  refine lv_goto (tgt := 47) hx hb dX8_best_83 (by decide) ?_
  exact hk47 (l0, l1, l2, l3, (l4 + 1), h) hq H locs ls hR hS (hl.sub [1, 2, 3, 4, 0] rfl)
def fb_X8_best_47  (k47 : Option Nat × Int32 × Int32 × Int32 × Int32 × Hp → Option (Int32 × Hp)) (l0 : Option Nat) (l1 : Int32) (l2 : Int32) (l3 : Int32) (l4 : Int32) (h : Hp) : Option (Int32 × Hp) :=
(if l1 ≤ l4 then
rcv h l0 9 (fun b88 => bd (f_X8_orders b88 l3 h) (fun u88 h =>
rcv h l0 9 (fun b92 => bd (f_X8_goes b92 h) (fun x92 h =>
rtI l2 h))))
else
rcv h l0 9 (fun b56 => bd (f_X8_orders b56 l4 h) (fun u56 h =>
rcv h l0 9 (fun b60 => bd (f_X8_goes b60 h) (fun x60 h =>
(if l2 < x60 then
f_X8_best_80 k47 l0 l1 x60 l4 l4 h
else
f_X8_best_80 k47 l0 l1 l2 l3 l4 h))))))
set_option maxHeartbeats 4000000 in
set_option maxRecDepth 100000 in
theorem tb_X8_best_47 (Z : ZZ p s m args c cX8_best RX8 6 G) (hr : meth.sig.returnType = (some .int)) (hlk : meth.locks = false) (hin : meth.name = "best") {v : Int32} {h1 : Hp} {k47 : Option Nat × Int32 × Int32 × Int32 × Int32 × Hp → Option (Int32 × Hp)} (hk47 : ∀ u : Option Nat × Int32 × Int32 × Int32 × Int32 × Hp, k47 u = some (v, h1) → ∀ (H : Heap) (locs : List Loc) (ls : Array Slot), Rep G u.2.2.2.2.2 H → va_S (AA G) s.heap H locs → LV ls 6 [(0, va_rf u.1), (1, .int u.2.1), (2, .int u.2.2.1), (3, .int u.2.2.2.1), (4, .int u.2.2.2.2.1)] → W p l e rm_X8_best s m args below meth c H locs 0 0 (MQ below (Qx G (some (.int v)) h1) args s 0 0 (AA G)) (F0 m 47 ls [])) : ∀ (l0 : Option Nat) (l1 : Int32) (l2 : Int32) (l3 : Int32) (l4 : Int32) (h : Hp) (H : Heap) (locs : List Loc) (ls : Array Slot), fb_X8_best_47 k47 l0 l1 l2 l3 l4 h = some (v, h1) → Rep G h H → va_S (AA G) s.heap H locs → LV ls 6 [(0, va_rf l0), (1, .int l1), (2, .int l2), (3, .int l3), (4, .int l4)] → W p l e rm_X8_best s m args below meth c H locs 0 0 (MQ below (Qx G (some (.int v)) h1) args s 0 0 (AA G)) (F0 m 47 ls []) := by
  intro l0 l1 l2 l3 l4 h H locs ls hq hR hS hl
  have hx := Z.1
  have hb := Z.2.1
  unfold fb_X8_best_47 at hq
  refine xil hx hb hl (x := l4) 4 rfl dX8_best_47 ?_
  refine xiln hx hb hl (x := l1) 1 rfl dX8_best_49 ?_
  refine xcGe hx hb hq (tgt := 86) dX8_best_50 (by decide) (fun hq => ?_) (fun hq => ?_)
  · refine xaln hx hb hl (x := l0) 0 rfl dX8_best_86 ?_
    refine xiln hx hb hl (x := l3) 3 rfl dX8_best_87 ?_
    refine xcV Z hR hS hl (rest := []) (As := [.int l3]) hq cl_X8_184 (fun b x h1 hc => c_X8_orders l b l3 h x h1 hc) ⟨⟨rfl, rfl⟩, (by decide), (by decide)⟩ rfl rfl (by first | decide | (simp only [List.map_cons, List.map_nil, rf_cat, ct_int, ct_ref, List.sum_cons, List.sum_nil] <;> decide)) dX8_best_88 (by decide) (fun u88 h H locs hq hR hS => ?_)
    refine xaln hx hb hl (x := l0) 0 rfl dX8_best_91 ?_
    refine xcV Z hR hS hl (rest := []) (As := []) hq cl_X8_178 (fun b x h1 hc => c_X8_goes l b h x h1 hc) ⟨⟨rfl, rfl⟩, (by decide), (by decide)⟩ rfl rfl (by first | decide | (simp only [List.map_cons, List.map_nil, rf_cat, ct_int, ct_ref, List.sum_cons, List.sum_nil] <;> decide)) dX8_best_92 (by decide) (fun x92 h H locs hq hR hS => ?_)
    refine lv_pop hx hb dX8_best_95 rfl ?_
    refine xiln hx hb hl (x := l2) 2 rfl dX8_best_96 ?_
    exact xrI hx hb hr hlk hR hS hq (by decide) (by decide) dX8_best_97
  refine xaln hx hb hl (x := l0) 0 rfl dX8_best_53 ?_
  refine xil hx hb hl (x := l4) 4 rfl dX8_best_54 ?_
  refine xcV Z hR hS hl (rest := []) (As := [.int l4]) hq cl_X8_184 (fun b x h1 hc => c_X8_orders l b l4 h x h1 hc) ⟨⟨rfl, rfl⟩, (by decide), (by decide)⟩ rfl rfl (by first | decide | (simp only [List.map_cons, List.map_nil, rf_cat, ct_int, ct_ref, List.sum_cons, List.sum_nil] <;> decide)) dX8_best_56 (by decide) (fun u56 h H locs hq hR hS => ?_)
  refine xaln hx hb hl (x := l0) 0 rfl dX8_best_59 ?_
  refine xcV Z hR hS hl (rest := []) (As := []) hq cl_X8_178 (fun b x h1 hc => c_X8_goes l b h x h1 hc) ⟨⟨rfl, rfl⟩, (by decide), (by decide)⟩ rfl rfl (by first | decide | (simp only [List.map_cons, List.map_nil, rf_cat, ct_int, ct_ref, List.sum_cons, List.sum_nil] <;> decide)) dX8_best_60 (by decide) (fun x60 h H locs hq hR hS => ?_)
  refine xis hx hb hl (x := x60) (lv' := [(5, .int x60), (0, va_rf l0), (1, .int l1), (2, .int l2), (3, .int l3), (4, .int l4)]) (by decide) dX8_best_63 rfl (fun ls hl => ?_)
  refine xil hx hb hl (x := x60) 0 rfl dX8_best_65 ?_
  refine xiln hx hb hl (x := l2) 3 rfl dX8_best_67 ?_
  refine xcGt hx hb hq (tgt := 74) dX8_best_68 (by decide) (fun hq => ?_) (fun hq => ?_)
  · refine xil hx hb hl (x := x60) 0 rfl dX8_best_74 ?_
    refine xisn hx hb hl (x := x60) (lv' := [(2, .int x60), (5, .int x60), (0, va_rf l0), (1, .int l1), (3, .int l3), (4, .int l4)]) (by decide) dX8_best_76 rfl (fun ls hl => ?_)
    refine xil hx hb hl (x := l4) 5 rfl dX8_best_77 ?_
    refine xisn hx hb hl (x := l4) (lv' := [(3, .int l4), (2, .int x60), (5, .int x60), (0, va_rf l0), (1, .int l1), (4, .int l4)]) (by decide) dX8_best_79 rfl (fun ls hl => ?_)
    exact t_X8_best_80 Z hr hlk hin hk47 l0 l1 x60 l4 l4 h H locs ls hq hR hS (hl.sub [3, 4, 1, 0, 5] rfl)
  refine lv_goto (tgt := 80) hx hb dX8_best_71 (by decide) ?_
  exact t_X8_best_80 Z hr hlk hin hk47 l0 l1 l2 l3 l4 h H locs ls hq hR hS (hl.sub [1, 2, 3, 4, 5] rfl)
def f_X8_best_47  (l0 : Option Nat) (l1 : Int32) (l2 : Int32) (l3 : Int32) (l4 : Int32) (h : Hp) : Option (Int32 × Hp) :=
  lp (fun (k47 : Option Nat × Int32 × Int32 × Int32 × Int32 × Hp → Option (Int32 × Hp)) (u : Option Nat × Int32 × Int32 × Int32 × Int32 × Hp) => fb_X8_best_47 k47 u.1 u.2.1 u.2.2.1 u.2.2.2.1 u.2.2.2.2.1 u.2.2.2.2.2) FU (l0, l1, l2, l3, l4, h)
theorem t_X8_best_47 (Z : ZZ p s m args c cX8_best RX8 6 G) (hr : meth.sig.returnType = (some .int)) (hlk : meth.locks = false) (hin : meth.name = "best") {v : Int32} {h1 : Hp} : ∀ (l0 : Option Nat) (l1 : Int32) (l2 : Int32) (l3 : Int32) (l4 : Int32) (h : Hp) (H : Heap) (locs : List Loc) (ls : Array Slot), f_X8_best_47 l0 l1 l2 l3 l4 h = some (v, h1) → Rep G h H → va_S (AA G) s.heap H locs → LV ls 6 [(0, va_rf l0), (1, .int l1), (2, .int l2), (3, .int l3), (4, .int l4)] → W p l e rm_X8_best s m args below meth c H locs 0 0 (MQ below (Qx G (some (.int v)) h1) args s 0 0 (AA G)) (F0 m 47 ls []) := by
  intro l0 l1 l2 l3 l4 h H locs ls hq hR hS hl
  exact lp_ind (P := fun u : Option Nat × Int32 × Int32 × Int32 × Int32 × Hp => ∀ (H : Heap) (locs : List Loc) (ls : Array Slot), Rep G u.2.2.2.2.2 H → va_S (AA G) s.heap H locs → LV ls 6 [(0, va_rf u.1), (1, .int u.2.1), (2, .int u.2.2.1), (3, .int u.2.2.2.1), (4, .int u.2.2.2.2.1)] → W p l e rm_X8_best s m args below meth c H locs 0 0 (MQ below (Qx G (some (.int v)) h1) args s 0 0 (AA G)) (F0 m 47 ls [])) (fun k hk u hq H locs ls hR hS hl => tb_X8_best_47 Z hr hlk hin hk u.1 u.2.1 u.2.2.1 u.2.2.2.1 u.2.2.2.2.1 u.2.2.2.2.2 H locs ls hq hR hS hl) FU (l0, l1, l2, l3, l4, h) hq H locs ls hR hS hl
def fb_X8_best_22  (k22 : Option Nat × Int32 × Int32 × Hp → Option (Int32 × Hp)) (l0 : Option Nat) (l1 : Int32) (l2 : Int32) (h : Hp) : Option (Int32 × Hp) :=
gI h l0 9 9 (fun x24 =>
(if x24 < l2 then
f_X8_best_47 l0 l1 (-1) 0 0 h
else
k22 (l0, (l1 * l2), (l2 + 1), h)))
set_option maxHeartbeats 4000000 in
set_option maxRecDepth 100000 in
theorem tb_X8_best_22 (Z : ZZ p s m args c cX8_best RX8 6 G) (hr : meth.sig.returnType = (some .int)) (hlk : meth.locks = false) (hin : meth.name = "best") {v : Int32} {h1 : Hp} {k22 : Option Nat × Int32 × Int32 × Hp → Option (Int32 × Hp)} (hk22 : ∀ u : Option Nat × Int32 × Int32 × Hp, k22 u = some (v, h1) → ∀ (H : Heap) (locs : List Loc) (ls : Array Slot), Rep G u.2.2.2 H → va_S (AA G) s.heap H locs → LV ls 6 [(0, va_rf u.1), (1, .int u.2.1), (2, .int u.2.2.1)] → W p l e rm_X8_best s m args below meth c H locs 0 0 (MQ below (Qx G (some (.int v)) h1) args s 0 0 (AA G)) (F0 m 22 ls [])) : ∀ (l0 : Option Nat) (l1 : Int32) (l2 : Int32) (h : Hp) (H : Heap) (locs : List Loc) (ls : Array Slot), fb_X8_best_22 k22 l0 l1 l2 h = some (v, h1) → Rep G h H → va_S (AA G) s.heap H locs → LV ls 6 [(0, va_rf l0), (1, .int l1), (2, .int l2)] → W p l e rm_X8_best s m args below meth c H locs 0 0 (MQ below (Qx G (some (.int v)) h1) args s 0 0 (AA G)) (F0 m 22 ls []) := by
  intro l0 l1 l2 h H locs ls hq hR hS hl
  have hx := Z.1
  have hb := Z.2.1
  unfold fb_X8_best_22 at hq
  refine xiln hx hb hl (x := l2) 2 rfl dX8_best_22 ?_
  refine xaln hx hb hl (x := l0) 0 rfl dX8_best_23 ?_
  refine xgI Z hR hq fl_X8_108 rfl dX8_best_24 (fun x24 hq => ?_)
  refine xcGt hx hb hq (tgt := 40) dX8_best_27 (by decide) (fun hq => ?_) (fun hq => ?_)
  · refine lv_iconst (v := (-1)) hx hb dX8_best_40 (by decide) ?_
    refine xisn hx hb hl (x := (-1)) (lv' := [(2, .int (-1)), (0, va_rf l0), (1, .int l1)]) (by decide) dX8_best_41 rfl (fun ls hl => ?_)
    refine lv_iconst (v := 0) hx hb dX8_best_42 (by decide) ?_
    refine xisn hx hb hl (x := 0) (lv' := [(3, .int 0), (2, .int (-1)), (0, va_rf l0), (1, .int l1)]) (by decide) dX8_best_43 rfl (fun ls hl => ?_)
    refine lv_iconst (v := 0) hx hb dX8_best_44 (by decide) ?_
    refine xis hx hb hl (x := 0) (lv' := [(4, .int 0), (3, .int 0), (2, .int (-1)), (0, va_rf l0), (1, .int l1)]) (by decide) dX8_best_45 rfl (fun ls hl => ?_)
    exact t_X8_best_47 Z hr hlk hin l0 l1 (-1) 0 0 h H locs ls hq hR hS (hl.sub [3, 4, 2, 1, 0] rfl)
  refine xiln hx hb hl (x := l1) 1 rfl dX8_best_30 ?_
  refine xiln hx hb hl (x := l2) 2 rfl dX8_best_31 ?_
  refine lv_imul hx hb dX8_best_32 ?_
  refine xisn hx hb hl (x := (l1 * l2)) (lv' := [(1, .int (l1 * l2)), (0, va_rf l0), (2, .int l2)]) (by decide) dX8_best_33 rfl (fun ls hl => ?_)
  refine xinc hx hb hl (x := l2) (v := (l2 + 1)) (lv' := [(2, .int (l2 + 1)), (1, .int (l1 * l2)), (0, va_rf l0)]) 2 rfl (by rw [show Int32.ofInt (1) = (1 : Int32) from by decide]) (by decide) dX8_best_34 rfl (fun ls hl => ?_)
  refine lv_goto (tgt := 22) hx hb dX8_best_37 (by decide) ?_
  exact hk22 (l0, (l1 * l2), (l2 + 1), h) hq H locs ls hR hS (hl.sub [2, 1, 0] rfl)
def f_X8_best_22  (l0 : Option Nat) (l1 : Int32) (l2 : Int32) (h : Hp) : Option (Int32 × Hp) :=
  lp (fun (k22 : Option Nat × Int32 × Int32 × Hp → Option (Int32 × Hp)) (u : Option Nat × Int32 × Int32 × Hp) => fb_X8_best_22 k22 u.1 u.2.1 u.2.2.1 u.2.2.2) FU (l0, l1, l2, h)
theorem t_X8_best_22 (Z : ZZ p s m args c cX8_best RX8 6 G) (hr : meth.sig.returnType = (some .int)) (hlk : meth.locks = false) (hin : meth.name = "best") {v : Int32} {h1 : Hp} : ∀ (l0 : Option Nat) (l1 : Int32) (l2 : Int32) (h : Hp) (H : Heap) (locs : List Loc) (ls : Array Slot), f_X8_best_22 l0 l1 l2 h = some (v, h1) → Rep G h H → va_S (AA G) s.heap H locs → LV ls 6 [(0, va_rf l0), (1, .int l1), (2, .int l2)] → W p l e rm_X8_best s m args below meth c H locs 0 0 (MQ below (Qx G (some (.int v)) h1) args s 0 0 (AA G)) (F0 m 22 ls []) := by
  intro l0 l1 l2 h H locs ls hq hR hS hl
  exact lp_ind (P := fun u : Option Nat × Int32 × Int32 × Hp => ∀ (H : Heap) (locs : List Loc) (ls : Array Slot), Rep G u.2.2.2 H → va_S (AA G) s.heap H locs → LV ls 6 [(0, va_rf u.1), (1, .int u.2.1), (2, .int u.2.2.1)] → W p l e rm_X8_best s m args below meth c H locs 0 0 (MQ below (Qx G (some (.int v)) h1) args s 0 0 (AA G)) (F0 m 22 ls [])) (fun k hk u hq H locs ls hR hS hl => tb_X8_best_22 Z hr hlk hin hk u.1 u.2.1 u.2.2.1 u.2.2.2 H locs ls hq hR hS hl) FU (l0, l1, l2, h) hq H locs ls hR hS hl
def f_X8_best (this : Nat) (h : Hp) : Option (Int32 × Hp) :=
gI h (some this) 9 9 (fun x1 =>
(if x1 < 1 then
f_X8_best_16  h
else
gI h (some this) 9 9 (fun x9 =>
(if x9 ≤ 5 then
f_X8_best_22 (some this) 1 2 h
else
f_X8_best_16  h))))
set_option maxHeartbeats 4000000 in
set_option maxRecDepth 100000 in
theorem c_X8_best (l : Launch) {G : GG} (this : Nat) (h : Hp) (v : Int32) (h1 : Hp) (hq : f_X8_best this h = some (v, h1)) : Met l yX8_best (Cond.code yX8_best cX8_best 6 (some .int) :: GT) rm_X8_best (va_Pc [.ref this] (Cn G h)) (Qx G (some (.int v)) h1) 0 0 (AA G) := by
  refine xMet (cc := cX8_best) (by decide) (Nat.le_of_ble_eq_true rfl) (List.forall_mem_cons.mpr ⟨rfl, (fun _ z => by cases z)⟩) ?_
  intro p e s m below meth c ls Z hr hlk hin hR hS hl
  have hx := Z.1
  have hb := Z.2.1
  have hl : LV ls 6 [(0, va_rf (some this))] := hl
  unfold f_X8_best at hq
  refine xaln hx hb hl (x := (some this)) 0 rfl dX8_best_0 ?_
  refine xgI Z hR hq fl_X8_108 rfl dX8_best_1 (fun x1 hq => ?_)
  refine lv_iconst (v := 1) hx hb dX8_best_4 (by decide) ?_
  refine xcLt hx hb hq (tgt := 16) dX8_best_5 (by decide) (fun hq => ?_) (fun hq => ?_)
  · exact t_X8_best_16 Z hr hlk hin  h _ _ ls hq hR hS (hl.sub [] rfl)
  refine xaln hx hb hl (x := (some this)) 0 rfl dX8_best_8 ?_
  refine xgI Z hR hq fl_X8_108 rfl dX8_best_9 (fun x9 hq => ?_)
  refine lv_iconst (v := 5) hx hb dX8_best_12 (by decide) ?_
  refine xcLe hx hb hq (tgt := 18) dX8_best_13 (by decide) (fun hq => ?_) (fun hq => ?_)
  · refine lv_iconst (v := 1) hx hb dX8_best_18 (by decide) ?_
    refine xisn hx hb hl (x := 1) (lv' := [(1, .int 1), (0, va_rf (some this))]) (by decide) dX8_best_19 rfl (fun ls hl => ?_)
    refine lv_iconst (v := 2) hx hb dX8_best_20 (by decide) ?_
    refine xisn hx hb hl (x := 2) (lv' := [(2, .int 2), (1, .int 1), (0, va_rf (some this))]) (by decide) dX8_best_21 rfl (fun ls hl => ?_)
    exact t_X8_best_22 Z hr hlk hin (some this) 1 2 h _ _ ls hq hR hS (hl.sub [2, 1, 0] rfl)
  exact t_X8_best_16 Z hr hlk hin  h _ _ ls hq hR hS (hl.sub [] rfl)
abbrev rm_X8_path : Room := { frames := 2, cells := 0, slots := 0, locals := 43 }
def f_X8_path_17   (h : Hp) : Option (Int32 × Hp) :=
rtI (-1) h
set_option maxHeartbeats 4000000 in
set_option maxRecDepth 100000 in
theorem t_X8_path_17 (Z : ZZ p s m args c cX8_path RX8 4 G) (hr : meth.sig.returnType = (some .int)) (hlk : meth.locks = false) (hin : meth.name = "path") {v : Int32} {h1 : Hp} : ∀  (h : Hp) (H : Heap) (locs : List Loc) (ls : Array Slot), f_X8_path_17  h = some (v, h1) → Rep G h H → va_S (AA G) s.heap H locs → LV ls 4 [] → W p l e rm_X8_path s m args below meth c H locs 0 0 (MQ below (Qx G (some (.int v)) h1) args s 0 0 (AA G)) (F0 m 17 ls []) := by
  intro  h H locs ls hq hR hS hl
  have hx := Z.1
  have hb := Z.2.1
  unfold f_X8_path_17 at hq
  refine lv_iconst (v := (-1)) hx hb dX8_path_17 (by decide) ?_
  exact xrI hx hb hr hlk hR hS hq (by decide) (by decide) dX8_path_18
def fb_X8_path_21  (k21 : Option Nat × Int32 × Int32 × Int32 × Hp → Option (Int32 × Hp)) (l0 : Option Nat) (l1 : Int32) (l2 : Int32) (l3 : Int32) (h : Hp) : Option (Int32 × Hp) :=
rcv h l0 9 (fun b24 => bd (f_X8_legs b24 l1 h) (fun x24 h =>
(if x24 < l3 then
rtI (-1) h
else
rcv h l0 9 (fun b33 => bd (f_X8_stationOf b33 l1 l3 h) (fun x33 h =>
(if x33 = l2 then
gR h l0 9 20 (fun x41 =>
ldI h x41 ((8 * l1) + l3) (fun x50 =>
rtI x50 h))
else
k21 (l0, l1, l2, (l3 + 1), h)))))))
set_option maxHeartbeats 4000000 in
set_option maxRecDepth 100000 in
theorem tb_X8_path_21 (Z : ZZ p s m args c cX8_path RX8 4 G) (hr : meth.sig.returnType = (some .int)) (hlk : meth.locks = false) (hin : meth.name = "path") {v : Int32} {h1 : Hp} {k21 : Option Nat × Int32 × Int32 × Int32 × Hp → Option (Int32 × Hp)} (hk21 : ∀ u : Option Nat × Int32 × Int32 × Int32 × Hp, k21 u = some (v, h1) → ∀ (H : Heap) (locs : List Loc) (ls : Array Slot), Rep G u.2.2.2.2 H → va_S (AA G) s.heap H locs → LV ls 4 [(0, va_rf u.1), (1, .int u.2.1), (2, .int u.2.2.1), (3, .int u.2.2.2.1)] → W p l e rm_X8_path s m args below meth c H locs 0 0 (MQ below (Qx G (some (.int v)) h1) args s 0 0 (AA G)) (F0 m 21 ls [])) : ∀ (l0 : Option Nat) (l1 : Int32) (l2 : Int32) (l3 : Int32) (h : Hp) (H : Heap) (locs : List Loc) (ls : Array Slot), fb_X8_path_21 k21 l0 l1 l2 l3 h = some (v, h1) → Rep G h H → va_S (AA G) s.heap H locs → LV ls 4 [(0, va_rf l0), (1, .int l1), (2, .int l2), (3, .int l3)] → W p l e rm_X8_path s m args below meth c H locs 0 0 (MQ below (Qx G (some (.int v)) h1) args s 0 0 (AA G)) (F0 m 21 ls []) := by
  intro l0 l1 l2 l3 h H locs ls hq hR hS hl
  have hx := Z.1
  have hb := Z.2.1
  unfold fb_X8_path_21 at hq
  refine xiln hx hb hl (x := l3) 3 rfl dX8_path_21 ?_
  refine xaln hx hb hl (x := l0) 0 rfl dX8_path_22 ?_
  refine xiln hx hb hl (x := l1) 1 rfl dX8_path_23 ?_
  refine xcV Z hR hS hl (rest := [.int l3]) (As := [.int l1]) hq cl_X8_126 (fun b x h1 hc => c_X8_legs l b l1 h x h1 hc) ⟨⟨rfl, rfl⟩, (by decide), (by decide)⟩ rfl rfl (by first | decide | (simp only [List.map_cons, List.map_nil, rf_cat, ct_int, ct_ref, List.sum_cons, List.sum_nil] <;> decide)) dX8_path_24 (by decide) (fun x24 h H locs hq hR hS => ?_)
  refine xcGt hx hb hq (tgt := 58) dX8_path_27 (by decide) (fun hq => ?_) (fun hq => ?_)
  · refine lv_iconst (v := (-1)) hx hb dX8_path_58 (by decide) ?_
    exact xrI hx hb hr hlk hR hS hq (by decide) (by decide) dX8_path_59
  refine xaln hx hb hl (x := l0) 0 rfl dX8_path_30 ?_
  refine xiln hx hb hl (x := l1) 1 rfl dX8_path_31 ?_
  refine xiln hx hb hl (x := l3) 3 rfl dX8_path_32 ?_
  refine xcV Z hR hS hl (rest := []) (As := [.int l1, .int l3]) hq cl_X8_151 (fun b x h1 hc => c_X8_stationOf l b l1 l3 h x h1 hc) ⟨⟨rfl, rfl⟩, (by decide), (by decide)⟩ rfl rfl (by first | decide | (simp only [List.map_cons, List.map_nil, rf_cat, ct_int, ct_ref, List.sum_cons, List.sum_nil] <;> decide)) dX8_path_33 (by decide) (fun x33 h H locs hq hR hS => ?_)
  refine xiln hx hb hl (x := l2) 2 rfl dX8_path_36 ?_
  refine xcNe hx hb hq (tgt := 52) dX8_path_37 (by decide) (fun hq => ?_) (fun hq => ?_)
  · refine xinc hx hb hl (x := l3) (v := (l3 + 1)) (lv' := [(3, .int (l3 + 1)), (0, va_rf l0), (1, .int l1), (2, .int l2)]) 3 rfl (by rw [show Int32.ofInt (1) = (1 : Int32) from by decide]) (by decide) dX8_path_52 rfl (fun ls hl => ?_)
    refine lv_goto (tgt := 21) hx hb dX8_path_55 (by decide) ?_
    exact hk21 (l0, l1, l2, (l3 + 1), h) hq H locs ls hR hS (hl.sub [1, 2, 3, 0] rfl)
  refine xaln hx hb hl (x := l0) 0 rfl dX8_path_40 ?_
  refine xgR Z hR hq fl_X8_63 rfl dX8_path_41 (fun x41 hq => ?_)
  refine lv_bipush (v := 8) hx hb dX8_path_44 (by decide) ?_
  refine xiln hx hb hl (x := l1) 1 rfl dX8_path_46 ?_
  refine lv_imul hx hb dX8_path_47 ?_
  refine xiln hx hb hl (x := l3) 3 rfl dX8_path_48 ?_
  refine lv_iadd hx hb dX8_path_49 ?_
  refine xaI Z hR hq dX8_path_50 (fun x50 hq => ?_)
  exact xrI hx hb hr hlk hR hS hq (by decide) (by decide) dX8_path_51
def f_X8_path_21  (l0 : Option Nat) (l1 : Int32) (l2 : Int32) (l3 : Int32) (h : Hp) : Option (Int32 × Hp) :=
  lp (fun (k21 : Option Nat × Int32 × Int32 × Int32 × Hp → Option (Int32 × Hp)) (u : Option Nat × Int32 × Int32 × Int32 × Hp) => fb_X8_path_21 k21 u.1 u.2.1 u.2.2.1 u.2.2.2.1 u.2.2.2.2) FU (l0, l1, l2, l3, h)
theorem t_X8_path_21 (Z : ZZ p s m args c cX8_path RX8 4 G) (hr : meth.sig.returnType = (some .int)) (hlk : meth.locks = false) (hin : meth.name = "path") {v : Int32} {h1 : Hp} : ∀ (l0 : Option Nat) (l1 : Int32) (l2 : Int32) (l3 : Int32) (h : Hp) (H : Heap) (locs : List Loc) (ls : Array Slot), f_X8_path_21 l0 l1 l2 l3 h = some (v, h1) → Rep G h H → va_S (AA G) s.heap H locs → LV ls 4 [(0, va_rf l0), (1, .int l1), (2, .int l2), (3, .int l3)] → W p l e rm_X8_path s m args below meth c H locs 0 0 (MQ below (Qx G (some (.int v)) h1) args s 0 0 (AA G)) (F0 m 21 ls []) := by
  intro l0 l1 l2 l3 h H locs ls hq hR hS hl
  exact lp_ind (P := fun u : Option Nat × Int32 × Int32 × Int32 × Hp => ∀ (H : Heap) (locs : List Loc) (ls : Array Slot), Rep G u.2.2.2.2 H → va_S (AA G) s.heap H locs → LV ls 4 [(0, va_rf u.1), (1, .int u.2.1), (2, .int u.2.2.1), (3, .int u.2.2.2.1)] → W p l e rm_X8_path s m args below meth c H locs 0 0 (MQ below (Qx G (some (.int v)) h1) args s 0 0 (AA G)) (F0 m 21 ls [])) (fun k hk u hq H locs ls hR hS hl => tb_X8_path_21 Z hr hlk hin hk u.1 u.2.1 u.2.2.1 u.2.2.2.1 u.2.2.2.2 H locs ls hq hR hS hl) FU (l0, l1, l2, l3, h) hq H locs ls hR hS hl
def f_X8_path (this : Nat) (a0 : Int32) (a1 : Int32) (h : Hp) : Option (Int32 × Hp) :=
rcv h (some this) 9 (fun b2 => bd (f_X8_isBid b2 a0 h) (fun x2 h =>
(if x2 = 0 then
f_X8_path_17  h
else
gR h (some this) 9 19 (fun x9 =>
ldZ h x9 a0 (fun x13 =>
(if x13 = 0 then
f_X8_path_17  h
else
f_X8_path_21 (some this) a0 a1 0 h))))))
set_option maxHeartbeats 4000000 in
set_option maxRecDepth 100000 in
theorem c_X8_path (l : Launch) {G : GG} (this : Nat) (a0 : Int32) (a1 : Int32) (h : Hp) (v : Int32) (h1 : Hp) (hq : f_X8_path this a0 a1 h = some (v, h1)) : Met l yX8_path (Cond.code yX8_path cX8_path 4 (some .int) :: GT) rm_X8_path (va_Pc [.ref this, .int a0, .int a1] (Cn G h)) (Qx G (some (.int v)) h1) 0 0 (AA G) := by
  refine xMet (cc := cX8_path) (by decide) (Nat.le_of_ble_eq_true rfl) (List.forall_mem_cons.mpr ⟨rfl, (List.forall_mem_cons.mpr ⟨rfl, (List.forall_mem_cons.mpr ⟨rfl, (fun _ z => by cases z)⟩)⟩)⟩) ?_
  intro p e s m below meth c ls Z hr hlk hin hR hS hl
  have hx := Z.1
  have hb := Z.2.1
  have hl : LV ls 4 [(0, va_rf (some this)), (1, .int a0), (2, .int a1)] := hl
  unfold f_X8_path at hq
  refine xaln hx hb hl (x := (some this)) 0 rfl dX8_path_0 ?_
  refine xiln hx hb hl (x := a0) 1 rfl dX8_path_1 ?_
  refine xcV Z hR hS hl (rest := []) (As := [.int a0]) hq cl_X8_118 (fun b x h1 hc => c_X8_isBid l b a0 h x h1 hc) ⟨⟨rfl, rfl⟩, (by decide), (by decide)⟩ rfl rfl (by first | decide | (simp only [List.map_cons, List.map_nil, rf_cat, ct_int, ct_ref, List.sum_cons, List.sum_nil] <;> decide)) dX8_path_2 (by decide) (fun x2 h H locs hq hR hS => ?_)
  refine xzEq hx hb hq (tgt := 17) dX8_path_5 (by decide) (fun hq => ?_) (fun hq => ?_)
  · exact t_X8_path_17 Z hr hlk hin  h _ _ ls hq hR hS (hl.sub [] rfl)
  refine xaln hx hb hl (x := (some this)) 0 rfl dX8_path_8 ?_
  refine xgR Z hR hq fl_X8_60 rfl dX8_path_9 (fun x9 hq => ?_)
  refine xiln hx hb hl (x := a0) 1 rfl dX8_path_12 ?_
  refine xaZ Z hR hq dX8_path_13 (fun x13 hq => ?_)
  refine xzNe hx hb hq (tgt := 19) dX8_path_14 (by decide) (fun hq => ?_) (fun hq => ?_)
  · refine lv_iconst (v := 0) hx hb dX8_path_19 (by decide) ?_
    refine xisn hx hb hl (x := 0) (lv' := [(3, .int 0), (0, va_rf (some this)), (1, .int a0), (2, .int a1)]) (by decide) dX8_path_20 rfl (fun ls hl => ?_)
    exact t_X8_path_21 Z hr hlk hin (some this) a0 a1 0 h _ _ ls hq hR hS (hl.sub [1, 2, 3, 0] rfl)
  exact t_X8_path_17 Z hr hlk hin  h _ _ ls hq hR hS (hl.sub [] rfl)
abbrev rm_X8_isIn : Room := { frames := 2, cells := 0, slots := 0, locals := 44 }
def f_X8_isIn (this : Nat) (a0 : Int32) (a1 : Int32) (a2 : Int32) (h : Hp) : Option (Int32 × Hp) :=
gR h (some this) 9 20 (fun x1 =>
ldI h x1 ((8 * a0) + a1) (fun x10 =>
rcv h (some this) 9 (fun b21 => bd (f_X8_longOf b21 a0 a1 h) (fun x21 h =>
bd (f_X8_in a2 x10 ((x10 + x21) - 1) h) (fun x27 h =>
rtZ x27 h)))))
set_option maxHeartbeats 4000000 in
set_option maxRecDepth 100000 in
theorem c_X8_isIn (l : Launch) {G : GG} (this : Nat) (a0 : Int32) (a1 : Int32) (a2 : Int32) (h : Hp) (v : Int32) (h1 : Hp) (hq : f_X8_isIn this a0 a1 a2 h = some (v, h1)) : Met l yX8_isIn (Cond.code yX8_isIn cX8_isIn 5 (some .boolean) :: GT) rm_X8_isIn (va_Pc [.ref this, .int a0, .int a1, .int a2] (Cn G h)) (Qx G (some (.int v)) h1) 0 0 (AA G) := by
  refine xMet (cc := cX8_isIn) (by decide) (Nat.le_of_ble_eq_true rfl) (List.forall_mem_cons.mpr ⟨rfl, (List.forall_mem_cons.mpr ⟨rfl, (List.forall_mem_cons.mpr ⟨rfl, (List.forall_mem_cons.mpr ⟨rfl, (fun _ z => by cases z)⟩)⟩)⟩)⟩) ?_
  intro p e s m below meth c ls Z hr hlk hin hR hS hl
  have hx := Z.1
  have hb := Z.2.1
  have hl : LV ls 5 [(0, va_rf (some this)), (1, .int a0), (2, .int a1), (3, .int a2)] := hl
  unfold f_X8_isIn at hq
  refine xaln hx hb hl (x := (some this)) 0 rfl dX8_isIn_0 ?_
  refine xgR Z hR hq fl_X8_63 rfl dX8_isIn_1 (fun x1 hq => ?_)
  refine lv_bipush (v := 8) hx hb dX8_isIn_4 (by decide) ?_
  refine xiln hx hb hl (x := a0) 1 rfl dX8_isIn_6 ?_
  refine lv_imul hx hb dX8_isIn_7 ?_
  refine xiln hx hb hl (x := a1) 2 rfl dX8_isIn_8 ?_
  refine lv_iadd hx hb dX8_isIn_9 ?_
  refine xaI Z hR hq dX8_isIn_10 (fun x10 hq => ?_)
  refine xis hx hb hl (x := x10) (lv' := [(4, .int x10), (0, va_rf (some this)), (1, .int a0), (2, .int a1), (3, .int a2)]) (by decide) dX8_isIn_11 rfl (fun ls hl => ?_)
  refine xiln hx hb hl (x := a2) 4 rfl dX8_isIn_13 ?_
  refine xil hx hb hl (x := x10) 0 rfl dX8_isIn_14 ?_
  refine xil hx hb hl (x := x10) 0 rfl dX8_isIn_16 ?_
  refine xaln hx hb hl (x := (some this)) 1 rfl dX8_isIn_18 ?_
  refine xiln hx hb hl (x := a0) 2 rfl dX8_isIn_19 ?_
  refine xiln hx hb hl (x := a1) 3 rfl dX8_isIn_20 ?_
  refine xcV Z hR hS hl (rest := [.int x10, .int x10, .int a2]) (As := [.int a0, .int a1]) hq cl_X8_134 (fun b x h1 hc => c_X8_longOf l b a0 a1 h x h1 hc) ⟨⟨rfl, rfl⟩, (by decide), (by decide)⟩ rfl rfl (by first | decide | (simp only [List.map_cons, List.map_nil, rf_cat, ct_int, ct_ref, List.sum_cons, List.sum_nil] <;> decide)) dX8_isIn_21 (by decide) (fun x21 h H locs hq hR hS => ?_)
  refine lv_iadd hx hb dX8_isIn_24 ?_
  refine lv_iconst (v := 1) hx hb dX8_isIn_25 (by decide) ?_
  refine lv_isub hx hb dX8_isIn_26 ?_
  refine xcS Z hR hS hl (rest := []) (As := [.int a2, .int x10, .int ((x10 + x21) - 1)]) hq cl_X8_111 (fun x h1 hc => c_X8_in l a2 x10 ((x10 + x21) - 1) h x h1 hc) ⟨⟨rfl, rfl⟩, (by decide), (by decide)⟩ rfl rfl (by first | decide | (simp only [List.map_cons, List.map_nil, rf_cat, ct_int, ct_ref, List.sum_cons, List.sum_nil] <;> decide)) dX8_isIn_27 (by decide) (fun x27 h H locs hq hR hS => ?_)
  exact xrZ hx hb hr hlk hR hS hq (by decide) (by decide) dX8_isIn_30
abbrev rm_X8_holds : Room := { frames := 2, cells := 0, slots := 0, locals := 45 }
def f_X8_holds_69  (s0 : Int32) (h : Hp) : Option (Int32 × Hp) :=
rtZ s0 h
set_option maxHeartbeats 4000000 in
set_option maxRecDepth 100000 in
theorem t_X8_holds_69 (Z : ZZ p s m args c cX8_holds RX8 6 G) (hr : meth.sig.returnType = (some .boolean)) (hlk : meth.locks = false) (hin : meth.name = "holds") {v : Int32} {h1 : Hp} : ∀ (s0 : Int32) (h : Hp) (H : Heap) (locs : List Loc) (ls : Array Slot), f_X8_holds_69 s0 h = some (v, h1) → Rep G h H → va_S (AA G) s.heap H locs → LV ls 6 [] → W p l e rm_X8_holds s m args below meth c H locs 0 0 (MQ below (Qx G (some (.int v)) h1) args s 0 0 (AA G)) (F0 m 69 ls [.int s0]) := by
  intro s0 h H locs ls hq hR hS hl
  have hx := Z.1
  have hb := Z.2.1
  unfold f_X8_holds_69 at hq
  exact xrZ hx hb hr hlk hR hS hq (by decide) (by decide) dX8_holds_69
def f_X8_holds_68   (h : Hp) : Option (Int32 × Hp) :=
f_X8_holds_69 0 h
set_option maxHeartbeats 4000000 in
set_option maxRecDepth 100000 in
theorem t_X8_holds_68 (Z : ZZ p s m args c cX8_holds RX8 6 G) (hr : meth.sig.returnType = (some .boolean)) (hlk : meth.locks = false) (hin : meth.name = "holds") {v : Int32} {h1 : Hp} : ∀  (h : Hp) (H : Heap) (locs : List Loc) (ls : Array Slot), f_X8_holds_68  h = some (v, h1) → Rep G h H → va_S (AA G) s.heap H locs → LV ls 6 [] → W p l e rm_X8_holds s m args below meth c H locs 0 0 (MQ below (Qx G (some (.int v)) h1) args s 0 0 (AA G)) (F0 m 68 ls []) := by
  intro  h H locs ls hq hR hS hl
  have hx := Z.1
  have hb := Z.2.1
  unfold f_X8_holds_68 at hq
  refine lv_iconst (v := 0) hx hb dX8_holds_68 (by decide) ?_
  exact t_X8_holds_69 Z hr hlk hin 0 h H locs ls hq hR hS (hl.sub [] rfl)
def f_X8_holds_30  (s0 : Int32) (l0 : Option Nat) (l1 : Int32) (l3 : Int32) (l4 : Int32) (h : Hp) : Option (Int32 × Hp) :=
(if l4 = (-1) then
f_X8_holds_68  h
else
rcv h l0 9 (fun b47 => bd (f_X8_longOf b47 l1 l4 h) (fun x47 h =>
rcv h l0 9 (fun b54 => bd (f_X8_behind b54 h) (fun x54 h =>
bd (f_X8_in l3 s0 (((s0 + x47) - 1) + x54) h) (fun x58 h =>
(if x58 = 0 then
f_X8_holds_68  h
else
f_X8_holds_69 1 h)))))))
set_option maxHeartbeats 4000000 in
set_option maxRecDepth 100000 in
theorem t_X8_holds_30 (Z : ZZ p s m args c cX8_holds RX8 6 G) (hr : meth.sig.returnType = (some .boolean)) (hlk : meth.locks = false) (hin : meth.name = "holds") {v : Int32} {h1 : Hp} : ∀ (s0 : Int32) (l0 : Option Nat) (l1 : Int32) (l3 : Int32) (l4 : Int32) (h : Hp) (H : Heap) (locs : List Loc) (ls : Array Slot), f_X8_holds_30 s0 l0 l1 l3 l4 h = some (v, h1) → Rep G h H → va_S (AA G) s.heap H locs → LV ls 6 [(0, va_rf l0), (1, .int l1), (3, .int l3), (4, .int l4)] → W p l e rm_X8_holds s m args below meth c H locs 0 0 (MQ below (Qx G (some (.int v)) h1) args s 0 0 (AA G)) (F0 m 30 ls [.int s0]) := by
  intro s0 l0 l1 l3 l4 h H locs ls hq hR hS hl
  have hx := Z.1
  have hb := Z.2.1
  unfold f_X8_holds_30 at hq
  refine xis hx hb hl (x := s0) (lv' := [(5, .int s0), (0, va_rf l0), (1, .int l1), (3, .int l3), (4, .int l4)]) (by decide) dX8_holds_30 rfl (fun ls hl => ?_)
  refine xil hx hb hl (x := l4) 4 rfl dX8_holds_32 ?_
  refine lv_iconst (v := (-1)) hx hb dX8_holds_34 (by decide) ?_
  refine xcEq hx hb hq (tgt := 68) dX8_holds_35 (by decide) (fun hq => ?_) (fun hq => ?_)
  · exact t_X8_holds_68 Z hr hlk hin  h H locs ls hq hR hS (hl.sub [] rfl)
  refine xiln hx hb hl (x := l3) 3 rfl dX8_holds_38 ?_
  refine xil hx hb hl (x := s0) 0 rfl dX8_holds_39 ?_
  refine xil hx hb hl (x := s0) 0 rfl dX8_holds_41 ?_
  refine xaln hx hb hl (x := l0) 1 rfl dX8_holds_43 ?_
  refine xiln hx hb hl (x := l1) 2 rfl dX8_holds_44 ?_
  refine xil hx hb hl (x := l4) 4 rfl dX8_holds_45 ?_
  refine xcV Z hR hS hl (rest := [.int s0, .int s0, .int l3]) (As := [.int l1, .int l4]) hq cl_X8_134 (fun b x h1 hc => c_X8_longOf l b l1 l4 h x h1 hc) ⟨⟨rfl, rfl⟩, (by decide), (by decide)⟩ rfl rfl (by first | decide | (simp only [List.map_cons, List.map_nil, rf_cat, ct_int, ct_ref, List.sum_cons, List.sum_nil] <;> decide)) dX8_holds_47 (by decide) (fun x47 h H locs hq hR hS => ?_)
  refine lv_iadd hx hb dX8_holds_50 ?_
  refine lv_iconst (v := 1) hx hb dX8_holds_51 (by decide) ?_
  refine lv_isub hx hb dX8_holds_52 ?_
  refine xaln hx hb hl (x := l0) 1 rfl dX8_holds_53 ?_
  refine xcV Z hR hS hl (rest := [.int ((s0 + x47) - 1), .int s0, .int l3]) (As := []) hq cl_X8_130 (fun b x h1 hc => c_X8_behind l b h x h1 hc) ⟨⟨rfl, rfl⟩, (by decide), (by decide)⟩ rfl rfl (by first | decide | (simp only [List.map_cons, List.map_nil, rf_cat, ct_int, ct_ref, List.sum_cons, List.sum_nil] <;> decide)) dX8_holds_54 (by decide) (fun x54 h H locs hq hR hS => ?_)
  refine lv_iadd hx hb dX8_holds_57 ?_
  refine xcS Z hR hS hl (rest := []) (As := [.int l3, .int s0, .int (((s0 + x47) - 1) + x54)]) hq cl_X8_111 (fun x h1 hc => c_X8_in l l3 s0 (((s0 + x47) - 1) + x54) h x h1 hc) ⟨⟨rfl, rfl⟩, (by decide), (by decide)⟩ rfl rfl (by first | decide | (simp only [List.map_cons, List.map_nil, rf_cat, ct_int, ct_ref, List.sum_cons, List.sum_nil] <;> decide)) dX8_holds_58 (by decide) (fun x58 h H locs hq hR hS => ?_)
  refine xzEq hx hb hq (tgt := 68) dX8_holds_61 (by decide) (fun hq => ?_) (fun hq => ?_)
  · exact t_X8_holds_68 Z hr hlk hin  h H locs ls hq hR hS (hl.sub [] rfl)
  refine lv_iconst (v := 1) hx hb dX8_holds_64 (by decide) ?_
  refine lv_goto (tgt := 69) hx hb dX8_holds_65 (by decide) ?_
  exact t_X8_holds_69 Z hr hlk hin 1 h H locs ls hq hR hS (hl.sub [] rfl)
def f_X8_holds (this : Nat) (a0 : Int32) (a1 : Int32) (a2 : Int32) (h : Hp) : Option (Int32 × Hp) :=
rcv h (some this) 9 (fun b3 => bd (f_X8_legOver b3 a0 a1 h) (fun x3 h =>
(if x3 = (-1) then
f_X8_holds_30 0 (some this) a0 a2 x3 h
else
gR h (some this) 9 20 (fun x19 =>
ldI h x19 ((8 * a0) + x3) (fun x29 =>
f_X8_holds_30 x29 (some this) a0 a2 x3 h)))))
set_option maxHeartbeats 4000000 in
set_option maxRecDepth 100000 in
theorem c_X8_holds (l : Launch) {G : GG} (this : Nat) (a0 : Int32) (a1 : Int32) (a2 : Int32) (h : Hp) (v : Int32) (h1 : Hp) (hq : f_X8_holds this a0 a1 a2 h = some (v, h1)) : Met l yX8_holds (Cond.code yX8_holds cX8_holds 6 (some .boolean) :: GT) rm_X8_holds (va_Pc [.ref this, .int a0, .int a1, .int a2] (Cn G h)) (Qx G (some (.int v)) h1) 0 0 (AA G) := by
  refine xMet (cc := cX8_holds) (by decide) (Nat.le_of_ble_eq_true rfl) (List.forall_mem_cons.mpr ⟨rfl, (List.forall_mem_cons.mpr ⟨rfl, (List.forall_mem_cons.mpr ⟨rfl, (List.forall_mem_cons.mpr ⟨rfl, (fun _ z => by cases z)⟩)⟩)⟩)⟩) ?_
  intro p e s m below meth c ls Z hr hlk hin hR hS hl
  have hx := Z.1
  have hb := Z.2.1
  have hl : LV ls 6 [(0, va_rf (some this)), (1, .int a0), (2, .int a1), (3, .int a2)] := hl
  unfold f_X8_holds at hq
  refine xaln hx hb hl (x := (some this)) 0 rfl dX8_holds_0 ?_
  refine xiln hx hb hl (x := a0) 1 rfl dX8_holds_1 ?_
  refine xiln hx hb hl (x := a1) 2 rfl dX8_holds_2 ?_
  refine xcV Z hR hS hl (rest := []) (As := [.int a0, .int a1]) hq cl_X8_144 (fun b x h1 hc => c_X8_legOver l b a0 a1 h x h1 hc) ⟨⟨rfl, rfl⟩, (by decide), (by decide)⟩ rfl rfl (by first | decide | (simp only [List.map_cons, List.map_nil, rf_cat, ct_int, ct_ref, List.sum_cons, List.sum_nil] <;> decide)) dX8_holds_3 (by decide) (fun x3 h H locs hq hR hS => ?_)
  refine xis hx hb hl (x := x3) (lv' := [(4, .int x3), (0, va_rf (some this)), (1, .int a0), (2, .int a1), (3, .int a2)]) (by decide) dX8_holds_6 rfl (fun ls hl => ?_)
  refine xil hx hb hl (x := x3) 0 rfl dX8_holds_8 ?_
  refine lv_iconst (v := (-1)) hx hb dX8_holds_10 (by decide) ?_
  refine xcNe hx hb hq (tgt := 18) dX8_holds_11 (by decide) (fun hq => ?_) (fun hq => ?_)
  · refine xaln hx hb hl (x := (some this)) 1 rfl dX8_holds_18 ?_
    refine xgR Z hR hq fl_X8_63 rfl dX8_holds_19 (fun x19 hq => ?_)
    refine lv_bipush (v := 8) hx hb dX8_holds_22 (by decide) ?_
    refine xiln hx hb hl (x := a0) 2 rfl dX8_holds_24 ?_
    refine lv_imul hx hb dX8_holds_25 ?_
    refine xil hx hb hl (x := x3) 0 rfl dX8_holds_26 ?_
    refine lv_iadd hx hb dX8_holds_28 ?_
    refine xaI Z hR hq dX8_holds_29 (fun x29 hq => ?_)
    exact t_X8_holds_30 Z hr hlk hin x29 (some this) a0 a2 x3 h _ _ ls hq hR hS (hl.sub [1, 2, 4, 0] rfl)
  refine lv_iconst (v := 0) hx hb dX8_holds_14 (by decide) ?_
  refine lv_goto (tgt := 30) hx hb dX8_holds_15 (by decide) ?_
  exact t_X8_holds_30 Z hr hlk hin 0 (some this) a0 a2 x3 h _ _ ls hq hR hS (hl.sub [1, 2, 4, 0] rfl)
end
