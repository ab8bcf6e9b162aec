theorem me_X8_isIn : Cond.instanceMethod yX8_isIn ∈ GT ∧ Cond.selects RX8 yX8_isIn yX8_isIn ∈ GT ∧ Cond.initialized RX8 ∈ GT ∧ Cond.code yX8_isIn cX8_isIn 5 (some .boolean) ∈ GT := ⟨by decide +kernel, by decide +kernel, by decide +kernel, by decide +kernel⟩
theorem cl_X8_188 : VL RX8 188 9 yX8_isIn cX8_isIn 5 (some .boolean) 3 := ⟨⟨TX8, 34, rfl⟩, ⟨by decide +kernel, me_X8_isIn⟩, by decide, by decide, by decide +kernel⟩
theorem me_X8_holds : Cond.instanceMethod yX8_holds ∈ GT ∧ Cond.selects RX8 yX8_holds yX8_holds ∈ GT ∧ Cond.initialized RX8 ∈ GT ∧ Cond.code yX8_holds cX8_holds 6 (some .boolean) ∈ GT := ⟨by decide +kernel, by decide +kernel, by decide +kernel, by decide +kernel⟩
theorem cl_X8_191 : VL RX8 191 9 yX8_holds cX8_holds 6 (some .boolean) 3 := ⟨⟨TX8, 34, rfl⟩, ⟨by decide +kernel, me_X8_holds⟩, by decide, by decide, by decide +kernel⟩
theorem me_X8_breaks : Cond.instanceMethod yX8_breaks ∈ GT ∧ Cond.selects RX8 yX8_breaks yX8_breaks ∈ GT ∧ Cond.initialized RX8 ∈ GT ∧ Cond.code yX8_breaks cX8_breaks 7 (some .boolean) ∈ GT := ⟨by decide +kernel, by decide +kernel, by decide +kernel, by decide +kernel⟩
theorem cl_X8_194 : VL RX8 194 9 yX8_breaks cX8_breaks 7 (some .boolean) 3 := ⟨⟨TX8, 34, rfl⟩, ⟨by decide +kernel, me_X8_breaks⟩, by decide, by decide, by decide +kernel⟩
theorem me_X8_steps : Cond.instanceMethod yX8_steps ∈ GT ∧ Cond.selects RX8 yX8_steps yX8_steps ∈ GT ∧ Cond.initialized RX8 ∈ GT ∧ Cond.code yX8_steps cX8_steps 7 none ∈ GT := ⟨by decide +kernel, by decide +kernel, by decide +kernel, by decide +kernel⟩
theorem cl_X8_197 : VL RX8 197 9 yX8_steps cX8_steps 7 none 2 := ⟨⟨TX8, 34, rfl⟩, ⟨by decide +kernel, me_X8_steps⟩, by decide, by decide, by decide +kernel⟩
theorem me_X8_holder : Cond.instanceMethod yX8_holder ∈ GT ∧ Cond.selects RX8 yX8_holder yX8_holder ∈ GT ∧ Cond.initialized RX8 ∈ GT ∧ Cond.code yX8_holder cX8_holder 7 (some .int) ∈ GT := ⟨by decide +kernel, by decide +kernel, by decide +kernel, by decide +kernel⟩
theorem cl_X8_201 : VL RX8 201 9 yX8_holder cX8_holder 7 (some .int) 3 := ⟨⟨TX8, 34, rfl⟩, ⟨by decide +kernel, me_X8_holder⟩, by decide, by decide, by decide +kernel⟩
theorem me_X8_runs : Cond.instanceMethod yX8_runs ∈ GT ∧ Cond.selects RX8 yX8_runs yX8_runs ∈ GT ∧ Cond.initialized RX8 ∈ GT ∧ Cond.code yX8_runs cX8_runs 3 none ∈ GT := ⟨by decide +kernel, by decide +kernel, by decide +kernel, by decide +kernel⟩
theorem cl_X8_205 : VL RX8 205 9 yX8_runs cX8_runs 3 none 0 := ⟨⟨TX8, 34, rfl⟩, ⟨by decide +kernel, me_X8_runs⟩, by decide, by decide, by decide +kernel⟩
section
variable {p : Program} {l : Launch} {e : Env} {s : State} {m : MethodId} {args : Array Value} {below : List Frame} {meth : Method} {c : Code} {G : GG}
abbrev rm_X8_breaks : Room := { frames := 5, cells := 0, slots := 0, locals := 115 }
def f_X8_breaks_51  (k8 : Option Nat × Int32 × Int32 × Int32 × Hp → Option (Int32 × Hp)) (l0 : Option Nat) (l1 : Int32) (l3 : Int32) (l4 : Int32) (h : Hp) : Option (Int32 × Hp) :=
k8 (l0, l1, l3, (l4 + 1), h)
set_option maxHeartbeats 4000000 in
set_option maxRecDepth 100000 in
theorem t_X8_breaks_51 (Z : ZZ p s m args c cX8_breaks RX8 7 G) (hr : meth.sig.returnType = (some .boolean)) (hlk : meth.locks = false) (hin : meth.name = "breaks") {v : Int32} {h1 : Hp} {k8 : Option Nat × Int32 × Int32 × Int32 × Hp → Option (Int32 × Hp)} (hk8 : ∀ u : Option Nat × Int32 × Int32 × Int32 × Hp, k8 u = some (v, h1) → ∀ (H : Heap) (locs : List Loc) (ls : Array Slot), Rep G u.2.2.2.2 H → va_S (AA G) s.heap H locs → LV ls 7 [(0, va_rf u.1), (1, .int u.2.1), (3, .int u.2.2.1), (4, .int u.2.2.2.1)] → W p l e rm_X8_breaks s m args below meth c H locs 0 0 (MQ below (Qx G (some (.int v)) h1) args s 0 0 (AA G)) (F0 m 8 ls [])) : ∀ (l0 : Option Nat) (l1 : Int32) (l3 : Int32) (l4 : Int32) (h : Hp) (H : Heap) (locs : List Loc) (ls : Array Slot), f_X8_breaks_51 k8 l0 l1 l3 l4 h = some (v, h1) → Rep G h H → va_S (AA G) s.heap H locs → LV ls 7 [(0, va_rf l0), (1, .int l1), (3, .int l3), (4, .int l4)] → W p l e rm_X8_breaks s m args below meth c H locs 0 0 (MQ below (Qx G (some (.int v)) h1) args s 0 0 (AA G)) (F0 m 51 ls []) := by
  intro l0 l1 l3 l4 h H locs ls hq hR hS hl
  have hx := Z.1
  have hb := Z.2.1
  unfold f_X8_breaks_51 at hq
  refine xinc hx hb hl (x := l4) (v := (l4 + 1)) (lv' := [(4, .int (l4 + 1)), (0, va_rf l0), (1, .int l1), (3, .int l3)]) 3 rfl (by rw [show Int32.ofInt (1) = (1 : Int32) from by decide]) (by decide) dX8_breaks_51 rfl (fun ls hl => ?_)
  refine lv_goto (tgt := 8) hx hb dX8_breaks_54 (by decide) ?_
  exact hk8 (l0, l1, l3, (l4 + 1), h) hq H locs ls hR hS (hl.sub [1, 2, 3, 0] rfl)
def fb_X8_breaks_8  (k8 : Option Nat × Int32 × Int32 × Int32 × Hp → Option (Int32 × Hp)) (l0 : Option Nat) (l1 : Int32) (l3 : Int32) (l4 : Int32) (h : Hp) : Option (Int32 × Hp) :=
rcv h l0 9 (fun b12 => bd (f_X8_legs b12 l1 h) (fun x12 h =>
(if x12 ≤ l4 then
rtZ 0 h
else
rcv h l0 9 (fun b22 => bd (f_X8_stationOf b22 l1 l4 h) (fun x22 h =>
rcv h l0 9 (fun b32 => bd (f_X8_isStanding b32 l1 x22 l3 h) (fun x32 h =>
(if x32 = 0 then
f_X8_breaks_51 k8 l0 l1 l3 l4 h
else
rcv h l0 9 (fun b43 => bd (f_X8_canStand b43 l1 x22 l3 h) (fun x43 h =>
(if x43 = 0 then
rtZ 1 h
else
f_X8_breaks_51 k8 l0 l1 l3 l4 h)))))))))))
set_option maxHeartbeats 4000000 in
set_option maxRecDepth 100000 in
theorem tb_X8_breaks_8 (Z : ZZ p s m args c cX8_breaks RX8 7 G) (hr : meth.sig.returnType = (some .boolean)) (hlk : meth.locks = false) (hin : meth.name = "breaks") {v : Int32} {h1 : Hp} {k8 : Option Nat × Int32 × Int32 × Int32 × Hp → Option (Int32 × Hp)} (hk8 : ∀ u : Option Nat × Int32 × Int32 × Int32 × Hp, k8 u = some (v, h1) → ∀ (H : Heap) (locs : List Loc) (ls : Array Slot), Rep G u.2.2.2.2 H → va_S (AA G) s.heap H locs → LV ls 7 [(0, va_rf u.1), (1, .int u.2.1), (3, .int u.2.2.1), (4, .int u.2.2.2.1)] → W p l e rm_X8_breaks s m args below meth c H locs 0 0 (MQ below (Qx G (some (.int v)) h1) args s 0 0 (AA G)) (F0 m 8 ls [])) : ∀ (l0 : Option Nat) (l1 : Int32) (l3 : Int32) (l4 : Int32) (h : Hp) (H : Heap) (locs : List Loc) (ls : Array Slot), fb_X8_breaks_8 k8 l0 l1 l3 l4 h = some (v, h1) → Rep G h H → va_S (AA G) s.heap H locs → LV ls 7 [(0, va_rf l0), (1, .int l1), (3, .int l3), (4, .int l4)] → W p l e rm_X8_breaks s m args below meth c H locs 0 0 (MQ below (Qx G (some (.int v)) h1) args s 0 0 (AA G)) (F0 m 8 ls []) := by
  intro l0 l1 l3 l4 h H locs ls hq hR hS hl
  have hx := Z.1
  have hb := Z.2.1
  unfold fb_X8_breaks_8 at hq
  refine xil hx hb hl (x := l4) 3 rfl dX8_breaks_8 ?_
  refine xaln hx hb hl (x := l0) 0 rfl dX8_breaks_10 ?_
  refine xiln hx hb hl (x := l1) 1 rfl dX8_breaks_11 ?_
  refine xcV Z hR hS hl (rest := [.int l4]) (As := [.int l1]) hq cl_X8_126 (fun b x h1 hc => c_X8_legs l b l1 h x h1 hc) ⟨⟨rfl, rfl⟩, (by decide), (by decide)⟩ rfl rfl (by first | decide | (simp only [List.map_cons, List.map_nil, rf_cat, ct_int, ct_ref, List.sum_cons, List.sum_nil] <;> decide)) dX8_breaks_12 (by decide) (fun x12 h H locs hq hR hS => ?_)
  refine xcGe hx hb hq (tgt := 57) dX8_breaks_15 (by decide) (fun hq => ?_) (fun hq => ?_)
  · refine lv_iconst (v := 0) hx hb dX8_breaks_57 (by decide) ?_
    exact xrZ hx hb hr hlk hR hS hq (by decide) (by decide) dX8_breaks_58
  refine xaln hx hb hl (x := l0) 0 rfl dX8_breaks_18 ?_
  refine xiln hx hb hl (x := l1) 1 rfl dX8_breaks_19 ?_
  refine xil hx hb hl (x := l4) 3 rfl dX8_breaks_20 ?_
  refine xcV Z hR hS hl (rest := []) (As := [.int l1, .int l4]) hq cl_X8_151 (fun b x h1 hc => c_X8_stationOf l b l1 l4 h x h1 hc) ⟨⟨rfl, rfl⟩, (by decide), (by decide)⟩ rfl rfl (by first | decide | (simp only [List.map_cons, List.map_nil, rf_cat, ct_int, ct_ref, List.sum_cons, List.sum_nil] <;> decide)) dX8_breaks_22 (by decide) (fun x22 h H locs hq hR hS => ?_)
  refine xis hx hb hl (x := x22) (lv' := [(5, .int x22), (0, va_rf l0), (1, .int l1), (3, .int l3), (4, .int l4)]) (by decide) dX8_breaks_25 rfl (fun ls hl => ?_)
  refine xaln hx hb hl (x := l0) 1 rfl dX8_breaks_27 ?_
  refine xiln hx hb hl (x := l1) 2 rfl dX8_breaks_28 ?_
  refine xil hx hb hl (x := x22) 0 rfl dX8_breaks_29 ?_
  refine xiln hx hb hl (x := l3) 3 rfl dX8_breaks_31 ?_
  refine xcV Z hR hS hl (rest := []) (As := [.int l1, .int x22, .int l3]) hq cl_X8_157 (fun b x h1 hc => c_X8_isStanding l b l1 x22 l3 h x h1 hc) ⟨⟨rfl, rfl⟩, (by decide), (by decide)⟩ rfl rfl (by first | decide | (simp only [List.map_cons, List.map_nil, rf_cat, ct_int, ct_ref, List.sum_cons, List.sum_nil] <;> decide)) dX8_breaks_32 (by decide) (fun x32 h H locs hq hR hS => ?_)
  refine xzEq hx hb hq (tgt := 51) dX8_breaks_35 (by decide) (fun hq => ?_) (fun hq => ?_)
  · exact t_X8_breaks_51 Z hr hlk hin hk8 l0 l1 l3 l4 h H locs ls hq hR hS (hl.sub [1, 2, 3, 4] rfl)
  refine xaln hx hb hl (x := l0) 1 rfl dX8_breaks_38 ?_
  refine xiln hx hb hl (x := l1) 2 rfl dX8_breaks_39 ?_
  refine xil hx hb hl (x := x22) 0 rfl dX8_breaks_40 ?_
  refine xiln hx hb hl (x := l3) 3 rfl dX8_breaks_42 ?_
  refine xcV Z hR hS hl (rest := []) (As := [.int l1, .int x22, .int l3]) hq cl_X8_160 (fun b x h1 hc => c_X8_canStand l b l1 x22 l3 h x h1 hc) ⟨⟨rfl, rfl⟩, (by decide), (by decide)⟩ rfl rfl (by first | decide | (simp only [List.map_cons, List.map_nil, rf_cat, ct_int, ct_ref, List.sum_cons, List.sum_nil] <;> decide)) dX8_breaks_43 (by decide) (fun x43 h H locs hq hR hS => ?_)
  refine xzNe hx hb hq (tgt := 51) dX8_breaks_46 (by decide) (fun hq => ?_) (fun hq => ?_)
  · exact t_X8_breaks_51 Z hr hlk hin hk8 l0 l1 l3 l4 h H locs ls hq hR hS (hl.sub [1, 2, 3, 4] rfl)
  refine lv_iconst (v := 1) hx hb dX8_breaks_49 (by decide) ?_
  exact xrZ hx hb hr hlk hR hS hq (by decide) (by decide) dX8_breaks_50
def f_X8_breaks_8  (l0 : Option Nat) (l1 : Int32) (l3 : Int32) (l4 : Int32) (h : Hp) : Option (Int32 × Hp) :=
  lp (fun (k8 : Option Nat × Int32 × Int32 × Int32 × Hp → Option (Int32 × Hp)) (u : Option Nat × Int32 × Int32 × Int32 × Hp) => fb_X8_breaks_8 k8 u.1 u.2.1 u.2.2.1 u.2.2.2.1 u.2.2.2.2) FU (l0, l1, l3, l4, h)
theorem t_X8_breaks_8 (Z : ZZ p s m args c cX8_breaks RX8 7 G) (hr : meth.sig.returnType = (some .boolean)) (hlk : meth.locks = false) (hin : meth.name = "breaks") {v : Int32} {h1 : Hp} : ∀ (l0 : Option Nat) (l1 : Int32) (l3 : Int32) (l4 : Int32) (h : Hp) (H : Heap) (locs : List Loc) (ls : Array Slot), f_X8_breaks_8 l0 l1 l3 l4 h = some (v, h1) → Rep G h H → va_S (AA G) s.heap H locs → LV ls 7 [(0, va_rf l0), (1, .int l1), (3, .int l3), (4, .int l4)] → W p l e rm_X8_breaks s m args below meth c H locs 0 0 (MQ below (Qx G (some (.int v)) h1) args s 0 0 (AA G)) (F0 m 8 ls []) := by
  intro l0 l1 l3 l4 h H locs ls hq hR hS hl
  exact lp_ind (P := fun u : Option Nat × Int32 × Int32 × Int32 × Hp => ∀ (H : Heap) (locs : List Loc) (ls : Array Slot), Rep G u.2.2.2.2 H → va_S (AA G) s.heap H locs → LV ls 7 [(0, va_rf u.1), (1, .int u.2.1), (3, .int u.2.2.1), (4, .int u.2.2.2.1)] → W p l e rm_X8_breaks s m args below meth c H locs 0 0 (MQ below (Qx G (some (.int v)) h1) args s 0 0 (AA G)) (F0 m 8 ls [])) (fun k hk u hq H locs ls hR hS hl => tb_X8_breaks_8 Z hr hlk hin hk u.1 u.2.1 u.2.2.1 u.2.2.2.1 u.2.2.2.2 H locs ls hq hR hS hl) FU (l0, l1, l3, l4, h) hq H locs ls hR hS hl
def f_X8_breaks_179  (k62 : Option Nat × Int32 × Int32 × Int32 × Int32 × Hp → Option (Int32 × Hp)) (k115 : Option Nat × Int32 × Int32 × Int32 × Int32 × Int32 × Int32 × Hp → Option (Int32 × Hp)) (l0 : Option Nat) (l1 : Int32) (l2 : Int32) (l3 : Int32) (l4 : Int32) (l5 : Int32) (l6 : Int32) (h : Hp) : Option (Int32 × Hp) :=
k115 (l0, l1, l2, l3, l4, l5, (l6 + 1), h)
set_option maxHeartbeats 4000000 in
set_option maxRecDepth 100000 in
theorem t_X8_breaks_179 (Z : ZZ p s m args c cX8_breaks RX8 7 G) (hr : meth.sig.returnType = (some .boolean)) (hlk : meth.locks = false) (hin : meth.name = "breaks") {v : Int32} {h1 : Hp} {k62 : Option Nat × Int32 × Int32 × Int32 × Int32 × Hp → Option (Int32 × Hp)} (hk62 : ∀ u : Option Nat × Int32 × Int32 × Int32 × Int32 × Hp, k62 u = some (v, h1) → ∀ (H : Heap) (locs : List Loc) (ls : Array Slot), Rep G u.2.2.2.2.2 H → va_S (AA G) s.heap H locs → LV ls 7 [(0, va_rf u.1), (1, .int u.2.1), (2, .int u.2.2.1), (3, .int u.2.2.2.1), (4, .int u.2.2.2.2.1)] → W p l e rm_X8_breaks s m args below meth c H locs 0 0 (MQ below (Qx G (some (.int v)) h1) args s 0 0 (AA G)) (F0 m 62 ls [])) {k115 : Option Nat × Int32 × Int32 × Int32 × Int32 × Int32 × Int32 × Hp → Option (Int32 × Hp)} (hk115 : ∀ u : Option Nat × Int32 × Int32 × Int32 × Int32 × Int32 × Int32 × Hp, k115 u = some (v, h1) → ∀ (H : Heap) (locs : List Loc) (ls : Array Slot), Rep G u.2.2.2.2.2.2.2 H → va_S (AA G) s.heap H locs → LV ls 7 [(0, va_rf u.1), (1, .int u.2.1), (2, .int u.2.2.1), (3, .int u.2.2.2.1), (4, .int u.2.2.2.2.1), (5, .int u.2.2.2.2.2.1), (6, .int u.2.2.2.2.2.2.1)] → W p l e rm_X8_breaks s m args below meth c H locs 0 0 (MQ below (Qx G (some (.int v)) h1) args s 0 0 (AA G)) (F0 m 115 ls [])) : ∀ (l0 : Option Nat) (l1 : Int32) (l2 : Int32) (l3 : Int32) (l4 : Int32) (l5 : Int32) (l6 : Int32) (h : Hp) (H : Heap) (locs : List Loc) (ls : Array Slot), f_X8_breaks_179 k62 k115 l0 l1 l2 l3 l4 l5 l6 h = some (v, h1) → Rep G h H → va_S (AA G) s.heap H locs → LV ls 7 [(0, va_rf l0), (1, .int l1), (2, .int l2), (3, .int l3), (4, .int l4), (5, .int l5), (6, .int l6)] → W p l e rm_X8_breaks s m args below meth c H locs 0 0 (MQ below (Qx G (some (.int v)) h1) args s 0 0 (AA G)) (F0 m 179 ls []) := by
  intro l0 l1 l2 l3 l4 l5 l6 h H locs ls hq hR hS hl
  have hx := Z.1
  have hb := Z.2.1
  unfold f_X8_breaks_179 at hq
  refine xinc hx hb hl (x := l6) (v := (l6 + 1)) (lv' := [(6, .int (l6 + 1)), (0, va_rf l0), (1, .int l1), (2, .int l2), (3, .int l3), (4, .int l4), (5, .int l5)]) 6 rfl (by rw [show Int32.ofInt (1) = (1 : Int32) from by decide]) (by decide) dX8_breaks_179 rfl (fun ls hl => ?_)
  refine lv_goto (tgt := 115) hx hb dX8_breaks_182 (by decide) ?_
  exact hk115 (l0, l1, l2, l3, l4, l5, (l6 + 1), h) hq H locs ls hR hS (hl.sub [1, 2, 3, 4, 5, 6, 0] rfl)
def f_X8_breaks_165  (k62 : Option Nat × Int32 × Int32 × Int32 × Int32 × Hp → Option (Int32 × Hp)) (k115 : Option Nat × Int32 × Int32 × Int32 × Int32 × Int32 × Int32 × Hp → Option (Int32 × Hp)) (l0 : Option Nat) (l1 : Int32) (l2 : Int32) (l3 : Int32) (l4 : Int32) (l5 : Int32) (l6 : Int32) (h : Hp) : Option (Int32 × Hp) :=
rcv h l0 9 (fun b171 => bd (f_X8_holds b171 l6 l5 l3 h) (fun x171 h =>
(if x171 = 0 then
f_X8_breaks_179 k62 k115 l0 l1 l2 l3 l4 l5 l6 h
else
rtZ 1 h)))
set_option maxHeartbeats 4000000 in
set_option maxRecDepth 100000 in
theorem t_X8_breaks_165 (Z : ZZ p s m args c cX8_breaks RX8 7 G) (hr : meth.sig.returnType = (some .boolean)) (hlk : meth.locks = false) (hin : meth.name = "breaks") {v : Int32} {h1 : Hp} {k62 : Option Nat × Int32 × Int32 × Int32 × Int32 × Hp → Option (Int32 × Hp)} (hk62 : ∀ u : Option Nat × Int32 × Int32 × Int32 × Int32 × Hp, k62 u = some (v, h1) → ∀ (H : Heap) (locs : List Loc) (ls : Array Slot), Rep G u.2.2.2.2.2 H → va_S (AA G) s.heap H locs → LV ls 7 [(0, va_rf u.1), (1, .int u.2.1), (2, .int u.2.2.1), (3, .int u.2.2.2.1), (4, .int u.2.2.2.2.1)] → W p l e rm_X8_breaks s m args below meth c H locs 0 0 (MQ below (Qx G (some (.int v)) h1) args s 0 0 (AA G)) (F0 m 62 ls [])) {k115 : Option Nat × Int32 × Int32 × Int32 × Int32 × Int32 × Int32 × Hp → Option (Int32 × Hp)} (hk115 : ∀ u : Option Nat × Int32 × Int32 × Int32 × Int32 × Int32 × Int32 × Hp, k115 u = some (v, h1) → ∀ (H : Heap) (locs : List Loc) (ls : Array Slot), Rep G u.2.2.2.2.2.2.2 H → va_S (AA G) s.heap H locs → LV ls 7 [(0, va_rf u.1), (1, .int u.2.1), (2, .int u.2.2.1), (3, .int u.2.2.2.1), (4, .int u.2.2.2.2.1), (5, .int u.2.2.2.2.2.1), (6, .int u.2.2.2.2.2.2.1)] → W p l e rm_X8_breaks s m args below meth c H locs 0 0 (MQ below (Qx G (some (.int v)) h1) args s 0 0 (AA G)) (F0 m 115 ls [])) : ∀ (l0 : Option Nat) (l1 : Int32) (l2 : Int32) (l3 : Int32) (l4 : Int32) (l5 : Int32) (l6 : Int32) (h : Hp) (H : Heap) (locs : List Loc) (ls : Array Slot), f_X8_breaks_165 k62 k115 l0 l1 l2 l3 l4 l5 l6 h = some (v, h1) → Rep G h H → va_S (AA G) s.heap H locs → LV ls 7 [(0, va_rf l0), (1, .int l1), (2, .int l2), (3, .int l3), (4, .int l4), (5, .int l5), (6, .int l6)] → W p l e rm_X8_breaks s m args below meth c H locs 0 0 (MQ below (Qx G (some (.int v)) h1) args s 0 0 (AA G)) (F0 m 165 ls []) := by
  intro l0 l1 l2 l3 l4 l5 l6 h H locs ls hq hR hS hl
  have hx := Z.1
  have hb := Z.2.1
  unfold f_X8_breaks_165 at hq
  refine xaln hx hb hl (x := l0) 0 rfl dX8_breaks_165 ?_
  refine xil hx hb hl (x := l6) 6 rfl dX8_breaks_166 ?_
  refine xil hx hb hl (x := l5) 5 rfl dX8_breaks_168 ?_
  refine xiln hx hb hl (x := l3) 3 rfl dX8_breaks_170 ?_
  refine xcV Z hR hS hl (rest := []) (As := [.int l6, .int l5, .int l3]) hq cl_X8_191 (fun b x h1 hc => c_X8_holds l b l6 l5 l3 h x h1 hc) ⟨⟨rfl, rfl⟩, (by decide), (by decide)⟩ rfl rfl (by first | decide | (simp only [List.map_cons, List.map_nil, rf_cat, ct_int, ct_ref, List.sum_cons, List.sum_nil] <;> decide)) dX8_breaks_171 (by decide) (fun x171 h H locs hq hR hS => ?_)
  refine xzEq hx hb hq (tgt := 179) dX8_breaks_174 (by decide) (fun hq => ?_) (fun hq => ?_)
  · exact t_X8_breaks_179 Z hr hlk hin hk62 hk115 l0 l1 l2 l3 l4 l5 l6 h H locs ls hq hR hS (hl.sub [0, 1, 2, 3, 4, 5, 6] rfl)
  refine lv_iconst (v := 1) hx hb dX8_breaks_177 (by decide) ?_
  exact xrZ hx hb hr hlk hR hS hq (by decide) (by decide) dX8_breaks_178
def f_X8_breaks_185  (k62 : Option Nat × Int32 × Int32 × Int32 × Int32 × Hp → Option (Int32 × Hp)) (l0 : Option Nat) (l1 : Int32) (l2 : Int32) (l3 : Int32) (l4 : Int32) (h : Hp) : Option (Int32 × Hp) :=
k62 (l0, l1, l2, l3, (l4 + 1), h)
set_option maxHeartbeats 4000000 in
set_option maxRecDepth 100000 in
theorem t_X8_breaks_185 (Z : ZZ p s m args c cX8_breaks RX8 7 G) (hr : meth.sig.returnType = (some .boolean)) (hlk : meth.locks = false) (hin : meth.name = "breaks") {v : Int32} {h1 : Hp} {k62 : Option Nat × Int32 × Int32 × Int32 × Int32 × Hp → Option (Int32 × Hp)} (hk62 : ∀ u : Option Nat × Int32 × Int32 × Int32 × Int32 × Hp, k62 u = some (v, h1) → ∀ (H : Heap) (locs : List Loc) (ls : Array Slot), Rep G u.2.2.2.2.2 H → va_S (AA G) s.heap H locs → LV ls 7 [(0, va_rf u.1), (1, .int u.2.1), (2, .int u.2.2.1), (3, .int u.2.2.2.1), (4, .int u.2.2.2.2.1)] → W p l e rm_X8_breaks s m args below meth c H locs 0 0 (MQ below (Qx G (some (.int v)) h1) args s 0 0 (AA G)) (F0 m 62 ls [])) : ∀ (l0 : Option Nat) (l1 : Int32) (l2 : Int32) (l3 : Int32) (l4 : Int32) (h : Hp) (H : Heap) (locs : List Loc) (ls : Array Slot), f_X8_breaks_185 k62 l0 l1 l2 l3 l4 h = some (v, h1) → Rep G h H → va_S (AA G) s.heap H locs → LV ls 7 [(0, va_rf l0), (1, .int l1), (2, .int l2), (3, .int l3), (4, .int l4)] → W p l e rm_X8_breaks s m args below meth c H locs 0 0 (MQ below (Qx G (some (.int v)) h1) args s 0 0 (AA G)) (F0 m 185 ls []) := by
  intro l0 l1 l2 l3 l4 h H locs ls hq hR hS hl
  have hx := Z.1
  have hb := Z.2.1
  unfold f_X8_breaks_185 at hq
  refine xinc hx hb hl (x := l4) (v := (l4 + 1)) (lv' := [(4, .int (l4 + 1)), (0, va_rf l0), (1, .int l1), (2, .int l2), (3, .int l3)]) 4 rfl (by rw [show Int32.ofInt (1) = (1 : Int32) from by decide]) (by decide) dX8_breaks_185 rfl (fun ls hl => ?_)
  refine lv_goto (tgt := 62) hx hb dX8_breaks_188 (by decide) ?_
  exact hk62 (l0, l1, l2, l3, (l4 + 1), h) hq H locs ls hR hS (hl.sub [1, 2, 3, 4, 0] rfl)
def fb_X8_breaks_115  (k62 : Option Nat × Int32 × Int32 × Int32 × Int32 × Hp → Option (Int32 × Hp)) (k115 : Option Nat × Int32 × Int32 × Int32 × Int32 × Int32 × Int32 × Hp → Option (Int32 × Hp)) (l0 : Option Nat) (l1 : Int32) (l2 : Int32) (l3 : Int32) (l4 : Int32) (l5 : Int32) (l6 : Int32) (h : Hp) : Option (Int32 × Hp) :=
gI h l0 9 9 (fun x118 =>
(if x118 ≤ l6 then
f_X8_breaks_185 k62 l0 l1 l2 l3 l4 h
else
(if l2 = 2 then
(if l6 = l1 then
f_X8_breaks_179 k62 k115 l0 l1 l2 l3 l4 l5 l6 h
else
gR h l0 9 19 (fun x136 =>
ldZ h x136 l6 (fun x141 =>
(if x141 = 0 then
f_X8_breaks_179 k62 k115 l0 l1 l2 l3 l4 l5 l6 h
else
gR h l0 9 1 (fun x146 =>
ldZ h x146 l5 (fun x151 =>
(if x151 = 0 then
f_X8_breaks_165 k62 k115 l0 l1 l2 l3 l4 l5 l6 h
else
rcv h l0 9 (fun b159 => bd (f_X8_isSameWay b159 l6 l1 h) (fun x159 h =>
(if x159 = 0 then
f_X8_breaks_179 k62 k115 l0 l1 l2 l3 l4 l5 l6 h
else
f_X8_breaks_165 k62 k115 l0 l1 l2 l3 l4 l5 l6 h))))))))))
else
f_X8_breaks_185 k62 l0 l1 l2 l3 l4 h)))
set_option maxHeartbeats 4000000 in
set_option maxRecDepth 100000 in
theorem tb_X8_breaks_115 (Z : ZZ p s m args c cX8_breaks RX8 7 G) (hr : meth.sig.returnType = (some .boolean)) (hlk : meth.locks = false) (hin : meth.name = "breaks") {v : Int32} {h1 : Hp} {k62 : Option Nat × Int32 × Int32 × Int32 × Int32 × Hp → Option (Int32 × Hp)} (hk62 : ∀ u : Option Nat × Int32 × Int32 × Int32 × Int32 × Hp, k62 u = some (v, h1) → ∀ (H : Heap) (locs : List Loc) (ls : Array Slot), Rep G u.2.2.2.2.2 H → va_S (AA G) s.heap H locs → LV ls 7 [(0, va_rf u.1), (1, .int u.2.1), (2, .int u.2.2.1), (3, .int u.2.2.2.1), (4, .int u.2.2.2.2.1)] → W p l e rm_X8_breaks s m args below meth c H locs 0 0 (MQ below (Qx G (some (.int v)) h1) args s 0 0 (AA G)) (F0 m 62 ls [])) {k115 : Option Nat × Int32 × Int32 × Int32 × Int32 × Int32 × Int32 × Hp → Option (Int32 × Hp)} (hk115 : ∀ u : Option Nat × Int32 × Int32 × Int32 × Int32 × Int32 × Int32 × Hp, k115 u = some (v, h1) → ∀ (H : Heap) (locs : List Loc) (ls : Array Slot), Rep G u.2.2.2.2.2.2.2 H → va_S (AA G) s.heap H locs → LV ls 7 [(0, va_rf u.1), (1, .int u.2.1), (2, .int u.2.2.1), (3, .int u.2.2.2.1), (4, .int u.2.2.2.2.1), (5, .int u.2.2.2.2.2.1), (6, .int u.2.2.2.2.2.2.1)] → W p l e rm_X8_breaks s m args below meth c H locs 0 0 (MQ below (Qx G (some (.int v)) h1) args s 0 0 (AA G)) (F0 m 115 ls [])) : ∀ (l0 : Option Nat) (l1 : Int32) (l2 : Int32) (l3 : Int32) (l4 : Int32) (l5 : Int32) (l6 : Int32) (h : Hp) (H : Heap) (locs : List Loc) (ls : Array Slot), fb_X8_breaks_115 k62 k115 l0 l1 l2 l3 l4 l5 l6 h = some (v, h1) → Rep G h H → va_S (AA G) s.heap H locs → LV ls 7 [(0, va_rf l0), (1, .int l1), (2, .int l2), (3, .int l3), (4, .int l4), (5, .int l5), (6, .int l6)] → W p l e rm_X8_breaks s m args below meth c H locs 0 0 (MQ below (Qx G (some (.int v)) h1) args s 0 0 (AA G)) (F0 m 115 ls []) := by
  intro l0 l1 l2 l3 l4 l5 l6 h H locs ls hq hR hS hl
  have hx := Z.1
  have hb := Z.2.1
  unfold fb_X8_breaks_115 at hq
  refine xil hx hb hl (x := l6) 6 rfl dX8_breaks_115 ?_
  refine xaln hx hb hl (x := l0) 0 rfl dX8_breaks_117 ?_
  refine xgI Z hR hq fl_X8_108 rfl dX8_breaks_118 (fun x118 hq => ?_)
  refine xcGe hx hb hq (tgt := 185) dX8_breaks_121 (by decide) (fun hq => ?_) (fun hq => ?_)
  · exact t_X8_breaks_185 Z hr hlk hin hk62 l0 l1 l2 l3 l4 h H locs ls hq hR hS (hl.sub [0, 1, 2, 3, 4] rfl)
  refine xiln hx hb hl (x := l2) 2 rfl dX8_breaks_124 ?_
  refine lv_iconst (v := 2) hx hb dX8_breaks_125 (by decide) ?_
  refine xcNe hx hb hq (tgt := 185) dX8_breaks_126 (by decide) (fun hq => ?_) (fun hq => ?_)
  · exact t_X8_breaks_185 Z hr hlk hin hk62 l0 l1 l2 l3 l4 h H locs ls hq hR hS (hl.sub [0, 1, 2, 3, 4] rfl)
  refine xil hx hb hl (x := l6) 6 rfl dX8_breaks_129 ?_
  refine xiln hx hb hl (x := l1) 1 rfl dX8_breaks_131 ?_
  refine xcEq hx hb hq (tgt := 179) dX8_breaks_132 (by decide) (fun hq => ?_) (fun hq => ?_)
  · exact t_X8_breaks_179 Z hr hlk hin hk62 hk115 l0 l1 l2 l3 l4 l5 l6 h H locs ls hq hR hS (hl.sub [0, 1, 2, 3, 4, 5, 6] rfl)
  refine xaln hx hb hl (x := l0) 0 rfl dX8_breaks_135 ?_
  refine xgR Z hR hq fl_X8_60 rfl dX8_breaks_136 (fun x136 hq => ?_)
  refine xil hx hb hl (x := l6) 6 rfl dX8_breaks_139 ?_
  refine xaZ Z hR hq dX8_breaks_141 (fun x141 hq => ?_)
  refine xzEq hx hb hq (tgt := 179) dX8_breaks_142 (by decide) (fun hq => ?_) (fun hq => ?_)
  · exact t_X8_breaks_179 Z hr hlk hin hk62 hk115 l0 l1 l2 l3 l4 l5 l6 h H locs ls hq hR hS (hl.sub [0, 1, 2, 3, 4, 5, 6] rfl)
  refine xaln hx hb hl (x := l0) 0 rfl dX8_breaks_145 ?_
  refine xgR Z hR hq fl_X8_9 rfl dX8_breaks_146 (fun x146 hq => ?_)
  refine xil hx hb hl (x := l5) 5 rfl dX8_breaks_149 ?_
  refine xaZ Z hR hq dX8_breaks_151 (fun x151 hq => ?_)
  refine xzEq hx hb hq (tgt := 165) dX8_breaks_152 (by decide) (fun hq => ?_) (fun hq => ?_)
  · exact t_X8_breaks_165 Z hr hlk hin hk62 hk115 l0 l1 l2 l3 l4 l5 l6 h H locs ls hq hR hS (hl.sub [0, 1, 2, 3, 4, 5, 6] rfl)
  refine xaln hx hb hl (x := l0) 0 rfl dX8_breaks_155 ?_
  refine xil hx hb hl (x := l6) 6 rfl dX8_breaks_156 ?_
  refine xiln hx hb hl (x := l1) 1 rfl dX8_breaks_158 ?_
  refine xcV Z hR hS hl (rest := []) (As := [.int l6, .int l1]) hq cl_X8_141 (fun b x h1 hc => c_X8_isSameWay l b l6 l1 h x h1 hc) ⟨⟨rfl, rfl⟩, (by decide), (by decide)⟩ rfl rfl (by first | decide | (simp only [List.map_cons, List.map_nil, rf_cat, ct_int, ct_ref, List.sum_cons, List.sum_nil] <;> decide)) dX8_breaks_159 (by decide) (fun x159 h H locs hq hR hS => ?_)
  refine xzEq hx hb hq (tgt := 179) dX8_breaks_162 (by decide) (fun hq => ?_) (fun hq => ?_)
  · exact t_X8_breaks_179 Z hr hlk hin hk62 hk115 l0 l1 l2 l3 l4 l5 l6 h H locs ls hq hR hS (hl.sub [0, 1, 2, 3, 4, 5, 6] rfl)
  exact t_X8_breaks_165 Z hr hlk hin hk62 hk115 l0 l1 l2 l3 l4 l5 l6 h H locs ls hq hR hS (hl.sub [0, 1, 2, 3, 4, 5, 6] rfl)
def f_X8_breaks_115  (k62 : Option Nat × Int32 × Int32 × Int32 × Int32 × Hp → Option (Int32 × Hp)) (l0 : Option Nat) (l1 : Int32) (l2 : Int32) (l3 : Int32) (l4 : Int32) (l5 : Int32) (l6 : Int32) (h : Hp) : Option (Int32 × Hp) :=
  lp (fun (k115 : Option Nat × Int32 × Int32 × Int32 × Int32 × Int32 × Int32 × Hp → Option (Int32 × Hp)) (u : Option Nat × Int32 × Int32 × Int32 × Int32 × Int32 × Int32 × Hp) => fb_X8_breaks_115 k62 k115 u.1 u.2.1 u.2.2.1 u.2.2.2.1 u.2.2.2.2.1 u.2.2.2.2.2.1 u.2.2.2.2.2.2.1 u.2.2.2.2.2.2.2) FU (l0, l1, l2, l3, l4, l5, l6, h)
theorem t_X8_breaks_115 (Z : ZZ p s m args c cX8_breaks RX8 7 G) (hr : meth.sig.returnType = (some .boolean)) (hlk : meth.locks = false) (hin : meth.name = "breaks") {v : Int32} {h1 : Hp} {k62 : Option Nat × Int32 × Int32 × Int32 × Int32 × Hp → Option (Int32 × Hp)} (hk62 : ∀ u : Option Nat × Int32 × Int32 × Int32 × Int32 × Hp, k62 u = some (v, h1) → ∀ (H : Heap) (locs : List Loc) (ls : Array Slot), Rep G u.2.2.2.2.2 H → va_S (AA G) s.heap H locs → LV ls 7 [(0, va_rf u.1), (1, .int u.2.1), (2, .int u.2.2.1), (3, .int u.2.2.2.1), (4, .int u.2.2.2.2.1)] → W p l e rm_X8_breaks s m args below meth c H locs 0 0 (MQ below (Qx G (some (.int v)) h1) args s 0 0 (AA G)) (F0 m 62 ls [])) : ∀ (l0 : Option Nat) (l1 : Int32) (l2 : Int32) (l3 : Int32) (l4 : Int32) (l5 : Int32) (l6 : Int32) (h : Hp) (H : Heap) (locs : List Loc) (ls : Array Slot), f_X8_breaks_115 k62 l0 l1 l2 l3 l4 l5 l6 h = some (v, h1) → Rep G h H → va_S (AA G) s.heap H locs → LV ls 7 [(0, va_rf l0), (1, .int l1), (2, .int l2), (3, .int l3), (4, .int l4), (5, .int l5), (6, .int l6)] → W p l e rm_X8_breaks s m args below meth c H locs 0 0 (MQ below (Qx G (some (.int v)) h1) args s 0 0 (AA G)) (F0 m 115 ls []) := by
  intro l0 l1 l2 l3 l4 l5 l6 h H locs ls hq hR hS hl
  exact lp_ind (P := fun u : Option Nat × Int32 × Int32 × Int32 × Int32 × Int32 × Int32 × Hp => ∀ (H : Heap) (locs : List Loc) (ls : Array Slot), Rep G u.2.2.2.2.2.2.2 H → va_S (AA G) s.heap H locs → LV ls 7 [(0, va_rf u.1), (1, .int u.2.1), (2, .int u.2.2.1), (3, .int u.2.2.2.1), (4, .int u.2.2.2.2.1), (5, .int u.2.2.2.2.2.1), (6, .int u.2.2.2.2.2.2.1)] → W p l e rm_X8_breaks s m args below meth c H locs 0 0 (MQ below (Qx G (some (.int v)) h1) args s 0 0 (AA G)) (F0 m 115 ls [])) (fun k hk u hq H locs ls hR hS hl => tb_X8_breaks_115 Z hr hlk hin hk62 hk u.1 u.2.1 u.2.2.1 u.2.2.2.1 u.2.2.2.2.1 u.2.2.2.2.2.1 u.2.2.2.2.2.2.1 u.2.2.2.2.2.2.2 H locs ls hq hR hS hl) FU (l0, l1, l2, l3, l4, l5, l6, h) hq H locs ls hR hS hl
def f_X8_breaks_112  (k62 : Option Nat × Int32 × Int32 × Int32 × Int32 × Hp → Option (Int32 × Hp)) (l0 : Option Nat) (l1 : Int32) (l2 : Int32) (l3 : Int32) (l4 : Int32) (l5 : Int32) (h : Hp) : Option (Int32 × Hp) :=
f_X8_breaks_115 k62 l0 l1 l2 l3 l4 l5 0 h
set_option maxHeartbeats 4000000 in
set_option maxRecDepth 100000 in
theorem t_X8_breaks_112 (Z : ZZ p s m args c cX8_breaks RX8 7 G) (hr : meth.sig.returnType = (some .boolean)) (hlk : meth.locks = false) (hin : meth.name = "breaks") {v : Int32} {h1 : Hp} {k62 : Option Nat × Int32 × Int32 × Int32 × Int32 × Hp → Option (Int32 × Hp)} (hk62 : ∀ u : Option Nat × Int32 × Int32 × Int32 × Int32 × Hp, k62 u = some (v, h1) → ∀ (H : Heap) (locs : List Loc) (ls : Array Slot), Rep G u.2.2.2.2.2 H → va_S (AA G) s.heap H locs → LV ls 7 [(0, va_rf u.1), (1, .int u.2.1), (2, .int u.2.2.1), (3, .int u.2.2.2.1), (4, .int u.2.2.2.2.1)] → W p l e rm_X8_breaks s m args below meth c H locs 0 0 (MQ below (Qx G (some (.int v)) h1) args s 0 0 (AA G)) (F0 m 62 ls [])) : ∀ (l0 : Option Nat) (l1 : Int32) (l2 : Int32) (l3 : Int32) (l4 : Int32) (l5 : Int32) (h : Hp) (H : Heap) (locs : List Loc) (ls : Array Slot), f_X8_breaks_112 k62 l0 l1 l2 l3 l4 l5 h = some (v, h1) → Rep G h H → va_S (AA G) s.heap H locs → LV ls 7 [(0, va_rf l0), (1, .int l1), (2, .int l2), (3, .int l3), (4, .int l4), (5, .int l5)] → W p l e rm_X8_breaks s m args below meth c H locs 0 0 (MQ below (Qx G (some (.int v)) h1) args s 0 0 (AA G)) (F0 m 112 ls []) := by
  intro l0 l1 l2 l3 l4 l5 h H locs ls hq hR hS hl
  have hx := Z.1
  have hb := Z.2.1
  unfold f_X8_breaks_112 at hq
  refine lv_iconst (v := 0) hx hb dX8_breaks_112 (by decide) ?_
  refine xis hx hb hl (x := 0) (lv' := [(6, .int 0), (0, va_rf l0), (1, .int l1), (2, .int l2), (3, .int l3), (4, .int l4), (5, .int l5)]) (by decide) dX8_breaks_113 rfl (fun ls hl => ?_)
  exact t_X8_breaks_115 Z hr hlk hin hk62 l0 l1 l2 l3 l4 l5 0 h H locs ls hq hR hS (hl.sub [1, 2, 3, 4, 5, 6, 0] rfl)
def fb_X8_breaks_62  (k62 : Option Nat × Int32 × Int32 × Int32 × Int32 × Hp → Option (Int32 × Hp)) (l0 : Option Nat) (l1 : Int32) (l2 : Int32) (l3 : Int32) (l4 : Int32) (h : Hp) : Option (Int32 × Hp) :=
rcv h l0 9 (fun b66 => bd (f_X8_legs b66 l1 h) (fun x66 h =>
(if x66 ≤ l4 then
rtZ 0 h
else
rcv h l0 9 (fun b77 => bd (f_X8_isIn b77 l1 l4 l3 h) (fun x77 h =>
(if x77 = 0 then
f_X8_breaks_185 k62 l0 l1 l2 l3 l4 h
else
rcv h l0 9 (fun b90 => bd (f_X8_sectionOf b90 l1 l4 h) (fun x90 h =>
(if l2 = 1 then
rcv h l0 9 (fun b104 => bd (f_X8_isClosed b104 x90 l3 h) (fun x104 h =>
(if x104 = 0 then
f_X8_breaks_112 k62 l0 l1 l2 l3 l4 x90 h
else
rtZ 1 h)))
else
f_X8_breaks_112 k62 l0 l1 l2 l3 l4 x90 h)))))))))
set_option maxHeartbeats 4000000 in
set_option maxRecDepth 100000 in
theorem tb_X8_breaks_62 (Z : ZZ p s m args c cX8_breaks RX8 7 G) (hr : meth.sig.returnType = (some .boolean)) (hlk : meth.locks = false) (hin : meth.name = "breaks") {v : Int32} {h1 : Hp} {k62 : Option Nat × Int32 × Int32 × Int32 × Int32 × Hp → Option (Int32 × Hp)} (hk62 : ∀ u : Option Nat × Int32 × Int32 × Int32 × Int32 × Hp, k62 u = some (v, h1) → ∀ (H : Heap) (locs : List Loc) (ls : Array Slot), Rep G u.2.2.2.2.2 H → va_S (AA G) s.heap H locs → LV ls 7 [(0, va_rf u.1), (1, .int u.2.1), (2, .int u.2.2.1), (3, .int u.2.2.2.1), (4, .int u.2.2.2.2.1)] → W p l e rm_X8_breaks s m args below meth c H locs 0 0 (MQ below (Qx G (some (.int v)) h1) args s 0 0 (AA G)) (F0 m 62 ls [])) : ∀ (l0 : Option Nat) (l1 : Int32) (l2 : Int32) (l3 : Int32) (l4 : Int32) (h : Hp) (H : Heap) (locs : List Loc) (ls : Array Slot), fb_X8_breaks_62 k62 l0 l1 l2 l3 l4 h = some (v, h1) → Rep G h H → va_S (AA G) s.heap H locs → LV ls 7 [(0, va_rf l0), (1, .int l1), (2, .int l2), (3, .int l3), (4, .int l4)] → W p l e rm_X8_breaks s m args below meth c H locs 0 0 (MQ below (Qx G (some (.int v)) h1) args s 0 0 (AA G)) (F0 m 62 ls []) := by
  intro l0 l1 l2 l3 l4 h H locs ls hq hR hS hl
  have hx := Z.1
  have hb := Z.2.1
  unfold fb_X8_breaks_62 at hq
  refine xil hx hb hl (x := l4) 4 rfl dX8_breaks_62 ?_
  refine xaln hx hb hl (x := l0) 0 rfl dX8_breaks_64 ?_
  refine xiln hx hb hl (x := l1) 1 rfl dX8_breaks_65 ?_
  refine xcV Z hR hS hl (rest := [.int l4]) (As := [.int l1]) hq cl_X8_126 (fun b x h1 hc => c_X8_legs l b l1 h x h1 hc) ⟨⟨rfl, rfl⟩, (by decide), (by decide)⟩ rfl rfl (by first | decide | (simp only [List.map_cons, List.map_nil, rf_cat, ct_int, ct_ref, List.sum_cons, List.sum_nil] <;> decide)) dX8_breaks_66 (by decide) (fun x66 h H locs hq hR hS => ?_)
  refine xcGe hx hb hq (tgt := 191) dX8_breaks_69 (by decide) (fun hq => ?_) (fun hq => ?_)
  · refine lv_iconst (v := 0) hx hb dX8_breaks_191 (by decide) ?_
    exact xrZ hx hb hr hlk hR hS hq (by decide) (by decide) dX8_breaks_192
  refine xaln hx hb hl (x := l0) 0 rfl dX8_breaks_72 ?_
  refine xiln hx hb hl (x := l1) 1 rfl dX8_breaks_73 ?_
  refine xil hx hb hl (x := l4) 4 rfl dX8_breaks_74 ?_
  refine xiln hx hb hl (x := l3) 3 rfl dX8_breaks_76 ?_
  refine xcV Z hR hS hl (rest := []) (As := [.int l1, .int l4, .int l3]) hq cl_X8_188 (fun b x h1 hc => c_X8_isIn l b l1 l4 l3 h x h1 hc) ⟨⟨rfl, rfl⟩, (by decide), (by decide)⟩ rfl rfl (by first | decide | (simp only [List.map_cons, List.map_nil, rf_cat, ct_int, ct_ref, List.sum_cons, List.sum_nil] <;> decide)) dX8_breaks_77 (by decide) (fun x77 h H locs hq hR hS => ?_)
  refine xzNe hx hb hq (tgt := 86) dX8_breaks_80 (by decide) (fun hq => ?_) (fun hq => ?_)
  · refine xaln hx hb hl (x := l0) 0 rfl dX8_breaks_86 ?_
    refine xiln hx hb hl (x := l1) 1 rfl dX8_breaks_87 ?_
    refine xil hx hb hl (x := l4) 4 rfl dX8_breaks_88 ?_
    refine xcV Z hR hS hl (rest := []) (As := [.int l1, .int l4]) hq cl_X8_122 (fun b x h1 hc => c_X8_sectionOf l b l1 l4 h x h1 hc) ⟨⟨rfl, rfl⟩, (by decide), (by decide)⟩ rfl rfl (by first | decide | (simp only [List.map_cons, List.map_nil, rf_cat, ct_int, ct_ref, List.sum_cons, List.sum_nil] <;> decide)) dX8_breaks_90 (by decide) (fun x90 h H locs hq hR hS => ?_)
    refine xis hx hb hl (x := x90) (lv' := [(5, .int x90), (0, va_rf l0), (1, .int l1), (2, .int l2), (3, .int l3), (4, .int l4)]) (by decide) dX8_breaks_93 rfl (fun ls hl => ?_)
    refine xiln hx hb hl (x := l2) 3 rfl dX8_breaks_95 ?_
    refine lv_iconst (v := 1) hx hb dX8_breaks_96 (by decide) ?_
    refine xcNe hx hb hq (tgt := 112) dX8_breaks_97 (by decide) (fun hq => ?_) (fun hq => ?_)
    · exact t_X8_breaks_112 Z hr hlk hin hk62 l0 l1 l2 l3 l4 x90 h H locs ls hq hR hS (hl.sub [1, 2, 3, 4, 5, 0] rfl)
    refine xaln hx hb hl (x := l0) 1 rfl dX8_breaks_100 ?_
    refine xil hx hb hl (x := x90) 0 rfl dX8_breaks_101 ?_
    refine xiln hx hb hl (x := l3) 4 rfl dX8_breaks_103 ?_
    refine xcV Z hR hS hl (rest := []) (As := [.int x90, .int l3]) hq cl_X8_137 (fun b x h1 hc => c_X8_isClosed l b x90 l3 h x h1 hc) ⟨⟨rfl, rfl⟩, (by decide), (by decide)⟩ rfl rfl (by first | decide | (simp only [List.map_cons, List.map_nil, rf_cat, ct_int, ct_ref, List.sum_cons, List.sum_nil] <;> decide)) dX8_breaks_104 (by decide) (fun x104 h H locs hq hR hS => ?_)
    refine xzEq hx hb hq (tgt := 112) dX8_breaks_107 (by decide) (fun hq => ?_) (fun hq => ?_)
    · exact t_X8_breaks_112 Z hr hlk hin hk62 l0 l1 l2 l3 l4 x90 h H locs ls hq hR hS (hl.sub [1, 2, 3, 4, 5, 0] rfl)
    refine lv_iconst (v := 1) hx hb dX8_breaks_110 (by decide) ?_
    exact xrZ hx hb hr hlk hR hS hq (by decide) (by decide) dX8_breaks_111
  refine lv_goto (tgt := 185) hx hb dX8_breaks_83 (by decide) ?_
  exact t_X8_breaks_185 Z hr hlk hin hk62 l0 l1 l2 l3 l4 h H locs ls hq hR hS (hl.sub [0, 1, 2, 3, 4] rfl)
def f_X8_breaks_62  (l0 : Option Nat) (l1 : Int32) (l2 : Int32) (l3 : Int32) (l4 : Int32) (h : Hp) : Option (Int32 × Hp) :=
  lp (fun (k62 : Option Nat × Int32 × Int32 × Int32 × Int32 × Hp → Option (Int32 × Hp)) (u : Option Nat × Int32 × Int32 × Int32 × Int32 × Hp) => fb_X8_breaks_62 k62 u.1 u.2.1 u.2.2.1 u.2.2.2.1 u.2.2.2.2.1 u.2.2.2.2.2) FU (l0, l1, l2, l3, l4, h)
theorem t_X8_breaks_62 (Z : ZZ p s m args c cX8_breaks RX8 7 G) (hr : meth.sig.returnType = (some .boolean)) (hlk : meth.locks = false) (hin : meth.name = "breaks") {v : Int32} {h1 : Hp} : ∀ (l0 : Option Nat) (l1 : Int32) (l2 : Int32) (l3 : Int32) (l4 : Int32) (h : Hp) (H : Heap) (locs : List Loc) (ls : Array Slot), f_X8_breaks_62 l0 l1 l2 l3 l4 h = some (v, h1) → Rep G h H → va_S (AA G) s.heap H locs → LV ls 7 [(0, va_rf l0), (1, .int l1), (2, .int l2), (3, .int l3), (4, .int l4)] → W p l e rm_X8_breaks s m args below meth c H locs 0 0 (MQ below (Qx G (some (.int v)) h1) args s 0 0 (AA G)) (F0 m 62 ls []) := by
  intro l0 l1 l2 l3 l4 h H locs ls hq hR hS hl
  exact lp_ind (P := fun u : Option Nat × Int32 × Int32 × Int32 × Int32 × Hp => ∀ (H : Heap) (locs : List Loc) (ls : Array Slot), Rep G u.2.2.2.2.2 H → va_S (AA G) s.heap H locs → LV ls 7 [(0, va_rf u.1), (1, .int u.2.1), (2, .int u.2.2.1), (3, .int u.2.2.2.1), (4, .int u.2.2.2.2.1)] → W p l e rm_X8_breaks s m args below meth c H locs 0 0 (MQ below (Qx G (some (.int v)) h1) args s 0 0 (AA G)) (F0 m 62 ls [])) (fun k hk u hq H locs ls hR hS hl => tb_X8_breaks_62 Z hr hlk hin hk u.1 u.2.1 u.2.2.1 u.2.2.2.1 u.2.2.2.2.1 u.2.2.2.2.2 H locs ls hq hR hS hl) FU (l0, l1, l2, l3, l4, h) hq H locs ls hR hS hl
def f_X8_breaks (this : Nat) (a0 : Int32) (a1 : Int32) (a2 : Int32) (h : Hp) : Option (Int32 × Hp) :=
(if a1 = 3 then
f_X8_breaks_8 (some this) a0 a2 1 h
else
f_X8_breaks_62 (some this) a0 a1 a2 0 h)
set_option maxHeartbeats 4000000 in
set_option maxRecDepth 100000 in
theorem c_X8_breaks (l : Launch) {G : GG} (this : Nat) (a0 : Int32) (a1 : Int32) (a2 : Int32) (h : Hp) (v : Int32) (h1 : Hp) (hq : f_X8_breaks this a0 a1 a2 h = some (v, h1)) : Met l yX8_breaks (Cond.code yX8_breaks cX8_breaks 7 (some .boolean) :: GT) rm_X8_breaks (va_Pc [.ref this, .int a0, .int a1, .int a2] (Cn G h)) (Qx G (some (.int v)) h1) 0 0 (AA G) := by
  refine xMet (cc := cX8_breaks) (by decide) (Nat.le_of_ble_eq_true rfl) (List.forall_mem_cons.mpr ⟨rfl, (List.forall_mem_cons.mpr ⟨rfl, (List.forall_mem_cons.mpr ⟨rfl, (List.forall_mem_cons.mpr ⟨rfl, (fun _ z => by cases z)⟩)⟩)⟩)⟩) ?_
  intro p e s m below meth c ls Z hr hlk hin hR hS hl
  have hx := Z.1
  have hb := Z.2.1
  have hl : LV ls 7 [(0, va_rf (some this)), (1, .int a0), (2, .int a1), (3, .int a2)] := hl
  unfold f_X8_breaks at hq
  refine xiln hx hb hl (x := a1) 2 rfl dX8_breaks_0 ?_
  refine lv_iconst (v := 3) hx hb dX8_breaks_1 (by decide) ?_
  refine xcNe hx hb hq (tgt := 59) dX8_breaks_2 (by decide) (fun hq => ?_) (fun hq => ?_)
  · refine lv_iconst (v := 0) hx hb dX8_breaks_59 (by decide) ?_
    refine xis hx hb hl (x := 0) (lv' := [(4, .int 0), (0, va_rf (some this)), (1, .int a0), (2, .int a1), (3, .int a2)]) (by decide) dX8_breaks_60 rfl (fun ls hl => ?_)
    exact t_X8_breaks_62 Z hr hlk hin (some this) a0 a1 a2 0 h _ _ ls hq hR hS (hl.sub [1, 2, 3, 4, 0] rfl)
  refine lv_iconst (v := 1) hx hb dX8_breaks_5 (by decide) ?_
  refine xis hx hb hl (x := 1) (lv' := [(4, .int 1), (0, va_rf (some this)), (1, .int a0), (2, .int a1), (3, .int a2)]) (by decide) dX8_breaks_6 rfl (fun ls hl => ?_)
  exact t_X8_breaks_8 Z hr hlk hin (some this) a0 a2 1 h _ _ ls hq hR hS (hl.sub [1, 2, 4, 0] rfl)
abbrev rm_X8_why : Room := { frames := 6, cells := 0, slots := 0, locals := 141 }
def f_X8_why_78  (s0 : Int32) (h : Hp) : Option (Int32 × Hp) :=
rtI s0 h
set_option maxHeartbeats 4000000 in
set_option maxRecDepth 100000 in
theorem t_X8_why_78 (Z : ZZ p s m args c cX8_why RX8 5 G) (hr : meth.sig.returnType = (some .int)) (hlk : meth.locks = false) (hin : meth.name = "why") {v : Int32} {h1 : Hp} : ∀ (s0 : Int32) (h : Hp) (H : Heap) (locs : List Loc) (ls : Array Slot), f_X8_why_78 s0 h = some (v, h1) → Rep G h H → va_S (AA G) s.heap H locs → LV ls 5 [] → W p l e rm_X8_why s m args below meth c H locs 0 0 (MQ below (Qx G (some (.int v)) h1) args s 0 0 (AA G)) (F0 m 78 ls [.int s0]) := by
  intro s0 h H locs ls hq hR hS hl
  have hx := Z.1
  have hb := Z.2.1
  unfold f_X8_why_78 at hq
  exact xrI hx hb hr hlk hR hS hq (by decide) (by decide) dX8_why_78
def fb_X8_why_40  (k13 : Option Nat × Int32 × Int32 × Hp → Option (Int32 × Hp)) (k23 : Option Nat × Int32 × Int32 × Int32 × Hp → Option (Int32 × Hp)) (k40 : Option Nat × Int32 × Int32 × Int32 × Int32 × Hp → Option (Int32 × Hp)) (l0 : Option Nat) (l1 : Int32) (l2 : Int32) (l3 : Int32) (l4 : Int32) (h : Hp) : Option (Int32 × Hp) :=
(if 240 ≤ l4 then
k23 (l0, l1, l2, (l3 + 1), h)
else
rcv h l0 9 (fun b53 => bd (f_X8_breaks b53 l2 l3 l4 h) (fun x53 h =>
(if x53 = 0 then
k40 (l0, l1, l2, l3, (l4 + 1), h)
else
(if l1 = 0 then
f_X8_why_78 l2 h
else
(if l1 = 1 then
f_X8_why_78 l3 h
else
f_X8_why_78 l4 h))))))
set_option maxHeartbeats 4000000 in
set_option maxRecDepth 100000 in
theorem tb_X8_why_40 (Z : ZZ p s m args c cX8_why RX8 5 G) (hr : meth.sig.returnType = (some .int)) (hlk : meth.locks = false) (hin : meth.name = "why") {v : Int32} {h1 : Hp} {k13 : Option Nat × Int32 × Int32 × Hp → Option (Int32 × Hp)} (hk13 : ∀ u : Option Nat × Int32 × Int32 × Hp, k13 u = some (v, h1) → ∀ (H : Heap) (locs : List Loc) (ls : Array Slot), Rep G u.2.2.2 H → va_S (AA G) s.heap H locs → LV ls 5 [(0, va_rf u.1), (1, .int u.2.1), (2, .int u.2.2.1)] → W p l e rm_X8_why s m args below meth c H locs 0 0 (MQ below (Qx G (some (.int v)) h1) args s 0 0 (AA G)) (F0 m 13 ls [])) {k23 : Option Nat × Int32 × Int32 × Int32 × Hp → Option (Int32 × Hp)} (hk23 : ∀ u : Option Nat × Int32 × Int32 × Int32 × Hp, k23 u = some (v, h1) → ∀ (H : Heap) (locs : List Loc) (ls : Array Slot), Rep G u.2.2.2.2 H → va_S (AA G) s.heap H locs → LV ls 5 [(0, va_rf u.1), (1, .int u.2.1), (2, .int u.2.2.1), (3, .int u.2.2.2.1)] → W p l e rm_X8_why s m args below meth c H locs 0 0 (MQ below (Qx G (some (.int v)) h1) args s 0 0 (AA G)) (F0 m 23 ls [])) {k40 : Option Nat × Int32 × Int32 × Int32 × Int32 × Hp → Option (Int32 × Hp)} (hk40 : ∀ u : Option Nat × Int32 × Int32 × Int32 × Int32 × Hp, k40 u = some (v, h1) → ∀ (H : Heap) (locs : List Loc) (ls : Array Slot), Rep G u.2.2.2.2.2 H → va_S (AA G) s.heap H locs → LV ls 5 [(0, va_rf u.1), (1, .int u.2.1), (2, .int u.2.2.1), (3, .int u.2.2.2.1), (4, .int u.2.2.2.2.1)] → W p l e rm_X8_why s m args below meth c H locs 0 0 (MQ below (Qx G (some (.int v)) h1) args s 0 0 (AA G)) (F0 m 40 ls [])) : ∀ (l0 : Option Nat) (l1 : Int32) (l2 : Int32) (l3 : Int32) (l4 : Int32) (h : Hp) (H : Heap) (locs : List Loc) (ls : Array Slot), fb_X8_why_40 k13 k23 k40 l0 l1 l2 l3 l4 h = some (v, h1) → Rep G h H → va_S (AA G) s.heap H locs → LV ls 5 [(0, va_rf l0), (1, .int l1), (2, .int l2), (3, .int l3), (4, .int l4)] → W p l e rm_X8_why s m args below meth c H locs 0 0 (MQ below (Qx G (some (.int v)) h1) args s 0 0 (AA G)) (F0 m 40 ls []) := by
  intro l0 l1 l2 l3 l4 h H locs ls hq hR hS hl
  have hx := Z.1
  have hb := Z.2.1
  unfold fb_X8_why_40 at hq
  refine xil hx hb hl (x := l4) 4 rfl dX8_why_40 ?_
  refine lv_sipush (v := 240) hx hb dX8_why_42 (by decide) ?_
  refine xcGe hx hb hq (tgt := 85) dX8_why_45 (by decide) (fun hq => ?_) (fun hq => ?_)
  · refine xinc hx hb hl (x := l3) (v := (l3 + 1)) (lv' := [(3, .int (l3 + 1)), (0, va_rf l0), (1, .int l1), (2, .int l2), (4, .int l4)]) 3 rfl (by rw [show Int32.ofInt (1) = (1 : Int32) from by decide]) (by decide) dX8_why_85 rfl (fun ls hl => ?_)
    refine lv_goto (tgt := 23) hx hb dX8_why_88 (by decide) ?_
    exact hk23 (l0, l1, l2, (l3 + 1), h) hq H locs ls hR hS (hl.sub [1, 2, 3, 0] rfl)
  refine xaln hx hb hl (x := l0) 0 rfl dX8_why_48 ?_
  refine xiln hx hb hl (x := l2) 2 rfl dX8_why_49 ?_
  refine xiln hx hb hl (x := l3) 3 rfl dX8_why_50 ?_
  refine xil hx hb hl (x := l4) 4 rfl dX8_why_51 ?_
  refine xcV Z hR hS hl (rest := []) (As := [.int l2, .int l3, .int l4]) hq cl_X8_194 (fun b x h1 hc => c_X8_breaks l b l2 l3 l4 h x h1 hc) ⟨⟨rfl, rfl⟩, (by decide), (by decide)⟩ rfl rfl (by first | decide | (simp only [List.map_cons, List.map_nil, rf_cat, ct_int, ct_ref, List.sum_cons, List.sum_nil] <;> decide)) dX8_why_53 (by decide) (fun x53 h H locs hq hR hS => ?_)
  refine xzEq hx hb hq (tgt := 79) dX8_why_56 (by decide) (fun hq => ?_) (fun hq => ?_)
  · refine xinc hx hb hl (x := l4) (v := (l4 + 1)) (lv' := [(4, .int (l4 + 1)), (0, va_rf l0), (1, .int l1), (2, .int l2), (3, .int l3)]) 4 rfl (by rw [show Int32.ofInt (1) = (1 : Int32) from by decide]) (by decide) dX8_why_79 rfl (fun ls hl => ?_)
    refine lv_goto (tgt := 40) hx hb dX8_why_82 (by decide) ?_
    exact hk40 (l0, l1, l2, l3, (l4 + 1), h) hq H locs ls hR hS (hl.sub [1, 2, 3, 4, 0] rfl)
  refine xiln hx hb hl (x := l1) 1 rfl dX8_why_59 ?_
  refine xzNe hx hb hq (tgt := 67) dX8_why_60 (by decide) (fun hq => ?_) (fun hq => ?_)
  · refine xiln hx hb hl (x := l1) 1 rfl dX8_why_67 ?_
    refine lv_iconst (v := 1) hx hb dX8_why_68 (by decide) ?_
    refine xcNe hx hb hq (tgt := 76) dX8_why_69 (by decide) (fun hq => ?_) (fun hq => ?_)
    · refine xil hx hb hl (x := l4) 4 rfl dX8_why_76 ?_
      exact t_X8_why_78 Z hr hlk hin l4 h H locs ls hq hR hS (hl.sub [] rfl)
    refine xiln hx hb hl (x := l3) 3 rfl dX8_why_72 ?_
    refine lv_goto (tgt := 78) hx hb dX8_why_73 (by decide) ?_
    exact t_X8_why_78 Z hr hlk hin l3 h H locs ls hq hR hS (hl.sub [] rfl)
  refine xiln hx hb hl (x := l2) 2 rfl dX8_why_63 ?_
  refine lv_goto (tgt := 78) hx hb dX8_why_64 (by decide) ?_
  exact t_X8_why_78 Z hr hlk hin l2 h H locs ls hq hR hS (hl.sub [] rfl)
def f_X8_why_40  (k13 : Option Nat × Int32 × Int32 × Hp → Option (Int32 × Hp)) (k23 : Option Nat × Int32 × Int32 × Int32 × Hp → Option (Int32 × Hp)) (l0 : Option Nat) (l1 : Int32) (l2 : Int32) (l3 : Int32) (l4 : Int32) (h : Hp) : Option (Int32 × Hp) :=
  lp (fun (k40 : Option Nat × Int32 × Int32 × Int32 × Int32 × Hp → Option (Int32 × Hp)) (u : Option Nat × Int32 × Int32 × Int32 × Int32 × Hp) => fb_X8_why_40 k13 k23 k40 u.1 u.2.1 u.2.2.1 u.2.2.2.1 u.2.2.2.2.1 u.2.2.2.2.2) FU (l0, l1, l2, l3, l4, h)
theorem t_X8_why_40 (Z : ZZ p s m args c cX8_why RX8 5 G) (hr : meth.sig.returnType = (some .int)) (hlk : meth.locks = false) (hin : meth.name = "why") {v : Int32} {h1 : Hp} {k13 : Option Nat × Int32 × Int32 × Hp → Option (Int32 × Hp)} (hk13 : ∀ u : Option Nat × Int32 × Int32 × Hp, k13 u = some (v, h1) → ∀ (H : Heap) (locs : List Loc) (ls : Array Slot), Rep G u.2.2.2 H → va_S (AA G) s.heap H locs → LV ls 5 [(0, va_rf u.1), (1, .int u.2.1), (2, .int u.2.2.1)] → W p l e rm_X8_why s m args below meth c H locs 0 0 (MQ below (Qx G (some (.int v)) h1) args s 0 0 (AA G)) (F0 m 13 ls [])) {k23 : Option Nat × Int32 × Int32 × Int32 × Hp → Option (Int32 × Hp)} (hk23 : ∀ u : Option Nat × Int32 × Int32 × Int32 × Hp, k23 u = some (v, h1) → ∀ (H : Heap) (locs : List Loc) (ls : Array Slot), Rep G u.2.2.2.2 H → va_S (AA G) s.heap H locs → LV ls 5 [(0, va_rf u.1), (1, .int u.2.1), (2, .int u.2.2.1), (3, .int u.2.2.2.1)] → W p l e rm_X8_why s m args below meth c H locs 0 0 (MQ below (Qx G (some (.int v)) h1) args s 0 0 (AA G)) (F0 m 23 ls [])) : ∀ (l0 : Option Nat) (l1 : Int32) (l2 : Int32) (l3 : Int32) (l4 : Int32) (h : Hp) (H : Heap) (locs : List Loc) (ls : Array Slot), f_X8_why_40 k13 k23 l0 l1 l2 l3 l4 h = some (v, h1) → Rep G h H → va_S (AA G) s.heap H locs → LV ls 5 [(0, va_rf l0), (1, .int l1), (2, .int l2), (3, .int l3), (4, .int l4)] → W p l e rm_X8_why s m args below meth c H locs 0 0 (MQ below (Qx G (some (.int v)) h1) args s 0 0 (AA G)) (F0 m 40 ls []) := by
  intro l0 l1 l2 l3 l4 h H locs ls hq hR hS hl
  exact lp_ind (P := fun u : Option Nat × Int32 × Int32 × Int32 × Int32 × Hp => ∀ (H : Heap) (locs : List Loc) (ls : Array Slot), Rep G u.2.2.2.2.2 H → va_S (AA G) s.heap H locs → LV ls 5 [(0, va_rf u.1), (1, .int u.2.1), (2, .int u.2.2.1), (3, .int u.2.2.2.1), (4, .int u.2.2.2.2.1)] → W p l e rm_X8_why s m args below meth c H locs 0 0 (MQ below (Qx G (some (.int v)) h1) args s 0 0 (AA G)) (F0 m 40 ls [])) (fun k hk u hq H locs ls hR hS hl => tb_X8_why_40 Z hr hlk hin hk13 hk23 hk u.1 u.2.1 u.2.2.1 u.2.2.2.1 u.2.2.2.2.1 u.2.2.2.2.2 H locs ls hq hR hS hl) FU (l0, l1, l2, l3, l4, h) hq H locs ls hR hS hl
def f_X8_why_91  (k13 : Option Nat × Int32 × Int32 × Hp → Option (Int32 × Hp)) (l0 : Option Nat) (l1 : Int32) (l2 : Int32) (h : Hp) : Option (Int32 × Hp) :=
k13 (l0, l1, (l2 + 1), h)
set_option maxHeartbeats 4000000 in
set_option maxRecDepth 100000 in
theorem t_X8_why_91 (Z : ZZ p s m args c cX8_why RX8 5 G) (hr : meth.sig.returnType = (some .int)) (hlk : meth.locks = false) (hin : meth.name = "why") {v : Int32} {h1 : Hp} {k13 : Option Nat × Int32 × Int32 × Hp → Option (Int32 × Hp)} (hk13 : ∀ u : Option Nat × Int32 × Int32 × Hp, k13 u = some (v, h1) → ∀ (H : Heap) (locs : List Loc) (ls : Array Slot), Rep G u.2.2.2 H → va_S (AA G) s.heap H locs → LV ls 5 [(0, va_rf u.1), (1, .int u.2.1), (2, .int u.2.2.1)] → W p l e rm_X8_why s m args below meth c H locs 0 0 (MQ below (Qx G (some (.int v)) h1) args s 0 0 (AA G)) (F0 m 13 ls [])) : ∀ (l0 : Option Nat) (l1 : Int32) (l2 : Int32) (h : Hp) (H : Heap) (locs : List Loc) (ls : Array Slot), f_X8_why_91 k13 l0 l1 l2 h = some (v, h1) → Rep G h H → va_S (AA G) s.heap H locs → LV ls 5 [(0, va_rf l0), (1, .int l1), (2, .int l2)] → W p l e rm_X8_why s m args below meth c H locs 0 0 (MQ below (Qx G (some (.int v)) h1) args s 0 0 (AA G)) (F0 m 91 ls []) := by
  intro l0 l1 l2 h H locs ls hq hR hS hl
  have hx := Z.1
  have hb := Z.2.1
  unfold f_X8_why_91 at hq
  refine xinc hx hb hl (x := l2) (v := (l2 + 1)) (lv' := [(2, .int (l2 + 1)), (0, va_rf l0), (1, .int l1)]) 2 rfl (by rw [show Int32.ofInt (1) = (1 : Int32) from by decide]) (by decide) dX8_why_91 rfl (fun ls hl => ?_)
  refine lv_goto (tgt := 13) hx hb dX8_why_94 (by decide) ?_
  exact hk13 (l0, l1, (l2 + 1), h) hq H locs ls hR hS (hl.sub [1, 2, 0] rfl)
def fb_X8_why_23  (k13 : Option Nat × Int32 × Int32 × Hp → Option (Int32 × Hp)) (k23 : Option Nat × Int32 × Int32 × Int32 × Hp → Option (Int32 × Hp)) (l0 : Option Nat) (l1 : Int32) (l2 : Int32) (l3 : Int32) (h : Hp) : Option (Int32 × Hp) :=
(if 3 < l3 then
f_X8_why_91 k13 l0 l1 l2 h
else
gR h l0 9 19 (fun x29 =>
ldZ h x29 l2 (fun x33 =>
(if x33 = 0 then
f_X8_why_91 k13 l0 l1 l2 h
else
f_X8_why_40 k13 k23 l0 l1 l2 l3 0 h))))
set_option maxHeartbeats 4000000 in
set_option maxRecDepth 100000 in
theorem tb_X8_why_23 (Z : ZZ p s m args c cX8_why RX8 5 G) (hr : meth.sig.returnType = (some .int)) (hlk : meth.locks = false) (hin : meth.name = "why") {v : Int32} {h1 : Hp} {k13 : Option Nat × Int32 × Int32 × Hp → Option (Int32 × Hp)} (hk13 : ∀ u : Option Nat × Int32 × Int32 × Hp, k13 u = some (v, h1) → ∀ (H : Heap) (locs : List Loc) (ls : Array Slot), Rep G u.2.2.2 H → va_S (AA G) s.heap H locs → LV ls 5 [(0, va_rf u.1), (1, .int u.2.1), (2, .int u.2.2.1)] → W p l e rm_X8_why s m args below meth c H locs 0 0 (MQ below (Qx G (some (.int v)) h1) args s 0 0 (AA G)) (F0 m 13 ls [])) {k23 : Option Nat × Int32 × Int32 × Int32 × Hp → Option (Int32 × Hp)} (hk23 : ∀ u : Option Nat × Int32 × Int32 × Int32 × Hp, k23 u = some (v, h1) → ∀ (H : Heap) (locs : List Loc) (ls : Array Slot), Rep G u.2.2.2.2 H → va_S (AA G) s.heap H locs → LV ls 5 [(0, va_rf u.1), (1, .int u.2.1), (2, .int u.2.2.1), (3, .int u.2.2.2.1)] → W p l e rm_X8_why s m args below meth c H locs 0 0 (MQ below (Qx G (some (.int v)) h1) args s 0 0 (AA G)) (F0 m 23 ls [])) : ∀ (l0 : Option Nat) (l1 : Int32) (l2 : Int32) (l3 : Int32) (h : Hp) (H : Heap) (locs : List Loc) (ls : Array Slot), fb_X8_why_23 k13 k23 l0 l1 l2 l3 h = some (v, h1) → Rep G h H → va_S (AA G) s.heap H locs → LV ls 5 [(0, va_rf l0), (1, .int l1), (2, .int l2), (3, .int l3)] → W p l e rm_X8_why s m args below meth c H locs 0 0 (MQ below (Qx G (some (.int v)) h1) args s 0 0 (AA G)) (F0 m 23 ls []) := by
  intro l0 l1 l2 l3 h H locs ls hq hR hS hl
  have hx := Z.1
  have hb := Z.2.1
  unfold fb_X8_why_23 at hq
  refine xiln hx hb hl (x := l3) 3 rfl dX8_why_23 ?_
  refine lv_iconst (v := 3) hx hb dX8_why_24 (by decide) ?_
  refine xcGt hx hb hq (tgt := 91) dX8_why_25 (by decide) (fun hq => ?_) (fun hq => ?_)
  · exact t_X8_why_91 Z hr hlk hin hk13 l0 l1 l2 h H locs ls hq hR hS (hl.sub [0, 1, 2] rfl)
  refine xaln hx hb hl (x := l0) 0 rfl dX8_why_28 ?_
  refine xgR Z hR hq fl_X8_60 rfl dX8_why_29 (fun x29 hq => ?_)
  refine xiln hx hb hl (x := l2) 2 rfl dX8_why_32 ?_
  refine xaZ Z hR hq dX8_why_33 (fun x33 hq => ?_)
  refine xzEq hx hb hq (tgt := 91) dX8_why_34 (by decide) (fun hq => ?_) (fun hq => ?_)
  · exact t_X8_why_91 Z hr hlk hin hk13 l0 l1 l2 h H locs ls hq hR hS (hl.sub [0, 1, 2] rfl)
  refine lv_iconst (v := 0) hx hb dX8_why_37 (by decide) ?_
  refine xis hx hb hl (x := 0) (lv' := [(4, .int 0), (0, va_rf l0), (1, .int l1), (2, .int l2), (3, .int l3)]) (by decide) dX8_why_38 rfl (fun ls hl => ?_)
  exact t_X8_why_40 Z hr hlk hin hk13 hk23 l0 l1 l2 l3 0 h H locs ls hq hR hS (hl.sub [1, 2, 3, 4, 0] rfl)
def f_X8_why_23  (k13 : Option Nat × Int32 × Int32 × Hp → Option (Int32 × Hp)) (l0 : Option Nat) (l1 : Int32) (l2 : Int32) (l3 : Int32) (h : Hp) : Option (Int32 × Hp) :=
  lp (fun (k23 : Option Nat × Int32 × Int32 × Int32 × Hp → Option (Int32 × Hp)) (u : Option Nat × Int32 × Int32 × Int32 × Hp) => fb_X8_why_23 k13 k23 u.1 u.2.1 u.2.2.1 u.2.2.2.1 u.2.2.2.2) FU (l0, l1, l2, l3, h)
theorem t_X8_why_23 (Z : ZZ p s m args c cX8_why RX8 5 G) (hr : meth.sig.returnType = (some .int)) (hlk : meth.locks = false) (hin : meth.name = "why") {v : Int32} {h1 : Hp} {k13 : Option Nat × Int32 × Int32 × Hp → Option (Int32 × Hp)} (hk13 : ∀ u : Option Nat × Int32 × Int32 × Hp, k13 u = some (v, h1) → ∀ (H : Heap) (locs : List Loc) (ls : Array Slot), Rep G u.2.2.2 H → va_S (AA G) s.heap H locs → LV ls 5 [(0, va_rf u.1), (1, .int u.2.1), (2, .int u.2.2.1)] → W p l e rm_X8_why s m args below meth c H locs 0 0 (MQ below (Qx G (some (.int v)) h1) args s 0 0 (AA G)) (F0 m 13 ls [])) : ∀ (l0 : Option Nat) (l1 : Int32) (l2 : Int32) (l3 : Int32) (h : Hp) (H : Heap) (locs : List Loc) (ls : Array Slot), f_X8_why_23 k13 l0 l1 l2 l3 h = some (v, h1) → Rep G h H → va_S (AA G) s.heap H locs → LV ls 5 [(0, va_rf l0), (1, .int l1), (2, .int l2), (3, .int l3)] → W p l e rm_X8_why s m args below meth c H locs 0 0 (MQ below (Qx G (some (.int v)) h1) args s 0 0 (AA G)) (F0 m 23 ls []) := by
  intro l0 l1 l2 l3 h H locs ls hq hR hS hl
  exact lp_ind (P := fun u : Option Nat × Int32 × Int32 × Int32 × Hp => ∀ (H : Heap) (locs : List Loc) (ls : Array Slot), Rep G u.2.2.2.2 H → va_S (AA G) s.heap H locs → LV ls 5 [(0, va_rf u.1), (1, .int u.2.1), (2, .int u.2.2.1), (3, .int u.2.2.2.1)] → W p l e rm_X8_why s m args below meth c H locs 0 0 (MQ below (Qx G (some (.int v)) h1) args s 0 0 (AA G)) (F0 m 23 ls [])) (fun k hk u hq H locs ls hR hS hl => tb_X8_why_23 Z hr hlk hin hk13 hk u.1 u.2.1 u.2.2.1 u.2.2.2.1 u.2.2.2.2 H locs ls hq hR hS hl) FU (l0, l1, l2, l3, h) hq H locs ls hR hS hl
def fb_X8_why_13  (k13 : Option Nat × Int32 × Int32 × Hp → Option (Int32 × Hp)) (l0 : Option Nat) (l1 : Int32) (l2 : Int32) (h : Hp) : Option (Int32 × Hp) :=
gI h l0 9 9 (fun x15 =>
(if x15 ≤ l2 then
rtI (-1) h
else
f_X8_why_23 k13 l0 l1 l2 1 h))
set_option maxHeartbeats 4000000 in
set_option maxRecDepth 100000 in
theorem tb_X8_why_13 (Z : ZZ p s m args c cX8_why RX8 5 G) (hr : meth.sig.returnType = (some .int)) (hlk : meth.locks = false) (hin : meth.name = "why") {v : Int32} {h1 : Hp} {k13 : Option Nat × Int32 × Int32 × Hp → Option (Int32 × Hp)} (hk13 : ∀ u : Option Nat × Int32 × Int32 × Hp, k13 u = some (v, h1) → ∀ (H : Heap) (locs : List Loc) (ls : Array Slot), Rep G u.2.2.2 H → va_S (AA G) s.heap H locs → LV ls 5 [(0, va_rf u.1), (1, .int u.2.1), (2, .int u.2.2.1)] → W p l e rm_X8_why s m args below meth c H locs 0 0 (MQ below (Qx G (some (.int v)) h1) args s 0 0 (AA G)) (F0 m 13 ls [])) : ∀ (l0 : Option Nat) (l1 : Int32) (l2 : Int32) (h : Hp) (H : Heap) (locs : List Loc) (ls : Array Slot), fb_X8_why_13 k13 l0 l1 l2 h = some (v, h1) → Rep G h H → va_S (AA G) s.heap H locs → LV ls 5 [(0, va_rf l0), (1, .int l1), (2, .int l2)] → W p l e rm_X8_why s m args below meth c H locs 0 0 (MQ below (Qx G (some (.int v)) h1) args s 0 0 (AA G)) (F0 m 13 ls []) := by
  intro l0 l1 l2 h H locs ls hq hR hS hl
  have hx := Z.1
  have hb := Z.2.1
  unfold fb_X8_why_13 at hq
  refine xiln hx hb hl (x := l2) 2 rfl dX8_why_13 ?_
  refine xaln hx hb hl (x := l0) 0 rfl dX8_why_14 ?_
  refine xgI Z hR hq fl_X8_108 rfl dX8_why_15 (fun x15 hq => ?_)
  refine xcGe hx hb hq (tgt := 97) dX8_why_18 (by decide) (fun hq => ?_) (fun hq => ?_)
  · refine lv_iconst (v := (-1)) hx hb dX8_why_97 (by decide) ?_
    exact xrI hx hb hr hlk hR hS hq (by decide) (by decide) dX8_why_98
  refine lv_iconst (v := 1) hx hb dX8_why_21 (by decide) ?_
  refine xisn hx hb hl (x := 1) (lv' := [(3, .int 1), (0, va_rf l0), (1, .int l1), (2, .int l2)]) (by decide) dX8_why_22 rfl (fun ls hl => ?_)
  exact t_X8_why_23 Z hr hlk hin hk13 l0 l1 l2 1 h H locs ls hq hR hS (hl.sub [1, 2, 3, 0] rfl)
def f_X8_why_13  (l0 : Option Nat) (l1 : Int32) (l2 : Int32) (h : Hp) : Option (Int32 × Hp) :=
  lp (fun (k13 : Option Nat × Int32 × Int32 × Hp → Option (Int32 × Hp)) (u : Option Nat × Int32 × Int32 × Hp) => fb_X8_why_13 k13 u.1 u.2.1 u.2.2.1 u.2.2.2) FU (l0, l1, l2, h)
theorem t_X8_why_13 (Z : ZZ p s m args c cX8_why RX8 5 G) (hr : meth.sig.returnType = (some .int)) (hlk : meth.locks = false) (hin : meth.name = "why") {v : Int32} {h1 : Hp} : ∀ (l0 : Option Nat) (l1 : Int32) (l2 : Int32) (h : Hp) (H : Heap) (locs : List Loc) (ls : Array Slot), f_X8_why_13 l0 l1 l2 h = some (v, h1) → Rep G h H → va_S (AA G) s.heap H locs → LV ls 5 [(0, va_rf l0), (1, .int l1), (2, .int l2)] → W p l e rm_X8_why s m args below meth c H locs 0 0 (MQ below (Qx G (some (.int v)) h1) args s 0 0 (AA G)) (F0 m 13 ls []) := by
  intro l0 l1 l2 h H locs ls hq hR hS hl
  exact lp_ind (P := fun u : Option Nat × Int32 × Int32 × Hp => ∀ (H : Heap) (locs : List Loc) (ls : Array Slot), Rep G u.2.2.2 H → va_S (AA G) s.heap H locs → LV ls 5 [(0, va_rf u.1), (1, .int u.2.1), (2, .int u.2.2.1)] → W p l e rm_X8_why s m args below meth c H locs 0 0 (MQ below (Qx G (some (.int v)) h1) args s 0 0 (AA G)) (F0 m 13 ls [])) (fun k hk u hq H locs ls hR hS hl => tb_X8_why_13 Z hr hlk hin hk u.1 u.2.1 u.2.2.1 u.2.2.2 H locs ls hq hR hS hl) FU (l0, l1, l2, h) hq H locs ls hR hS hl
def f_X8_why (this : Nat) (a0 : Int32) (h : Hp) : Option (Int32 × Hp) :=
bd (f_X8_in a0 0 2 h) (fun x3 h =>
(if x3 = 0 then
rtI (-1) h
else
f_X8_why_13 (some this) a0 0 h))
set_option maxHeartbeats 4000000 in
set_option maxRecDepth 100000 in
theorem c_X8_why (l : Launch) {G : GG} (this : Nat) (a0 : Int32) (h : Hp) (v : Int32) (h1 : Hp) (hq : f_X8_why this a0 h = some (v, h1)) : Met l yX8_why (Cond.code yX8_why cX8_why 5 (some .int) :: GT) rm_X8_why (va_Pc [.ref this, .int a0] (Cn G h)) (Qx G (some (.int v)) h1) 0 0 (AA G) := by
  refine xMet (cc := cX8_why) (by decide) (Nat.le_of_ble_eq_true rfl) (List.forall_mem_cons.mpr ⟨rfl, (List.forall_mem_cons.mpr ⟨rfl, (fun _ z => by cases z)⟩)⟩) ?_
  intro p e s m below meth c ls Z hr hlk hin hR hS hl
  have hx := Z.1
  have hb := Z.2.1
  have hl : LV ls 5 [(0, va_rf (some this)), (1, .int a0)] := hl
  unfold f_X8_why at hq
  refine xiln hx hb hl (x := a0) 1 rfl dX8_why_0 ?_
  refine lv_iconst (v := 0) hx hb dX8_why_1 (by decide) ?_
  refine lv_iconst (v := 2) hx hb dX8_why_2 (by decide) ?_
  refine xcS Z hR hS hl (rest := []) (As := [.int a0, .int 0, .int 2]) hq cl_X8_111 (fun x h1 hc => c_X8_in l a0 0 2 h x h1 hc) ⟨⟨rfl, rfl⟩, (by decide), (by decide)⟩ rfl rfl (by first | decide | (simp only [List.map_cons, List.map_nil, rf_cat, ct_int, ct_ref, List.sum_cons, List.sum_nil] <;> decide)) dX8_why_3 (by decide) (fun x3 h H locs hq hR hS => ?_)
  refine xzNe hx hb hq (tgt := 11) dX8_why_6 (by decide) (fun hq => ?_) (fun hq => ?_)
  · refine lv_iconst (v := 0) hx hb dX8_why_11 (by decide) ?_
    refine xisn hx hb hl (x := 0) (lv' := [(2, .int 0), (0, va_rf (some this)), (1, .int a0)]) (by decide) dX8_why_12 rfl (fun ls hl => ?_)
    exact t_X8_why_13 Z hr hlk hin (some this) a0 0 h _ _ ls hq hR hS (hl.sub [1, 2, 0] rfl)
  refine lv_iconst (v := (-1)) hx hb dX8_why_9 (by decide) ?_
  exact xrI hx hb hr hlk hR hS hq (by decide) (by decide) dX8_why_10
abbrev rm_X8_delay : Room := { frames := 2, cells := 0, slots := 0, locals := 43 }
def f_X8_delay_32   (h : Hp) : Option (Int32 × Hp) :=
rtZ 0 h
set_option maxHeartbeats 4000000 in
set_option maxRecDepth 100000 in
theorem t_X8_delay_32 (Z : ZZ p s m args c cX8_delay RX8 4 G) (hr : meth.sig.returnType = (some .boolean)) (hlk : meth.locks = false) (hin : meth.name = "delay") {v : Int32} {h1 : Hp} : ∀  (h : Hp) (H : Heap) (locs : List Loc) (ls : Array Slot), f_X8_delay_32  h = some (v, h1) → Rep G h H → va_S (AA G) s.heap H locs → LV ls 4 [] → W p l e rm_X8_delay s m args below meth c H locs 0 0 (MQ below (Qx G (some (.int v)) h1) args s 0 0 (AA G)) (F0 m 32 ls []) := by
  intro  h H locs ls hq hR hS hl
  have hx := Z.1
  have hb := Z.2.1
  unfold f_X8_delay_32 at hq
  refine lv_iconst (v := 0) hx hb dX8_delay_32 (by decide) ?_
  exact xrZ hx hb hr hlk hR hS hq (by decide) (by decide) dX8_delay_33
def f_X8_delay (this : Nat) (a0 : Int32) (a1 : Int32) (a2 : Int32) (h : Hp) : Option (Int32 × Hp) :=
rcv h (some this) 9 (fun b2 => bd (f_X8_isBid b2 a0 h) (fun x2 h =>
(if x2 = 0 then
f_X8_delay_32  h
else
gI h (some this) 9 0 (fun x11 =>
bd (f_X8_in a1 0 (x11 - 1) h) (fun x16 h =>
(if x16 = 0 then
f_X8_delay_32  h
else
bd (f_X8_in a2 0 60 h) (fun x26 h =>
(if x26 = 0 then
f_X8_delay_32  h
else
gR h (some this) 9 21 (fun x35 =>
stI h x35 ((8 * a0) + a1) a2 (fun h =>
rtZ 1 h))))))))))
set_option maxHeartbeats 4000000 in
set_option maxRecDepth 100000 in
theorem c_X8_delay (l : Launch) {G : GG} (this : Nat) (a0 : Int32) (a1 : Int32) (a2 : Int32) (h : Hp) (v : Int32) (h1 : Hp) (hq : f_X8_delay this a0 a1 a2 h = some (v, h1)) : Met l yX8_delay (Cond.code yX8_delay cX8_delay 4 (some .boolean) :: GT) rm_X8_delay (va_Pc [.ref this, .int a0, .int a1, .int a2] (Cn G h)) (Qx G (some (.int v)) h1) 0 0 (AA G) := by
  refine xMet (cc := cX8_delay) (by decide) (Nat.le_of_ble_eq_true rfl) (List.forall_mem_cons.mpr ⟨rfl, (List.forall_mem_cons.mpr ⟨rfl, (List.forall_mem_cons.mpr ⟨rfl, (List.forall_mem_cons.mpr ⟨rfl, (fun _ z => by cases z)⟩)⟩)⟩)⟩) ?_
  intro p e s m below meth c ls Z hr hlk hin hR hS hl
  have hx := Z.1
  have hb := Z.2.1
  have hl : LV ls 4 [(0, va_rf (some this)), (1, .int a0), (2, .int a1), (3, .int a2)] := hl
  unfold f_X8_delay at hq
  refine xaln hx hb hl (x := (some this)) 0 rfl dX8_delay_0 ?_
  refine xiln hx hb hl (x := a0) 1 rfl dX8_delay_1 ?_
  refine xcV Z hR hS hl (rest := []) (As := [.int a0]) hq cl_X8_118 (fun b x h1 hc => c_X8_isBid l b a0 h x h1 hc) ⟨⟨rfl, rfl⟩, (by decide), (by decide)⟩ rfl rfl (by first | decide | (simp only [List.map_cons, List.map_nil, rf_cat, ct_int, ct_ref, List.sum_cons, List.sum_nil] <;> decide)) dX8_delay_2 (by decide) (fun x2 h H locs hq hR hS => ?_)
  refine xzEq hx hb hq (tgt := 32) dX8_delay_5 (by decide) (fun hq => ?_) (fun hq => ?_)
  · exact t_X8_delay_32 Z hr hlk hin  h _ _ ls hq hR hS (hl.sub [] rfl)
  refine xiln hx hb hl (x := a1) 2 rfl dX8_delay_8 ?_
  refine lv_iconst (v := 0) hx hb dX8_delay_9 (by decide) ?_
  refine xaln hx hb hl (x := (some this)) 0 rfl dX8_delay_10 ?_
  refine xgI Z hR hq fl_X8_105 rfl dX8_delay_11 (fun x11 hq => ?_)
  refine lv_iconst (v := 1) hx hb dX8_delay_14 (by decide) ?_
  refine lv_isub hx hb dX8_delay_15 ?_
  refine xcS Z hR hS hl (rest := []) (As := [.int a1, .int 0, .int (x11 - 1)]) hq cl_X8_111 (fun x h1 hc => c_X8_in l a1 0 (x11 - 1) h x h1 hc) ⟨⟨rfl, rfl⟩, (by decide), (by decide)⟩ rfl rfl (by first | decide | (simp only [List.map_cons, List.map_nil, rf_cat, ct_int, ct_ref, List.sum_cons, List.sum_nil] <;> decide)) dX8_delay_16 (by decide) (fun x16 h H locs hq hR hS => ?_)
  refine xzEq hx hb hq (tgt := 32) dX8_delay_19 (by decide) (fun hq => ?_) (fun hq => ?_)
  · exact t_X8_delay_32 Z hr hlk hin  h _ _ ls hq hR hS (hl.sub [] rfl)
  refine xiln hx hb hl (x := a2) 3 rfl dX8_delay_22 ?_
  refine lv_iconst (v := 0) hx hb dX8_delay_23 (by decide) ?_
  refine lv_bipush (v := 60) hx hb dX8_delay_24 (by decide) ?_
  refine xcS Z hR hS hl (rest := []) (As := [.int a2, .int 0, .int 60]) hq cl_X8_111 (fun x h1 hc => c_X8_in l a2 0 60 h x h1 hc) ⟨⟨rfl, rfl⟩, (by decide), (by decide)⟩ rfl rfl (by first | decide | (simp only [List.map_cons, List.map_nil, rf_cat, ct_int, ct_ref, List.sum_cons, List.sum_nil] <;> decide)) dX8_delay_26 (by decide) (fun x26 h H locs hq hR hS => ?_)
  refine xzNe hx hb hq (tgt := 34) dX8_delay_29 (by decide) (fun hq => ?_) (fun hq => ?_)
  · refine xaln hx hb hl (x := (some this)) 0 rfl dX8_delay_34 ?_
    refine xgR Z hR hq fl_X8_66 rfl dX8_delay_35 (fun x35 hq => ?_)
    refine lv_bipush (v := 8) hx hb dX8_delay_38 (by decide) ?_
    refine xiln hx hb hl (x := a0) 1 rfl dX8_delay_40 ?_
    refine lv_imul hx hb dX8_delay_41 ?_
    refine xiln hx hb hl (x := a1) 2 rfl dX8_delay_42 ?_
    refine lv_iadd hx hb dX8_delay_43 ?_
    refine xiln hx hb hl (x := a2) 3 rfl dX8_delay_44 ?_
    refine xsI Z hR hS hq dX8_delay_45 (fun h H locs hq hR hS => ?_)
    refine lv_iconst (v := 1) hx hb dX8_delay_46 (by decide) ?_
    exact xrZ hx hb hr hlk hR hS hq (by decide) (by decide) dX8_delay_47
  exact t_X8_delay_32 Z hr hlk hin  h _ _ ls hq hR hS (hl.sub [] rfl)
abbrev rm_X8_holder : Room := { frames := 2, cells := 0, slots := 0, locals := 45 }
def f_X8_holder_121  (k3 : Option Nat × Int32 × Int32 × Int32 × Int32 × Hp → Option (Int32 × Hp)) (l0 : Option Nat) (l1 : Int32) (l2 : Int32) (l3 : Int32) (l4 : Int32) (h : Hp) : Option (Int32 × Hp) :=
k3 (l0, l1, l2, l3, (l4 + 1), h)
set_option maxHeartbeats 4000000 in
set_option maxRecDepth 100000 in
theorem t_X8_holder_121 (Z : ZZ p s m args c cX8_holder RX8 7 G) (hr : meth.sig.returnType = (some .int)) (hlk : meth.locks = false) (hin : meth.name = "holder") {v : Int32} {h1 : Hp} {k3 : Option Nat × Int32 × Int32 × Int32 × Int32 × Hp → Option (Int32 × Hp)} (hk3 : ∀ u : Option Nat × Int32 × Int32 × Int32 × Int32 × Hp, k3 u = some (v, h1) → ∀ (H : Heap) (locs : List Loc) (ls : Array Slot), Rep G u.2.2.2.2.2 H → va_S (AA G) s.heap H locs → LV ls 7 [(0, va_rf u.1), (1, .int u.2.1), (2, .int u.2.2.1), (3, .int u.2.2.2.1), (4, .int u.2.2.2.2.1)] → W p l e rm_X8_holder s m args below meth c H locs 0 0 (MQ below (Qx G (some (.int v)) h1) args s 0 0 (AA G)) (F0 m 3 ls [])) : ∀ (l0 : Option Nat) (l1 : Int32) (l2 : Int32) (l3 : Int32) (l4 : Int32) (h : Hp) (H : Heap) (locs : List Loc) (ls : Array Slot), f_X8_holder_121 k3 l0 l1 l2 l3 l4 h = some (v, h1) → Rep G h H → va_S (AA G) s.heap H locs → LV ls 7 [(0, va_rf l0), (1, .int l1), (2, .int l2), (3, .int l3), (4, .int l4)] → W p l e rm_X8_holder s m args below meth c H locs 0 0 (MQ below (Qx G (some (.int v)) h1) args s 0 0 (AA G)) (F0 m 121 ls []) := by
  intro l0 l1 l2 l3 l4 h H locs ls hq hR hS hl
  have hx := Z.1
  have hb := Z.2.1
  unfold f_X8_holder_121 at hq
  refine xinc hx hb hl (x := l4) (v := (l4 + 1)) (lv' := [(4, .int (l4 + 1)), (0, va_rf l0), (1, .int l1), (2, .int l2), (3, .int l3)]) 4 rfl (by rw [show Int32.ofInt (1) = (1 : Int32) from by decide]) (by decide) dX8_holder_121 rfl (fun ls hl => ?_)
  refine lv_goto (tgt := 3) hx hb dX8_holder_124 (by decide) ?_
  exact hk3 (l0, l1, l2, l3, (l4 + 1), h) hq H locs ls hR hS (hl.sub [1, 2, 3, 4, 0] rfl)
def f_X8_holder_83  (k3 : Option Nat × Int32 × Int32 × Int32 × Int32 × Hp → Option (Int32 × Hp)) (s0 : Int32) (l0 : Option Nat) (l1 : Int32) (l2 : Int32) (l3 : Int32) (l4 : Int32) (l5 : Int32) (h : Hp) : Option (Int32 × Hp) :=
(if s0 = (-1) then
f_X8_holder_121 k3 l0 l1 l2 l3 l4 h
else
rcv h l0 9 (fun b101 => bd (f_X8_longOf b101 l4 l5 h) (fun x101 h =>
rcv h l0 9 (fun b108 => bd (f_X8_behind b108 h) (fun x108 h =>
bd (f_X8_in l3 s0 (((s0 + x101) - 1) + x108) h) (fun x112 h =>
(if x112 = 0 then
f_X8_holder_121 k3 l0 l1 l2 l3 l4 h
else
rtI l4 h)))))))
set_option maxHeartbeats 4000000 in
set_option maxRecDepth 100000 in
theorem t_X8_holder_83 (Z : ZZ p s m args c cX8_holder RX8 7 G) (hr : meth.sig.returnType = (some .int)) (hlk : meth.locks = false) (hin : meth.name = "holder") {v : Int32} {h1 : Hp} {k3 : Option Nat × Int32 × Int32 × Int32 × Int32 × Hp → Option (Int32 × Hp)} (hk3 : ∀ u : Option Nat × Int32 × Int32 × Int32 × Int32 × Hp, k3 u = some (v, h1) → ∀ (H : Heap) (locs : List Loc) (ls : Array Slot), Rep G u.2.2.2.2.2 H → va_S (AA G) s.heap H locs → LV ls 7 [(0, va_rf u.1), (1, .int u.2.1), (2, .int u.2.2.1), (3, .int u.2.2.2.1), (4, .int u.2.2.2.2.1)] → W p l e rm_X8_holder s m args below meth c H locs 0 0 (MQ below (Qx G (some (.int v)) h1) args s 0 0 (AA G)) (F0 m 3 ls [])) : ∀ (s0 : Int32) (l0 : Option Nat) (l1 : Int32) (l2 : Int32) (l3 : Int32) (l4 : Int32) (l5 : Int32) (h : Hp) (H : Heap) (locs : List Loc) (ls : Array Slot), f_X8_holder_83 k3 s0 l0 l1 l2 l3 l4 l5 h = some (v, h1) → Rep G h H → va_S (AA G) s.heap H locs → LV ls 7 [(0, va_rf l0), (1, .int l1), (2, .int l2), (3, .int l3), (4, .int l4), (5, .int l5)] → W p l e rm_X8_holder s m args below meth c H locs 0 0 (MQ below (Qx G (some (.int v)) h1) args s 0 0 (AA G)) (F0 m 83 ls [.int s0]) := by
  intro s0 l0 l1 l2 l3 l4 l5 h H locs ls hq hR hS hl
  have hx := Z.1
  have hb := Z.2.1
  unfold f_X8_holder_83 at hq
  refine xis hx hb hl (x := s0) (lv' := [(6, .int s0), (0, va_rf l0), (1, .int l1), (2, .int l2), (3, .int l3), (4, .int l4), (5, .int l5)]) (by decide) dX8_holder_83 rfl (fun ls hl => ?_)
  refine xil hx hb hl (x := s0) 0 rfl dX8_holder_85 ?_
  refine lv_iconst (v := (-1)) hx hb dX8_holder_87 (by decide) ?_
  refine xcEq hx hb hq (tgt := 121) dX8_holder_88 (by decide) (fun hq => ?_) (fun hq => ?_)
  · exact t_X8_holder_121 Z hr hlk hin hk3 l0 l1 l2 l3 l4 h H locs ls hq hR hS (hl.sub [1, 2, 3, 4, 5] rfl)
  refine xiln hx hb hl (x := l3) 4 rfl dX8_holder_91 ?_
  refine xil hx hb hl (x := s0) 0 rfl dX8_holder_92 ?_
  refine xil hx hb hl (x := s0) 0 rfl dX8_holder_94 ?_
  refine xaln hx hb hl (x := l0) 1 rfl dX8_holder_96 ?_
  refine xil hx hb hl (x := l4) 5 rfl dX8_holder_97 ?_
  refine xil hx hb hl (x := l5) 6 rfl dX8_holder_99 ?_
  refine xcV Z hR hS hl (rest := [.int s0, .int s0, .int l3]) (As := [.int l4, .int l5]) hq cl_X8_134 (fun b x h1 hc => c_X8_longOf l b l4 l5 h x h1 hc) ⟨⟨rfl, rfl⟩, (by decide), (by decide)⟩ rfl rfl (by first | decide | (simp only [List.map_cons, List.map_nil, rf_cat, ct_int, ct_ref, List.sum_cons, List.sum_nil] <;> decide)) dX8_holder_101 (by decide) (fun x101 h H locs hq hR hS => ?_)
  refine lv_iadd hx hb dX8_holder_104 ?_
  refine lv_iconst (v := 1) hx hb dX8_holder_105 (by decide) ?_
  refine lv_isub hx hb dX8_holder_106 ?_
  refine xaln hx hb hl (x := l0) 1 rfl dX8_holder_107 ?_
  refine xcV Z hR hS hl (rest := [.int ((s0 + x101) - 1), .int s0, .int l3]) (As := []) hq cl_X8_130 (fun b x h1 hc => c_X8_behind l b h x h1 hc) ⟨⟨rfl, rfl⟩, (by decide), (by decide)⟩ rfl rfl (by first | decide | (simp only [List.map_cons, List.map_nil, rf_cat, ct_int, ct_ref, List.sum_cons, List.sum_nil] <;> decide)) dX8_holder_108 (by decide) (fun x108 h H locs hq hR hS => ?_)
  refine lv_iadd hx hb dX8_holder_111 ?_
  refine xcS Z hR hS hl (rest := []) (As := [.int l3, .int s0, .int (((s0 + x101) - 1) + x108)]) hq cl_X8_111 (fun x h1 hc => c_X8_in l l3 s0 (((s0 + x101) - 1) + x108) h x h1 hc) ⟨⟨rfl, rfl⟩, (by decide), (by decide)⟩ rfl rfl (by first | decide | (simp only [List.map_cons, List.map_nil, rf_cat, ct_int, ct_ref, List.sum_cons, List.sum_nil] <;> decide)) dX8_holder_112 (by decide) (fun x112 h H locs hq hR hS => ?_)
  refine xzEq hx hb hq (tgt := 121) dX8_holder_115 (by decide) (fun hq => ?_) (fun hq => ?_)
  · exact t_X8_holder_121 Z hr hlk hin hk3 l0 l1 l2 l3 l4 h H locs ls hq hR hS (hl.sub [1, 2, 3, 4, 5] rfl)
  refine xil hx hb hl (x := l4) 5 rfl dX8_holder_118 ?_
  exact xrI hx hb hr hlk hR hS hq (by decide) (by decide) dX8_holder_120
def f_X8_holder_58  (k3 : Option Nat × Int32 × Int32 × Int32 × Int32 × Hp → Option (Int32 × Hp)) (s0 : Int32) (l0 : Option Nat) (l1 : Int32) (l2 : Int32) (l3 : Int32) (l4 : Int32) (h : Hp) : Option (Int32 × Hp) :=
(if s0 = (-1) then
f_X8_holder_83 k3 (-1) l0 l1 l2 l3 l4 s0 h
else
gR h l0 9 30 (fun x71 =>
ldI h x71 ((8 * l4) + s0) (fun x82 =>
f_X8_holder_83 k3 x82 l0 l1 l2 l3 l4 s0 h)))
set_option maxHeartbeats 4000000 in
set_option maxRecDepth 100000 in
theorem t_X8_holder_58 (Z : ZZ p s m args c cX8_holder RX8 7 G) (hr : meth.sig.returnType = (some .int)) (hlk : meth.locks = false) (hin : meth.name = "holder") {v : Int32} {h1 : Hp} {k3 : Option Nat × Int32 × Int32 × Int32 × Int32 × Hp → Option (Int32 × Hp)} (hk3 : ∀ u : Option Nat × Int32 × Int32 × Int32 × Int32 × Hp, k3 u = some (v, h1) → ∀ (H : Heap) (locs : List Loc) (ls : Array Slot), Rep G u.2.2.2.2.2 H → va_S (AA G) s.heap H locs → LV ls 7 [(0, va_rf u.1), (1, .int u.2.1), (2, .int u.2.2.1), (3, .int u.2.2.2.1), (4, .int u.2.2.2.2.1)] → W p l e rm_X8_holder s m args below meth c H locs 0 0 (MQ below (Qx G (some (.int v)) h1) args s 0 0 (AA G)) (F0 m 3 ls [])) : ∀ (s0 : Int32) (l0 : Option Nat) (l1 : Int32) (l2 : Int32) (l3 : Int32) (l4 : Int32) (h : Hp) (H : Heap) (locs : List Loc) (ls : Array Slot), f_X8_holder_58 k3 s0 l0 l1 l2 l3 l4 h = some (v, h1) → Rep G h H → va_S (AA G) s.heap H locs → LV ls 7 [(0, va_rf l0), (1, .int l1), (2, .int l2), (3, .int l3), (4, .int l4)] → W p l e rm_X8_holder s m args below meth c H locs 0 0 (MQ below (Qx G (some (.int v)) h1) args s 0 0 (AA G)) (F0 m 58 ls [.int s0]) := by
  intro s0 l0 l1 l2 l3 l4 h H locs ls hq hR hS hl
  have hx := Z.1
  have hb := Z.2.1
  unfold f_X8_holder_58 at hq
  refine xis hx hb hl (x := s0) (lv' := [(5, .int s0), (0, va_rf l0), (1, .int l1), (2, .int l2), (3, .int l3), (4, .int l4)]) (by decide) dX8_holder_58 rfl (fun ls hl => ?_)
  refine xil hx hb hl (x := s0) 0 rfl dX8_holder_60 ?_
  refine lv_iconst (v := (-1)) hx hb dX8_holder_62 (by decide) ?_
  refine xcNe hx hb hq (tgt := 70) dX8_holder_63 (by decide) (fun hq => ?_) (fun hq => ?_)
  · refine xaln hx hb hl (x := l0) 1 rfl dX8_holder_70 ?_
    refine xgR Z hR hq fl_X8_93 rfl dX8_holder_71 (fun x71 hq => ?_)
    refine lv_bipush (v := 8) hx hb dX8_holder_74 (by decide) ?_
    refine xil hx hb hl (x := l4) 5 rfl dX8_holder_76 ?_
    refine lv_imul hx hb dX8_holder_78 ?_
    refine xil hx hb hl (x := s0) 0 rfl dX8_holder_79 ?_
    refine lv_iadd hx hb dX8_holder_81 ?_
    refine xaI Z hR hq dX8_holder_82 (fun x82 hq => ?_)
    exact t_X8_holder_83 Z hr hlk hin hk3 x82 l0 l1 l2 l3 l4 s0 h H locs ls hq hR hS (hl.sub [1, 2, 3, 4, 5, 0] rfl)
  refine lv_iconst (v := (-1)) hx hb dX8_holder_66 (by decide) ?_
  refine lv_goto (tgt := 83) hx hb dX8_holder_67 (by decide) ?_
  exact t_X8_holder_83 Z hr hlk hin hk3 (-1) l0 l1 l2 l3 l4 s0 h H locs ls hq hR hS (hl.sub [1, 2, 3, 4, 5, 0] rfl)
def f_X8_holder_47  (k3 : Option Nat × Int32 × Int32 × Int32 × Int32 × Hp → Option (Int32 × Hp)) (l0 : Option Nat) (l1 : Int32) (l2 : Int32) (l3 : Int32) (l4 : Int32) (h : Hp) : Option (Int32 × Hp) :=
f_X8_holder_58 k3 (-1) l0 l1 l2 l3 l4 h
set_option maxHeartbeats 4000000 in
set_option maxRecDepth 100000 in
theorem t_X8_holder_47 (Z : ZZ p s m args c cX8_holder RX8 7 G) (hr : meth.sig.returnType = (some .int)) (hlk : meth.locks = false) (hin : meth.name = "holder") {v : Int32} {h1 : Hp} {k3 : Option Nat × Int32 × Int32 × Int32 × Int32 × Hp → Option (Int32 × Hp)} (hk3 : ∀ u : Option Nat × Int32 × Int32 × Int32 × Int32 × Hp, k3 u = some (v, h1) → ∀ (H : Heap) (locs : List Loc) (ls : Array Slot), Rep G u.2.2.2.2.2 H → va_S (AA G) s.heap H locs → LV ls 7 [(0, va_rf u.1), (1, .int u.2.1), (2, .int u.2.2.1), (3, .int u.2.2.2.1), (4, .int u.2.2.2.2.1)] → W p l e rm_X8_holder s m args below meth c H locs 0 0 (MQ below (Qx G (some (.int v)) h1) args s 0 0 (AA G)) (F0 m 3 ls [])) : ∀ (l0 : Option Nat) (l1 : Int32) (l2 : Int32) (l3 : Int32) (l4 : Int32) (h : Hp) (H : Heap) (locs : List Loc) (ls : Array Slot), f_X8_holder_47 k3 l0 l1 l2 l3 l4 h = some (v, h1) → Rep G h H → va_S (AA G) s.heap H locs → LV ls 7 [(0, va_rf l0), (1, .int l1), (2, .int l2), (3, .int l3), (4, .int l4)] → W p l e rm_X8_holder s m args below meth c H locs 0 0 (MQ below (Qx G (some (.int v)) h1) args s 0 0 (AA G)) (F0 m 47 ls []) := by
  intro l0 l1 l2 l3 l4 h H locs ls hq hR hS hl
  have hx := Z.1
  have hb := Z.2.1
  unfold f_X8_holder_47 at hq
  refine lv_iconst (v := (-1)) hx hb dX8_holder_47 (by decide) ?_
  refine lv_goto (tgt := 58) hx hb dX8_holder_48 (by decide) ?_
  exact t_X8_holder_58 Z hr hlk hin hk3 (-1) l0 l1 l2 l3 l4 h H locs ls hq hR hS (hl.sub [0, 1, 2, 3, 4] rfl)
def f_X8_holder_51  (k3 : Option Nat × Int32 × Int32 × Int32 × Int32 × Hp → Option (Int32 × Hp)) (l0 : Option Nat) (l1 : Int32) (l2 : Int32) (l3 : Int32) (l4 : Int32) (h : Hp) : Option (Int32 × Hp) :=
rcv h l0 9 (fun b55 => bd (f_X8_legOver b55 l4 l2 h) (fun x55 h =>
f_X8_holder_58 k3 x55 l0 l1 l2 l3 l4 h))
set_option maxHeartbeats 4000000 in
set_option maxRecDepth 100000 in
theorem t_X8_holder_51 (Z : ZZ p s m args c cX8_holder RX8 7 G) (hr : meth.sig.returnType = (some .int)) (hlk : meth.locks = false) (hin : meth.name = "holder") {v : Int32} {h1 : Hp} {k3 : Option Nat × Int32 × Int32 × Int32 × Int32 × Hp → Option (Int32 × Hp)} (hk3 : ∀ u : Option Nat × Int32 × Int32 × Int32 × Int32 × Hp, k3 u = some (v, h1) → ∀ (H : Heap) (locs : List Loc) (ls : Array Slot), Rep G u.2.2.2.2.2 H → va_S (AA G) s.heap H locs → LV ls 7 [(0, va_rf u.1), (1, .int u.2.1), (2, .int u.2.2.1), (3, .int u.2.2.2.1), (4, .int u.2.2.2.2.1)] → W p l e rm_X8_holder s m args below meth c H locs 0 0 (MQ below (Qx G (some (.int v)) h1) args s 0 0 (AA G)) (F0 m 3 ls [])) : ∀ (l0 : Option Nat) (l1 : Int32) (l2 : Int32) (l3 : Int32) (l4 : Int32) (h : Hp) (H : Heap) (locs : List Loc) (ls : Array Slot), f_X8_holder_51 k3 l0 l1 l2 l3 l4 h = some (v, h1) → Rep G h H → va_S (AA G) s.heap H locs → LV ls 7 [(0, va_rf l0), (1, .int l1), (2, .int l2), (3, .int l3), (4, .int l4)] → W p l e rm_X8_holder s m args below meth c H locs 0 0 (MQ below (Qx G (some (.int v)) h1) args s 0 0 (AA G)) (F0 m 51 ls []) := by
  intro l0 l1 l2 l3 l4 h H locs ls hq hR hS hl
  have hx := Z.1
  have hb := Z.2.1
  unfold f_X8_holder_51 at hq
  refine xaln hx hb hl (x := l0) 0 rfl dX8_holder_51 ?_
  refine xil hx hb hl (x := l4) 4 rfl dX8_holder_52 ?_
  refine xiln hx hb hl (x := l2) 2 rfl dX8_holder_54 ?_
  refine xcV Z hR hS hl (rest := []) (As := [.int l4, .int l2]) hq cl_X8_144 (fun b x h1 hc => c_X8_legOver l b l4 l2 h x h1 hc) ⟨⟨rfl, rfl⟩, (by decide), (by decide)⟩ rfl rfl (by first | decide | (simp only [List.map_cons, List.map_nil, rf_cat, ct_int, ct_ref, List.sum_cons, List.sum_nil] <;> decide)) dX8_holder_55 (by decide) (fun x55 h H locs hq hR hS => ?_)
  exact t_X8_holder_58 Z hr hlk hin hk3 x55 l0 l1 l2 l3 l4 h H locs ls hq hR hS (hl.sub [0, 1, 2, 3, 4] rfl)
def fb_X8_holder_3  (k3 : Option Nat × Int32 × Int32 × Int32 × Int32 × Hp → Option (Int32 × Hp)) (l0 : Option Nat) (l1 : Int32) (l2 : Int32) (l3 : Int32) (l4 : Int32) (h : Hp) : Option (Int32 × Hp) :=
gI h l0 9 9 (fun x6 =>
(if x6 ≤ l4 then
rtI (-1) h
else
(if l4 = l1 then
f_X8_holder_47 k3 l0 l1 l2 l3 l4 h
else
gR h l0 9 19 (fun x19 =>
ldZ h x19 l4 (fun x24 =>
(if x24 = 0 then
f_X8_holder_47 k3 l0 l1 l2 l3 l4 h
else
gR h l0 9 1 (fun x29 =>
ldZ h x29 l2 (fun x33 =>
(if x33 = 0 then
f_X8_holder_51 k3 l0 l1 l2 l3 l4 h
else
rcv h l0 9 (fun b41 => bd (f_X8_isSameWay b41 l4 l1 h) (fun x41 h =>
(if x41 = 0 then
f_X8_holder_47 k3 l0 l1 l2 l3 l4 h
else
f_X8_holder_51 k3 l0 l1 l2 l3 l4 h))))))))))))
set_option maxHeartbeats 4000000 in
set_option maxRecDepth 100000 in
theorem tb_X8_holder_3 (Z : ZZ p s m args c cX8_holder RX8 7 G) (hr : meth.sig.returnType = (some .int)) (hlk : meth.locks = false) (hin : meth.name = "holder") {v : Int32} {h1 : Hp} {k3 : Option Nat × Int32 × Int32 × Int32 × Int32 × Hp → Option (Int32 × Hp)} (hk3 : ∀ u : Option Nat × Int32 × Int32 × Int32 × Int32 × Hp, k3 u = some (v, h1) → ∀ (H : Heap) (locs : List Loc) (ls : Array Slot), Rep G u.2.2.2.2.2 H → va_S (AA G) s.heap H locs → LV ls 7 [(0, va_rf u.1), (1, .int u.2.1), (2, .int u.2.2.1), (3, .int u.2.2.2.1), (4, .int u.2.2.2.2.1)] → W p l e rm_X8_holder s m args below meth c H locs 0 0 (MQ below (Qx G (some (.int v)) h1) args s 0 0 (AA G)) (F0 m 3 ls [])) : ∀ (l0 : Option Nat) (l1 : Int32) (l2 : Int32) (l3 : Int32) (l4 : Int32) (h : Hp) (H : Heap) (locs : List Loc) (ls : Array Slot), fb_X8_holder_3 k3 l0 l1 l2 l3 l4 h = some (v, h1) → Rep G h H → va_S (AA G) s.heap H locs → LV ls 7 [(0, va_rf l0), (1, .int l1), (2, .int l2), (3, .int l3), (4, .int l4)] → W p l e rm_X8_holder s m args below meth c H locs 0 0 (MQ below (Qx G (some (.int v)) h1) args s 0 0 (AA G)) (F0 m 3 ls []) := by
  intro l0 l1 l2 l3 l4 h H locs ls hq hR hS hl
  have hx := Z.1
  have hb := Z.2.1
  unfold fb_X8_holder_3 at hq
  refine xil hx hb hl (x := l4) 4 rfl dX8_holder_3 ?_
  refine xaln hx hb hl (x := l0) 0 rfl dX8_holder_5 ?_
  refine xgI Z hR hq fl_X8_108 rfl dX8_holder_6 (fun x6 hq => ?_)
  refine xcGe hx hb hq (tgt := 127) dX8_holder_9 (by decide) (fun hq => ?_) (fun hq => ?_)
  · refine lv_iconst (v := (-1)) hx hb dX8_holder_127 (by decide) ?_
    exact xrI hx hb hr hlk hR hS hq (by decide) (by decide) dX8_holder_128
  refine xil hx hb hl (x := l4) 4 rfl dX8_holder_12 ?_
  refine xiln hx hb hl (x := l1) 1 rfl dX8_holder_14 ?_
  refine xcEq hx hb hq (tgt := 47) dX8_holder_15 (by decide) (fun hq => ?_) (fun hq => ?_)
  · exact t_X8_holder_47 Z hr hlk hin hk3 l0 l1 l2 l3 l4 h H locs ls hq hR hS (hl.sub [0, 1, 2, 3, 4] rfl)
  refine xaln hx hb hl (x := l0) 0 rfl dX8_holder_18 ?_
  refine xgR Z hR hq fl_X8_60 rfl dX8_holder_19 (fun x19 hq => ?_)
  refine xil hx hb hl (x := l4) 4 rfl dX8_holder_22 ?_
  refine xaZ Z hR hq dX8_holder_24 (fun x24 hq => ?_)
  refine xzEq hx hb hq (tgt := 47) dX8_holder_25 (by decide) (fun hq => ?_) (fun hq => ?_)
  · exact t_X8_holder_47 Z hr hlk hin hk3 l0 l1 l2 l3 l4 h H locs ls hq hR hS (hl.sub [0, 1, 2, 3, 4] rfl)
  refine xaln hx hb hl (x := l0) 0 rfl dX8_holder_28 ?_
  refine xgR Z hR hq fl_X8_9 rfl dX8_holder_29 (fun x29 hq => ?_)
  refine xiln hx hb hl (x := l2) 2 rfl dX8_holder_32 ?_
  refine xaZ Z hR hq dX8_holder_33 (fun x33 hq => ?_)
  refine xzEq hx hb hq (tgt := 51) dX8_holder_34 (by decide) (fun hq => ?_) (fun hq => ?_)
  · exact t_X8_holder_51 Z hr hlk hin hk3 l0 l1 l2 l3 l4 h H locs ls hq hR hS (hl.sub [0, 1, 2, 3, 4] rfl)
  refine xaln hx hb hl (x := l0) 0 rfl dX8_holder_37 ?_
  refine xil hx hb hl (x := l4) 4 rfl dX8_holder_38 ?_
  refine xiln hx hb hl (x := l1) 1 rfl dX8_holder_40 ?_
  refine xcV Z hR hS hl (rest := []) (As := [.int l4, .int l1]) hq cl_X8_141 (fun b x h1 hc => c_X8_isSameWay l b l4 l1 h x h1 hc) ⟨⟨rfl, rfl⟩, (by decide), (by decide)⟩ rfl rfl (by first | decide | (simp only [List.map_cons, List.map_nil, rf_cat, ct_int, ct_ref, List.sum_cons, List.sum_nil] <;> decide)) dX8_holder_41 (by decide) (fun x41 h H locs hq hR hS => ?_)
  refine xzNe hx hb hq (tgt := 51) dX8_holder_44 (by decide) (fun hq => ?_) (fun hq => ?_)
  · exact t_X8_holder_51 Z hr hlk hin hk3 l0 l1 l2 l3 l4 h H locs ls hq hR hS (hl.sub [0, 1, 2, 3, 4] rfl)
  exact t_X8_holder_47 Z hr hlk hin hk3 l0 l1 l2 l3 l4 h H locs ls hq hR hS (hl.sub [0, 1, 2, 3, 4] rfl)
def f_X8_holder_3  (l0 : Option Nat) (l1 : Int32) (l2 : Int32) (l3 : Int32) (l4 : Int32) (h : Hp) : Option (Int32 × Hp) :=
  lp (fun (k3 : Option Nat × Int32 × Int32 × Int32 × Int32 × Hp → Option (Int32 × Hp)) (u : Option Nat × Int32 × Int32 × Int32 × Int32 × Hp) => fb_X8_holder_3 k3 u.1 u.2.1 u.2.2.1 u.2.2.2.1 u.2.2.2.2.1 u.2.2.2.2.2) FU (l0, l1, l2, l3, l4, h)
theorem t_X8_holder_3 (Z : ZZ p s m args c cX8_holder RX8 7 G) (hr : meth.sig.returnType = (some .int)) (hlk : meth.locks = false) (hin : meth.name = "holder") {v : Int32} {h1 : Hp} : ∀ (l0 : Option Nat) (l1 : Int32) (l2 : Int32) (l3 : Int32) (l4 : Int32) (h : Hp) (H : Heap) (locs : List Loc) (ls : Array Slot), f_X8_holder_3 l0 l1 l2 l3 l4 h = some (v, h1) → Rep G h H → va_S (AA G) s.heap H locs → LV ls 7 [(0, va_rf l0), (1, .int l1), (2, .int l2), (3, .int l3), (4, .int l4)] → W p l e rm_X8_holder s m args below meth c H locs 0 0 (MQ below (Qx G (some (.int v)) h1) args s 0 0 (AA G)) (F0 m 3 ls []) := by
  intro l0 l1 l2 l3 l4 h H locs ls hq hR hS hl
  exact lp_ind (P := fun u : Option Nat × Int32 × Int32 × Int32 × Int32 × Hp => ∀ (H : Heap) (locs : List Loc) (ls : Array Slot), Rep G u.2.2.2.2.2 H → va_S (AA G) s.heap H locs → LV ls 7 [(0, va_rf u.1), (1, .int u.2.1), (2, .int u.2.2.1), (3, .int u.2.2.2.1), (4, .int u.2.2.2.2.1)] → W p l e rm_X8_holder s m args below meth c H locs 0 0 (MQ below (Qx G (some (.int v)) h1) args s 0 0 (AA G)) (F0 m 3 ls [])) (fun k hk u hq H locs ls hR hS hl => tb_X8_holder_3 Z hr hlk hin hk u.1 u.2.1 u.2.2.1 u.2.2.2.1 u.2.2.2.2.1 u.2.2.2.2.2 H locs ls hq hR hS hl) FU (l0, l1, l2, l3, l4, h) hq H locs ls hR hS hl
def f_X8_holder (this : Nat) (a0 : Int32) (a1 : Int32) (a2 : Int32) (h : Hp) : Option (Int32 × Hp) :=
f_X8_holder_3 (some this) a0 a1 a2 0 h
set_option maxHeartbeats 4000000 in
set_option maxRecDepth 100000 in
theorem c_X8_holder (l : Launch) {G : GG} (this : Nat) (a0 : Int32) (a1 : Int32) (a2 : Int32) (h : Hp) (v : Int32) (h1 : Hp) (hq : f_X8_holder this a0 a1 a2 h = some (v, h1)) : Met l yX8_holder (Cond.code yX8_holder cX8_holder 7 (some .int) :: GT) rm_X8_holder (va_Pc [.ref this, .int a0, .int a1, .int a2] (Cn G h)) (Qx G (some (.int v)) h1) 0 0 (AA G) := by
  refine xMet (cc := cX8_holder) (by decide) (Nat.le_of_ble_eq_true rfl) (List.forall_mem_cons.mpr ⟨rfl, (List.forall_mem_cons.mpr ⟨rfl, (List.forall_mem_cons.mpr ⟨rfl, (List.forall_mem_cons.mpr ⟨rfl, (fun _ z => by cases z)⟩)⟩)⟩)⟩) ?_
  intro p e s m below meth c ls Z hr hlk hin hR hS hl
  have hx := Z.1
  have hb := Z.2.1
  have hl : LV ls 7 [(0, va_rf (some this)), (1, .int a0), (2, .int a1), (3, .int a2)] := hl
  unfold f_X8_holder at hq
  refine lv_iconst (v := 0) hx hb dX8_holder_0 (by decide) ?_
  refine xis hx hb hl (x := 0) (lv' := [(4, .int 0), (0, va_rf (some this)), (1, .int a0), (2, .int a1), (3, .int a2)]) (by decide) dX8_holder_1 rfl (fun ls hl => ?_)
  exact t_X8_holder_3 Z hr hlk hin (some this) a0 a1 a2 0 h _ _ ls hq hR hS (hl.sub [1, 2, 3, 4, 0] rfl)
abbrev rm_X8_steps : Room := { frames := 3, cells := 0, slots := 0, locals := 71 }
def f_X8_steps_49   (h : Hp) : Option (Unit × Hp) :=
rtV h
set_option maxHeartbeats 4000000 in
set_option maxRecDepth 100000 in
theorem t_X8_steps_49 (Z : ZZ p s m args c cX8_steps RX8 7 G) (hr : meth.sig.returnType = none) (hlk : meth.locks = false) (hin : meth.name = "steps") {v : Unit} {h1 : Hp} : ∀  (h : Hp) (H : Heap) (locs : List Loc) (ls : Array Slot), f_X8_steps_49  h = some (v, h1) → Rep G h H → va_S (AA G) s.heap H locs → LV ls 7 [] → W p l e rm_X8_steps s m args below meth c H locs 0 0 (MQ below (Qx G none h1) args s 0 0 (AA G)) (F0 m 49 ls []) := by
  intro  h H locs ls hq hR hS hl
  have hx := Z.1
  have hb := Z.2.1
  unfold f_X8_steps_49 at hq
  exact xrV hx hb hr hlk hR hS hq (by decide) (by decide) dX8_steps_49
def f_X8_steps_214   (h : Hp) : Option (Unit × Hp) :=
rtV h
set_option maxHeartbeats 4000000 in
set_option maxRecDepth 100000 in
theorem t_X8_steps_214 (Z : ZZ p s m args c cX8_steps RX8 7 G) (hr : meth.sig.returnType = none) (hlk : meth.locks = false) (hin : meth.name = "steps") {v : Unit} {h1 : Hp} : ∀  (h : Hp) (H : Heap) (locs : List Loc) (ls : Array Slot), f_X8_steps_214  h = some (v, h1) → Rep G h H → va_S (AA G) s.heap H locs → LV ls 7 [] → W p l e rm_X8_steps s m args below meth c H locs 0 0 (MQ below (Qx G none h1) args s 0 0 (AA G)) (F0 m 214 ls []) := by
  intro  h H locs ls hq hR hS hl
  have hx := Z.1
  have hb := Z.2.1
  unfold f_X8_steps_214 at hq
  exact xrV hx hb hr hlk hR hS hq (by decide) (by decide) dX8_steps_214
def f_X8_steps (this : Nat) (a0 : Int32) (a1 : Int32) (h : Hp) : Option (Unit × Hp) :=
gR h (some this) 9 27 (fun x2 =>
ldI h x2 a0 (fun x6 =>
(if x6 ≤ a1 then
gR h (some this) 9 26 (fun x12 =>
ldI h x12 a0 (fun x16 =>
rcv h (some this) 9 (fun b21 => bd (f_X8_legs b21 a0 h) (fun x21 h =>
(if x16 = x21 then
gR h (some this) 9 28 (fun x28 =>
ldI h x28 a0 (fun x32 =>
(if x32 = (-1) then
gR h (some this) 9 28 (fun x38 =>
gR h (some this) 9 27 (fun x43 =>
ldI h x43 a0 (fun x47 =>
stI h x38 a0 x47 (fun h =>
f_X8_steps_49  h))))
else
f_X8_steps_49  h)))
else
gR h (some this) 9 20 (fun x51 =>
ldI h x51 ((8 * a0) + x16) (fun x60 =>
(if x60 ≤ a1 then
rcv h (some this) 9 (fun b69 => bd (f_X8_sectionOf b69 a0 x16 h) (fun x69 h =>
rcv h (some this) 9 (fun b81 => bd (f_X8_stationOf b81 a0 x16 h) (fun x81 h =>
rcv h (some this) 9 (fun b92 => bd (f_X8_holder b92 a0 x69 a1 h) (fun x92 h =>
gR h (some this) 9 29 (fun x98 =>
ldI h x98 ((8 * a0) + x81) (fun x103 =>
(if x103 ≤ 0 then
rcv h (some this) 9 (fun b135 => bd (f_X8_isClosed b135 x69 a1 h) (fun x135 h =>
(if x135 = 0 then
(if x92 = (-1) then
gR h (some this) 9 30 (fun x180 =>
stI h x180 ((8 * a0) + x16) a1 (fun h =>
gR h (some this) 9 27 (fun x192 =>
rcv h (some this) 9 (fun b200 => bd (f_X8_longOf b200 a0 x16 h) (fun x200 h =>
stI h x192 a0 (a1 + x200) (fun h =>
gR h (some this) 9 26 (fun x206 =>
stI h x206 a0 (x16 + 1) (fun h =>
f_X8_steps_214  h))))))))
else
gR h (some this) 9 33 (fun x161 =>
ldI h x161 ((16 * a0) + x92) (fun x172 =>
stI h x161 ((16 * a0) + x92) (x172 + 1) (fun h =>
f_X8_steps_214  h))))
else
gR h (some this) 9 32 (fun x142 =>
ldI h x142 a0 (fun x147 =>
stI h x142 a0 (x147 + 1) (fun h =>
f_X8_steps_214  h))))))
else
gR h (some this) 9 29 (fun x108 =>
ldI h x108 ((8 * a0) + x81) (fun x114 =>
stI h x108 ((8 * a0) + x81) (x114 - 1) (fun h =>
gR h (some this) 9 31 (fun x119 =>
ldI h x119 a0 (fun x124 =>
stI h x119 a0 (x124 + 1) (fun h =>
f_X8_steps_214  h)))))))))))))))
else
rtV h))))))))
else
rtV h)))
set_option maxHeartbeats 4000000 in
set_option maxRecDepth 100000 in
theorem c_X8_steps (l : Launch) {G : GG} (this : Nat) (a0 : Int32) (a1 : Int32) (h : Hp) (v : Unit) (h1 : Hp) (hq : f_X8_steps this a0 a1 h = some (v, h1)) : Met l yX8_steps (Cond.code yX8_steps cX8_steps 7 none :: GT) rm_X8_steps (va_Pc [.ref this, .int a0, .int a1] (Cn G h)) (Qx G none h1) 0 0 (AA G) := by
  refine xMet (cc := cX8_steps) (by decide) (Nat.le_of_ble_eq_true rfl) (List.forall_mem_cons.mpr ⟨rfl, (List.forall_mem_cons.mpr ⟨rfl, (List.forall_mem_cons.mpr ⟨rfl, (fun _ z => by cases z)⟩)⟩)⟩) ?_
  intro p e s m below meth c ls Z hr hlk hin hR hS hl
  have hx := Z.1
  have hb := Z.2.1
  have hl : LV ls 7 [(0, va_rf (some this)), (1, .int a0), (2, .int a1)] := hl
  unfold f_X8_steps at hq
  refine xiln hx hb hl (x := a1) 2 rfl dX8_steps_0 ?_
  refine xaln hx hb hl (x := (some this)) 0 rfl dX8_steps_1 ?_
  refine xgR Z hR hq fl_X8_84 rfl dX8_steps_2 (fun x2 hq => ?_)
  refine xiln hx hb hl (x := a0) 1 rfl dX8_steps_5 ?_
  refine xaI Z hR hq dX8_steps_6 (fun x6 hq => ?_)
  refine xcGe hx hb hq (tgt := 11) dX8_steps_7 (by decide) (fun hq => ?_) (fun hq => ?_)
  · refine xaln hx hb hl (x := (some this)) 0 rfl dX8_steps_11 ?_
    refine xgR Z hR hq fl_X8_81 rfl dX8_steps_12 (fun x12 hq => ?_)
    refine xiln hx hb hl (x := a0) 1 rfl dX8_steps_15 ?_
    refine xaI Z hR hq dX8_steps_16 (fun x16 hq => ?_)
    refine xisn hx hb hl (x := x16) (lv' := [(3, .int x16), (0, va_rf (some this)), (1, .int a0), (2, .int a1)]) (by decide) dX8_steps_17 rfl (fun ls hl => ?_)
    refine xiln hx hb hl (x := x16) 0 rfl dX8_steps_18 ?_
    refine xaln hx hb hl (x := (some this)) 1 rfl dX8_steps_19 ?_
    refine xiln hx hb hl (x := a0) 2 rfl dX8_steps_20 ?_
    refine xcV Z hR hS hl (rest := [.int x16]) (As := [.int a0]) hq cl_X8_126 (fun b x h1 hc => c_X8_legs l b a0 h x h1 hc) ⟨⟨rfl, rfl⟩, (by decide), (by decide)⟩ rfl rfl (by first | decide | (simp only [List.map_cons, List.map_nil, rf_cat, ct_int, ct_ref, List.sum_cons, List.sum_nil] <;> decide)) dX8_steps_21 (by decide) (fun x21 h H locs hq hR hS => ?_)
    refine xcNe hx hb hq (tgt := 50) dX8_steps_24 (by decide) (fun hq => ?_) (fun hq => ?_)
    · refine xaln hx hb hl (x := (some this)) 1 rfl dX8_steps_50 ?_
      refine xgR Z hR hq fl_X8_63 rfl dX8_steps_51 (fun x51 hq => ?_)
      refine lv_bipush (v := 8) hx hb dX8_steps_54 (by decide) ?_
      refine xiln hx hb hl (x := a0) 2 rfl dX8_steps_56 ?_
      refine lv_imul hx hb dX8_steps_57 ?_
      refine xiln hx hb hl (x := x16) 0 rfl dX8_steps_58 ?_
      refine lv_iadd hx hb dX8_steps_59 ?_
      refine xaI Z hR hq dX8_steps_60 (fun x60 hq => ?_)
      refine xiln hx hb hl (x := a1) 3 rfl dX8_steps_61 ?_
      refine xcLe hx hb hq (tgt := 66) dX8_steps_62 (by decide) (fun hq => ?_) (fun hq => ?_)
      · refine xaln hx hb hl (x := (some this)) 1 rfl dX8_steps_66 ?_
        refine xiln hx hb hl (x := a0) 2 rfl dX8_steps_67 ?_
        refine xiln hx hb hl (x := x16) 0 rfl dX8_steps_68 ?_
        refine xcV Z hR hS hl (rest := []) (As := [.int a0, .int x16]) hq cl_X8_122 (fun b x h1 hc => c_X8_sectionOf l b a0 x16 h x h1 hc) ⟨⟨rfl, rfl⟩, (by decide), (by decide)⟩ rfl rfl (by first | decide | (simp only [List.map_cons, List.map_nil, rf_cat, ct_int, ct_ref, List.sum_cons, List.sum_nil] <;> decide)) dX8_steps_69 (by decide) (fun x69 h H locs hq hR hS => ?_)
        refine xis hx hb hl (x := x69) (lv' := [(4, .int x69), (3, .int x16), (0, va_rf (some this)), (1, .int a0), (2, .int a1)]) (by decide) dX8_steps_72 rfl (fun ls hl => ?_)
        refine lv_bipush (v := 8) hx hb dX8_steps_74 (by decide) ?_
        refine xiln hx hb hl (x := a0) 3 rfl dX8_steps_76 ?_
        refine lv_imul hx hb dX8_steps_77 ?_
        refine xaln hx hb hl (x := (some this)) 2 rfl dX8_steps_78 ?_
        refine xiln hx hb hl (x := a0) 3 rfl dX8_steps_79 ?_
        refine xiln hx hb hl (x := x16) 1 rfl dX8_steps_80 ?_
        refine xcV Z hR hS hl (rest := [.int (8 * a0)]) (As := [.int a0, .int x16]) hq cl_X8_151 (fun b x h1 hc => c_X8_stationOf l b a0 x16 h x h1 hc) ⟨⟨rfl, rfl⟩, (by decide), (by decide)⟩ rfl rfl (by first | decide | (simp only [List.map_cons, List.map_nil, rf_cat, ct_int, ct_ref, List.sum_cons, List.sum_nil] <;> decide)) dX8_steps_81 (by decide) (fun x81 h H locs hq hR hS => ?_)
        refine lv_iadd hx hb dX8_steps_84 ?_
        refine xis hx hb hl (x := ((8 * a0) + x81)) (lv' := [(5, .int ((8 * a0) + x81)), (4, .int x69), (3, .int x16), (0, va_rf (some this)), (1, .int a0), (2, .int a1)]) (by decide) dX8_steps_85 rfl (fun ls hl => ?_)
        refine xaln hx hb hl (x := (some this)) 3 rfl dX8_steps_87 ?_
        refine xiln hx hb hl (x := a0) 4 rfl dX8_steps_88 ?_
        refine xil hx hb hl (x := x69) 1 rfl dX8_steps_89 ?_
        refine xiln hx hb hl (x := a1) 5 rfl dX8_steps_91 ?_
        refine xcV Z hR hS hl (rest := []) (As := [.int a0, .int x69, .int a1]) hq cl_X8_201 (fun b x h1 hc => c_X8_holder l b a0 x69 a1 h x h1 hc) ⟨⟨rfl, rfl⟩, (by decide), (by decide)⟩ rfl rfl (by first | decide | (simp only [List.map_cons, List.map_nil, rf_cat, ct_int, ct_ref, List.sum_cons, List.sum_nil] <;> decide)) dX8_steps_92 (by decide) (fun x92 h H locs hq hR hS => ?_)
        refine xis hx hb hl (x := x92) (lv' := [(6, .int x92), (5, .int ((8 * a0) + x81)), (4, .int x69), (3, .int x16), (0, va_rf (some this)), (1, .int a0), (2, .int a1)]) (by decide) dX8_steps_95 rfl (fun ls hl => ?_)
        refine xaln hx hb hl (x := (some this)) 4 rfl dX8_steps_97 ?_
        refine xgR Z hR hq fl_X8_90 rfl dX8_steps_98 (fun x98 hq => ?_)
        refine xil hx hb hl (x := ((8 * a0) + x81)) 1 rfl dX8_steps_101 ?_
        refine xaI Z hR hq dX8_steps_103 (fun x103 hq => ?_)
        refine xzLe hx hb hq (tgt := 131) dX8_steps_104 (by decide) (fun hq => ?_) (fun hq => ?_)
        · refine xaln hx hb hl (x := (some this)) 4 rfl dX8_steps_131 ?_
          refine xil hx hb hl (x := x69) 2 rfl dX8_steps_132 ?_
          refine xiln hx hb hl (x := a1) 6 rfl dX8_steps_134 ?_
          refine xcV Z hR hS hl (rest := []) (As := [.int x69, .int a1]) hq cl_X8_137 (fun b x h1 hc => c_X8_isClosed l b x69 a1 h x h1 hc) ⟨⟨rfl, rfl⟩, (by decide), (by decide)⟩ rfl rfl (by first | decide | (simp only [List.map_cons, List.map_nil, rf_cat, ct_int, ct_ref, List.sum_cons, List.sum_nil] <;> decide)) dX8_steps_135 (by decide) (fun x135 h H locs hq hR hS => ?_)
          refine xzEq hx hb hq (tgt := 154) dX8_steps_138 (by decide) (fun hq => ?_) (fun hq => ?_)
          · refine xil hx hb hl (x := x92) 0 rfl dX8_steps_154 ?_
            refine lv_iconst (v := (-1)) hx hb dX8_steps_156 (by decide) ?_
            refine xcEq hx hb hq (tgt := 179) dX8_steps_157 (by decide) (fun hq => ?_) (fun hq => ?_)
            · refine xaln hx hb hl (x := (some this)) 4 rfl dX8_steps_179 ?_
              refine xgR Z hR hq fl_X8_93 rfl dX8_steps_180 (fun x180 hq => ?_)
              refine lv_bipush (v := 8) hx hb dX8_steps_183 (by decide) ?_
              refine xiln hx hb hl (x := a0) 5 rfl dX8_steps_185 ?_
              refine lv_imul hx hb dX8_steps_186 ?_
              refine xiln hx hb hl (x := x16) 3 rfl dX8_steps_187 ?_
              refine lv_iadd hx hb dX8_steps_188 ?_
              refine xiln hx hb hl (x := a1) 6 rfl dX8_steps_189 ?_
              refine xsI Z hR hS hq dX8_steps_190 (fun h H locs hq hR hS => ?_)
              refine xaln hx hb hl (x := (some this)) 4 rfl dX8_steps_191 ?_
              refine xgR Z hR hq fl_X8_84 rfl dX8_steps_192 (fun x192 hq => ?_)
              refine xiln hx hb hl (x := a0) 5 rfl dX8_steps_195 ?_
              refine xiln hx hb hl (x := a1) 6 rfl dX8_steps_196 ?_
              refine xaln hx hb hl (x := (some this)) 4 rfl dX8_steps_197 ?_
              refine xiln hx hb hl (x := a0) 5 rfl dX8_steps_198 ?_
              refine xiln hx hb hl (x := x16) 3 rfl dX8_steps_199 ?_
              refine xcV Z hR hS hl (rest := [.int a1, .int a0, va_rf x192]) (As := [.int a0, .int x16]) hq cl_X8_134 (fun b x h1 hc => c_X8_longOf l b a0 x16 h x h1 hc) ⟨⟨rfl, rfl⟩, (by decide), (by decide)⟩ rfl rfl (by first | decide | (simp only [List.map_cons, List.map_nil, rf_cat, ct_int, ct_ref, List.sum_cons, List.sum_nil] <;> decide)) dX8_steps_200 (by decide) (fun x200 h H locs hq hR hS => ?_)
              refine lv_iadd hx hb dX8_steps_203 ?_
              refine xsI Z hR hS hq dX8_steps_204 (fun h H locs hq hR hS => ?_)
              refine xaln hx hb hl (x := (some this)) 4 rfl dX8_steps_205 ?_
              refine xgR Z hR hq fl_X8_81 rfl dX8_steps_206 (fun x206 hq => ?_)
              refine xiln hx hb hl (x := a0) 5 rfl dX8_steps_209 ?_
              refine xiln hx hb hl (x := x16) 3 rfl dX8_steps_210 ?_
              refine lv_iconst (v := 1) hx hb dX8_steps_211 (by decide) ?_
              refine lv_iadd hx hb dX8_steps_212 ?_
              refine xsI Z hR hS hq dX8_steps_213 (fun h H locs hq hR hS => ?_)
              exact t_X8_steps_214 Z hr hlk hin  h _ _ ls hq hR hS (hl.sub [] rfl)
            refine xaln hx hb hl (x := (some this)) 4 rfl dX8_steps_160 ?_
            refine xgR Z hR hq fl_X8_102 rfl dX8_steps_161 (fun x161 hq => ?_)
            refine lv_bipush (v := 16) hx hb dX8_steps_164 (by decide) ?_
            refine xiln hx hb hl (x := a0) 5 rfl dX8_steps_166 ?_
            refine lv_imul hx hb dX8_steps_167 ?_
            refine xil hx hb hl (x := x92) 0 rfl dX8_steps_168 ?_
            refine lv_iadd hx hb dX8_steps_170 ?_
            refine lv_dup2_11 hx hb dX8_steps_171 rfl (rf_cat x161) ?_
            refine xaI Z hR hq dX8_steps_172 (fun x172 hq => ?_)
            refine lv_iconst (v := 1) hx hb dX8_steps_173 (by decide) ?_
            refine lv_iadd hx hb dX8_steps_174 ?_
            refine xsI Z hR hS hq dX8_steps_175 (fun h H locs hq hR hS => ?_)
            refine lv_goto (tgt := 214) hx hb dX8_steps_176 (by decide) ?_
            exact t_X8_steps_214 Z hr hlk hin  h _ _ ls hq hR hS (hl.sub [] rfl)
          refine xaln hx hb hl (x := (some this)) 4 rfl dX8_steps_141 ?_
          refine xgR Z hR hq fl_X8_99 rfl dX8_steps_142 (fun x142 hq => ?_)
          refine xiln hx hb hl (x := a0) 5 rfl dX8_steps_145 ?_
          refine lv_dup2_11 hx hb dX8_steps_146 rfl (rf_cat x142) ?_
          refine xaI Z hR hq dX8_steps_147 (fun x147 hq => ?_)
          refine lv_iconst (v := 1) hx hb dX8_steps_148 (by decide) ?_
          refine lv_iadd hx hb dX8_steps_149 ?_
          refine xsI Z hR hS hq dX8_steps_150 (fun h H locs hq hR hS => ?_)
          refine lv_goto (tgt := 214) hx hb dX8_steps_151 (by decide) ?_
          exact t_X8_steps_214 Z hr hlk hin  h _ _ ls hq hR hS (hl.sub [] rfl)
        refine xaln hx hb hl (x := (some this)) 4 rfl dX8_steps_107 ?_
        refine xgR Z hR hq fl_X8_90 rfl dX8_steps_108 (fun x108 hq => ?_)
        refine xil hx hb hl (x := ((8 * a0) + x81)) 1 rfl dX8_steps_111 ?_
        refine lv_dup2_11 hx hb dX8_steps_113 rfl (rf_cat x108) ?_
        refine xaI Z hR hq dX8_steps_114 (fun x114 hq => ?_)
        refine lv_iconst (v := 1) hx hb dX8_steps_115 (by decide) ?_
        refine lv_isub hx hb dX8_steps_116 ?_
        refine xsI Z hR hS hq dX8_steps_117 (fun h H locs hq hR hS => ?_)
        refine xaln hx hb hl (x := (some this)) 4 rfl dX8_steps_118 ?_
        refine xgR Z hR hq fl_X8_96 rfl dX8_steps_119 (fun x119 hq => ?_)
        refine xiln hx hb hl (x := a0) 5 rfl dX8_steps_122 ?_
        refine lv_dup2_11 hx hb dX8_steps_123 rfl (rf_cat x119) ?_
        refine xaI Z hR hq dX8_steps_124 (fun x124 hq => ?_)
        refine lv_iconst (v := 1) hx hb dX8_steps_125 (by decide) ?_
        refine lv_iadd hx hb dX8_steps_126 ?_
        refine xsI Z hR hS hq dX8_steps_127 (fun h H locs hq hR hS => ?_)
        refine lv_goto (tgt := 214) hx hb dX8_steps_128 (by decide) ?_
        exact t_X8_steps_214 Z hr hlk hin  h _ _ ls hq hR hS (hl.sub [] rfl)
      exact xrV hx hb hr hlk hR hS hq (by decide) (by decide) dX8_steps_65
    refine xaln hx hb hl (x := (some this)) 1 rfl dX8_steps_27 ?_
    refine xgR Z hR hq fl_X8_87 rfl dX8_steps_28 (fun x28 hq => ?_)
    refine xiln hx hb hl (x := a0) 2 rfl dX8_steps_31 ?_
    refine xaI Z hR hq dX8_steps_32 (fun x32 hq => ?_)
    refine lv_iconst (v := (-1)) hx hb dX8_steps_33 (by decide) ?_
    refine xcNe hx hb hq (tgt := 49) dX8_steps_34 (by decide) (fun hq => ?_) (fun hq => ?_)
    · exact t_X8_steps_49 Z hr hlk hin  h _ _ ls hq hR hS (hl.sub [] rfl)
    refine xaln hx hb hl (x := (some this)) 1 rfl dX8_steps_37 ?_
    refine xgR Z hR hq fl_X8_87 rfl dX8_steps_38 (fun x38 hq => ?_)
    refine xiln hx hb hl (x := a0) 2 rfl dX8_steps_41 ?_
    refine xaln hx hb hl (x := (some this)) 1 rfl dX8_steps_42 ?_
    refine xgR Z hR hq fl_X8_84 rfl dX8_steps_43 (fun x43 hq => ?_)
    refine xiln hx hb hl (x := a0) 2 rfl dX8_steps_46 ?_
    refine xaI Z hR hq dX8_steps_47 (fun x47 hq => ?_)
    refine xsI Z hR hS hq dX8_steps_48 (fun h H locs hq hR hS => ?_)
    exact t_X8_steps_49 Z hr hlk hin  h _ _ ls hq hR hS (hl.sub [] rfl)
  exact xrV hx hb hr hlk hR hS hq (by decide) (by decide) dX8_steps_10
abbrev rm_X8_runs : Room := { frames := 4, cells := 0, slots := 0, locals := 97 }
def fb_X8_runs_79  (k6 : Option Nat × Int32 × Hp → Option (Unit × Hp)) (k79 : Option Nat × Int32 × Int32 × Hp → Option (Unit × Hp)) (l0 : Option Nat) (l1 : Int32) (l2 : Int32) (h : Hp) : Option (Unit × Hp) :=
(if 8 ≤ l2 then
k6 (l0, (l1 + 1), h)
else
gR h l0 9 29 (fun x86 =>
gR h l0 9 21 (fun x96 =>
ldI h x96 ((8 * l1) + l2) (fun x105 =>
stI h x86 ((8 * l1) + l2) x105 (fun h =>
gR h l0 9 30 (fun x108 =>
stI h x108 ((8 * l1) + l2) (-1) (fun h =>
k79 (l0, l1, (l2 + 1), h))))))))
set_option maxHeartbeats 4000000 in
set_option maxRecDepth 100000 in
theorem tb_X8_runs_79 (Z : ZZ p s m args c cX8_runs RX8 3 G) (hr : meth.sig.returnType = none) (hlk : meth.locks = false) (hin : meth.name = "runs") {v : Unit} {h1 : Hp} {k6 : Option Nat × Int32 × Hp → Option (Unit × Hp)} (hk6 : ∀ u : Option Nat × Int32 × Hp, k6 u = some (v, h1) → ∀ (H : Heap) (locs : List Loc) (ls : Array Slot), Rep G u.2.2 H → va_S (AA G) s.heap H locs → LV ls 3 [(0, va_rf u.1), (1, .int u.2.1)] → W p l e rm_X8_runs s m args below meth c H locs 0 0 (MQ below (Qx G none h1) args s 0 0 (AA G)) (F0 m 6 ls [])) {k79 : Option Nat × Int32 × Int32 × Hp → Option (Unit × Hp)} (hk79 : ∀ u : Option Nat × Int32 × Int32 × Hp, k79 u = some (v, h1) → ∀ (H : Heap) (locs : List Loc) (ls : Array Slot), Rep G u.2.2.2 H → va_S (AA G) s.heap H locs → LV ls 3 [(0, va_rf u.1), (1, .int u.2.1), (2, .int u.2.2.1)] → W p l e rm_X8_runs s m args below meth c H locs 0 0 (MQ below (Qx G none h1) args s 0 0 (AA G)) (F0 m 79 ls [])) : ∀ (l0 : Option Nat) (l1 : Int32) (l2 : Int32) (h : Hp) (H : Heap) (locs : List Loc) (ls : Array Slot), fb_X8_runs_79 k6 k79 l0 l1 l2 h = some (v, h1) → Rep G h H → va_S (AA G) s.heap H locs → LV ls 3 [(0, va_rf l0), (1, .int l1), (2, .int l2)] → W p l e rm_X8_runs s m args below meth c H locs 0 0 (MQ below (Qx G none h1) args s 0 0 (AA G)) (F0 m 79 ls []) := by
  intro l0 l1 l2 h H locs ls hq hR hS hl
  have hx := Z.1
  have hb := Z.2.1
  unfold fb_X8_runs_79 at hq
  refine xiln hx hb hl (x := l2) 2 rfl dX8_runs_79 ?_
  refine lv_bipush (v := 8) hx hb dX8_runs_80 (by decide) ?_
  refine xcGe hx hb hq (tgt := 125) dX8_runs_82 (by decide) (fun hq => ?_) (fun hq => ?_)
  · refine xinc hx hb hl (x := l1) (v := (l1 + 1)) (lv' := [(1, .int (l1 + 1)), (0, va_rf l0), (2, .int l2)]) 1 rfl (by rw [show Int32.ofInt (1) = (1 : Int32) from by decide]) (by decide) dX8_runs_125 rfl (fun ls hl => ?_)
    refine lv_goto (tgt := 6) hx hb dX8_runs_128 (by decide) ?_
    exact hk6 (l0, (l1 + 1), h) hq H locs ls hR hS (hl.sub [1, 0] rfl)
  refine xaln hx hb hl (x := l0) 0 rfl dX8_runs_85 ?_
  refine xgR Z hR hq fl_X8_90 rfl dX8_runs_86 (fun x86 hq => ?_)
  refine lv_bipush (v := 8) hx hb dX8_runs_89 (by decide) ?_
  refine xiln hx hb hl (x := l1) 1 rfl dX8_runs_91 ?_
  refine lv_imul hx hb dX8_runs_92 ?_
  refine xiln hx hb hl (x := l2) 2 rfl dX8_runs_93 ?_
  refine lv_iadd hx hb dX8_runs_94 ?_
  refine xaln hx hb hl (x := l0) 0 rfl dX8_runs_95 ?_
  refine xgR Z hR hq fl_X8_66 rfl dX8_runs_96 (fun x96 hq => ?_)
  refine lv_bipush (v := 8) hx hb dX8_runs_99 (by decide) ?_
  refine xiln hx hb hl (x := l1) 1 rfl dX8_runs_101 ?_
  refine lv_imul hx hb dX8_runs_102 ?_
  refine xiln hx hb hl (x := l2) 2 rfl dX8_runs_103 ?_
  refine lv_iadd hx hb dX8_runs_104 ?_
  refine xaI Z hR hq dX8_runs_105 (fun x105 hq => ?_)
  refine xsI Z hR hS hq dX8_runs_106 (fun h H locs hq hR hS => ?_)
  refine xaln hx hb hl (x := l0) 0 rfl dX8_runs_107 ?_
  refine xgR Z hR hq fl_X8_93 rfl dX8_runs_108 (fun x108 hq => ?_)
  refine lv_bipush (v := 8) hx hb dX8_runs_111 (by decide) ?_
  refine xiln hx hb hl (x := l1) 1 rfl dX8_runs_113 ?_
  refine lv_imul hx hb dX8_runs_114 ?_
  refine xiln hx hb hl (x := l2) 2 rfl dX8_runs_115 ?_
  refine lv_iadd hx hb dX8_runs_116 ?_
  refine lv_iconst (v := (-1)) hx hb dX8_runs_117 (by decide) ?_
  refine xsI Z hR hS hq dX8_runs_118 (fun h H locs hq hR hS => ?_)
  refine xinc hx hb hl (x := l2) (v := (l2 + 1)) (lv' := [(2, .int (l2 + 1)), (0, va_rf l0), (1, .int l1)]) 2 rfl (by rw [show Int32.ofInt (1) = (1 : Int32) from by decide]) (by decide) dX8_runs_119 rfl (fun ls hl => ?_)
  refine lv_goto (tgt := 79) hx hb dX8_runs_122 (by decide) ?_
  exact hk79 (l0, l1, (l2 + 1), h) hq H locs ls hR hS (hl.sub [1, 2, 0] rfl)
def f_X8_runs_79  (k6 : Option Nat × Int32 × Hp → Option (Unit × Hp)) (l0 : Option Nat) (l1 : Int32) (l2 : Int32) (h : Hp) : Option (Unit × Hp) :=
  lp (fun (k79 : Option Nat × Int32 × Int32 × Hp → Option (Unit × Hp)) (u : Option Nat × Int32 × Int32 × Hp) => fb_X8_runs_79 k6 k79 u.1 u.2.1 u.2.2.1 u.2.2.2) FU (l0, l1, l2, h)
theorem t_X8_runs_79 (Z : ZZ p s m args c cX8_runs RX8 3 G) (hr : meth.sig.returnType = none) (hlk : meth.locks = false) (hin : meth.name = "runs") {v : Unit} {h1 : Hp} {k6 : Option Nat × Int32 × Hp → Option (Unit × Hp)} (hk6 : ∀ u : Option Nat × Int32 × Hp, k6 u = some (v, h1) → ∀ (H : Heap) (locs : List Loc) (ls : Array Slot), Rep G u.2.2 H → va_S (AA G) s.heap H locs → LV ls 3 [(0, va_rf u.1), (1, .int u.2.1)] → W p l e rm_X8_runs s m args below meth c H locs 0 0 (MQ below (Qx G none h1) args s 0 0 (AA G)) (F0 m 6 ls [])) : ∀ (l0 : Option Nat) (l1 : Int32) (l2 : Int32) (h : Hp) (H : Heap) (locs : List Loc) (ls : Array Slot), f_X8_runs_79 k6 l0 l1 l2 h = some (v, h1) → Rep G h H → va_S (AA G) s.heap H locs → LV ls 3 [(0, va_rf l0), (1, .int l1), (2, .int l2)] → W p l e rm_X8_runs s m args below meth c H locs 0 0 (MQ below (Qx G none h1) args s 0 0 (AA G)) (F0 m 79 ls []) := by
  intro l0 l1 l2 h H locs ls hq hR hS hl
  exact lp_ind (P := fun u : Option Nat × Int32 × Int32 × Hp => ∀ (H : Heap) (locs : List Loc) (ls : Array Slot), Rep G u.2.2.2 H → va_S (AA G) s.heap H locs → LV ls 3 [(0, va_rf u.1), (1, .int u.2.1), (2, .int u.2.2.1)] → W p l e rm_X8_runs s m args below meth c H locs 0 0 (MQ below (Qx G none h1) args s 0 0 (AA G)) (F0 m 79 ls [])) (fun k hk u hq H locs ls hR hS hl => tb_X8_runs_79 Z hr hlk hin hk6 hk u.1 u.2.1 u.2.2.1 u.2.2.2 H locs ls hq hR hS hl) FU (l0, l1, l2, h) hq H locs ls hR hS hl
def fb_X8_runs_51  (k6 : Option Nat × Int32 × Hp → Option (Unit × Hp)) (k51 : Option Nat × Int32 × Int32 × Hp → Option (Unit × Hp)) (l0 : Option Nat) (l1 : Int32) (l2 : Int32) (h : Hp) : Option (Unit × Hp) :=
gI h l0 9 9 (fun x53 =>
(if x53 ≤ l2 then
f_X8_runs_79 k6 l0 l1 0 h
else
gR h l0 9 33 (fun x60 =>
stI h x60 ((16 * l1) + l2) 0 (fun h =>
k51 (l0, l1, (l2 + 1), h)))))
set_option maxHeartbeats 4000000 in
set_option maxRecDepth 100000 in
theorem tb_X8_runs_51 (Z : ZZ p s m args c cX8_runs RX8 3 G) (hr : meth.sig.returnType = none) (hlk : meth.locks = false) (hin : meth.name = "runs") {v : Unit} {h1 : Hp} {k6 : Option Nat × Int32 × Hp → Option (Unit × Hp)} (hk6 : ∀ u : Option Nat × Int32 × Hp, k6 u = some (v, h1) → ∀ (H : Heap) (locs : List Loc) (ls : Array Slot), Rep G u.2.2 H → va_S (AA G) s.heap H locs → LV ls 3 [(0, va_rf u.1), (1, .int u.2.1)] → W p l e rm_X8_runs s m args below meth c H locs 0 0 (MQ below (Qx G none h1) args s 0 0 (AA G)) (F0 m 6 ls [])) {k51 : Option Nat × Int32 × Int32 × Hp → Option (Unit × Hp)} (hk51 : ∀ u : Option Nat × Int32 × Int32 × Hp, k51 u = some (v, h1) → ∀ (H : Heap) (locs : List Loc) (ls : Array Slot), Rep G u.2.2.2 H → va_S (AA G) s.heap H locs → LV ls 3 [(0, va_rf u.1), (1, .int u.2.1), (2, .int u.2.2.1)] → W p l e rm_X8_runs s m args below meth c H locs 0 0 (MQ below (Qx G none h1) args s 0 0 (AA G)) (F0 m 51 ls [])) : ∀ (l0 : Option Nat) (l1 : Int32) (l2 : Int32) (h : Hp) (H : Heap) (locs : List Loc) (ls : Array Slot), fb_X8_runs_51 k6 k51 l0 l1 l2 h = some (v, h1) → Rep G h H → va_S (AA G) s.heap H locs → LV ls 3 [(0, va_rf l0), (1, .int l1), (2, .int l2)] → W p l e rm_X8_runs s m args below meth c H locs 0 0 (MQ below (Qx G none h1) args s 0 0 (AA G)) (F0 m 51 ls []) := by
  intro l0 l1 l2 h H locs ls hq hR hS hl
  have hx := Z.1
  have hb := Z.2.1
  unfold fb_X8_runs_51 at hq
  refine xiln hx hb hl (x := l2) 2 rfl dX8_runs_51 ?_
  refine xaln hx hb hl (x := l0) 0 rfl dX8_runs_52 ?_
  refine xgI Z hR hq fl_X8_108 rfl dX8_runs_53 (fun x53 hq => ?_)
  refine xcGe hx hb hq (tgt := 77) dX8_runs_56 (by decide) (fun hq => ?_) (fun hq => ?_)
  · refine lv_iconst (v := 0) hx hb dX8_runs_77 (by decide) ?_
    refine xisn hx hb hl (x := 0) (lv' := [(2, .int 0), (0, va_rf l0), (1, .int l1)]) (by decide) dX8_runs_78 rfl (fun ls hl => ?_)
    exact t_X8_runs_79 Z hr hlk hin hk6 l0 l1 0 h H locs ls hq hR hS (hl.sub [1, 2, 0] rfl)
  refine xaln hx hb hl (x := l0) 0 rfl dX8_runs_59 ?_
  refine xgR Z hR hq fl_X8_102 rfl dX8_runs_60 (fun x60 hq => ?_)
  refine lv_bipush (v := 16) hx hb dX8_runs_63 (by decide) ?_
  refine xiln hx hb hl (x := l1) 1 rfl dX8_runs_65 ?_
  refine lv_imul hx hb dX8_runs_66 ?_
  refine xiln hx hb hl (x := l2) 2 rfl dX8_runs_67 ?_
  refine lv_iadd hx hb dX8_runs_68 ?_
  refine lv_iconst (v := 0) hx hb dX8_runs_69 (by decide) ?_
  refine xsI Z hR hS hq dX8_runs_70 (fun h H locs hq hR hS => ?_)
  refine xinc hx hb hl (x := l2) (v := (l2 + 1)) (lv' := [(2, .int (l2 + 1)), (0, va_rf l0), (1, .int l1)]) 2 rfl (by rw [show Int32.ofInt (1) = (1 : Int32) from by decide]) (by decide) dX8_runs_71 rfl (fun ls hl => ?_)
  refine lv_goto (tgt := 51) hx hb dX8_runs_74 (by decide) ?_
  exact hk51 (l0, l1, (l2 + 1), h) hq H locs ls hR hS (hl.sub [1, 2, 0] rfl)
def f_X8_runs_51  (k6 : Option Nat × Int32 × Hp → Option (Unit × Hp)) (l0 : Option Nat) (l1 : Int32) (l2 : Int32) (h : Hp) : Option (Unit × Hp) :=
  lp (fun (k51 : Option Nat × Int32 × Int32 × Hp → Option (Unit × Hp)) (u : Option Nat × Int32 × Int32 × Hp) => fb_X8_runs_51 k6 k51 u.1 u.2.1 u.2.2.1 u.2.2.2) FU (l0, l1, l2, h)
theorem t_X8_runs_51 (Z : ZZ p s m args c cX8_runs RX8 3 G) (hr : meth.sig.returnType = none) (hlk : meth.locks = false) (hin : meth.name = "runs") {v : Unit} {h1 : Hp} {k6 : Option Nat × Int32 × Hp → Option (Unit × Hp)} (hk6 : ∀ u : Option Nat × Int32 × Hp, k6 u = some (v, h1) → ∀ (H : Heap) (locs : List Loc) (ls : Array Slot), Rep G u.2.2 H → va_S (AA G) s.heap H locs → LV ls 3 [(0, va_rf u.1), (1, .int u.2.1)] → W p l e rm_X8_runs s m args below meth c H locs 0 0 (MQ below (Qx G none h1) args s 0 0 (AA G)) (F0 m 6 ls [])) : ∀ (l0 : Option Nat) (l1 : Int32) (l2 : Int32) (h : Hp) (H : Heap) (locs : List Loc) (ls : Array Slot), f_X8_runs_51 k6 l0 l1 l2 h = some (v, h1) → Rep G h H → va_S (AA G) s.heap H locs → LV ls 3 [(0, va_rf l0), (1, .int l1), (2, .int l2)] → W p l e rm_X8_runs s m args below meth c H locs 0 0 (MQ below (Qx G none h1) args s 0 0 (AA G)) (F0 m 51 ls []) := by
  intro l0 l1 l2 h H locs ls hq hR hS hl
  exact lp_ind (P := fun u : Option Nat × Int32 × Int32 × Hp => ∀ (H : Heap) (locs : List Loc) (ls : Array Slot), Rep G u.2.2.2 H → va_S (AA G) s.heap H locs → LV ls 3 [(0, va_rf u.1), (1, .int u.2.1), (2, .int u.2.2.1)] → W p l e rm_X8_runs s m args below meth c H locs 0 0 (MQ below (Qx G none h1) args s 0 0 (AA G)) (F0 m 51 ls [])) (fun k hk u hq H locs ls hR hS hl => tb_X8_runs_51 Z hr hlk hin hk6 hk u.1 u.2.1 u.2.2.1 u.2.2.2 H locs ls hq hR hS hl) FU (l0, l1, l2, h) hq H locs ls hR hS hl
def f_X8_runs_175  (k133 : Option Nat × Int32 × Hp → Option (Unit × Hp)) (k142 : Option Nat × Int32 × Int32 × Hp → Option (Unit × Hp)) (l0 : Option Nat) (l1 : Int32) (l2 : Int32) (h : Hp) : Option (Unit × Hp) :=
k142 (l0, l1, (l2 + 1), h)
set_option maxHeartbeats 4000000 in
set_option maxRecDepth 100000 in
theorem t_X8_runs_175 (Z : ZZ p s m args c cX8_runs RX8 3 G) (hr : meth.sig.returnType = none) (hlk : meth.locks = false) (hin : meth.name = "runs") {v : Unit} {h1 : Hp} {k133 : Option Nat × Int32 × Hp → Option (Unit × Hp)} (hk133 : ∀ u : Option Nat × Int32 × Hp, k133 u = some (v, h1) → ∀ (H : Heap) (locs : List Loc) (ls : Array Slot), Rep G u.2.2 H → va_S (AA G) s.heap H locs → LV ls 3 [(0, va_rf u.1), (1, .int u.2.1)] → W p l e rm_X8_runs s m args below meth c H locs 0 0 (MQ below (Qx G none h1) args s 0 0 (AA G)) (F0 m 133 ls [])) {k142 : Option Nat × Int32 × Int32 × Hp → Option (Unit × Hp)} (hk142 : ∀ u : Option Nat × Int32 × Int32 × Hp, k142 u = some (v, h1) → ∀ (H : Heap) (locs : List Loc) (ls : Array Slot), Rep G u.2.2.2 H → va_S (AA G) s.heap H locs → LV ls 3 [(0, va_rf u.1), (1, .int u.2.1), (2, .int u.2.2.1)] → W p l e rm_X8_runs s m args below meth c H locs 0 0 (MQ below (Qx G none h1) args s 0 0 (AA G)) (F0 m 142 ls [])) : ∀ (l0 : Option Nat) (l1 : Int32) (l2 : Int32) (h : Hp) (H : Heap) (locs : List Loc) (ls : Array Slot), f_X8_runs_175 k133 k142 l0 l1 l2 h = some (v, h1) → Rep G h H → va_S (AA G) s.heap H locs → LV ls 3 [(0, va_rf l0), (1, .int l1), (2, .int l2)] → W p l e rm_X8_runs s m args below meth c H locs 0 0 (MQ below (Qx G none h1) args s 0 0 (AA G)) (F0 m 175 ls []) := by
  intro l0 l1 l2 h H locs ls hq hR hS hl
  have hx := Z.1
  have hb := Z.2.1
  unfold f_X8_runs_175 at hq
  refine xinc hx hb hl (x := l2) (v := (l2 + 1)) (lv' := [(2, .int (l2 + 1)), (0, va_rf l0), (1, .int l1)]) 2 rfl (by rw [show Int32.ofInt (1) = (1 : Int32) from by decide]) (by decide) dX8_runs_175 rfl (fun ls hl => ?_)
  refine lv_goto (tgt := 142) hx hb dX8_runs_178 (by decide) ?_
  exact hk142 (l0, l1, (l2 + 1), h) hq H locs ls hR hS (hl.sub [1, 2, 0] rfl)
def fb_X8_runs_142  (k133 : Option Nat × Int32 × Hp → Option (Unit × Hp)) (k142 : Option Nat × Int32 × Int32 × Hp → Option (Unit × Hp)) (l0 : Option Nat) (l1 : Int32) (l2 : Int32) (h : Hp) : Option (Unit × Hp) :=
gI h l0 9 9 (fun x144 =>
(if x144 ≤ l2 then
k133 (l0, (l1 + 1), h)
else
gR h l0 9 19 (fun x151 =>
gR h l0 9 24 (fun x155 =>
ldI h x155 l2 (fun x159 =>
ldZ h x151 x159 (fun x160 =>
(if x160 = 0 then
f_X8_runs_175 k133 k142 l0 l1 l2 h
else
gR h l0 9 24 (fun x166 =>
ldI h x166 l2 (fun x170 =>
rcv h l0 9 (fun b172 => bd (f_X8_steps b172 x170 l1 h) (fun u172 h =>
f_X8_runs_175 k133 k142 l0 l1 l2 h)))))))))))
set_option maxHeartbeats 4000000 in
set_option maxRecDepth 100000 in
theorem tb_X8_runs_142 (Z : ZZ p s m args c cX8_runs RX8 3 G) (hr : meth.sig.returnType = none) (hlk : meth.locks = false) (hin : meth.name = "runs") {v : Unit} {h1 : Hp} {k133 : Option Nat × Int32 × Hp → Option (Unit × Hp)} (hk133 : ∀ u : Option Nat × Int32 × Hp, k133 u = some (v, h1) → ∀ (H : Heap) (locs : List Loc) (ls : Array Slot), Rep G u.2.2 H → va_S (AA G) s.heap H locs → LV ls 3 [(0, va_rf u.1), (1, .int u.2.1)] → W p l e rm_X8_runs s m args below meth c H locs 0 0 (MQ below (Qx G none h1) args s 0 0 (AA G)) (F0 m 133 ls [])) {k142 : Option Nat × Int32 × Int32 × Hp → Option (Unit × Hp)} (hk142 : ∀ u : Option Nat × Int32 × Int32 × Hp, k142 u = some (v, h1) → ∀ (H : Heap) (locs : List Loc) (ls : Array Slot), Rep G u.2.2.2 H → va_S (AA G) s.heap H locs → LV ls 3 [(0, va_rf u.1), (1, .int u.2.1), (2, .int u.2.2.1)] → W p l e rm_X8_runs s m args below meth c H locs 0 0 (MQ below (Qx G none h1) args s 0 0 (AA G)) (F0 m 142 ls [])) : ∀ (l0 : Option Nat) (l1 : Int32) (l2 : Int32) (h : Hp) (H : Heap) (locs : List Loc) (ls : Array Slot), fb_X8_runs_142 k133 k142 l0 l1 l2 h = some (v, h1) → Rep G h H → va_S (AA G) s.heap H locs → LV ls 3 [(0, va_rf l0), (1, .int l1), (2, .int l2)] → W p l e rm_X8_runs s m args below meth c H locs 0 0 (MQ below (Qx G none h1) args s 0 0 (AA G)) (F0 m 142 ls []) := by
  intro l0 l1 l2 h H locs ls hq hR hS hl
  have hx := Z.1
  have hb := Z.2.1
  unfold fb_X8_runs_142 at hq
  refine xiln hx hb hl (x := l2) 2 rfl dX8_runs_142 ?_
  refine xaln hx hb hl (x := l0) 0 rfl dX8_runs_143 ?_
  refine xgI Z hR hq fl_X8_108 rfl dX8_runs_144 (fun x144 hq => ?_)
  refine xcGe hx hb hq (tgt := 181) dX8_runs_147 (by decide) (fun hq => ?_) (fun hq => ?_)
  · refine xinc hx hb hl (x := l1) (v := (l1 + 1)) (lv' := [(1, .int (l1 + 1)), (0, va_rf l0), (2, .int l2)]) 1 rfl (by rw [show Int32.ofInt (1) = (1 : Int32) from by decide]) (by decide) dX8_runs_181 rfl (fun ls hl => ?_)
    refine lv_goto (tgt := 133) hx hb dX8_runs_184 (by decide) ?_
    exact hk133 (l0, (l1 + 1), h) hq H locs ls hR hS (hl.sub [1, 0] rfl)
  refine xaln hx hb hl (x := l0) 0 rfl dX8_runs_150 ?_
  refine xgR Z hR hq fl_X8_60 rfl dX8_runs_151 (fun x151 hq => ?_)
  refine xaln hx hb hl (x := l0) 0 rfl dX8_runs_154 ?_
  refine xgR Z hR hq fl_X8_75 rfl dX8_runs_155 (fun x155 hq => ?_)
  refine xiln hx hb hl (x := l2) 2 rfl dX8_runs_158 ?_
  refine xaI Z hR hq dX8_runs_159 (fun x159 hq => ?_)
  refine xaZ Z hR hq dX8_runs_160 (fun x160 hq => ?_)
  refine xzEq hx hb hq (tgt := 175) dX8_runs_161 (by decide) (fun hq => ?_) (fun hq => ?_)
  · exact t_X8_runs_175 Z hr hlk hin hk133 hk142 l0 l1 l2 h H locs ls hq hR hS (hl.sub [0, 1, 2] rfl)
  refine xaln hx hb hl (x := l0) 0 rfl dX8_runs_164 ?_
  refine xaln hx hb hl (x := l0) 0 rfl dX8_runs_165 ?_
  refine xgR Z hR hq fl_X8_75 rfl dX8_runs_166 (fun x166 hq => ?_)
  refine xiln hx hb hl (x := l2) 2 rfl dX8_runs_169 ?_
  refine xaI Z hR hq dX8_runs_170 (fun x170 hq => ?_)
  refine xiln hx hb hl (x := l1) 1 rfl dX8_runs_171 ?_
  refine xcV Z hR hS hl (rest := []) (As := [.int x170, .int l1]) hq cl_X8_197 (fun b x h1 hc => c_X8_steps l b x170 l1 h x h1 hc) ⟨⟨rfl, rfl⟩, (by decide), (by decide)⟩ rfl rfl (by first | decide | (simp only [List.map_cons, List.map_nil, rf_cat, ct_int, ct_ref, List.sum_cons, List.sum_nil] <;> decide)) dX8_runs_172 (by decide) (fun u172 h H locs hq hR hS => ?_)
  exact t_X8_runs_175 Z hr hlk hin hk133 hk142 l0 l1 l2 h H locs ls hq hR hS (hl.sub [0, 1, 2] rfl)
def f_X8_runs_142  (k133 : Option Nat × Int32 × Hp → Option (Unit × Hp)) (l0 : Option Nat) (l1 : Int32) (l2 : Int32) (h : Hp) : Option (Unit × Hp) :=
  lp (fun (k142 : Option Nat × Int32 × Int32 × Hp → Option (Unit × Hp)) (u : Option Nat × Int32 × Int32 × Hp) => fb_X8_runs_142 k133 k142 u.1 u.2.1 u.2.2.1 u.2.2.2) FU (l0, l1, l2, h)
theorem t_X8_runs_142 (Z : ZZ p s m args c cX8_runs RX8 3 G) (hr : meth.sig.returnType = none) (hlk : meth.locks = false) (hin : meth.name = "runs") {v : Unit} {h1 : Hp} {k133 : Option Nat × Int32 × Hp → Option (Unit × Hp)} (hk133 : ∀ u : Option Nat × Int32 × Hp, k133 u = some (v, h1) → ∀ (H : Heap) (locs : List Loc) (ls : Array Slot), Rep G u.2.2 H → va_S (AA G) s.heap H locs → LV ls 3 [(0, va_rf u.1), (1, .int u.2.1)] → W p l e rm_X8_runs s m args below meth c H locs 0 0 (MQ below (Qx G none h1) args s 0 0 (AA G)) (F0 m 133 ls [])) : ∀ (l0 : Option Nat) (l1 : Int32) (l2 : Int32) (h : Hp) (H : Heap) (locs : List Loc) (ls : Array Slot), f_X8_runs_142 k133 l0 l1 l2 h = some (v, h1) → Rep G h H → va_S (AA G) s.heap H locs → LV ls 3 [(0, va_rf l0), (1, .int l1), (2, .int l2)] → W p l e rm_X8_runs s m args below meth c H locs 0 0 (MQ below (Qx G none h1) args s 0 0 (AA G)) (F0 m 142 ls []) := by
  intro l0 l1 l2 h H locs ls hq hR hS hl
  exact lp_ind (P := fun u : Option Nat × Int32 × Int32 × Hp => ∀ (H : Heap) (locs : List Loc) (ls : Array Slot), Rep G u.2.2.2 H → va_S (AA G) s.heap H locs → LV ls 3 [(0, va_rf u.1), (1, .int u.2.1), (2, .int u.2.2.1)] → W p l e rm_X8_runs s m args below meth c H locs 0 0 (MQ below (Qx G none h1) args s 0 0 (AA G)) (F0 m 142 ls [])) (fun k hk u hq H locs ls hR hS hl => tb_X8_runs_142 Z hr hlk hin hk133 hk u.1 u.2.1 u.2.2.1 u.2.2.2 H locs ls hq hR hS hl) FU (l0, l1, l2, h) hq H locs ls hR hS hl
def fb_X8_runs_133  (k133 : Option Nat × Int32 × Hp → Option (Unit × Hp)) (l0 : Option Nat) (l1 : Int32) (h : Hp) : Option (Unit × Hp) :=
(if 480 ≤ l1 then
rtV h
else
f_X8_runs_142 k133 l0 l1 0 h)
set_option maxHeartbeats 4000000 in
set_option maxRecDepth 100000 in
theorem tb_X8_runs_133 (Z : ZZ p s m args c cX8_runs RX8 3 G) (hr : meth.sig.returnType = none) (hlk : meth.locks = false) (hin : meth.name = "runs") {v : Unit} {h1 : Hp} {k133 : Option Nat × Int32 × Hp → Option (Unit × Hp)} (hk133 : ∀ u : Option Nat × Int32 × Hp, k133 u = some (v, h1) → ∀ (H : Heap) (locs : List Loc) (ls : Array Slot), Rep G u.2.2 H → va_S (AA G) s.heap H locs → LV ls 3 [(0, va_rf u.1), (1, .int u.2.1)] → W p l e rm_X8_runs s m args below meth c H locs 0 0 (MQ below (Qx G none h1) args s 0 0 (AA G)) (F0 m 133 ls [])) : ∀ (l0 : Option Nat) (l1 : Int32) (h : Hp) (H : Heap) (locs : List Loc) (ls : Array Slot), fb_X8_runs_133 k133 l0 l1 h = some (v, h1) → Rep G h H → va_S (AA G) s.heap H locs → LV ls 3 [(0, va_rf l0), (1, .int l1)] → W p l e rm_X8_runs s m args below meth c H locs 0 0 (MQ below (Qx G none h1) args s 0 0 (AA G)) (F0 m 133 ls []) := by
  intro l0 l1 h H locs ls hq hR hS hl
  have hx := Z.1
  have hb := Z.2.1
  unfold fb_X8_runs_133 at hq
  refine xiln hx hb hl (x := l1) 1 rfl dX8_runs_133 ?_
  refine lv_sipush (v := 480) hx hb dX8_runs_134 (by decide) ?_
  refine xcGe hx hb hq (tgt := 187) dX8_runs_137 (by decide) (fun hq => ?_) (fun hq => ?_)
  · exact xrV hx hb hr hlk hR hS hq (by decide) (by decide) dX8_runs_187
  refine lv_iconst (v := 0) hx hb dX8_runs_140 (by decide) ?_
  refine xisn hx hb hl (x := 0) (lv' := [(2, .int 0), (0, va_rf l0), (1, .int l1)]) (by decide) dX8_runs_141 rfl (fun ls hl => ?_)
  exact t_X8_runs_142 Z hr hlk hin hk133 l0 l1 0 h H locs ls hq hR hS (hl.sub [1, 2, 0] rfl)
def f_X8_runs_133  (l0 : Option Nat) (l1 : Int32) (h : Hp) : Option (Unit × Hp) :=
  lp (fun (k133 : Option Nat × Int32 × Hp → Option (Unit × Hp)) (u : Option Nat × Int32 × Hp) => fb_X8_runs_133 k133 u.1 u.2.1 u.2.2) FU (l0, l1, h)
theorem t_X8_runs_133 (Z : ZZ p s m args c cX8_runs RX8 3 G) (hr : meth.sig.returnType = none) (hlk : meth.locks = false) (hin : meth.name = "runs") {v : Unit} {h1 : Hp} : ∀ (l0 : Option Nat) (l1 : Int32) (h : Hp) (H : Heap) (locs : List Loc) (ls : Array Slot), f_X8_runs_133 l0 l1 h = some (v, h1) → Rep G h H → va_S (AA G) s.heap H locs → LV ls 3 [(0, va_rf l0), (1, .int l1)] → W p l e rm_X8_runs s m args below meth c H locs 0 0 (MQ below (Qx G none h1) args s 0 0 (AA G)) (F0 m 133 ls []) := by
  intro l0 l1 h H locs ls hq hR hS hl
  exact lp_ind (P := fun u : Option Nat × Int32 × Hp => ∀ (H : Heap) (locs : List Loc) (ls : Array Slot), Rep G u.2.2 H → va_S (AA G) s.heap H locs → LV ls 3 [(0, va_rf u.1), (1, .int u.2.1)] → W p l e rm_X8_runs s m args below meth c H locs 0 0 (MQ below (Qx G none h1) args s 0 0 (AA G)) (F0 m 133 ls [])) (fun k hk u hq H locs ls hR hS hl => tb_X8_runs_133 Z hr hlk hin hk u.1 u.2.1 u.2.2 H locs ls hq hR hS hl) FU (l0, l1, h) hq H locs ls hR hS hl
def fb_X8_runs_6  (k6 : Option Nat × Int32 × Hp → Option (Unit × Hp)) (l0 : Option Nat) (l1 : Int32) (h : Hp) : Option (Unit × Hp) :=
gI h l0 9 9 (fun x8 =>
(if x8 ≤ l1 then
f_X8_runs_133 l0 0 h
else
gR h l0 9 26 (fun x15 =>
stI h x15 l1 0 (fun h =>
gR h l0 9 27 (fun x22 =>
stI h x22 l1 0 (fun h =>
gR h l0 9 28 (fun x29 =>
stI h x29 l1 (-1) (fun h =>
gR h l0 9 31 (fun x36 =>
stI h x36 l1 0 (fun h =>
gR h l0 9 32 (fun x43 =>
stI h x43 l1 0 (fun h =>
f_X8_runs_51 k6 l0 l1 0 h))))))))))))
set_option maxHeartbeats 4000000 in
set_option maxRecDepth 100000 in
theorem tb_X8_runs_6 (Z : ZZ p s m args c cX8_runs RX8 3 G) (hr : meth.sig.returnType = none) (hlk : meth.locks = false) (hin : meth.name = "runs") {v : Unit} {h1 : Hp} {k6 : Option Nat × Int32 × Hp → Option (Unit × Hp)} (hk6 : ∀ u : Option Nat × Int32 × Hp, k6 u = some (v, h1) → ∀ (H : Heap) (locs : List Loc) (ls : Array Slot), Rep G u.2.2 H → va_S (AA G) s.heap H locs → LV ls 3 [(0, va_rf u.1), (1, .int u.2.1)] → W p l e rm_X8_runs s m args below meth c H locs 0 0 (MQ below (Qx G none h1) args s 0 0 (AA G)) (F0 m 6 ls [])) : ∀ (l0 : Option Nat) (l1 : Int32) (h : Hp) (H : Heap) (locs : List Loc) (ls : Array Slot), fb_X8_runs_6 k6 l0 l1 h = some (v, h1) → Rep G h H → va_S (AA G) s.heap H locs → LV ls 3 [(0, va_rf l0), (1, .int l1)] → W p l e rm_X8_runs s m args below meth c H locs 0 0 (MQ below (Qx G none h1) args s 0 0 (AA G)) (F0 m 6 ls []) := by
  intro l0 l1 h H locs ls hq hR hS hl
  have hx := Z.1
  have hb := Z.2.1
  unfold fb_X8_runs_6 at hq
  refine xiln hx hb hl (x := l1) 1 rfl dX8_runs_6 ?_
  refine xaln hx hb hl (x := l0) 0 rfl dX8_runs_7 ?_
  refine xgI Z hR hq fl_X8_108 rfl dX8_runs_8 (fun x8 hq => ?_)
  refine xcGe hx hb hq (tgt := 131) dX8_runs_11 (by decide) (fun hq => ?_) (fun hq => ?_)
  · refine lv_iconst (v := 0) hx hb dX8_runs_131 (by decide) ?_
    refine xisn hx hb hl (x := 0) (lv' := [(1, .int 0), (0, va_rf l0)]) (by decide) dX8_runs_132 rfl (fun ls hl => ?_)
    exact t_X8_runs_133 Z hr hlk hin l0 0 h H locs ls hq hR hS (hl.sub [1, 0] rfl)
  refine xaln hx hb hl (x := l0) 0 rfl dX8_runs_14 ?_
  refine xgR Z hR hq fl_X8_81 rfl dX8_runs_15 (fun x15 hq => ?_)
  refine xiln hx hb hl (x := l1) 1 rfl dX8_runs_18 ?_
  refine lv_iconst (v := 0) hx hb dX8_runs_19 (by decide) ?_
  refine xsI Z hR hS hq dX8_runs_20 (fun h H locs hq hR hS => ?_)
  refine xaln hx hb hl (x := l0) 0 rfl dX8_runs_21 ?_
  refine xgR Z hR hq fl_X8_84 rfl dX8_runs_22 (fun x22 hq => ?_)
  refine xiln hx hb hl (x := l1) 1 rfl dX8_runs_25 ?_
  refine lv_iconst (v := 0) hx hb dX8_runs_26 (by decide) ?_
  refine xsI Z hR hS hq dX8_runs_27 (fun h H locs hq hR hS => ?_)
  refine xaln hx hb hl (x := l0) 0 rfl dX8_runs_28 ?_
  refine xgR Z hR hq fl_X8_87 rfl dX8_runs_29 (fun x29 hq => ?_)
  refine xiln hx hb hl (x := l1) 1 rfl dX8_runs_32 ?_
  refine lv_iconst (v := (-1)) hx hb dX8_runs_33 (by decide) ?_
  refine xsI Z hR hS hq dX8_runs_34 (fun h H locs hq hR hS => ?_)
  refine xaln hx hb hl (x := l0) 0 rfl dX8_runs_35 ?_
  refine xgR Z hR hq fl_X8_96 rfl dX8_runs_36 (fun x36 hq => ?_)
  refine xiln hx hb hl (x := l1) 1 rfl dX8_runs_39 ?_
  refine lv_iconst (v := 0) hx hb dX8_runs_40 (by decide) ?_
  refine xsI Z hR hS hq dX8_runs_41 (fun h H locs hq hR hS => ?_)
  refine xaln hx hb hl (x := l0) 0 rfl dX8_runs_42 ?_
  refine xgR Z hR hq fl_X8_99 rfl dX8_runs_43 (fun x43 hq => ?_)
  refine xiln hx hb hl (x := l1) 1 rfl dX8_runs_46 ?_
  refine lv_iconst (v := 0) hx hb dX8_runs_47 (by decide) ?_
  refine xsI Z hR hS hq dX8_runs_48 (fun h H locs hq hR hS => ?_)
  refine lv_iconst (v := 0) hx hb dX8_runs_49 (by decide) ?_
  refine xisn hx hb hl (x := 0) (lv' := [(2, .int 0), (0, va_rf l0), (1, .int l1)]) (by decide) dX8_runs_50 rfl (fun ls hl => ?_)
  exact t_X8_runs_51 Z hr hlk hin hk6 l0 l1 0 h H locs ls hq hR hS (hl.sub [1, 2, 0] rfl)
def f_X8_runs_6  (l0 : Option Nat) (l1 : Int32) (h : Hp) : Option (Unit × Hp) :=
  lp (fun (k6 : Option Nat × Int32 × Hp → Option (Unit × Hp)) (u : Option Nat × Int32 × Hp) => fb_X8_runs_6 k6 u.1 u.2.1 u.2.2) FU (l0, l1, h)
theorem t_X8_runs_6 (Z : ZZ p s m args c cX8_runs RX8 3 G) (hr : meth.sig.returnType = none) (hlk : meth.locks = false) (hin : meth.name = "runs") {v : Unit} {h1 : Hp} : ∀ (l0 : Option Nat) (l1 : Int32) (h : Hp) (H : Heap) (locs : List Loc) (ls : Array Slot), f_X8_runs_6 l0 l1 h = some (v, h1) → Rep G h H → va_S (AA G) s.heap H locs → LV ls 3 [(0, va_rf l0), (1, .int l1)] → W p l e rm_X8_runs s m args below meth c H locs 0 0 (MQ below (Qx G none h1) args s 0 0 (AA G)) (F0 m 6 ls []) := by
  intro l0 l1 h H locs ls hq hR hS hl
  exact lp_ind (P := fun u : Option Nat × Int32 × Hp => ∀ (H : Heap) (locs : List Loc) (ls : Array Slot), Rep G u.2.2 H → va_S (AA G) s.heap H locs → LV ls 3 [(0, va_rf u.1), (1, .int u.2.1)] → W p l e rm_X8_runs s m args below meth c H locs 0 0 (MQ below (Qx G none h1) args s 0 0 (AA G)) (F0 m 6 ls [])) (fun k hk u hq H locs ls hR hS hl => tb_X8_runs_6 Z hr hlk hin hk u.1 u.2.1 u.2.2 H locs ls hq hR hS hl) FU (l0, l1, h) hq H locs ls hR hS hl
def f_X8_runs (this : Nat) (h : Hp) : Option (Unit × Hp) :=
rcv h (some this) 9 (fun b1 => bd (f_X8_ranks b1 h) (fun u1 h =>
f_X8_runs_6 (some this) 0 h))
set_option maxHeartbeats 4000000 in
set_option maxRecDepth 100000 in
theorem c_X8_runs (l : Launch) {G : GG} (this : Nat) (h : Hp) (v : Unit) (h1 : Hp) (hq : f_X8_runs this h = some (v, h1)) : Met l yX8_runs (Cond.code yX8_runs cX8_runs 3 none :: GT) rm_X8_runs (va_Pc [.ref this] (Cn G h)) (Qx G none h1) 0 0 (AA G) := by
  refine xMet (cc := cX8_runs) (by decide) (Nat.le_of_ble_eq_true rfl) (List.forall_mem_cons.mpr ⟨rfl, (fun _ z => by cases z)⟩) ?_
  intro p e s m below meth c ls Z hr hlk hin hR hS hl
  have hx := Z.1
  have hb := Z.2.1
  have hl : LV ls 3 [(0, va_rf (some this))] := hl
  unfold f_X8_runs at hq
  refine xaln hx hb hl (x := (some this)) 0 rfl dX8_runs_0 ?_
  refine xcV Z hR hS hl (rest := []) (As := []) hq cl_X8_175 (fun b x h1 hc => c_X8_ranks l b h x h1 hc) ⟨⟨rfl, rfl⟩, (by decide), (by decide)⟩ rfl rfl (by first | decide | (simp only [List.map_cons, List.map_nil, rf_cat, ct_int, ct_ref, List.sum_cons, List.sum_nil] <;> decide)) dX8_runs_1 (by decide) (fun u1 h H locs hq hR hS => ?_)
  refine lv_iconst (v := 0) hx hb dX8_runs_4 (by decide) ?_
  refine xisn hx hb hl (x := 0) (lv' := [(1, .int 0), (0, va_rf (some this))]) (by decide) dX8_runs_5 rfl (fun ls hl => ?_)
  exact t_X8_runs_6 Z hr hlk hin (some this) 0 h _ _ ls hq hR hS (hl.sub [1, 0] rfl)
abbrev rm_X8_ran : Room := { frames := 5, cells := 0, slots := 0, locals := 119 }
def f_X8_ran_26   (h : Hp) : Option (Int32 × Hp) :=
rtI (-1) h
set_option maxHeartbeats 4000000 in
set_option maxRecDepth 100000 in
theorem t_X8_ran_26 (Z : ZZ p s m args c cX8_ran RX8 6 G) (hr : meth.sig.returnType = (some .int)) (hlk : meth.locks = false) (hin : meth.name = "ran") {v : Int32} {h1 : Hp} : ∀  (h : Hp) (H : Heap) (locs : List Loc) (ls : Array Slot), f_X8_ran_26  h = some (v, h1) → Rep G h H → va_S (AA G) s.heap H locs → LV ls 6 [] → W p l e rm_X8_ran s m args below meth c H locs 0 0 (MQ below (Qx G (some (.int v)) h1) args s 0 0 (AA G)) (F0 m 26 ls []) := by
  intro  h H locs ls hq hR hS hl
  have hx := Z.1
  have hb := Z.2.1
  unfold f_X8_ran_26 at hq
  refine lv_iconst (v := (-1)) hx hb dX8_ran_26 (by decide) ?_
  exact xrI hx hb hr hlk hR hS hq (by decide) (by decide) dX8_ran_27
def fb_X8_ran_73  (k73 : Option Nat × Int32 × Int32 × Int32 × Int32 × Int32 × Hp → Option (Int32 × Hp)) (l0 : Option Nat) (l1 : Int32) (l2 : Int32) (l3 : Int32) (l4 : Int32) (l5 : Int32) (h : Hp) : Option (Int32 × Hp) :=
gI h l0 9 9 (fun x76 =>
(if x76 ≤ l5 then
(if l2 = 0 then
gR h l0 9 28 (fun x141 =>
ldI h x141 l1 (fun x145 =>
rtI x145 h))
else
if l2 = 1 then
rtI l3 h
else
if l2 = 2 then
gR h l0 9 31 (fun x150 =>
ldI h x150 l1 (fun x154 =>
rtI x154 h))
else
if l2 = 3 then
gR h l0 9 32 (fun x157 =>
ldI h x157 l1 (fun x161 =>
rtI x161 h))
else
if l2 = 4 then
rtI l4 h
else
gR h l0 9 31 (fun x167 =>
ldI h x167 l1 (fun x171 =>
gR h l0 9 32 (fun x173 =>
ldI h x173 l1 (fun x177 =>
rtI (((x171 + x177) + l4) - l3) h)))))
else
gR h l0 9 33 (fun x85 =>
ldI h x85 ((16 * l1) + l5) (fun x95 =>
k73 (l0, l1, l2, l3, (l4 + x95), (l5 + 1), h)))))
set_option maxHeartbeats 4000000 in
set_option maxRecDepth 100000 in
theorem tb_X8_ran_73 (Z : ZZ p s m args c cX8_ran RX8 6 G) (hr : meth.sig.returnType = (some .int)) (hlk : meth.locks = false) (hin : meth.name = "ran") {v : Int32} {h1 : Hp} {k73 : Option Nat × Int32 × Int32 × Int32 × Int32 × Int32 × Hp → Option (Int32 × Hp)} (hk73 : ∀ u : Option Nat × Int32 × Int32 × Int32 × Int32 × Int32 × Hp, k73 u = some (v, h1) → ∀ (H : Heap) (locs : List Loc) (ls : Array Slot), Rep G u.2.2.2.2.2.2 H → va_S (AA G) s.heap H locs → LV ls 6 [(0, va_rf u.1), (1, .int u.2.1), (2, .int u.2.2.1), (3, .int u.2.2.2.1), (4, .int u.2.2.2.2.1), (5, .int u.2.2.2.2.2.1)] → W p l e rm_X8_ran s m args below meth c H locs 0 0 (MQ below (Qx G (some (.int v)) h1) args s 0 0 (AA G)) (F0 m 73 ls [])) : ∀ (l0 : Option Nat) (l1 : Int32) (l2 : Int32) (l3 : Int32) (l4 : Int32) (l5 : Int32) (h : Hp) (H : Heap) (locs : List Loc) (ls : Array Slot), fb_X8_ran_73 k73 l0 l1 l2 l3 l4 l5 h = some (v, h1) → Rep G h H → va_S (AA G) s.heap H locs → LV ls 6 [(0, va_rf l0), (1, .int l1), (2, .int l2), (3, .int l3), (4, .int l4), (5, .int l5)] → W p l e rm_X8_ran s m args below meth c H locs 0 0 (MQ below (Qx G (some (.int v)) h1) args s 0 0 (AA G)) (F0 m 73 ls []) := by
  intro l0 l1 l2 l3 l4 l5 h H locs ls hq hR hS hl
  have hx := Z.1
  have hb := Z.2.1
  unfold fb_X8_ran_73 at hq
  refine xil hx hb hl (x := l5) 5 rfl dX8_ran_73 ?_
  refine xaln hx hb hl (x := l0) 0 rfl dX8_ran_75 ?_
  refine xgI Z hR hq fl_X8_108 rfl dX8_ran_76 (fun x76 hq => ?_)
  refine xcGe hx hb hq (tgt := 105) dX8_ran_79 (by decide) (fun hq => ?_) (fun hq => ?_)
  · refine xiln hx hb hl (x := l2) 2 rfl dX8_ran_105 ?_
    by_cases e106_0 : l2 = 0
    · have hq := ite_t hq e106_0
      refine lv_tableIn (x := l2) (off := 34) (tgt := 140) hx hb dX8_ran_106 (by rw [e106_0]; decide) (by rw [e106_0]; decide) (by rw [e106_0]; rfl) (by decide) ?_
      refine xaln hx hb hl (x := l0) 0 rfl dX8_ran_140 ?_
      refine xgR Z hR hq fl_X8_87 rfl dX8_ran_141 (fun x141 hq => ?_)
      refine xiln hx hb hl (x := l1) 1 rfl dX8_ran_144 ?_
      refine xaI Z hR hq dX8_ran_145 (fun x145 hq => ?_)
      exact xrI hx hb hr hlk hR hS hq (by decide) (by decide) dX8_ran_146
    replace hq := ite_f hq e106_0
    by_cases e106_1 : l2 = 1
    · have hq := ite_t hq e106_1
      refine lv_tableIn (x := l2) (off := 41) (tgt := 147) hx hb dX8_ran_106 (by rw [e106_1]; decide) (by rw [e106_1]; decide) (by rw [e106_1]; rfl) (by decide) ?_
      refine xiln hx hb hl (x := l3) 3 rfl dX8_ran_147 ?_
      exact xrI hx hb hr hlk hR hS hq (by decide) (by decide) dX8_ran_148
    replace hq := ite_f hq e106_1
    by_cases e106_2 : l2 = 2
    · have hq := ite_t hq e106_2
      refine lv_tableIn (x := l2) (off := 43) (tgt := 149) hx hb dX8_ran_106 (by rw [e106_2]; decide) (by rw [e106_2]; decide) (by rw [e106_2]; rfl) (by decide) ?_
      refine xaln hx hb hl (x := l0) 0 rfl dX8_ran_149 ?_
      refine xgR Z hR hq fl_X8_96 rfl dX8_ran_150 (fun x150 hq => ?_)
      refine xiln hx hb hl (x := l1) 1 rfl dX8_ran_153 ?_
      refine xaI Z hR hq dX8_ran_154 (fun x154 hq => ?_)
      exact xrI hx hb hr hlk hR hS hq (by decide) (by decide) dX8_ran_155
    replace hq := ite_f hq e106_2
    by_cases e106_3 : l2 = 3
    · have hq := ite_t hq e106_3
      refine lv_tableIn (x := l2) (off := 50) (tgt := 156) hx hb dX8_ran_106 (by rw [e106_3]; decide) (by rw [e106_3]; decide) (by rw [e106_3]; rfl) (by decide) ?_
      refine xaln hx hb hl (x := l0) 0 rfl dX8_ran_156 ?_
      refine xgR Z hR hq fl_X8_99 rfl dX8_ran_157 (fun x157 hq => ?_)
      refine xiln hx hb hl (x := l1) 1 rfl dX8_ran_160 ?_
      refine xaI Z hR hq dX8_ran_161 (fun x161 hq => ?_)
      exact xrI hx hb hr hlk hR hS hq (by decide) (by decide) dX8_ran_162
    replace hq := ite_f hq e106_3
    by_cases e106_4 : l2 = 4
    · have hq := ite_t hq e106_4
      refine lv_tableIn (x := l2) (off := 57) (tgt := 163) hx hb dX8_ran_106 (by rw [e106_4]; decide) (by rw [e106_4]; decide) (by rw [e106_4]; rfl) (by decide) ?_
      refine xil hx hb hl (x := l4) 4 rfl dX8_ran_163 ?_
      exact xrI hx hb hr hlk hR hS hq (by decide) (by decide) dX8_ran_165
    replace hq := ite_f hq e106_4
    refine lv_tableOut (x := l2) (tgt := 166) hx hb dX8_ran_106 (sw_out 5 (by decide) (by intro j hj; match j, hj with | 0, _ => exact e106_0 | 1, _ => exact e106_1 | 2, _ => exact e106_2 | 3, _ => exact e106_3 | 4, _ => exact e106_4 | j + 5, hj => exact absurd hj (by omega))) (by decide) ?_
    refine xaln hx hb hl (x := l0) 0 rfl dX8_ran_166 ?_
    refine xgR Z hR hq fl_X8_96 rfl dX8_ran_167 (fun x167 hq => ?_)
    refine xiln hx hb hl (x := l1) 1 rfl dX8_ran_170 ?_
    refine xaI Z hR hq dX8_ran_171 (fun x171 hq => ?_)
    refine xaln hx hb hl (x := l0) 0 rfl dX8_ran_172 ?_
    refine xgR Z hR hq fl_X8_99 rfl dX8_ran_173 (fun x173 hq => ?_)
    refine xiln hx hb hl (x := l1) 1 rfl dX8_ran_176 ?_
    refine xaI Z hR hq dX8_ran_177 (fun x177 hq => ?_)
    refine lv_iadd hx hb dX8_ran_178 ?_
    refine xil hx hb hl (x := l4) 4 rfl dX8_ran_179 ?_
    refine lv_iadd hx hb dX8_ran_181 ?_
    refine xiln hx hb hl (x := l3) 3 rfl dX8_ran_182 ?_
    refine lv_isub hx hb dX8_ran_183 ?_
    exact xrI hx hb hr hlk hR hS hq (by decide) (by decide) dX8_ran_184
  refine xil hx hb hl (x := l4) 4 rfl dX8_ran_82 ?_
  refine xaln hx hb hl (x := l0) 0 rfl dX8_ran_84 ?_
  refine xgR Z hR hq fl_X8_102 rfl dX8_ran_85 (fun x85 hq => ?_)
  refine lv_bipush (v := 16) hx hb dX8_ran_88 (by decide) ?_
  refine xiln hx hb hl (x := l1) 1 rfl dX8_ran_90 ?_
  refine lv_imul hx hb dX8_ran_91 ?_
  refine xil hx hb hl (x := l5) 5 rfl dX8_ran_92 ?_
  refine lv_iadd hx hb dX8_ran_94 ?_
  refine xaI Z hR hq dX8_ran_95 (fun x95 hq => ?_)
  refine lv_iadd hx hb dX8_ran_96 ?_
  refine xis hx hb hl (x := (l4 + x95)) (lv' := [(4, .int (l4 + x95)), (0, va_rf l0), (1, .int l1), (2, .int l2), (3, .int l3), (5, .int l5)]) (by decide) dX8_ran_97 rfl (fun ls hl => ?_)
  refine xinc hx hb hl (x := l5) (v := (l5 + 1)) (lv' := [(5, .int (l5 + 1)), (4, .int (l4 + x95)), (0, va_rf l0), (1, .int l1), (2, .int l2), (3, .int l3)]) 5 rfl (by rw [show Int32.ofInt (1) = (1 : Int32) from by decide]) (by decide) dX8_ran_99 rfl (fun ls hl => ?_)
  refine lv_goto (tgt := 73) hx hb dX8_ran_102 (by decide) ?_
  exact hk73 (l0, l1, l2, l3, (l4 + x95), (l5 + 1), h) hq H locs ls hR hS (hl.sub [2, 3, 4, 5, 1, 0] rfl)
def f_X8_ran_73  (l0 : Option Nat) (l1 : Int32) (l2 : Int32) (l3 : Int32) (l4 : Int32) (l5 : Int32) (h : Hp) : Option (Int32 × Hp) :=
  lp (fun (k73 : Option Nat × Int32 × Int32 × Int32 × Int32 × Int32 × Hp → Option (Int32 × Hp)) (u : Option Nat × Int32 × Int32 × Int32 × Int32 × Int32 × Hp) => fb_X8_ran_73 k73 u.1 u.2.1 u.2.2.1 u.2.2.2.1 u.2.2.2.2.1 u.2.2.2.2.2.1 u.2.2.2.2.2.2) FU (l0, l1, l2, l3, l4, l5, h)
theorem t_X8_ran_73 (Z : ZZ p s m args c cX8_ran RX8 6 G) (hr : meth.sig.returnType = (some .int)) (hlk : meth.locks = false) (hin : meth.name = "ran") {v : Int32} {h1 : Hp} : ∀ (l0 : Option Nat) (l1 : Int32) (l2 : Int32) (l3 : Int32) (l4 : Int32) (l5 : Int32) (h : Hp) (H : Heap) (locs : List Loc) (ls : Array Slot), f_X8_ran_73 l0 l1 l2 l3 l4 l5 h = some (v, h1) → Rep G h H → va_S (AA G) s.heap H locs → LV ls 6 [(0, va_rf l0), (1, .int l1), (2, .int l2), (3, .int l3), (4, .int l4), (5, .int l5)] → W p l e rm_X8_ran s m args below meth c H locs 0 0 (MQ below (Qx G (some (.int v)) h1) args s 0 0 (AA G)) (F0 m 73 ls []) := by
  intro l0 l1 l2 l3 l4 l5 h H locs ls hq hR hS hl
  exact lp_ind (P := fun u : Option Nat × Int32 × Int32 × Int32 × Int32 × Int32 × Hp => ∀ (H : Heap) (locs : List Loc) (ls : Array Slot), Rep G u.2.2.2.2.2.2 H → va_S (AA G) s.heap H locs → LV ls 6 [(0, va_rf u.1), (1, .int u.2.1), (2, .int u.2.2.1), (3, .int u.2.2.2.1), (4, .int u.2.2.2.2.1), (5, .int u.2.2.2.2.2.1)] → W p l e rm_X8_ran s m args below meth c H locs 0 0 (MQ below (Qx G (some (.int v)) h1) args s 0 0 (AA G)) (F0 m 73 ls [])) (fun k hk u hq H locs ls hR hS hl => tb_X8_ran_73 Z hr hlk hin hk u.1 u.2.1 u.2.2.1 u.2.2.2.1 u.2.2.2.2.1 u.2.2.2.2.2.1 u.2.2.2.2.2.2 H locs ls hq hR hS hl) FU (l0, l1, l2, l3, l4, l5, h) hq H locs ls hR hS hl
def f_X8_ran (this : Nat) (a0 : Int32) (a1 : Int32) (h : Hp) : Option (Int32 × Hp) :=
rcv h (some this) 9 (fun b2 => bd (f_X8_isBid b2 a0 h) (fun x2 h =>
(if x2 = 0 then
f_X8_ran_26  h
else
gR h (some this) 9 19 (fun x9 =>
ldZ h x9 a0 (fun x13 =>
(if x13 = 0 then
f_X8_ran_26  h
else
bd (f_X8_in a1 0 5 h) (fun x20 h =>
(if x20 = 0 then
f_X8_ran_26  h
else
rcv h (some this) 9 (fun b29 => bd (f_X8_runs b29 h) (fun u29 h =>
gR h (some this) 9 28 (fun x33 =>
ldI h x33 a0 (fun x37 =>
(if x37 = (-1) then
rtI (-1) h
else
gR h (some this) 9 28 (fun x45 =>
ldI h x45 a0 (fun x49 =>
gR h (some this) 9 20 (fun x51 =>
rcv h (some this) 9 (fun b60 => bd (f_X8_legs b60 a0 h) (fun x60 h =>
ldI h x51 ((8 * a0) + x60) (fun x64 =>
f_X8_ran_73 (some this) a0 a1 (x49 - x64) 0 0 h)))))))))))))))))))
set_option maxHeartbeats 4000000 in
set_option maxRecDepth 100000 in
theorem c_X8_ran (l : Launch) {G : GG} (this : Nat) (a0 : Int32) (a1 : Int32) (h : Hp) (v : Int32) (h1 : Hp) (hq : f_X8_ran this a0 a1 h = some (v, h1)) : Met l yX8_ran (Cond.code yX8_ran cX8_ran 6 (some .int) :: GT) rm_X8_ran (va_Pc [.ref this, .int a0, .int a1] (Cn G h)) (Qx G (some (.int v)) h1) 0 0 (AA G) := by
  refine xMet (cc := cX8_ran) (by decide) (Nat.le_of_ble_eq_true rfl) (List.forall_mem_cons.mpr ⟨rfl, (List.forall_mem_cons.mpr ⟨rfl, (List.forall_mem_cons.mpr ⟨rfl, (fun _ z => by cases z)⟩)⟩)⟩) ?_
  intro p e s m below meth c ls Z hr hlk hin hR hS hl
  have hx := Z.1
  have hb := Z.2.1
  have hl : LV ls 6 [(0, va_rf (some this)), (1, .int a0), (2, .int a1)] := hl
  unfold f_X8_ran at hq
  refine xaln hx hb hl (x := (some this)) 0 rfl dX8_ran_0 ?_
  refine xiln hx hb hl (x := a0) 1 rfl dX8_ran_1 ?_
  refine xcV Z hR hS hl (rest := []) (As := [.int a0]) hq cl_X8_118 (fun b x h1 hc => c_X8_isBid l b a0 h x h1 hc) ⟨⟨rfl, rfl⟩, (by decide), (by decide)⟩ rfl rfl (by first | decide | (simp only [List.map_cons, List.map_nil, rf_cat, ct_int, ct_ref, List.sum_cons, List.sum_nil] <;> decide)) dX8_ran_2 (by decide) (fun x2 h H locs hq hR hS => ?_)
  refine xzEq hx hb hq (tgt := 26) dX8_ran_5 (by decide) (fun hq => ?_) (fun hq => ?_)
  · exact t_X8_ran_26 Z hr hlk hin  h _ _ ls hq hR hS (hl.sub [] rfl)
  refine xaln hx hb hl (x := (some this)) 0 rfl dX8_ran_8 ?_
  refine xgR Z hR hq fl_X8_60 rfl dX8_ran_9 (fun x9 hq => ?_)
  refine xiln hx hb hl (x := a0) 1 rfl dX8_ran_12 ?_
  refine xaZ Z hR hq dX8_ran_13 (fun x13 hq => ?_)
  refine xzEq hx hb hq (tgt := 26) dX8_ran_14 (by decide) (fun hq => ?_) (fun hq => ?_)
  · exact t_X8_ran_26 Z hr hlk hin  h _ _ ls hq hR hS (hl.sub [] rfl)
  refine xiln hx hb hl (x := a1) 2 rfl dX8_ran_17 ?_
  refine lv_iconst (v := 0) hx hb dX8_ran_18 (by decide) ?_
  refine lv_iconst (v := 5) hx hb dX8_ran_19 (by decide) ?_
  refine xcS Z hR hS hl (rest := []) (As := [.int a1, .int 0, .int 5]) hq cl_X8_111 (fun x h1 hc => c_X8_in l a1 0 5 h x h1 hc) ⟨⟨rfl, rfl⟩, (by decide), (by decide)⟩ rfl rfl (by first | decide | (simp only [List.map_cons, List.map_nil, rf_cat, ct_int, ct_ref, List.sum_cons, List.sum_nil] <;> decide)) dX8_ran_20 (by decide) (fun x20 h H locs hq hR hS => ?_)
  refine xzNe hx hb hq (tgt := 28) dX8_ran_23 (by decide) (fun hq => ?_) (fun hq => ?_)
  · refine xaln hx hb hl (x := (some this)) 0 rfl dX8_ran_28 ?_
    refine xcV Z hR hS hl (rest := []) (As := []) hq cl_X8_205 (fun b x h1 hc => c_X8_runs l b h x h1 hc) ⟨⟨rfl, rfl⟩, (by decide), (by decide)⟩ rfl rfl (by first | decide | (simp only [List.map_cons, List.map_nil, rf_cat, ct_int, ct_ref, List.sum_cons, List.sum_nil] <;> decide)) dX8_ran_29 (by decide) (fun u29 h H locs hq hR hS => ?_)
    refine xaln hx hb hl (x := (some this)) 0 rfl dX8_ran_32 ?_
    refine xgR Z hR hq fl_X8_87 rfl dX8_ran_33 (fun x33 hq => ?_)
    refine xiln hx hb hl (x := a0) 1 rfl dX8_ran_36 ?_
    refine xaI Z hR hq dX8_ran_37 (fun x37 hq => ?_)
    refine lv_iconst (v := (-1)) hx hb dX8_ran_38 (by decide) ?_
    refine xcNe hx hb hq (tgt := 44) dX8_ran_39 (by decide) (fun hq => ?_) (fun hq => ?_)
    · refine xaln hx hb hl (x := (some this)) 0 rfl dX8_ran_44 ?_
      refine xgR Z hR hq fl_X8_87 rfl dX8_ran_45 (fun x45 hq => ?_)
      refine xiln hx hb hl (x := a0) 1 rfl dX8_ran_48 ?_
      refine xaI Z hR hq dX8_ran_49 (fun x49 hq => ?_)
      refine xaln hx hb hl (x := (some this)) 0 rfl dX8_ran_50 ?_
      refine xgR Z hR hq fl_X8_63 rfl dX8_ran_51 (fun x51 hq => ?_)
      refine lv_bipush (v := 8) hx hb dX8_ran_54 (by decide) ?_
      refine xiln hx hb hl (x := a0) 1 rfl dX8_ran_56 ?_
      refine lv_imul hx hb dX8_ran_57 ?_
      refine xaln hx hb hl (x := (some this)) 0 rfl dX8_ran_58 ?_
      refine xiln hx hb hl (x := a0) 1 rfl dX8_ran_59 ?_
      refine xcV Z hR hS hl (rest := [.int (8 * a0), va_rf x51, .int x49]) (As := [.int a0]) hq cl_X8_126 (fun b x h1 hc => c_X8_legs l b a0 h x h1 hc) ⟨⟨rfl, rfl⟩, (by decide), (by decide)⟩ rfl rfl (by first | decide | (simp only [List.map_cons, List.map_nil, rf_cat, ct_int, ct_ref, List.sum_cons, List.sum_nil] <;> decide)) dX8_ran_60 (by decide) (fun x60 h H locs hq hR hS => ?_)
      refine lv_iadd hx hb dX8_ran_63 ?_
      refine xaI Z hR hq dX8_ran_64 (fun x64 hq => ?_)
      refine lv_isub hx hb dX8_ran_65 ?_
      refine xisn hx hb hl (x := (x49 - x64)) (lv' := [(3, .int (x49 - x64)), (0, va_rf (some this)), (1, .int a0), (2, .int a1)]) (by decide) dX8_ran_66 rfl (fun ls hl => ?_)
      refine lv_iconst (v := 0) hx hb dX8_ran_67 (by decide) ?_
      refine xis hx hb hl (x := 0) (lv' := [(4, .int 0), (3, .int (x49 - x64)), (0, va_rf (some this)), (1, .int a0), (2, .int a1)]) (by decide) dX8_ran_68 rfl (fun ls hl => ?_)
      refine lv_iconst (v := 0) hx hb dX8_ran_70 (by decide) ?_
      refine xis hx hb hl (x := 0) (lv' := [(5, .int 0), (4, .int 0), (3, .int (x49 - x64)), (0, va_rf (some this)), (1, .int a0), (2, .int a1)]) (by decide) dX8_ran_71 rfl (fun ls hl => ?_)
      exact t_X8_ran_73 Z hr hlk hin (some this) a0 a1 (x49 - x64) 0 0 h _ _ ls hq hR hS (hl.sub [3, 4, 5, 2, 1, 0] rfl)
    refine lv_iconst (v := (-1)) hx hb dX8_ran_42 (by decide) ?_
    exact xrI hx hb hr hlk hR hS hq (by decide) (by decide) dX8_ran_43
  exact t_X8_ran_26 Z hr hlk hin  h _ _ ls hq hR hS (hl.sub [] rfl)
abbrev rm_X8_blame : Room := { frames := 5, cells := 0, slots := 0, locals := 119 }
def f_X8_blame_16   (h : Hp) : Option (Int32 × Hp) :=
rtI (-1) h
set_option maxHeartbeats 4000000 in
set_option maxRecDepth 100000 in
theorem t_X8_blame_16 (Z : ZZ p s m args c cX8_blame RX8 3 G) (hr : meth.sig.returnType = (some .int)) (hlk : meth.locks = false) (hin : meth.name = "blame") {v : Int32} {h1 : Hp} : ∀  (h : Hp) (H : Heap) (locs : List Loc) (ls : Array Slot), f_X8_blame_16  h = some (v, h1) → Rep G h H → va_S (AA G) s.heap H locs → LV ls 3 [] → W p l e rm_X8_blame s m args below meth c H locs 0 0 (MQ below (Qx G (some (.int v)) h1) args s 0 0 (AA G)) (F0 m 16 ls []) := by
  intro  h H locs ls hq hR hS hl
  have hx := Z.1
  have hb := Z.2.1
  unfold f_X8_blame_16 at hq
  refine lv_iconst (v := (-1)) hx hb dX8_blame_16 (by decide) ?_
  exact xrI hx hb hr hlk hR hS hq (by decide) (by decide) dX8_blame_17
def f_X8_blame (this : Nat) (a0 : Int32) (a1 : Int32) (h : Hp) : Option (Int32 × Hp) :=
rcv h (some this) 9 (fun b2 => bd (f_X8_isBid b2 a0 h) (fun x2 h =>
(if x2 = 0 then
f_X8_blame_16  h
else
rcv h (some this) 9 (fun b10 => bd (f_X8_isBid b10 a1 h) (fun x10 h =>
(if x10 = 0 then
f_X8_blame_16  h
else
rcv h (some this) 9 (fun b19 => bd (f_X8_runs b19 h) (fun u19 h =>
gR h (some this) 9 33 (fun x23 =>
ldI h x23 ((16 * a0) + a1) (fun x32 =>
rtI x32 h))))))))))
set_option maxHeartbeats 4000000 in
set_option maxRecDepth 100000 in
theorem c_X8_blame (l : Launch) {G : GG} (this : Nat) (a0 : Int32) (a1 : Int32) (h : Hp) (v : Int32) (h1 : Hp) (hq : f_X8_blame this a0 a1 h = some (v, h1)) : Met l yX8_blame (Cond.code yX8_blame cX8_blame 3 (some .int) :: GT) rm_X8_blame (va_Pc [.ref this, .int a0, .int a1] (Cn G h)) (Qx G (some (.int v)) h1) 0 0 (AA G) := by
  refine xMet (cc := cX8_blame) (by decide) (Nat.le_of_ble_eq_true rfl) (List.forall_mem_cons.mpr ⟨rfl, (List.forall_mem_cons.mpr ⟨rfl, (List.forall_mem_cons.mpr ⟨rfl, (fun _ z => by cases z)⟩)⟩)⟩) ?_
  intro p e s m below meth c ls Z hr hlk hin hR hS hl
  have hx := Z.1
  have hb := Z.2.1
  have hl : LV ls 3 [(0, va_rf (some this)), (1, .int a0), (2, .int a1)] := hl
  unfold f_X8_blame at hq
  refine xaln hx hb hl (x := (some this)) 0 rfl dX8_blame_0 ?_
  refine xiln hx hb hl (x := a0) 1 rfl dX8_blame_1 ?_
  refine xcV Z hR hS hl (rest := []) (As := [.int a0]) hq cl_X8_118 (fun b x h1 hc => c_X8_isBid l b a0 h x h1 hc) ⟨⟨rfl, rfl⟩, (by decide), (by decide)⟩ rfl rfl (by first | decide | (simp only [List.map_cons, List.map_nil, rf_cat, ct_int, ct_ref, List.sum_cons, List.sum_nil] <;> decide)) dX8_blame_2 (by decide) (fun x2 h H locs hq hR hS => ?_)
  refine xzEq hx hb hq (tgt := 16) dX8_blame_5 (by decide) (fun hq => ?_) (fun hq => ?_)
  · exact t_X8_blame_16 Z hr hlk hin  h _ _ ls hq hR hS (hl.sub [] rfl)
  refine xaln hx hb hl (x := (some this)) 0 rfl dX8_blame_8 ?_
  refine xiln hx hb hl (x := a1) 2 rfl dX8_blame_9 ?_
  refine xcV Z hR hS hl (rest := []) (As := [.int a1]) hq cl_X8_118 (fun b x h1 hc => c_X8_isBid l b a1 h x h1 hc) ⟨⟨rfl, rfl⟩, (by decide), (by decide)⟩ rfl rfl (by first | decide | (simp only [List.map_cons, List.map_nil, rf_cat, ct_int, ct_ref, List.sum_cons, List.sum_nil] <;> decide)) dX8_blame_10 (by decide) (fun x10 h H locs hq hR hS => ?_)
  refine xzNe hx hb hq (tgt := 18) dX8_blame_13 (by decide) (fun hq => ?_) (fun hq => ?_)
  · refine xaln hx hb hl (x := (some this)) 0 rfl dX8_blame_18 ?_
    refine xcV Z hR hS hl (rest := []) (As := []) hq cl_X8_205 (fun b x h1 hc => c_X8_runs l b h x h1 hc) ⟨⟨rfl, rfl⟩, (by decide), (by decide)⟩ rfl rfl (by first | decide | (simp only [List.map_cons, List.map_nil, rf_cat, ct_int, ct_ref, List.sum_cons, List.sum_nil] <;> decide)) dX8_blame_19 (by decide) (fun u19 h H locs hq hR hS => ?_)
    refine xaln hx hb hl (x := (some this)) 0 rfl dX8_blame_22 ?_
    refine xgR Z hR hq fl_X8_102 rfl dX8_blame_23 (fun x23 hq => ?_)
    refine lv_bipush (v := 16) hx hb dX8_blame_26 (by decide) ?_
    refine xiln hx hb hl (x := a0) 1 rfl dX8_blame_28 ?_
    refine lv_imul hx hb dX8_blame_29 ?_
    refine xiln hx hb hl (x := a1) 2 rfl dX8_blame_30 ?_
    refine lv_iadd hx hb dX8_blame_31 ?_
    refine xaI Z hR hq dX8_blame_32 (fun x32 hq => ?_)
    exact xrI hx hb hr hlk hR hS hq (by decide) (by decide) dX8_blame_33
  exact t_X8_blame_16 Z hr hlk hin  h _ _ ls hq hR hS (hl.sub [] rfl)
abbrev rm_X8_balance : Room := { frames := 5, cells := 0, slots := 0, locals := 119 }
def f_X8_balance_109  (k19 : Option Nat × Int32 × Int32 × Int32 × Hp → Option (Int32 × Hp)) (k30 : Option Nat × Int32 × Int32 × Int32 × Int32 × Hp → Option (Int32 × Hp)) (l0 : Option Nat) (l1 : Int32) (l2 : Int32) (l3 : Int32) (l4 : Int32) (h : Hp) : Option (Int32 × Hp) :=
k30 (l0, l1, l2, l3, (l4 + 1), h)
set_option maxHeartbeats 4000000 in
set_option maxRecDepth 100000 in
theorem t_X8_balance_109 (Z : ZZ p s m args c cX8_balance RX8 5 G) (hr : meth.sig.returnType = (some .int)) (hlk : meth.locks = false) (hin : meth.name = "balance") {v : Int32} {h1 : Hp} {k19 : Option Nat × Int32 × Int32 × Int32 × Hp → Option (Int32 × Hp)} (hk19 : ∀ u : Option Nat × Int32 × Int32 × Int32 × Hp, k19 u = some (v, h1) → ∀ (H : Heap) (locs : List Loc) (ls : Array Slot), Rep G u.2.2.2.2 H → va_S (AA G) s.heap H locs → LV ls 5 [(0, va_rf u.1), (1, .int u.2.1), (2, .int u.2.2.1), (3, .int u.2.2.2.1)] → W p l e rm_X8_balance s m args below meth c H locs 0 0 (MQ below (Qx G (some (.int v)) h1) args s 0 0 (AA G)) (F0 m 19 ls [])) {k30 : Option Nat × Int32 × Int32 × Int32 × Int32 × Hp → Option (Int32 × Hp)} (hk30 : ∀ u : Option Nat × Int32 × Int32 × Int32 × Int32 × Hp, k30 u = some (v, h1) → ∀ (H : Heap) (locs : List Loc) (ls : Array Slot), Rep G u.2.2.2.2.2 H → va_S (AA G) s.heap H locs → LV ls 5 [(0, va_rf u.1), (1, .int u.2.1), (2, .int u.2.2.1), (3, .int u.2.2.2.1), (4, .int u.2.2.2.2.1)] → W p l e rm_X8_balance s m args below meth c H locs 0 0 (MQ below (Qx G (some (.int v)) h1) args s 0 0 (AA G)) (F0 m 30 ls [])) : ∀ (l0 : Option Nat) (l1 : Int32) (l2 : Int32) (l3 : Int32) (l4 : Int32) (h : Hp) (H : Heap) (locs : List Loc) (ls : Array Slot), f_X8_balance_109 k19 k30 l0 l1 l2 l3 l4 h = some (v, h1) → Rep G h H → va_S (AA G) s.heap H locs → LV ls 5 [(0, va_rf l0), (1, .int l1), (2, .int l2), (3, .int l3), (4, .int l4)] → W p l e rm_X8_balance s m args below meth c H locs 0 0 (MQ below (Qx G (some (.int v)) h1) args s 0 0 (AA G)) (F0 m 109 ls []) := by
  intro l0 l1 l2 l3 l4 h H locs ls hq hR hS hl
  have hx := Z.1
  have hb := Z.2.1
  unfold f_X8_balance_109 at hq
  refine xinc hx hb hl (x := l4) (v := (l4 + 1)) (lv' := [(4, .int (l4 + 1)), (0, va_rf l0), (1, .int l1), (2, .int l2), (3, .int l3)]) 4 rfl (by rw [show Int32.ofInt (1) = (1 : Int32) from by decide]) (by decide) dX8_balance_109 rfl (fun ls hl => ?_)
  refine lv_goto (tgt := 30) hx hb dX8_balance_112 (by decide) ?_
  exact hk30 (l0, l1, l2, l3, (l4 + 1), h) hq H locs ls hR hS (hl.sub [1, 2, 3, 4, 0] rfl)
def f_X8_balance_83  (k19 : Option Nat × Int32 × Int32 × Int32 × Hp → Option (Int32 × Hp)) (k30 : Option Nat × Int32 × Int32 × Int32 × Int32 × Hp → Option (Int32 × Hp)) (l0 : Option Nat) (l1 : Int32) (l2 : Int32) (l3 : Int32) (l4 : Int32) (h : Hp) : Option (Int32 × Hp) :=
gR h l0 9 10 (fun x84 =>
ldI h x84 l4 (fun x89 =>
(if x89 = l1 then
gR h l0 9 33 (fun x96 =>
ldI h x96 ((16 * l3) + l4) (fun x106 =>
f_X8_balance_109 k19 k30 l0 l1 (l2 - x106) l3 l4 h))
else
f_X8_balance_109 k19 k30 l0 l1 l2 l3 l4 h)))
set_option maxHeartbeats 4000000 in
set_option maxRecDepth 100000 in
theorem t_X8_balance_83 (Z : ZZ p s m args c cX8_balance RX8 5 G) (hr : meth.sig.returnType = (some .int)) (hlk : meth.locks = false) (hin : meth.name = "balance") {v : Int32} {h1 : Hp} {k19 : Option Nat × Int32 × Int32 × Int32 × Hp → Option (Int32 × Hp)} (hk19 : ∀ u : Option Nat × Int32 × Int32 × Int32 × Hp, k19 u = some (v, h1) → ∀ (H : Heap) (locs : List Loc) (ls : Array Slot), Rep G u.2.2.2.2 H → va_S (AA G) s.heap H locs → LV ls 5 [(0, va_rf u.1), (1, .int u.2.1), (2, .int u.2.2.1), (3, .int u.2.2.2.1)] → W p l e rm_X8_balance s m args below meth c H locs 0 0 (MQ below (Qx G (some (.int v)) h1) args s 0 0 (AA G)) (F0 m 19 ls [])) {k30 : Option Nat × Int32 × Int32 × Int32 × Int32 × Hp → Option (Int32 × Hp)} (hk30 : ∀ u : Option Nat × Int32 × Int32 × Int32 × Int32 × Hp, k30 u = some (v, h1) → ∀ (H : Heap) (locs : List Loc) (ls : Array Slot), Rep G u.2.2.2.2.2 H → va_S (AA G) s.heap H locs → LV ls 5 [(0, va_rf u.1), (1, .int u.2.1), (2, .int u.2.2.1), (3, .int u.2.2.2.1), (4, .int u.2.2.2.2.1)] → W p l e rm_X8_balance s m args below meth c H locs 0 0 (MQ below (Qx G (some (.int v)) h1) args s 0 0 (AA G)) (F0 m 30 ls [])) : ∀ (l0 : Option Nat) (l1 : Int32) (l2 : Int32) (l3 : Int32) (l4 : Int32) (h : Hp) (H : Heap) (locs : List Loc) (ls : Array Slot), f_X8_balance_83 k19 k30 l0 l1 l2 l3 l4 h = some (v, h1) → Rep G h H → va_S (AA G) s.heap H locs → LV ls 5 [(0, va_rf l0), (1, .int l1), (2, .int l2), (3, .int l3), (4, .int l4)] → W p l e rm_X8_balance s m args below meth c H locs 0 0 (MQ below (Qx G (some (.int v)) h1) args s 0 0 (AA G)) (F0 m 83 ls []) := by
  intro l0 l1 l2 l3 l4 h H locs ls hq hR hS hl
  have hx := Z.1
  have hb := Z.2.1
  unfold f_X8_balance_83 at hq
  refine xaln hx hb hl (x := l0) 0 rfl dX8_balance_83 ?_
  refine xgR Z hR hq fl_X8_33 rfl dX8_balance_84 (fun x84 hq => ?_)
  refine xil hx hb hl (x := l4) 4 rfl dX8_balance_87 ?_
  refine xaI Z hR hq dX8_balance_89 (fun x89 hq => ?_)
  refine xiln hx hb hl (x := l1) 1 rfl dX8_balance_90 ?_
  refine xcNe hx hb hq (tgt := 109) dX8_balance_91 (by decide) (fun hq => ?_) (fun hq => ?_)
  · exact t_X8_balance_109 Z hr hlk hin hk19 hk30 l0 l1 l2 l3 l4 h H locs ls hq hR hS (hl.sub [0, 1, 2, 3, 4] rfl)
  refine xiln hx hb hl (x := l2) 2 rfl dX8_balance_94 ?_
  refine xaln hx hb hl (x := l0) 0 rfl dX8_balance_95 ?_
  refine xgR Z hR hq fl_X8_102 rfl dX8_balance_96 (fun x96 hq => ?_)
  refine lv_bipush (v := 16) hx hb dX8_balance_99 (by decide) ?_
  refine xiln hx hb hl (x := l3) 3 rfl dX8_balance_101 ?_
  refine lv_imul hx hb dX8_balance_102 ?_
  refine xil hx hb hl (x := l4) 4 rfl dX8_balance_103 ?_
  refine lv_iadd hx hb dX8_balance_105 ?_
  refine xaI Z hR hq dX8_balance_106 (fun x106 hq => ?_)
  refine lv_isub hx hb dX8_balance_107 ?_
  refine xisn hx hb hl (x := (l2 - x106)) (lv' := [(2, .int (l2 - x106)), (0, va_rf l0), (1, .int l1), (3, .int l3), (4, .int l4)]) (by decide) dX8_balance_108 rfl (fun ls hl => ?_)
  exact t_X8_balance_109 Z hr hlk hin hk19 hk30 l0 l1 (l2 - x106) l3 l4 h H locs ls hq hR hS (hl.sub [1, 2, 0, 3, 4] rfl)
def fb_X8_balance_30  (k19 : Option Nat × Int32 × Int32 × Int32 × Hp → Option (Int32 × Hp)) (k30 : Option Nat × Int32 × Int32 × Int32 × Int32 × Hp → Option (Int32 × Hp)) (l0 : Option Nat) (l1 : Int32) (l2 : Int32) (l3 : Int32) (l4 : Int32) (h : Hp) : Option (Int32 × Hp) :=
gI h l0 9 9 (fun x33 =>
(if x33 ≤ l4 then
k19 (l0, l1, l2, (l3 + 1), h)
else
gR h l0 9 10 (fun x40 =>
ldI h x40 l3 (fun x44 =>
gR h l0 9 10 (fun x46 =>
ldI h x46 l4 (fun x51 =>
(if x44 = x51 then
f_X8_balance_109 k19 k30 l0 l1 l2 l3 l4 h
else
gR h l0 9 10 (fun x59 =>
ldI h x59 l3 (fun x63 =>
(if x63 = l1 then
gR h l0 9 33 (fun x70 =>
ldI h x70 ((16 * l3) + l4) (fun x80 =>
f_X8_balance_83 k19 k30 l0 l1 (l2 + x80) l3 l4 h))
else
f_X8_balance_83 k19 k30 l0 l1 l2 l3 l4 h))))))))))
set_option maxHeartbeats 4000000 in
set_option maxRecDepth 100000 in
theorem tb_X8_balance_30 (Z : ZZ p s m args c cX8_balance RX8 5 G) (hr : meth.sig.returnType = (some .int)) (hlk : meth.locks = false) (hin : meth.name = "balance") {v : Int32} {h1 : Hp} {k19 : Option Nat × Int32 × Int32 × Int32 × Hp → Option (Int32 × Hp)} (hk19 : ∀ u : Option Nat × Int32 × Int32 × Int32 × Hp, k19 u = some (v, h1) → ∀ (H : Heap) (locs : List Loc) (ls : Array Slot), Rep G u.2.2.2.2 H → va_S (AA G) s.heap H locs → LV ls 5 [(0, va_rf u.1), (1, .int u.2.1), (2, .int u.2.2.1), (3, .int u.2.2.2.1)] → W p l e rm_X8_balance s m args below meth c H locs 0 0 (MQ below (Qx G (some (.int v)) h1) args s 0 0 (AA G)) (F0 m 19 ls [])) {k30 : Option Nat × Int32 × Int32 × Int32 × Int32 × Hp → Option (Int32 × Hp)} (hk30 : ∀ u : Option Nat × Int32 × Int32 × Int32 × Int32 × Hp, k30 u = some (v, h1) → ∀ (H : Heap) (locs : List Loc) (ls : Array Slot), Rep G u.2.2.2.2.2 H → va_S (AA G) s.heap H locs → LV ls 5 [(0, va_rf u.1), (1, .int u.2.1), (2, .int u.2.2.1), (3, .int u.2.2.2.1), (4, .int u.2.2.2.2.1)] → W p l e rm_X8_balance s m args below meth c H locs 0 0 (MQ below (Qx G (some (.int v)) h1) args s 0 0 (AA G)) (F0 m 30 ls [])) : ∀ (l0 : Option Nat) (l1 : Int32) (l2 : Int32) (l3 : Int32) (l4 : Int32) (h : Hp) (H : Heap) (locs : List Loc) (ls : Array Slot), fb_X8_balance_30 k19 k30 l0 l1 l2 l3 l4 h = some (v, h1) → Rep G h H → va_S (AA G) s.heap H locs → LV ls 5 [(0, va_rf l0), (1, .int l1), (2, .int l2), (3, .int l3), (4, .int l4)] → W p l e rm_X8_balance s m args below meth c H locs 0 0 (MQ below (Qx G (some (.int v)) h1) args s 0 0 (AA G)) (F0 m 30 ls []) := by
  intro l0 l1 l2 l3 l4 h H locs ls hq hR hS hl
  have hx := Z.1
  have hb := Z.2.1
  unfold fb_X8_balance_30 at hq
  refine xil hx hb hl (x := l4) 4 rfl dX8_balance_30 ?_
  refine xaln hx hb hl (x := l0) 0 rfl dX8_balance_32 ?_
  refine xgI Z hR hq fl_X8_108 rfl dX8_balance_33 (fun x33 hq => ?_)
  refine xcGe hx hb hq (tgt := 115) dX8_balance_36 (by decide) (fun hq => ?_) (fun hq => ?_)
  · refine xinc hx hb hl (x := l3) (v := (l3 + 1)) (lv' := [(3, .int (l3 + 1)), (0, va_rf l0), (1, .int l1), (2, .int l2), (4, .int l4)]) 3 rfl (by rw [show Int32.ofInt (1) = (1 : Int32) from by decide]) (by decide) dX8_balance_115 rfl (fun ls hl => ?_)
    refine lv_goto (tgt := 19) hx hb dX8_balance_118 (by decide) ?_
    exact hk19 (l0, l1, l2, (l3 + 1), h) hq H locs ls hR hS (hl.sub [1, 2, 3, 0] rfl)
  refine xaln hx hb hl (x := l0) 0 rfl dX8_balance_39 ?_
  refine xgR Z hR hq fl_X8_33 rfl dX8_balance_40 (fun x40 hq => ?_)
  refine xiln hx hb hl (x := l3) 3 rfl dX8_balance_43 ?_
  refine xaI Z hR hq dX8_balance_44 (fun x44 hq => ?_)
  refine xaln hx hb hl (x := l0) 0 rfl dX8_balance_45 ?_
  refine xgR Z hR hq fl_X8_33 rfl dX8_balance_46 (fun x46 hq => ?_)
  refine xil hx hb hl (x := l4) 4 rfl dX8_balance_49 ?_
  refine xaI Z hR hq dX8_balance_51 (fun x51 hq => ?_)
  refine xcNe hx hb hq (tgt := 58) dX8_balance_52 (by decide) (fun hq => ?_) (fun hq => ?_)
  · refine xaln hx hb hl (x := l0) 0 rfl dX8_balance_58 ?_
    refine xgR Z hR hq fl_X8_33 rfl dX8_balance_59 (fun x59 hq => ?_)
    refine xiln hx hb hl (x := l3) 3 rfl dX8_balance_62 ?_
    refine xaI Z hR hq dX8_balance_63 (fun x63 hq => ?_)
    refine xiln hx hb hl (x := l1) 1 rfl dX8_balance_64 ?_
    refine xcNe hx hb hq (tgt := 83) dX8_balance_65 (by decide) (fun hq => ?_) (fun hq => ?_)
    · exact t_X8_balance_83 Z hr hlk hin hk19 hk30 l0 l1 l2 l3 l4 h H locs ls hq hR hS (hl.sub [0, 1, 2, 3, 4] rfl)
    refine xiln hx hb hl (x := l2) 2 rfl dX8_balance_68 ?_
    refine xaln hx hb hl (x := l0) 0 rfl dX8_balance_69 ?_
    refine xgR Z hR hq fl_X8_102 rfl dX8_balance_70 (fun x70 hq => ?_)
    refine lv_bipush (v := 16) hx hb dX8_balance_73 (by decide) ?_
    refine xiln hx hb hl (x := l3) 3 rfl dX8_balance_75 ?_
    refine lv_imul hx hb dX8_balance_76 ?_
    refine xil hx hb hl (x := l4) 4 rfl dX8_balance_77 ?_
    refine lv_iadd hx hb dX8_balance_79 ?_
    refine xaI Z hR hq dX8_balance_80 (fun x80 hq => ?_)
    refine lv_iadd hx hb dX8_balance_81 ?_
    refine xisn hx hb hl (x := (l2 + x80)) (lv' := [(2, .int (l2 + x80)), (0, va_rf l0), (1, .int l1), (3, .int l3), (4, .int l4)]) (by decide) dX8_balance_82 rfl (fun ls hl => ?_)
    exact t_X8_balance_83 Z hr hlk hin hk19 hk30 l0 l1 (l2 + x80) l3 l4 h H locs ls hq hR hS (hl.sub [1, 2, 0, 3, 4] rfl)
  refine lv_goto (tgt := 109) hx hb dX8_balance_55 (by decide) ?_
  exact t_X8_balance_109 Z hr hlk hin hk19 hk30 l0 l1 l2 l3 l4 h H locs ls hq hR hS (hl.sub [0, 1, 2, 3, 4] rfl)
def f_X8_balance_30  (k19 : Option Nat × Int32 × Int32 × Int32 × Hp → Option (Int32 × Hp)) (l0 : Option Nat) (l1 : Int32) (l2 : Int32) (l3 : Int32) (l4 : Int32) (h : Hp) : Option (Int32 × Hp) :=
  lp (fun (k30 : Option Nat × Int32 × Int32 × Int32 × Int32 × Hp → Option (Int32 × Hp)) (u : Option Nat × Int32 × Int32 × Int32 × Int32 × Hp) => fb_X8_balance_30 k19 k30 u.1 u.2.1 u.2.2.1 u.2.2.2.1 u.2.2.2.2.1 u.2.2.2.2.2) FU (l0, l1, l2, l3, l4, h)
theorem t_X8_balance_30 (Z : ZZ p s m args c cX8_balance RX8 5 G) (hr : meth.sig.returnType = (some .int)) (hlk : meth.locks = false) (hin : meth.name = "balance") {v : Int32} {h1 : Hp} {k19 : Option Nat × Int32 × Int32 × Int32 × Hp → Option (Int32 × Hp)} (hk19 : ∀ u : Option Nat × Int32 × Int32 × Int32 × Hp, k19 u = some (v, h1) → ∀ (H : Heap) (locs : List Loc) (ls : Array Slot), Rep G u.2.2.2.2 H → va_S (AA G) s.heap H locs → LV ls 5 [(0, va_rf u.1), (1, .int u.2.1), (2, .int u.2.2.1), (3, .int u.2.2.2.1)] → W p l e rm_X8_balance s m args below meth c H locs 0 0 (MQ below (Qx G (some (.int v)) h1) args s 0 0 (AA G)) (F0 m 19 ls [])) : ∀ (l0 : Option Nat) (l1 : Int32) (l2 : Int32) (l3 : Int32) (l4 : Int32) (h : Hp) (H : Heap) (locs : List Loc) (ls : Array Slot), f_X8_balance_30 k19 l0 l1 l2 l3 l4 h = some (v, h1) → Rep G h H → va_S (AA G) s.heap H locs → LV ls 5 [(0, va_rf l0), (1, .int l1), (2, .int l2), (3, .int l3), (4, .int l4)] → W p l e rm_X8_balance s m args below meth c H locs 0 0 (MQ below (Qx G (some (.int v)) h1) args s 0 0 (AA G)) (F0 m 30 ls []) := by
  intro l0 l1 l2 l3 l4 h H locs ls hq hR hS hl
  exact lp_ind (P := fun u : Option Nat × Int32 × Int32 × Int32 × Int32 × Hp => ∀ (H : Heap) (locs : List Loc) (ls : Array Slot), Rep G u.2.2.2.2.2 H → va_S (AA G) s.heap H locs → LV ls 5 [(0, va_rf u.1), (1, .int u.2.1), (2, .int u.2.2.1), (3, .int u.2.2.2.1), (4, .int u.2.2.2.2.1)] → W p l e rm_X8_balance s m args below meth c H locs 0 0 (MQ below (Qx G (some (.int v)) h1) args s 0 0 (AA G)) (F0 m 30 ls [])) (fun k hk u hq H locs ls hR hS hl => tb_X8_balance_30 Z hr hlk hin hk19 hk u.1 u.2.1 u.2.2.1 u.2.2.2.1 u.2.2.2.2.1 u.2.2.2.2.2 H locs ls hq hR hS hl) FU (l0, l1, l2, l3, l4, h) hq H locs ls hR hS hl
def fb_X8_balance_19  (k19 : Option Nat × Int32 × Int32 × Int32 × Hp → Option (Int32 × Hp)) (l0 : Option Nat) (l1 : Int32) (l2 : Int32) (l3 : Int32) (h : Hp) : Option (Int32 × Hp) :=
gI h l0 9 9 (fun x21 =>
(if x21 ≤ l3 then
rtI l2 h
else
f_X8_balance_30 k19 l0 l1 l2 l3 0 h))
set_option maxHeartbeats 4000000 in
set_option maxRecDepth 100000 in
theorem tb_X8_balance_19 (Z : ZZ p s m args c cX8_balance RX8 5 G) (hr : meth.sig.returnType = (some .int)) (hlk : meth.locks = false) (hin : meth.name = "balance") {v : Int32} {h1 : Hp} {k19 : Option Nat × Int32 × Int32 × Int32 × Hp → Option (Int32 × Hp)} (hk19 : ∀ u : Option Nat × Int32 × Int32 × Int32 × Hp, k19 u = some (v, h1) → ∀ (H : Heap) (locs : List Loc) (ls : Array Slot), Rep G u.2.2.2.2 H → va_S (AA G) s.heap H locs → LV ls 5 [(0, va_rf u.1), (1, .int u.2.1), (2, .int u.2.2.1), (3, .int u.2.2.2.1)] → W p l e rm_X8_balance s m args below meth c H locs 0 0 (MQ below (Qx G (some (.int v)) h1) args s 0 0 (AA G)) (F0 m 19 ls [])) : ∀ (l0 : Option Nat) (l1 : Int32) (l2 : Int32) (l3 : Int32) (h : Hp) (H : Heap) (locs : List Loc) (ls : Array Slot), fb_X8_balance_19 k19 l0 l1 l2 l3 h = some (v, h1) → Rep G h H → va_S (AA G) s.heap H locs → LV ls 5 [(0, va_rf l0), (1, .int l1), (2, .int l2), (3, .int l3)] → W p l e rm_X8_balance s m args below meth c H locs 0 0 (MQ below (Qx G (some (.int v)) h1) args s 0 0 (AA G)) (F0 m 19 ls []) := by
  intro l0 l1 l2 l3 h H locs ls hq hR hS hl
  have hx := Z.1
  have hb := Z.2.1
  unfold fb_X8_balance_19 at hq
  refine xiln hx hb hl (x := l3) 3 rfl dX8_balance_19 ?_
  refine xaln hx hb hl (x := l0) 0 rfl dX8_balance_20 ?_
  refine xgI Z hR hq fl_X8_108 rfl dX8_balance_21 (fun x21 hq => ?_)
  refine xcGe hx hb hq (tgt := 121) dX8_balance_24 (by decide) (fun hq => ?_) (fun hq => ?_)
  · refine xiln hx hb hl (x := l2) 2 rfl dX8_balance_121 ?_
    exact xrI hx hb hr hlk hR hS hq (by decide) (by decide) dX8_balance_122
  refine lv_iconst (v := 0) hx hb dX8_balance_27 (by decide) ?_
  refine xis hx hb hl (x := 0) (lv' := [(4, .int 0), (0, va_rf l0), (1, .int l1), (2, .int l2), (3, .int l3)]) (by decide) dX8_balance_28 rfl (fun ls hl => ?_)
  exact t_X8_balance_30 Z hr hlk hin hk19 l0 l1 l2 l3 0 h H locs ls hq hR hS (hl.sub [1, 2, 3, 4, 0] rfl)
def f_X8_balance_19  (l0 : Option Nat) (l1 : Int32) (l2 : Int32) (l3 : Int32) (h : Hp) : Option (Int32 × Hp) :=
  lp (fun (k19 : Option Nat × Int32 × Int32 × Int32 × Hp → Option (Int32 × Hp)) (u : Option Nat × Int32 × Int32 × Int32 × Hp) => fb_X8_balance_19 k19 u.1 u.2.1 u.2.2.1 u.2.2.2.1 u.2.2.2.2) FU (l0, l1, l2, l3, h)
theorem t_X8_balance_19 (Z : ZZ p s m args c cX8_balance RX8 5 G) (hr : meth.sig.returnType = (some .int)) (hlk : meth.locks = false) (hin : meth.name = "balance") {v : Int32} {h1 : Hp} : ∀ (l0 : Option Nat) (l1 : Int32) (l2 : Int32) (l3 : Int32) (h : Hp) (H : Heap) (locs : List Loc) (ls : Array Slot), f_X8_balance_19 l0 l1 l2 l3 h = some (v, h1) → Rep G h H → va_S (AA G) s.heap H locs → LV ls 5 [(0, va_rf l0), (1, .int l1), (2, .int l2), (3, .int l3)] → W p l e rm_X8_balance s m args below meth c H locs 0 0 (MQ below (Qx G (some (.int v)) h1) args s 0 0 (AA G)) (F0 m 19 ls []) := by
  intro l0 l1 l2 l3 h H locs ls hq hR hS hl
  exact lp_ind (P := fun u : Option Nat × Int32 × Int32 × Int32 × Hp => ∀ (H : Heap) (locs : List Loc) (ls : Array Slot), Rep G u.2.2.2.2 H → va_S (AA G) s.heap H locs → LV ls 5 [(0, va_rf u.1), (1, .int u.2.1), (2, .int u.2.2.1), (3, .int u.2.2.2.1)] → W p l e rm_X8_balance s m args below meth c H locs 0 0 (MQ below (Qx G (some (.int v)) h1) args s 0 0 (AA G)) (F0 m 19 ls [])) (fun k hk u hq H locs ls hR hS hl => tb_X8_balance_19 Z hr hlk hin hk u.1 u.2.1 u.2.2.1 u.2.2.2.1 u.2.2.2.2 H locs ls hq hR hS hl) FU (l0, l1, l2, l3, h) hq H locs ls hR hS hl
def f_X8_balance (this : Nat) (a0 : Int32) (h : Hp) : Option (Int32 × Hp) :=
bd (f_X8_in a0 0 5 h) (fun x3 h =>
(if x3 = 0 then
rtI 0 h
else
rcv h (some this) 9 (fun b12 => bd (f_X8_runs b12 h) (fun u12 h =>
f_X8_balance_19 (some this) a0 0 0 h))))
set_option maxHeartbeats 4000000 in
set_option maxRecDepth 100000 in
theorem c_X8_balance (l : Launch) {G : GG} (this : Nat) (a0 : Int32) (h : Hp) (v : Int32) (h1 : Hp) (hq : f_X8_balance this a0 h = some (v, h1)) : Met l yX8_balance (Cond.code yX8_balance cX8_balance 5 (some .int) :: GT) rm_X8_balance (va_Pc [.ref this, .int a0] (Cn G h)) (Qx G (some (.int v)) h1) 0 0 (AA G) := by
  refine xMet (cc := cX8_balance) (by decide) (Nat.le_of_ble_eq_true rfl) (List.forall_mem_cons.mpr ⟨rfl, (List.forall_mem_cons.mpr ⟨rfl, (fun _ z => by cases z)⟩)⟩) ?_
  intro p e s m below meth c ls Z hr hlk hin hR hS hl
  have hx := Z.1
  have hb := Z.2.1
  have hl : LV ls 5 [(0, va_rf (some this)), (1, .int a0)] := hl
  unfold f_X8_balance at hq
  refine xiln hx hb hl (x := a0) 1 rfl dX8_balance_0 ?_
  refine lv_iconst (v := 0) hx hb dX8_balance_1 (by decide) ?_
  refine lv_iconst (v := 5) hx hb dX8_balance_2 (by decide) ?_
  refine xcS Z hR hS hl (rest := []) (As := [.int a0, .int 0, .int 5]) hq cl_X8_111 (fun x h1 hc => c_X8_in l a0 0 5 h x h1 hc) ⟨⟨rfl, rfl⟩, (by decide), (by decide)⟩ rfl rfl (by first | decide | (simp only [List.map_cons, List.map_nil, rf_cat, ct_int, ct_ref, List.sum_cons, List.sum_nil] <;> decide)) dX8_balance_3 (by decide) (fun x3 h H locs hq hR hS => ?_)
  refine xzNe hx hb hq (tgt := 11) dX8_balance_6 (by decide) (fun hq => ?_) (fun hq => ?_)
  · refine xaln hx hb hl (x := (some this)) 0 rfl dX8_balance_11 ?_
    refine xcV Z hR hS hl (rest := []) (As := []) hq cl_X8_205 (fun b x h1 hc => c_X8_runs l b h x h1 hc) ⟨⟨rfl, rfl⟩, (by decide), (by decide)⟩ rfl rfl (by first | decide | (simp only [List.map_cons, List.map_nil, rf_cat, ct_int, ct_ref, List.sum_cons, List.sum_nil] <;> decide)) dX8_balance_12 (by decide) (fun u12 h H locs hq hR hS => ?_)
    refine lv_iconst (v := 0) hx hb dX8_balance_15 (by decide) ?_
    refine xisn hx hb hl (x := 0) (lv' := [(2, .int 0), (0, va_rf (some this)), (1, .int a0)]) (by decide) dX8_balance_16 rfl (fun ls hl => ?_)
    refine lv_iconst (v := 0) hx hb dX8_balance_17 (by decide) ?_
    refine xisn hx hb hl (x := 0) (lv' := [(3, .int 0), (2, .int 0), (0, va_rf (some this)), (1, .int a0)]) (by decide) dX8_balance_18 rfl (fun ls hl => ?_)
    exact t_X8_balance_19 Z hr hlk hin (some this) a0 0 0 h _ _ ls hq hR hS (hl.sub [2, 3, 1, 0] rfl)
  refine lv_iconst (v := 0) hx hb dX8_balance_9 (by decide) ?_
  exact xrI hx hb hr hlk hR hS hq (by decide) (by decide) dX8_balance_10
end
