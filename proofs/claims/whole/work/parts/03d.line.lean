theorem fl_X3_9 : FL RX3 9 4 1 := ⟨_, TX3, 10, "FreightPaths$Line", rfl, by decide, by decide +kernel, Or.inl rfl⟩
theorem fl_X3_15 : FL RX3 15 4 2 := ⟨_, TX3, 10, "FreightPaths$Line", rfl, by decide, by decide +kernel, Or.inl rfl⟩
theorem fl_X3_19 : FL RX3 19 4 3 := ⟨_, TX3, 10, "FreightPaths$Line", rfl, by decide, by decide +kernel, Or.inl rfl⟩
theorem fl_X3_22 : FL RX3 22 4 4 := ⟨_, TX3, 10, "FreightPaths$Line", rfl, by decide, by decide +kernel, Or.inl rfl⟩
theorem fl_X3_25 : FL RX3 25 4 5 := ⟨_, TX3, 10, "FreightPaths$Line", rfl, by decide, by decide +kernel, Or.inl rfl⟩
theorem fl_X3_28 : FL RX3 28 4 6 := ⟨_, TX3, 10, "FreightPaths$Line", rfl, by decide, by decide +kernel, Or.inl rfl⟩
theorem fl_X3_31 : FL RX3 31 4 7 := ⟨_, TX3, 10, "FreightPaths$Line", rfl, by decide, by decide +kernel, Or.inl rfl⟩
theorem fl_X3_34 : FL RX3 34 4 9 := ⟨_, TX3, 10, "FreightPaths$Line", rfl, by decide, by decide +kernel, Or.inl rfl⟩
theorem fl_X3_38 : FL RX3 38 4 0 := ⟨_, TX3, 10, "FreightPaths$Line", rfl, by decide, by decide +kernel, Or.inl rfl⟩
theorem fl_X3_41 : FL RX3 41 4 8 := ⟨_, TX3, 10, "FreightPaths$Line", rfl, by decide, by decide +kernel, Or.inl rfl⟩
theorem fl_X3_60 : FL RX3 60 1 4 := ⟨_, TX0, 14, "FreightPaths$Bid", rfl, by decide, by decide +kernel, Or.inl rfl⟩
theorem if_X3_4_0 : iF RX3 4 0 := fun _ _ _ z => by cases z; exact ⟨rfl, rfl⟩
theorem if_X3_4_1 : iF RX3 4 1 := fun _ _ _ z => by cases z; exact ⟨rfl, rfl⟩
theorem if_X3_4_2 : iF RX3 4 2 := fun _ _ _ z => by cases z; exact ⟨rfl, rfl⟩
theorem if_X3_4_3 : iF RX3 4 3 := fun _ _ _ z => by cases z; exact ⟨rfl, rfl⟩
theorem if_X3_4_4 : iF RX3 4 4 := fun _ _ _ z => by cases z; exact ⟨rfl, rfl⟩
theorem if_X3_4_5 : iF RX3 4 5 := fun _ _ _ z => by cases z; exact ⟨rfl, rfl⟩
theorem if_X3_4_6 : iF RX3 4 6 := fun _ _ _ z => by cases z; exact ⟨rfl, rfl⟩
theorem if_X3_4_7 : iF RX3 4 7 := fun _ _ _ z => by cases z; exact ⟨rfl, rfl⟩
theorem nf_4_8 : nF 4 8 := fun _ _ _ z => by cases z; rfl
theorem nf_4_9 : nF 4 9 := fun _ _ _ z => by cases z; rfl
theorem lk_X3_3 : Cond.methodLink RX3 3 objectInit ∈ GT := by decide +kernel
theorem lk_X3_44 : Cond.methodLink RX3 44 Lib.Math.max.name ∈ GT := by decide +kernel
theorem cl_X3_50 : VL RX3 50 1 yX0_way cX0_way 1 (some .int) 0 := ⟨⟨TX0, 14, rfl⟩, ⟨by decide +kernel, me_X0_way⟩, by decide, by decide, by decide +kernel⟩
theorem me_X0_sectionAt : Cond.instanceMethod yX0_sectionAt ∈ GT ∧ Cond.selects RX0 yX0_sectionAt yX0_sectionAt ∈ GT ∧ Cond.initialized RX0 ∈ GT ∧ Cond.code yX0_sectionAt cX0_sectionAt 2 (some .int) ∈ GT := ⟨by decide +kernel, by decide +kernel, by decide +kernel, by decide +kernel⟩
theorem cl_X3_56 : VL RX3 56 1 yX0_sectionAt cX0_sectionAt 2 (some .int) 1 := ⟨⟨TX0, 14, rfl⟩, ⟨by decide +kernel, me_X0_sectionAt⟩, by decide, by decide, by decide +kernel⟩
section
variable {p : Program} {l : Launch} {e : Env} {s : State} {m : MethodId} {args : Array Value} {below : List Frame} {meth : Method} {c : Code} {G : GG}
abbrev rm_X3_isClosed : Room := { frames := 0, cells := 0, slots := 0, locals := 0 }
def f_X3_isClosed_42  (k2 : Option Nat × Int32 × Int32 × Int32 × Hp → Option (Int32 × Hp)) (l0 : Option Nat) (l1 : Int32) (l2 : Int32) (l3 : Int32) (h : Hp) : Option (Int32 × Hp) :=
k2 (l0, l1, l2, (l3 + 1), h)
set_option maxHeartbeats 4000000 in
set_option maxRecDepth 100000 in
theorem t_X3_isClosed_42 (Z : ZZ p s m args c cX3_isClosed RX3 4 G) (hr : meth.sig.returnType = (some .boolean)) (hlk : meth.locks = false) (hin : meth.name = "isClosed") {v : Int32} {h1 : Hp} {k2 : Option Nat × Int32 × Int32 × Int32 × Hp → Option (Int32 × Hp)} (hk2 : ∀ u : Option Nat × Int32 × Int32 × Int32 × Hp, k2 u = some (v, h1) → ∀ (H : Heap) (locs : List Loc) (ls : Array Slot), Rep G u.2.2.2.2 H → va_S (AA G) s.heap H locs → LV ls 4 [(0, va_rf u.1), (1, .int u.2.1), (2, .int u.2.2.1), (3, .int u.2.2.2.1)] → W p l e rm_X3_isClosed s m args below meth c H locs 0 0 (MQ below (Qx G (some (.int v)) h1) args s 0 0 (AA G)) (F0 m 2 ls [])) : ∀ (l0 : Option Nat) (l1 : Int32) (l2 : Int32) (l3 : Int32) (h : Hp) (H : Heap) (locs : List Loc) (ls : Array Slot), f_X3_isClosed_42 k2 l0 l1 l2 l3 h = some (v, h1) → Rep G h H → va_S (AA G) s.heap H locs → LV ls 4 [(0, va_rf l0), (1, .int l1), (2, .int l2), (3, .int l3)] → W p l e rm_X3_isClosed s m args below meth c H locs 0 0 (MQ below (Qx G (some (.int v)) h1) args s 0 0 (AA G)) (F0 m 42 ls []) := by
  intro l0 l1 l2 l3 h H locs ls hq hR hS hl
  have hx := Z.1
  have hb := Z.2.1
  unfold f_X3_isClosed_42 at hq
  refine xinc hx hb hl (x := l3) (v := (l3 + 1)) (lv' := [(3, .int (l3 + 1)), (0, va_rf l0), (1, .int l1), (2, .int l2)]) 3 rfl (by rw [show Int32.ofInt (1) = (1 : Int32) from by decide]) (by decide) dX3_isClosed_42 rfl (fun ls hl => ?_)
  refine lv_goto (tgt := 2) hx hb dX3_isClosed_45 (by decide) ?_
  exact hk2 (l0, l1, l2, (l3 + 1), h) hq H locs ls hR hS (hl.sub [1, 2, 3, 0] rfl)
def fb_X3_isClosed_2  (k2 : Option Nat × Int32 × Int32 × Int32 × Hp → Option (Int32 × Hp)) (l0 : Option Nat) (l1 : Int32) (l2 : Int32) (l3 : Int32) (h : Hp) : Option (Int32 × Hp) :=
gI h l0 4 8 (fun x4 =>
(if x4 ≤ l3 then
rtZ 0 h
else
gR h l0 4 5 (fun x11 =>
ldI h x11 l3 (fun x15 =>
(if x15 = l1 then
gR h l0 4 6 (fun x22 =>
ldI h x22 l3 (fun x26 =>
(if l2 < x26 then
f_X3_isClosed_42 k2 l0 l1 l2 l3 h
else
gR h l0 4 7 (fun x32 =>
ldI h x32 l3 (fun x36 =>
(if x36 ≤ l2 then
f_X3_isClosed_42 k2 l0 l1 l2 l3 h
else
rtZ 1 h))))))
else
f_X3_isClosed_42 k2 l0 l1 l2 l3 h)))))
set_option maxHeartbeats 4000000 in
set_option maxRecDepth 100000 in
theorem tb_X3_isClosed_2 (Z : ZZ p s m args c cX3_isClosed RX3 4 G) (hr : meth.sig.returnType = (some .boolean)) (hlk : meth.locks = false) (hin : meth.name = "isClosed") {v : Int32} {h1 : Hp} {k2 : Option Nat × Int32 × Int32 × Int32 × Hp → Option (Int32 × Hp)} (hk2 : ∀ u : Option Nat × Int32 × Int32 × Int32 × Hp, k2 u = some (v, h1) → ∀ (H : Heap) (locs : List Loc) (ls : Array Slot), Rep G u.2.2.2.2 H → va_S (AA G) s.heap H locs → LV ls 4 [(0, va_rf u.1), (1, .int u.2.1), (2, .int u.2.2.1), (3, .int u.2.2.2.1)] → W p l e rm_X3_isClosed s m args below meth c H locs 0 0 (MQ below (Qx G (some (.int v)) h1) args s 0 0 (AA G)) (F0 m 2 ls [])) : ∀ (l0 : Option Nat) (l1 : Int32) (l2 : Int32) (l3 : Int32) (h : Hp) (H : Heap) (locs : List Loc) (ls : Array Slot), fb_X3_isClosed_2 k2 l0 l1 l2 l3 h = some (v, h1) → Rep G h H → va_S (AA G) s.heap H locs → LV ls 4 [(0, va_rf l0), (1, .int l1), (2, .int l2), (3, .int l3)] → W p l e rm_X3_isClosed s m args below meth c H locs 0 0 (MQ below (Qx G (some (.int v)) h1) args s 0 0 (AA G)) (F0 m 2 ls []) := by
  intro l0 l1 l2 l3 h H locs ls hq hR hS hl
  have hx := Z.1
  have hb := Z.2.1
  unfold fb_X3_isClosed_2 at hq
  refine xiln hx hb hl (x := l3) 3 rfl dX3_isClosed_2 ?_
  refine xaln hx hb hl (x := l0) 0 rfl dX3_isClosed_3 ?_
  refine xgI Z hR hq fl_X3_41 rfl dX3_isClosed_4 (fun x4 hq => ?_)
  refine xcGe hx hb hq (tgt := 48) dX3_isClosed_7 (by decide) (fun hq => ?_) (fun hq => ?_)
  · refine lv_iconst (v := 0) hx hb dX3_isClosed_48 (by decide) ?_
    exact xrZ hx hb hr hlk hR hS hq (by decide) (by decide) dX3_isClosed_49
  refine xaln hx hb hl (x := l0) 0 rfl dX3_isClosed_10 ?_
  refine xgR Z hR hq fl_X3_25 rfl dX3_isClosed_11 (fun x11 hq => ?_)
  refine xiln hx hb hl (x := l3) 3 rfl dX3_isClosed_14 ?_
  refine xaI Z hR hq dX3_isClosed_15 (fun x15 hq => ?_)
  refine xiln hx hb hl (x := l1) 1 rfl dX3_isClosed_16 ?_
  refine xcNe hx hb hq (tgt := 42) dX3_isClosed_17 (by decide) (fun hq => ?_) (fun hq => ?_)
  · exact t_X3_isClosed_42 Z hr hlk hin hk2 l0 l1 l2 l3 h H locs ls hq hR hS (hl.sub [0, 1, 2, 3] rfl)
  refine xiln hx hb hl (x := l2) 2 rfl dX3_isClosed_20 ?_
  refine xaln hx hb hl (x := l0) 0 rfl dX3_isClosed_21 ?_
  refine xgR Z hR hq fl_X3_28 rfl dX3_isClosed_22 (fun x22 hq => ?_)
  refine xiln hx hb hl (x := l3) 3 rfl dX3_isClosed_25 ?_
  refine xaI Z hR hq dX3_isClosed_26 (fun x26 hq => ?_)
  refine xcLt hx hb hq (tgt := 42) dX3_isClosed_27 (by decide) (fun hq => ?_) (fun hq => ?_)
  · exact t_X3_isClosed_42 Z hr hlk hin hk2 l0 l1 l2 l3 h H locs ls hq hR hS (hl.sub [0, 1, 2, 3] rfl)
  refine xiln hx hb hl (x := l2) 2 rfl dX3_isClosed_30 ?_
  refine xaln hx hb hl (x := l0) 0 rfl dX3_isClosed_31 ?_
  refine xgR Z hR hq fl_X3_31 rfl dX3_isClosed_32 (fun x32 hq => ?_)
  refine xiln hx hb hl (x := l3) 3 rfl dX3_isClosed_35 ?_
  refine xaI Z hR hq dX3_isClosed_36 (fun x36 hq => ?_)
  refine xcGe hx hb hq (tgt := 42) dX3_isClosed_37 (by decide) (fun hq => ?_) (fun hq => ?_)
  · exact t_X3_isClosed_42 Z hr hlk hin hk2 l0 l1 l2 l3 h H locs ls hq hR hS (hl.sub [0, 1, 2, 3] rfl)
  refine lv_iconst (v := 1) hx hb dX3_isClosed_40 (by decide) ?_
  exact xrZ hx hb hr hlk hR hS hq (by decide) (by decide) dX3_isClosed_41
def f_X3_isClosed_2  (l0 : Option Nat) (l1 : Int32) (l2 : Int32) (l3 : Int32) (h : Hp) : Option (Int32 × Hp) :=
  lp (fun (k2 : Option Nat × Int32 × Int32 × Int32 × Hp → Option (Int32 × Hp)) (u : Option Nat × Int32 × Int32 × Int32 × Hp) => fb_X3_isClosed_2 k2 u.1 u.2.1 u.2.2.1 u.2.2.2.1 u.2.2.2.2) FU (l0, l1, l2, l3, h)
theorem t_X3_isClosed_2 (Z : ZZ p s m args c cX3_isClosed RX3 4 G) (hr : meth.sig.returnType = (some .boolean)) (hlk : meth.locks = false) (hin : meth.name = "isClosed") {v : Int32} {h1 : Hp} : ∀ (l0 : Option Nat) (l1 : Int32) (l2 : Int32) (l3 : Int32) (h : Hp) (H : Heap) (locs : List Loc) (ls : Array Slot), f_X3_isClosed_2 l0 l1 l2 l3 h = some (v, h1) → Rep G h H → va_S (AA G) s.heap H locs → LV ls 4 [(0, va_rf l0), (1, .int l1), (2, .int l2), (3, .int l3)] → W p l e rm_X3_isClosed s m args below meth c H locs 0 0 (MQ below (Qx G (some (.int v)) h1) args s 0 0 (AA G)) (F0 m 2 ls []) := by
  intro l0 l1 l2 l3 h H locs ls hq hR hS hl
  exact lp_ind (P := fun u : Option Nat × Int32 × Int32 × Int32 × Hp => ∀ (H : Heap) (locs : List Loc) (ls : Array Slot), Rep G u.2.2.2.2 H → va_S (AA G) s.heap H locs → LV ls 4 [(0, va_rf u.1), (1, .int u.2.1), (2, .int u.2.2.1), (3, .int u.2.2.2.1)] → W p l e rm_X3_isClosed s m args below meth c H locs 0 0 (MQ below (Qx G (some (.int v)) h1) args s 0 0 (AA G)) (F0 m 2 ls [])) (fun k hk u hq H locs ls hR hS hl => tb_X3_isClosed_2 Z hr hlk hin hk u.1 u.2.1 u.2.2.1 u.2.2.2.1 u.2.2.2.2 H locs ls hq hR hS hl) FU (l0, l1, l2, l3, h) hq H locs ls hR hS hl
def f_X3_isClosed (this : Nat) (a0 : Int32) (a1 : Int32) (h : Hp) : Option (Int32 × Hp) :=
f_X3_isClosed_2 (some this) a0 a1 0 h
set_option maxHeartbeats 4000000 in
set_option maxRecDepth 100000 in
theorem c_X3_isClosed (l : Launch) {G : GG} (this : Nat) (a0 : Int32) (a1 : Int32) (h : Hp) (v : Int32) (h1 : Hp) (hq : f_X3_isClosed this a0 a1 h = some (v, h1)) : Met l yX3_isClosed (Cond.code yX3_isClosed cX3_isClosed 4 (some .boolean) :: GT) rm_X3_isClosed (va_Pc [.ref this, .int a0, .int a1] (Cn G h)) (Qx G (some (.int v)) h1) 0 0 (AA G) := by
  refine xMet (cc := cX3_isClosed) (by decide) (Nat.le_of_ble_eq_true rfl) (List.forall_mem_cons.mpr ⟨rfl, (List.forall_mem_cons.mpr ⟨rfl, (List.forall_mem_cons.mpr ⟨rfl, (fun _ z => by cases z)⟩)⟩)⟩) ?_
  intro p e s m below meth c ls Z hr hlk hin hR hS hl
  have hx := Z.1
  have hb := Z.2.1
  have hl : LV ls 4 [(0, va_rf (some this)), (1, .int a0), (2, .int a1)] := hl
  unfold f_X3_isClosed at hq
  refine lv_iconst (v := 0) hx hb dX3_isClosed_0 (by decide) ?_
  refine xisn hx hb hl (x := 0) (lv' := [(3, .int 0), (0, va_rf (some this)), (1, .int a0), (2, .int a1)]) (by decide) dX3_isClosed_1 rfl (fun ls hl => ?_)
  exact t_X3_isClosed_2 Z hr hlk hin (some this) a0 a1 0 h _ _ ls hq hR hS (hl.sub [1, 2, 3, 0] rfl)
abbrev rm_X3_isShared : Room := { frames := 1, cells := 0, slots := 0, locals := 20 }
def f_X3_isShared_25  (s0 : Int32) (h : Hp) : Option (Int32 × Hp) :=
rtZ s0 h
set_option maxHeartbeats 4000000 in
set_option maxRecDepth 100000 in
theorem t_X3_isShared_25 (Z : ZZ p s m args c cX3_isShared RX3 4 G) (hr : meth.sig.returnType = (some .boolean)) (hlk : meth.locks = false) (hin : meth.name = "isShared") {v : Int32} {h1 : Hp} : ∀ (s0 : Int32) (h : Hp) (H : Heap) (locs : List Loc) (ls : Array Slot), f_X3_isShared_25 s0 h = some (v, h1) → Rep G h H → va_S (AA G) s.heap H locs → LV ls 4 [] → W p l e rm_X3_isShared s m args below meth c H locs 0 0 (MQ below (Qx G (some (.int v)) h1) args s 0 0 (AA G)) (F0 m 25 ls [.int s0]) := by
  intro s0 h H locs ls hq hR hS hl
  have hx := Z.1
  have hb := Z.2.1
  unfold f_X3_isShared_25 at hq
  exact xrZ hx hb hr hlk hR hS hq (by decide) (by decide) dX3_isShared_25
def f_X3_isShared_20   (h : Hp) : Option (Int32 × Hp) :=
f_X3_isShared_25 1 h
set_option maxHeartbeats 4000000 in
set_option maxRecDepth 100000 in
theorem t_X3_isShared_20 (Z : ZZ p s m args c cX3_isShared RX3 4 G) (hr : meth.sig.returnType = (some .boolean)) (hlk : meth.locks = false) (hin : meth.name = "isShared") {v : Int32} {h1 : Hp} : ∀  (h : Hp) (H : Heap) (locs : List Loc) (ls : Array Slot), f_X3_isShared_20  h = some (v, h1) → Rep G h H → va_S (AA G) s.heap H locs → LV ls 4 [] → W p l e rm_X3_isShared s m args below meth c H locs 0 0 (MQ below (Qx G (some (.int v)) h1) args s 0 0 (AA G)) (F0 m 20 ls []) := by
  intro  h H locs ls hq hR hS hl
  have hx := Z.1
  have hb := Z.2.1
  unfold f_X3_isShared_20 at hq
  refine lv_iconst (v := 1) hx hb dX3_isShared_20 (by decide) ?_
  refine lv_goto (tgt := 25) hx hb dX3_isShared_21 (by decide) ?_
  exact t_X3_isShared_25 Z hr hlk hin 1 h H locs ls hq hR hS (hl.sub [] rfl)
def f_X3_isShared (this : Nat) (a0 : Int32) (a1 : Option Nat) (a2 : Option Nat) (h : Hp) : Option (Int32 × Hp) :=
gR h (some this) 4 1 (fun x1 =>
ldZ h x1 a0 (fun x5 =>
(if x5 = 0 then
f_X3_isShared_20  h
else
rcv h a1 1 (fun b10 => bd (f_X0_way b10 h) (fun x10 h =>
rcv h a2 1 (fun b14 => bd (f_X0_way b14 h) (fun x14 h =>
(if x10 = x14 then
f_X3_isShared_20  h
else
f_X3_isShared_25 0 h))))))))
set_option maxHeartbeats 4000000 in
set_option maxRecDepth 100000 in
theorem c_X3_isShared (l : Launch) {G : GG} (this : Nat) (a0 : Int32) (a1 : Option Nat) (a2 : Option Nat) (h : Hp) (v : Int32) (h1 : Hp) (hq : f_X3_isShared this a0 a1 a2 h = some (v, h1)) : Met l yX3_isShared (Cond.code yX3_isShared cX3_isShared 4 (some .boolean) :: GT) rm_X3_isShared (va_Pc [.ref this, .int a0, va_rf a1, va_rf a2] (Cn G h)) (Qx G (some (.int v)) h1) 0 0 (AA G) := by
  refine xMet (cc := cX3_isShared) (by decide) (Nat.le_of_ble_eq_true rfl) (List.forall_mem_cons.mpr ⟨rfl, (List.forall_mem_cons.mpr ⟨rfl, (List.forall_mem_cons.mpr ⟨(rf_cat a1), (List.forall_mem_cons.mpr ⟨(rf_cat a2), (fun _ z => by cases z)⟩)⟩)⟩)⟩) ?_
  intro p e s m below meth c ls Z hr hlk hin hR hS hl
  have hx := Z.1
  have hb := Z.2.1
  have hl : LV ls 4 [(0, va_rf (some this)), (1, .int a0), (2, va_rf a1), (3, va_rf a2)] := hl
  unfold f_X3_isShared at hq
  refine xaln hx hb hl (x := (some this)) 0 rfl dX3_isShared_0 ?_
  refine xgR Z hR hq fl_X3_9 rfl dX3_isShared_1 (fun x1 hq => ?_)
  refine xiln hx hb hl (x := a0) 1 rfl dX3_isShared_4 ?_
  refine xaZ Z hR hq dX3_isShared_5 (fun x5 hq => ?_)
  refine xzEq hx hb hq (tgt := 20) dX3_isShared_6 (by decide) (fun hq => ?_) (fun hq => ?_)
  · exact t_X3_isShared_20 Z hr hlk hin  h _ _ ls hq hR hS (hl.sub [] rfl)
  refine xaln hx hb hl (x := a1) 2 rfl dX3_isShared_9 ?_
  refine xcV Z hR hS hl (rest := []) (As := []) hq cl_X3_50 (fun b x h1 hc => c_X0_way l b h x h1 hc) ⟨⟨rfl, rfl⟩, (by decide), (by decide)⟩ rfl rfl (by first | decide | (simp only [List.map_cons, List.map_nil, rf_cat, ct_int, ct_ref, List.sum_cons, List.sum_nil] <;> decide)) dX3_isShared_10 (by decide) (fun x10 h H locs hq hR hS => ?_)
  refine xaln hx hb hl (x := a2) 3 rfl dX3_isShared_13 ?_
  refine xcV Z hR hS hl (rest := [.int x10]) (As := []) hq cl_X3_50 (fun b x h1 hc => c_X0_way l b h x h1 hc) ⟨⟨rfl, rfl⟩, (by decide), (by decide)⟩ rfl rfl (by first | decide | (simp only [List.map_cons, List.map_nil, rf_cat, ct_int, ct_ref, List.sum_cons, List.sum_nil] <;> decide)) dX3_isShared_14 (by decide) (fun x14 h H locs hq hR hS => ?_)
  refine xcNe hx hb hq (tgt := 24) dX3_isShared_17 (by decide) (fun hq => ?_) (fun hq => ?_)
  · refine lv_iconst (v := 0) hx hb dX3_isShared_24 (by decide) ?_
    exact t_X3_isShared_25 Z hr hlk hin 0 h _ _ ls hq hR hS (hl.sub [] rfl)
  exact t_X3_isShared_20 Z hr hlk hin  h _ _ ls hq hR hS (hl.sub [] rfl)
abbrev rm_X3_holdBehind : Room := { frames := 1, cells := 0, slots := 0, locals := 21 }
def f_X3_holdBehind (this : Nat) (h : Hp) : Option (Int32 × Hp) :=
gI h (some this) 4 9 (fun x2 =>
rtI (if 0 < (x2 - 1) then (x2 - 1) else 0) h)
set_option maxHeartbeats 4000000 in
set_option maxRecDepth 100000 in
theorem c_X3_holdBehind (l : Launch) {G : GG} (this : Nat) (h : Hp) (v : Int32) (h1 : Hp) (hq : f_X3_holdBehind this h = some (v, h1)) : Met l yX3_holdBehind (Cond.code yX3_holdBehind cX3_holdBehind 1 (some .int) :: GT) rm_X3_holdBehind (va_Pc [.ref this] (Cn G h)) (Qx G (some (.int v)) h1) 0 0 (AA G) := by
  refine xMet (cc := cX3_holdBehind) (by decide) (Nat.le_of_ble_eq_true rfl) (List.forall_mem_cons.mpr ⟨rfl, (fun _ z => by cases z)⟩) ?_
  intro p e s m below meth c ls Z hr hlk hin hR hS hl
  have hx := Z.1
  have hb := Z.2.1
  have hl : LV ls 1 [(0, va_rf (some this))] := hl
  unfold f_X3_holdBehind at hq
  refine lv_iconst (v := 0) hx hb dX3_holdBehind_0 (by decide) ?_
  refine xaln hx hb hl (x := (some this)) 0 rfl dX3_holdBehind_1 ?_
  refine xgI Z hR hq fl_X3_34 rfl dX3_holdBehind_2 (fun x2 hq => ?_)
  refine lv_iconst (v := 1) hx hb dX3_holdBehind_5 (by decide) ?_
  refine lv_isub hx hb dX3_holdBehind_6 ?_
  refine xmx Z hl lk_X3_44 (by decide) (by first | decide | (simp only [List.map_cons, List.map_nil, rf_cat, ct_int, ct_ref, List.sum_cons, List.sum_nil] <;> decide)) (by decide) (by decide) dX3_holdBehind_7 ?_
  exact xrI hx hb hr hlk hR hS hq (by decide) (by decide) dX3_holdBehind_10
abbrev rm_X3_init : Room := { frames := 1, cells := 7, slots := 62, locals := 20 }
def fb_X3_init_72  (k72 : Option Nat × Int32 × Hp → Option (Unit × Hp)) (l0 : Option Nat) (l2 : Int32) (h : Hp) : Option (Unit × Hp) :=
(if 8 ≤ l2 then
rtV h
else
gR h l0 4 2 (fun x79 =>
stI h x79 l2 5 (fun h =>
gR h l0 4 3 (fun x86 =>
stI h x86 l2 8 (fun h =>
gR h l0 4 4 (fun x94 =>
stI h x94 l2 2 (fun h =>
k72 (l0, (l2 + 1), h))))))))
set_option maxHeartbeats 4000000 in
set_option maxRecDepth 100000 in
theorem tb_X3_init_72 (Z : ZZ p s m args c cX3_init RX3 3 G) (hr : meth.sig.returnType = none) (hlk : meth.locks = false) (hin : meth.name = "<init>") {v : Unit} {h1 : Hp} {k72 : Option Nat × Int32 × Hp → Option (Unit × Hp)} (hk72 : ∀ u : Option Nat × Int32 × Hp, k72 u = some (v, h1) → ∀ (H : Heap) (locs : List Loc) (ls : Array Slot), Rep G u.2.2 H → va_S (AA G) s.heap H locs → LV ls 3 [(0, va_rf u.1), (2, .int u.2.1)] → W p l e rm_X3_init s m args below meth c H locs 7 62 (MQ below (Qx G none h1) args s 7 62 (AA G)) (F0 m 72 ls [])) : ∀ (l0 : Option Nat) (l2 : Int32) (h : Hp) (H : Heap) (locs : List Loc) (ls : Array Slot), fb_X3_init_72 k72 l0 l2 h = some (v, h1) → Rep G h H → va_S (AA G) s.heap H locs → LV ls 3 [(0, va_rf l0), (2, .int l2)] → W p l e rm_X3_init s m args below meth c H locs 7 62 (MQ below (Qx G none h1) args s 7 62 (AA G)) (F0 m 72 ls []) := by
  intro l0 l2 h H locs ls hq hR hS hl
  have hx := Z.1
  have hb := Z.2.1
  unfold fb_X3_init_72 at hq
  refine xiln hx hb hl (x := l2) 1 rfl dX3_init_72 ?_
  refine lv_bipush (v := 8) hx hb dX3_init_73 (by decide) ?_
  refine xcGe hx hb hq (tgt := 106) dX3_init_75 (by decide) (fun hq => ?_) (fun hq => ?_)
  · exact xrV hx hb hr hlk hR hS hq (by decide) (by decide) dX3_init_106
  refine xaln hx hb hl (x := l0) 0 rfl dX3_init_78 ?_
  refine xgR Z hR hq fl_X3_15 rfl dX3_init_79 (fun x79 hq => ?_)
  refine xiln hx hb hl (x := l2) 1 rfl dX3_init_82 ?_
  refine lv_iconst (v := 5) hx hb dX3_init_83 (by decide) ?_
  refine xsI Z hR hS hq dX3_init_84 (fun h H locs hq hR hS => ?_)
  refine xaln hx hb hl (x := l0) 0 rfl dX3_init_85 ?_
  refine xgR Z hR hq fl_X3_19 rfl dX3_init_86 (fun x86 hq => ?_)
  refine xiln hx hb hl (x := l2) 1 rfl dX3_init_89 ?_
  refine lv_bipush (v := 8) hx hb dX3_init_90 (by decide) ?_
  refine xsI Z hR hS hq dX3_init_92 (fun h H locs hq hR hS => ?_)
  refine xaln hx hb hl (x := l0) 0 rfl dX3_init_93 ?_
  refine xgR Z hR hq fl_X3_22 rfl dX3_init_94 (fun x94 hq => ?_)
  refine xiln hx hb hl (x := l2) 1 rfl dX3_init_97 ?_
  refine lv_iconst (v := 2) hx hb dX3_init_98 (by decide) ?_
  refine xsI Z hR hS hq dX3_init_99 (fun h H locs hq hR hS => ?_)
  refine xinc hx hb hl (x := l2) (v := (l2 + 1)) (lv' := [(2, .int (l2 + 1)), (0, va_rf l0)]) 1 rfl (by rw [show Int32.ofInt (1) = (1 : Int32) from by decide]) (by decide) dX3_init_100 rfl (fun ls hl => ?_)
  refine lv_goto (tgt := 72) hx hb dX3_init_103 (by decide) ?_
  exact hk72 (l0, (l2 + 1), h) hq H locs ls hR hS (hl.sub [1, 0] rfl)
def f_X3_init_72  (l0 : Option Nat) (l2 : Int32) (h : Hp) : Option (Unit × Hp) :=
  lp (fun (k72 : Option Nat × Int32 × Hp → Option (Unit × Hp)) (u : Option Nat × Int32 × Hp) => fb_X3_init_72 k72 u.1 u.2.1 u.2.2) FU (l0, l2, h)
theorem t_X3_init_72 (Z : ZZ p s m args c cX3_init RX3 3 G) (hr : meth.sig.returnType = none) (hlk : meth.locks = false) (hin : meth.name = "<init>") {v : Unit} {h1 : Hp} : ∀ (l0 : Option Nat) (l2 : Int32) (h : Hp) (H : Heap) (locs : List Loc) (ls : Array Slot), f_X3_init_72 l0 l2 h = some (v, h1) → Rep G h H → va_S (AA G) s.heap H locs → LV ls 3 [(0, va_rf l0), (2, .int l2)] → W p l e rm_X3_init s m args below meth c H locs 7 62 (MQ below (Qx G none h1) args s 7 62 (AA G)) (F0 m 72 ls []) := by
  intro l0 l2 h H locs ls hq hR hS hl
  exact lp_ind (P := fun u : Option Nat × Int32 × Hp => ∀ (H : Heap) (locs : List Loc) (ls : Array Slot), Rep G u.2.2 H → va_S (AA G) s.heap H locs → LV ls 3 [(0, va_rf u.1), (2, .int u.2.1)] → W p l e rm_X3_init s m args below meth c H locs 7 62 (MQ below (Qx G none h1) args s 7 62 (AA G)) (F0 m 72 ls [])) (fun k hk u hq H locs ls hR hS hl => tb_X3_init_72 Z hr hlk hin hk u.1 u.2.1 u.2.2 H locs ls hq hR hS hl) FU (l0, l2, h) hq H locs ls hR hS hl
def f_X3_init (this : Nat) (a0 : Int32) (h : Hp) : Option (Unit × Hp) :=
nwZ h 8 (fun n7 h =>
pR h (some this) 4 1 (some n7) (fun h =>
nwI h 8 (fun n15 h =>
pR h (some this) 4 2 (some n15) (fun h =>
nwI h 8 (fun n23 h =>
pR h (some this) 4 3 (some n23) (fun h =>
nwI h 8 (fun n31 h =>
pR h (some this) 4 4 (some n31) (fun h =>
nwI h 10 (fun n39 h =>
pR h (some this) 4 5 (some n39) (fun h =>
nwI h 10 (fun n47 h =>
pR h (some this) 4 6 (some n47) (fun h =>
nwI h 10 (fun n55 h =>
pR h (some this) 4 7 (some n55) (fun h =>
pI h (some this) 4 9 1 (fun h =>
pI h (some this) 4 0 a0 (fun h =>
f_X3_init_72 (some this) 0 h))))))))))))))))
set_option maxHeartbeats 4000000 in
set_option maxRecDepth 100000 in
theorem c_X3_init (l : Launch) {G : GG} (this : Nat) (a0 : Int32) (h : Hp) (v : Unit) (h1 : Hp) (hq : f_X3_init this a0 h = some (v, h1)) : Met l yX3_init (Cond.code yX3_init cX3_init 3 none :: GT) rm_X3_init (va_Pc [.ref this, .int a0] (Cn G h)) (Qx G none h1) 7 62 (AA G) := by
  refine xMet (cc := cX3_init) (by decide) (Nat.le_of_ble_eq_true rfl) (List.forall_mem_cons.mpr ⟨rfl, (List.forall_mem_cons.mpr ⟨rfl, (fun _ z => by cases z)⟩)⟩) ?_
  intro p e s m below meth c ls Z hr hlk hin hR hS hl
  have hx := Z.1
  have hb := Z.2.1
  have hl : LV ls 3 [(0, va_rf (some this)), (1, .int a0)] := hl
  unfold f_X3_init at hq
  refine xaln hx hb hl (x := (some this)) 0 rfl dX3_init_0 ?_
  refine xoi Z hl lk_X3_3 (by decide) (by decide) dX3_init_1 ?_
  refine xaln hx hb hl (x := (some this)) 0 rfl dX3_init_4 ?_
  refine lv_bipush (v := 8) hx hb dX3_init_5 (by decide) ?_
  refine xnZ Z hR hS hq ac_Z (by decide) (by decide) (by decide) (by decide) (by decide) dX3_init_7 (fun n7 h H hq hR hS => ?_)
  refine xpR Z hR hS hq fl_X3_9 rfl (Or.inr ⟨if_X3_4_1, hin⟩) dX3_init_9 (fun h H locs hq hR hS => ?_)
  refine xaln hx hb hl (x := (some this)) 0 rfl dX3_init_12 ?_
  refine lv_bipush (v := 8) hx hb dX3_init_13 (by decide) ?_
  refine xnI Z hR hS hq ac_I (by decide) (by decide) (by decide) (by decide) (by decide) dX3_init_15 (fun n15 h H hq hR hS => ?_)
  refine xpR Z hR hS hq fl_X3_15 rfl (Or.inr ⟨if_X3_4_2, hin⟩) dX3_init_17 (fun h H locs hq hR hS => ?_)
  refine xaln hx hb hl (x := (some this)) 0 rfl dX3_init_20 ?_
  refine lv_bipush (v := 8) hx hb dX3_init_21 (by decide) ?_
  refine xnI Z hR hS hq ac_I (by decide) (by decide) (by decide) (by decide) (by decide) dX3_init_23 (fun n23 h H hq hR hS => ?_)
  refine xpR Z hR hS hq fl_X3_19 rfl (Or.inr ⟨if_X3_4_3, hin⟩) dX3_init_25 (fun h H locs hq hR hS => ?_)
  refine xaln hx hb hl (x := (some this)) 0 rfl dX3_init_28 ?_
  refine lv_bipush (v := 8) hx hb dX3_init_29 (by decide) ?_
  refine xnI Z hR hS hq ac_I (by decide) (by decide) (by decide) (by decide) (by decide) dX3_init_31 (fun n31 h H hq hR hS => ?_)
  refine xpR Z hR hS hq fl_X3_22 rfl (Or.inr ⟨if_X3_4_4, hin⟩) dX3_init_33 (fun h H locs hq hR hS => ?_)
  refine xaln hx hb hl (x := (some this)) 0 rfl dX3_init_36 ?_
  refine lv_bipush (v := 10) hx hb dX3_init_37 (by decide) ?_
  refine xnI Z hR hS hq ac_I (by decide) (by decide) (by decide) (by decide) (by decide) dX3_init_39 (fun n39 h H hq hR hS => ?_)
  refine xpR Z hR hS hq fl_X3_25 rfl (Or.inr ⟨if_X3_4_5, hin⟩) dX3_init_41 (fun h H locs hq hR hS => ?_)
  refine xaln hx hb hl (x := (some this)) 0 rfl dX3_init_44 ?_
  refine lv_bipush (v := 10) hx hb dX3_init_45 (by decide) ?_
  refine xnI Z hR hS hq ac_I (by decide) (by decide) (by decide) (by decide) (by decide) dX3_init_47 (fun n47 h H hq hR hS => ?_)
  refine xpR Z hR hS hq fl_X3_28 rfl (Or.inr ⟨if_X3_4_6, hin⟩) dX3_init_49 (fun h H locs hq hR hS => ?_)
  refine xaln hx hb hl (x := (some this)) 0 rfl dX3_init_52 ?_
  refine lv_bipush (v := 10) hx hb dX3_init_53 (by decide) ?_
  refine xnI Z hR hS hq ac_I (by decide) (by decide) (by decide) (by decide) (by decide) dX3_init_55 (fun n55 h H hq hR hS => ?_)
  refine xpR Z hR hS hq fl_X3_31 rfl (Or.inr ⟨if_X3_4_7, hin⟩) dX3_init_57 (fun h H locs hq hR hS => ?_)
  refine xaln hx hb hl (x := (some this)) 0 rfl dX3_init_60 ?_
  refine lv_iconst (v := 1) hx hb dX3_init_61 (by decide) ?_
  refine xpI Z hR hS hq fl_X3_34 rfl (Or.inl nf_4_9) dX3_init_62 (fun h H locs hq hR hS => ?_)
  refine xaln hx hb hl (x := (some this)) 0 rfl dX3_init_65 ?_
  refine xiln hx hb hl (x := a0) 1 rfl dX3_init_66 ?_
  refine xpI Z hR hS hq fl_X3_38 rfl (Or.inr ⟨if_X3_4_0, hin⟩) dX3_init_67 (fun h H locs hq hR hS => ?_)
  refine lv_iconst (v := 0) hx hb dX3_init_70 (by decide) ?_
  refine xisn hx hb hl (x := 0) (lv' := [(2, .int 0), (0, va_rf (some this)), (1, .int a0)]) (by decide) dX3_init_71 rfl (fun ls hl => ?_)
  exact t_X3_init_72 Z hr hlk hin (some this) 0 h _ _ ls hq hR hS (hl.sub [1, 0] rfl)
abbrev rm_X3_hasStation : Room := { frames := 0, cells := 0, slots := 0, locals := 0 }
def f_X3_hasStation_17  (s0 : Int32) (h : Hp) : Option (Int32 × Hp) :=
rtZ s0 h
set_option maxHeartbeats 4000000 in
set_option maxRecDepth 100000 in
theorem t_X3_hasStation_17 (Z : ZZ p s m args c cX3_hasStation RX3 2 G) (hr : meth.sig.returnType = (some .boolean)) (hlk : meth.locks = false) (hin : meth.name = "hasStation") {v : Int32} {h1 : Hp} : ∀ (s0 : Int32) (h : Hp) (H : Heap) (locs : List Loc) (ls : Array Slot), f_X3_hasStation_17 s0 h = some (v, h1) → Rep G h H → va_S (AA G) s.heap H locs → LV ls 2 [] → W p l e rm_X3_hasStation s m args below meth c H locs 0 0 (MQ below (Qx G (some (.int v)) h1) args s 0 0 (AA G)) (F0 m 17 ls [.int s0]) := by
  intro s0 h H locs ls hq hR hS hl
  have hx := Z.1
  have hb := Z.2.1
  unfold f_X3_hasStation_17 at hq
  exact xrZ hx hb hr hlk hR hS hq (by decide) (by decide) dX3_hasStation_17
def f_X3_hasStation_16   (h : Hp) : Option (Int32 × Hp) :=
f_X3_hasStation_17 0 h
set_option maxHeartbeats 4000000 in
set_option maxRecDepth 100000 in
theorem t_X3_hasStation_16 (Z : ZZ p s m args c cX3_hasStation RX3 2 G) (hr : meth.sig.returnType = (some .boolean)) (hlk : meth.locks = false) (hin : meth.name = "hasStation") {v : Int32} {h1 : Hp} : ∀  (h : Hp) (H : Heap) (locs : List Loc) (ls : Array Slot), f_X3_hasStation_16  h = some (v, h1) → Rep G h H → va_S (AA G) s.heap H locs → LV ls 2 [] → W p l e rm_X3_hasStation s m args below meth c H locs 0 0 (MQ below (Qx G (some (.int v)) h1) args s 0 0 (AA G)) (F0 m 16 ls []) := by
  intro  h H locs ls hq hR hS hl
  have hx := Z.1
  have hb := Z.2.1
  unfold f_X3_hasStation_16 at hq
  refine lv_iconst (v := 0) hx hb dX3_hasStation_16 (by decide) ?_
  exact t_X3_hasStation_17 Z hr hlk hin 0 h H locs ls hq hR hS (hl.sub [] rfl)
def f_X3_hasStation (this : Nat) (a0 : Int32) (h : Hp) : Option (Int32 × Hp) :=
(if a0 < 0 then
f_X3_hasStation_16  h
else
gI h (some this) 4 0 (fun x6 =>
(if x6 ≤ a0 then
f_X3_hasStation_16  h
else
f_X3_hasStation_17 1 h)))
set_option maxHeartbeats 4000000 in
set_option maxRecDepth 100000 in
theorem c_X3_hasStation (l : Launch) {G : GG} (this : Nat) (a0 : Int32) (h : Hp) (v : Int32) (h1 : Hp) (hq : f_X3_hasStation this a0 h = some (v, h1)) : Met l yX3_hasStation (Cond.code yX3_hasStation cX3_hasStation 2 (some .boolean) :: GT) rm_X3_hasStation (va_Pc [.ref this, .int a0] (Cn G h)) (Qx G (some (.int v)) h1) 0 0 (AA G) := by
  refine xMet (cc := cX3_hasStation) (by decide) (Nat.le_of_ble_eq_true rfl) (List.forall_mem_cons.mpr ⟨rfl, (List.forall_mem_cons.mpr ⟨rfl, (fun _ z => by cases z)⟩)⟩) ?_
  intro p e s m below meth c ls Z hr hlk hin hR hS hl
  have hx := Z.1
  have hb := Z.2.1
  have hl : LV ls 2 [(0, va_rf (some this)), (1, .int a0)] := hl
  unfold f_X3_hasStation at hq
  refine xiln hx hb hl (x := a0) 1 rfl dX3_hasStation_0 ?_
  refine xzLt hx hb hq (tgt := 16) dX3_hasStation_1 (by decide) (fun hq => ?_) (fun hq => ?_)
  · exact t_X3_hasStation_16 Z hr hlk hin  h _ _ ls hq hR hS (hl.sub [] rfl)
  refine xiln hx hb hl (x := a0) 1 rfl dX3_hasStation_4 ?_
  refine xaln hx hb hl (x := (some this)) 0 rfl dX3_hasStation_5 ?_
  refine xgI Z hR hq fl_X3_38 rfl dX3_hasStation_6 (fun x6 hq => ?_)
  refine xcGe hx hb hq (tgt := 16) dX3_hasStation_9 (by decide) (fun hq => ?_) (fun hq => ?_)
  · exact t_X3_hasStation_16 Z hr hlk hin  h _ _ ls hq hR hS (hl.sub [] rfl)
  refine lv_iconst (v := 1) hx hb dX3_hasStation_12 (by decide) ?_
  refine lv_goto (tgt := 17) hx hb dX3_hasStation_13 (by decide) ?_
  exact t_X3_hasStation_17 Z hr hlk hin 1 h _ _ ls hq hR hS (hl.sub [] rfl)
abbrev rm_X3_hasSection : Room := { frames := 0, cells := 0, slots := 0, locals := 0 }
def f_X3_hasSection_19  (s0 : Int32) (h : Hp) : Option (Int32 × Hp) :=
rtZ s0 h
set_option maxHeartbeats 4000000 in
set_option maxRecDepth 100000 in
theorem t_X3_hasSection_19 (Z : ZZ p s m args c cX3_hasSection RX3 2 G) (hr : meth.sig.returnType = (some .boolean)) (hlk : meth.locks = false) (hin : meth.name = "hasSection") {v : Int32} {h1 : Hp} : ∀ (s0 : Int32) (h : Hp) (H : Heap) (locs : List Loc) (ls : Array Slot), f_X3_hasSection_19 s0 h = some (v, h1) → Rep G h H → va_S (AA G) s.heap H locs → LV ls 2 [] → W p l e rm_X3_hasSection s m args below meth c H locs 0 0 (MQ below (Qx G (some (.int v)) h1) args s 0 0 (AA G)) (F0 m 19 ls [.int s0]) := by
  intro s0 h H locs ls hq hR hS hl
  have hx := Z.1
  have hb := Z.2.1
  unfold f_X3_hasSection_19 at hq
  exact xrZ hx hb hr hlk hR hS hq (by decide) (by decide) dX3_hasSection_19
def f_X3_hasSection_18   (h : Hp) : Option (Int32 × Hp) :=
f_X3_hasSection_19 0 h
set_option maxHeartbeats 4000000 in
set_option maxRecDepth 100000 in
theorem t_X3_hasSection_18 (Z : ZZ p s m args c cX3_hasSection RX3 2 G) (hr : meth.sig.returnType = (some .boolean)) (hlk : meth.locks = false) (hin : meth.name = "hasSection") {v : Int32} {h1 : Hp} : ∀  (h : Hp) (H : Heap) (locs : List Loc) (ls : Array Slot), f_X3_hasSection_18  h = some (v, h1) → Rep G h H → va_S (AA G) s.heap H locs → LV ls 2 [] → W p l e rm_X3_hasSection s m args below meth c H locs 0 0 (MQ below (Qx G (some (.int v)) h1) args s 0 0 (AA G)) (F0 m 18 ls []) := by
  intro  h H locs ls hq hR hS hl
  have hx := Z.1
  have hb := Z.2.1
  unfold f_X3_hasSection_18 at hq
  refine lv_iconst (v := 0) hx hb dX3_hasSection_18 (by decide) ?_
  exact t_X3_hasSection_19 Z hr hlk hin 0 h H locs ls hq hR hS (hl.sub [] rfl)
def f_X3_hasSection (this : Nat) (a0 : Int32) (h : Hp) : Option (Int32 × Hp) :=
(if a0 < 0 then
f_X3_hasSection_18  h
else
gI h (some this) 4 0 (fun x6 =>
(if (x6 - 1) ≤ a0 then
f_X3_hasSection_18  h
else
f_X3_hasSection_19 1 h)))
set_option maxHeartbeats 4000000 in
set_option maxRecDepth 100000 in
theorem c_X3_hasSection (l : Launch) {G : GG} (this : Nat) (a0 : Int32) (h : Hp) (v : Int32) (h1 : Hp) (hq : f_X3_hasSection this a0 h = some (v, h1)) : Met l yX3_hasSection (Cond.code yX3_hasSection cX3_hasSection 2 (some .boolean) :: GT) rm_X3_hasSection (va_Pc [.ref this, .int a0] (Cn G h)) (Qx G (some (.int v)) h1) 0 0 (AA G) := by
  refine xMet (cc := cX3_hasSection) (by decide) (Nat.le_of_ble_eq_true rfl) (List.forall_mem_cons.mpr ⟨rfl, (List.forall_mem_cons.mpr ⟨rfl, (fun _ z => by cases z)⟩)⟩) ?_
  intro p e s m below meth c ls Z hr hlk hin hR hS hl
  have hx := Z.1
  have hb := Z.2.1
  have hl : LV ls 2 [(0, va_rf (some this)), (1, .int a0)] := hl
  unfold f_X3_hasSection at hq
  refine xiln hx hb hl (x := a0) 1 rfl dX3_hasSection_0 ?_
  refine xzLt hx hb hq (tgt := 18) dX3_hasSection_1 (by decide) (fun hq => ?_) (fun hq => ?_)
  · exact t_X3_hasSection_18 Z hr hlk hin  h _ _ ls hq hR hS (hl.sub [] rfl)
  refine xiln hx hb hl (x := a0) 1 rfl dX3_hasSection_4 ?_
  refine xaln hx hb hl (x := (some this)) 0 rfl dX3_hasSection_5 ?_
  refine xgI Z hR hq fl_X3_38 rfl dX3_hasSection_6 (fun x6 hq => ?_)
  refine lv_iconst (v := 1) hx hb dX3_hasSection_9 (by decide) ?_
  refine lv_isub hx hb dX3_hasSection_10 ?_
  refine xcGe hx hb hq (tgt := 18) dX3_hasSection_11 (by decide) (fun hq => ?_) (fun hq => ?_)
  · exact t_X3_hasSection_18 Z hr hlk hin  h _ _ ls hq hR hS (hl.sub [] rfl)
  refine lv_iconst (v := 1) hx hb dX3_hasSection_14 (by decide) ?_
  refine lv_goto (tgt := 19) hx hb dX3_hasSection_15 (by decide) ?_
  exact t_X3_hasSection_19 Z hr hlk hin 1 h _ _ ls hq hR hS (hl.sub [] rfl)
abbrev rm_X3_setSection : Room := { frames := 0, cells := 0, slots := 0, locals := 0 }
def f_X3_setSection (this : Nat) (a0 : Int32) (a1 : Int32) (a2 : Int32) (a3 : Int32) (h : Hp) : Option (Unit × Hp) :=
gR h (some this) 4 1 (fun x1 =>
stZ h x1 a0 a1 (fun h =>
gR h (some this) 4 2 (fun x8 =>
stI h x8 a0 a2 (fun h =>
gR h (some this) 4 3 (fun x15 =>
stI h x15 a0 a3 (fun h =>
rtV h))))))
set_option maxHeartbeats 4000000 in
set_option maxRecDepth 100000 in
theorem c_X3_setSection (l : Launch) {G : GG} (this : Nat) (a0 : Int32) (a1 : Int32) (a2 : Int32) (a3 : Int32) (h : Hp) (v : Unit) (h1 : Hp) (hq : f_X3_setSection this a0 a1 a2 a3 h = some (v, h1)) : Met l yX3_setSection (Cond.code yX3_setSection cX3_setSection 5 none :: GT) rm_X3_setSection (va_Pc [.ref this, .int a0, .int a1, .int a2, .int a3] (Cn G h)) (Qx G none h1) 0 0 (AA G) := by
  refine xMet (cc := cX3_setSection) (by decide) (Nat.le_of_ble_eq_true rfl) (List.forall_mem_cons.mpr ⟨rfl, (List.forall_mem_cons.mpr ⟨rfl, (List.forall_mem_cons.mpr ⟨rfl, (List.forall_mem_cons.mpr ⟨rfl, (List.forall_mem_cons.mpr ⟨rfl, (fun _ z => by cases z)⟩)⟩)⟩)⟩)⟩) ?_
  intro p e s m below meth c ls Z hr hlk hin hR hS hl
  have hx := Z.1
  have hb := Z.2.1
  have hl : LV ls 5 [(0, va_rf (some this)), (1, .int a0), (2, .int a1), (3, .int a2), (4, .int a3)] := hl
  unfold f_X3_setSection at hq
  refine xaln hx hb hl (x := (some this)) 0 rfl dX3_setSection_0 ?_
  refine xgR Z hR hq fl_X3_9 rfl dX3_setSection_1 (fun x1 hq => ?_)
  refine xiln hx hb hl (x := a0) 1 rfl dX3_setSection_4 ?_
  refine xiln hx hb hl (x := a1) 2 rfl dX3_setSection_5 ?_
  refine xsZ Z hR hS hq dX3_setSection_6 (fun h H locs hq hR hS => ?_)
  refine xaln hx hb hl (x := (some this)) 0 rfl dX3_setSection_7 ?_
  refine xgR Z hR hq fl_X3_15 rfl dX3_setSection_8 (fun x8 hq => ?_)
  refine xiln hx hb hl (x := a0) 1 rfl dX3_setSection_11 ?_
  refine xiln hx hb hl (x := a2) 3 rfl dX3_setSection_12 ?_
  refine xsI Z hR hS hq dX3_setSection_13 (fun h H locs hq hR hS => ?_)
  refine xaln hx hb hl (x := (some this)) 0 rfl dX3_setSection_14 ?_
  refine xgR Z hR hq fl_X3_19 rfl dX3_setSection_15 (fun x15 hq => ?_)
  refine xiln hx hb hl (x := a0) 1 rfl dX3_setSection_18 ?_
  refine xil hx hb hl (x := a3) 4 rfl dX3_setSection_19 ?_
  refine xsI Z hR hS hq dX3_setSection_21 (fun h H locs hq hR hS => ?_)
  exact xrV hx hb hr hlk hR hS hq (by decide) (by decide) dX3_setSection_22
abbrev rm_X3_addWorks : Room := { frames := 0, cells := 0, slots := 0, locals := 0 }
def f_X3_addWorks (this : Nat) (a0 : Int32) (a1 : Int32) (a2 : Int32) (h : Hp) : Option (Unit × Hp) :=
gR h (some this) 4 5 (fun x1 =>
gI h (some this) 4 8 (fun x5 =>
stI h x1 x5 a0 (fun h =>
gR h (some this) 4 6 (fun x11 =>
gI h (some this) 4 8 (fun x15 =>
stI h x11 x15 a1 (fun h =>
gR h (some this) 4 7 (fun x21 =>
gI h (some this) 4 8 (fun x25 =>
stI h x21 x25 a2 (fun h =>
gI h (some this) 4 8 (fun x32 =>
pI h (some this) 4 8 (x32 + 1) (fun h =>
rtV h)))))))))))
set_option maxHeartbeats 4000000 in
set_option maxRecDepth 100000 in
theorem c_X3_addWorks (l : Launch) {G : GG} (this : Nat) (a0 : Int32) (a1 : Int32) (a2 : Int32) (h : Hp) (v : Unit) (h1 : Hp) (hq : f_X3_addWorks this a0 a1 a2 h = some (v, h1)) : Met l yX3_addWorks (Cond.code yX3_addWorks cX3_addWorks 4 none :: GT) rm_X3_addWorks (va_Pc [.ref this, .int a0, .int a1, .int a2] (Cn G h)) (Qx G none h1) 0 0 (AA G) := by
  refine xMet (cc := cX3_addWorks) (by decide) (Nat.le_of_ble_eq_true rfl) (List.forall_mem_cons.mpr ⟨rfl, (List.forall_mem_cons.mpr ⟨rfl, (List.forall_mem_cons.mpr ⟨rfl, (List.forall_mem_cons.mpr ⟨rfl, (fun _ z => by cases z)⟩)⟩)⟩)⟩) ?_
  intro p e s m below meth c ls Z hr hlk hin hR hS hl
  have hx := Z.1
  have hb := Z.2.1
  have hl : LV ls 4 [(0, va_rf (some this)), (1, .int a0), (2, .int a1), (3, .int a2)] := hl
  unfold f_X3_addWorks at hq
  refine xaln hx hb hl (x := (some this)) 0 rfl dX3_addWorks_0 ?_
  refine xgR Z hR hq fl_X3_25 rfl dX3_addWorks_1 (fun x1 hq => ?_)
  refine xaln hx hb hl (x := (some this)) 0 rfl dX3_addWorks_4 ?_
  refine xgI Z hR hq fl_X3_41 rfl dX3_addWorks_5 (fun x5 hq => ?_)
  refine xiln hx hb hl (x := a0) 1 rfl dX3_addWorks_8 ?_
  refine xsI Z hR hS hq dX3_addWorks_9 (fun h H locs hq hR hS => ?_)
  refine xaln hx hb hl (x := (some this)) 0 rfl dX3_addWorks_10 ?_
  refine xgR Z hR hq fl_X3_28 rfl dX3_addWorks_11 (fun x11 hq => ?_)
  refine xaln hx hb hl (x := (some this)) 0 rfl dX3_addWorks_14 ?_
  refine xgI Z hR hq fl_X3_41 rfl dX3_addWorks_15 (fun x15 hq => ?_)
  refine xiln hx hb hl (x := a1) 2 rfl dX3_addWorks_18 ?_
  refine xsI Z hR hS hq dX3_addWorks_19 (fun h H locs hq hR hS => ?_)
  refine xaln hx hb hl (x := (some this)) 0 rfl dX3_addWorks_20 ?_
  refine xgR Z hR hq fl_X3_31 rfl dX3_addWorks_21 (fun x21 hq => ?_)
  refine xaln hx hb hl (x := (some this)) 0 rfl dX3_addWorks_24 ?_
  refine xgI Z hR hq fl_X3_41 rfl dX3_addWorks_25 (fun x25 hq => ?_)
  refine xiln hx hb hl (x := a2) 3 rfl dX3_addWorks_28 ?_
  refine xsI Z hR hS hq dX3_addWorks_29 (fun h H locs hq hR hS => ?_)
  refine xaln hx hb hl (x := (some this)) 0 rfl dX3_addWorks_30 ?_
  refine lv_dup hx hb dX3_addWorks_31 (rf_cat (some this)) ?_
  refine xgI Z hR hq fl_X3_41 rfl dX3_addWorks_32 (fun x32 hq => ?_)
  refine lv_iconst (v := 1) hx hb dX3_addWorks_35 (by decide) ?_
  refine lv_iadd hx hb dX3_addWorks_36 ?_
  refine xpI Z hR hS hq fl_X3_41 rfl (Or.inl nf_4_8) dX3_addWorks_37 (fun h H locs hq hR hS => ?_)
  exact xrV hx hb hr hlk hR hS hq (by decide) (by decide) dX3_addWorks_40
abbrev rm_X3_lengthOf : Room := { frames := 1, cells := 0, slots := 0, locals := 21 }
def f_X3_lengthOf_28  (s0 : Int32) (h : Hp) : Option (Int32 × Hp) :=
rtI s0 h
set_option maxHeartbeats 4000000 in
set_option maxRecDepth 100000 in
theorem t_X3_lengthOf_28 (Z : ZZ p s m args c cX3_lengthOf RX3 4 G) (hr : meth.sig.returnType = (some .int)) (hlk : meth.locks = false) (hin : meth.name = "lengthOf") {v : Int32} {h1 : Hp} : ∀ (s0 : Int32) (h : Hp) (H : Heap) (locs : List Loc) (ls : Array Slot), f_X3_lengthOf_28 s0 h = some (v, h1) → Rep G h H → va_S (AA G) s.heap H locs → LV ls 4 [] → W p l e rm_X3_lengthOf s m args below meth c H locs 0 0 (MQ below (Qx G (some (.int v)) h1) args s 0 0 (AA G)) (F0 m 28 ls [.int s0]) := by
  intro s0 h H locs ls hq hR hS hl
  have hx := Z.1
  have hb := Z.2.1
  unfold f_X3_lengthOf_28 at hq
  exact xrI hx hb hr hlk hR hS hq (by decide) (by decide) dX3_lengthOf_28
def f_X3_lengthOf (this : Nat) (a0 : Option Nat) (a1 : Int32) (h : Hp) : Option (Int32 × Hp) :=
rcv h a0 1 (fun b2 => bd (f_X0_sectionAt b2 a1 h) (fun x2 h =>
gI h a0 1 4 (fun x7 =>
(if x7 = 0 then
gR h (some this) 4 2 (fun x14 =>
ldI h x14 x2 (fun x18 =>
f_X3_lengthOf_28 x18 h))
else
gR h (some this) 4 3 (fun x23 =>
ldI h x23 x2 (fun x27 =>
f_X3_lengthOf_28 x27 h))))))
set_option maxHeartbeats 4000000 in
set_option maxRecDepth 100000 in
theorem c_X3_lengthOf (l : Launch) {G : GG} (this : Nat) (a0 : Option Nat) (a1 : Int32) (h : Hp) (v : Int32) (h1 : Hp) (hq : f_X3_lengthOf this a0 a1 h = some (v, h1)) : Met l yX3_lengthOf (Cond.code yX3_lengthOf cX3_lengthOf 4 (some .int) :: GT) rm_X3_lengthOf (va_Pc [.ref this, va_rf a0, .int a1] (Cn G h)) (Qx G (some (.int v)) h1) 0 0 (AA G) := by
  refine xMet (cc := cX3_lengthOf) (by decide) (Nat.le_of_ble_eq_true rfl) (List.forall_mem_cons.mpr ⟨rfl, (List.forall_mem_cons.mpr ⟨(rf_cat a0), (List.forall_mem_cons.mpr ⟨rfl, (fun _ z => by cases z)⟩)⟩)⟩) ?_
  intro p e s m below meth c ls Z hr hlk hin hR hS hl
  have hx := Z.1
  have hb := Z.2.1
  have hl : LV ls 4 [(0, va_rf (some this)), (1, va_rf a0), (2, .int a1)] := hl
  unfold f_X3_lengthOf at hq
  refine xaln hx hb hl (x := a0) 1 rfl dX3_lengthOf_0 ?_
  refine xiln hx hb hl (x := a1) 2 rfl dX3_lengthOf_1 ?_
  refine xcV Z hR hS hl (rest := []) (As := [.int a1]) hq cl_X3_56 (fun b x h1 hc => c_X0_sectionAt l b a1 h x h1 hc) ⟨⟨rfl, rfl⟩, (by decide), (by decide)⟩ rfl rfl (by first | decide | (simp only [List.map_cons, List.map_nil, rf_cat, ct_int, ct_ref, List.sum_cons, List.sum_nil] <;> decide)) dX3_lengthOf_2 (by decide) (fun x2 h H locs hq hR hS => ?_)
  refine xisn hx hb hl (x := x2) (lv' := [(3, .int x2), (0, va_rf (some this)), (1, va_rf a0), (2, .int a1)]) (by decide) dX3_lengthOf_5 rfl (fun ls hl => ?_)
  refine xaln hx hb hl (x := a0) 2 rfl dX3_lengthOf_6 ?_
  refine xgI Z hR hq fl_X3_60 rfl dX3_lengthOf_7 (fun x7 hq => ?_)
  refine xzNe hx hb hq (tgt := 22) dX3_lengthOf_10 (by decide) (fun hq => ?_) (fun hq => ?_)
  · refine xaln hx hb hl (x := (some this)) 1 rfl dX3_lengthOf_22 ?_
    refine xgR Z hR hq fl_X3_19 rfl dX3_lengthOf_23 (fun x23 hq => ?_)
    refine xiln hx hb hl (x := x2) 0 rfl dX3_lengthOf_26 ?_
    refine xaI Z hR hq dX3_lengthOf_27 (fun x27 hq => ?_)
    exact t_X3_lengthOf_28 Z hr hlk hin x27 h _ _ ls hq hR hS (hl.sub [] rfl)
  refine xaln hx hb hl (x := (some this)) 1 rfl dX3_lengthOf_13 ?_
  refine xgR Z hR hq fl_X3_15 rfl dX3_lengthOf_14 (fun x14 hq => ?_)
  refine xiln hx hb hl (x := x2) 0 rfl dX3_lengthOf_17 ?_
  refine xaI Z hR hq dX3_lengthOf_18 (fun x18 hq => ?_)
  refine lv_goto (tgt := 28) hx hb dX3_lengthOf_19 (by decide) ?_
  exact t_X3_lengthOf_28 Z hr hlk hin x18 h _ _ ls hq hR hS (hl.sub [] rfl)
end
