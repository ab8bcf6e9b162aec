theorem fl_X2_9 : FL RX2 9 3 0 := ⟨_, TX2, 5, "FreightPaths$Breaks", rfl, by decide, by decide +kernel, Or.inl rfl⟩
theorem fl_X2_15 : FL RX2 15 3 1 := ⟨_, TX2, 5, "FreightPaths$Breaks", rfl, by decide, by decide +kernel, Or.inl rfl⟩
theorem fl_X2_25 : FL RX2 25 2 0 := ⟨_, TX1, 2, "FreightPaths$Book", rfl, by decide, by decide +kernel, Or.inl rfl⟩
theorem fl_X2_37 : FL RX2 37 1 10 := ⟨_, TX0, 14, "FreightPaths$Bid", rfl, by decide, by decide +kernel, Or.inl rfl⟩
theorem fl_X2_45 : FL RX2 45 3 2 := ⟨_, TX2, 5, "FreightPaths$Breaks", rfl, by decide, by decide +kernel, Or.inl rfl⟩
theorem fl_X2_49 : FL RX2 49 3 3 := ⟨_, TX2, 5, "FreightPaths$Breaks", rfl, by decide, by decide +kernel, Or.inl rfl⟩
theorem fl_X2_52 : FL RX2 52 3 4 := ⟨_, TX2, 5, "FreightPaths$Breaks", rfl, by decide, by decide +kernel, Or.inl rfl⟩
theorem fl_X2_68 : FL RX2 68 1 11 := ⟨_, TX0, 14, "FreightPaths$Bid", rfl, by decide, by decide +kernel, Or.inl rfl⟩
theorem fl_X2_72 : FL RX2 72 1 12 := ⟨_, TX0, 14, "FreightPaths$Bid", rfl, by decide, by decide +kernel, Or.inl rfl⟩
theorem fl_X2_106 : FL RX2 106 4 4 := ⟨_, TX3, 10, "FreightPaths$Line", rfl, by decide, by decide +kernel, Or.inl rfl⟩
theorem if_X2_3_0 : iF RX2 3 0 := fun _ _ _ z => by cases z; exact ⟨rfl, rfl⟩
theorem if_X2_3_1 : iF RX2 3 1 := fun _ _ _ z => by cases z; exact ⟨rfl, rfl⟩
theorem nf_3_2 : nF 3 2 := fun _ _ _ z => by cases z; rfl
theorem nf_3_3 : nF 3 3 := fun _ _ _ z => by cases z; rfl
theorem nf_3_4 : nF 3 4 := fun _ _ _ z => by cases z; rfl
theorem ck_X2_35 : (∃ T : u_T, vwCl[1]? = some ("FreightPaths$Bid", T, 14)) ∧ Cond.classLink RX2 35 "FreightPaths$Bid" ∈ GT := ⟨⟨TX0, rfl⟩, by decide +kernel⟩
theorem lk_X2_3 : Cond.methodLink RX2 3 objectInit ∈ GT := by decide +kernel
theorem me_X1_size : Cond.instanceMethod yX1_size ∈ GT ∧ Cond.selects RX1 yX1_size yX1_size ∈ GT ∧ Cond.initialized RX1 ∈ GT ∧ Cond.code yX1_size cX1_size 1 (some .int) ∈ GT := ⟨by decide +kernel, by decide +kernel, by decide +kernel, by decide +kernel⟩
theorem cl_X2_19 : VL RX2 19 2 yX1_size cX1_size 1 (some .int) 0 := ⟨⟨TX1, 2, rfl⟩, ⟨by decide +kernel, me_X1_size⟩, by decide, by decide, by decide +kernel⟩
theorem cl_X2_29 : VL RX2 29 0 yJx4a65c_get_915e3 cJx4a65c_get_915e3 2 (some (.object "java/lang/Object")) 1 := ⟨⟨TJx4a65c, 3, rfl⟩, ⟨by decide +kernel, me_Jx4a65c_get_915e3⟩, by decide, by decide, by decide +kernel⟩
theorem me_X2_firstMinute : Cond.instanceMethod yX2_firstMinute ∈ GT ∧ Cond.selects RX2 yX2_firstMinute yX2_firstMinute ∈ GT ∧ Cond.initialized RX2 ∈ GT ∧ Cond.code yX2_firstMinute cX2_firstMinute 3 (some .int) ∈ GT := ⟨by decide +kernel, by decide +kernel, by decide +kernel, by decide +kernel⟩
theorem cl_X2_41 : VL RX2 41 3 yX2_firstMinute cX2_firstMinute 3 (some .int) 2 := ⟨⟨TX2, 5, rfl⟩, ⟨by decide +kernel, me_X2_firstMinute⟩, by decide, by decide, by decide +kernel⟩
theorem me_X2_firstClosed : Cond.instanceMethod yX2_firstClosed ∈ GT ∧ Cond.selects RX2 yX2_firstClosed yX2_firstClosed ∈ GT ∧ Cond.initialized RX2 ∈ GT ∧ Cond.code yX2_firstClosed cX2_firstClosed 4 (some .int) ∈ GT := ⟨by decide +kernel, by decide +kernel, by decide +kernel, by decide +kernel⟩
theorem cl_X2_55 : VL RX2 55 3 yX2_firstClosed cX2_firstClosed 4 (some .int) 1 := ⟨⟨TX2, 5, rfl⟩, ⟨by decide +kernel, me_X2_firstClosed⟩, by decide, by decide, by decide +kernel⟩
theorem me_X2_firstHeld : Cond.instanceMethod yX2_firstHeld ∈ GT ∧ Cond.selects RX2 yX2_firstHeld yX2_firstHeld ∈ GT ∧ Cond.initialized RX2 ∈ GT ∧ Cond.code yX2_firstHeld cX2_firstHeld 4 (some .int) ∈ GT := ⟨by decide +kernel, by decide +kernel, by decide +kernel, by decide +kernel⟩
theorem cl_X2_59 : VL RX2 59 3 yX2_firstHeld cX2_firstHeld 4 (some .int) 1 := ⟨⟨TX2, 5, rfl⟩, ⟨by decide +kernel, me_X2_firstHeld⟩, by decide, by decide, by decide +kernel⟩
theorem me_X2_firstCrowded : Cond.instanceMethod yX2_firstCrowded ∈ GT ∧ Cond.selects RX2 yX2_firstCrowded yX2_firstCrowded ∈ GT ∧ Cond.initialized RX2 ∈ GT ∧ Cond.code yX2_firstCrowded cX2_firstCrowded 5 (some .int) ∈ GT := ⟨by decide +kernel, by decide +kernel, by decide +kernel, by decide +kernel⟩
theorem cl_X2_62 : VL RX2 62 3 yX2_firstCrowded cX2_firstCrowded 5 (some .int) 1 := ⟨⟨TX2, 5, rfl⟩, ⟨by decide +kernel, me_X2_firstCrowded⟩, by decide, by decide, by decide +kernel⟩
theorem cl_X2_65 : VL RX2 65 1 yX0_steps cX0_steps 1 (some .int) 0 := ⟨⟨TX0, 14, rfl⟩, ⟨by decide +kernel, me_X0_steps⟩, by decide, by decide, by decide +kernel⟩
theorem cl_X2_75 : VL RX2 75 1 yX0_sectionAt cX0_sectionAt 2 (some .int) 1 := ⟨⟨TX0, 14, rfl⟩, ⟨by decide +kernel, me_X0_sectionAt⟩, by decide, by decide, by decide +kernel⟩
theorem me_X3_isClosed : Cond.instanceMethod yX3_isClosed ∈ GT ∧ Cond.selects RX3 yX3_isClosed yX3_isClosed ∈ GT ∧ Cond.initialized RX3 ∈ GT ∧ Cond.code yX3_isClosed cX3_isClosed 4 (some .boolean) ∈ GT := ⟨by decide +kernel, by decide +kernel, by decide +kernel, by decide +kernel⟩
theorem cl_X2_79 : VL RX2 79 4 yX3_isClosed cX3_isClosed 4 (some .boolean) 2 := ⟨⟨TX3, 10, rfl⟩, ⟨by decide +kernel, me_X3_isClosed⟩, by decide, by decide, by decide +kernel⟩
theorem me_X2_isHeldByOther : Cond.instanceMethod yX2_isHeldByOther ∈ GT ∧ Cond.selects RX2 yX2_isHeldByOther yX2_isHeldByOther ∈ GT ∧ Cond.initialized RX2 ∈ GT ∧ Cond.code yX2_isHeldByOther cX2_isHeldByOther 7 (some .boolean) ∈ GT := ⟨by decide +kernel, by decide +kernel, by decide +kernel, by decide +kernel⟩
theorem cl_X2_85 : VL RX2 85 3 yX2_isHeldByOther cX2_isHeldByOther 7 (some .boolean) 3 := ⟨⟨TX2, 5, rfl⟩, ⟨by decide +kernel, me_X2_isHeldByOther⟩, by decide, by decide, by decide +kernel⟩
theorem cl_X2_89 : VL RX2 89 1 yX0_stepInSection cX0_stepInSection 2 (some .int) 1 := ⟨⟨TX0, 14, rfl⟩, ⟨by decide +kernel, me_X0_stepInSection⟩, by decide, by decide, by decide +kernel⟩
theorem cl_X2_92 : VL RX2 92 4 yX3_isShared cX3_isShared 4 (some .boolean) 3 := ⟨⟨TX3, 10, rfl⟩, ⟨by decide +kernel, me_X3_isShared⟩, by decide, by decide, by decide +kernel⟩
theorem cl_X2_96 : VL RX2 96 4 yX3_holdBehind cX3_holdBehind 1 (some .int) 0 := ⟨⟨TX3, 10, rfl⟩, ⟨by decide +kernel, me_X3_holdBehind⟩, by decide, by decide, by decide +kernel⟩
theorem cl_X2_99 : VL RX2 99 1 yX0_stationAt cX0_stationAt 2 (some .int) 1 := ⟨⟨TX0, 14, rfl⟩, ⟨by decide +kernel, me_X0_stationAt⟩, by decide, by decide, by decide +kernel⟩
theorem me_X2_standingAt : Cond.instanceMethod yX2_standingAt ∈ GT ∧ Cond.selects RX2 yX2_standingAt yX2_standingAt ∈ GT ∧ Cond.initialized RX2 ∈ GT ∧ Cond.code yX2_standingAt cX2_standingAt 7 (some .int) ∈ GT := ⟨by decide +kernel, by decide +kernel, by decide +kernel, by decide +kernel⟩
theorem cl_X2_102 : VL RX2 102 3 yX2_standingAt cX2_standingAt 7 (some .int) 2 := ⟨⟨TX2, 5, rfl⟩, ⟨by decide +kernel, me_X2_standingAt⟩, by decide, by decide, by decide +kernel⟩
theorem cl_X2_109 : VL RX2 109 1 yX0_stepAtStation cX0_stepAtStation 2 (some .int) 1 := ⟨⟨TX0, 14, rfl⟩, ⟨by decide +kernel, me_X0_stepAtStation⟩, by decide, by decide, by decide +kernel⟩
section
variable {p : Program} {l : Launch} {e : Env} {s : State} {m : MethodId} {args : Array Value} {below : List Frame} {meth : Method} {c : Code} {G : GG}
abbrev rm_X2_init : Room := { frames := 1, cells := 0, slots := 0, locals := 20 }
def f_X2_init (this : Nat) (a0 : Option Nat) (a1 : Option Nat) (h : Hp) : Option (Unit × Hp) :=
pR h (some this) 3 0 a0 (fun h =>
pR h (some this) 3 1 a1 (fun h =>
rtV h))
set_option maxHeartbeats 4000000 in
set_option maxRecDepth 100000 in
theorem c_X2_init (l : Launch) {G : GG} (this : Nat) (a0 : Option Nat) (a1 : Option Nat) (h : Hp) (v : Unit) (h1 : Hp) (hq : f_X2_init this a0 a1 h = some (v, h1)) : Met l yX2_init (Cond.code yX2_init cX2_init 3 none :: GT) rm_X2_init (va_Pc [.ref this, va_rf a0, va_rf a1] (Cn G h)) (Qx G none h1) 0 0 (AA G) := by
  refine xMet (cc := cX2_init) (by decide) (Nat.le_of_ble_eq_true rfl) (List.forall_mem_cons.mpr ⟨rfl, (List.forall_mem_cons.mpr ⟨(rf_cat a0), (List.forall_mem_cons.mpr ⟨(rf_cat a1), (fun _ z => by cases z)⟩)⟩)⟩) ?_
  intro p e s m below meth c ls Z hr hlk hin hR hS hl
  have hx := Z.1
  have hb := Z.2.1
  have hl : LV ls 3 [(0, va_rf (some this)), (1, va_rf a0), (2, va_rf a1)] := hl
  unfold f_X2_init at hq
  refine xaln hx hb hl (x := (some this)) 0 rfl dX2_init_0 ?_
  refine xoi Z hl lk_X2_3 (by decide) (by decide) dX2_init_1 ?_
  refine xaln hx hb hl (x := (some this)) 0 rfl dX2_init_4 ?_
  refine xaln hx hb hl (x := a0) 1 rfl dX2_init_5 ?_
  refine xpR Z hR hS hq fl_X2_9 rfl (Or.inr ⟨if_X2_3_0, hin⟩) dX2_init_6 (fun h H locs hq hR hS => ?_)
  refine xaln hx hb hl (x := (some this)) 0 rfl dX2_init_9 ?_
  refine xaln hx hb hl (x := a1) 2 rfl dX2_init_10 ?_
  refine xpR Z hR hS hq fl_X2_15 rfl (Or.inr ⟨if_X2_3_1, hin⟩) dX2_init_11 (fun h H locs hq hR hS => ?_)
  exact xrV hx hb hr hlk hR hS hq (by decide) (by decide) dX2_init_14
abbrev rm_X2_firstClosed : Room := { frames := 1, cells := 0, slots := 0, locals := 23 }
def fb_X2_firstClosed_17  (k2 : Option Nat × Option Nat × Int32 × Hp → Option (Int32 × Hp)) (k17 : Option Nat × Option Nat × Int32 × Int32 × Hp → Option (Int32 × Hp)) (l0 : Option Nat) (l1 : Option Nat) (l2 : Int32) (l3 : Int32) (h : Hp) : Option (Int32 × Hp) :=
gR h l1 1 12 (fun x19 =>
ldI h x19 (l2 + 1) (fun x25 =>
(if x25 ≤ l3 then
k2 (l0, l1, (l2 + 1), h)
else
gR h l0 3 0 (fun x30 =>
rcv h l1 1 (fun b35 => bd (f_X0_sectionAt b35 l2 h) (fun x35 h =>
rcv h x30 4 (fun b39 => bd (f_X3_isClosed b39 x35 l3 h) (fun x39 h =>
(if x39 = 0 then
k17 (l0, l1, l2, (l3 + 1), h)
else
rtI l3 h)))))))))
set_option maxHeartbeats 4000000 in
set_option maxRecDepth 100000 in
theorem tb_X2_firstClosed_17 (Z : ZZ p s m args c cX2_firstClosed RX2 4 G) (hr : meth.sig.returnType = (some .int)) (hlk : meth.locks = false) (hin : meth.name = "firstClosed") {v : Int32} {h1 : Hp} {k2 : Option Nat × Option Nat × Int32 × Hp → Option (Int32 × Hp)} (hk2 : ∀ u : Option Nat × Option Nat × Int32 × Hp, k2 u = some (v, h1) → ∀ (H : Heap) (locs : List Loc) (ls : Array Slot), Rep G u.2.2.2 H → va_S (AA G) s.heap H locs → LV ls 4 [(0, va_rf u.1), (1, va_rf u.2.1), (2, .int u.2.2.1)] → W p l e rm_X2_firstClosed s m args below meth c H locs 0 0 (MQ below (Qx G (some (.int v)) h1) args s 0 0 (AA G)) (F0 m 2 ls [])) {k17 : Option Nat × Option Nat × Int32 × Int32 × Hp → Option (Int32 × Hp)} (hk17 : ∀ u : Option Nat × Option Nat × Int32 × Int32 × Hp, k17 u = some (v, h1) → ∀ (H : Heap) (locs : List Loc) (ls : Array Slot), Rep G u.2.2.2.2 H → va_S (AA G) s.heap H locs → LV ls 4 [(0, va_rf u.1), (1, va_rf u.2.1), (2, .int u.2.2.1), (3, .int u.2.2.2.1)] → W p l e rm_X2_firstClosed s m args below meth c H locs 0 0 (MQ below (Qx G (some (.int v)) h1) args s 0 0 (AA G)) (F0 m 17 ls [])) : ∀ (l0 : Option Nat) (l1 : Option Nat) (l2 : Int32) (l3 : Int32) (h : Hp) (H : Heap) (locs : List Loc) (ls : Array Slot), fb_X2_firstClosed_17 k2 k17 l0 l1 l2 l3 h = some (v, h1) → Rep G h H → va_S (AA G) s.heap H locs → LV ls 4 [(0, va_rf l0), (1, va_rf l1), (2, .int l2), (3, .int l3)] → W p l e rm_X2_firstClosed s m args below meth c H locs 0 0 (MQ below (Qx G (some (.int v)) h1) args s 0 0 (AA G)) (F0 m 17 ls []) := by
  intro l0 l1 l2 l3 h H locs ls hq hR hS hl
  have hx := Z.1
  have hb := Z.2.1
  unfold fb_X2_firstClosed_17 at hq
  refine xiln hx hb hl (x := l3) 3 rfl dX2_firstClosed_17 ?_
  refine xaln hx hb hl (x := l1) 1 rfl dX2_firstClosed_18 ?_
  refine xgR Z hR hq fl_X2_72 rfl dX2_firstClosed_19 (fun x19 hq => ?_)
  refine xiln hx hb hl (x := l2) 2 rfl dX2_firstClosed_22 ?_
  refine lv_iconst (v := 1) hx hb dX2_firstClosed_23 (by decide) ?_
  refine lv_iadd hx hb dX2_firstClosed_24 ?_
  refine xaI Z hR hq dX2_firstClosed_25 (fun x25 hq => ?_)
  refine xcGe hx hb hq (tgt := 53) dX2_firstClosed_26 (by decide) (fun hq => ?_) (fun hq => ?_)
  · refine xinc hx hb hl (x := l2) (v := (l2 + 1)) (lv' := [(2, .int (l2 + 1)), (0, va_rf l0), (1, va_rf l1), (3, .int l3)]) 2 rfl (by rw [show Int32.ofInt (1) = (1 : Int32) from by decide]) (by decide) dX2_firstClosed_53 rfl (fun ls hl => ?_)
    refine lv_goto (tgt := 2) hx hb dX2_firstClosed_56 (by decide) ?_
    exact hk2 (l0, l1, (l2 + 1), h) hq H locs ls hR hS (hl.sub [1, 2, 0] rfl)
  refine xaln hx hb hl (x := l0) 0 rfl dX2_firstClosed_29 ?_
  refine xgR Z hR hq fl_X2_9 rfl dX2_firstClosed_30 (fun x30 hq => ?_)
  refine xaln hx hb hl (x := l1) 1 rfl dX2_firstClosed_33 ?_
  refine xiln hx hb hl (x := l2) 2 rfl dX2_firstClosed_34 ?_
  refine xcV Z hR hS hl (rest := [va_rf x30]) (As := [.int l2]) hq cl_X2_75 (fun b x h1 hc => c_X0_sectionAt l b l2 h x h1 hc) ⟨⟨rfl, rfl⟩, (by decide), (by decide)⟩ rfl rfl (by first | decide | (simp only [List.map_cons, List.map_nil, rf_cat, ct_int, ct_ref, List.sum_cons, List.sum_nil] <;> decide)) dX2_firstClosed_35 (by decide) (fun x35 h H locs hq hR hS => ?_)
  refine xiln hx hb hl (x := l3) 3 rfl dX2_firstClosed_38 ?_
  refine xcV Z hR hS hl (rest := []) (As := [.int x35, .int l3]) hq cl_X2_79 (fun b x h1 hc => c_X3_isClosed l b x35 l3 h x h1 hc) ⟨⟨rfl, rfl⟩, (by decide), (by decide)⟩ rfl rfl (by first | decide | (simp only [List.map_cons, List.map_nil, rf_cat, ct_int, ct_ref, List.sum_cons, List.sum_nil] <;> decide)) dX2_firstClosed_39 (by decide) (fun x39 h H locs hq hR hS => ?_)
  refine xzEq hx hb hq (tgt := 47) dX2_firstClosed_42 (by decide) (fun hq => ?_) (fun hq => ?_)
  · refine xinc hx hb hl (x := l3) (v := (l3 + 1)) (lv' := [(3, .int (l3 + 1)), (0, va_rf l0), (1, va_rf l1), (2, .int l2)]) 3 rfl (by rw [show Int32.ofInt (1) = (1 : Int32) from by decide]) (by decide) dX2_firstClosed_47 rfl (fun ls hl => ?_)
    refine lv_goto (tgt := 17) hx hb dX2_firstClosed_50 (by decide) ?_
    exact hk17 (l0, l1, l2, (l3 + 1), h) hq H locs ls hR hS (hl.sub [1, 2, 3, 0] rfl)
  refine xiln hx hb hl (x := l3) 3 rfl dX2_firstClosed_45 ?_
  exact xrI hx hb hr hlk hR hS hq (by decide) (by decide) dX2_firstClosed_46
def f_X2_firstClosed_17  (k2 : Option Nat × Option Nat × Int32 × Hp → Option (Int32 × Hp)) (l0 : Option Nat) (l1 : Option Nat) (l2 : Int32) (l3 : Int32) (h : Hp) : Option (Int32 × Hp) :=
  lp (fun (k17 : Option Nat × Option Nat × Int32 × Int32 × Hp → Option (Int32 × Hp)) (u : Option Nat × Option Nat × Int32 × Int32 × Hp) => fb_X2_firstClosed_17 k2 k17 u.1 u.2.1 u.2.2.1 u.2.2.2.1 u.2.2.2.2) FU (l0, l1, l2, l3, h)
theorem t_X2_firstClosed_17 (Z : ZZ p s m args c cX2_firstClosed RX2 4 G) (hr : meth.sig.returnType = (some .int)) (hlk : meth.locks = false) (hin : meth.name = "firstClosed") {v : Int32} {h1 : Hp} {k2 : Option Nat × Option Nat × Int32 × Hp → Option (Int32 × Hp)} (hk2 : ∀ u : Option Nat × Option Nat × Int32 × Hp, k2 u = some (v, h1) → ∀ (H : Heap) (locs : List Loc) (ls : Array Slot), Rep G u.2.2.2 H → va_S (AA G) s.heap H locs → LV ls 4 [(0, va_rf u.1), (1, va_rf u.2.1), (2, .int u.2.2.1)] → W p l e rm_X2_firstClosed s m args below meth c H locs 0 0 (MQ below (Qx G (some (.int v)) h1) args s 0 0 (AA G)) (F0 m 2 ls [])) : ∀ (l0 : Option Nat) (l1 : Option Nat) (l2 : Int32) (l3 : Int32) (h : Hp) (H : Heap) (locs : List Loc) (ls : Array Slot), f_X2_firstClosed_17 k2 l0 l1 l2 l3 h = some (v, h1) → Rep G h H → va_S (AA G) s.heap H locs → LV ls 4 [(0, va_rf l0), (1, va_rf l1), (2, .int l2), (3, .int l3)] → W p l e rm_X2_firstClosed s m args below meth c H locs 0 0 (MQ below (Qx G (some (.int v)) h1) args s 0 0 (AA G)) (F0 m 17 ls []) := by
  intro l0 l1 l2 l3 h H locs ls hq hR hS hl
  exact lp_ind (P := fun u : Option Nat × Option Nat × Int32 × Int32 × Hp => ∀ (H : Heap) (locs : List Loc) (ls : Array Slot), Rep G u.2.2.2.2 H → va_S (AA G) s.heap H locs → LV ls 4 [(0, va_rf u.1), (1, va_rf u.2.1), (2, .int u.2.2.1), (3, .int u.2.2.2.1)] → W p l e rm_X2_firstClosed s m args below meth c H locs 0 0 (MQ below (Qx G (some (.int v)) h1) args s 0 0 (AA G)) (F0 m 17 ls [])) (fun k hk u hq H locs ls hR hS hl => tb_X2_firstClosed_17 Z hr hlk hin hk2 hk u.1 u.2.1 u.2.2.1 u.2.2.2.1 u.2.2.2.2 H locs ls hq hR hS hl) FU (l0, l1, l2, l3, h) hq H locs ls hR hS hl
def fb_X2_firstClosed_2  (k2 : Option Nat × Option Nat × Int32 × Hp → Option (Int32 × Hp)) (l0 : Option Nat) (l1 : Option Nat) (l2 : Int32) (h : Hp) : Option (Int32 × Hp) :=
rcv h l1 1 (fun b4 => bd (f_X0_steps b4 h) (fun x4 h =>
(if x4 ≤ l2 then
rtI (-1) h
else
gR h l1 1 11 (fun x11 =>
ldI h x11 l2 (fun x15 =>
f_X2_firstClosed_17 k2 l0 l1 l2 x15 h)))))
set_option maxHeartbeats 4000000 in
set_option maxRecDepth 100000 in
theorem tb_X2_firstClosed_2 (Z : ZZ p s m args c cX2_firstClosed RX2 4 G) (hr : meth.sig.returnType = (some .int)) (hlk : meth.locks = false) (hin : meth.name = "firstClosed") {v : Int32} {h1 : Hp} {k2 : Option Nat × Option Nat × Int32 × Hp → Option (Int32 × Hp)} (hk2 : ∀ u : Option Nat × Option Nat × Int32 × Hp, k2 u = some (v, h1) → ∀ (H : Heap) (locs : List Loc) (ls : Array Slot), Rep G u.2.2.2 H → va_S (AA G) s.heap H locs → LV ls 4 [(0, va_rf u.1), (1, va_rf u.2.1), (2, .int u.2.2.1)] → W p l e rm_X2_firstClosed s m args below meth c H locs 0 0 (MQ below (Qx G (some (.int v)) h1) args s 0 0 (AA G)) (F0 m 2 ls [])) : ∀ (l0 : Option Nat) (l1 : Option Nat) (l2 : Int32) (h : Hp) (H : Heap) (locs : List Loc) (ls : Array Slot), fb_X2_firstClosed_2 k2 l0 l1 l2 h = some (v, h1) → Rep G h H → va_S (AA G) s.heap H locs → LV ls 4 [(0, va_rf l0), (1, va_rf l1), (2, .int l2)] → W p l e rm_X2_firstClosed s m args below meth c H locs 0 0 (MQ below (Qx G (some (.int v)) h1) args s 0 0 (AA G)) (F0 m 2 ls []) := by
  intro l0 l1 l2 h H locs ls hq hR hS hl
  have hx := Z.1
  have hb := Z.2.1
  unfold fb_X2_firstClosed_2 at hq
  refine xiln hx hb hl (x := l2) 2 rfl dX2_firstClosed_2 ?_
  refine xaln hx hb hl (x := l1) 1 rfl dX2_firstClosed_3 ?_
  refine xcV Z hR hS hl (rest := [.int l2]) (As := []) hq cl_X2_65 (fun b x h1 hc => c_X0_steps l b h x h1 hc) ⟨⟨rfl, rfl⟩, (by decide), (by decide)⟩ rfl rfl (by first | decide | (simp only [List.map_cons, List.map_nil, rf_cat, ct_int, ct_ref, List.sum_cons, List.sum_nil] <;> decide)) dX2_firstClosed_4 (by decide) (fun x4 h H locs hq hR hS => ?_)
  refine xcGe hx hb hq (tgt := 59) dX2_firstClosed_7 (by decide) (fun hq => ?_) (fun hq => ?_)
  · refine lv_iconst (v := (-1)) hx hb dX2_firstClosed_59 (by decide) ?_
    exact xrI hx hb hr hlk hR hS hq (by decide) (by decide) dX2_firstClosed_60
  refine xaln hx hb hl (x := l1) 1 rfl dX2_firstClosed_10 ?_
  refine xgR Z hR hq fl_X2_68 rfl dX2_firstClosed_11 (fun x11 hq => ?_)
  refine xiln hx hb hl (x := l2) 2 rfl dX2_firstClosed_14 ?_
  refine xaI Z hR hq dX2_firstClosed_15 (fun x15 hq => ?_)
  refine xisn hx hb hl (x := x15) (lv' := [(3, .int x15), (0, va_rf l0), (1, va_rf l1), (2, .int l2)]) (by decide) dX2_firstClosed_16 rfl (fun ls hl => ?_)
  exact t_X2_firstClosed_17 Z hr hlk hin hk2 l0 l1 l2 x15 h H locs ls hq hR hS (hl.sub [1, 2, 3, 0] rfl)
def f_X2_firstClosed_2  (l0 : Option Nat) (l1 : Option Nat) (l2 : Int32) (h : Hp) : Option (Int32 × Hp) :=
  lp (fun (k2 : Option Nat × Option Nat × Int32 × Hp → Option (Int32 × Hp)) (u : Option Nat × Option Nat × Int32 × Hp) => fb_X2_firstClosed_2 k2 u.1 u.2.1 u.2.2.1 u.2.2.2) FU (l0, l1, l2, h)
theorem t_X2_firstClosed_2 (Z : ZZ p s m args c cX2_firstClosed RX2 4 G) (hr : meth.sig.returnType = (some .int)) (hlk : meth.locks = false) (hin : meth.name = "firstClosed") {v : Int32} {h1 : Hp} : ∀ (l0 : Option Nat) (l1 : Option Nat) (l2 : Int32) (h : Hp) (H : Heap) (locs : List Loc) (ls : Array Slot), f_X2_firstClosed_2 l0 l1 l2 h = some (v, h1) → Rep G h H → va_S (AA G) s.heap H locs → LV ls 4 [(0, va_rf l0), (1, va_rf l1), (2, .int l2)] → W p l e rm_X2_firstClosed s m args below meth c H locs 0 0 (MQ below (Qx G (some (.int v)) h1) args s 0 0 (AA G)) (F0 m 2 ls []) := by
  intro l0 l1 l2 h H locs ls hq hR hS hl
  exact lp_ind (P := fun u : Option Nat × Option Nat × Int32 × Hp => ∀ (H : Heap) (locs : List Loc) (ls : Array Slot), Rep G u.2.2.2 H → va_S (AA G) s.heap H locs → LV ls 4 [(0, va_rf u.1), (1, va_rf u.2.1), (2, .int u.2.2.1)] → W p l e rm_X2_firstClosed s m args below meth c H locs 0 0 (MQ below (Qx G (some (.int v)) h1) args s 0 0 (AA G)) (F0 m 2 ls [])) (fun k hk u hq H locs ls hR hS hl => tb_X2_firstClosed_2 Z hr hlk hin hk u.1 u.2.1 u.2.2.1 u.2.2.2 H locs ls hq hR hS hl) FU (l0, l1, l2, h) hq H locs ls hR hS hl
def f_X2_firstClosed (this : Nat) (a0 : Option Nat) (h : Hp) : Option (Int32 × Hp) :=
f_X2_firstClosed_2 (some this) a0 0 h
set_option maxHeartbeats 4000000 in
set_option maxRecDepth 100000 in
theorem c_X2_firstClosed (l : Launch) {G : GG} (this : Nat) (a0 : Option Nat) (h : Hp) (v : Int32) (h1 : Hp) (hq : f_X2_firstClosed this a0 h = some (v, h1)) : Met l yX2_firstClosed (Cond.code yX2_firstClosed cX2_firstClosed 4 (some .int) :: GT) rm_X2_firstClosed (va_Pc [.ref this, va_rf a0] (Cn G h)) (Qx G (some (.int v)) h1) 0 0 (AA G) := by
  refine xMet (cc := cX2_firstClosed) (by decide) (Nat.le_of_ble_eq_true rfl) (List.forall_mem_cons.mpr ⟨rfl, (List.forall_mem_cons.mpr ⟨(rf_cat a0), (fun _ z => by cases z)⟩)⟩) ?_
  intro p e s m below meth c ls Z hr hlk hin hR hS hl
  have hx := Z.1
  have hb := Z.2.1
  have hl : LV ls 4 [(0, va_rf (some this)), (1, va_rf a0)] := hl
  unfold f_X2_firstClosed at hq
  refine lv_iconst (v := 0) hx hb dX2_firstClosed_0 (by decide) ?_
  refine xisn hx hb hl (x := 0) (lv' := [(2, .int 0), (0, va_rf (some this)), (1, va_rf a0)]) (by decide) dX2_firstClosed_1 rfl (fun ls hl => ?_)
  exact t_X2_firstClosed_2 Z hr hlk hin (some this) a0 0 h _ _ ls hq hR hS (hl.sub [1, 2, 0] rfl)
abbrev rm_X2_isHeldByOther : Room := { frames := 3, cells := 0, slots := 0, locals := 64 }
def f_X2_isHeldByOther_110  (k3 : Option Nat × Option Nat × Int32 × Int32 × Int32 × Hp → Option (Int32 × Hp)) (l0 : Option Nat) (l1 : Option Nat) (l2 : Int32) (l3 : Int32) (l4 : Int32) (h : Hp) : Option (Int32 × Hp) :=
k3 (l0, l1, l2, l3, (l4 + 1), h)
set_option maxHeartbeats 4000000 in
set_option maxRecDepth 100000 in
theorem t_X2_isHeldByOther_110 (Z : ZZ p s m args c cX2_isHeldByOther RX2 7 G) (hr : meth.sig.returnType = (some .boolean)) (hlk : meth.locks = false) (hin : meth.name = "isHeldByOther") {v : Int32} {h1 : Hp} {k3 : Option Nat × Option Nat × Int32 × Int32 × Int32 × Hp → Option (Int32 × Hp)} (hk3 : ∀ u : Option Nat × Option Nat × Int32 × Int32 × Int32 × Hp, k3 u = some (v, h1) → ∀ (H : Heap) (locs : List Loc) (ls : Array Slot), Rep G u.2.2.2.2.2 H → va_S (AA G) s.heap H locs → LV ls 7 [(0, va_rf u.1), (1, va_rf u.2.1), (2, .int u.2.2.1), (3, .int u.2.2.2.1), (4, .int u.2.2.2.2.1)] → W p l e rm_X2_isHeldByOther s m args below meth c H locs 0 0 (MQ below (Qx G (some (.int v)) h1) args s 0 0 (AA G)) (F0 m 3 ls [])) : ∀ (l0 : Option Nat) (l1 : Option Nat) (l2 : Int32) (l3 : Int32) (l4 : Int32) (h : Hp) (H : Heap) (locs : List Loc) (ls : Array Slot), f_X2_isHeldByOther_110 k3 l0 l1 l2 l3 l4 h = some (v, h1) → Rep G h H → va_S (AA G) s.heap H locs → LV ls 7 [(0, va_rf l0), (1, va_rf l1), (2, .int l2), (3, .int l3), (4, .int l4)] → W p l e rm_X2_isHeldByOther s m args below meth c H locs 0 0 (MQ below (Qx G (some (.int v)) h1) args s 0 0 (AA G)) (F0 m 110 ls []) := by
  intro l0 l1 l2 l3 l4 h H locs ls hq hR hS hl
  have hx := Z.1
  have hb := Z.2.1
  unfold f_X2_isHeldByOther_110 at hq
  refine xinc hx hb hl (x := l4) (v := (l4 + 1)) (lv' := [(4, .int (l4 + 1)), (0, va_rf l0), (1, va_rf l1), (2, .int l2), (3, .int l3)]) 4 rfl (by rw [show Int32.ofInt (1) = (1 : Int32) from by decide]) (by decide) dX2_isHeldByOther_110 rfl (fun ls hl => ?_)
  refine lv_goto (tgt := 3) hx hb dX2_isHeldByOther_113 (by decide) ?_
  exact hk3 (l0, l1, l2, l3, (l4 + 1), h) hq H locs ls hR hS (hl.sub [1, 2, 3, 4, 0] rfl)
def fb_X2_isHeldByOther_3  (k3 : Option Nat × Option Nat × Int32 × Int32 × Int32 × Hp → Option (Int32 × Hp)) (l0 : Option Nat) (l1 : Option Nat) (l2 : Int32) (l3 : Int32) (l4 : Int32) (h : Hp) : Option (Int32 × Hp) :=
gR h l0 3 1 (fun x6 =>
rcv h x6 2 (fun b9 => bd (f_X1_size b9 h) (fun x9 h =>
(if x9 ≤ l4 then
rtZ 0 h
else
gR h l0 3 1 (fun x16 =>
gR h x16 2 0 (fun x19 =>
rcv h x19 0 (fun b24 => bd (f_Jx4a65c_get_915e3 b24 l4 h) (fun x24 h =>
ckc h x24 1 (
rcv h x24 1 (fun b35 => bd (f_X0_stepInSection b35 l2 h) (fun x35 h =>
(if x24 = l1 then
f_X2_isHeldByOther_110 k3 l0 l1 l2 l3 l4 h
else
gI h x24 1 10 (fun x48 =>
(if x48 = 0 then
f_X2_isHeldByOther_110 k3 l0 l1 l2 l3 l4 h
else
(if x35 = (-1) then
f_X2_isHeldByOther_110 k3 l0 l1 l2 l3 l4 h
else
gR h l0 3 0 (fun x61 =>
rcv h x61 4 (fun b68 => bd (f_X3_isShared b68 l2 l1 x24 h) (fun x68 h =>
(if x68 = 0 then
f_X2_isHeldByOther_110 k3 l0 l1 l2 l3 l4 h
else
gR h x24 1 11 (fun x77 =>
ldI h x77 x35 (fun x82 =>
(if l3 < x82 then
f_X2_isHeldByOther_110 k3 l0 l1 l2 l3 l4 h
else
gR h x24 1 12 (fun x89 =>
ldI h x89 (x35 + 1) (fun x96 =>
gR h l0 3 0 (fun x98 =>
rcv h x98 4 (fun b101 => bd (f_X3_holdBehind b101 h) (fun x101 h =>
(if (x96 + x101) ≤ l3 then
f_X2_isHeldByOther_110 k3 l0 l1 l2 l3 l4 h
else
rtZ 1 h))))))))))))))))))))))))))))
set_option maxHeartbeats 4000000 in
set_option maxRecDepth 100000 in
theorem tb_X2_isHeldByOther_3 (Z : ZZ p s m args c cX2_isHeldByOther RX2 7 G) (hr : meth.sig.returnType = (some .boolean)) (hlk : meth.locks = false) (hin : meth.name = "isHeldByOther") {v : Int32} {h1 : Hp} {k3 : Option Nat × Option Nat × Int32 × Int32 × Int32 × Hp → Option (Int32 × Hp)} (hk3 : ∀ u : Option Nat × Option Nat × Int32 × Int32 × Int32 × Hp, k3 u = some (v, h1) → ∀ (H : Heap) (locs : List Loc) (ls : Array Slot), Rep G u.2.2.2.2.2 H → va_S (AA G) s.heap H locs → LV ls 7 [(0, va_rf u.1), (1, va_rf u.2.1), (2, .int u.2.2.1), (3, .int u.2.2.2.1), (4, .int u.2.2.2.2.1)] → W p l e rm_X2_isHeldByOther s m args below meth c H locs 0 0 (MQ below (Qx G (some (.int v)) h1) args s 0 0 (AA G)) (F0 m 3 ls [])) : ∀ (l0 : Option Nat) (l1 : Option Nat) (l2 : Int32) (l3 : Int32) (l4 : Int32) (h : Hp) (H : Heap) (locs : List Loc) (ls : Array Slot), fb_X2_isHeldByOther_3 k3 l0 l1 l2 l3 l4 h = some (v, h1) → Rep G h H → va_S (AA G) s.heap H locs → LV ls 7 [(0, va_rf l0), (1, va_rf l1), (2, .int l2), (3, .int l3), (4, .int l4)] → W p l e rm_X2_isHeldByOther s m args below meth c H locs 0 0 (MQ below (Qx G (some (.int v)) h1) args s 0 0 (AA G)) (F0 m 3 ls []) := by
  intro l0 l1 l2 l3 l4 h H locs ls hq hR hS hl
  have hx := Z.1
  have hb := Z.2.1
  unfold fb_X2_isHeldByOther_3 at hq
  refine xil hx hb hl (x := l4) 4 rfl dX2_isHeldByOther_3 ?_
  refine xaln hx hb hl (x := l0) 0 rfl dX2_isHeldByOther_5 ?_
  refine xgR Z hR hq fl_X2_15 rfl dX2_isHeldByOther_6 (fun x6 hq => ?_)
  refine xcV Z hR hS hl (rest := [.int l4]) (As := []) hq cl_X2_19 (fun b x h1 hc => c_X1_size l b h x h1 hc) ⟨⟨rfl, rfl⟩, (by decide), (by decide)⟩ rfl rfl (by first | decide | (simp only [List.map_cons, List.map_nil, rf_cat, ct_int, ct_ref, List.sum_cons, List.sum_nil] <;> decide)) dX2_isHeldByOther_9 (by decide) (fun x9 h H locs hq hR hS => ?_)
  refine xcGe hx hb hq (tgt := 116) dX2_isHeldByOther_12 (by decide) (fun hq => ?_) (fun hq => ?_)
  · refine lv_iconst (v := 0) hx hb dX2_isHeldByOther_116 (by decide) ?_
    exact xrZ hx hb hr hlk hR hS hq (by decide) (by decide) dX2_isHeldByOther_117
  refine xaln hx hb hl (x := l0) 0 rfl dX2_isHeldByOther_15 ?_
  refine xgR Z hR hq fl_X2_15 rfl dX2_isHeldByOther_16 (fun x16 hq => ?_)
  refine xgR Z hR hq fl_X2_25 rfl dX2_isHeldByOther_19 (fun x19 hq => ?_)
  refine xil hx hb hl (x := l4) 4 rfl dX2_isHeldByOther_22 ?_
  refine xcV Z hR hS hl (rest := []) (As := [.int l4]) hq cl_X2_29 (fun b x h1 hc => c_Jx4a65c_get_915e3 l b l4 h x h1 hc) ⟨⟨rfl, rfl⟩, (by decide), (by decide)⟩ rfl rfl (by first | decide | (simp only [List.map_cons, List.map_nil, rf_cat, ct_int, ct_ref, List.sum_cons, List.sum_nil] <;> decide)) dX2_isHeldByOther_24 (by decide) (fun x24 h H locs hq hR hS => ?_)
  refine xck Z hR hq ck_X2_35 dX2_isHeldByOther_27 (fun hq => ?_)
  refine xas hx hb hl (x := x24) (lv' := [(5, va_rf x24), (0, va_rf l0), (1, va_rf l1), (2, .int l2), (3, .int l3), (4, .int l4)]) (by decide) dX2_isHeldByOther_30 rfl (fun ls hl => ?_)
  refine xal hx hb hl (x := x24) 0 rfl dX2_isHeldByOther_32 ?_
  refine xiln hx hb hl (x := l2) 3 rfl dX2_isHeldByOther_34 ?_
  refine xcV Z hR hS hl (rest := []) (As := [.int l2]) hq cl_X2_89 (fun b x h1 hc => c_X0_stepInSection l b l2 h x h1 hc) ⟨⟨rfl, rfl⟩, (by decide), (by decide)⟩ rfl rfl (by first | decide | (simp only [List.map_cons, List.map_nil, rf_cat, ct_int, ct_ref, List.sum_cons, List.sum_nil] <;> decide)) dX2_isHeldByOther_35 (by decide) (fun x35 h H locs hq hR hS => ?_)
  refine xis hx hb hl (x := x35) (lv' := [(6, .int x35), (5, va_rf x24), (0, va_rf l0), (1, va_rf l1), (2, .int l2), (3, .int l3), (4, .int l4)]) (by decide) dX2_isHeldByOther_38 rfl (fun ls hl => ?_)
  refine xal hx hb hl (x := x24) 1 rfl dX2_isHeldByOther_40 ?_
  refine xaln hx hb hl (x := l1) 3 rfl dX2_isHeldByOther_42 ?_
  refine xaEq hx hb hq (tgt := 110) dX2_isHeldByOther_43 (by decide) (fun hq => ?_) (fun hq => ?_)
  · exact t_X2_isHeldByOther_110 Z hr hlk hin hk3 l0 l1 l2 l3 l4 h H locs ls hq hR hS (hl.sub [2, 3, 4, 5, 6] rfl)
  refine xal hx hb hl (x := x24) 1 rfl dX2_isHeldByOther_46 ?_
  refine xgI Z hR hq fl_X2_37 rfl dX2_isHeldByOther_48 (fun x48 hq => ?_)
  refine xzEq hx hb hq (tgt := 110) dX2_isHeldByOther_51 (by decide) (fun hq => ?_) (fun hq => ?_)
  · exact t_X2_isHeldByOther_110 Z hr hlk hin hk3 l0 l1 l2 l3 l4 h H locs ls hq hR hS (hl.sub [2, 3, 4, 5, 6] rfl)
  refine xil hx hb hl (x := x35) 0 rfl dX2_isHeldByOther_54 ?_
  refine lv_iconst (v := (-1)) hx hb dX2_isHeldByOther_56 (by decide) ?_
  refine xcEq hx hb hq (tgt := 110) dX2_isHeldByOther_57 (by decide) (fun hq => ?_) (fun hq => ?_)
  · exact t_X2_isHeldByOther_110 Z hr hlk hin hk3 l0 l1 l2 l3 l4 h H locs ls hq hR hS (hl.sub [2, 3, 4, 5, 6] rfl)
  refine xaln hx hb hl (x := l0) 2 rfl dX2_isHeldByOther_60 ?_
  refine xgR Z hR hq fl_X2_9 rfl dX2_isHeldByOther_61 (fun x61 hq => ?_)
  refine xiln hx hb hl (x := l2) 4 rfl dX2_isHeldByOther_64 ?_
  refine xaln hx hb hl (x := l1) 3 rfl dX2_isHeldByOther_65 ?_
  refine xal hx hb hl (x := x24) 1 rfl dX2_isHeldByOther_66 ?_
  refine xcV Z hR hS hl (rest := []) (As := [.int l2, va_rf l1, va_rf x24]) hq cl_X2_92 (fun b x h1 hc => c_X3_isShared l b l2 l1 x24 h x h1 hc) ⟨⟨rfl, rfl⟩, (by decide), (by decide)⟩ rfl rfl (by first | decide | (simp only [List.map_cons, List.map_nil, rf_cat, ct_int, ct_ref, List.sum_cons, List.sum_nil] <;> decide)) dX2_isHeldByOther_68 (by decide) (fun x68 h H locs hq hR hS => ?_)
  refine xzEq hx hb hq (tgt := 110) dX2_isHeldByOther_71 (by decide) (fun hq => ?_) (fun hq => ?_)
  · exact t_X2_isHeldByOther_110 Z hr hlk hin hk3 l0 l1 l2 l3 l4 h H locs ls hq hR hS (hl.sub [2, 3, 4, 5, 6] rfl)
  refine xiln hx hb hl (x := l3) 5 rfl dX2_isHeldByOther_74 ?_
  refine xal hx hb hl (x := x24) 1 rfl dX2_isHeldByOther_75 ?_
  refine xgR Z hR hq fl_X2_68 rfl dX2_isHeldByOther_77 (fun x77 hq => ?_)
  refine xil hx hb hl (x := x35) 0 rfl dX2_isHeldByOther_80 ?_
  refine xaI Z hR hq dX2_isHeldByOther_82 (fun x82 hq => ?_)
  refine xcLt hx hb hq (tgt := 110) dX2_isHeldByOther_83 (by decide) (fun hq => ?_) (fun hq => ?_)
  · exact t_X2_isHeldByOther_110 Z hr hlk hin hk3 l0 l1 l2 l3 l4 h H locs ls hq hR hS (hl.sub [2, 3, 4, 5, 6] rfl)
  refine xiln hx hb hl (x := l3) 5 rfl dX2_isHeldByOther_86 ?_
  refine xal hx hb hl (x := x24) 1 rfl dX2_isHeldByOther_87 ?_
  refine xgR Z hR hq fl_X2_72 rfl dX2_isHeldByOther_89 (fun x89 hq => ?_)
  refine xil hx hb hl (x := x35) 0 rfl dX2_isHeldByOther_92 ?_
  refine lv_iconst (v := 1) hx hb dX2_isHeldByOther_94 (by decide) ?_
  refine lv_iadd hx hb dX2_isHeldByOther_95 ?_
  refine xaI Z hR hq dX2_isHeldByOther_96 (fun x96 hq => ?_)
  refine xaln hx hb hl (x := l0) 2 rfl dX2_isHeldByOther_97 ?_
  refine xgR Z hR hq fl_X2_9 rfl dX2_isHeldByOther_98 (fun x98 hq => ?_)
  refine xcV Z hR hS hl (rest := [.int x96, .int l3]) (As := []) hq cl_X2_96 (fun b x h1 hc => c_X3_holdBehind l b h x h1 hc) ⟨⟨rfl, rfl⟩, (by decide), (by decide)⟩ rfl rfl (by first | decide | (simp only [List.map_cons, List.map_nil, rf_cat, ct_int, ct_ref, List.sum_cons, List.sum_nil] <;> decide)) dX2_isHeldByOther_101 (by decide) (fun x101 h H locs hq hR hS => ?_)
  refine lv_iadd hx hb dX2_isHeldByOther_104 ?_
  refine xcGe hx hb hq (tgt := 110) dX2_isHeldByOther_105 (by decide) (fun hq => ?_) (fun hq => ?_)
  · exact t_X2_isHeldByOther_110 Z hr hlk hin hk3 l0 l1 l2 l3 l4 h H locs ls hq hR hS (hl.sub [2, 3, 4, 5, 6] rfl)
  refine lv_iconst (v := 1) hx hb dX2_isHeldByOther_108 (by decide) ?_
  exact xrZ hx hb hr hlk hR hS hq (by decide) (by decide) dX2_isHeldByOther_109
def f_X2_isHeldByOther_3  (l0 : Option Nat) (l1 : Option Nat) (l2 : Int32) (l3 : Int32) (l4 : Int32) (h : Hp) : Option (Int32 × Hp) :=
  lp (fun (k3 : Option Nat × Option Nat × Int32 × Int32 × Int32 × Hp → Option (Int32 × Hp)) (u : Option Nat × Option Nat × Int32 × Int32 × Int32 × Hp) => fb_X2_isHeldByOther_3 k3 u.1 u.2.1 u.2.2.1 u.2.2.2.1 u.2.2.2.2.1 u.2.2.2.2.2) FU (l0, l1, l2, l3, l4, h)
theorem t_X2_isHeldByOther_3 (Z : ZZ p s m args c cX2_isHeldByOther RX2 7 G) (hr : meth.sig.returnType = (some .boolean)) (hlk : meth.locks = false) (hin : meth.name = "isHeldByOther") {v : Int32} {h1 : Hp} : ∀ (l0 : Option Nat) (l1 : Option Nat) (l2 : Int32) (l3 : Int32) (l4 : Int32) (h : Hp) (H : Heap) (locs : List Loc) (ls : Array Slot), f_X2_isHeldByOther_3 l0 l1 l2 l3 l4 h = some (v, h1) → Rep G h H → va_S (AA G) s.heap H locs → LV ls 7 [(0, va_rf l0), (1, va_rf l1), (2, .int l2), (3, .int l3), (4, .int l4)] → W p l e rm_X2_isHeldByOther s m args below meth c H locs 0 0 (MQ below (Qx G (some (.int v)) h1) args s 0 0 (AA G)) (F0 m 3 ls []) := by
  intro l0 l1 l2 l3 l4 h H locs ls hq hR hS hl
  exact lp_ind (P := fun u : Option Nat × Option Nat × Int32 × Int32 × Int32 × Hp => ∀ (H : Heap) (locs : List Loc) (ls : Array Slot), Rep G u.2.2.2.2.2 H → va_S (AA G) s.heap H locs → LV ls 7 [(0, va_rf u.1), (1, va_rf u.2.1), (2, .int u.2.2.1), (3, .int u.2.2.2.1), (4, .int u.2.2.2.2.1)] → W p l e rm_X2_isHeldByOther s m args below meth c H locs 0 0 (MQ below (Qx G (some (.int v)) h1) args s 0 0 (AA G)) (F0 m 3 ls [])) (fun k hk u hq H locs ls hR hS hl => tb_X2_isHeldByOther_3 Z hr hlk hin hk u.1 u.2.1 u.2.2.1 u.2.2.2.1 u.2.2.2.2.1 u.2.2.2.2.2 H locs ls hq hR hS hl) FU (l0, l1, l2, l3, l4, h) hq H locs ls hR hS hl
def f_X2_isHeldByOther (this : Nat) (a0 : Option Nat) (a1 : Int32) (a2 : Int32) (h : Hp) : Option (Int32 × Hp) :=
f_X2_isHeldByOther_3 (some this) a0 a1 a2 0 h
set_option maxHeartbeats 4000000 in
set_option maxRecDepth 100000 in
theorem c_X2_isHeldByOther (l : Launch) {G : GG} (this : Nat) (a0 : Option Nat) (a1 : Int32) (a2 : Int32) (h : Hp) (v : Int32) (h1 : Hp) (hq : f_X2_isHeldByOther this a0 a1 a2 h = some (v, h1)) : Met l yX2_isHeldByOther (Cond.code yX2_isHeldByOther cX2_isHeldByOther 7 (some .boolean) :: GT) rm_X2_isHeldByOther (va_Pc [.ref this, va_rf a0, .int a1, .int a2] (Cn G h)) (Qx G (some (.int v)) h1) 0 0 (AA G) := by
  refine xMet (cc := cX2_isHeldByOther) (by decide) (Nat.le_of_ble_eq_true rfl) (List.forall_mem_cons.mpr ⟨rfl, (List.forall_mem_cons.mpr ⟨(rf_cat a0), (List.forall_mem_cons.mpr ⟨rfl, (List.forall_mem_cons.mpr ⟨rfl, (fun _ z => by cases z)⟩)⟩)⟩)⟩) ?_
  intro p e s m below meth c ls Z hr hlk hin hR hS hl
  have hx := Z.1
  have hb := Z.2.1
  have hl : LV ls 7 [(0, va_rf (some this)), (1, va_rf a0), (2, .int a1), (3, .int a2)] := hl
  unfold f_X2_isHeldByOther at hq
  refine lv_iconst (v := 0) hx hb dX2_isHeldByOther_0 (by decide) ?_
  refine xis hx hb hl (x := 0) (lv' := [(4, .int 0), (0, va_rf (some this)), (1, va_rf a0), (2, .int a1), (3, .int a2)]) (by decide) dX2_isHeldByOther_1 rfl (fun ls hl => ?_)
  exact t_X2_isHeldByOther_3 Z hr hlk hin (some this) a0 a1 a2 0 h _ _ ls hq hR hS (hl.sub [1, 2, 3, 4, 0] rfl)
abbrev rm_X2_firstHeld : Room := { frames := 4, cells := 0, slots := 0, locals := 90 }
def fb_X2_firstHeld_17  (k2 : Option Nat × Option Nat × Int32 × Hp → Option (Int32 × Hp)) (k17 : Option Nat × Option Nat × Int32 × Int32 × Hp → Option (Int32 × Hp)) (l0 : Option Nat) (l1 : Option Nat) (l2 : Int32) (l3 : Int32) (h : Hp) : Option (Int32 × Hp) :=
gR h l1 1 12 (fun x19 =>
ldI h x19 (l2 + 1) (fun x25 =>
(if x25 ≤ l3 then
k2 (l0, l1, (l2 + 1), h)
else
rcv h l1 1 (fun b33 => bd (f_X0_sectionAt b33 l2 h) (fun x33 h =>
rcv h l0 3 (fun b37 => bd (f_X2_isHeldByOther b37 l1 x33 l3 h) (fun x37 h =>
(if x37 = 0 then
k17 (l0, l1, l2, (l3 + 1), h)
else
rtI l3 h))))))))
set_option maxHeartbeats 4000000 in
set_option maxRecDepth 100000 in
theorem tb_X2_firstHeld_17 (Z : ZZ p s m args c cX2_firstHeld RX2 4 G) (hr : meth.sig.returnType = (some .int)) (hlk : meth.locks = false) (hin : meth.name = "firstHeld") {v : Int32} {h1 : Hp} {k2 : Option Nat × Option Nat × Int32 × Hp → Option (Int32 × Hp)} (hk2 : ∀ u : Option Nat × Option Nat × Int32 × Hp, k2 u = some (v, h1) → ∀ (H : Heap) (locs : List Loc) (ls : Array Slot), Rep G u.2.2.2 H → va_S (AA G) s.heap H locs → LV ls 4 [(0, va_rf u.1), (1, va_rf u.2.1), (2, .int u.2.2.1)] → W p l e rm_X2_firstHeld s m args below meth c H locs 0 0 (MQ below (Qx G (some (.int v)) h1) args s 0 0 (AA G)) (F0 m 2 ls [])) {k17 : Option Nat × Option Nat × Int32 × Int32 × Hp → Option (Int32 × Hp)} (hk17 : ∀ u : Option Nat × Option Nat × Int32 × Int32 × Hp, k17 u = some (v, h1) → ∀ (H : Heap) (locs : List Loc) (ls : Array Slot), Rep G u.2.2.2.2 H → va_S (AA G) s.heap H locs → LV ls 4 [(0, va_rf u.1), (1, va_rf u.2.1), (2, .int u.2.2.1), (3, .int u.2.2.2.1)] → W p l e rm_X2_firstHeld s m args below meth c H locs 0 0 (MQ below (Qx G (some (.int v)) h1) args s 0 0 (AA G)) (F0 m 17 ls [])) : ∀ (l0 : Option Nat) (l1 : Option Nat) (l2 : Int32) (l3 : Int32) (h : Hp) (H : Heap) (locs : List Loc) (ls : Array Slot), fb_X2_firstHeld_17 k2 k17 l0 l1 l2 l3 h = some (v, h1) → Rep G h H → va_S (AA G) s.heap H locs → LV ls 4 [(0, va_rf l0), (1, va_rf l1), (2, .int l2), (3, .int l3)] → W p l e rm_X2_firstHeld s m args below meth c H locs 0 0 (MQ below (Qx G (some (.int v)) h1) args s 0 0 (AA G)) (F0 m 17 ls []) := by
  intro l0 l1 l2 l3 h H locs ls hq hR hS hl
  have hx := Z.1
  have hb := Z.2.1
  unfold fb_X2_firstHeld_17 at hq
  refine xiln hx hb hl (x := l3) 3 rfl dX2_firstHeld_17 ?_
  refine xaln hx hb hl (x := l1) 1 rfl dX2_firstHeld_18 ?_
  refine xgR Z hR hq fl_X2_72 rfl dX2_firstHeld_19 (fun x19 hq => ?_)
  refine xiln hx hb hl (x := l2) 2 rfl dX2_firstHeld_22 ?_
  refine lv_iconst (v := 1) hx hb dX2_firstHeld_23 (by decide) ?_
  refine lv_iadd hx hb dX2_firstHeld_24 ?_
  refine xaI Z hR hq dX2_firstHeld_25 (fun x25 hq => ?_)
  refine xcGe hx hb hq (tgt := 51) dX2_firstHeld_26 (by decide) (fun hq => ?_) (fun hq => ?_)
  · refine xinc hx hb hl (x := l2) (v := (l2 + 1)) (lv' := [(2, .int (l2 + 1)), (0, va_rf l0), (1, va_rf l1), (3, .int l3)]) 2 rfl (by rw [show Int32.ofInt (1) = (1 : Int32) from by decide]) (by decide) dX2_firstHeld_51 rfl (fun ls hl => ?_)
    refine lv_goto (tgt := 2) hx hb dX2_firstHeld_54 (by decide) ?_
    exact hk2 (l0, l1, (l2 + 1), h) hq H locs ls hR hS (hl.sub [1, 2, 0] rfl)
  refine xaln hx hb hl (x := l0) 0 rfl dX2_firstHeld_29 ?_
  refine xaln hx hb hl (x := l1) 1 rfl dX2_firstHeld_30 ?_
  refine xaln hx hb hl (x := l1) 1 rfl dX2_firstHeld_31 ?_
  refine xiln hx hb hl (x := l2) 2 rfl dX2_firstHeld_32 ?_
  refine xcV Z hR hS hl (rest := [va_rf l1, va_rf l0]) (As := [.int l2]) hq cl_X2_75 (fun b x h1 hc => c_X0_sectionAt l b l2 h x h1 hc) ⟨⟨rfl, rfl⟩, (by decide), (by decide)⟩ rfl rfl (by first | decide | (simp only [List.map_cons, List.map_nil, rf_cat, ct_int, ct_ref, List.sum_cons, List.sum_nil] <;> decide)) dX2_firstHeld_33 (by decide) (fun x33 h H locs hq hR hS => ?_)
  refine xiln hx hb hl (x := l3) 3 rfl dX2_firstHeld_36 ?_
  refine xcV Z hR hS hl (rest := []) (As := [va_rf l1, .int x33, .int l3]) hq cl_X2_85 (fun b x h1 hc => c_X2_isHeldByOther l b l1 x33 l3 h x h1 hc) ⟨⟨rfl, rfl⟩, (by decide), (by decide)⟩ rfl rfl (by first | decide | (simp only [List.map_cons, List.map_nil, rf_cat, ct_int, ct_ref, List.sum_cons, List.sum_nil] <;> decide)) dX2_firstHeld_37 (by decide) (fun x37 h H locs hq hR hS => ?_)
  refine xzEq hx hb hq (tgt := 45) dX2_firstHeld_40 (by decide) (fun hq => ?_) (fun hq => ?_)
  · refine xinc hx hb hl (x := l3) (v := (l3 + 1)) (lv' := [(3, .int (l3 + 1)), (0, va_rf l0), (1, va_rf l1), (2, .int l2)]) 3 rfl (by rw [show Int32.ofInt (1) = (1 : Int32) from by decide]) (by decide) dX2_firstHeld_45 rfl (fun ls hl => ?_)
    refine lv_goto (tgt := 17) hx hb dX2_firstHeld_48 (by decide) ?_
    exact hk17 (l0, l1, l2, (l3 + 1), h) hq H locs ls hR hS (hl.sub [1, 2, 3, 0] rfl)
  refine xiln hx hb hl (x := l3) 3 rfl dX2_firstHeld_43 ?_
  exact xrI hx hb hr hlk hR hS hq (by decide) (by decide) dX2_firstHeld_44
def f_X2_firstHeld_17  (k2 : Option Nat × Option Nat × Int32 × Hp → Option (Int32 × Hp)) (l0 : Option Nat) (l1 : Option Nat) (l2 : Int32) (l3 : Int32) (h : Hp) : Option (Int32 × Hp) :=
  lp (fun (k17 : Option Nat × Option Nat × Int32 × Int32 × Hp → Option (Int32 × Hp)) (u : Option Nat × Option Nat × Int32 × Int32 × Hp) => fb_X2_firstHeld_17 k2 k17 u.1 u.2.1 u.2.2.1 u.2.2.2.1 u.2.2.2.2) FU (l0, l1, l2, l3, h)
theorem t_X2_firstHeld_17 (Z : ZZ p s m args c cX2_firstHeld RX2 4 G) (hr : meth.sig.returnType = (some .int)) (hlk : meth.locks = false) (hin : meth.name = "firstHeld") {v : Int32} {h1 : Hp} {k2 : Option Nat × Option Nat × Int32 × Hp → Option (Int32 × Hp)} (hk2 : ∀ u : Option Nat × Option Nat × Int32 × Hp, k2 u = some (v, h1) → ∀ (H : Heap) (locs : List Loc) (ls : Array Slot), Rep G u.2.2.2 H → va_S (AA G) s.heap H locs → LV ls 4 [(0, va_rf u.1), (1, va_rf u.2.1), (2, .int u.2.2.1)] → W p l e rm_X2_firstHeld s m args below meth c H locs 0 0 (MQ below (Qx G (some (.int v)) h1) args s 0 0 (AA G)) (F0 m 2 ls [])) : ∀ (l0 : Option Nat) (l1 : Option Nat) (l2 : Int32) (l3 : Int32) (h : Hp) (H : Heap) (locs : List Loc) (ls : Array Slot), f_X2_firstHeld_17 k2 l0 l1 l2 l3 h = some (v, h1) → Rep G h H → va_S (AA G) s.heap H locs → LV ls 4 [(0, va_rf l0), (1, va_rf l1), (2, .int l2), (3, .int l3)] → W p l e rm_X2_firstHeld s m args below meth c H locs 0 0 (MQ below (Qx G (some (.int v)) h1) args s 0 0 (AA G)) (F0 m 17 ls []) := by
  intro l0 l1 l2 l3 h H locs ls hq hR hS hl
  exact lp_ind (P := fun u : Option Nat × Option Nat × Int32 × Int32 × Hp => ∀ (H : Heap) (locs : List Loc) (ls : Array Slot), Rep G u.2.2.2.2 H → va_S (AA G) s.heap H locs → LV ls 4 [(0, va_rf u.1), (1, va_rf u.2.1), (2, .int u.2.2.1), (3, .int u.2.2.2.1)] → W p l e rm_X2_firstHeld s m args below meth c H locs 0 0 (MQ below (Qx G (some (.int v)) h1) args s 0 0 (AA G)) (F0 m 17 ls [])) (fun k hk u hq H locs ls hR hS hl => tb_X2_firstHeld_17 Z hr hlk hin hk2 hk u.1 u.2.1 u.2.2.1 u.2.2.2.1 u.2.2.2.2 H locs ls hq hR hS hl) FU (l0, l1, l2, l3, h) hq H locs ls hR hS hl
def fb_X2_firstHeld_2  (k2 : Option Nat × Option Nat × Int32 × Hp → Option (Int32 × Hp)) (l0 : Option Nat) (l1 : Option Nat) (l2 : Int32) (h : Hp) : Option (Int32 × Hp) :=
rcv h l1 1 (fun b4 => bd (f_X0_steps b4 h) (fun x4 h =>
(if x4 ≤ l2 then
rtI (-1) h
else
gR h l1 1 11 (fun x11 =>
ldI h x11 l2 (fun x15 =>
f_X2_firstHeld_17 k2 l0 l1 l2 x15 h)))))
set_option maxHeartbeats 4000000 in
set_option maxRecDepth 100000 in
theorem tb_X2_firstHeld_2 (Z : ZZ p s m args c cX2_firstHeld RX2 4 G) (hr : meth.sig.returnType = (some .int)) (hlk : meth.locks = false) (hin : meth.name = "firstHeld") {v : Int32} {h1 : Hp} {k2 : Option Nat × Option Nat × Int32 × Hp → Option (Int32 × Hp)} (hk2 : ∀ u : Option Nat × Option Nat × Int32 × Hp, k2 u = some (v, h1) → ∀ (H : Heap) (locs : List Loc) (ls : Array Slot), Rep G u.2.2.2 H → va_S (AA G) s.heap H locs → LV ls 4 [(0, va_rf u.1), (1, va_rf u.2.1), (2, .int u.2.2.1)] → W p l e rm_X2_firstHeld s m args below meth c H locs 0 0 (MQ below (Qx G (some (.int v)) h1) args s 0 0 (AA G)) (F0 m 2 ls [])) : ∀ (l0 : Option Nat) (l1 : Option Nat) (l2 : Int32) (h : Hp) (H : Heap) (locs : List Loc) (ls : Array Slot), fb_X2_firstHeld_2 k2 l0 l1 l2 h = some (v, h1) → Rep G h H → va_S (AA G) s.heap H locs → LV ls 4 [(0, va_rf l0), (1, va_rf l1), (2, .int l2)] → W p l e rm_X2_firstHeld s m args below meth c H locs 0 0 (MQ below (Qx G (some (.int v)) h1) args s 0 0 (AA G)) (F0 m 2 ls []) := by
  intro l0 l1 l2 h H locs ls hq hR hS hl
  have hx := Z.1
  have hb := Z.2.1
  unfold fb_X2_firstHeld_2 at hq
  refine xiln hx hb hl (x := l2) 2 rfl dX2_firstHeld_2 ?_
  refine xaln hx hb hl (x := l1) 1 rfl dX2_firstHeld_3 ?_
  refine xcV Z hR hS hl (rest := [.int l2]) (As := []) hq cl_X2_65 (fun b x h1 hc => c_X0_steps l b h x h1 hc) ⟨⟨rfl, rfl⟩, (by decide), (by decide)⟩ rfl rfl (by first | decide | (simp only [List.map_cons, List.map_nil, rf_cat, ct_int, ct_ref, List.sum_cons, List.sum_nil] <;> decide)) dX2_firstHeld_4 (by decide) (fun x4 h H locs hq hR hS => ?_)
  refine xcGe hx hb hq (tgt := 57) dX2_firstHeld_7 (by decide) (fun hq => ?_) (fun hq => ?_)
  · refine lv_iconst (v := (-1)) hx hb dX2_firstHeld_57 (by decide) ?_
    exact xrI hx hb hr hlk hR hS hq (by decide) (by decide) dX2_firstHeld_58
  refine xaln hx hb hl (x := l1) 1 rfl dX2_firstHeld_10 ?_
  refine xgR Z hR hq fl_X2_68 rfl dX2_firstHeld_11 (fun x11 hq => ?_)
  refine xiln hx hb hl (x := l2) 2 rfl dX2_firstHeld_14 ?_
  refine xaI Z hR hq dX2_firstHeld_15 (fun x15 hq => ?_)
  refine xisn hx hb hl (x := x15) (lv' := [(3, .int x15), (0, va_rf l0), (1, va_rf l1), (2, .int l2)]) (by decide) dX2_firstHeld_16 rfl (fun ls hl => ?_)
  exact t_X2_firstHeld_17 Z hr hlk hin hk2 l0 l1 l2 x15 h H locs ls hq hR hS (hl.sub [1, 2, 3, 0] rfl)
def f_X2_firstHeld_2  (l0 : Option Nat) (l1 : Option Nat) (l2 : Int32) (h : Hp) : Option (Int32 × Hp) :=
  lp (fun (k2 : Option Nat × Option Nat × Int32 × Hp → Option (Int32 × Hp)) (u : Option Nat × Option Nat × Int32 × Hp) => fb_X2_firstHeld_2 k2 u.1 u.2.1 u.2.2.1 u.2.2.2) FU (l0, l1, l2, h)
theorem t_X2_firstHeld_2 (Z : ZZ p s m args c cX2_firstHeld RX2 4 G) (hr : meth.sig.returnType = (some .int)) (hlk : meth.locks = false) (hin : meth.name = "firstHeld") {v : Int32} {h1 : Hp} : ∀ (l0 : Option Nat) (l1 : Option Nat) (l2 : Int32) (h : Hp) (H : Heap) (locs : List Loc) (ls : Array Slot), f_X2_firstHeld_2 l0 l1 l2 h = some (v, h1) → Rep G h H → va_S (AA G) s.heap H locs → LV ls 4 [(0, va_rf l0), (1, va_rf l1), (2, .int l2)] → W p l e rm_X2_firstHeld s m args below meth c H locs 0 0 (MQ below (Qx G (some (.int v)) h1) args s 0 0 (AA G)) (F0 m 2 ls []) := by
  intro l0 l1 l2 h H locs ls hq hR hS hl
  exact lp_ind (P := fun u : Option Nat × Option Nat × Int32 × Hp => ∀ (H : Heap) (locs : List Loc) (ls : Array Slot), Rep G u.2.2.2 H → va_S (AA G) s.heap H locs → LV ls 4 [(0, va_rf u.1), (1, va_rf u.2.1), (2, .int u.2.2.1)] → W p l e rm_X2_firstHeld s m args below meth c H locs 0 0 (MQ below (Qx G (some (.int v)) h1) args s 0 0 (AA G)) (F0 m 2 ls [])) (fun k hk u hq H locs ls hR hS hl => tb_X2_firstHeld_2 Z hr hlk hin hk u.1 u.2.1 u.2.2.1 u.2.2.2 H locs ls hq hR hS hl) FU (l0, l1, l2, h) hq H locs ls hR hS hl
def f_X2_firstHeld (this : Nat) (a0 : Option Nat) (h : Hp) : Option (Int32 × Hp) :=
f_X2_firstHeld_2 (some this) a0 0 h
set_option maxHeartbeats 4000000 in
set_option maxRecDepth 100000 in
theorem c_X2_firstHeld (l : Launch) {G : GG} (this : Nat) (a0 : Option Nat) (h : Hp) (v : Int32) (h1 : Hp) (hq : f_X2_firstHeld this a0 h = some (v, h1)) : Met l yX2_firstHeld (Cond.code yX2_firstHeld cX2_firstHeld 4 (some .int) :: GT) rm_X2_firstHeld (va_Pc [.ref this, va_rf a0] (Cn G h)) (Qx G (some (.int v)) h1) 0 0 (AA G) := by
  refine xMet (cc := cX2_firstHeld) (by decide) (Nat.le_of_ble_eq_true rfl) (List.forall_mem_cons.mpr ⟨rfl, (List.forall_mem_cons.mpr ⟨(rf_cat a0), (fun _ z => by cases z)⟩)⟩) ?_
  intro p e s m below meth c ls Z hr hlk hin hR hS hl
  have hx := Z.1
  have hb := Z.2.1
  have hl : LV ls 4 [(0, va_rf (some this)), (1, va_rf a0)] := hl
  unfold f_X2_firstHeld at hq
  refine lv_iconst (v := 0) hx hb dX2_firstHeld_0 (by decide) ?_
  refine xisn hx hb hl (x := 0) (lv' := [(2, .int 0), (0, va_rf (some this)), (1, va_rf a0)]) (by decide) dX2_firstHeld_1 rfl (fun ls hl => ?_)
  exact t_X2_firstHeld_2 Z hr hlk hin (some this) a0 0 h _ _ ls hq hR hS (hl.sub [1, 2, 0] rfl)
abbrev rm_X2_standingAt : Room := { frames := 3, cells := 0, slots := 0, locals := 64 }
def f_X2_standingAt_92  (k5 : Option Nat × Int32 × Int32 × Int32 × Int32 × Hp → Option (Int32 × Hp)) (l0 : Option Nat) (l1 : Int32) (l2 : Int32) (l3 : Int32) (l4 : Int32) (h : Hp) : Option (Int32 × Hp) :=
k5 (l0, l1, l2, l3, (l4 + 1), h)
set_option maxHeartbeats 4000000 in
set_option maxRecDepth 100000 in
theorem t_X2_standingAt_92 (Z : ZZ p s m args c cX2_standingAt RX2 7 G) (hr : meth.sig.returnType = (some .int)) (hlk : meth.locks = false) (hin : meth.name = "standingAt") {v : Int32} {h1 : Hp} {k5 : Option Nat × Int32 × Int32 × Int32 × Int32 × Hp → Option (Int32 × Hp)} (hk5 : ∀ u : Option Nat × Int32 × Int32 × Int32 × Int32 × Hp, k5 u = some (v, h1) → ∀ (H : Heap) (locs : List Loc) (ls : Array Slot), Rep G u.2.2.2.2.2 H → va_S (AA G) s.heap H locs → LV ls 7 [(0, va_rf u.1), (1, .int u.2.1), (2, .int u.2.2.1), (3, .int u.2.2.2.1), (4, .int u.2.2.2.2.1)] → W p l e rm_X2_standingAt s m args below meth c H locs 0 0 (MQ below (Qx G (some (.int v)) h1) args s 0 0 (AA G)) (F0 m 5 ls [])) : ∀ (l0 : Option Nat) (l1 : Int32) (l2 : Int32) (l3 : Int32) (l4 : Int32) (h : Hp) (H : Heap) (locs : List Loc) (ls : Array Slot), f_X2_standingAt_92 k5 l0 l1 l2 l3 l4 h = some (v, h1) → Rep G h H → va_S (AA G) s.heap H locs → LV ls 7 [(0, va_rf l0), (1, .int l1), (2, .int l2), (3, .int l3), (4, .int l4)] → W p l e rm_X2_standingAt s m args below meth c H locs 0 0 (MQ below (Qx G (some (.int v)) h1) args s 0 0 (AA G)) (F0 m 92 ls []) := by
  intro l0 l1 l2 l3 l4 h H locs ls hq hR hS hl
  have hx := Z.1
  have hb := Z.2.1
  unfold f_X2_standingAt_92 at hq
  refine xinc hx hb hl (x := l4) (v := (l4 + 1)) (lv' := [(4, .int (l4 + 1)), (0, va_rf l0), (1, .int l1), (2, .int l2), (3, .int l3)]) 4 rfl (by rw [show Int32.ofInt (1) = (1 : Int32) from by decide]) (by decide) dX2_standingAt_92 rfl (fun ls hl => ?_)
  refine lv_goto (tgt := 5) hx hb dX2_standingAt_95 (by decide) ?_
  exact hk5 (l0, l1, l2, l3, (l4 + 1), h) hq H locs ls hR hS (hl.sub [1, 2, 3, 4, 0] rfl)
def fb_X2_standingAt_5  (k5 : Option Nat × Int32 × Int32 × Int32 × Int32 × Hp → Option (Int32 × Hp)) (l0 : Option Nat) (l1 : Int32) (l2 : Int32) (l3 : Int32) (l4 : Int32) (h : Hp) : Option (Int32 × Hp) :=
gR h l0 3 1 (fun x8 =>
rcv h x8 2 (fun b11 => bd (f_X1_size b11 h) (fun x11 h =>
(if x11 ≤ l4 then
rtI l3 h
else
gR h l0 3 1 (fun x18 =>
gR h x18 2 0 (fun x21 =>
rcv h x21 0 (fun b26 => bd (f_Jx4a65c_get_915e3 b26 l4 h) (fun x26 h =>
ckc h x26 1 (
rcv h x26 1 (fun b37 => bd (f_X0_stepAtStation b37 l1 h) (fun x37 h =>
gI h x26 1 10 (fun x44 =>
(if x44 = 0 then
f_X2_standingAt_92 k5 l0 l1 l2 l3 l4 h
else
(if x37 ≤ 0 then
f_X2_standingAt_92 k5 l0 l1 l2 l3 l4 h
else
rcv h x26 1 (fun b59 => bd (f_X0_steps b59 h) (fun x59 h =>
(if x59 ≤ x37 then
f_X2_standingAt_92 k5 l0 l1 l2 l3 l4 h
else
gR h x26 1 12 (fun x68 =>
ldI h x68 x37 (fun x73 =>
(if l2 < x73 then
f_X2_standingAt_92 k5 l0 l1 l2 l3 l4 h
else
gR h x26 1 11 (fun x80 =>
ldI h x80 x37 (fun x85 =>
(if x85 ≤ l2 then
f_X2_standingAt_92 k5 l0 l1 l2 l3 l4 h
else
f_X2_standingAt_92 k5 l0 l1 l2 (l3 + 1) l4 h)))))))))))))))))))))))
set_option maxHeartbeats 4000000 in
set_option maxRecDepth 100000 in
theorem tb_X2_standingAt_5 (Z : ZZ p s m args c cX2_standingAt RX2 7 G) (hr : meth.sig.returnType = (some .int)) (hlk : meth.locks = false) (hin : meth.name = "standingAt") {v : Int32} {h1 : Hp} {k5 : Option Nat × Int32 × Int32 × Int32 × Int32 × Hp → Option (Int32 × Hp)} (hk5 : ∀ u : Option Nat × Int32 × Int32 × Int32 × Int32 × Hp, k5 u = some (v, h1) → ∀ (H : Heap) (locs : List Loc) (ls : Array Slot), Rep G u.2.2.2.2.2 H → va_S (AA G) s.heap H locs → LV ls 7 [(0, va_rf u.1), (1, .int u.2.1), (2, .int u.2.2.1), (3, .int u.2.2.2.1), (4, .int u.2.2.2.2.1)] → W p l e rm_X2_standingAt s m args below meth c H locs 0 0 (MQ below (Qx G (some (.int v)) h1) args s 0 0 (AA G)) (F0 m 5 ls [])) : ∀ (l0 : Option Nat) (l1 : Int32) (l2 : Int32) (l3 : Int32) (l4 : Int32) (h : Hp) (H : Heap) (locs : List Loc) (ls : Array Slot), fb_X2_standingAt_5 k5 l0 l1 l2 l3 l4 h = some (v, h1) → Rep G h H → va_S (AA G) s.heap H locs → LV ls 7 [(0, va_rf l0), (1, .int l1), (2, .int l2), (3, .int l3), (4, .int l4)] → W p l e rm_X2_standingAt s m args below meth c H locs 0 0 (MQ below (Qx G (some (.int v)) h1) args s 0 0 (AA G)) (F0 m 5 ls []) := by
  intro l0 l1 l2 l3 l4 h H locs ls hq hR hS hl
  have hx := Z.1
  have hb := Z.2.1
  unfold fb_X2_standingAt_5 at hq
  refine xil hx hb hl (x := l4) 4 rfl dX2_standingAt_5 ?_
  refine xaln hx hb hl (x := l0) 0 rfl dX2_standingAt_7 ?_
  refine xgR Z hR hq fl_X2_15 rfl dX2_standingAt_8 (fun x8 hq => ?_)
  refine xcV Z hR hS hl (rest := [.int l4]) (As := []) hq cl_X2_19 (fun b x h1 hc => c_X1_size l b h x h1 hc) ⟨⟨rfl, rfl⟩, (by decide), (by decide)⟩ rfl rfl (by first | decide | (simp only [List.map_cons, List.map_nil, rf_cat, ct_int, ct_ref, List.sum_cons, List.sum_nil] <;> decide)) dX2_standingAt_11 (by decide) (fun x11 h H locs hq hR hS => ?_)
  refine xcGe hx hb hq (tgt := 98) dX2_standingAt_14 (by decide) (fun hq => ?_) (fun hq => ?_)
  · refine xiln hx hb hl (x := l3) 3 rfl dX2_standingAt_98 ?_
    exact xrI hx hb hr hlk hR hS hq (by decide) (by decide) dX2_standingAt_99
  refine xaln hx hb hl (x := l0) 0 rfl dX2_standingAt_17 ?_
  refine xgR Z hR hq fl_X2_15 rfl dX2_standingAt_18 (fun x18 hq => ?_)
  refine xgR Z hR hq fl_X2_25 rfl dX2_standingAt_21 (fun x21 hq => ?_)
  refine xil hx hb hl (x := l4) 4 rfl dX2_standingAt_24 ?_
  refine xcV Z hR hS hl (rest := []) (As := [.int l4]) hq cl_X2_29 (fun b x h1 hc => c_Jx4a65c_get_915e3 l b l4 h x h1 hc) ⟨⟨rfl, rfl⟩, (by decide), (by decide)⟩ rfl rfl (by first | decide | (simp only [List.map_cons, List.map_nil, rf_cat, ct_int, ct_ref, List.sum_cons, List.sum_nil] <;> decide)) dX2_standingAt_26 (by decide) (fun x26 h H locs hq hR hS => ?_)
  refine xck Z hR hq ck_X2_35 dX2_standingAt_29 (fun hq => ?_)
  refine xas hx hb hl (x := x26) (lv' := [(5, va_rf x26), (0, va_rf l0), (1, .int l1), (2, .int l2), (3, .int l3), (4, .int l4)]) (by decide) dX2_standingAt_32 rfl (fun ls hl => ?_)
  refine xal hx hb hl (x := x26) 0 rfl dX2_standingAt_34 ?_
  refine xiln hx hb hl (x := l1) 2 rfl dX2_standingAt_36 ?_
  refine xcV Z hR hS hl (rest := []) (As := [.int l1]) hq cl_X2_109 (fun b x h1 hc => c_X0_stepAtStation l b l1 h x h1 hc) ⟨⟨rfl, rfl⟩, (by decide), (by decide)⟩ rfl rfl (by first | decide | (simp only [List.map_cons, List.map_nil, rf_cat, ct_int, ct_ref, List.sum_cons, List.sum_nil] <;> decide)) dX2_standingAt_37 (by decide) (fun x37 h H locs hq hR hS => ?_)
  refine xis hx hb hl (x := x37) (lv' := [(6, .int x37), (5, va_rf x26), (0, va_rf l0), (1, .int l1), (2, .int l2), (3, .int l3), (4, .int l4)]) (by decide) dX2_standingAt_40 rfl (fun ls hl => ?_)
  refine xal hx hb hl (x := x26) 1 rfl dX2_standingAt_42 ?_
  refine xgI Z hR hq fl_X2_37 rfl dX2_standingAt_44 (fun x44 hq => ?_)
  refine xzEq hx hb hq (tgt := 92) dX2_standingAt_47 (by decide) (fun hq => ?_) (fun hq => ?_)
  · exact t_X2_standingAt_92 Z hr hlk hin hk5 l0 l1 l2 l3 l4 h H locs ls hq hR hS (hl.sub [2, 3, 4, 5, 6] rfl)
  refine xil hx hb hl (x := x37) 0 rfl dX2_standingAt_50 ?_
  refine xzLe hx hb hq (tgt := 92) dX2_standingAt_52 (by decide) (fun hq => ?_) (fun hq => ?_)
  · exact t_X2_standingAt_92 Z hr hlk hin hk5 l0 l1 l2 l3 l4 h H locs ls hq hR hS (hl.sub [2, 3, 4, 5, 6] rfl)
  refine xil hx hb hl (x := x37) 0 rfl dX2_standingAt_55 ?_
  refine xal hx hb hl (x := x26) 1 rfl dX2_standingAt_57 ?_
  refine xcV Z hR hS hl (rest := [.int x37]) (As := []) hq cl_X2_65 (fun b x h1 hc => c_X0_steps l b h x h1 hc) ⟨⟨rfl, rfl⟩, (by decide), (by decide)⟩ rfl rfl (by first | decide | (simp only [List.map_cons, List.map_nil, rf_cat, ct_int, ct_ref, List.sum_cons, List.sum_nil] <;> decide)) dX2_standingAt_59 (by decide) (fun x59 h H locs hq hR hS => ?_)
  refine xcGe hx hb hq (tgt := 92) dX2_standingAt_62 (by decide) (fun hq => ?_) (fun hq => ?_)
  · exact t_X2_standingAt_92 Z hr hlk hin hk5 l0 l1 l2 l3 l4 h H locs ls hq hR hS (hl.sub [2, 3, 4, 5, 6] rfl)
  refine xiln hx hb hl (x := l2) 4 rfl dX2_standingAt_65 ?_
  refine xal hx hb hl (x := x26) 1 rfl dX2_standingAt_66 ?_
  refine xgR Z hR hq fl_X2_72 rfl dX2_standingAt_68 (fun x68 hq => ?_)
  refine xil hx hb hl (x := x37) 0 rfl dX2_standingAt_71 ?_
  refine xaI Z hR hq dX2_standingAt_73 (fun x73 hq => ?_)
  refine xcLt hx hb hq (tgt := 92) dX2_standingAt_74 (by decide) (fun hq => ?_) (fun hq => ?_)
  · exact t_X2_standingAt_92 Z hr hlk hin hk5 l0 l1 l2 l3 l4 h H locs ls hq hR hS (hl.sub [2, 3, 4, 5, 6] rfl)
  refine xiln hx hb hl (x := l2) 4 rfl dX2_standingAt_77 ?_
  refine xal hx hb hl (x := x26) 1 rfl dX2_standingAt_78 ?_
  refine xgR Z hR hq fl_X2_68 rfl dX2_standingAt_80 (fun x80 hq => ?_)
  refine xil hx hb hl (x := x37) 0 rfl dX2_standingAt_83 ?_
  refine xaI Z hR hq dX2_standingAt_85 (fun x85 hq => ?_)
  refine xcGe hx hb hq (tgt := 92) dX2_standingAt_86 (by decide) (fun hq => ?_) (fun hq => ?_)
  · exact t_X2_standingAt_92 Z hr hlk hin hk5 l0 l1 l2 l3 l4 h H locs ls hq hR hS (hl.sub [2, 3, 4, 5, 6] rfl)
  refine xinc hx hb hl (x := l3) (v := (l3 + 1)) (lv' := [(3, .int (l3 + 1)), (6, .int x37), (5, va_rf x26), (0, va_rf l0), (1, .int l1), (2, .int l2), (4, .int l4)]) 5 rfl (by rw [show Int32.ofInt (1) = (1 : Int32) from by decide]) (by decide) dX2_standingAt_89 rfl (fun ls hl => ?_)
  exact t_X2_standingAt_92 Z hr hlk hin hk5 l0 l1 l2 (l3 + 1) l4 h H locs ls hq hR hS (hl.sub [3, 4, 5, 0, 6] rfl)
def f_X2_standingAt_5  (l0 : Option Nat) (l1 : Int32) (l2 : Int32) (l3 : Int32) (l4 : Int32) (h : Hp) : Option (Int32 × Hp) :=
  lp (fun (k5 : Option Nat × Int32 × Int32 × Int32 × Int32 × Hp → Option (Int32 × Hp)) (u : Option Nat × Int32 × Int32 × Int32 × Int32 × Hp) => fb_X2_standingAt_5 k5 u.1 u.2.1 u.2.2.1 u.2.2.2.1 u.2.2.2.2.1 u.2.2.2.2.2) FU (l0, l1, l2, l3, l4, h)
theorem t_X2_standingAt_5 (Z : ZZ p s m args c cX2_standingAt RX2 7 G) (hr : meth.sig.returnType = (some .int)) (hlk : meth.locks = false) (hin : meth.name = "standingAt") {v : Int32} {h1 : Hp} : ∀ (l0 : Option Nat) (l1 : Int32) (l2 : Int32) (l3 : Int32) (l4 : Int32) (h : Hp) (H : Heap) (locs : List Loc) (ls : Array Slot), f_X2_standingAt_5 l0 l1 l2 l3 l4 h = some (v, h1) → Rep G h H → va_S (AA G) s.heap H locs → LV ls 7 [(0, va_rf l0), (1, .int l1), (2, .int l2), (3, .int l3), (4, .int l4)] → W p l e rm_X2_standingAt s m args below meth c H locs 0 0 (MQ below (Qx G (some (.int v)) h1) args s 0 0 (AA G)) (F0 m 5 ls []) := by
  intro l0 l1 l2 l3 l4 h H locs ls hq hR hS hl
  exact lp_ind (P := fun u : Option Nat × Int32 × Int32 × Int32 × Int32 × Hp => ∀ (H : Heap) (locs : List Loc) (ls : Array Slot), Rep G u.2.2.2.2.2 H → va_S (AA G) s.heap H locs → LV ls 7 [(0, va_rf u.1), (1, .int u.2.1), (2, .int u.2.2.1), (3, .int u.2.2.2.1), (4, .int u.2.2.2.2.1)] → W p l e rm_X2_standingAt s m args below meth c H locs 0 0 (MQ below (Qx G (some (.int v)) h1) args s 0 0 (AA G)) (F0 m 5 ls [])) (fun k hk u hq H locs ls hR hS hl => tb_X2_standingAt_5 Z hr hlk hin hk u.1 u.2.1 u.2.2.1 u.2.2.2.1 u.2.2.2.2.1 u.2.2.2.2.2 H locs ls hq hR hS hl) FU (l0, l1, l2, l3, l4, h) hq H locs ls hR hS hl
def f_X2_standingAt (this : Nat) (a0 : Int32) (a1 : Int32) (h : Hp) : Option (Int32 × Hp) :=
f_X2_standingAt_5 (some this) a0 a1 0 0 h
set_option maxHeartbeats 4000000 in
set_option maxRecDepth 100000 in
theorem c_X2_standingAt (l : Launch) {G : GG} (this : Nat) (a0 : Int32) (a1 : Int32) (h : Hp) (v : Int32) (h1 : Hp) (hq : f_X2_standingAt this a0 a1 h = some (v, h1)) : Met l yX2_standingAt (Cond.code yX2_standingAt cX2_standingAt 7 (some .int) :: GT) rm_X2_standingAt (va_Pc [.ref this, .int a0, .int a1] (Cn G h)) (Qx G (some (.int v)) h1) 0 0 (AA G) := by
  refine xMet (cc := cX2_standingAt) (by decide) (Nat.le_of_ble_eq_true rfl) (List.forall_mem_cons.mpr ⟨rfl, (List.forall_mem_cons.mpr ⟨rfl, (List.forall_mem_cons.mpr ⟨rfl, (fun _ z => by cases z)⟩)⟩)⟩) ?_
  intro p e s m below meth c ls Z hr hlk hin hR hS hl
  have hx := Z.1
  have hb := Z.2.1
  have hl : LV ls 7 [(0, va_rf (some this)), (1, .int a0), (2, .int a1)] := hl
  unfold f_X2_standingAt at hq
  refine lv_iconst (v := 0) hx hb dX2_standingAt_0 (by decide) ?_
  refine xisn hx hb hl (x := 0) (lv' := [(3, .int 0), (0, va_rf (some this)), (1, .int a0), (2, .int a1)]) (by decide) dX2_standingAt_1 rfl (fun ls hl => ?_)
  refine lv_iconst (v := 0) hx hb dX2_standingAt_2 (by decide) ?_
  refine xis hx hb hl (x := 0) (lv' := [(4, .int 0), (3, .int 0), (0, va_rf (some this)), (1, .int a0), (2, .int a1)]) (by decide) dX2_standingAt_3 rfl (fun ls hl => ?_)
  exact t_X2_standingAt_5 Z hr hlk hin (some this) a0 a1 0 0 h _ _ ls hq hR hS (hl.sub [2, 3, 4, 1, 0] rfl)
abbrev rm_X2_firstCrowded : Room := { frames := 4, cells := 0, slots := 0, locals := 90 }
def fb_X2_firstCrowded_24  (k2 : Option Nat × Option Nat × Int32 × Hp → Option (Int32 × Hp)) (k24 : Option Nat × Option Nat × Int32 × Int32 × Int32 × Hp → Option (Int32 × Hp)) (l0 : Option Nat) (l1 : Option Nat) (l2 : Int32) (l3 : Int32) (l4 : Int32) (h : Hp) : Option (Int32 × Hp) :=
gR h l1 1 11 (fun x27 =>
ldI h x27 l2 (fun x31 =>
(if x31 ≤ l4 then
k2 (l0, l1, (l2 + 1), h)
else
rcv h l0 3 (fun b39 => bd (f_X2_standingAt b39 l3 l4 h) (fun x39 h =>
gR h l0 3 0 (fun x43 =>
gR h x43 4 4 (fun x46 =>
ldI h x46 l3 (fun x50 =>
(if x39 ≤ x50 then
k24 (l0, l1, l2, l3, (l4 + 1), h)
else
rtI l4 h)))))))))
set_option maxHeartbeats 4000000 in
set_option maxRecDepth 100000 in
theorem tb_X2_firstCrowded_24 (Z : ZZ p s m args c cX2_firstCrowded RX2 5 G) (hr : meth.sig.returnType = (some .int)) (hlk : meth.locks = false) (hin : meth.name = "firstCrowded") {v : Int32} {h1 : Hp} {k2 : Option Nat × Option Nat × Int32 × Hp → Option (Int32 × Hp)} (hk2 : ∀ u : Option Nat × Option Nat × Int32 × Hp, k2 u = some (v, h1) → ∀ (H : Heap) (locs : List Loc) (ls : Array Slot), Rep G u.2.2.2 H → va_S (AA G) s.heap H locs → LV ls 5 [(0, va_rf u.1), (1, va_rf u.2.1), (2, .int u.2.2.1)] → W p l e rm_X2_firstCrowded s m args below meth c H locs 0 0 (MQ below (Qx G (some (.int v)) h1) args s 0 0 (AA G)) (F0 m 2 ls [])) {k24 : Option Nat × Option Nat × Int32 × Int32 × Int32 × Hp → Option (Int32 × Hp)} (hk24 : ∀ u : Option Nat × Option Nat × Int32 × Int32 × Int32 × Hp, k24 u = some (v, h1) → ∀ (H : Heap) (locs : List Loc) (ls : Array Slot), Rep G u.2.2.2.2.2 H → va_S (AA G) s.heap H locs → LV ls 5 [(0, va_rf u.1), (1, va_rf u.2.1), (2, .int u.2.2.1), (3, .int u.2.2.2.1), (4, .int u.2.2.2.2.1)] → W p l e rm_X2_firstCrowded s m args below meth c H locs 0 0 (MQ below (Qx G (some (.int v)) h1) args s 0 0 (AA G)) (F0 m 24 ls [])) : ∀ (l0 : Option Nat) (l1 : Option Nat) (l2 : Int32) (l3 : Int32) (l4 : Int32) (h : Hp) (H : Heap) (locs : List Loc) (ls : Array Slot), fb_X2_firstCrowded_24 k2 k24 l0 l1 l2 l3 l4 h = some (v, h1) → Rep G h H → va_S (AA G) s.heap H locs → LV ls 5 [(0, va_rf l0), (1, va_rf l1), (2, .int l2), (3, .int l3), (4, .int l4)] → W p l e rm_X2_firstCrowded s m args below meth c H locs 0 0 (MQ below (Qx G (some (.int v)) h1) args s 0 0 (AA G)) (F0 m 24 ls []) := by
  intro l0 l1 l2 l3 l4 h H locs ls hq hR hS hl
  have hx := Z.1
  have hb := Z.2.1
  unfold fb_X2_firstCrowded_24 at hq
  refine xil hx hb hl (x := l4) 4 rfl dX2_firstCrowded_24 ?_
  refine xaln hx hb hl (x := l1) 1 rfl dX2_firstCrowded_26 ?_
  refine xgR Z hR hq fl_X2_68 rfl dX2_firstCrowded_27 (fun x27 hq => ?_)
  refine xiln hx hb hl (x := l2) 2 rfl dX2_firstCrowded_30 ?_
  refine xaI Z hR hq dX2_firstCrowded_31 (fun x31 hq => ?_)
  refine xcGe hx hb hq (tgt := 63) dX2_firstCrowded_32 (by decide) (fun hq => ?_) (fun hq => ?_)
  · refine xinc hx hb hl (x := l2) (v := (l2 + 1)) (lv' := [(2, .int (l2 + 1)), (0, va_rf l0), (1, va_rf l1), (3, .int l3), (4, .int l4)]) 2 rfl (by rw [show Int32.ofInt (1) = (1 : Int32) from by decide]) (by decide) dX2_firstCrowded_63 rfl (fun ls hl => ?_)
    refine lv_goto (tgt := 2) hx hb dX2_firstCrowded_66 (by decide) ?_
    exact hk2 (l0, l1, (l2 + 1), h) hq H locs ls hR hS (hl.sub [1, 2, 0] rfl)
  refine xaln hx hb hl (x := l0) 0 rfl dX2_firstCrowded_35 ?_
  refine xiln hx hb hl (x := l3) 3 rfl dX2_firstCrowded_36 ?_
  refine xil hx hb hl (x := l4) 4 rfl dX2_firstCrowded_37 ?_
  refine xcV Z hR hS hl (rest := []) (As := [.int l3, .int l4]) hq cl_X2_102 (fun b x h1 hc => c_X2_standingAt l b l3 l4 h x h1 hc) ⟨⟨rfl, rfl⟩, (by decide), (by decide)⟩ rfl rfl (by first | decide | (simp only [List.map_cons, List.map_nil, rf_cat, ct_int, ct_ref, List.sum_cons, List.sum_nil] <;> decide)) dX2_firstCrowded_39 (by decide) (fun x39 h H locs hq hR hS => ?_)
  refine xaln hx hb hl (x := l0) 0 rfl dX2_firstCrowded_42 ?_
  refine xgR Z hR hq fl_X2_9 rfl dX2_firstCrowded_43 (fun x43 hq => ?_)
  refine xgR Z hR hq fl_X2_106 rfl dX2_firstCrowded_46 (fun x46 hq => ?_)
  refine xiln hx hb hl (x := l3) 3 rfl dX2_firstCrowded_49 ?_
  refine xaI Z hR hq dX2_firstCrowded_50 (fun x50 hq => ?_)
  refine xcLe hx hb hq (tgt := 57) dX2_firstCrowded_51 (by decide) (fun hq => ?_) (fun hq => ?_)
  · refine xinc hx hb hl (x := l4) (v := (l4 + 1)) (lv' := [(4, .int (l4 + 1)), (0, va_rf l0), (1, va_rf l1), (2, .int l2), (3, .int l3)]) 4 rfl (by rw [show Int32.ofInt (1) = (1 : Int32) from by decide]) (by decide) dX2_firstCrowded_57 rfl (fun ls hl => ?_)
    refine lv_goto (tgt := 24) hx hb dX2_firstCrowded_60 (by decide) ?_
    exact hk24 (l0, l1, l2, l3, (l4 + 1), h) hq H locs ls hR hS (hl.sub [1, 2, 3, 4, 0] rfl)
  refine xil hx hb hl (x := l4) 4 rfl dX2_firstCrowded_54 ?_
  exact xrI hx hb hr hlk hR hS hq (by decide) (by decide) dX2_firstCrowded_56
def f_X2_firstCrowded_24  (k2 : Option Nat × Option Nat × Int32 × Hp → Option (Int32 × Hp)) (l0 : Option Nat) (l1 : Option Nat) (l2 : Int32) (l3 : Int32) (l4 : Int32) (h : Hp) : Option (Int32 × Hp) :=
  lp (fun (k24 : Option Nat × Option Nat × Int32 × Int32 × Int32 × Hp → Option (Int32 × Hp)) (u : Option Nat × Option Nat × Int32 × Int32 × Int32 × Hp) => fb_X2_firstCrowded_24 k2 k24 u.1 u.2.1 u.2.2.1 u.2.2.2.1 u.2.2.2.2.1 u.2.2.2.2.2) FU (l0, l1, l2, l3, l4, h)
theorem t_X2_firstCrowded_24 (Z : ZZ p s m args c cX2_firstCrowded RX2 5 G) (hr : meth.sig.returnType = (some .int)) (hlk : meth.locks = false) (hin : meth.name = "firstCrowded") {v : Int32} {h1 : Hp} {k2 : Option Nat × Option Nat × Int32 × Hp → Option (Int32 × Hp)} (hk2 : ∀ u : Option Nat × Option Nat × Int32 × Hp, k2 u = some (v, h1) → ∀ (H : Heap) (locs : List Loc) (ls : Array Slot), Rep G u.2.2.2 H → va_S (AA G) s.heap H locs → LV ls 5 [(0, va_rf u.1), (1, va_rf u.2.1), (2, .int u.2.2.1)] → W p l e rm_X2_firstCrowded s m args below meth c H locs 0 0 (MQ below (Qx G (some (.int v)) h1) args s 0 0 (AA G)) (F0 m 2 ls [])) : ∀ (l0 : Option Nat) (l1 : Option Nat) (l2 : Int32) (l3 : Int32) (l4 : Int32) (h : Hp) (H : Heap) (locs : List Loc) (ls : Array Slot), f_X2_firstCrowded_24 k2 l0 l1 l2 l3 l4 h = some (v, h1) → Rep G h H → va_S (AA G) s.heap H locs → LV ls 5 [(0, va_rf l0), (1, va_rf l1), (2, .int l2), (3, .int l3), (4, .int l4)] → W p l e rm_X2_firstCrowded s m args below meth c H locs 0 0 (MQ below (Qx G (some (.int v)) h1) args s 0 0 (AA G)) (F0 m 24 ls []) := by
  intro l0 l1 l2 l3 l4 h H locs ls hq hR hS hl
  exact lp_ind (P := fun u : Option Nat × Option Nat × Int32 × Int32 × Int32 × Hp => ∀ (H : Heap) (locs : List Loc) (ls : Array Slot), Rep G u.2.2.2.2.2 H → va_S (AA G) s.heap H locs → LV ls 5 [(0, va_rf u.1), (1, va_rf u.2.1), (2, .int u.2.2.1), (3, .int u.2.2.2.1), (4, .int u.2.2.2.2.1)] → W p l e rm_X2_firstCrowded s m args below meth c H locs 0 0 (MQ below (Qx G (some (.int v)) h1) args s 0 0 (AA G)) (F0 m 24 ls [])) (fun k hk u hq H locs ls hR hS hl => tb_X2_firstCrowded_24 Z hr hlk hin hk2 hk u.1 u.2.1 u.2.2.1 u.2.2.2.1 u.2.2.2.2.1 u.2.2.2.2.2 H locs ls hq hR hS hl) FU (l0, l1, l2, l3, l4, h) hq H locs ls hR hS hl
def fb_X2_firstCrowded_2  (k2 : Option Nat × Option Nat × Int32 × Hp → Option (Int32 × Hp)) (l0 : Option Nat) (l1 : Option Nat) (l2 : Int32) (h : Hp) : Option (Int32 × Hp) :=
rcv h l1 1 (fun b4 => bd (f_X0_steps b4 h) (fun x4 h =>
(if x4 ≤ l2 then
rtI (-1) h
else
rcv h l1 1 (fun b12 => bd (f_X0_stationAt b12 l2 h) (fun x12 h =>
gR h l1 1 12 (fun x17 =>
ldI h x17 l2 (fun x21 =>
f_X2_firstCrowded_24 k2 l0 l1 l2 x12 x21 h)))))))
set_option maxHeartbeats 4000000 in
set_option maxRecDepth 100000 in
theorem tb_X2_firstCrowded_2 (Z : ZZ p s m args c cX2_firstCrowded RX2 5 G) (hr : meth.sig.returnType = (some .int)) (hlk : meth.locks = false) (hin : meth.name = "firstCrowded") {v : Int32} {h1 : Hp} {k2 : Option Nat × Option Nat × Int32 × Hp → Option (Int32 × Hp)} (hk2 : ∀ u : Option Nat × Option Nat × Int32 × Hp, k2 u = some (v, h1) → ∀ (H : Heap) (locs : List Loc) (ls : Array Slot), Rep G u.2.2.2 H → va_S (AA G) s.heap H locs → LV ls 5 [(0, va_rf u.1), (1, va_rf u.2.1), (2, .int u.2.2.1)] → W p l e rm_X2_firstCrowded s m args below meth c H locs 0 0 (MQ below (Qx G (some (.int v)) h1) args s 0 0 (AA G)) (F0 m 2 ls [])) : ∀ (l0 : Option Nat) (l1 : Option Nat) (l2 : Int32) (h : Hp) (H : Heap) (locs : List Loc) (ls : Array Slot), fb_X2_firstCrowded_2 k2 l0 l1 l2 h = some (v, h1) → Rep G h H → va_S (AA G) s.heap H locs → LV ls 5 [(0, va_rf l0), (1, va_rf l1), (2, .int l2)] → W p l e rm_X2_firstCrowded s m args below meth c H locs 0 0 (MQ below (Qx G (some (.int v)) h1) args s 0 0 (AA G)) (F0 m 2 ls []) := by
  intro l0 l1 l2 h H locs ls hq hR hS hl
  have hx := Z.1
  have hb := Z.2.1
  unfold fb_X2_firstCrowded_2 at hq
  refine xiln hx hb hl (x := l2) 2 rfl dX2_firstCrowded_2 ?_
  refine xaln hx hb hl (x := l1) 1 rfl dX2_firstCrowded_3 ?_
  refine xcV Z hR hS hl (rest := [.int l2]) (As := []) hq cl_X2_65 (fun b x h1 hc => c_X0_steps l b h x h1 hc) ⟨⟨rfl, rfl⟩, (by decide), (by decide)⟩ rfl rfl (by first | decide | (simp only [List.map_cons, List.map_nil, rf_cat, ct_int, ct_ref, List.sum_cons, List.sum_nil] <;> decide)) dX2_firstCrowded_4 (by decide) (fun x4 h H locs hq hR hS => ?_)
  refine xcGe hx hb hq (tgt := 69) dX2_firstCrowded_7 (by decide) (fun hq => ?_) (fun hq => ?_)
  · refine lv_iconst (v := (-1)) hx hb dX2_firstCrowded_69 (by decide) ?_
    exact xrI hx hb hr hlk hR hS hq (by decide) (by decide) dX2_firstCrowded_70
  refine xaln hx hb hl (x := l1) 1 rfl dX2_firstCrowded_10 ?_
  refine xiln hx hb hl (x := l2) 2 rfl dX2_firstCrowded_11 ?_
  refine xcV Z hR hS hl (rest := []) (As := [.int l2]) hq cl_X2_99 (fun b x h1 hc => c_X0_stationAt l b l2 h x h1 hc) ⟨⟨rfl, rfl⟩, (by decide), (by decide)⟩ rfl rfl (by first | decide | (simp only [List.map_cons, List.map_nil, rf_cat, ct_int, ct_ref, List.sum_cons, List.sum_nil] <;> decide)) dX2_firstCrowded_12 (by decide) (fun x12 h H locs hq hR hS => ?_)
  refine xisn hx hb hl (x := x12) (lv' := [(3, .int x12), (0, va_rf l0), (1, va_rf l1), (2, .int l2)]) (by decide) dX2_firstCrowded_15 rfl (fun ls hl => ?_)
  refine xaln hx hb hl (x := l1) 2 rfl dX2_firstCrowded_16 ?_
  refine xgR Z hR hq fl_X2_72 rfl dX2_firstCrowded_17 (fun x17 hq => ?_)
  refine xiln hx hb hl (x := l2) 3 rfl dX2_firstCrowded_20 ?_
  refine xaI Z hR hq dX2_firstCrowded_21 (fun x21 hq => ?_)
  refine xis hx hb hl (x := x21) (lv' := [(4, .int x21), (3, .int x12), (0, va_rf l0), (1, va_rf l1), (2, .int l2)]) (by decide) dX2_firstCrowded_22 rfl (fun ls hl => ?_)
  exact t_X2_firstCrowded_24 Z hr hlk hin hk2 l0 l1 l2 x12 x21 h H locs ls hq hR hS (hl.sub [2, 3, 4, 1, 0] rfl)
def f_X2_firstCrowded_2  (l0 : Option Nat) (l1 : Option Nat) (l2 : Int32) (h : Hp) : Option (Int32 × Hp) :=
  lp (fun (k2 : Option Nat × Option Nat × Int32 × Hp → Option (Int32 × Hp)) (u : Option Nat × Option Nat × Int32 × Hp) => fb_X2_firstCrowded_2 k2 u.1 u.2.1 u.2.2.1 u.2.2.2) FU (l0, l1, l2, h)
theorem t_X2_firstCrowded_2 (Z : ZZ p s m args c cX2_firstCrowded RX2 5 G) (hr : meth.sig.returnType = (some .int)) (hlk : meth.locks = false) (hin : meth.name = "firstCrowded") {v : Int32} {h1 : Hp} : ∀ (l0 : Option Nat) (l1 : Option Nat) (l2 : Int32) (h : Hp) (H : Heap) (locs : List Loc) (ls : Array Slot), f_X2_firstCrowded_2 l0 l1 l2 h = some (v, h1) → Rep G h H → va_S (AA G) s.heap H locs → LV ls 5 [(0, va_rf l0), (1, va_rf l1), (2, .int l2)] → W p l e rm_X2_firstCrowded s m args below meth c H locs 0 0 (MQ below (Qx G (some (.int v)) h1) args s 0 0 (AA G)) (F0 m 2 ls []) := by
  intro l0 l1 l2 h H locs ls hq hR hS hl
  exact lp_ind (P := fun u : Option Nat × Option Nat × Int32 × Hp => ∀ (H : Heap) (locs : List Loc) (ls : Array Slot), Rep G u.2.2.2 H → va_S (AA G) s.heap H locs → LV ls 5 [(0, va_rf u.1), (1, va_rf u.2.1), (2, .int u.2.2.1)] → W p l e rm_X2_firstCrowded s m args below meth c H locs 0 0 (MQ below (Qx G (some (.int v)) h1) args s 0 0 (AA G)) (F0 m 2 ls [])) (fun k hk u hq H locs ls hR hS hl => tb_X2_firstCrowded_2 Z hr hlk hin hk u.1 u.2.1 u.2.2.1 u.2.2.2 H locs ls hq hR hS hl) FU (l0, l1, l2, h) hq H locs ls hR hS hl
def f_X2_firstCrowded (this : Nat) (a0 : Option Nat) (h : Hp) : Option (Int32 × Hp) :=
f_X2_firstCrowded_2 (some this) a0 1 h
set_option maxHeartbeats 4000000 in
set_option maxRecDepth 100000 in
theorem c_X2_firstCrowded (l : Launch) {G : GG} (this : Nat) (a0 : Option Nat) (h : Hp) (v : Int32) (h1 : Hp) (hq : f_X2_firstCrowded this a0 h = some (v, h1)) : Met l yX2_firstCrowded (Cond.code yX2_firstCrowded cX2_firstCrowded 5 (some .int) :: GT) rm_X2_firstCrowded (va_Pc [.ref this, va_rf a0] (Cn G h)) (Qx G (some (.int v)) h1) 0 0 (AA G) := by
  refine xMet (cc := cX2_firstCrowded) (by decide) (Nat.le_of_ble_eq_true rfl) (List.forall_mem_cons.mpr ⟨rfl, (List.forall_mem_cons.mpr ⟨(rf_cat a0), (fun _ z => by cases z)⟩)⟩) ?_
  intro p e s m below meth c ls Z hr hlk hin hR hS hl
  have hx := Z.1
  have hb := Z.2.1
  have hl : LV ls 5 [(0, va_rf (some this)), (1, va_rf a0)] := hl
  unfold f_X2_firstCrowded at hq
  refine lv_iconst (v := 1) hx hb dX2_firstCrowded_0 (by decide) ?_
  refine xisn hx hb hl (x := 1) (lv' := [(2, .int 1), (0, va_rf (some this)), (1, va_rf a0)]) (by decide) dX2_firstCrowded_1 rfl (fun ls hl => ?_)
  exact t_X2_firstCrowded_2 Z hr hlk hin (some this) a0 1 h _ _ ls hq hR hS (hl.sub [1, 2, 0] rfl)
abbrev rm_X2_firstMinute : Room := { frames := 5, cells := 0, slots := 0, locals := 114 }
def f_X2_firstMinute_29  (s0 : Int32) (h : Hp) : Option (Int32 × Hp) :=
rtI s0 h
set_option maxHeartbeats 4000000 in
set_option maxRecDepth 100000 in
theorem t_X2_firstMinute_29 (Z : ZZ p s m args c cX2_firstMinute RX2 3 G) (hr : meth.sig.returnType = (some .int)) (hlk : meth.locks = false) (hin : meth.name = "firstMinute") {v : Int32} {h1 : Hp} : ∀ (s0 : Int32) (h : Hp) (H : Heap) (locs : List Loc) (ls : Array Slot), f_X2_firstMinute_29 s0 h = some (v, h1) → Rep G h H → va_S (AA G) s.heap H locs → LV ls 3 [] → W p l e rm_X2_firstMinute s m args below meth c H locs 0 0 (MQ below (Qx G (some (.int v)) h1) args s 0 0 (AA G)) (F0 m 29 ls [.int s0]) := by
  intro s0 h H locs ls hq hR hS hl
  have hx := Z.1
  have hb := Z.2.1
  unfold f_X2_firstMinute_29 at hq
  exact xrI hx hb hr hlk hR hS hq (by decide) (by decide) dX2_firstMinute_29
def f_X2_firstMinute (this : Nat) (a0 : Option Nat) (a1 : Int32) (h : Hp) : Option (Int32 × Hp) :=
(if a1 = 1 then
rcv h (some this) 3 (fun b7 => bd (f_X2_firstClosed b7 a0 h) (fun x7 h =>
rtI x7 h))
else
(if a1 = 2 then
rcv h (some this) 3 (fun b18 => bd (f_X2_firstHeld b18 a0 h) (fun x18 h =>
f_X2_firstMinute_29 x18 h))
else
rcv h (some this) 3 (fun b26 => bd (f_X2_firstCrowded b26 a0 h) (fun x26 h =>
f_X2_firstMinute_29 x26 h))))
set_option maxHeartbeats 4000000 in
set_option maxRecDepth 100000 in
theorem c_X2_firstMinute (l : Launch) {G : GG} (this : Nat) (a0 : Option Nat) (a1 : Int32) (h : Hp) (v : Int32) (h1 : Hp) (hq : f_X2_firstMinute this a0 a1 h = some (v, h1)) : Met l yX2_firstMinute (Cond.code yX2_firstMinute cX2_firstMinute 3 (some .int) :: GT) rm_X2_firstMinute (va_Pc [.ref this, va_rf a0, .int a1] (Cn G h)) (Qx G (some (.int v)) h1) 0 0 (AA G) := by
  refine xMet (cc := cX2_firstMinute) (by decide) (Nat.le_of_ble_eq_true rfl) (List.forall_mem_cons.mpr ⟨rfl, (List.forall_mem_cons.mpr ⟨(rf_cat a0), (List.forall_mem_cons.mpr ⟨rfl, (fun _ z => by cases z)⟩)⟩)⟩) ?_
  intro p e s m below meth c ls Z hr hlk hin hR hS hl
  have hx := Z.1
  have hb := Z.2.1
  have hl : LV ls 3 [(0, va_rf (some this)), (1, va_rf a0), (2, .int a1)] := hl
  unfold f_X2_firstMinute at hq
  refine xiln hx hb hl (x := a1) 2 rfl dX2_firstMinute_0 ?_
  refine lv_iconst (v := 1) hx hb dX2_firstMinute_1 (by decide) ?_
  refine xcNe hx hb hq (tgt := 11) dX2_firstMinute_2 (by decide) (fun hq => ?_) (fun hq => ?_)
  · refine xiln hx hb hl (x := a1) 2 rfl dX2_firstMinute_11 ?_
    refine lv_iconst (v := 2) hx hb dX2_firstMinute_12 (by decide) ?_
    refine xcNe hx hb hq (tgt := 24) dX2_firstMinute_13 (by decide) (fun hq => ?_) (fun hq => ?_)
    · refine xaln hx hb hl (x := (some this)) 0 rfl dX2_firstMinute_24 ?_
      refine xaln hx hb hl (x := a0) 1 rfl dX2_firstMinute_25 ?_
      refine xcV Z hR hS hl (rest := []) (As := [va_rf a0]) hq cl_X2_62 (fun b x h1 hc => c_X2_firstCrowded l b a0 h x h1 hc) ⟨⟨rfl, rfl⟩, (by decide), (by decide)⟩ rfl rfl (by first | decide | (simp only [List.map_cons, List.map_nil, rf_cat, ct_int, ct_ref, List.sum_cons, List.sum_nil] <;> decide)) dX2_firstMinute_26 (by decide) (fun x26 h H locs hq hR hS => ?_)
      exact t_X2_firstMinute_29 Z hr hlk hin x26 h _ _ ls hq hR hS (hl.sub [] rfl)
    refine xaln hx hb hl (x := (some this)) 0 rfl dX2_firstMinute_16 ?_
    refine xaln hx hb hl (x := a0) 1 rfl dX2_firstMinute_17 ?_
    refine xcV Z hR hS hl (rest := []) (As := [va_rf a0]) hq cl_X2_59 (fun b x h1 hc => c_X2_firstHeld l b a0 h x h1 hc) ⟨⟨rfl, rfl⟩, (by decide), (by decide)⟩ rfl rfl (by first | decide | (simp only [List.map_cons, List.map_nil, rf_cat, ct_int, ct_ref, List.sum_cons, List.sum_nil] <;> decide)) dX2_firstMinute_18 (by decide) (fun x18 h H locs hq hR hS => ?_)
    refine lv_goto (tgt := 29) hx hb dX2_firstMinute_21 (by decide) ?_
    exact t_X2_firstMinute_29 Z hr hlk hin x18 h _ _ ls hq hR hS (hl.sub [] rfl)
  refine xaln hx hb hl (x := (some this)) 0 rfl dX2_firstMinute_5 ?_
  refine xaln hx hb hl (x := a0) 1 rfl dX2_firstMinute_6 ?_
  refine xcV Z hR hS hl (rest := []) (As := [va_rf a0]) hq cl_X2_55 (fun b x h1 hc => c_X2_firstClosed l b a0 h x h1 hc) ⟨⟨rfl, rfl⟩, (by decide), (by decide)⟩ rfl rfl (by first | decide | (simp only [List.map_cons, List.map_nil, rf_cat, ct_int, ct_ref, List.sum_cons, List.sum_nil] <;> decide)) dX2_firstMinute_7 (by decide) (fun x7 h H locs hq hR hS => ?_)
  exact xrI hx hb hr hlk hR hS hq (by decide) (by decide) dX2_firstMinute_10
abbrev rm_X2_seekFirst : Room := { frames := 6, cells := 0, slots := 0, locals := 136 }
def f_X2_seekFirst_80  (k2 : Option Nat × Int32 × Hp → Option (Int32 × Hp)) (l0 : Option Nat) (l1 : Int32) (h : Hp) : Option (Int32 × Hp) :=
k2 (l0, (l1 + 1), h)
set_option maxHeartbeats 4000000 in
set_option maxRecDepth 100000 in
theorem t_X2_seekFirst_80 (Z : ZZ p s m args c cX2_seekFirst RX2 5 G) (hr : meth.sig.returnType = (some .boolean)) (hlk : meth.locks = false) (hin : meth.name = "seekFirst") {v : Int32} {h1 : Hp} {k2 : Option Nat × Int32 × Hp → Option (Int32 × Hp)} (hk2 : ∀ u : Option Nat × Int32 × Hp, k2 u = some (v, h1) → ∀ (H : Heap) (locs : List Loc) (ls : Array Slot), Rep G u.2.2 H → va_S (AA G) s.heap H locs → LV ls 5 [(0, va_rf u.1), (1, .int u.2.1)] → W p l e rm_X2_seekFirst s m args below meth c H locs 0 0 (MQ below (Qx G (some (.int v)) h1) args s 0 0 (AA G)) (F0 m 2 ls [])) : ∀ (l0 : Option Nat) (l1 : Int32) (h : Hp) (H : Heap) (locs : List Loc) (ls : Array Slot), f_X2_seekFirst_80 k2 l0 l1 h = some (v, h1) → Rep G h H → va_S (AA G) s.heap H locs → LV ls 5 [(0, va_rf l0), (1, .int l1)] → W p l e rm_X2_seekFirst s m args below meth c H locs 0 0 (MQ below (Qx G (some (.int v)) h1) args s 0 0 (AA G)) (F0 m 80 ls []) := by
  intro l0 l1 h H locs ls hq hR hS hl
  have hx := Z.1
  have hb := Z.2.1
  unfold f_X2_seekFirst_80 at hq
  refine xinc hx hb hl (x := l1) (v := (l1 + 1)) (lv' := [(1, .int (l1 + 1)), (0, va_rf l0)]) 1 rfl (by rw [show Int32.ofInt (1) = (1 : Int32) from by decide]) (by decide) dX2_seekFirst_80 rfl (fun ls hl => ?_)
  refine lv_goto (tgt := 2) hx hb dX2_seekFirst_83 (by decide) ?_
  exact hk2 (l0, (l1 + 1), h) hq H locs ls hR hS (hl.sub [1, 0] rfl)
def fb_X2_seekFirst_30  (k2 : Option Nat × Int32 × Hp → Option (Int32 × Hp)) (k30 : Option Nat × Int32 × Option Nat × Int32 × Hp → Option (Int32 × Hp)) (l0 : Option Nat) (l1 : Int32) (l2 : Option Nat) (l3 : Int32) (h : Hp) : Option (Int32 × Hp) :=
(if 3 < l3 then
f_X2_seekFirst_80 k2 l0 l1 h
else
gI h l2 1 10 (fun x36 =>
(if x36 = 0 then
f_X2_seekFirst_80 k2 l0 l1 h
else
rcv h l0 3 (fun b45 => bd (f_X2_firstMinute b45 l2 l3 h) (fun x45 h =>
(if x45 = (-1) then
k30 (l0, l1, l2, (l3 + 1), h)
else
pI h l0 3 2 l1 (fun h =>
pI h l0 3 3 l3 (fun h =>
pI h l0 3 4 x45 (fun h =>
rtZ 1 h)))))))))
set_option maxHeartbeats 4000000 in
set_option maxRecDepth 100000 in
theorem tb_X2_seekFirst_30 (Z : ZZ p s m args c cX2_seekFirst RX2 5 G) (hr : meth.sig.returnType = (some .boolean)) (hlk : meth.locks = false) (hin : meth.name = "seekFirst") {v : Int32} {h1 : Hp} {k2 : Option Nat × Int32 × Hp → Option (Int32 × Hp)} (hk2 : ∀ u : Option Nat × Int32 × Hp, k2 u = some (v, h1) → ∀ (H : Heap) (locs : List Loc) (ls : Array Slot), Rep G u.2.2 H → va_S (AA G) s.heap H locs → LV ls 5 [(0, va_rf u.1), (1, .int u.2.1)] → W p l e rm_X2_seekFirst s m args below meth c H locs 0 0 (MQ below (Qx G (some (.int v)) h1) args s 0 0 (AA G)) (F0 m 2 ls [])) {k30 : Option Nat × Int32 × Option Nat × Int32 × Hp → Option (Int32 × Hp)} (hk30 : ∀ u : Option Nat × Int32 × Option Nat × Int32 × Hp, k30 u = some (v, h1) → ∀ (H : Heap) (locs : List Loc) (ls : Array Slot), Rep G u.2.2.2.2 H → va_S (AA G) s.heap H locs → LV ls 5 [(0, va_rf u.1), (1, .int u.2.1), (2, va_rf u.2.2.1), (3, .int u.2.2.2.1)] → W p l e rm_X2_seekFirst s m args below meth c H locs 0 0 (MQ below (Qx G (some (.int v)) h1) args s 0 0 (AA G)) (F0 m 30 ls [])) : ∀ (l0 : Option Nat) (l1 : Int32) (l2 : Option Nat) (l3 : Int32) (h : Hp) (H : Heap) (locs : List Loc) (ls : Array Slot), fb_X2_seekFirst_30 k2 k30 l0 l1 l2 l3 h = some (v, h1) → Rep G h H → va_S (AA G) s.heap H locs → LV ls 5 [(0, va_rf l0), (1, .int l1), (2, va_rf l2), (3, .int l3)] → W p l e rm_X2_seekFirst s m args below meth c H locs 0 0 (MQ below (Qx G (some (.int v)) h1) args s 0 0 (AA G)) (F0 m 30 ls []) := by
  intro l0 l1 l2 l3 h H locs ls hq hR hS hl
  have hx := Z.1
  have hb := Z.2.1
  unfold fb_X2_seekFirst_30 at hq
  refine xiln hx hb hl (x := l3) 3 rfl dX2_seekFirst_30 ?_
  refine lv_iconst (v := 3) hx hb dX2_seekFirst_31 (by decide) ?_
  refine xcGt hx hb hq (tgt := 80) dX2_seekFirst_32 (by decide) (fun hq => ?_) (fun hq => ?_)
  · exact t_X2_seekFirst_80 Z hr hlk hin hk2 l0 l1 h H locs ls hq hR hS (hl.sub [0, 1] rfl)
  refine xaln hx hb hl (x := l2) 2 rfl dX2_seekFirst_35 ?_
  refine xgI Z hR hq fl_X2_37 rfl dX2_seekFirst_36 (fun x36 hq => ?_)
  refine xzEq hx hb hq (tgt := 80) dX2_seekFirst_39 (by decide) (fun hq => ?_) (fun hq => ?_)
  · exact t_X2_seekFirst_80 Z hr hlk hin hk2 l0 l1 h H locs ls hq hR hS (hl.sub [0, 1] rfl)
  refine xaln hx hb hl (x := l0) 0 rfl dX2_seekFirst_42 ?_
  refine xaln hx hb hl (x := l2) 2 rfl dX2_seekFirst_43 ?_
  refine xiln hx hb hl (x := l3) 3 rfl dX2_seekFirst_44 ?_
  refine xcV Z hR hS hl (rest := []) (As := [va_rf l2, .int l3]) hq cl_X2_41 (fun b x h1 hc => c_X2_firstMinute l b l2 l3 h x h1 hc) ⟨⟨rfl, rfl⟩, (by decide), (by decide)⟩ rfl rfl (by first | decide | (simp only [List.map_cons, List.map_nil, rf_cat, ct_int, ct_ref, List.sum_cons, List.sum_nil] <;> decide)) dX2_seekFirst_45 (by decide) (fun x45 h H locs hq hR hS => ?_)
  refine xis hx hb hl (x := x45) (lv' := [(4, .int x45), (0, va_rf l0), (1, .int l1), (2, va_rf l2), (3, .int l3)]) (by decide) dX2_seekFirst_48 rfl (fun ls hl => ?_)
  refine xil hx hb hl (x := x45) 0 rfl dX2_seekFirst_50 ?_
  refine lv_iconst (v := (-1)) hx hb dX2_seekFirst_52 (by decide) ?_
  refine xcEq hx hb hq (tgt := 74) dX2_seekFirst_53 (by decide) (fun hq => ?_) (fun hq => ?_)
  · refine xinc hx hb hl (x := l3) (v := (l3 + 1)) (lv' := [(3, .int (l3 + 1)), (4, .int x45), (0, va_rf l0), (1, .int l1), (2, va_rf l2)]) 4 rfl (by rw [show Int32.ofInt (1) = (1 : Int32) from by decide]) (by decide) dX2_seekFirst_74 rfl (fun ls hl => ?_)
    refine lv_goto (tgt := 30) hx hb dX2_seekFirst_77 (by decide) ?_
    exact hk30 (l0, l1, l2, (l3 + 1), h) hq H locs ls hR hS (hl.sub [2, 3, 4, 0] rfl)
  refine xaln hx hb hl (x := l0) 1 rfl dX2_seekFirst_56 ?_
  refine xiln hx hb hl (x := l1) 2 rfl dX2_seekFirst_57 ?_
  refine xpI Z hR hS hq fl_X2_45 rfl (Or.inl nf_3_2) dX2_seekFirst_58 (fun h H locs hq hR hS => ?_)
  refine xaln hx hb hl (x := l0) 1 rfl dX2_seekFirst_61 ?_
  refine xiln hx hb hl (x := l3) 4 rfl dX2_seekFirst_62 ?_
  refine xpI Z hR hS hq fl_X2_49 rfl (Or.inl nf_3_3) dX2_seekFirst_63 (fun h H locs hq hR hS => ?_)
  refine xaln hx hb hl (x := l0) 1 rfl dX2_seekFirst_66 ?_
  refine xil hx hb hl (x := x45) 0 rfl dX2_seekFirst_67 ?_
  refine xpI Z hR hS hq fl_X2_52 rfl (Or.inl nf_3_4) dX2_seekFirst_69 (fun h H locs hq hR hS => ?_)
  refine lv_iconst (v := 1) hx hb dX2_seekFirst_72 (by decide) ?_
  exact xrZ hx hb hr hlk hR hS hq (by decide) (by decide) dX2_seekFirst_73
def f_X2_seekFirst_30  (k2 : Option Nat × Int32 × Hp → Option (Int32 × Hp)) (l0 : Option Nat) (l1 : Int32) (l2 : Option Nat) (l3 : Int32) (h : Hp) : Option (Int32 × Hp) :=
  lp (fun (k30 : Option Nat × Int32 × Option Nat × Int32 × Hp → Option (Int32 × Hp)) (u : Option Nat × Int32 × Option Nat × Int32 × Hp) => fb_X2_seekFirst_30 k2 k30 u.1 u.2.1 u.2.2.1 u.2.2.2.1 u.2.2.2.2) FU (l0, l1, l2, l3, h)
theorem t_X2_seekFirst_30 (Z : ZZ p s m args c cX2_seekFirst RX2 5 G) (hr : meth.sig.returnType = (some .boolean)) (hlk : meth.locks = false) (hin : meth.name = "seekFirst") {v : Int32} {h1 : Hp} {k2 : Option Nat × Int32 × Hp → Option (Int32 × Hp)} (hk2 : ∀ u : Option Nat × Int32 × Hp, k2 u = some (v, h1) → ∀ (H : Heap) (locs : List Loc) (ls : Array Slot), Rep G u.2.2 H → va_S (AA G) s.heap H locs → LV ls 5 [(0, va_rf u.1), (1, .int u.2.1)] → W p l e rm_X2_seekFirst s m args below meth c H locs 0 0 (MQ below (Qx G (some (.int v)) h1) args s 0 0 (AA G)) (F0 m 2 ls [])) : ∀ (l0 : Option Nat) (l1 : Int32) (l2 : Option Nat) (l3 : Int32) (h : Hp) (H : Heap) (locs : List Loc) (ls : Array Slot), f_X2_seekFirst_30 k2 l0 l1 l2 l3 h = some (v, h1) → Rep G h H → va_S (AA G) s.heap H locs → LV ls 5 [(0, va_rf l0), (1, .int l1), (2, va_rf l2), (3, .int l3)] → W p l e rm_X2_seekFirst s m args below meth c H locs 0 0 (MQ below (Qx G (some (.int v)) h1) args s 0 0 (AA G)) (F0 m 30 ls []) := by
  intro l0 l1 l2 l3 h H locs ls hq hR hS hl
  exact lp_ind (P := fun u : Option Nat × Int32 × Option Nat × Int32 × Hp => ∀ (H : Heap) (locs : List Loc) (ls : Array Slot), Rep G u.2.2.2.2 H → va_S (AA G) s.heap H locs → LV ls 5 [(0, va_rf u.1), (1, .int u.2.1), (2, va_rf u.2.2.1), (3, .int u.2.2.2.1)] → W p l e rm_X2_seekFirst s m args below meth c H locs 0 0 (MQ below (Qx G (some (.int v)) h1) args s 0 0 (AA G)) (F0 m 30 ls [])) (fun k hk u hq H locs ls hR hS hl => tb_X2_seekFirst_30 Z hr hlk hin hk2 hk u.1 u.2.1 u.2.2.1 u.2.2.2.1 u.2.2.2.2 H locs ls hq hR hS hl) FU (l0, l1, l2, l3, h) hq H locs ls hR hS hl
def fb_X2_seekFirst_2  (k2 : Option Nat × Int32 × Hp → Option (Int32 × Hp)) (l0 : Option Nat) (l1 : Int32) (h : Hp) : Option (Int32 × Hp) :=
gR h l0 3 1 (fun x4 =>
rcv h x4 2 (fun b7 => bd (f_X1_size b7 h) (fun x7 h =>
(if x7 ≤ l1 then
rtZ 0 h
else
gR h l0 3 1 (fun x14 =>
gR h x14 2 0 (fun x17 =>
rcv h x17 0 (fun b21 => bd (f_Jx4a65c_get_915e3 b21 l1 h) (fun x21 h =>
ckc h x21 1 (
f_X2_seekFirst_30 k2 l0 l1 x21 1 h)))))))))
set_option maxHeartbeats 4000000 in
set_option maxRecDepth 100000 in
theorem tb_X2_seekFirst_2 (Z : ZZ p s m args c cX2_seekFirst RX2 5 G) (hr : meth.sig.returnType = (some .boolean)) (hlk : meth.locks = false) (hin : meth.name = "seekFirst") {v : Int32} {h1 : Hp} {k2 : Option Nat × Int32 × Hp → Option (Int32 × Hp)} (hk2 : ∀ u : Option Nat × Int32 × Hp, k2 u = some (v, h1) → ∀ (H : Heap) (locs : List Loc) (ls : Array Slot), Rep G u.2.2 H → va_S (AA G) s.heap H locs → LV ls 5 [(0, va_rf u.1), (1, .int u.2.1)] → W p l e rm_X2_seekFirst s m args below meth c H locs 0 0 (MQ below (Qx G (some (.int v)) h1) args s 0 0 (AA G)) (F0 m 2 ls [])) : ∀ (l0 : Option Nat) (l1 : Int32) (h : Hp) (H : Heap) (locs : List Loc) (ls : Array Slot), fb_X2_seekFirst_2 k2 l0 l1 h = some (v, h1) → Rep G h H → va_S (AA G) s.heap H locs → LV ls 5 [(0, va_rf l0), (1, .int l1)] → W p l e rm_X2_seekFirst s m args below meth c H locs 0 0 (MQ below (Qx G (some (.int v)) h1) args s 0 0 (AA G)) (F0 m 2 ls []) := by
  intro l0 l1 h H locs ls hq hR hS hl
  have hx := Z.1
  have hb := Z.2.1
  unfold fb_X2_seekFirst_2 at hq
  refine xiln hx hb hl (x := l1) 1 rfl dX2_seekFirst_2 ?_
  refine xaln hx hb hl (x := l0) 0 rfl dX2_seekFirst_3 ?_
  refine xgR Z hR hq fl_X2_15 rfl dX2_seekFirst_4 (fun x4 hq => ?_)
  refine xcV Z hR hS hl (rest := [.int l1]) (As := []) hq cl_X2_19 (fun b x h1 hc => c_X1_size l b h x h1 hc) ⟨⟨rfl, rfl⟩, (by decide), (by decide)⟩ rfl rfl (by first | decide | (simp only [List.map_cons, List.map_nil, rf_cat, ct_int, ct_ref, List.sum_cons, List.sum_nil] <;> decide)) dX2_seekFirst_7 (by decide) (fun x7 h H locs hq hR hS => ?_)
  refine xcGe hx hb hq (tgt := 86) dX2_seekFirst_10 (by decide) (fun hq => ?_) (fun hq => ?_)
  · refine lv_iconst (v := 0) hx hb dX2_seekFirst_86 (by decide) ?_
    exact xrZ hx hb hr hlk hR hS hq (by decide) (by decide) dX2_seekFirst_87
  refine xaln hx hb hl (x := l0) 0 rfl dX2_seekFirst_13 ?_
  refine xgR Z hR hq fl_X2_15 rfl dX2_seekFirst_14 (fun x14 hq => ?_)
  refine xgR Z hR hq fl_X2_25 rfl dX2_seekFirst_17 (fun x17 hq => ?_)
  refine xiln hx hb hl (x := l1) 1 rfl dX2_seekFirst_20 ?_
  refine xcV Z hR hS hl (rest := []) (As := [.int l1]) hq cl_X2_29 (fun b x h1 hc => c_Jx4a65c_get_915e3 l b l1 h x h1 hc) ⟨⟨rfl, rfl⟩, (by decide), (by decide)⟩ rfl rfl (by first | decide | (simp only [List.map_cons, List.map_nil, rf_cat, ct_int, ct_ref, List.sum_cons, List.sum_nil] <;> decide)) dX2_seekFirst_21 (by decide) (fun x21 h H locs hq hR hS => ?_)
  refine xck Z hR hq ck_X2_35 dX2_seekFirst_24 (fun hq => ?_)
  refine xasn hx hb hl (x := x21) (lv' := [(2, va_rf x21), (0, va_rf l0), (1, .int l1)]) (by decide) dX2_seekFirst_27 rfl (fun ls hl => ?_)
  refine lv_iconst (v := 1) hx hb dX2_seekFirst_28 (by decide) ?_
  refine xisn hx hb hl (x := 1) (lv' := [(3, .int 1), (2, va_rf x21), (0, va_rf l0), (1, .int l1)]) (by decide) dX2_seekFirst_29 rfl (fun ls hl => ?_)
  exact t_X2_seekFirst_30 Z hr hlk hin hk2 l0 l1 x21 1 h H locs ls hq hR hS (hl.sub [2, 3, 1, 0] rfl)
def f_X2_seekFirst_2  (l0 : Option Nat) (l1 : Int32) (h : Hp) : Option (Int32 × Hp) :=
  lp (fun (k2 : Option Nat × Int32 × Hp → Option (Int32 × Hp)) (u : Option Nat × Int32 × Hp) => fb_X2_seekFirst_2 k2 u.1 u.2.1 u.2.2) FU (l0, l1, h)
theorem t_X2_seekFirst_2 (Z : ZZ p s m args c cX2_seekFirst RX2 5 G) (hr : meth.sig.returnType = (some .boolean)) (hlk : meth.locks = false) (hin : meth.name = "seekFirst") {v : Int32} {h1 : Hp} : ∀ (l0 : Option Nat) (l1 : Int32) (h : Hp) (H : Heap) (locs : List Loc) (ls : Array Slot), f_X2_seekFirst_2 l0 l1 h = some (v, h1) → Rep G h H → va_S (AA G) s.heap H locs → LV ls 5 [(0, va_rf l0), (1, .int l1)] → W p l e rm_X2_seekFirst s m args below meth c H locs 0 0 (MQ below (Qx G (some (.int v)) h1) args s 0 0 (AA G)) (F0 m 2 ls []) := by
  intro l0 l1 h H locs ls hq hR hS hl
  exact lp_ind (P := fun u : Option Nat × Int32 × Hp => ∀ (H : Heap) (locs : List Loc) (ls : Array Slot), Rep G u.2.2 H → va_S (AA G) s.heap H locs → LV ls 5 [(0, va_rf u.1), (1, .int u.2.1)] → W p l e rm_X2_seekFirst s m args below meth c H locs 0 0 (MQ below (Qx G (some (.int v)) h1) args s 0 0 (AA G)) (F0 m 2 ls [])) (fun k hk u hq H locs ls hR hS hl => tb_X2_seekFirst_2 Z hr hlk hin hk u.1 u.2.1 u.2.2 H locs ls hq hR hS hl) FU (l0, l1, h) hq H locs ls hR hS hl
def f_X2_seekFirst (this : Nat) (h : Hp) : Option (Int32 × Hp) :=
f_X2_seekFirst_2 (some this) 0 h
set_option maxHeartbeats 4000000 in
set_option maxRecDepth 100000 in
theorem c_X2_seekFirst (l : Launch) {G : GG} (this : Nat) (h : Hp) (v : Int32) (h1 : Hp) (hq : f_X2_seekFirst this h = some (v, h1)) : Met l yX2_seekFirst (Cond.code yX2_seekFirst cX2_seekFirst 5 (some .boolean) :: GT) rm_X2_seekFirst (va_Pc [.ref this] (Cn G h)) (Qx G (some (.int v)) h1) 0 0 (AA G) := by
  refine xMet (cc := cX2_seekFirst) (by decide) (Nat.le_of_ble_eq_true rfl) (List.forall_mem_cons.mpr ⟨rfl, (fun _ z => by cases z)⟩) ?_
  intro p e s m below meth c ls Z hr hlk hin hR hS hl
  have hx := Z.1
  have hb := Z.2.1
  have hl : LV ls 5 [(0, va_rf (some this))] := hl
  unfold f_X2_seekFirst at hq
  refine lv_iconst (v := 0) hx hb dX2_seekFirst_0 (by decide) ?_
  refine xisn hx hb hl (x := 0) (lv' := [(1, .int 0), (0, va_rf (some this))]) (by decide) dX2_seekFirst_1 rfl (fun ls hl => ?_)
  exact t_X2_seekFirst_2 Z hr hlk hin (some this) 0 h _ _ ls hq hR hS (hl.sub [1, 0] rfl)
end
