theorem fl_X5_9 : FL RX5 9 6 2 := ⟨_, TX5, 7, "FreightPaths$Rounds", rfl, by decide, by decide +kernel, Or.inl rfl⟩
theorem fl_X5_15 : FL RX5 15 6 3 := ⟨_, TX5, 7, "FreightPaths$Rounds", rfl, by decide, by decide +kernel, Or.inl rfl⟩
theorem fl_X5_19 : FL RX5 19 6 4 := ⟨_, TX5, 7, "FreightPaths$Rounds", rfl, by decide, by decide +kernel, Or.inl rfl⟩
theorem fl_X5_22 : FL RX5 22 6 0 := ⟨_, TX5, 7, "FreightPaths$Rounds", rfl, by decide, by decide +kernel, Or.inl rfl⟩
theorem fl_X5_26 : FL RX5 26 6 1 := ⟨_, TX5, 7, "FreightPaths$Rounds", rfl, by decide, by decide +kernel, Or.inl rfl⟩
theorem fl_X5_33 : FL RX5 33 2 1 := ⟨_, TX1, 2, "FreightPaths$Book", rfl, by decide, by decide +kernel, Or.inl rfl⟩
theorem fl_X5_51 : FL RX5 51 1 0 := ⟨_, TX0, 14, "FreightPaths$Bid", rfl, by decide, by decide +kernel, Or.inl rfl⟩
theorem fl_X5_59 : FL RX5 59 6 6 := ⟨_, TX5, 7, "FreightPaths$Rounds", rfl, by decide, by decide +kernel, Or.inl rfl⟩
theorem fl_X5_62 : FL RX5 62 6 5 := ⟨_, TX5, 7, "FreightPaths$Rounds", rfl, by decide, by decide +kernel, Or.inl rfl⟩
theorem fl_X5_66 : FL RX5 66 2 0 := ⟨_, TX1, 2, "FreightPaths$Book", rfl, by decide, by decide +kernel, Or.inl rfl⟩
theorem fl_X5_69 : FL RX5 69 1 7 := ⟨_, TX0, 14, "FreightPaths$Bid", rfl, by decide, by decide +kernel, Or.inl rfl⟩
theorem fl_X5_91 : FL RX5 91 1 9 := ⟨_, TX0, 14, "FreightPaths$Bid", rfl, by decide, by decide +kernel, Or.inl rfl⟩
theorem fl_X5_99 : FL RX5 99 5 5 := ⟨_, TX4, 7, "FreightPaths$PathSearch", rfl, by decide, by decide +kernel, Or.inl rfl⟩
theorem fl_X5_102 : FL RX5 102 5 6 := ⟨_, TX4, 7, "FreightPaths$PathSearch", rfl, by decide, by decide +kernel, Or.inl rfl⟩
theorem fl_X5_109 : FL RX5 109 1 10 := ⟨_, TX0, 14, "FreightPaths$Bid", rfl, by decide, by decide +kernel, Or.inl rfl⟩
theorem if_X5_6_0 : iF RX5 6 0 := fun _ _ _ z => by cases z; exact ⟨rfl, rfl⟩
theorem if_X5_6_1 : iF RX5 6 1 := fun _ _ _ z => by cases z; exact ⟨rfl, rfl⟩
theorem if_X5_6_2 : iF RX5 6 2 := fun _ _ _ z => by cases z; exact ⟨rfl, rfl⟩
theorem if_X5_6_3 : iF RX5 6 3 := fun _ _ _ z => by cases z; exact ⟨rfl, rfl⟩
theorem if_X5_6_4 : iF RX5 6 4 := fun _ _ _ z => by cases z; exact ⟨rfl, rfl⟩
theorem nf_6_5 : nF 6 5 := fun _ _ _ z => by cases z; rfl
theorem nf_6_6 : nF 6 6 := fun _ _ _ z => by cases z; rfl
theorem ck_X5_49 : (∃ T : u_T, vwCl[1]? = some ("FreightPaths$Bid", T, 14)) ∧ Cond.classLink RX5 49 "FreightPaths$Bid" ∈ GT := ⟨⟨TX0, rfl⟩, by decide +kernel⟩
theorem lk_X5_3 : Cond.methodLink RX5 3 objectInit ∈ GT := by decide +kernel
theorem me_X5_startAnew : Cond.instanceMethod yX5_startAnew ∈ GT ∧ Cond.selects RX5 yX5_startAnew yX5_startAnew ∈ GT ∧ Cond.initialized RX5 ∈ GT ∧ Cond.code yX5_startAnew cX5_startAnew 2 none ∈ GT := ⟨by decide +kernel, by decide +kernel, by decide +kernel, by decide +kernel⟩
theorem cl_X5_30 : VL RX5 30 6 yX5_startAnew cX5_startAnew 2 none 0 := ⟨⟨TX5, 7, rfl⟩, ⟨by decide +kernel, me_X5_startAnew⟩, by decide, by decide, by decide +kernel⟩
theorem cl_X5_39 : VL RX5 39 0 yJx4a65c_size_8abf5 cJx4a65c_size_8abf5 1 (some .int) 0 := ⟨⟨TJx4a65c, 3, rfl⟩, ⟨by decide +kernel, me_Jx4a65c_size_8abf5⟩, by decide, by decide, by decide +kernel⟩
theorem cl_X5_45 : VL RX5 45 0 yJx4a65c_get_915e3 cJx4a65c_get_915e3 2 (some (.object "java/lang/Object")) 1 := ⟨⟨TJx4a65c, 3, rfl⟩, ⟨by decide +kernel, me_Jx4a65c_get_915e3⟩, by decide, by decide, by decide +kernel⟩
theorem me_X5_comeWithPartner : Cond.instanceMethod yX5_comeWithPartner ∈ GT ∧ Cond.selects RX5 yX5_comeWithPartner yX5_comeWithPartner ∈ GT ∧ Cond.initialized RX5 ∈ GT ∧ Cond.code yX5_comeWithPartner cX5_comeWithPartner 4 (some .int) ∈ GT := ⟨by decide +kernel, by decide +kernel, by decide +kernel, by decide +kernel⟩
theorem cl_X5_55 : VL RX5 55 6 yX5_comeWithPartner cX5_comeWithPartner 4 (some .int) 1 := ⟨⟨TX5, 7, rfl⟩, ⟨by decide +kernel, me_X5_comeWithPartner⟩, by decide, by decide, by decide +kernel⟩
theorem cl_X5_65 : VL RX5 65 2 yX1_size cX1_size 1 (some .int) 0 := ⟨⟨TX1, 2, rfl⟩, ⟨by decide +kernel, me_X1_size⟩, by decide, by decide, by decide +kernel⟩
theorem me_X5_tryOrders : Cond.static yX5_tryOrders ∈ GT ∧ Cond.initialized RX5 ∈ GT ∧ Cond.code yX5_tryOrders cX5_tryOrders 7 none ∈ GT := ⟨by decide +kernel, by decide +kernel, by decide +kernel⟩
theorem cl_X5_72 : SL RX5 72 yX5_tryOrders cX5_tryOrders 7 none 3 := ⟨⟨by decide +kernel, me_X5_tryOrders⟩, by decide, by decide, by decide +kernel⟩
theorem me_X1_at : Cond.instanceMethod yX1_at ∈ GT ∧ Cond.selects RX1 yX1_at yX1_at ∈ GT ∧ Cond.initialized RX1 ∈ GT ∧ Cond.code yX1_at cX1_at 2 (some (.object "FreightPaths$Bid")) ∈ GT := ⟨by decide +kernel, by decide +kernel, by decide +kernel, by decide +kernel⟩
theorem cl_X5_76 : VL RX5 76 2 yX1_at cX1_at 2 (some (.object "FreightPaths$Bid")) 1 := ⟨⟨TX1, 2, rfl⟩, ⟨by decide +kernel, me_X1_at⟩, by decide, by decide, by decide +kernel⟩
theorem me_X5_takeBackWithPartner : Cond.instanceMethod yX5_takeBackWithPartner ∈ GT ∧ Cond.selects RX5 yX5_takeBackWithPartner yX5_takeBackWithPartner ∈ GT ∧ Cond.initialized RX5 ∈ GT ∧ Cond.code yX5_takeBackWithPartner cX5_takeBackWithPartner 3 none ∈ GT := ⟨by decide +kernel, by decide +kernel, by decide +kernel, by decide +kernel⟩
theorem cl_X5_80 : VL RX5 80 6 yX5_takeBackWithPartner cX5_takeBackWithPartner 3 none 1 := ⟨⟨TX5, 7, rfl⟩, ⟨by decide +kernel, me_X5_takeBackWithPartner⟩, by decide, by decide, by decide +kernel⟩
theorem me_X5_keepOrder : Cond.instanceMethod yX5_keepOrder ∈ GT ∧ Cond.selects RX5 yX5_keepOrder yX5_keepOrder ∈ GT ∧ Cond.initialized RX5 ∈ GT ∧ Cond.code yX5_keepOrder cX5_keepOrder 4 none ∈ GT := ⟨by decide +kernel, by decide +kernel, by decide +kernel, by decide +kernel⟩
theorem cl_X5_84 : VL RX5 84 6 yX5_keepOrder cX5_keepOrder 4 none 2 := ⟨⟨TX5, 7, rfl⟩, ⟨by decide +kernel, me_X5_keepOrder⟩, by decide, by decide, by decide +kernel⟩
theorem me_X1_dropAll : Cond.instanceMethod yX1_dropAll ∈ GT ∧ Cond.selects RX1 yX1_dropAll yX1_dropAll ∈ GT ∧ Cond.initialized RX1 ∈ GT ∧ Cond.code yX1_dropAll cX1_dropAll 2 none ∈ GT := ⟨by decide +kernel, by decide +kernel, by decide +kernel, by decide +kernel⟩
theorem cl_X5_88 : VL RX5 88 2 yX1_dropAll cX1_dropAll 2 none 0 := ⟨⟨TX1, 2, rfl⟩, ⟨by decide +kernel, me_X1_dropAll⟩, by decide, by decide, by decide +kernel⟩
theorem me_X4_endFor : Cond.instanceMethod yX4_endFor ∈ GT ∧ Cond.selects RX4 yX4_endFor yX4_endFor ∈ GT ∧ Cond.initialized RX4 ∈ GT ∧ Cond.code yX4_endFor cX4_endFor 4 (some .int) ∈ GT := ⟨by decide +kernel, by decide +kernel, by decide +kernel, by decide +kernel⟩
theorem cl_X5_94 : VL RX5 94 5 yX4_endFor cX4_endFor 4 (some .int) 1 := ⟨⟨TX4, 7, rfl⟩, ⟨by decide +kernel, me_X4_endFor⟩, by decide, by decide, by decide +kernel⟩
theorem me_X0_takePath : Cond.instanceMethod yX0_takePath ∈ GT ∧ Cond.selects RX0 yX0_takePath yX0_takePath ∈ GT ∧ Cond.initialized RX0 ∈ GT ∧ Cond.code yX0_takePath cX0_takePath 4 none ∈ GT := ⟨by decide +kernel, by decide +kernel, by decide +kernel, by decide +kernel⟩
theorem cl_X5_105 : VL RX5 105 1 yX0_takePath cX0_takePath 4 none 2 := ⟨⟨TX0, 14, rfl⟩, ⟨by decide +kernel, me_X0_takePath⟩, by decide, by decide, by decide +kernel⟩
theorem me_X5_takeBack : Cond.instanceMethod yX5_takeBack ∈ GT ∧ Cond.selects RX5 yX5_takeBack yX5_takeBack ∈ GT ∧ Cond.initialized RX5 ∈ GT ∧ Cond.code yX5_takeBack cX5_takeBack 2 none ∈ GT := ⟨by decide +kernel, by decide +kernel, by decide +kernel, by decide +kernel⟩
theorem cl_X5_113 : VL RX5 113 6 yX5_takeBack cX5_takeBack 2 none 1 := ⟨⟨TX5, 7, rfl⟩, ⟨by decide +kernel, me_X5_takeBack⟩, by decide, by decide, by decide +kernel⟩
section
variable {p : Program} {l : Launch} {e : Env} {s : State} {m : MethodId} {args : Array Value} {below : List Frame} {meth : Method} {c : Code} {G : GG}
abbrev rm_X5_init : Room := { frames := 1, cells := 3, slots := 26, locals := 20 }
def f_X5_init (this : Nat) (a0 : Option Nat) (a1 : Option Nat) (h : Hp) : Option (Unit × Hp) :=
nwZ h 16 (fun n7 h =>
pR h (some this) 6 2 (some n7) (fun h =>
nwI h 5 (fun n14 h =>
pR h (some this) 6 3 (some n14) (fun h =>
nwI h 5 (fun n21 h =>
pR h (some this) 6 4 (some n21) (fun h =>
pR h (some this) 6 0 a0 (fun h =>
pR h (some this) 6 1 a1 (fun h =>
rtV h))))))))
set_option maxHeartbeats 4000000 in
set_option maxRecDepth 100000 in
theorem c_X5_init (l : Launch) {G : GG} (this : Nat) (a0 : Option Nat) (a1 : Option Nat) (h : Hp) (v : Unit) (h1 : Hp) (hq : f_X5_init this a0 a1 h = some (v, h1)) : Met l yX5_init (Cond.code yX5_init cX5_init 3 none :: GT) rm_X5_init (va_Pc [.ref this, va_rf a0, va_rf a1] (Cn G h)) (Qx G none h1) 3 26 (AA G) := by
  refine xMet (cc := cX5_init) (by decide) (Nat.le_of_ble_eq_true rfl) (List.forall_mem_cons.mpr ⟨rfl, (List.forall_mem_cons.mpr ⟨(rf_cat a0), (List.forall_mem_cons.mpr ⟨(rf_cat a1), (fun _ z => by cases z)⟩)⟩)⟩) ?_
  intro p e s m below meth c ls Z hr hlk hin hR hS hl
  have hx := Z.1
  have hb := Z.2.1
  have hl : LV ls 3 [(0, va_rf (some this)), (1, va_rf a0), (2, va_rf a1)] := hl
  unfold f_X5_init at hq
  refine xaln hx hb hl (x := (some this)) 0 rfl dX5_init_0 ?_
  refine xoi Z hl lk_X5_3 (by decide) (by decide) dX5_init_1 ?_
  refine xaln hx hb hl (x := (some this)) 0 rfl dX5_init_4 ?_
  refine lv_bipush (v := 16) hx hb dX5_init_5 (by decide) ?_
  refine xnZ Z hR hS hq ac_Z (by decide) (by decide) (by decide) (by decide) (by decide) dX5_init_7 (fun n7 h H hq hR hS => ?_)
  refine xpR Z hR hS hq fl_X5_9 rfl (Or.inr ⟨if_X5_6_2, hin⟩) dX5_init_9 (fun h H locs hq hR hS => ?_)
  refine xaln hx hb hl (x := (some this)) 0 rfl dX5_init_12 ?_
  refine lv_iconst (v := 5) hx hb dX5_init_13 (by decide) ?_
  refine xnI Z hR hS hq ac_I (by decide) (by decide) (by decide) (by decide) (by decide) dX5_init_14 (fun n14 h H hq hR hS => ?_)
  refine xpR Z hR hS hq fl_X5_15 rfl (Or.inr ⟨if_X5_6_3, hin⟩) dX5_init_16 (fun h H locs hq hR hS => ?_)
  refine xaln hx hb hl (x := (some this)) 0 rfl dX5_init_19 ?_
  refine lv_iconst (v := 5) hx hb dX5_init_20 (by decide) ?_
  refine xnI Z hR hS hq ac_I (by decide) (by decide) (by decide) (by decide) (by decide) dX5_init_21 (fun n21 h H hq hR hS => ?_)
  refine xpR Z hR hS hq fl_X5_19 rfl (Or.inr ⟨if_X5_6_4, hin⟩) dX5_init_23 (fun h H locs hq hR hS => ?_)
  refine xaln hx hb hl (x := (some this)) 0 rfl dX5_init_26 ?_
  refine xaln hx hb hl (x := a0) 1 rfl dX5_init_27 ?_
  refine xpR Z hR hS hq fl_X5_22 rfl (Or.inr ⟨if_X5_6_0, hin⟩) dX5_init_28 (fun h H locs hq hR hS => ?_)
  refine xaln hx hb hl (x := (some this)) 0 rfl dX5_init_31 ?_
  refine xaln hx hb hl (x := a1) 2 rfl dX5_init_32 ?_
  refine xpR Z hR hS hq fl_X5_26 rfl (Or.inr ⟨if_X5_6_1, hin⟩) dX5_init_33 (fun h H locs hq hR hS => ?_)
  exact xrV hx hb hr hlk hR hS hq (by decide) (by decide) dX5_init_36
abbrev rm_X5_startAnew : Room := { frames := 4, cells := 0, slots := 0, locals := 85 }
def fb_X5_startAnew_9  (k9 : Option Nat × Int32 × Hp → Option (Unit × Hp)) (l0 : Option Nat) (l1 : Int32) (h : Hp) : Option (Unit × Hp) :=
(if 16 ≤ l1 then
rtV h
else
gR h l0 6 2 (fun x16 =>
stZ h x16 l1 0 (fun h =>
k9 (l0, (l1 + 1), h))))
set_option maxHeartbeats 4000000 in
set_option maxRecDepth 100000 in
theorem tb_X5_startAnew_9 (Z : ZZ p s m args c cX5_startAnew RX5 2 G) (hr : meth.sig.returnType = none) (hlk : meth.locks = false) (hin : meth.name = "startAnew") {v : Unit} {h1 : Hp} {k9 : Option Nat × Int32 × Hp → Option (Unit × Hp)} (hk9 : ∀ u : Option Nat × Int32 × Hp, k9 u = some (v, h1) → ∀ (H : Heap) (locs : List Loc) (ls : Array Slot), Rep G u.2.2 H → va_S (AA G) s.heap H locs → LV ls 2 [(0, va_rf u.1), (1, .int u.2.1)] → W p l e rm_X5_startAnew s m args below meth c H locs 0 0 (MQ below (Qx G none h1) args s 0 0 (AA G)) (F0 m 9 ls [])) : ∀ (l0 : Option Nat) (l1 : Int32) (h : Hp) (H : Heap) (locs : List Loc) (ls : Array Slot), fb_X5_startAnew_9 k9 l0 l1 h = some (v, h1) → Rep G h H → va_S (AA G) s.heap H locs → LV ls 2 [(0, va_rf l0), (1, .int l1)] → W p l e rm_X5_startAnew s m args below meth c H locs 0 0 (MQ below (Qx G none h1) args s 0 0 (AA G)) (F0 m 9 ls []) := by
  intro l0 l1 h H locs ls hq hR hS hl
  have hx := Z.1
  have hb := Z.2.1
  unfold fb_X5_startAnew_9 at hq
  refine xiln hx hb hl (x := l1) 1 rfl dX5_startAnew_9 ?_
  refine lv_bipush (v := 16) hx hb dX5_startAnew_10 (by decide) ?_
  refine xcGe hx hb hq (tgt := 28) dX5_startAnew_12 (by decide) (fun hq => ?_) (fun hq => ?_)
  · exact xrV hx hb hr hlk hR hS hq (by decide) (by decide) dX5_startAnew_28
  refine xaln hx hb hl (x := l0) 0 rfl dX5_startAnew_15 ?_
  refine xgR Z hR hq fl_X5_9 rfl dX5_startAnew_16 (fun x16 hq => ?_)
  refine xiln hx hb hl (x := l1) 1 rfl dX5_startAnew_19 ?_
  refine lv_iconst (v := 0) hx hb dX5_startAnew_20 (by decide) ?_
  refine xsZ Z hR hS hq dX5_startAnew_21 (fun h H locs hq hR hS => ?_)
  refine xinc hx hb hl (x := l1) (v := (l1 + 1)) (lv' := [(1, .int (l1 + 1)), (0, va_rf l0)]) 1 rfl (by rw [show Int32.ofInt (1) = (1 : Int32) from by decide]) (by decide) dX5_startAnew_22 rfl (fun ls hl => ?_)
  refine lv_goto (tgt := 9) hx hb dX5_startAnew_25 (by decide) ?_
  exact hk9 (l0, (l1 + 1), h) hq H locs ls hR hS (hl.sub [1, 0] rfl)
def f_X5_startAnew_9  (l0 : Option Nat) (l1 : Int32) (h : Hp) : Option (Unit × Hp) :=
  lp (fun (k9 : Option Nat × Int32 × Hp → Option (Unit × Hp)) (u : Option Nat × Int32 × Hp) => fb_X5_startAnew_9 k9 u.1 u.2.1 u.2.2) FU (l0, l1, h)
theorem t_X5_startAnew_9 (Z : ZZ p s m args c cX5_startAnew RX5 2 G) (hr : meth.sig.returnType = none) (hlk : meth.locks = false) (hin : meth.name = "startAnew") {v : Unit} {h1 : Hp} : ∀ (l0 : Option Nat) (l1 : Int32) (h : Hp) (H : Heap) (locs : List Loc) (ls : Array Slot), f_X5_startAnew_9 l0 l1 h = some (v, h1) → Rep G h H → va_S (AA G) s.heap H locs → LV ls 2 [(0, va_rf l0), (1, .int l1)] → W p l e rm_X5_startAnew s m args below meth c H locs 0 0 (MQ below (Qx G none h1) args s 0 0 (AA G)) (F0 m 9 ls []) := by
  intro l0 l1 h H locs ls hq hR hS hl
  exact lp_ind (P := fun u : Option Nat × Int32 × Hp => ∀ (H : Heap) (locs : List Loc) (ls : Array Slot), Rep G u.2.2 H → va_S (AA G) s.heap H locs → LV ls 2 [(0, va_rf u.1), (1, .int u.2.1)] → W p l e rm_X5_startAnew s m args below meth c H locs 0 0 (MQ below (Qx G none h1) args s 0 0 (AA G)) (F0 m 9 ls [])) (fun k hk u hq H locs ls hR hS hl => tb_X5_startAnew_9 Z hr hlk hin hk u.1 u.2.1 u.2.2 H locs ls hq hR hS hl) FU (l0, l1, h) hq H locs ls hR hS hl
def f_X5_startAnew (this : Nat) (h : Hp) : Option (Unit × Hp) :=
gR h (some this) 6 0 (fun x1 =>
rcv h x1 2 (fun b4 => bd (f_X1_dropAll b4 h) (fun u4 h =>
f_X5_startAnew_9 (some this) 0 h)))
set_option maxHeartbeats 4000000 in
set_option maxRecDepth 100000 in
theorem c_X5_startAnew (l : Launch) {G : GG} (this : Nat) (h : Hp) (v : Unit) (h1 : Hp) (hq : f_X5_startAnew this h = some (v, h1)) : Met l yX5_startAnew (Cond.code yX5_startAnew cX5_startAnew 2 none :: GT) rm_X5_startAnew (va_Pc [.ref this] (Cn G h)) (Qx G none h1) 0 0 (AA G) := by
  refine xMet (cc := cX5_startAnew) (by decide) (Nat.le_of_ble_eq_true rfl) (List.forall_mem_cons.mpr ⟨rfl, (fun _ z => by cases z)⟩) ?_
  intro p e s m below meth c ls Z hr hlk hin hR hS hl
  have hx := Z.1
  have hb := Z.2.1
  have hl : LV ls 2 [(0, va_rf (some this))] := hl
  unfold f_X5_startAnew at hq
  refine xaln hx hb hl (x := (some this)) 0 rfl dX5_startAnew_0 ?_
  refine xgR Z hR hq fl_X5_22 rfl dX5_startAnew_1 (fun x1 hq => ?_)
  refine xcV Z hR hS hl (rest := []) (As := []) hq cl_X5_88 (fun b x h1 hc => c_X1_dropAll l b h x h1 hc) ⟨⟨rfl, rfl⟩, (by decide), (by decide)⟩ rfl rfl (by first | decide | (simp only [List.map_cons, List.map_nil, rf_cat, ct_int, ct_ref, List.sum_cons, List.sum_nil] <;> decide)) dX5_startAnew_4 (by decide) (fun u4 h H locs hq hR hS => ?_)
  refine lv_iconst (v := 0) hx hb dX5_startAnew_7 (by decide) ?_
  refine xisn hx hb hl (x := 0) (lv' := [(1, .int 0), (0, va_rf (some this))]) (by decide) dX5_startAnew_8 rfl (fun ls hl => ?_)
  exact t_X5_startAnew_9 Z hr hlk hin (some this) 0 h _ _ ls hq hR hS (hl.sub [1, 0] rfl)
abbrev rm_X5_comeWithPartner : Room := { frames := 5, cells := 0, slots := 0, locals := 116 }
def f_X5_comeWithPartner_78  (s0 : Int32) (h : Hp) : Option (Int32 × Hp) :=
rtI s0 h
set_option maxHeartbeats 4000000 in
set_option maxRecDepth 100000 in
theorem t_X5_comeWithPartner_78 (Z : ZZ p s m args c cX5_comeWithPartner RX5 4 G) (hr : meth.sig.returnType = (some .int)) (hlk : meth.locks = false) (hin : meth.name = "comeWithPartner") {v : Int32} {h1 : Hp} : ∀ (s0 : Int32) (h : Hp) (H : Heap) (locs : List Loc) (ls : Array Slot), f_X5_comeWithPartner_78 s0 h = some (v, h1) → Rep G h H → va_S (AA G) s.heap H locs → LV ls 4 [] → W p l e rm_X5_comeWithPartner s m args below meth c H locs 0 0 (MQ below (Qx G (some (.int v)) h1) args s 0 0 (AA G)) (F0 m 78 ls [.int s0]) := by
  intro s0 h H locs ls hq hR hS hl
  have hx := Z.1
  have hb := Z.2.1
  unfold f_X5_comeWithPartner_78 at hq
  exact xrI hx hb hr hlk hR hS hq (by decide) (by decide) dX5_comeWithPartner_78
def f_X5_comeWithPartner_125  (l1 : Option Nat) (l2 : Option Nat) (h : Hp) : Option (Int32 × Hp) :=
pZ h l1 1 10 0 (fun h =>
gI h l1 1 7 (fun x131 =>
gI h l2 1 7 (fun x135 =>
rtI (x131 + x135) h)))
set_option maxHeartbeats 4000000 in
set_option maxRecDepth 100000 in
theorem t_X5_comeWithPartner_125 (Z : ZZ p s m args c cX5_comeWithPartner RX5 4 G) (hr : meth.sig.returnType = (some .int)) (hlk : meth.locks = false) (hin : meth.name = "comeWithPartner") {v : Int32} {h1 : Hp} : ∀ (l1 : Option Nat) (l2 : Option Nat) (h : Hp) (H : Heap) (locs : List Loc) (ls : Array Slot), f_X5_comeWithPartner_125 l1 l2 h = some (v, h1) → Rep G h H → va_S (AA G) s.heap H locs → LV ls 4 [(1, va_rf l1), (2, va_rf l2)] → W p l e rm_X5_comeWithPartner s m args below meth c H locs 0 0 (MQ below (Qx G (some (.int v)) h1) args s 0 0 (AA G)) (F0 m 125 ls []) := by
  intro l1 l2 h H locs ls hq hR hS hl
  have hx := Z.1
  have hb := Z.2.1
  unfold f_X5_comeWithPartner_125 at hq
  refine xaln hx hb hl (x := l1) 0 rfl dX5_comeWithPartner_125 ?_
  refine lv_iconst (v := 0) hx hb dX5_comeWithPartner_126 (by decide) ?_
  refine xpZ Z hR hS hq fl_X5_109 rfl (Or.inl nf_1_10) dX5_comeWithPartner_127 (fun h H locs hq hR hS => ?_)
  refine xaln hx hb hl (x := l1) 0 rfl dX5_comeWithPartner_130 ?_
  refine xgI Z hR hq fl_X5_69 rfl dX5_comeWithPartner_131 (fun x131 hq => ?_)
  refine xaln hx hb hl (x := l2) 1 rfl dX5_comeWithPartner_134 ?_
  refine xgI Z hR hq fl_X5_69 rfl dX5_comeWithPartner_135 (fun x135 hq => ?_)
  refine lv_iadd hx hb dX5_comeWithPartner_138 ?_
  exact xrI hx hb hr hlk hR hS hq (by decide) (by decide) dX5_comeWithPartner_139
def f_X5_comeWithPartner_62  (l0 : Option Nat) (l1 : Option Nat) (l2 : Option Nat) (l3 : Int32) (h : Hp) : Option (Int32 × Hp) :=
(if l2 = none then
(if l3 = 0 then
gI h l1 1 7 (fun x75 =>
f_X5_comeWithPartner_78 x75 h)
else
f_X5_comeWithPartner_78 0 h)
else
gR h l0 6 2 (fun x80 =>
gI h l2 1 0 (fun x84 =>
stZ h x80 x84 1 (fun h =>
(if l3 = 0 then
f_X5_comeWithPartner_125 l1 l2 h
else
gR h l0 6 1 (fun x94 =>
rcv h x94 5 (fun b98 => bd (f_X4_endFor b98 l2 h) (fun x98 h =>
(if x98 = (-1) then
f_X5_comeWithPartner_125 l1 l2 h
else
gR h l0 6 1 (fun x107 =>
gR h x107 5 5 (fun x110 =>
gR h l0 6 1 (fun x114 =>
gR h x114 5 6 (fun x117 =>
rcv h l2 1 (fun b120 => bd (f_X0_takePath b120 x110 x117 h) (fun u120 h =>
rtI 0 h)))))))))))))))
set_option maxHeartbeats 4000000 in
set_option maxRecDepth 100000 in
theorem t_X5_comeWithPartner_62 (Z : ZZ p s m args c cX5_comeWithPartner RX5 4 G) (hr : meth.sig.returnType = (some .int)) (hlk : meth.locks = false) (hin : meth.name = "comeWithPartner") {v : Int32} {h1 : Hp} : ∀ (l0 : Option Nat) (l1 : Option Nat) (l2 : Option Nat) (l3 : Int32) (h : Hp) (H : Heap) (locs : List Loc) (ls : Array Slot), f_X5_comeWithPartner_62 l0 l1 l2 l3 h = some (v, h1) → Rep G h H → va_S (AA G) s.heap H locs → LV ls 4 [(0, va_rf l0), (1, va_rf l1), (2, va_rf l2), (3, .int l3)] → W p l e rm_X5_comeWithPartner s m args below meth c H locs 0 0 (MQ below (Qx G (some (.int v)) h1) args s 0 0 (AA G)) (F0 m 62 ls []) := by
  intro l0 l1 l2 l3 h H locs ls hq hR hS hl
  have hx := Z.1
  have hb := Z.2.1
  unfold f_X5_comeWithPartner_62 at hq
  refine xaln hx hb hl (x := l2) 2 rfl dX5_comeWithPartner_62 ?_
  refine xnon hx hb hq (tgt := 79) dX5_comeWithPartner_63 (by decide) (fun hq => ?_) (fun hq => ?_)
  · refine xaln hx hb hl (x := l0) 0 rfl dX5_comeWithPartner_79 ?_
    refine xgR Z hR hq fl_X5_9 rfl dX5_comeWithPartner_80 (fun x80 hq => ?_)
    refine xaln hx hb hl (x := l2) 2 rfl dX5_comeWithPartner_83 ?_
    refine xgI Z hR hq fl_X5_51 rfl dX5_comeWithPartner_84 (fun x84 hq => ?_)
    refine lv_iconst (v := 1) hx hb dX5_comeWithPartner_87 (by decide) ?_
    refine xsZ Z hR hS hq dX5_comeWithPartner_88 (fun h H locs hq hR hS => ?_)
    refine xiln hx hb hl (x := l3) 3 rfl dX5_comeWithPartner_89 ?_
    refine xzEq hx hb hq (tgt := 125) dX5_comeWithPartner_90 (by decide) (fun hq => ?_) (fun hq => ?_)
    · exact t_X5_comeWithPartner_125 Z hr hlk hin l1 l2 h H locs ls hq hR hS (hl.sub [1, 2] rfl)
    refine xaln hx hb hl (x := l0) 0 rfl dX5_comeWithPartner_93 ?_
    refine xgR Z hR hq fl_X5_26 rfl dX5_comeWithPartner_94 (fun x94 hq => ?_)
    refine xaln hx hb hl (x := l2) 2 rfl dX5_comeWithPartner_97 ?_
    refine xcV Z hR hS hl (rest := []) (As := [va_rf l2]) hq cl_X5_94 (fun b x h1 hc => c_X4_endFor l b l2 h x h1 hc) ⟨⟨rfl, rfl⟩, (by decide), (by decide)⟩ rfl rfl (by first | decide | (simp only [List.map_cons, List.map_nil, rf_cat, ct_int, ct_ref, List.sum_cons, List.sum_nil] <;> decide)) dX5_comeWithPartner_98 (by decide) (fun x98 h H locs hq hR hS => ?_)
    refine lv_iconst (v := (-1)) hx hb dX5_comeWithPartner_101 (by decide) ?_
    refine xcEq hx hb hq (tgt := 125) dX5_comeWithPartner_102 (by decide) (fun hq => ?_) (fun hq => ?_)
    · exact t_X5_comeWithPartner_125 Z hr hlk hin l1 l2 h H locs ls hq hR hS (hl.sub [1, 2] rfl)
    refine xaln hx hb hl (x := l2) 2 rfl dX5_comeWithPartner_105 ?_
    refine xaln hx hb hl (x := l0) 0 rfl dX5_comeWithPartner_106 ?_
    refine xgR Z hR hq fl_X5_26 rfl dX5_comeWithPartner_107 (fun x107 hq => ?_)
    refine xgR Z hR hq fl_X5_99 rfl dX5_comeWithPartner_110 (fun x110 hq => ?_)
    refine xaln hx hb hl (x := l0) 0 rfl dX5_comeWithPartner_113 ?_
    refine xgR Z hR hq fl_X5_26 rfl dX5_comeWithPartner_114 (fun x114 hq => ?_)
    refine xgR Z hR hq fl_X5_102 rfl dX5_comeWithPartner_117 (fun x117 hq => ?_)
    refine xcV Z hR hS hl (rest := []) (As := [va_rf x110, va_rf x117]) hq cl_X5_105 (fun b x h1 hc => c_X0_takePath l b x110 x117 h x h1 hc) ⟨⟨rfl, rfl⟩, (by decide), (by decide)⟩ rfl rfl (by first | decide | (simp only [List.map_cons, List.map_nil, rf_cat, ct_int, ct_ref, List.sum_cons, List.sum_nil] <;> decide)) dX5_comeWithPartner_120 (by decide) (fun u120 h H locs hq hR hS => ?_)
    refine lv_iconst (v := 0) hx hb dX5_comeWithPartner_123 (by decide) ?_
    exact xrI hx hb hr hlk hR hS hq (by decide) (by decide) dX5_comeWithPartner_124
  refine xiln hx hb hl (x := l3) 3 rfl dX5_comeWithPartner_66 ?_
  refine xzEq hx hb hq (tgt := 74) dX5_comeWithPartner_67 (by decide) (fun hq => ?_) (fun hq => ?_)
  · refine xaln hx hb hl (x := l1) 1 rfl dX5_comeWithPartner_74 ?_
    refine xgI Z hR hq fl_X5_69 rfl dX5_comeWithPartner_75 (fun x75 hq => ?_)
    exact t_X5_comeWithPartner_78 Z hr hlk hin x75 h H locs ls hq hR hS (hl.sub [] rfl)
  refine lv_iconst (v := 0) hx hb dX5_comeWithPartner_70 (by decide) ?_
  refine lv_goto (tgt := 78) hx hb dX5_comeWithPartner_71 (by decide) ?_
  exact t_X5_comeWithPartner_78 Z hr hlk hin 0 h H locs ls hq hR hS (hl.sub [] rfl)
def f_X5_comeWithPartner_39  (s0 : Int32) (l0 : Option Nat) (l1 : Option Nat) (l2 : Option Nat) (h : Hp) : Option (Int32 × Hp) :=
(if s0 = 0 then
f_X5_comeWithPartner_62 l0 l1 l2 s0 h
else
gR h l0 6 1 (fun x46 =>
gR h x46 5 5 (fun x49 =>
gR h l0 6 1 (fun x53 =>
gR h x53 5 6 (fun x56 =>
rcv h l1 1 (fun b59 => bd (f_X0_takePath b59 x49 x56 h) (fun u59 h =>
f_X5_comeWithPartner_62 l0 l1 l2 s0 h)))))))
set_option maxHeartbeats 4000000 in
set_option maxRecDepth 100000 in
theorem t_X5_comeWithPartner_39 (Z : ZZ p s m args c cX5_comeWithPartner RX5 4 G) (hr : meth.sig.returnType = (some .int)) (hlk : meth.locks = false) (hin : meth.name = "comeWithPartner") {v : Int32} {h1 : Hp} : ∀ (s0 : Int32) (l0 : Option Nat) (l1 : Option Nat) (l2 : Option Nat) (h : Hp) (H : Heap) (locs : List Loc) (ls : Array Slot), f_X5_comeWithPartner_39 s0 l0 l1 l2 h = some (v, h1) → Rep G h H → va_S (AA G) s.heap H locs → LV ls 4 [(0, va_rf l0), (1, va_rf l1), (2, va_rf l2)] → W p l e rm_X5_comeWithPartner s m args below meth c H locs 0 0 (MQ below (Qx G (some (.int v)) h1) args s 0 0 (AA G)) (F0 m 39 ls [.int s0]) := by
  intro s0 l0 l1 l2 h H locs ls hq hR hS hl
  have hx := Z.1
  have hb := Z.2.1
  unfold f_X5_comeWithPartner_39 at hq
  refine xisn hx hb hl (x := s0) (lv' := [(3, .int s0), (0, va_rf l0), (1, va_rf l1), (2, va_rf l2)]) (by decide) dX5_comeWithPartner_39 rfl (fun ls hl => ?_)
  refine xiln hx hb hl (x := s0) 0 rfl dX5_comeWithPartner_40 ?_
  refine xzEq hx hb hq (tgt := 62) dX5_comeWithPartner_41 (by decide) (fun hq => ?_) (fun hq => ?_)
  · exact t_X5_comeWithPartner_62 Z hr hlk hin l0 l1 l2 s0 h H locs ls hq hR hS (hl.sub [1, 2, 3, 0] rfl)
  refine xaln hx hb hl (x := l1) 2 rfl dX5_comeWithPartner_44 ?_
  refine xaln hx hb hl (x := l0) 1 rfl dX5_comeWithPartner_45 ?_
  refine xgR Z hR hq fl_X5_26 rfl dX5_comeWithPartner_46 (fun x46 hq => ?_)
  refine xgR Z hR hq fl_X5_99 rfl dX5_comeWithPartner_49 (fun x49 hq => ?_)
  refine xaln hx hb hl (x := l0) 1 rfl dX5_comeWithPartner_52 ?_
  refine xgR Z hR hq fl_X5_26 rfl dX5_comeWithPartner_53 (fun x53 hq => ?_)
  refine xgR Z hR hq fl_X5_102 rfl dX5_comeWithPartner_56 (fun x56 hq => ?_)
  refine xcV Z hR hS hl (rest := []) (As := [va_rf x49, va_rf x56]) hq cl_X5_105 (fun b x h1 hc => c_X0_takePath l b x49 x56 h x h1 hc) ⟨⟨rfl, rfl⟩, (by decide), (by decide)⟩ rfl rfl (by first | decide | (simp only [List.map_cons, List.map_nil, rf_cat, ct_int, ct_ref, List.sum_cons, List.sum_nil] <;> decide)) dX5_comeWithPartner_59 (by decide) (fun u59 h H locs hq hR hS => ?_)
  exact t_X5_comeWithPartner_62 Z hr hlk hin l0 l1 l2 s0 h H locs ls hq hR hS (hl.sub [1, 2, 3, 0] rfl)
def f_X5_comeWithPartner (this : Nat) (a0 : Option Nat) (h : Hp) : Option (Int32 × Hp) :=
gR h (some this) 6 0 (fun x1 =>
gI h a0 1 9 (fun x5 =>
rcv h x1 2 (fun b8 => bd (f_X1_at b8 x5 h) (fun x8 h =>
gR h (some this) 6 2 (fun x13 =>
gI h a0 1 0 (fun x17 =>
stZ h x13 x17 1 (fun h =>
gR h (some this) 6 1 (fun x23 =>
rcv h x23 5 (fun b27 => bd (f_X4_endFor b27 a0 h) (fun x27 h =>
(if x27 = (-1) then
f_X5_comeWithPartner_39 0 (some this) a0 x8 h
else
f_X5_comeWithPartner_39 1 (some this) a0 x8 h)))))))))))
set_option maxHeartbeats 4000000 in
set_option maxRecDepth 100000 in
theorem c_X5_comeWithPartner (l : Launch) {G : GG} (this : Nat) (a0 : Option Nat) (h : Hp) (v : Int32) (h1 : Hp) (hq : f_X5_comeWithPartner this a0 h = some (v, h1)) : Met l yX5_comeWithPartner (Cond.code yX5_comeWithPartner cX5_comeWithPartner 4 (some .int) :: GT) rm_X5_comeWithPartner (va_Pc [.ref this, va_rf a0] (Cn G h)) (Qx G (some (.int v)) h1) 0 0 (AA G) := by
  refine xMet (cc := cX5_comeWithPartner) (by decide) (Nat.le_of_ble_eq_true rfl) (List.forall_mem_cons.mpr ⟨rfl, (List.forall_mem_cons.mpr ⟨(rf_cat a0), (fun _ z => by cases z)⟩)⟩) ?_
  intro p e s m below meth c ls Z hr hlk hin hR hS hl
  have hx := Z.1
  have hb := Z.2.1
  have hl : LV ls 4 [(0, va_rf (some this)), (1, va_rf a0)] := hl
  unfold f_X5_comeWithPartner at hq
  refine xaln hx hb hl (x := (some this)) 0 rfl dX5_comeWithPartner_0 ?_
  refine xgR Z hR hq fl_X5_22 rfl dX5_comeWithPartner_1 (fun x1 hq => ?_)
  refine xaln hx hb hl (x := a0) 1 rfl dX5_comeWithPartner_4 ?_
  refine xgI Z hR hq fl_X5_91 rfl dX5_comeWithPartner_5 (fun x5 hq => ?_)
  refine xcV Z hR hS hl (rest := []) (As := [.int x5]) hq cl_X5_76 (fun b x h1 hc => c_X1_at l b x5 h x h1 hc) ⟨⟨rfl, rfl⟩, (by decide), (by decide)⟩ rfl rfl (by first | decide | (simp only [List.map_cons, List.map_nil, rf_cat, ct_int, ct_ref, List.sum_cons, List.sum_nil] <;> decide)) dX5_comeWithPartner_8 (by decide) (fun x8 h H locs hq hR hS => ?_)
  refine xasn hx hb hl (x := x8) (lv' := [(2, va_rf x8), (0, va_rf (some this)), (1, va_rf a0)]) (by decide) dX5_comeWithPartner_11 rfl (fun ls hl => ?_)
  refine xaln hx hb hl (x := (some this)) 1 rfl dX5_comeWithPartner_12 ?_
  refine xgR Z hR hq fl_X5_9 rfl dX5_comeWithPartner_13 (fun x13 hq => ?_)
  refine xaln hx hb hl (x := a0) 2 rfl dX5_comeWithPartner_16 ?_
  refine xgI Z hR hq fl_X5_51 rfl dX5_comeWithPartner_17 (fun x17 hq => ?_)
  refine lv_iconst (v := 1) hx hb dX5_comeWithPartner_20 (by decide) ?_
  refine xsZ Z hR hS hq dX5_comeWithPartner_21 (fun h H locs hq hR hS => ?_)
  refine xaln hx hb hl (x := (some this)) 1 rfl dX5_comeWithPartner_22 ?_
  refine xgR Z hR hq fl_X5_26 rfl dX5_comeWithPartner_23 (fun x23 hq => ?_)
  refine xaln hx hb hl (x := a0) 2 rfl dX5_comeWithPartner_26 ?_
  refine xcV Z hR hS hl (rest := []) (As := [va_rf a0]) hq cl_X5_94 (fun b x h1 hc => c_X4_endFor l b a0 h x h1 hc) ⟨⟨rfl, rfl⟩, (by decide), (by decide)⟩ rfl rfl (by first | decide | (simp only [List.map_cons, List.map_nil, rf_cat, ct_int, ct_ref, List.sum_cons, List.sum_nil] <;> decide)) dX5_comeWithPartner_27 (by decide) (fun x27 h H locs hq hR hS => ?_)
  refine lv_iconst (v := (-1)) hx hb dX5_comeWithPartner_30 (by decide) ?_
  refine xcEq hx hb hq (tgt := 38) dX5_comeWithPartner_31 (by decide) (fun hq => ?_) (fun hq => ?_)
  · refine lv_iconst (v := 0) hx hb dX5_comeWithPartner_38 (by decide) ?_
    exact t_X5_comeWithPartner_39 Z hr hlk hin 0 (some this) a0 x8 h _ _ ls hq hR hS (hl.sub [1, 2, 0] rfl)
  refine lv_iconst (v := 1) hx hb dX5_comeWithPartner_34 (by decide) ?_
  refine lv_goto (tgt := 39) hx hb dX5_comeWithPartner_35 (by decide) ?_
  exact t_X5_comeWithPartner_39 Z hr hlk hin 1 (some this) a0 x8 h _ _ ls hq hR hS (hl.sub [1, 2, 0] rfl)
abbrev rm_X5_comeByRank : Room := { frames := 6, cells := 0, slots := 0, locals := 139 }
def f_X5_comeByRank_53  (k6 : Option Nat × Int32 × Hp → Option (Unit × Hp)) (l0 : Option Nat) (l1 : Int32) (h : Hp) : Option (Unit × Hp) :=
k6 (l0, (l1 + 1), h)
set_option maxHeartbeats 4000000 in
set_option maxRecDepth 100000 in
theorem t_X5_comeByRank_53 (Z : ZZ p s m args c cX5_comeByRank RX5 3 G) (hr : meth.sig.returnType = none) (hlk : meth.locks = false) (hin : meth.name = "comeByRank") {v : Unit} {h1 : Hp} {k6 : Option Nat × Int32 × Hp → Option (Unit × Hp)} (hk6 : ∀ u : Option Nat × Int32 × Hp, k6 u = some (v, h1) → ∀ (H : Heap) (locs : List Loc) (ls : Array Slot), Rep G u.2.2 H → va_S (AA G) s.heap H locs → LV ls 3 [(0, va_rf u.1), (1, .int u.2.1)] → W p l e rm_X5_comeByRank s m args below meth c H locs 0 0 (MQ below (Qx G none h1) args s 0 0 (AA G)) (F0 m 6 ls [])) : ∀ (l0 : Option Nat) (l1 : Int32) (h : Hp) (H : Heap) (locs : List Loc) (ls : Array Slot), f_X5_comeByRank_53 k6 l0 l1 h = some (v, h1) → Rep G h H → va_S (AA G) s.heap H locs → LV ls 3 [(0, va_rf l0), (1, .int l1)] → W p l e rm_X5_comeByRank s m args below meth c H locs 0 0 (MQ below (Qx G none h1) args s 0 0 (AA G)) (F0 m 53 ls []) := by
  intro l0 l1 h H locs ls hq hR hS hl
  have hx := Z.1
  have hb := Z.2.1
  unfold f_X5_comeByRank_53 at hq
  refine xinc hx hb hl (x := l1) (v := (l1 + 1)) (lv' := [(1, .int (l1 + 1)), (0, va_rf l0)]) 1 rfl (by rw [show Int32.ofInt (1) = (1 : Int32) from by decide]) (by decide) dX5_comeByRank_53 rfl (fun ls hl => ?_)
  refine lv_goto (tgt := 6) hx hb dX5_comeByRank_56 (by decide) ?_
  exact hk6 (l0, (l1 + 1), h) hq H locs ls hR hS (hl.sub [1, 0] rfl)
def fb_X5_comeByRank_6  (k6 : Option Nat × Int32 × Hp → Option (Unit × Hp)) (l0 : Option Nat) (l1 : Int32) (h : Hp) : Option (Unit × Hp) :=
gR h l0 6 0 (fun x8 =>
gR h x8 2 1 (fun x11 =>
rcv h x11 0 (fun b14 => bd (f_Jx4a65c_size_8abf5 b14 h) (fun x14 h =>
(if x14 ≤ l1 then
rtV h
else
gR h l0 6 0 (fun x21 =>
gR h x21 2 1 (fun x24 =>
rcv h x24 0 (fun b28 => bd (f_Jx4a65c_get_915e3 b28 l1 h) (fun x28 h =>
ckc h x28 1 (
gR h l0 6 2 (fun x36 =>
gI h x28 1 0 (fun x40 =>
ldZ h x36 x40 (fun x43 =>
(if x43 = 0 then
rcv h l0 6 (fun b49 => bd (f_X5_comeWithPartner b49 x28 h) (fun x49 h =>
f_X5_comeByRank_53 k6 l0 l1 h))
else
f_X5_comeByRank_53 k6 l0 l1 h))))))))))))))
set_option maxHeartbeats 4000000 in
set_option maxRecDepth 100000 in
theorem tb_X5_comeByRank_6 (Z : ZZ p s m args c cX5_comeByRank RX5 3 G) (hr : meth.sig.returnType = none) (hlk : meth.locks = false) (hin : meth.name = "comeByRank") {v : Unit} {h1 : Hp} {k6 : Option Nat × Int32 × Hp → Option (Unit × Hp)} (hk6 : ∀ u : Option Nat × Int32 × Hp, k6 u = some (v, h1) → ∀ (H : Heap) (locs : List Loc) (ls : Array Slot), Rep G u.2.2 H → va_S (AA G) s.heap H locs → LV ls 3 [(0, va_rf u.1), (1, .int u.2.1)] → W p l e rm_X5_comeByRank s m args below meth c H locs 0 0 (MQ below (Qx G none h1) args s 0 0 (AA G)) (F0 m 6 ls [])) : ∀ (l0 : Option Nat) (l1 : Int32) (h : Hp) (H : Heap) (locs : List Loc) (ls : Array Slot), fb_X5_comeByRank_6 k6 l0 l1 h = some (v, h1) → Rep G h H → va_S (AA G) s.heap H locs → LV ls 3 [(0, va_rf l0), (1, .int l1)] → W p l e rm_X5_comeByRank s m args below meth c H locs 0 0 (MQ below (Qx G none h1) args s 0 0 (AA G)) (F0 m 6 ls []) := by
  intro l0 l1 h H locs ls hq hR hS hl
  have hx := Z.1
  have hb := Z.2.1
  unfold fb_X5_comeByRank_6 at hq
  refine xiln hx hb hl (x := l1) 1 rfl dX5_comeByRank_6 ?_
  refine xaln hx hb hl (x := l0) 0 rfl dX5_comeByRank_7 ?_
  refine xgR Z hR hq fl_X5_22 rfl dX5_comeByRank_8 (fun x8 hq => ?_)
  refine xgR Z hR hq fl_X5_33 rfl dX5_comeByRank_11 (fun x11 hq => ?_)
  refine xcV Z hR hS hl (rest := [.int l1]) (As := []) hq cl_X5_39 (fun b x h1 hc => c_Jx4a65c_size_8abf5 l b h x h1 hc) ⟨⟨rfl, rfl⟩, (by decide), (by decide)⟩ rfl rfl (by first | decide | (simp only [List.map_cons, List.map_nil, rf_cat, ct_int, ct_ref, List.sum_cons, List.sum_nil] <;> decide)) dX5_comeByRank_14 (by decide) (fun x14 h H locs hq hR hS => ?_)
  refine xcGe hx hb hq (tgt := 59) dX5_comeByRank_17 (by decide) (fun hq => ?_) (fun hq => ?_)
  · exact xrV hx hb hr hlk hR hS hq (by decide) (by decide) dX5_comeByRank_59
  refine xaln hx hb hl (x := l0) 0 rfl dX5_comeByRank_20 ?_
  refine xgR Z hR hq fl_X5_22 rfl dX5_comeByRank_21 (fun x21 hq => ?_)
  refine xgR Z hR hq fl_X5_33 rfl dX5_comeByRank_24 (fun x24 hq => ?_)
  refine xiln hx hb hl (x := l1) 1 rfl dX5_comeByRank_27 ?_
  refine xcV Z hR hS hl (rest := []) (As := [.int l1]) hq cl_X5_45 (fun b x h1 hc => c_Jx4a65c_get_915e3 l b l1 h x h1 hc) ⟨⟨rfl, rfl⟩, (by decide), (by decide)⟩ rfl rfl (by first | decide | (simp only [List.map_cons, List.map_nil, rf_cat, ct_int, ct_ref, List.sum_cons, List.sum_nil] <;> decide)) dX5_comeByRank_28 (by decide) (fun x28 h H locs hq hR hS => ?_)
  refine xck Z hR hq ck_X5_49 dX5_comeByRank_31 (fun hq => ?_)
  refine xasn hx hb hl (x := x28) (lv' := [(2, va_rf x28), (0, va_rf l0), (1, .int l1)]) (by decide) dX5_comeByRank_34 rfl (fun ls hl => ?_)
  refine xaln hx hb hl (x := l0) 1 rfl dX5_comeByRank_35 ?_
  refine xgR Z hR hq fl_X5_9 rfl dX5_comeByRank_36 (fun x36 hq => ?_)
  refine xaln hx hb hl (x := x28) 0 rfl dX5_comeByRank_39 ?_
  refine xgI Z hR hq fl_X5_51 rfl dX5_comeByRank_40 (fun x40 hq => ?_)
  refine xaZ Z hR hq dX5_comeByRank_43 (fun x43 hq => ?_)
  refine xzNe hx hb hq (tgt := 53) dX5_comeByRank_44 (by decide) (fun hq => ?_) (fun hq => ?_)
  · exact t_X5_comeByRank_53 Z hr hlk hin hk6 l0 l1 h H locs ls hq hR hS (hl.sub [1, 2] rfl)
  refine xaln hx hb hl (x := l0) 1 rfl dX5_comeByRank_47 ?_
  refine xaln hx hb hl (x := x28) 0 rfl dX5_comeByRank_48 ?_
  refine xcV Z hR hS hl (rest := []) (As := [va_rf x28]) hq cl_X5_55 (fun b x h1 hc => c_X5_comeWithPartner l b x28 h x h1 hc) ⟨⟨rfl, rfl⟩, (by decide), (by decide)⟩ rfl rfl (by first | decide | (simp only [List.map_cons, List.map_nil, rf_cat, ct_int, ct_ref, List.sum_cons, List.sum_nil] <;> decide)) dX5_comeByRank_49 (by decide) (fun x49 h H locs hq hR hS => ?_)
  refine lv_pop hx hb dX5_comeByRank_52 rfl ?_
  exact t_X5_comeByRank_53 Z hr hlk hin hk6 l0 l1 h H locs ls hq hR hS (hl.sub [1, 2] rfl)
def f_X5_comeByRank_6  (l0 : Option Nat) (l1 : Int32) (h : Hp) : Option (Unit × Hp) :=
  lp (fun (k6 : Option Nat × Int32 × Hp → Option (Unit × Hp)) (u : Option Nat × Int32 × Hp) => fb_X5_comeByRank_6 k6 u.1 u.2.1 u.2.2) FU (l0, l1, h)
theorem t_X5_comeByRank_6 (Z : ZZ p s m args c cX5_comeByRank RX5 3 G) (hr : meth.sig.returnType = none) (hlk : meth.locks = false) (hin : meth.name = "comeByRank") {v : Unit} {h1 : Hp} : ∀ (l0 : Option Nat) (l1 : Int32) (h : Hp) (H : Heap) (locs : List Loc) (ls : Array Slot), f_X5_comeByRank_6 l0 l1 h = some (v, h1) → Rep G h H → va_S (AA G) s.heap H locs → LV ls 3 [(0, va_rf l0), (1, .int l1)] → W p l e rm_X5_comeByRank s m args below meth c H locs 0 0 (MQ below (Qx G none h1) args s 0 0 (AA G)) (F0 m 6 ls []) := by
  intro l0 l1 h H locs ls hq hR hS hl
  exact lp_ind (P := fun u : Option Nat × Int32 × Hp => ∀ (H : Heap) (locs : List Loc) (ls : Array Slot), Rep G u.2.2 H → va_S (AA G) s.heap H locs → LV ls 3 [(0, va_rf u.1), (1, .int u.2.1)] → W p l e rm_X5_comeByRank s m args below meth c H locs 0 0 (MQ below (Qx G none h1) args s 0 0 (AA G)) (F0 m 6 ls [])) (fun k hk u hq H locs ls hR hS hl => tb_X5_comeByRank_6 Z hr hlk hin hk u.1 u.2.1 u.2.2 H locs ls hq hR hS hl) FU (l0, l1, h) hq H locs ls hR hS hl
def f_X5_comeByRank (this : Nat) (h : Hp) : Option (Unit × Hp) :=
rcv h (some this) 6 (fun b1 => bd (f_X5_startAnew b1 h) (fun u1 h =>
f_X5_comeByRank_6 (some this) 0 h))
set_option maxHeartbeats 4000000 in
set_option maxRecDepth 100000 in
theorem c_X5_comeByRank (l : Launch) {G : GG} (this : Nat) (h : Hp) (v : Unit) (h1 : Hp) (hq : f_X5_comeByRank this h = some (v, h1)) : Met l yX5_comeByRank (Cond.code yX5_comeByRank cX5_comeByRank 3 none :: GT) rm_X5_comeByRank (va_Pc [.ref this] (Cn G h)) (Qx G none h1) 0 0 (AA G) := by
  refine xMet (cc := cX5_comeByRank) (by decide) (Nat.le_of_ble_eq_true rfl) (List.forall_mem_cons.mpr ⟨rfl, (fun _ z => by cases z)⟩) ?_
  intro p e s m below meth c ls Z hr hlk hin hR hS hl
  have hx := Z.1
  have hb := Z.2.1
  have hl : LV ls 3 [(0, va_rf (some this))] := hl
  unfold f_X5_comeByRank at hq
  refine xaln hx hb hl (x := (some this)) 0 rfl dX5_comeByRank_0 ?_
  refine xcV Z hR hS hl (rest := []) (As := []) hq cl_X5_30 (fun b x h1 hc => c_X5_startAnew l b h x h1 hc) ⟨⟨rfl, rfl⟩, (by decide), (by decide)⟩ rfl rfl (by first | decide | (simp only [List.map_cons, List.map_nil, rf_cat, ct_int, ct_ref, List.sum_cons, List.sum_nil] <;> decide)) dX5_comeByRank_1 (by decide) (fun u1 h H locs hq hR hS => ?_)
  refine lv_iconst (v := 0) hx hb dX5_comeByRank_4 (by decide) ?_
  refine xisn hx hb hl (x := 0) (lv' := [(1, .int 0), (0, va_rf (some this))]) (by decide) dX5_comeByRank_5 rfl (fun ls hl => ?_)
  exact t_X5_comeByRank_6 Z hr hlk hin (some this) 0 h _ _ ls hq hR hS (hl.sub [1, 0] rfl)
abbrev rm_X5_takeBack : Room := { frames := 0, cells := 0, slots := 0, locals := 0 }
def f_X5_takeBack (this : Nat) (a0 : Option Nat) (h : Hp) : Option (Unit × Hp) :=
pZ h a0 1 10 0 (fun h =>
gR h (some this) 6 2 (fun x6 =>
gI h a0 1 0 (fun x10 =>
stZ h x6 x10 0 (fun h =>
rtV h))))
set_option maxHeartbeats 4000000 in
set_option maxRecDepth 100000 in
theorem c_X5_takeBack (l : Launch) {G : GG} (this : Nat) (a0 : Option Nat) (h : Hp) (v : Unit) (h1 : Hp) (hq : f_X5_takeBack this a0 h = some (v, h1)) : Met l yX5_takeBack (Cond.code yX5_takeBack cX5_takeBack 2 none :: GT) rm_X5_takeBack (va_Pc [.ref this, va_rf a0] (Cn G h)) (Qx G none h1) 0 0 (AA G) := by
  refine xMet (cc := cX5_takeBack) (by decide) (Nat.le_of_ble_eq_true rfl) (List.forall_mem_cons.mpr ⟨rfl, (List.forall_mem_cons.mpr ⟨(rf_cat a0), (fun _ z => by cases z)⟩)⟩) ?_
  intro p e s m below meth c ls Z hr hlk hin hR hS hl
  have hx := Z.1
  have hb := Z.2.1
  have hl : LV ls 2 [(0, va_rf (some this)), (1, va_rf a0)] := hl
  unfold f_X5_takeBack at hq
  refine xaln hx hb hl (x := a0) 1 rfl dX5_takeBack_0 ?_
  refine lv_iconst (v := 0) hx hb dX5_takeBack_1 (by decide) ?_
  refine xpZ Z hR hS hq fl_X5_109 rfl (Or.inl nf_1_10) dX5_takeBack_2 (fun h H locs hq hR hS => ?_)
  refine xaln hx hb hl (x := (some this)) 0 rfl dX5_takeBack_5 ?_
  refine xgR Z hR hq fl_X5_9 rfl dX5_takeBack_6 (fun x6 hq => ?_)
  refine xaln hx hb hl (x := a0) 1 rfl dX5_takeBack_9 ?_
  refine xgI Z hR hq fl_X5_51 rfl dX5_takeBack_10 (fun x10 hq => ?_)
  refine lv_iconst (v := 0) hx hb dX5_takeBack_13 (by decide) ?_
  refine xsZ Z hR hS hq dX5_takeBack_14 (fun h H locs hq hR hS => ?_)
  exact xrV hx hb hr hlk hR hS hq (by decide) (by decide) dX5_takeBack_15
abbrev rm_X5_takeBackWithPartner : Room := { frames := 4, cells := 0, slots := 0, locals := 85 }
def f_X5_takeBackWithPartner_26   (h : Hp) : Option (Unit × Hp) :=
rtV h
set_option maxHeartbeats 4000000 in
set_option maxRecDepth 100000 in
theorem t_X5_takeBackWithPartner_26 (Z : ZZ p s m args c cX5_takeBackWithPartner RX5 3 G) (hr : meth.sig.returnType = none) (hlk : meth.locks = false) (hin : meth.name = "takeBackWithPartner") {v : Unit} {h1 : Hp} : ∀  (h : Hp) (H : Heap) (locs : List Loc) (ls : Array Slot), f_X5_takeBackWithPartner_26  h = some (v, h1) → Rep G h H → va_S (AA G) s.heap H locs → LV ls 3 [] → W p l e rm_X5_takeBackWithPartner s m args below meth c H locs 0 0 (MQ below (Qx G none h1) args s 0 0 (AA G)) (F0 m 26 ls []) := by
  intro  h H locs ls hq hR hS hl
  have hx := Z.1
  have hb := Z.2.1
  unfold f_X5_takeBackWithPartner_26 at hq
  exact xrV hx hb hr hlk hR hS hq (by decide) (by decide) dX5_takeBackWithPartner_26
def f_X5_takeBackWithPartner (this : Nat) (a0 : Option Nat) (h : Hp) : Option (Unit × Hp) :=
rcv h (some this) 6 (fun b2 => bd (f_X5_takeBack b2 a0 h) (fun u2 h =>
gR h (some this) 6 0 (fun x6 =>
gI h a0 1 9 (fun x10 =>
rcv h x6 2 (fun b13 => bd (f_X1_at b13 x10 h) (fun x13 h =>
(if x13 = none then
f_X5_takeBackWithPartner_26  h
else
rcv h (some this) 6 (fun b23 => bd (f_X5_takeBack b23 x13 h) (fun u23 h =>
f_X5_takeBackWithPartner_26  h)))))))))
set_option maxHeartbeats 4000000 in
set_option maxRecDepth 100000 in
theorem c_X5_takeBackWithPartner (l : Launch) {G : GG} (this : Nat) (a0 : Option Nat) (h : Hp) (v : Unit) (h1 : Hp) (hq : f_X5_takeBackWithPartner this a0 h = some (v, h1)) : Met l yX5_takeBackWithPartner (Cond.code yX5_takeBackWithPartner cX5_takeBackWithPartner 3 none :: GT) rm_X5_takeBackWithPartner (va_Pc [.ref this, va_rf a0] (Cn G h)) (Qx G none h1) 0 0 (AA G) := by
  refine xMet (cc := cX5_takeBackWithPartner) (by decide) (Nat.le_of_ble_eq_true rfl) (List.forall_mem_cons.mpr ⟨rfl, (List.forall_mem_cons.mpr ⟨(rf_cat a0), (fun _ z => by cases z)⟩)⟩) ?_
  intro p e s m below meth c ls Z hr hlk hin hR hS hl
  have hx := Z.1
  have hb := Z.2.1
  have hl : LV ls 3 [(0, va_rf (some this)), (1, va_rf a0)] := hl
  unfold f_X5_takeBackWithPartner at hq
  refine xaln hx hb hl (x := (some this)) 0 rfl dX5_takeBackWithPartner_0 ?_
  refine xaln hx hb hl (x := a0) 1 rfl dX5_takeBackWithPartner_1 ?_
  refine xcV Z hR hS hl (rest := []) (As := [va_rf a0]) hq cl_X5_113 (fun b x h1 hc => c_X5_takeBack l b a0 h x h1 hc) ⟨⟨rfl, rfl⟩, (by decide), (by decide)⟩ rfl rfl (by first | decide | (simp only [List.map_cons, List.map_nil, rf_cat, ct_int, ct_ref, List.sum_cons, List.sum_nil] <;> decide)) dX5_takeBackWithPartner_2 (by decide) (fun u2 h H locs hq hR hS => ?_)
  refine xaln hx hb hl (x := (some this)) 0 rfl dX5_takeBackWithPartner_5 ?_
  refine xgR Z hR hq fl_X5_22 rfl dX5_takeBackWithPartner_6 (fun x6 hq => ?_)
  refine xaln hx hb hl (x := a0) 1 rfl dX5_takeBackWithPartner_9 ?_
  refine xgI Z hR hq fl_X5_91 rfl dX5_takeBackWithPartner_10 (fun x10 hq => ?_)
  refine xcV Z hR hS hl (rest := []) (As := [.int x10]) hq cl_X5_76 (fun b x h1 hc => c_X1_at l b x10 h x h1 hc) ⟨⟨rfl, rfl⟩, (by decide), (by decide)⟩ rfl rfl (by first | decide | (simp only [List.map_cons, List.map_nil, rf_cat, ct_int, ct_ref, List.sum_cons, List.sum_nil] <;> decide)) dX5_takeBackWithPartner_13 (by decide) (fun x13 h H locs hq hR hS => ?_)
  refine xasn hx hb hl (x := x13) (lv' := [(2, va_rf x13), (0, va_rf (some this)), (1, va_rf a0)]) (by decide) dX5_takeBackWithPartner_16 rfl (fun ls hl => ?_)
  refine xaln hx hb hl (x := x13) 0 rfl dX5_takeBackWithPartner_17 ?_
  refine xnul hx hb hq (tgt := 26) dX5_takeBackWithPartner_18 (by decide) (fun hq => ?_) (fun hq => ?_)
  · exact t_X5_takeBackWithPartner_26 Z hr hlk hin  h _ _ ls hq hR hS (hl.sub [] rfl)
  refine xaln hx hb hl (x := (some this)) 1 rfl dX5_takeBackWithPartner_21 ?_
  refine xaln hx hb hl (x := x13) 0 rfl dX5_takeBackWithPartner_22 ?_
  refine xcV Z hR hS hl (rest := []) (As := [va_rf x13]) hq cl_X5_113 (fun b x h1 hc => c_X5_takeBack l b x13 h x h1 hc) ⟨⟨rfl, rfl⟩, (by decide), (by decide)⟩ rfl rfl (by first | decide | (simp only [List.map_cons, List.map_nil, rf_cat, ct_int, ct_ref, List.sum_cons, List.sum_nil] <;> decide)) dX5_takeBackWithPartner_23 (by decide) (fun u23 h H locs hq hR hS => ?_)
  exact t_X5_takeBackWithPartner_26 Z hr hlk hin  h _ _ ls hq hR hS (hl.sub [] rfl)
abbrev rm_X5_keepOrder : Room := { frames := 0, cells := 0, slots := 0, locals := 0 }
def fb_X5_keepOrder_12  (k12 : Option Nat × Int32 × Int32 × Hp → Option (Unit × Hp)) (l0 : Option Nat) (l1 : Int32) (l3 : Int32) (h : Hp) : Option (Unit × Hp) :=
(if l1 ≤ l3 then
rtV h
else
gR h l0 6 4 (fun x18 =>
gR h l0 6 3 (fun x23 =>
ldI h x23 l3 (fun x27 =>
stI h x18 l3 x27 (fun h =>
k12 (l0, l1, (l3 + 1), h))))))
set_option maxHeartbeats 4000000 in
set_option maxRecDepth 100000 in
theorem tb_X5_keepOrder_12 (Z : ZZ p s m args c cX5_keepOrder RX5 4 G) (hr : meth.sig.returnType = none) (hlk : meth.locks = false) (hin : meth.name = "keepOrder") {v : Unit} {h1 : Hp} {k12 : Option Nat × Int32 × Int32 × Hp → Option (Unit × Hp)} (hk12 : ∀ u : Option Nat × Int32 × Int32 × Hp, k12 u = some (v, h1) → ∀ (H : Heap) (locs : List Loc) (ls : Array Slot), Rep G u.2.2.2 H → va_S (AA G) s.heap H locs → LV ls 4 [(0, va_rf u.1), (1, .int u.2.1), (3, .int u.2.2.1)] → W p l e rm_X5_keepOrder s m args below meth c H locs 0 0 (MQ below (Qx G none h1) args s 0 0 (AA G)) (F0 m 12 ls [])) : ∀ (l0 : Option Nat) (l1 : Int32) (l3 : Int32) (h : Hp) (H : Heap) (locs : List Loc) (ls : Array Slot), fb_X5_keepOrder_12 k12 l0 l1 l3 h = some (v, h1) → Rep G h H → va_S (AA G) s.heap H locs → LV ls 4 [(0, va_rf l0), (1, .int l1), (3, .int l3)] → W p l e rm_X5_keepOrder s m args below meth c H locs 0 0 (MQ below (Qx G none h1) args s 0 0 (AA G)) (F0 m 12 ls []) := by
  intro l0 l1 l3 h H locs ls hq hR hS hl
  have hx := Z.1
  have hb := Z.2.1
  unfold fb_X5_keepOrder_12 at hq
  refine xiln hx hb hl (x := l3) 2 rfl dX5_keepOrder_12 ?_
  refine xiln hx hb hl (x := l1) 1 rfl dX5_keepOrder_13 ?_
  refine xcGe hx hb hq (tgt := 35) dX5_keepOrder_14 (by decide) (fun hq => ?_) (fun hq => ?_)
  · exact xrV hx hb hr hlk hR hS hq (by decide) (by decide) dX5_keepOrder_35
  refine xaln hx hb hl (x := l0) 0 rfl dX5_keepOrder_17 ?_
  refine xgR Z hR hq fl_X5_19 rfl dX5_keepOrder_18 (fun x18 hq => ?_)
  refine xiln hx hb hl (x := l3) 2 rfl dX5_keepOrder_21 ?_
  refine xaln hx hb hl (x := l0) 0 rfl dX5_keepOrder_22 ?_
  refine xgR Z hR hq fl_X5_15 rfl dX5_keepOrder_23 (fun x23 hq => ?_)
  refine xiln hx hb hl (x := l3) 2 rfl dX5_keepOrder_26 ?_
  refine xaI Z hR hq dX5_keepOrder_27 (fun x27 hq => ?_)
  refine xsI Z hR hS hq dX5_keepOrder_28 (fun h H locs hq hR hS => ?_)
  refine xinc hx hb hl (x := l3) (v := (l3 + 1)) (lv' := [(3, .int (l3 + 1)), (0, va_rf l0), (1, .int l1)]) 2 rfl (by rw [show Int32.ofInt (1) = (1 : Int32) from by decide]) (by decide) dX5_keepOrder_29 rfl (fun ls hl => ?_)
  refine lv_goto (tgt := 12) hx hb dX5_keepOrder_32 (by decide) ?_
  exact hk12 (l0, l1, (l3 + 1), h) hq H locs ls hR hS (hl.sub [1, 2, 0] rfl)
def f_X5_keepOrder_12  (l0 : Option Nat) (l1 : Int32) (l3 : Int32) (h : Hp) : Option (Unit × Hp) :=
  lp (fun (k12 : Option Nat × Int32 × Int32 × Hp → Option (Unit × Hp)) (u : Option Nat × Int32 × Int32 × Hp) => fb_X5_keepOrder_12 k12 u.1 u.2.1 u.2.2.1 u.2.2.2) FU (l0, l1, l3, h)
theorem t_X5_keepOrder_12 (Z : ZZ p s m args c cX5_keepOrder RX5 4 G) (hr : meth.sig.returnType = none) (hlk : meth.locks = false) (hin : meth.name = "keepOrder") {v : Unit} {h1 : Hp} : ∀ (l0 : Option Nat) (l1 : Int32) (l3 : Int32) (h : Hp) (H : Heap) (locs : List Loc) (ls : Array Slot), f_X5_keepOrder_12 l0 l1 l3 h = some (v, h1) → Rep G h H → va_S (AA G) s.heap H locs → LV ls 4 [(0, va_rf l0), (1, .int l1), (3, .int l3)] → W p l e rm_X5_keepOrder s m args below meth c H locs 0 0 (MQ below (Qx G none h1) args s 0 0 (AA G)) (F0 m 12 ls []) := by
  intro l0 l1 l3 h H locs ls hq hR hS hl
  exact lp_ind (P := fun u : Option Nat × Int32 × Int32 × Hp => ∀ (H : Heap) (locs : List Loc) (ls : Array Slot), Rep G u.2.2.2 H → va_S (AA G) s.heap H locs → LV ls 4 [(0, va_rf u.1), (1, .int u.2.1), (3, .int u.2.2.1)] → W p l e rm_X5_keepOrder s m args below meth c H locs 0 0 (MQ below (Qx G none h1) args s 0 0 (AA G)) (F0 m 12 ls [])) (fun k hk u hq H locs ls hR hS hl => tb_X5_keepOrder_12 Z hr hlk hin hk u.1 u.2.1 u.2.2.1 u.2.2.2 H locs ls hq hR hS hl) FU (l0, l1, l3, h) hq H locs ls hR hS hl
def f_X5_keepOrder (this : Nat) (a0 : Int32) (a1 : Int32) (h : Hp) : Option (Unit × Hp) :=
pI h (some this) 6 6 a1 (fun h =>
pI h (some this) 6 5 a0 (fun h =>
f_X5_keepOrder_12 (some this) a0 0 h))
set_option maxHeartbeats 4000000 in
set_option maxRecDepth 100000 in
theorem c_X5_keepOrder (l : Launch) {G : GG} (this : Nat) (a0 : Int32) (a1 : Int32) (h : Hp) (v : Unit) (h1 : Hp) (hq : f_X5_keepOrder this a0 a1 h = some (v, h1)) : Met l yX5_keepOrder (Cond.code yX5_keepOrder cX5_keepOrder 4 none :: GT) rm_X5_keepOrder (va_Pc [.ref this, .int a0, .int a1] (Cn G h)) (Qx G none h1) 0 0 (AA G) := by
  refine xMet (cc := cX5_keepOrder) (by decide) (Nat.le_of_ble_eq_true rfl) (List.forall_mem_cons.mpr ⟨rfl, (List.forall_mem_cons.mpr ⟨rfl, (List.forall_mem_cons.mpr ⟨rfl, (fun _ z => by cases z)⟩)⟩)⟩) ?_
  intro p e s m below meth c ls Z hr hlk hin hR hS hl
  have hx := Z.1
  have hb := Z.2.1
  have hl : LV ls 4 [(0, va_rf (some this)), (1, .int a0), (2, .int a1)] := hl
  unfold f_X5_keepOrder at hq
  refine xaln hx hb hl (x := (some this)) 0 rfl dX5_keepOrder_0 ?_
  refine xiln hx hb hl (x := a1) 2 rfl dX5_keepOrder_1 ?_
  refine xpI Z hR hS hq fl_X5_59 rfl (Or.inl nf_6_6) dX5_keepOrder_2 (fun h H locs hq hR hS => ?_)
  refine xaln hx hb hl (x := (some this)) 0 rfl dX5_keepOrder_5 ?_
  refine xiln hx hb hl (x := a0) 1 rfl dX5_keepOrder_6 ?_
  refine xpI Z hR hS hq fl_X5_62 rfl (Or.inl nf_6_5) dX5_keepOrder_7 (fun h H locs hq hR hS => ?_)
  refine lv_iconst (v := 0) hx hb dX5_keepOrder_10 (by decide) ?_
  refine xisn hx hb hl (x := 0) (lv' := [(3, .int 0), (0, va_rf (some this)), (1, .int a0), (2, .int a1)]) (by decide) dX5_keepOrder_11 rfl (fun ls hl => ?_)
  exact t_X5_keepOrder_12 Z hr hlk hin (some this) a0 0 h _ _ ls hq hR hS (hl.sub [1, 2, 0] rfl)
def rmT (n : Nat) : Room := { frames := 6 + n, cells := 0, slots := 0, locals := 139 + n * 40 }
def f_X5_tryOrders_101 (rec : Option Nat → Int32 → Int32 → Hp → Option (Unit × Hp))  (k14 : Option Nat × Int32 × Int32 × Int32 × Int32 × Hp → Option (Unit × Hp)) (l0 : Option Nat) (l1 : Int32) (l2 : Int32) (l3 : Int32) (l4 : Int32) (h : Hp) : Option (Unit × Hp) :=
k14 (l0, l1, l2, l3, (l4 + 1), h)
set_option maxHeartbeats 4000000 in
set_option maxRecDepth 100000 in
theorem t_X5_tryOrders_101 (Z : ZZ p s m args c cX5_tryOrders RX5 7 G) (hr : meth.sig.returnType = none) (hlk : meth.locks = false) (hin : meth.name = "tryOrders") {n : Nat} {rec : Option Nat → Int32 → Int32 → Hp → Option (Unit × Hp)} (hrec : ∀ (a0 : Option Nat) (a1 : Int32) (a2 : Int32) (h : Hp) (v : Unit) (h1 : Hp), rec a0 a1 a2 h = some (v, h1) → Met l yX5_tryOrders (Cond.code yX5_tryOrders cX5_tryOrders 7 none :: GT) (rmT n) (va_Pc [va_rf a0, .int a1, .int a2] (Cn G h)) (Qx G none h1) 0 0 (AA G)) {v : Unit} {h1 : Hp} {k14 : Option Nat × Int32 × Int32 × Int32 × Int32 × Hp → Option (Unit × Hp)} (hk14 : ∀ u : Option Nat × Int32 × Int32 × Int32 × Int32 × Hp, k14 u = some (v, h1) → ∀ (H : Heap) (locs : List Loc) (ls : Array Slot), Rep G u.2.2.2.2.2 H → va_S (AA G) s.heap H locs → LV ls 7 [(0, va_rf u.1), (1, .int u.2.1), (2, .int u.2.2.1), (3, .int u.2.2.2.1), (4, .int u.2.2.2.2.1)] → W p l e (rmT (n + 1)) s m args below meth c H locs 0 0 (MQ below (Qx G none h1) args s 0 0 (AA G)) (F0 m 14 ls [])) : ∀ (l0 : Option Nat) (l1 : Int32) (l2 : Int32) (l3 : Int32) (l4 : Int32) (h : Hp) (H : Heap) (locs : List Loc) (ls : Array Slot), f_X5_tryOrders_101 rec k14 l0 l1 l2 l3 l4 h = some (v, h1) → Rep G h H → va_S (AA G) s.heap H locs → LV ls 7 [(0, va_rf l0), (1, .int l1), (2, .int l2), (3, .int l3), (4, .int l4)] → W p l e (rmT (n + 1)) s m args below meth c H locs 0 0 (MQ below (Qx G none h1) args s 0 0 (AA G)) (F0 m 101 ls []) := by
  intro l0 l1 l2 l3 l4 h H locs ls hq hR hS hl
  have hx := Z.1
  have hb := Z.2.1
  unfold f_X5_tryOrders_101 at hq
  refine xinc hx hb hl (x := l4) (v := (l4 + 1)) (lv' := [(4, .int (l4 + 1)), (0, va_rf l0), (1, .int l1), (2, .int l2), (3, .int l3)]) 4 rfl (by rw [show Int32.ofInt (1) = (1 : Int32) from by decide]) (by decide) dX5_tryOrders_101 rfl (fun ls hl => ?_)
  refine lv_goto (tgt := 14) hx hb dX5_tryOrders_104 (by decide) ?_
  exact hk14 (l0, l1, l2, l3, (l4 + 1), h) hq H locs ls hR hS (hl.sub [1, 2, 3, 4, 0] rfl)
def f_X5_tryOrders_117 (rec : Option Nat → Int32 → Int32 → Hp → Option (Unit × Hp))   (h : Hp) : Option (Unit × Hp) :=
rtV h
set_option maxHeartbeats 4000000 in
set_option maxRecDepth 100000 in
theorem t_X5_tryOrders_117 (Z : ZZ p s m args c cX5_tryOrders RX5 7 G) (hr : meth.sig.returnType = none) (hlk : meth.locks = false) (hin : meth.name = "tryOrders") {n : Nat} {rec : Option Nat → Int32 → Int32 → Hp → Option (Unit × Hp)} (hrec : ∀ (a0 : Option Nat) (a1 : Int32) (a2 : Int32) (h : Hp) (v : Unit) (h1 : Hp), rec a0 a1 a2 h = some (v, h1) → Met l yX5_tryOrders (Cond.code yX5_tryOrders cX5_tryOrders 7 none :: GT) (rmT n) (va_Pc [va_rf a0, .int a1, .int a2] (Cn G h)) (Qx G none h1) 0 0 (AA G)) {v : Unit} {h1 : Hp} : ∀  (h : Hp) (H : Heap) (locs : List Loc) (ls : Array Slot), f_X5_tryOrders_117 rec  h = some (v, h1) → Rep G h H → va_S (AA G) s.heap H locs → LV ls 7 [] → W p l e (rmT (n + 1)) s m args below meth c H locs 0 0 (MQ below (Qx G none h1) args s 0 0 (AA G)) (F0 m 117 ls []) := by
  intro  h H locs ls hq hR hS hl
  have hx := Z.1
  have hb := Z.2.1
  unfold f_X5_tryOrders_117 at hq
  exact xrV hx hb hr hlk hR hS hq (by decide) (by decide) dX5_tryOrders_117
def f_X5_tryOrders_107 (rec : Option Nat → Int32 → Int32 → Hp → Option (Unit × Hp))  (l0 : Option Nat) (l1 : Int32) (l2 : Int32) (l3 : Int32) (h : Hp) : Option (Unit × Hp) :=
(if l3 = 0 then
f_X5_tryOrders_117 rec  h
else
rcv h l0 6 (fun b114 => bd (f_X5_keepOrder b114 l1 l2 h) (fun u114 h =>
f_X5_tryOrders_117 rec  h)))
set_option maxHeartbeats 4000000 in
set_option maxRecDepth 100000 in
theorem t_X5_tryOrders_107 (Z : ZZ p s m args c cX5_tryOrders RX5 7 G) (hr : meth.sig.returnType = none) (hlk : meth.locks = false) (hin : meth.name = "tryOrders") {n : Nat} {rec : Option Nat → Int32 → Int32 → Hp → Option (Unit × Hp)} (hrec : ∀ (a0 : Option Nat) (a1 : Int32) (a2 : Int32) (h : Hp) (v : Unit) (h1 : Hp), rec a0 a1 a2 h = some (v, h1) → Met l yX5_tryOrders (Cond.code yX5_tryOrders cX5_tryOrders 7 none :: GT) (rmT n) (va_Pc [va_rf a0, .int a1, .int a2] (Cn G h)) (Qx G none h1) 0 0 (AA G)) {v : Unit} {h1 : Hp} : ∀ (l0 : Option Nat) (l1 : Int32) (l2 : Int32) (l3 : Int32) (h : Hp) (H : Heap) (locs : List Loc) (ls : Array Slot), f_X5_tryOrders_107 rec l0 l1 l2 l3 h = some (v, h1) → Rep G h H → va_S (AA G) s.heap H locs → LV ls 7 [(0, va_rf l0), (1, .int l1), (2, .int l2), (3, .int l3)] → W p l e (rmT (n + 1)) s m args below meth c H locs 0 0 (MQ below (Qx G none h1) args s 0 0 (AA G)) (F0 m 107 ls []) := by
  intro l0 l1 l2 l3 h H locs ls hq hR hS hl
  have hx := Z.1
  have hb := Z.2.1
  unfold f_X5_tryOrders_107 at hq
  refine xiln hx hb hl (x := l3) 3 rfl dX5_tryOrders_107 ?_
  refine xzEq hx hb hq (tgt := 117) dX5_tryOrders_108 (by decide) (fun hq => ?_) (fun hq => ?_)
  · exact t_X5_tryOrders_117 Z hr hlk hin hrec  h H locs ls hq hR hS (hl.sub [] rfl)
  refine xaln hx hb hl (x := l0) 0 rfl dX5_tryOrders_111 ?_
  refine xiln hx hb hl (x := l1) 1 rfl dX5_tryOrders_112 ?_
  refine xiln hx hb hl (x := l2) 2 rfl dX5_tryOrders_113 ?_
  refine xcV Z hR hS hl (rest := []) (As := [.int l1, .int l2]) hq cl_X5_84 (fun b x h1 hc => c_X5_keepOrder l b l1 l2 h x h1 hc) ⟨⟨rfl, rfl⟩, (by simp only [rmT]; omega), (by simp only [rmT]; omega)⟩ rfl rfl (by first | decide | (simp only [List.map_cons, List.map_nil, rf_cat, ct_int, ct_ref, List.sum_cons, List.sum_nil] <;> decide)) dX5_tryOrders_114 (by simp only [rmT]; omega) (fun u114 h H locs hq hR hS => ?_)
  exact t_X5_tryOrders_117 Z hr hlk hin hrec  h H locs ls hq hR hS (hl.sub [] rfl)
def fb_X5_tryOrders_14 (rec : Option Nat → Int32 → Int32 → Hp → Option (Unit × Hp))  (k14 : Option Nat × Int32 × Int32 × Int32 × Int32 × Hp → Option (Unit × Hp)) (l0 : Option Nat) (l1 : Int32) (l2 : Int32) (l3 : Int32) (l4 : Int32) (h : Hp) : Option (Unit × Hp) :=
gR h l0 6 0 (fun x17 =>
rcv h x17 2 (fun b20 => bd (f_X1_size b20 h) (fun x20 h =>
(if x20 ≤ l4 then
f_X5_tryOrders_107 rec l0 l1 l2 l3 h
else
(if 5 ≤ l1 then
f_X5_tryOrders_107 rec l0 l1 l2 l3 h
else
gR h l0 6 0 (fun x32 =>
gR h x32 2 0 (fun x35 =>
rcv h x35 0 (fun b40 => bd (f_Jx4a65c_get_915e3 b40 l4 h) (fun x40 h =>
ckc h x40 1 (
gR h l0 6 2 (fun x49 =>
ldZ h x49 l4 (fun x54 =>
(if x54 = 0 then
gI h l0 6 6 (fun x60 =>
(if l2 ≤ x60 then
f_X5_tryOrders_101 rec k14 l0 l1 l2 l3 l4 h
else
gR h l0 6 3 (fun x69 =>
stI h x69 l1 l4 (fun h =>
rcv h l0 6 (fun b79 => bd (f_X5_comeWithPartner b79 x40 h) (fun x79 h =>
bd (rec l0 (l1 + 1) (l2 - x79) h) (fun u92 h =>
rcv h l0 6 (fun b98 => bd (f_X5_takeBackWithPartner b98 x40 h) (fun u98 h =>
f_X5_tryOrders_101 rec k14 l0 l1 l2 0 l4 h)))))))))
else
f_X5_tryOrders_101 rec k14 l0 l1 l2 l3 l4 h)))))))))))))
set_option maxHeartbeats 4000000 in
set_option maxRecDepth 100000 in
theorem tb_X5_tryOrders_14 (Z : ZZ p s m args c cX5_tryOrders RX5 7 G) (hr : meth.sig.returnType = none) (hlk : meth.locks = false) (hin : meth.name = "tryOrders") {n : Nat} {rec : Option Nat → Int32 → Int32 → Hp → Option (Unit × Hp)} (hrec : ∀ (a0 : Option Nat) (a1 : Int32) (a2 : Int32) (h : Hp) (v : Unit) (h1 : Hp), rec a0 a1 a2 h = some (v, h1) → Met l yX5_tryOrders (Cond.code yX5_tryOrders cX5_tryOrders 7 none :: GT) (rmT n) (va_Pc [va_rf a0, .int a1, .int a2] (Cn G h)) (Qx G none h1) 0 0 (AA G)) {v : Unit} {h1 : Hp} {k14 : Option Nat × Int32 × Int32 × Int32 × Int32 × Hp → Option (Unit × Hp)} (hk14 : ∀ u : Option Nat × Int32 × Int32 × Int32 × Int32 × Hp, k14 u = some (v, h1) → ∀ (H : Heap) (locs : List Loc) (ls : Array Slot), Rep G u.2.2.2.2.2 H → va_S (AA G) s.heap H locs → LV ls 7 [(0, va_rf u.1), (1, .int u.2.1), (2, .int u.2.2.1), (3, .int u.2.2.2.1), (4, .int u.2.2.2.2.1)] → W p l e (rmT (n + 1)) s m args below meth c H locs 0 0 (MQ below (Qx G none h1) args s 0 0 (AA G)) (F0 m 14 ls [])) : ∀ (l0 : Option Nat) (l1 : Int32) (l2 : Int32) (l3 : Int32) (l4 : Int32) (h : Hp) (H : Heap) (locs : List Loc) (ls : Array Slot), fb_X5_tryOrders_14 rec k14 l0 l1 l2 l3 l4 h = some (v, h1) → Rep G h H → va_S (AA G) s.heap H locs → LV ls 7 [(0, va_rf l0), (1, .int l1), (2, .int l2), (3, .int l3), (4, .int l4)] → W p l e (rmT (n + 1)) s m args below meth c H locs 0 0 (MQ below (Qx G none h1) args s 0 0 (AA G)) (F0 m 14 ls []) := by
  intro l0 l1 l2 l3 l4 h H locs ls hq hR hS hl
  have hx := Z.1
  have hb := Z.2.1
  unfold fb_X5_tryOrders_14 at hq
  refine xil hx hb hl (x := l4) 4 rfl dX5_tryOrders_14 ?_
  refine xaln hx hb hl (x := l0) 0 rfl dX5_tryOrders_16 ?_
  refine xgR Z hR hq fl_X5_22 rfl dX5_tryOrders_17 (fun x17 hq => ?_)
  refine xcV Z hR hS hl (rest := [.int l4]) (As := []) hq cl_X5_65 (fun b x h1 hc => c_X1_size l b h x h1 hc) ⟨⟨rfl, rfl⟩, (by simp only [rmT]; omega), (by simp only [rmT]; omega)⟩ rfl rfl (by first | decide | (simp only [List.map_cons, List.map_nil, rf_cat, ct_int, ct_ref, List.sum_cons, List.sum_nil] <;> decide)) dX5_tryOrders_20 (by simp only [rmT]; omega) (fun x20 h H locs hq hR hS => ?_)
  refine xcGe hx hb hq (tgt := 107) dX5_tryOrders_23 (by decide) (fun hq => ?_) (fun hq => ?_)
  · exact t_X5_tryOrders_107 Z hr hlk hin hrec l0 l1 l2 l3 h H locs ls hq hR hS (hl.sub [0, 1, 2, 3] rfl)
  refine xiln hx hb hl (x := l1) 1 rfl dX5_tryOrders_26 ?_
  refine lv_iconst (v := 5) hx hb dX5_tryOrders_27 (by decide) ?_
  refine xcGe hx hb hq (tgt := 107) dX5_tryOrders_28 (by decide) (fun hq => ?_) (fun hq => ?_)
  · exact t_X5_tryOrders_107 Z hr hlk hin hrec l0 l1 l2 l3 h H locs ls hq hR hS (hl.sub [0, 1, 2, 3] rfl)
  refine xaln hx hb hl (x := l0) 0 rfl dX5_tryOrders_31 ?_
  refine xgR Z hR hq fl_X5_22 rfl dX5_tryOrders_32 (fun x32 hq => ?_)
  refine xgR Z hR hq fl_X5_66 rfl dX5_tryOrders_35 (fun x35 hq => ?_)
  refine xil hx hb hl (x := l4) 4 rfl dX5_tryOrders_38 ?_
  refine xcV Z hR hS hl (rest := []) (As := [.int l4]) hq cl_X5_45 (fun b x h1 hc => c_Jx4a65c_get_915e3 l b l4 h x h1 hc) ⟨⟨rfl, rfl⟩, (by simp only [rmT]; omega), (by simp only [rmT]; omega)⟩ rfl rfl (by first | decide | (simp only [List.map_cons, List.map_nil, rf_cat, ct_int, ct_ref, List.sum_cons, List.sum_nil] <;> decide)) dX5_tryOrders_40 (by simp only [rmT]; omega) (fun x40 h H locs hq hR hS => ?_)
  refine xck Z hR hq ck_X5_49 dX5_tryOrders_43 (fun hq => ?_)
  refine xas hx hb hl (x := x40) (lv' := [(5, va_rf x40), (0, va_rf l0), (1, .int l1), (2, .int l2), (3, .int l3), (4, .int l4)]) (by decide) dX5_tryOrders_46 rfl (fun ls hl => ?_)
  refine xaln hx hb hl (x := l0) 1 rfl dX5_tryOrders_48 ?_
  refine xgR Z hR hq fl_X5_9 rfl dX5_tryOrders_49 (fun x49 hq => ?_)
  refine xil hx hb hl (x := l4) 5 rfl dX5_tryOrders_52 ?_
  refine xaZ Z hR hq dX5_tryOrders_54 (fun x54 hq => ?_)
  refine xzNe hx hb hq (tgt := 101) dX5_tryOrders_55 (by decide) (fun hq => ?_) (fun hq => ?_)
  · exact t_X5_tryOrders_101 Z hr hlk hin hrec hk14 l0 l1 l2 l3 l4 h H locs ls hq hR hS (hl.sub [1, 2, 3, 4, 5] rfl)
  refine xiln hx hb hl (x := l2) 3 rfl dX5_tryOrders_58 ?_
  refine xaln hx hb hl (x := l0) 1 rfl dX5_tryOrders_59 ?_
  refine xgI Z hR hq fl_X5_59 rfl dX5_tryOrders_60 (fun x60 hq => ?_)
  refine xcLe hx hb hq (tgt := 101) dX5_tryOrders_63 (by decide) (fun hq => ?_) (fun hq => ?_)
  · exact t_X5_tryOrders_101 Z hr hlk hin hrec hk14 l0 l1 l2 l3 l4 h H locs ls hq hR hS (hl.sub [1, 2, 3, 4, 5] rfl)
  refine lv_iconst (v := 0) hx hb dX5_tryOrders_66 (by decide) ?_
  refine xisn hx hb hl (x := 0) (lv' := [(3, .int 0), (5, va_rf x40), (0, va_rf l0), (1, .int l1), (2, .int l2), (4, .int l4)]) (by decide) dX5_tryOrders_67 rfl (fun ls hl => ?_)
  refine xaln hx hb hl (x := l0) 2 rfl dX5_tryOrders_68 ?_
  refine xgR Z hR hq fl_X5_15 rfl dX5_tryOrders_69 (fun x69 hq => ?_)
  refine xiln hx hb hl (x := l1) 3 rfl dX5_tryOrders_72 ?_
  refine xil hx hb hl (x := l4) 5 rfl dX5_tryOrders_73 ?_
  refine xsI Z hR hS hq dX5_tryOrders_75 (fun h H locs hq hR hS => ?_)
  refine xaln hx hb hl (x := l0) 2 rfl dX5_tryOrders_76 ?_
  refine xal hx hb hl (x := x40) 1 rfl dX5_tryOrders_77 ?_
  refine xcV Z hR hS hl (rest := []) (As := [va_rf x40]) hq cl_X5_55 (fun b x h1 hc => c_X5_comeWithPartner l b x40 h x h1 hc) ⟨⟨rfl, rfl⟩, (by simp only [rmT]; omega), (by simp only [rmT]; omega)⟩ rfl rfl (by first | decide | (simp only [List.map_cons, List.map_nil, rf_cat, ct_int, ct_ref, List.sum_cons, List.sum_nil] <;> decide)) dX5_tryOrders_79 (by simp only [rmT]; omega) (fun x79 h H locs hq hR hS => ?_)
  refine xis hx hb hl (x := x79) (lv' := [(6, .int x79), (3, .int 0), (5, va_rf x40), (0, va_rf l0), (1, .int l1), (2, .int l2), (4, .int l4)]) (by decide) dX5_tryOrders_82 rfl (fun ls hl => ?_)
  refine xaln hx hb hl (x := l0) 3 rfl dX5_tryOrders_84 ?_
  refine xiln hx hb hl (x := l1) 4 rfl dX5_tryOrders_85 ?_
  refine lv_iconst (v := 1) hx hb dX5_tryOrders_86 (by decide) ?_
  refine lv_iadd hx hb dX5_tryOrders_87 ?_
  refine xiln hx hb hl (x := l2) 5 rfl dX5_tryOrders_88 ?_
  refine xil hx hb hl (x := x79) 0 rfl dX5_tryOrders_89 ?_
  refine lv_isub hx hb dX5_tryOrders_91 ?_
  refine xcS Z hR hS hl (rest := []) (As := [va_rf l0, .int (l1 + 1), .int (l2 - x79)]) hq cl_X5_72 (fun x h1 hc => hrec l0 (l1 + 1) (l2 - x79) h x h1 hc) ⟨⟨rfl, rfl⟩, (by simp only [rmT]; omega), (by simp only [rmT]; omega)⟩ rfl rfl (by first | decide | (simp only [List.map_cons, List.map_nil, rf_cat, ct_int, ct_ref, List.sum_cons, List.sum_nil] <;> decide)) dX5_tryOrders_92 (by simp only [rmT]; omega) (fun u92 h H locs hq hR hS => ?_)
  refine xaln hx hb hl (x := l0) 3 rfl dX5_tryOrders_95 ?_
  refine xal hx hb hl (x := x40) 2 rfl dX5_tryOrders_96 ?_
  refine xcV Z hR hS hl (rest := []) (As := [va_rf x40]) hq cl_X5_80 (fun b x h1 hc => c_X5_takeBackWithPartner l b x40 h x h1 hc) ⟨⟨rfl, rfl⟩, (by simp only [rmT]; omega), (by simp only [rmT]; omega)⟩ rfl rfl (by first | decide | (simp only [List.map_cons, List.map_nil, rf_cat, ct_int, ct_ref, List.sum_cons, List.sum_nil] <;> decide)) dX5_tryOrders_98 (by simp only [rmT]; omega) (fun u98 h H locs hq hR hS => ?_)
  exact t_X5_tryOrders_101 Z hr hlk hin hrec hk14 l0 l1 l2 0 l4 h H locs ls hq hR hS (hl.sub [3, 4, 5, 1, 6] rfl)
def f_X5_tryOrders_14 (rec : Option Nat → Int32 → Int32 → Hp → Option (Unit × Hp))  (l0 : Option Nat) (l1 : Int32) (l2 : Int32) (l3 : Int32) (l4 : Int32) (h : Hp) : Option (Unit × Hp) :=
  lp (fun (k14 : Option Nat × Int32 × Int32 × Int32 × Int32 × Hp → Option (Unit × Hp)) (u : Option Nat × Int32 × Int32 × Int32 × Int32 × Hp) => fb_X5_tryOrders_14 rec k14 u.1 u.2.1 u.2.2.1 u.2.2.2.1 u.2.2.2.2.1 u.2.2.2.2.2) FU (l0, l1, l2, l3, l4, h)
theorem t_X5_tryOrders_14 (Z : ZZ p s m args c cX5_tryOrders RX5 7 G) (hr : meth.sig.returnType = none) (hlk : meth.locks = false) (hin : meth.name = "tryOrders") {n : Nat} {rec : Option Nat → Int32 → Int32 → Hp → Option (Unit × Hp)} (hrec : ∀ (a0 : Option Nat) (a1 : Int32) (a2 : Int32) (h : Hp) (v : Unit) (h1 : Hp), rec a0 a1 a2 h = some (v, h1) → Met l yX5_tryOrders (Cond.code yX5_tryOrders cX5_tryOrders 7 none :: GT) (rmT n) (va_Pc [va_rf a0, .int a1, .int a2] (Cn G h)) (Qx G none h1) 0 0 (AA G)) {v : Unit} {h1 : Hp} : ∀ (l0 : Option Nat) (l1 : Int32) (l2 : Int32) (l3 : Int32) (l4 : Int32) (h : Hp) (H : Heap) (locs : List Loc) (ls : Array Slot), f_X5_tryOrders_14 rec l0 l1 l2 l3 l4 h = some (v, h1) → Rep G h H → va_S (AA G) s.heap H locs → LV ls 7 [(0, va_rf l0), (1, .int l1), (2, .int l2), (3, .int l3), (4, .int l4)] → W p l e (rmT (n + 1)) s m args below meth c H locs 0 0 (MQ below (Qx G none h1) args s 0 0 (AA G)) (F0 m 14 ls []) := by
  intro l0 l1 l2 l3 l4 h H locs ls hq hR hS hl
  exact lp_ind (P := fun u : Option Nat × Int32 × Int32 × Int32 × Int32 × Hp => ∀ (H : Heap) (locs : List Loc) (ls : Array Slot), Rep G u.2.2.2.2.2 H → va_S (AA G) s.heap H locs → LV ls 7 [(0, va_rf u.1), (1, .int u.2.1), (2, .int u.2.2.1), (3, .int u.2.2.2.1), (4, .int u.2.2.2.2.1)] → W p l e (rmT (n + 1)) s m args below meth c H locs 0 0 (MQ below (Qx G none h1) args s 0 0 (AA G)) (F0 m 14 ls [])) (fun k hk u hq H locs ls hR hS hl => tb_X5_tryOrders_14 Z hr hlk hin hrec hk u.1 u.2.1 u.2.2.1 u.2.2.2.1 u.2.2.2.2.1 u.2.2.2.2.2 H locs ls hq hR hS hl) FU (l0, l1, l2, l3, l4, h) hq H locs ls hR hS hl
def g_X5_tryOrders (rec : Option Nat → Int32 → Int32 → Hp → Option (Unit × Hp)) (a0 : Option Nat) (a1 : Int32) (a2 : Int32) (h : Hp) : Option (Unit × Hp) :=
gI h a0 6 6 (fun x2 =>
(if x2 < a2 then
f_X5_tryOrders_14 rec a0 a1 a2 1 0 h
else
rtV h))
def f_X5_tryOrders : Nat → Option Nat → Int32 → Int32 → Hp → Option (Unit × Hp)
  | 0, _, _, _, _ => none
  | n + 1, a0, a1, a2, h => g_X5_tryOrders (f_X5_tryOrders n) a0 a1 a2 h
set_option maxHeartbeats 4000000 in
set_option maxRecDepth 100000 in
theorem cg_X5_tryOrders (l : Launch) {G : GG} {n : Nat} {rec : Option Nat → Int32 → Int32 → Hp → Option (Unit × Hp)} (hrec : ∀ (a0 : Option Nat) (a1 : Int32) (a2 : Int32) (h : Hp) (v : Unit) (h1 : Hp), rec a0 a1 a2 h = some (v, h1) → Met l yX5_tryOrders (Cond.code yX5_tryOrders cX5_tryOrders 7 none :: GT) (rmT n) (va_Pc [va_rf a0, .int a1, .int a2] (Cn G h)) (Qx G none h1) 0 0 (AA G)) (a0 : Option Nat) (a1 : Int32) (a2 : Int32) (h : Hp) (v : Unit) (h1 : Hp) (hq : g_X5_tryOrders rec a0 a1 a2 h = some (v, h1)) : Met l yX5_tryOrders (Cond.code yX5_tryOrders cX5_tryOrders 7 none :: GT) (rmT (n + 1)) (va_Pc [va_rf a0, .int a1, .int a2] (Cn G h)) (Qx G none h1) 0 0 (AA G) := by
  refine xMet (cc := cX5_tryOrders) (by decide) (Nat.le_of_ble_eq_true rfl) (List.forall_mem_cons.mpr ⟨(rf_cat a0), (List.forall_mem_cons.mpr ⟨rfl, (List.forall_mem_cons.mpr ⟨rfl, (fun _ z => by cases z)⟩)⟩)⟩) ?_
  intro p e s m below meth c ls Z hr hlk hin hR hS hl
  have hx := Z.1
  have hb := Z.2.1
  have hl : LV ls 7 [(0, va_rf a0), (1, .int a1), (2, .int a2)] := hl
  unfold g_X5_tryOrders at hq
  refine xiln hx hb hl (x := a2) 2 rfl dX5_tryOrders_0 ?_
  refine xaln hx hb hl (x := a0) 0 rfl dX5_tryOrders_1 ?_
  refine xgI Z hR hq fl_X5_59 rfl dX5_tryOrders_2 (fun x2 hq => ?_)
  refine xcGt hx hb hq (tgt := 9) dX5_tryOrders_5 (by decide) (fun hq => ?_) (fun hq => ?_)
  · refine lv_iconst (v := 1) hx hb dX5_tryOrders_9 (by decide) ?_
    refine xisn hx hb hl (x := 1) (lv' := [(3, .int 1), (0, va_rf a0), (1, .int a1), (2, .int a2)]) (by decide) dX5_tryOrders_10 rfl (fun ls hl => ?_)
    refine lv_iconst (v := 0) hx hb dX5_tryOrders_11 (by decide) ?_
    refine xis hx hb hl (x := 0) (lv' := [(4, .int 0), (3, .int 1), (0, va_rf a0), (1, .int a1), (2, .int a2)]) (by decide) dX5_tryOrders_12 rfl (fun ls hl => ?_)
    exact t_X5_tryOrders_14 Z hr hlk hin hrec a0 a1 a2 1 0 h _ _ ls hq hR hS (hl.sub [2, 3, 4, 1, 0] rfl)
  exact xrV hx hb hr hlk hR hS hq (by decide) (by decide) dX5_tryOrders_8
theorem c_X5_tryOrders (l : Launch) {G : GG} : ∀ (n : Nat), ∀ (a0 : Option Nat) (a1 : Int32) (a2 : Int32) (h : Hp) (v : Unit) (h1 : Hp), f_X5_tryOrders n a0 a1 a2 h = some (v, h1) → Met l yX5_tryOrders (Cond.code yX5_tryOrders cX5_tryOrders 7 none :: GT) (rmT n) (va_Pc [va_rf a0, .int a1, .int a2] (Cn G h)) (Qx G none h1) 0 0 (AA G)
  | 0, a0, a1, a2, h, v, h1, hq => by cases hq
  | n + 1, a0, a1, a2, h, v, h1, hq => cg_X5_tryOrders l (c_X5_tryOrders l n) a0 a1 a2 h v h1 hq
abbrev rm_X5_comeByBestOrder : Room := { frames := 14, cells := 0, slots := 0, locals := 445 }
def f_X5_comeByBestOrder_99  (k67 : Option Nat × Int32 × Hp → Option (Unit × Hp)) (l0 : Option Nat) (l2 : Int32) (h : Hp) : Option (Unit × Hp) :=
k67 (l0, (l2 + 1), h)
set_option maxHeartbeats 4000000 in
set_option maxRecDepth 100000 in
theorem t_X5_comeByBestOrder_99 (Z : ZZ p s m args c cX5_comeByBestOrder RX5 4 G) (hr : meth.sig.returnType = none) (hlk : meth.locks = false) (hin : meth.name = "comeByBestOrder") {v : Unit} {h1 : Hp} {k67 : Option Nat × Int32 × Hp → Option (Unit × Hp)} (hk67 : ∀ u : Option Nat × Int32 × Hp, k67 u = some (v, h1) → ∀ (H : Heap) (locs : List Loc) (ls : Array Slot), Rep G u.2.2 H → va_S (AA G) s.heap H locs → LV ls 4 [(0, va_rf u.1), (2, .int u.2.1)] → W p l e rm_X5_comeByBestOrder s m args below meth c H locs 0 0 (MQ below (Qx G none h1) args s 0 0 (AA G)) (F0 m 67 ls [])) : ∀ (l0 : Option Nat) (l2 : Int32) (h : Hp) (H : Heap) (locs : List Loc) (ls : Array Slot), f_X5_comeByBestOrder_99 k67 l0 l2 h = some (v, h1) → Rep G h H → va_S (AA G) s.heap H locs → LV ls 4 [(0, va_rf l0), (2, .int l2)] → W p l e rm_X5_comeByBestOrder s m args below meth c H locs 0 0 (MQ below (Qx G none h1) args s 0 0 (AA G)) (F0 m 99 ls []) := by
  intro l0 l2 h H locs ls hq hR hS hl
  have hx := Z.1
  have hb := Z.2.1
  unfold f_X5_comeByBestOrder_99 at hq
  refine xinc hx hb hl (x := l2) (v := (l2 + 1)) (lv' := [(2, .int (l2 + 1)), (0, va_rf l0)]) 1 rfl (by rw [show Int32.ofInt (1) = (1 : Int32) from by decide]) (by decide) dX5_comeByBestOrder_99 rfl (fun ls hl => ?_)
  refine lv_goto (tgt := 67) hx hb dX5_comeByBestOrder_102 (by decide) ?_
  exact hk67 (l0, (l2 + 1), h) hq H locs ls hR hS (hl.sub [1, 0] rfl)
def fb_X5_comeByBestOrder_67  (k67 : Option Nat × Int32 × Hp → Option (Unit × Hp)) (l0 : Option Nat) (l2 : Int32) (h : Hp) : Option (Unit × Hp) :=
gI h l0 6 5 (fun x69 =>
(if x69 ≤ l2 then
rtV h
else
gR h l0 6 0 (fun x76 =>
gR h l0 6 4 (fun x80 =>
ldI h x80 l2 (fun x84 =>
rcv h x76 2 (fun b85 => bd (f_X1_at b85 x84 h) (fun x85 h =>
(if x85 = none then
f_X5_comeByBestOrder_99 k67 l0 l2 h
else
rcv h l0 6 (fun b95 => bd (f_X5_comeWithPartner b95 x85 h) (fun x95 h =>
f_X5_comeByBestOrder_99 k67 l0 l2 h))))))))))
set_option maxHeartbeats 4000000 in
set_option maxRecDepth 100000 in
theorem tb_X5_comeByBestOrder_67 (Z : ZZ p s m args c cX5_comeByBestOrder RX5 4 G) (hr : meth.sig.returnType = none) (hlk : meth.locks = false) (hin : meth.name = "comeByBestOrder") {v : Unit} {h1 : Hp} {k67 : Option Nat × Int32 × Hp → Option (Unit × Hp)} (hk67 : ∀ u : Option Nat × Int32 × Hp, k67 u = some (v, h1) → ∀ (H : Heap) (locs : List Loc) (ls : Array Slot), Rep G u.2.2 H → va_S (AA G) s.heap H locs → LV ls 4 [(0, va_rf u.1), (2, .int u.2.1)] → W p l e rm_X5_comeByBestOrder s m args below meth c H locs 0 0 (MQ below (Qx G none h1) args s 0 0 (AA G)) (F0 m 67 ls [])) : ∀ (l0 : Option Nat) (l2 : Int32) (h : Hp) (H : Heap) (locs : List Loc) (ls : Array Slot), fb_X5_comeByBestOrder_67 k67 l0 l2 h = some (v, h1) → Rep G h H → va_S (AA G) s.heap H locs → LV ls 4 [(0, va_rf l0), (2, .int l2)] → W p l e rm_X5_comeByBestOrder s m args below meth c H locs 0 0 (MQ below (Qx G none h1) args s 0 0 (AA G)) (F0 m 67 ls []) := by
  intro l0 l2 h H locs ls hq hR hS hl
  have hx := Z.1
  have hb := Z.2.1
  unfold fb_X5_comeByBestOrder_67 at hq
  refine xiln hx hb hl (x := l2) 1 rfl dX5_comeByBestOrder_67 ?_
  refine xaln hx hb hl (x := l0) 0 rfl dX5_comeByBestOrder_68 ?_
  refine xgI Z hR hq fl_X5_62 rfl dX5_comeByBestOrder_69 (fun x69 hq => ?_)
  refine xcGe hx hb hq (tgt := 105) dX5_comeByBestOrder_72 (by decide) (fun hq => ?_) (fun hq => ?_)
  · exact xrV hx hb hr hlk hR hS hq (by decide) (by decide) dX5_comeByBestOrder_105
  refine xaln hx hb hl (x := l0) 0 rfl dX5_comeByBestOrder_75 ?_
  refine xgR Z hR hq fl_X5_22 rfl dX5_comeByBestOrder_76 (fun x76 hq => ?_)
  refine xaln hx hb hl (x := l0) 0 rfl dX5_comeByBestOrder_79 ?_
  refine xgR Z hR hq fl_X5_19 rfl dX5_comeByBestOrder_80 (fun x80 hq => ?_)
  refine xiln hx hb hl (x := l2) 1 rfl dX5_comeByBestOrder_83 ?_
  refine xaI Z hR hq dX5_comeByBestOrder_84 (fun x84 hq => ?_)
  refine xcV Z hR hS hl (rest := []) (As := [.int x84]) hq cl_X5_76 (fun b x h1 hc => c_X1_at l b x84 h x h1 hc) ⟨⟨rfl, rfl⟩, (by decide), (by decide)⟩ rfl rfl (by first | decide | (simp only [List.map_cons, List.map_nil, rf_cat, ct_int, ct_ref, List.sum_cons, List.sum_nil] <;> decide)) dX5_comeByBestOrder_85 (by decide) (fun x85 h H locs hq hR hS => ?_)
  refine xasn hx hb hl (x := x85) (lv' := [(3, va_rf x85), (0, va_rf l0), (2, .int l2)]) (by decide) dX5_comeByBestOrder_88 rfl (fun ls hl => ?_)
  refine xaln hx hb hl (x := x85) 0 rfl dX5_comeByBestOrder_89 ?_
  refine xnul hx hb hq (tgt := 99) dX5_comeByBestOrder_90 (by decide) (fun hq => ?_) (fun hq => ?_)
  · exact t_X5_comeByBestOrder_99 Z hr hlk hin hk67 l0 l2 h H locs ls hq hR hS (hl.sub [1, 2] rfl)
  refine xaln hx hb hl (x := l0) 1 rfl dX5_comeByBestOrder_93 ?_
  refine xaln hx hb hl (x := x85) 0 rfl dX5_comeByBestOrder_94 ?_
  refine xcV Z hR hS hl (rest := []) (As := [va_rf x85]) hq cl_X5_55 (fun b x h1 hc => c_X5_comeWithPartner l b x85 h x h1 hc) ⟨⟨rfl, rfl⟩, (by decide), (by decide)⟩ rfl rfl (by first | decide | (simp only [List.map_cons, List.map_nil, rf_cat, ct_int, ct_ref, List.sum_cons, List.sum_nil] <;> decide)) dX5_comeByBestOrder_95 (by decide) (fun x95 h H locs hq hR hS => ?_)
  refine lv_pop hx hb dX5_comeByBestOrder_98 rfl ?_
  exact t_X5_comeByBestOrder_99 Z hr hlk hin hk67 l0 l2 h H locs ls hq hR hS (hl.sub [1, 2] rfl)
def f_X5_comeByBestOrder_67  (l0 : Option Nat) (l2 : Int32) (h : Hp) : Option (Unit × Hp) :=
  lp (fun (k67 : Option Nat × Int32 × Hp → Option (Unit × Hp)) (u : Option Nat × Int32 × Hp) => fb_X5_comeByBestOrder_67 k67 u.1 u.2.1 u.2.2) FU (l0, l2, h)
theorem t_X5_comeByBestOrder_67 (Z : ZZ p s m args c cX5_comeByBestOrder RX5 4 G) (hr : meth.sig.returnType = none) (hlk : meth.locks = false) (hin : meth.name = "comeByBestOrder") {v : Unit} {h1 : Hp} : ∀ (l0 : Option Nat) (l2 : Int32) (h : Hp) (H : Heap) (locs : List Loc) (ls : Array Slot), f_X5_comeByBestOrder_67 l0 l2 h = some (v, h1) → Rep G h H → va_S (AA G) s.heap H locs → LV ls 4 [(0, va_rf l0), (2, .int l2)] → W p l e rm_X5_comeByBestOrder s m args below meth c H locs 0 0 (MQ below (Qx G none h1) args s 0 0 (AA G)) (F0 m 67 ls []) := by
  intro l0 l2 h H locs ls hq hR hS hl
  exact lp_ind (P := fun u : Option Nat × Int32 × Hp => ∀ (H : Heap) (locs : List Loc) (ls : Array Slot), Rep G u.2.2 H → va_S (AA G) s.heap H locs → LV ls 4 [(0, va_rf u.1), (2, .int u.2.1)] → W p l e rm_X5_comeByBestOrder s m args below meth c H locs 0 0 (MQ below (Qx G none h1) args s 0 0 (AA G)) (F0 m 67 ls [])) (fun k hk u hq H locs ls hR hS hl => tb_X5_comeByBestOrder_67 Z hr hlk hin hk u.1 u.2.1 u.2.2 H locs ls hq hR hS hl) FU (l0, l2, h) hq H locs ls hR hS hl
def fb_X5_comeByBestOrder_18  (k18 : Option Nat × Int32 × Int32 × Hp → Option (Unit × Hp)) (l0 : Option Nat) (l1 : Int32) (l2 : Int32) (h : Hp) : Option (Unit × Hp) :=
gR h l0 6 0 (fun x20 =>
rcv h x20 2 (fun b23 => bd (f_X1_size b23 h) (fun x23 h =>
(if x23 ≤ l2 then
bd (f_X5_tryOrders 7 l0 0 l1 h) (fun u58 h =>
rcv h l0 6 (fun b62 => bd (f_X5_startAnew b62 h) (fun u62 h =>
f_X5_comeByBestOrder_67 l0 0 h)))
else
gR h l0 6 0 (fun x31 =>
gR h x31 2 0 (fun x34 =>
rcv h x34 0 (fun b38 => bd (f_Jx4a65c_get_915e3 b38 l2 h) (fun x38 h =>
ckc h x38 1 (
gI h x38 1 7 (fun x44 =>
k18 (l0, (l1 + x44), (l2 + 1), h)))))))))))
set_option maxHeartbeats 4000000 in
set_option maxRecDepth 100000 in
theorem tb_X5_comeByBestOrder_18 (Z : ZZ p s m args c cX5_comeByBestOrder RX5 4 G) (hr : meth.sig.returnType = none) (hlk : meth.locks = false) (hin : meth.name = "comeByBestOrder") {v : Unit} {h1 : Hp} {k18 : Option Nat × Int32 × Int32 × Hp → Option (Unit × Hp)} (hk18 : ∀ u : Option Nat × Int32 × Int32 × Hp, k18 u = some (v, h1) → ∀ (H : Heap) (locs : List Loc) (ls : Array Slot), Rep G u.2.2.2 H → va_S (AA G) s.heap H locs → LV ls 4 [(0, va_rf u.1), (1, .int u.2.1), (2, .int u.2.2.1)] → W p l e rm_X5_comeByBestOrder s m args below meth c H locs 0 0 (MQ below (Qx G none h1) args s 0 0 (AA G)) (F0 m 18 ls [])) : ∀ (l0 : Option Nat) (l1 : Int32) (l2 : Int32) (h : Hp) (H : Heap) (locs : List Loc) (ls : Array Slot), fb_X5_comeByBestOrder_18 k18 l0 l1 l2 h = some (v, h1) → Rep G h H → va_S (AA G) s.heap H locs → LV ls 4 [(0, va_rf l0), (1, .int l1), (2, .int l2)] → W p l e rm_X5_comeByBestOrder s m args below meth c H locs 0 0 (MQ below (Qx G none h1) args s 0 0 (AA G)) (F0 m 18 ls []) := by
  intro l0 l1 l2 h H locs ls hq hR hS hl
  have hx := Z.1
  have hb := Z.2.1
  unfold fb_X5_comeByBestOrder_18 at hq
  refine xiln hx hb hl (x := l2) 2 rfl dX5_comeByBestOrder_18 ?_
  refine xaln hx hb hl (x := l0) 0 rfl dX5_comeByBestOrder_19 ?_
  refine xgR Z hR hq fl_X5_22 rfl dX5_comeByBestOrder_20 (fun x20 hq => ?_)
  refine xcV Z hR hS hl (rest := [.int l2]) (As := []) hq cl_X5_65 (fun b x h1 hc => c_X1_size l b h x h1 hc) ⟨⟨rfl, rfl⟩, (by decide), (by decide)⟩ rfl rfl (by first | decide | (simp only [List.map_cons, List.map_nil, rf_cat, ct_int, ct_ref, List.sum_cons, List.sum_nil] <;> decide)) dX5_comeByBestOrder_23 (by decide) (fun x23 h H locs hq hR hS => ?_)
  refine xcGe hx hb hq (tgt := 55) dX5_comeByBestOrder_26 (by decide) (fun hq => ?_) (fun hq => ?_)
  · refine xaln hx hb hl (x := l0) 0 rfl dX5_comeByBestOrder_55 ?_
    refine lv_iconst (v := 0) hx hb dX5_comeByBestOrder_56 (by decide) ?_
    refine xiln hx hb hl (x := l1) 1 rfl dX5_comeByBestOrder_57 ?_
    refine xcS Z hR hS hl (rest := []) (As := [va_rf l0, .int 0, .int l1]) hq cl_X5_72 (fun x h1 hc => c_X5_tryOrders l 7 l0 0 l1 h x h1 hc) ⟨⟨rfl, rfl⟩, (by decide), (by decide)⟩ rfl rfl (by first | decide | (simp only [List.map_cons, List.map_nil, rf_cat, ct_int, ct_ref, List.sum_cons, List.sum_nil] <;> decide)) dX5_comeByBestOrder_58 (by decide) (fun u58 h H locs hq hR hS => ?_)
    refine xaln hx hb hl (x := l0) 0 rfl dX5_comeByBestOrder_61 ?_
    refine xcV Z hR hS hl (rest := []) (As := []) hq cl_X5_30 (fun b x h1 hc => c_X5_startAnew l b h x h1 hc) ⟨⟨rfl, rfl⟩, (by decide), (by decide)⟩ rfl rfl (by first | decide | (simp only [List.map_cons, List.map_nil, rf_cat, ct_int, ct_ref, List.sum_cons, List.sum_nil] <;> decide)) dX5_comeByBestOrder_62 (by decide) (fun u62 h H locs hq hR hS => ?_)
    refine lv_iconst (v := 0) hx hb dX5_comeByBestOrder_65 (by decide) ?_
    refine xisn hx hb hl (x := 0) (lv' := [(2, .int 0), (0, va_rf l0), (1, .int l1)]) (by decide) dX5_comeByBestOrder_66 rfl (fun ls hl => ?_)
    exact t_X5_comeByBestOrder_67 Z hr hlk hin l0 0 h H locs ls hq hR hS (hl.sub [1, 0] rfl)
  refine xiln hx hb hl (x := l1) 1 rfl dX5_comeByBestOrder_29 ?_
  refine xaln hx hb hl (x := l0) 0 rfl dX5_comeByBestOrder_30 ?_
  refine xgR Z hR hq fl_X5_22 rfl dX5_comeByBestOrder_31 (fun x31 hq => ?_)
  refine xgR Z hR hq fl_X5_66 rfl dX5_comeByBestOrder_34 (fun x34 hq => ?_)
  refine xiln hx hb hl (x := l2) 2 rfl dX5_comeByBestOrder_37 ?_
  refine xcV Z hR hS hl (rest := [.int l1]) (As := [.int l2]) hq cl_X5_45 (fun b x h1 hc => c_Jx4a65c_get_915e3 l b l2 h x h1 hc) ⟨⟨rfl, rfl⟩, (by decide), (by decide)⟩ rfl rfl (by first | decide | (simp only [List.map_cons, List.map_nil, rf_cat, ct_int, ct_ref, List.sum_cons, List.sum_nil] <;> decide)) dX5_comeByBestOrder_38 (by decide) (fun x38 h H locs hq hR hS => ?_)
  refine xck Z hR hq ck_X5_49 dX5_comeByBestOrder_41 (fun hq => ?_)
  refine xgI Z hR hq fl_X5_69 rfl dX5_comeByBestOrder_44 (fun x44 hq => ?_)
  refine lv_iadd hx hb dX5_comeByBestOrder_47 ?_
  refine xisn hx hb hl (x := (l1 + x44)) (lv' := [(1, .int (l1 + x44)), (0, va_rf l0), (2, .int l2)]) (by decide) dX5_comeByBestOrder_48 rfl (fun ls hl => ?_)
  refine xinc hx hb hl (x := l2) (v := (l2 + 1)) (lv' := [(2, .int (l2 + 1)), (1, .int (l1 + x44)), (0, va_rf l0)]) 2 rfl (by rw [show Int32.ofInt (1) = (1 : Int32) from by decide]) (by decide) dX5_comeByBestOrder_49 rfl (fun ls hl => ?_)
  refine lv_goto (tgt := 18) hx hb dX5_comeByBestOrder_52 (by decide) ?_
  exact hk18 (l0, (l1 + x44), (l2 + 1), h) hq H locs ls hR hS (hl.sub [2, 1, 0] rfl)
def f_X5_comeByBestOrder_18  (l0 : Option Nat) (l1 : Int32) (l2 : Int32) (h : Hp) : Option (Unit × Hp) :=
  lp (fun (k18 : Option Nat × Int32 × Int32 × Hp → Option (Unit × Hp)) (u : Option Nat × Int32 × Int32 × Hp) => fb_X5_comeByBestOrder_18 k18 u.1 u.2.1 u.2.2.1 u.2.2.2) FU (l0, l1, l2, h)
theorem t_X5_comeByBestOrder_18 (Z : ZZ p s m args c cX5_comeByBestOrder RX5 4 G) (hr : meth.sig.returnType = none) (hlk : meth.locks = false) (hin : meth.name = "comeByBestOrder") {v : Unit} {h1 : Hp} : ∀ (l0 : Option Nat) (l1 : Int32) (l2 : Int32) (h : Hp) (H : Heap) (locs : List Loc) (ls : Array Slot), f_X5_comeByBestOrder_18 l0 l1 l2 h = some (v, h1) → Rep G h H → va_S (AA G) s.heap H locs → LV ls 4 [(0, va_rf l0), (1, .int l1), (2, .int l2)] → W p l e rm_X5_comeByBestOrder s m args below meth c H locs 0 0 (MQ below (Qx G none h1) args s 0 0 (AA G)) (F0 m 18 ls []) := by
  intro l0 l1 l2 h H locs ls hq hR hS hl
  exact lp_ind (P := fun u : Option Nat × Int32 × Int32 × Hp => ∀ (H : Heap) (locs : List Loc) (ls : Array Slot), Rep G u.2.2.2 H → va_S (AA G) s.heap H locs → LV ls 4 [(0, va_rf u.1), (1, .int u.2.1), (2, .int u.2.2.1)] → W p l e rm_X5_comeByBestOrder s m args below meth c H locs 0 0 (MQ below (Qx G none h1) args s 0 0 (AA G)) (F0 m 18 ls [])) (fun k hk u hq H locs ls hR hS hl => tb_X5_comeByBestOrder_18 Z hr hlk hin hk u.1 u.2.1 u.2.2.1 u.2.2.2 H locs ls hq hR hS hl) FU (l0, l1, l2, h) hq H locs ls hR hS hl
def f_X5_comeByBestOrder (this : Nat) (h : Hp) : Option (Unit × Hp) :=
rcv h (some this) 6 (fun b1 => bd (f_X5_startAnew b1 h) (fun u1 h =>
pI h (some this) 6 6 (-1) (fun h =>
pI h (some this) 6 5 0 (fun h =>
f_X5_comeByBestOrder_18 (some this) 0 0 h))))
set_option maxHeartbeats 4000000 in
set_option maxRecDepth 100000 in
theorem c_X5_comeByBestOrder (l : Launch) {G : GG} (this : Nat) (h : Hp) (v : Unit) (h1 : Hp) (hq : f_X5_comeByBestOrder this h = some (v, h1)) : Met l yX5_comeByBestOrder (Cond.code yX5_comeByBestOrder cX5_comeByBestOrder 4 none :: GT) rm_X5_comeByBestOrder (va_Pc [.ref this] (Cn G h)) (Qx G none h1) 0 0 (AA G) := by
  refine xMet (cc := cX5_comeByBestOrder) (by decide) (Nat.le_of_ble_eq_true rfl) (List.forall_mem_cons.mpr ⟨rfl, (fun _ z => by cases z)⟩) ?_
  intro p e s m below meth c ls Z hr hlk hin hR hS hl
  have hx := Z.1
  have hb := Z.2.1
  have hl : LV ls 4 [(0, va_rf (some this))] := hl
  unfold f_X5_comeByBestOrder at hq
  refine xaln hx hb hl (x := (some this)) 0 rfl dX5_comeByBestOrder_0 ?_
  refine xcV Z hR hS hl (rest := []) (As := []) hq cl_X5_30 (fun b x h1 hc => c_X5_startAnew l b h x h1 hc) ⟨⟨rfl, rfl⟩, (by decide), (by decide)⟩ rfl rfl (by first | decide | (simp only [List.map_cons, List.map_nil, rf_cat, ct_int, ct_ref, List.sum_cons, List.sum_nil] <;> decide)) dX5_comeByBestOrder_1 (by decide) (fun u1 h H locs hq hR hS => ?_)
  refine xaln hx hb hl (x := (some this)) 0 rfl dX5_comeByBestOrder_4 ?_
  refine lv_iconst (v := (-1)) hx hb dX5_comeByBestOrder_5 (by decide) ?_
  refine xpI Z hR hS hq fl_X5_59 rfl (Or.inl nf_6_6) dX5_comeByBestOrder_6 (fun h H locs hq hR hS => ?_)
  refine xaln hx hb hl (x := (some this)) 0 rfl dX5_comeByBestOrder_9 ?_
  refine lv_iconst (v := 0) hx hb dX5_comeByBestOrder_10 (by decide) ?_
  refine xpI Z hR hS hq fl_X5_62 rfl (Or.inl nf_6_5) dX5_comeByBestOrder_11 (fun h H locs hq hR hS => ?_)
  refine lv_iconst (v := 0) hx hb dX5_comeByBestOrder_14 (by decide) ?_
  refine xisn hx hb hl (x := 0) (lv' := [(1, .int 0), (0, va_rf (some this))]) (by decide) dX5_comeByBestOrder_15 rfl (fun ls hl => ?_)
  refine lv_iconst (v := 0) hx hb dX5_comeByBestOrder_16 (by decide) ?_
  refine xisn hx hb hl (x := 0) (lv' := [(2, .int 0), (1, .int 0), (0, va_rf (some this))]) (by decide) dX5_comeByBestOrder_17 rfl (fun ls hl => ?_)
  exact t_X5_comeByBestOrder_18 Z hr hlk hin (some this) 0 0 h _ _ ls hq hR hS (hl.sub [2, 1, 0] rfl)
end
