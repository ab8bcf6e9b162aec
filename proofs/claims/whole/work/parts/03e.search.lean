theorem fl_X4_9 : FL RX4 9 5 2 := ⟨_, TX4, 7, "FreightPaths$PathSearch", rfl, by decide, by decide +kernel, Or.inl rfl⟩
theorem fl_X4_15 : FL RX4 15 5 3 := ⟨_, TX4, 7, "FreightPaths$PathSearch", rfl, by decide, by decide +kernel, Or.inl rfl⟩
theorem fl_X4_18 : FL RX4 18 5 4 := ⟨_, TX4, 7, "FreightPaths$PathSearch", rfl, by decide, by decide +kernel, Or.inl rfl⟩
theorem fl_X4_22 : FL RX4 22 5 5 := ⟨_, TX4, 7, "FreightPaths$PathSearch", rfl, by decide, by decide +kernel, Or.inl rfl⟩
theorem fl_X4_25 : FL RX4 25 5 6 := ⟨_, TX4, 7, "FreightPaths$PathSearch", rfl, by decide, by decide +kernel, Or.inl rfl⟩
theorem fl_X4_28 : FL RX4 28 5 0 := ⟨_, TX4, 7, "FreightPaths$PathSearch", rfl, by decide, by decide +kernel, Or.inl rfl⟩
theorem fl_X4_32 : FL RX4 32 5 1 := ⟨_, TX4, 7, "FreightPaths$PathSearch", rfl, by decide, by decide +kernel, Or.inl rfl⟩
theorem fl_X4_36 : FL RX4 36 1 5 := ⟨_, TX0, 14, "FreightPaths$Bid", rfl, by decide, by decide +kernel, Or.inl rfl⟩
theorem fl_X4_42 : FL RX4 42 1 6 := ⟨_, TX0, 14, "FreightPaths$Bid", rfl, by decide, by decide +kernel, Or.inl rfl⟩
theorem fl_X4_82 : FL RX4 82 4 8 := ⟨_, TX3, 10, "FreightPaths$Line", rfl, by decide, by decide +kernel, Or.inl rfl⟩
theorem fl_X4_85 : FL RX4 85 4 5 := ⟨_, TX3, 10, "FreightPaths$Line", rfl, by decide, by decide +kernel, Or.inl rfl⟩
theorem fl_X4_88 : FL RX4 88 4 6 := ⟨_, TX3, 10, "FreightPaths$Line", rfl, by decide, by decide +kernel, Or.inl rfl⟩
theorem fl_X4_91 : FL RX4 91 4 7 := ⟨_, TX3, 10, "FreightPaths$Line", rfl, by decide, by decide +kernel, Or.inl rfl⟩
theorem fl_X4_101 : FL RX4 101 2 0 := ⟨_, TX1, 2, "FreightPaths$Book", rfl, by decide, by decide +kernel, Or.inl rfl⟩
theorem fl_X4_119 : FL RX4 119 1 10 := ⟨_, TX0, 14, "FreightPaths$Bid", rfl, by decide, by decide +kernel, Or.inl rfl⟩
theorem fl_X4_127 : FL RX4 127 1 11 := ⟨_, TX0, 14, "FreightPaths$Bid", rfl, by decide, by decide +kernel, Or.inl rfl⟩
theorem fl_X4_128 : FL RX4 128 1 12 := ⟨_, TX0, 14, "FreightPaths$Bid", rfl, by decide, by decide +kernel, Or.inl rfl⟩
theorem fl_X4_144 : FL RX4 144 4 4 := ⟨_, TX3, 10, "FreightPaths$Line", rfl, by decide, by decide +kernel, Or.inl rfl⟩
theorem if_X4_5_0 : iF RX4 5 0 := fun _ _ _ z => by cases z; exact ⟨rfl, rfl⟩
theorem if_X4_5_1 : iF RX4 5 1 := fun _ _ _ z => by cases z; exact ⟨rfl, rfl⟩
theorem if_X4_5_2 : iF RX4 5 2 := fun _ _ _ z => by cases z; exact ⟨rfl, rfl⟩
theorem if_X4_5_3 : iF RX4 5 3 := fun _ _ _ z => by cases z; exact ⟨rfl, rfl⟩
theorem if_X4_5_4 : iF RX4 5 4 := fun _ _ _ z => by cases z; exact ⟨rfl, rfl⟩
theorem if_X4_5_5 : iF RX4 5 5 := fun _ _ _ z => by cases z; exact ⟨rfl, rfl⟩
theorem if_X4_5_6 : iF RX4 5 6 := fun _ _ _ z => by cases z; exact ⟨rfl, rfl⟩
theorem ck_X4_37 : (∃ T : u_T, vwCl[1]? = some ("FreightPaths$Bid", T, 14)) ∧ Cond.classLink RX4 37 "FreightPaths$Bid" ∈ GT := ⟨⟨TX0, rfl⟩, by decide +kernel⟩
theorem lk_X4_3 : Cond.methodLink RX4 3 objectInit ∈ GT := by decide +kernel
theorem me_X0_steps : Cond.instanceMethod yX0_steps ∈ GT ∧ Cond.selects RX0 yX0_steps yX0_steps ∈ GT ∧ Cond.initialized RX0 ∈ GT ∧ Cond.code yX0_steps cX0_steps 1 (some .int) ∈ GT := ⟨by decide +kernel, by decide +kernel, by decide +kernel, by decide +kernel⟩
theorem cl_X4_45 : VL RX4 45 1 yX0_steps cX0_steps 1 (some .int) 0 := ⟨⟨TX0, 14, rfl⟩, ⟨by decide +kernel, me_X0_steps⟩, by decide, by decide, by decide +kernel⟩
theorem me_X4_clearMinutes : Cond.instanceMethod yX4_clearMinutes ∈ GT ∧ Cond.selects RX4 yX4_clearMinutes yX4_clearMinutes ∈ GT ∧ Cond.initialized RX4 ∈ GT ∧ Cond.code yX4_clearMinutes cX4_clearMinutes 3 none ∈ GT := ⟨by decide +kernel, by decide +kernel, by decide +kernel, by decide +kernel⟩
theorem cl_X4_49 : VL RX4 49 5 yX4_clearMinutes cX4_clearMinutes 3 none 1 := ⟨⟨TX4, 7, rfl⟩, ⟨by decide +kernel, me_X4_clearMinutes⟩, by decide, by decide, by decide +kernel⟩
theorem me_X4_blockByWorks : Cond.instanceMethod yX4_blockByWorks ∈ GT ∧ Cond.selects RX4 yX4_blockByWorks yX4_blockByWorks ∈ GT ∧ Cond.initialized RX4 ∈ GT ∧ Cond.code yX4_blockByWorks cX4_blockByWorks 6 none ∈ GT := ⟨by decide +kernel, by decide +kernel, by decide +kernel, by decide +kernel⟩
theorem cl_X4_53 : VL RX4 53 5 yX4_blockByWorks cX4_blockByWorks 6 none 2 := ⟨⟨TX4, 7, rfl⟩, ⟨by decide +kernel, me_X4_blockByWorks⟩, by decide, by decide, by decide +kernel⟩
theorem me_X4_blockByOthers : Cond.instanceMethod yX4_blockByOthers ∈ GT ∧ Cond.selects RX4 yX4_blockByOthers yX4_blockByOthers ∈ GT ∧ Cond.initialized RX4 ∈ GT ∧ Cond.code yX4_blockByOthers cX4_blockByOthers 10 none ∈ GT := ⟨by decide +kernel, by decide +kernel, by decide +kernel, by decide +kernel⟩
theorem cl_X4_57 : VL RX4 57 5 yX4_blockByOthers cX4_blockByOthers 10 none 2 := ⟨⟨TX4, 7, rfl⟩, ⟨by decide +kernel, me_X4_blockByOthers⟩, by decide, by decide, by decide +kernel⟩
theorem me_X4_countStanding : Cond.instanceMethod yX4_countStanding ∈ GT ∧ Cond.selects RX4 yX4_countStanding yX4_countStanding ∈ GT ∧ Cond.initialized RX4 ∈ GT ∧ Cond.code yX4_countStanding cX4_countStanding 8 none ∈ GT := ⟨by decide +kernel, by decide +kernel, by decide +kernel, by decide +kernel⟩
theorem cl_X4_60 : VL RX4 60 5 yX4_countStanding cX4_countStanding 8 none 2 := ⟨⟨TX4, 7, rfl⟩, ⟨by decide +kernel, me_X4_countStanding⟩, by decide, by decide, by decide +kernel⟩
theorem me_X4_clearComings : Cond.instanceMethod yX4_clearComings ∈ GT ∧ Cond.selects RX4 yX4_clearComings yX4_clearComings ∈ GT ∧ Cond.initialized RX4 ∈ GT ∧ Cond.code yX4_clearComings cX4_clearComings 4 none ∈ GT := ⟨by decide +kernel, by decide +kernel, by decide +kernel, by decide +kernel⟩
theorem cl_X4_63 : VL RX4 63 5 yX4_clearComings cX4_clearComings 4 none 2 := ⟨⟨TX4, 7, rfl⟩, ⟨by decide +kernel, me_X4_clearComings⟩, by decide, by decide, by decide +kernel⟩
theorem me_X4_spreadComings : Cond.instanceMethod yX4_spreadComings ∈ GT ∧ Cond.selects RX4 yX4_spreadComings yX4_spreadComings ∈ GT ∧ Cond.initialized RX4 ∈ GT ∧ Cond.code yX4_spreadComings cX4_spreadComings 9 none ∈ GT := ⟨by decide +kernel, by decide +kernel, by decide +kernel, by decide +kernel⟩
theorem cl_X4_66 : VL RX4 66 5 yX4_spreadComings cX4_spreadComings 9 none 2 := ⟨⟨TX4, 7, rfl⟩, ⟨by decide +kernel, me_X4_spreadComings⟩, by decide, by decide, by decide +kernel⟩
theorem me_X4_traceBack : Cond.instanceMethod yX4_traceBack ∈ GT ∧ Cond.selects RX4 yX4_traceBack yX4_traceBack ∈ GT ∧ Cond.initialized RX4 ∈ GT ∧ Cond.code yX4_traceBack cX4_traceBack 6 none ∈ GT := ⟨by decide +kernel, by decide +kernel, by decide +kernel, by decide +kernel⟩
theorem cl_X4_69 : VL RX4 69 5 yX4_traceBack cX4_traceBack 6 none 2 := ⟨⟨TX4, 7, rfl⟩, ⟨by decide +kernel, me_X4_traceBack⟩, by decide, by decide, by decide +kernel⟩
theorem cl_X4_72 : VL RX4 72 1 yX0_sectionAt cX0_sectionAt 2 (some .int) 1 := ⟨⟨TX0, 14, rfl⟩, ⟨by decide +kernel, me_X0_sectionAt⟩, by decide, by decide, by decide +kernel⟩
theorem me_X3_lengthOf : Cond.instanceMethod yX3_lengthOf ∈ GT ∧ Cond.selects RX3 yX3_lengthOf yX3_lengthOf ∈ GT ∧ Cond.initialized RX3 ∈ GT ∧ Cond.code yX3_lengthOf cX3_lengthOf 4 (some .int) ∈ GT := ⟨by decide +kernel, by decide +kernel, by decide +kernel, by decide +kernel⟩
theorem cl_X4_76 : VL RX4 76 4 yX3_lengthOf cX3_lengthOf 4 (some .int) 2 := ⟨⟨TX3, 10, rfl⟩, ⟨by decide +kernel, me_X3_lengthOf⟩, by decide, by decide, by decide +kernel⟩
theorem me_X4_block : Cond.instanceMethod yX4_block ∈ GT ∧ Cond.selects RX4 yX4_block yX4_block ∈ GT ∧ Cond.initialized RX4 ∈ GT ∧ Cond.code yX4_block cX4_block 5 none ∈ GT := ⟨by decide +kernel, by decide +kernel, by decide +kernel, by decide +kernel⟩
theorem cl_X4_94 : VL RX4 94 5 yX4_block cX4_block 5 none 2 := ⟨⟨TX4, 7, rfl⟩, ⟨by decide +kernel, me_X4_block⟩, by decide, by decide, by decide +kernel⟩
theorem me_X3_holdBehind : Cond.instanceMethod yX3_holdBehind ∈ GT ∧ Cond.selects RX3 yX3_holdBehind yX3_holdBehind ∈ GT ∧ Cond.initialized RX3 ∈ GT ∧ Cond.code yX3_holdBehind cX3_holdBehind 1 (some .int) ∈ GT := ⟨by decide +kernel, by decide +kernel, by decide +kernel, by decide +kernel⟩
theorem cl_X4_98 : VL RX4 98 4 yX3_holdBehind cX3_holdBehind 1 (some .int) 0 := ⟨⟨TX3, 10, rfl⟩, ⟨by decide +kernel, me_X3_holdBehind⟩, by decide, by decide, by decide +kernel⟩
theorem cl_X4_107 : VL RX4 107 0 yJx4a65c_size_8abf5 cJx4a65c_size_8abf5 1 (some .int) 0 := ⟨⟨TJx4a65c, 3, rfl⟩, ⟨by decide +kernel, me_Jx4a65c_size_8abf5⟩, by decide, by decide, by decide +kernel⟩
theorem cl_X4_112 : VL RX4 112 0 yJx4a65c_get_915e3 cJx4a65c_get_915e3 2 (some (.object "java/lang/Object")) 1 := ⟨⟨TJx4a65c, 3, rfl⟩, ⟨by decide +kernel, me_Jx4a65c_get_915e3⟩, by decide, by decide, by decide +kernel⟩
theorem me_X0_stepInSection : Cond.instanceMethod yX0_stepInSection ∈ GT ∧ Cond.selects RX0 yX0_stepInSection yX0_stepInSection ∈ GT ∧ Cond.initialized RX0 ∈ GT ∧ Cond.code yX0_stepInSection cX0_stepInSection 2 (some .int) ∈ GT := ⟨by decide +kernel, by decide +kernel, by decide +kernel, by decide +kernel⟩
theorem cl_X4_116 : VL RX4 116 1 yX0_stepInSection cX0_stepInSection 2 (some .int) 1 := ⟨⟨TX0, 14, rfl⟩, ⟨by decide +kernel, me_X0_stepInSection⟩, by decide, by decide, by decide +kernel⟩
theorem me_X3_isShared : Cond.instanceMethod yX3_isShared ∈ GT ∧ Cond.selects RX3 yX3_isShared yX3_isShared ∈ GT ∧ Cond.initialized RX3 ∈ GT ∧ Cond.code yX3_isShared cX3_isShared 4 (some .boolean) ∈ GT := ⟨by decide +kernel, by decide +kernel, by decide +kernel, by decide +kernel⟩
theorem cl_X4_123 : VL RX4 123 4 yX3_isShared cX3_isShared 4 (some .boolean) 3 := ⟨⟨TX3, 10, rfl⟩, ⟨by decide +kernel, me_X3_isShared⟩, by decide, by decide, by decide +kernel⟩
theorem lk_X4_129 : Cond.methodLink RX4 129 Lib.Math.min.name ∈ GT := by decide +kernel
theorem lk_X4_135 : Cond.methodLink RX4 135 Lib.Math.max.name ∈ GT := by decide +kernel
theorem me_X0_stationAt : Cond.instanceMethod yX0_stationAt ∈ GT ∧ Cond.selects RX0 yX0_stationAt yX0_stationAt ∈ GT ∧ Cond.initialized RX0 ∈ GT ∧ Cond.code yX0_stationAt cX0_stationAt 2 (some .int) ∈ GT := ⟨by decide +kernel, by decide +kernel, by decide +kernel, by decide +kernel⟩
theorem cl_X4_138 : VL RX4 138 1 yX0_stationAt cX0_stationAt 2 (some .int) 1 := ⟨⟨TX0, 14, rfl⟩, ⟨by decide +kernel, me_X0_stationAt⟩, by decide, by decide, by decide +kernel⟩
theorem me_X0_stepAtStation : Cond.instanceMethod yX0_stepAtStation ∈ GT ∧ Cond.selects RX0 yX0_stepAtStation yX0_stepAtStation ∈ GT ∧ Cond.initialized RX0 ∈ GT ∧ Cond.code yX0_stepAtStation cX0_stepAtStation 2 (some .int) ∈ GT := ⟨by decide +kernel, by decide +kernel, by decide +kernel, by decide +kernel⟩
theorem cl_X4_141 : VL RX4 141 1 yX0_stepAtStation cX0_stepAtStation 2 (some .int) 1 := ⟨⟨TX0, 14, rfl⟩, ⟨by decide +kernel, me_X0_stepAtStation⟩, by decide, by decide, by decide +kernel⟩
section
variable {p : Program} {l : Launch} {e : Env} {s : State} {m : MethodId} {args : Array Value} {below : List Frame} {meth : Method} {c : Code} {G : GG}
abbrev rm_X4_init : Room := { frames := 1, cells := 5, slots := 2416, locals := 20 }
def f_X4_init (this : Nat) (a0 : Option Nat) (a1 : Option Nat) (h : Hp) : Option (Unit × Hp) :=
nwZ h 1920 (fun n8 h =>
pR h (some this) 5 2 (some n8) (fun h =>
nwZ h 240 (fun n17 h =>
pR h (some this) 5 3 (some n17) (fun h =>
nwI h 240 (fun n26 h =>
pR h (some this) 5 4 (some n26) (fun h =>
nwI h 8 (fun n34 h =>
pR h (some this) 5 5 (some n34) (fun h =>
nwI h 8 (fun n42 h =>
pR h (some this) 5 6 (some n42) (fun h =>
pR h (some this) 5 0 a0 (fun h =>
pR h (some this) 5 1 a1 (fun h =>
rtV h))))))))))))
set_option maxHeartbeats 4000000 in
set_option maxRecDepth 100000 in
theorem c_X4_init (l : Launch) {G : GG} (this : Nat) (a0 : Option Nat) (a1 : Option Nat) (h : Hp) (v : Unit) (h1 : Hp) (hq : f_X4_init this a0 a1 h = some (v, h1)) : Met l yX4_init (Cond.code yX4_init cX4_init 3 none :: GT) rm_X4_init (va_Pc [.ref this, va_rf a0, va_rf a1] (Cn G h)) (Qx G none h1) 5 2416 (AA G) := by
  refine xMet (cc := cX4_init) (by decide) (Nat.le_of_ble_eq_true rfl) (List.forall_mem_cons.mpr ⟨rfl, (List.forall_mem_cons.mpr ⟨(rf_cat a0), (List.forall_mem_cons.mpr ⟨(rf_cat a1), (fun _ z => by cases z)⟩)⟩)⟩) ?_
  intro p e s m below meth c ls Z hr hlk hin hR hS hl
  have hx := Z.1
  have hb := Z.2.1
  have hl : LV ls 3 [(0, va_rf (some this)), (1, va_rf a0), (2, va_rf a1)] := hl
  unfold f_X4_init at hq
  refine xaln hx hb hl (x := (some this)) 0 rfl dX4_init_0 ?_
  refine xoi Z hl lk_X4_3 (by decide) (by decide) dX4_init_1 ?_
  refine xaln hx hb hl (x := (some this)) 0 rfl dX4_init_4 ?_
  refine lv_sipush (v := 1920) hx hb dX4_init_5 (by decide) ?_
  refine xnZ Z hR hS hq ac_Z (by decide) (by decide) (by decide) (by decide) (by decide) dX4_init_8 (fun n8 h H hq hR hS => ?_)
  refine xpR Z hR hS hq fl_X4_9 rfl (Or.inr ⟨if_X4_5_2, hin⟩) dX4_init_10 (fun h H locs hq hR hS => ?_)
  refine xaln hx hb hl (x := (some this)) 0 rfl dX4_init_13 ?_
  refine lv_sipush (v := 240) hx hb dX4_init_14 (by decide) ?_
  refine xnZ Z hR hS hq ac_Z (by decide) (by decide) (by decide) (by decide) (by decide) dX4_init_17 (fun n17 h H hq hR hS => ?_)
  refine xpR Z hR hS hq fl_X4_15 rfl (Or.inr ⟨if_X4_5_3, hin⟩) dX4_init_19 (fun h H locs hq hR hS => ?_)
  refine xaln hx hb hl (x := (some this)) 0 rfl dX4_init_22 ?_
  refine lv_sipush (v := 240) hx hb dX4_init_23 (by decide) ?_
  refine xnI Z hR hS hq ac_I (by decide) (by decide) (by decide) (by decide) (by decide) dX4_init_26 (fun n26 h H hq hR hS => ?_)
  refine xpR Z hR hS hq fl_X4_18 rfl (Or.inr ⟨if_X4_5_4, hin⟩) dX4_init_28 (fun h H locs hq hR hS => ?_)
  refine xaln hx hb hl (x := (some this)) 0 rfl dX4_init_31 ?_
  refine lv_bipush (v := 8) hx hb dX4_init_32 (by decide) ?_
  refine xnI Z hR hS hq ac_I (by decide) (by decide) (by decide) (by decide) (by decide) dX4_init_34 (fun n34 h H hq hR hS => ?_)
  refine xpR Z hR hS hq fl_X4_22 rfl (Or.inr ⟨if_X4_5_5, hin⟩) dX4_init_36 (fun h H locs hq hR hS => ?_)
  refine xaln hx hb hl (x := (some this)) 0 rfl dX4_init_39 ?_
  refine lv_bipush (v := 8) hx hb dX4_init_40 (by decide) ?_
  refine xnI Z hR hS hq ac_I (by decide) (by decide) (by decide) (by decide) (by decide) dX4_init_42 (fun n42 h H hq hR hS => ?_)
  refine xpR Z hR hS hq fl_X4_25 rfl (Or.inr ⟨if_X4_5_6, hin⟩) dX4_init_44 (fun h H locs hq hR hS => ?_)
  refine xaln hx hb hl (x := (some this)) 0 rfl dX4_init_47 ?_
  refine xaln hx hb hl (x := a0) 1 rfl dX4_init_48 ?_
  refine xpR Z hR hS hq fl_X4_28 rfl (Or.inr ⟨if_X4_5_0, hin⟩) dX4_init_49 (fun h H locs hq hR hS => ?_)
  refine xaln hx hb hl (x := (some this)) 0 rfl dX4_init_52 ?_
  refine xaln hx hb hl (x := a1) 2 rfl dX4_init_53 ?_
  refine xpR Z hR hS hq fl_X4_32 rfl (Or.inr ⟨if_X4_5_1, hin⟩) dX4_init_54 (fun h H locs hq hR hS => ?_)
  exact xrV hx hb hr hlk hR hS hq (by decide) (by decide) dX4_init_57
abbrev rm_X4_clearMinutes : Room := { frames := 0, cells := 0, slots := 0, locals := 0 }
def fb_X4_clearMinutes_5  (k5 : Option Nat × Option Nat × Int32 × Hp → Option (Unit × Hp)) (l0 : Option Nat) (l1 : Option Nat) (l2 : Int32) (h : Hp) : Option (Unit × Hp) :=
gI h l1 1 6 (fun x7 =>
(if x7 < l2 then
rtV h
else
gR h l0 5 3 (fun x14 =>
stZ h x14 l2 0 (fun h =>
gR h l0 5 4 (fun x21 =>
stI h x21 l2 0 (fun h =>
k5 (l0, l1, (l2 + 1), h)))))))
set_option maxHeartbeats 4000000 in
set_option maxRecDepth 100000 in
theorem tb_X4_clearMinutes_5 (Z : ZZ p s m args c cX4_clearMinutes RX4 3 G) (hr : meth.sig.returnType = none) (hlk : meth.locks = false) (hin : meth.name = "clearMinutes") {v : Unit} {h1 : Hp} {k5 : Option Nat × Option Nat × Int32 × Hp → Option (Unit × Hp)} (hk5 : ∀ u : Option Nat × Option Nat × Int32 × Hp, k5 u = some (v, h1) → ∀ (H : Heap) (locs : List Loc) (ls : Array Slot), Rep G u.2.2.2 H → va_S (AA G) s.heap H locs → LV ls 3 [(0, va_rf u.1), (1, va_rf u.2.1), (2, .int u.2.2.1)] → W p l e rm_X4_clearMinutes s m args below meth c H locs 0 0 (MQ below (Qx G none h1) args s 0 0 (AA G)) (F0 m 5 ls [])) : ∀ (l0 : Option Nat) (l1 : Option Nat) (l2 : Int32) (h : Hp) (H : Heap) (locs : List Loc) (ls : Array Slot), fb_X4_clearMinutes_5 k5 l0 l1 l2 h = some (v, h1) → Rep G h H → va_S (AA G) s.heap H locs → LV ls 3 [(0, va_rf l0), (1, va_rf l1), (2, .int l2)] → W p l e rm_X4_clearMinutes s m args below meth c H locs 0 0 (MQ below (Qx G none h1) args s 0 0 (AA G)) (F0 m 5 ls []) := by
  intro l0 l1 l2 h H locs ls hq hR hS hl
  have hx := Z.1
  have hb := Z.2.1
  unfold fb_X4_clearMinutes_5 at hq
  refine xiln hx hb hl (x := l2) 2 rfl dX4_clearMinutes_5 ?_
  refine xaln hx hb hl (x := l1) 1 rfl dX4_clearMinutes_6 ?_
  refine xgI Z hR hq fl_X4_42 rfl dX4_clearMinutes_7 (fun x7 hq => ?_)
  refine xcGt hx hb hq (tgt := 33) dX4_clearMinutes_10 (by decide) (fun hq => ?_) (fun hq => ?_)
  · exact xrV hx hb hr hlk hR hS hq (by decide) (by decide) dX4_clearMinutes_33
  refine xaln hx hb hl (x := l0) 0 rfl dX4_clearMinutes_13 ?_
  refine xgR Z hR hq fl_X4_15 rfl dX4_clearMinutes_14 (fun x14 hq => ?_)
  refine xiln hx hb hl (x := l2) 2 rfl dX4_clearMinutes_17 ?_
  refine lv_iconst (v := 0) hx hb dX4_clearMinutes_18 (by decide) ?_
  refine xsZ Z hR hS hq dX4_clearMinutes_19 (fun h H locs hq hR hS => ?_)
  refine xaln hx hb hl (x := l0) 0 rfl dX4_clearMinutes_20 ?_
  refine xgR Z hR hq fl_X4_18 rfl dX4_clearMinutes_21 (fun x21 hq => ?_)
  refine xiln hx hb hl (x := l2) 2 rfl dX4_clearMinutes_24 ?_
  refine lv_iconst (v := 0) hx hb dX4_clearMinutes_25 (by decide) ?_
  refine xsI Z hR hS hq dX4_clearMinutes_26 (fun h H locs hq hR hS => ?_)
  refine xinc hx hb hl (x := l2) (v := (l2 + 1)) (lv' := [(2, .int (l2 + 1)), (0, va_rf l0), (1, va_rf l1)]) 2 rfl (by rw [show Int32.ofInt (1) = (1 : Int32) from by decide]) (by decide) dX4_clearMinutes_27 rfl (fun ls hl => ?_)
  refine lv_goto (tgt := 5) hx hb dX4_clearMinutes_30 (by decide) ?_
  exact hk5 (l0, l1, (l2 + 1), h) hq H locs ls hR hS (hl.sub [1, 2, 0] rfl)
def f_X4_clearMinutes_5  (l0 : Option Nat) (l1 : Option Nat) (l2 : Int32) (h : Hp) : Option (Unit × Hp) :=
  lp (fun (k5 : Option Nat × Option Nat × Int32 × Hp → Option (Unit × Hp)) (u : Option Nat × Option Nat × Int32 × Hp) => fb_X4_clearMinutes_5 k5 u.1 u.2.1 u.2.2.1 u.2.2.2) FU (l0, l1, l2, h)
theorem t_X4_clearMinutes_5 (Z : ZZ p s m args c cX4_clearMinutes RX4 3 G) (hr : meth.sig.returnType = none) (hlk : meth.locks = false) (hin : meth.name = "clearMinutes") {v : Unit} {h1 : Hp} : ∀ (l0 : Option Nat) (l1 : Option Nat) (l2 : Int32) (h : Hp) (H : Heap) (locs : List Loc) (ls : Array Slot), f_X4_clearMinutes_5 l0 l1 l2 h = some (v, h1) → Rep G h H → va_S (AA G) s.heap H locs → LV ls 3 [(0, va_rf l0), (1, va_rf l1), (2, .int l2)] → W p l e rm_X4_clearMinutes s m args below meth c H locs 0 0 (MQ below (Qx G none h1) args s 0 0 (AA G)) (F0 m 5 ls []) := by
  intro l0 l1 l2 h H locs ls hq hR hS hl
  exact lp_ind (P := fun u : Option Nat × Option Nat × Int32 × Hp => ∀ (H : Heap) (locs : List Loc) (ls : Array Slot), Rep G u.2.2.2 H → va_S (AA G) s.heap H locs → LV ls 3 [(0, va_rf u.1), (1, va_rf u.2.1), (2, .int u.2.2.1)] → W p l e rm_X4_clearMinutes s m args below meth c H locs 0 0 (MQ below (Qx G none h1) args s 0 0 (AA G)) (F0 m 5 ls [])) (fun k hk u hq H locs ls hR hS hl => tb_X4_clearMinutes_5 Z hr hlk hin hk u.1 u.2.1 u.2.2.1 u.2.2.2 H locs ls hq hR hS hl) FU (l0, l1, l2, h) hq H locs ls hR hS hl
def f_X4_clearMinutes (this : Nat) (a0 : Option Nat) (h : Hp) : Option (Unit × Hp) :=
gI h a0 1 5 (fun x1 =>
f_X4_clearMinutes_5 (some this) a0 x1 h)
set_option maxHeartbeats 4000000 in
set_option maxRecDepth 100000 in
theorem c_X4_clearMinutes (l : Launch) {G : GG} (this : Nat) (a0 : Option Nat) (h : Hp) (v : Unit) (h1 : Hp) (hq : f_X4_clearMinutes this a0 h = some (v, h1)) : Met l yX4_clearMinutes (Cond.code yX4_clearMinutes cX4_clearMinutes 3 none :: GT) rm_X4_clearMinutes (va_Pc [.ref this, va_rf a0] (Cn G h)) (Qx G none h1) 0 0 (AA G) := by
  refine xMet (cc := cX4_clearMinutes) (by decide) (Nat.le_of_ble_eq_true rfl) (List.forall_mem_cons.mpr ⟨rfl, (List.forall_mem_cons.mpr ⟨(rf_cat a0), (fun _ z => by cases z)⟩)⟩) ?_
  intro p e s m below meth c ls Z hr hlk hin hR hS hl
  have hx := Z.1
  have hb := Z.2.1
  have hl : LV ls 3 [(0, va_rf (some this)), (1, va_rf a0)] := hl
  unfold f_X4_clearMinutes at hq
  refine xaln hx hb hl (x := a0) 1 rfl dX4_clearMinutes_0 ?_
  refine xgI Z hR hq fl_X4_36 rfl dX4_clearMinutes_1 (fun x1 hq => ?_)
  refine xisn hx hb hl (x := x1) (lv' := [(2, .int x1), (0, va_rf (some this)), (1, va_rf a0)]) (by decide) dX4_clearMinutes_4 rfl (fun ls hl => ?_)
  exact t_X4_clearMinutes_5 Z hr hlk hin (some this) a0 x1 h _ _ ls hq hR hS (hl.sub [1, 2, 0] rfl)
abbrev rm_X4_block : Room := { frames := 1, cells := 0, slots := 0, locals := 21 }
def fb_X4_block_15  (k15 : Option Nat × Int32 × Int32 × Hp → Option (Unit × Hp)) (l0 : Option Nat) (l3 : Int32) (l4 : Int32) (h : Hp) : Option (Unit × Hp) :=
(if l3 < l4 then
rtV h
else
gR h l0 5 3 (fun x22 =>
stZ h x22 l4 1 (fun h =>
k15 (l0, l3, (l4 + 1), h))))
set_option maxHeartbeats 4000000 in
set_option maxRecDepth 100000 in
theorem tb_X4_block_15 (Z : ZZ p s m args c cX4_block RX4 5 G) (hr : meth.sig.returnType = none) (hlk : meth.locks = false) (hin : meth.name = "block") {v : Unit} {h1 : Hp} {k15 : Option Nat × Int32 × Int32 × Hp → Option (Unit × Hp)} (hk15 : ∀ u : Option Nat × Int32 × Int32 × Hp, k15 u = some (v, h1) → ∀ (H : Heap) (locs : List Loc) (ls : Array Slot), Rep G u.2.2.2 H → va_S (AA G) s.heap H locs → LV ls 5 [(0, va_rf u.1), (3, .int u.2.1), (4, .int u.2.2.1)] → W p l e rm_X4_block s m args below meth c H locs 0 0 (MQ below (Qx G none h1) args s 0 0 (AA G)) (F0 m 15 ls [])) : ∀ (l0 : Option Nat) (l3 : Int32) (l4 : Int32) (h : Hp) (H : Heap) (locs : List Loc) (ls : Array Slot), fb_X4_block_15 k15 l0 l3 l4 h = some (v, h1) → Rep G h H → va_S (AA G) s.heap H locs → LV ls 5 [(0, va_rf l0), (3, .int l3), (4, .int l4)] → W p l e rm_X4_block s m args below meth c H locs 0 0 (MQ below (Qx G none h1) args s 0 0 (AA G)) (F0 m 15 ls []) := by
  intro l0 l3 l4 h H locs ls hq hR hS hl
  have hx := Z.1
  have hb := Z.2.1
  unfold fb_X4_block_15 at hq
  refine xil hx hb hl (x := l4) 2 rfl dX4_block_15 ?_
  refine xiln hx hb hl (x := l3) 1 rfl dX4_block_17 ?_
  refine xcGt hx hb hq (tgt := 35) dX4_block_18 (by decide) (fun hq => ?_) (fun hq => ?_)
  · exact xrV hx hb hr hlk hR hS hq (by decide) (by decide) dX4_block_35
  refine xaln hx hb hl (x := l0) 0 rfl dX4_block_21 ?_
  refine xgR Z hR hq fl_X4_15 rfl dX4_block_22 (fun x22 hq => ?_)
  refine xil hx hb hl (x := l4) 2 rfl dX4_block_25 ?_
  refine lv_iconst (v := 1) hx hb dX4_block_27 (by decide) ?_
  refine xsZ Z hR hS hq dX4_block_28 (fun h H locs hq hR hS => ?_)
  refine xinc hx hb hl (x := l4) (v := (l4 + 1)) (lv' := [(4, .int (l4 + 1)), (0, va_rf l0), (3, .int l3)]) 2 rfl (by rw [show Int32.ofInt (1) = (1 : Int32) from by decide]) (by decide) dX4_block_29 rfl (fun ls hl => ?_)
  refine lv_goto (tgt := 15) hx hb dX4_block_32 (by decide) ?_
  exact hk15 (l0, l3, (l4 + 1), h) hq H locs ls hR hS (hl.sub [1, 2, 0] rfl)
def f_X4_block_15  (l0 : Option Nat) (l3 : Int32) (l4 : Int32) (h : Hp) : Option (Unit × Hp) :=
  lp (fun (k15 : Option Nat × Int32 × Int32 × Hp → Option (Unit × Hp)) (u : Option Nat × Int32 × Int32 × Hp) => fb_X4_block_15 k15 u.1 u.2.1 u.2.2.1 u.2.2.2) FU (l0, l3, l4, h)
theorem t_X4_block_15 (Z : ZZ p s m args c cX4_block RX4 5 G) (hr : meth.sig.returnType = none) (hlk : meth.locks = false) (hin : meth.name = "block") {v : Unit} {h1 : Hp} : ∀ (l0 : Option Nat) (l3 : Int32) (l4 : Int32) (h : Hp) (H : Heap) (locs : List Loc) (ls : Array Slot), f_X4_block_15 l0 l3 l4 h = some (v, h1) → Rep G h H → va_S (AA G) s.heap H locs → LV ls 5 [(0, va_rf l0), (3, .int l3), (4, .int l4)] → W p l e rm_X4_block s m args below meth c H locs 0 0 (MQ below (Qx G none h1) args s 0 0 (AA G)) (F0 m 15 ls []) := by
  intro l0 l3 l4 h H locs ls hq hR hS hl
  exact lp_ind (P := fun u : Option Nat × Int32 × Int32 × Hp => ∀ (H : Heap) (locs : List Loc) (ls : Array Slot), Rep G u.2.2.2 H → va_S (AA G) s.heap H locs → LV ls 5 [(0, va_rf u.1), (3, .int u.2.1), (4, .int u.2.2.1)] → W p l e rm_X4_block s m args below meth c H locs 0 0 (MQ below (Qx G none h1) args s 0 0 (AA G)) (F0 m 15 ls [])) (fun k hk u hq H locs ls hR hS hl => tb_X4_block_15 Z hr hlk hin hk u.1 u.2.1 u.2.2.1 u.2.2.2 H locs ls hq hR hS hl) FU (l0, l3, l4, h) hq H locs ls hR hS hl
def f_X4_block (this : Nat) (a0 : Int32) (a1 : Int32) (h : Hp) : Option (Unit × Hp) :=
f_X4_block_15 (some this) (if 239 < a1 then 239 else a1) (if a0 < 0 then 0 else a0) h
set_option maxHeartbeats 4000000 in
set_option maxRecDepth 100000 in
theorem c_X4_block (l : Launch) {G : GG} (this : Nat) (a0 : Int32) (a1 : Int32) (h : Hp) (v : Unit) (h1 : Hp) (hq : f_X4_block this a0 a1 h = some (v, h1)) : Met l yX4_block (Cond.code yX4_block cX4_block 5 none :: GT) rm_X4_block (va_Pc [.ref this, .int a0, .int a1] (Cn G h)) (Qx G none h1) 0 0 (AA G) := by
  refine xMet (cc := cX4_block) (by decide) (Nat.le_of_ble_eq_true rfl) (List.forall_mem_cons.mpr ⟨rfl, (List.forall_mem_cons.mpr ⟨rfl, (List.forall_mem_cons.mpr ⟨rfl, (fun _ z => by cases z)⟩)⟩)⟩) ?_
  intro p e s m below meth c ls Z hr hlk hin hR hS hl
  have hx := Z.1
  have hb := Z.2.1
  have hl : LV ls 5 [(0, va_rf (some this)), (1, .int a0), (2, .int a1)] := hl
  unfold f_X4_block at hq
  refine xiln hx hb hl (x := a1) 2 rfl dX4_block_0 ?_
  refine lv_sipush (v := 239) hx hb dX4_block_1 (by decide) ?_
  refine xmn Z hl lk_X4_129 (by decide) (by first | decide | (simp only [List.map_cons, List.map_nil, rf_cat, ct_int, ct_ref, List.sum_cons, List.sum_nil] <;> decide)) (by decide) (by decide) dX4_block_4 ?_
  refine xisn hx hb hl (x := (if 239 < a1 then 239 else a1)) (lv' := [(3, .int (if 239 < a1 then 239 else a1)), (0, va_rf (some this)), (1, .int a0), (2, .int a1)]) (by decide) dX4_block_7 rfl (fun ls hl => ?_)
  refine xiln hx hb hl (x := a0) 2 rfl dX4_block_8 ?_
  refine lv_iconst (v := 0) hx hb dX4_block_9 (by decide) ?_
  refine xmx Z hl lk_X4_135 (by decide) (by first | decide | (simp only [List.map_cons, List.map_nil, rf_cat, ct_int, ct_ref, List.sum_cons, List.sum_nil] <;> decide)) (by decide) (by decide) dX4_block_10 ?_
  refine xis hx hb hl (x := (if a0 < 0 then 0 else a0)) (lv' := [(4, .int (if a0 < 0 then 0 else a0)), (3, .int (if 239 < a1 then 239 else a1)), (0, va_rf (some this)), (1, .int a0), (2, .int a1)]) (by decide) dX4_block_13 rfl (fun ls hl => ?_)
  exact t_X4_block_15 Z hr hlk hin (some this) (if 239 < a1 then 239 else a1) (if a0 < 0 then 0 else a0) h _ _ ls hq hR hS (hl.sub [2, 1, 0] rfl)
abbrev rm_X4_blockByWorks : Room := { frames := 2, cells := 0, slots := 0, locals := 45 }
def f_X4_blockByWorks_77  (k20 : Option Nat × Int32 × Int32 × Int32 × Hp → Option (Unit × Hp)) (l0 : Option Nat) (l3 : Int32) (l4 : Int32) (l5 : Int32) (h : Hp) : Option (Unit × Hp) :=
k20 (l0, l3, l4, (l5 + 1), h)
set_option maxHeartbeats 4000000 in
set_option maxRecDepth 100000 in
theorem t_X4_blockByWorks_77 (Z : ZZ p s m args c cX4_blockByWorks RX4 6 G) (hr : meth.sig.returnType = none) (hlk : meth.locks = false) (hin : meth.name = "blockByWorks") {v : Unit} {h1 : Hp} {k20 : Option Nat × Int32 × Int32 × Int32 × Hp → Option (Unit × Hp)} (hk20 : ∀ u : Option Nat × Int32 × Int32 × Int32 × Hp, k20 u = some (v, h1) → ∀ (H : Heap) (locs : List Loc) (ls : Array Slot), Rep G u.2.2.2.2 H → va_S (AA G) s.heap H locs → LV ls 6 [(0, va_rf u.1), (3, .int u.2.1), (4, .int u.2.2.1), (5, .int u.2.2.2.1)] → W p l e rm_X4_blockByWorks s m args below meth c H locs 0 0 (MQ below (Qx G none h1) args s 0 0 (AA G)) (F0 m 20 ls [])) : ∀ (l0 : Option Nat) (l3 : Int32) (l4 : Int32) (l5 : Int32) (h : Hp) (H : Heap) (locs : List Loc) (ls : Array Slot), f_X4_blockByWorks_77 k20 l0 l3 l4 l5 h = some (v, h1) → Rep G h H → va_S (AA G) s.heap H locs → LV ls 6 [(0, va_rf l0), (3, .int l3), (4, .int l4), (5, .int l5)] → W p l e rm_X4_blockByWorks s m args below meth c H locs 0 0 (MQ below (Qx G none h1) args s 0 0 (AA G)) (F0 m 77 ls []) := by
  intro l0 l3 l4 l5 h H locs ls hq hR hS hl
  have hx := Z.1
  have hb := Z.2.1
  unfold f_X4_blockByWorks_77 at hq
  refine xinc hx hb hl (x := l5) (v := (l5 + 1)) (lv' := [(5, .int (l5 + 1)), (0, va_rf l0), (3, .int l3), (4, .int l4)]) 3 rfl (by rw [show Int32.ofInt (1) = (1 : Int32) from by decide]) (by decide) dX4_blockByWorks_77 rfl (fun ls hl => ?_)
  refine lv_goto (tgt := 20) hx hb dX4_blockByWorks_80 (by decide) ?_
  exact hk20 (l0, l3, l4, (l5 + 1), h) hq H locs ls hR hS (hl.sub [1, 2, 3, 0] rfl)
def fb_X4_blockByWorks_20  (k20 : Option Nat × Int32 × Int32 × Int32 × Hp → Option (Unit × Hp)) (l0 : Option Nat) (l3 : Int32) (l4 : Int32) (l5 : Int32) (h : Hp) : Option (Unit × Hp) :=
gR h l0 5 0 (fun x23 =>
gI h x23 4 8 (fun x26 =>
(if x26 ≤ l5 then
rtV h
else
gR h l0 5 0 (fun x33 =>
gR h x33 4 5 (fun x36 =>
ldI h x36 l5 (fun x41 =>
(if x41 = l3 then
gR h l0 5 0 (fun x48 =>
gR h x48 4 6 (fun x51 =>
ldI h x51 l5 (fun x56 =>
gR h l0 5 0 (fun x63 =>
gR h x63 4 7 (fun x66 =>
ldI h x66 l5 (fun x71 =>
rcv h l0 5 (fun b74 => bd (f_X4_block b74 ((x56 - l4) + 1) (x71 - 1) h) (fun u74 h =>
f_X4_blockByWorks_77 k20 l0 l3 l4 l5 h))))))))
else
f_X4_blockByWorks_77 k20 l0 l3 l4 l5 h)))))))
set_option maxHeartbeats 4000000 in
set_option maxRecDepth 100000 in
theorem tb_X4_blockByWorks_20 (Z : ZZ p s m args c cX4_blockByWorks RX4 6 G) (hr : meth.sig.returnType = none) (hlk : meth.locks = false) (hin : meth.name = "blockByWorks") {v : Unit} {h1 : Hp} {k20 : Option Nat × Int32 × Int32 × Int32 × Hp → Option (Unit × Hp)} (hk20 : ∀ u : Option Nat × Int32 × Int32 × Int32 × Hp, k20 u = some (v, h1) → ∀ (H : Heap) (locs : List Loc) (ls : Array Slot), Rep G u.2.2.2.2 H → va_S (AA G) s.heap H locs → LV ls 6 [(0, va_rf u.1), (3, .int u.2.1), (4, .int u.2.2.1), (5, .int u.2.2.2.1)] → W p l e rm_X4_blockByWorks s m args below meth c H locs 0 0 (MQ below (Qx G none h1) args s 0 0 (AA G)) (F0 m 20 ls [])) : ∀ (l0 : Option Nat) (l3 : Int32) (l4 : Int32) (l5 : Int32) (h : Hp) (H : Heap) (locs : List Loc) (ls : Array Slot), fb_X4_blockByWorks_20 k20 l0 l3 l4 l5 h = some (v, h1) → Rep G h H → va_S (AA G) s.heap H locs → LV ls 6 [(0, va_rf l0), (3, .int l3), (4, .int l4), (5, .int l5)] → W p l e rm_X4_blockByWorks s m args below meth c H locs 0 0 (MQ below (Qx G none h1) args s 0 0 (AA G)) (F0 m 20 ls []) := by
  intro l0 l3 l4 l5 h H locs ls hq hR hS hl
  have hx := Z.1
  have hb := Z.2.1
  unfold fb_X4_blockByWorks_20 at hq
  refine xil hx hb hl (x := l5) 3 rfl dX4_blockByWorks_20 ?_
  refine xaln hx hb hl (x := l0) 0 rfl dX4_blockByWorks_22 ?_
  refine xgR Z hR hq fl_X4_28 rfl dX4_blockByWorks_23 (fun x23 hq => ?_)
  refine xgI Z hR hq fl_X4_82 rfl dX4_blockByWorks_26 (fun x26 hq => ?_)
  refine xcGe hx hb hq (tgt := 83) dX4_blockByWorks_29 (by decide) (fun hq => ?_) (fun hq => ?_)
  · exact xrV hx hb hr hlk hR hS hq (by decide) (by decide) dX4_blockByWorks_83
  refine xaln hx hb hl (x := l0) 0 rfl dX4_blockByWorks_32 ?_
  refine xgR Z hR hq fl_X4_28 rfl dX4_blockByWorks_33 (fun x33 hq => ?_)
  refine xgR Z hR hq fl_X4_85 rfl dX4_blockByWorks_36 (fun x36 hq => ?_)
  refine xil hx hb hl (x := l5) 3 rfl dX4_blockByWorks_39 ?_
  refine xaI Z hR hq dX4_blockByWorks_41 (fun x41 hq => ?_)
  refine xiln hx hb hl (x := l3) 1 rfl dX4_blockByWorks_42 ?_
  refine xcNe hx hb hq (tgt := 77) dX4_blockByWorks_43 (by decide) (fun hq => ?_) (fun hq => ?_)
  · exact t_X4_blockByWorks_77 Z hr hlk hin hk20 l0 l3 l4 l5 h H locs ls hq hR hS (hl.sub [0, 1, 2, 3] rfl)
  refine xaln hx hb hl (x := l0) 0 rfl dX4_blockByWorks_46 ?_
  refine xaln hx hb hl (x := l0) 0 rfl dX4_blockByWorks_47 ?_
  refine xgR Z hR hq fl_X4_28 rfl dX4_blockByWorks_48 (fun x48 hq => ?_)
  refine xgR Z hR hq fl_X4_88 rfl dX4_blockByWorks_51 (fun x51 hq => ?_)
  refine xil hx hb hl (x := l5) 3 rfl dX4_blockByWorks_54 ?_
  refine xaI Z hR hq dX4_blockByWorks_56 (fun x56 hq => ?_)
  refine xil hx hb hl (x := l4) 2 rfl dX4_blockByWorks_57 ?_
  refine lv_isub hx hb dX4_blockByWorks_59 ?_
  refine lv_iconst (v := 1) hx hb dX4_blockByWorks_60 (by decide) ?_
  refine lv_iadd hx hb dX4_blockByWorks_61 ?_
  refine xaln hx hb hl (x := l0) 0 rfl dX4_blockByWorks_62 ?_
  refine xgR Z hR hq fl_X4_28 rfl dX4_blockByWorks_63 (fun x63 hq => ?_)
  refine xgR Z hR hq fl_X4_91 rfl dX4_blockByWorks_66 (fun x66 hq => ?_)
  refine xil hx hb hl (x := l5) 3 rfl dX4_blockByWorks_69 ?_
  refine xaI Z hR hq dX4_blockByWorks_71 (fun x71 hq => ?_)
  refine lv_iconst (v := 1) hx hb dX4_blockByWorks_72 (by decide) ?_
  refine lv_isub hx hb dX4_blockByWorks_73 ?_
  refine xcV Z hR hS hl (rest := []) (As := [.int ((x56 - l4) + 1), .int (x71 - 1)]) hq cl_X4_94 (fun b x h1 hc => c_X4_block l b ((x56 - l4) + 1) (x71 - 1) h x h1 hc) ⟨⟨rfl, rfl⟩, (by decide), (by decide)⟩ rfl rfl (by first | decide | (simp only [List.map_cons, List.map_nil, rf_cat, ct_int, ct_ref, List.sum_cons, List.sum_nil] <;> decide)) dX4_blockByWorks_74 (by decide) (fun u74 h H locs hq hR hS => ?_)
  exact t_X4_blockByWorks_77 Z hr hlk hin hk20 l0 l3 l4 l5 h H locs ls hq hR hS (hl.sub [0, 1, 2, 3] rfl)
def f_X4_blockByWorks_20  (l0 : Option Nat) (l3 : Int32) (l4 : Int32) (l5 : Int32) (h : Hp) : Option (Unit × Hp) :=
  lp (fun (k20 : Option Nat × Int32 × Int32 × Int32 × Hp → Option (Unit × Hp)) (u : Option Nat × Int32 × Int32 × Int32 × Hp) => fb_X4_blockByWorks_20 k20 u.1 u.2.1 u.2.2.1 u.2.2.2.1 u.2.2.2.2) FU (l0, l3, l4, l5, h)
theorem t_X4_blockByWorks_20 (Z : ZZ p s m args c cX4_blockByWorks RX4 6 G) (hr : meth.sig.returnType = none) (hlk : meth.locks = false) (hin : meth.name = "blockByWorks") {v : Unit} {h1 : Hp} : ∀ (l0 : Option Nat) (l3 : Int32) (l4 : Int32) (l5 : Int32) (h : Hp) (H : Heap) (locs : List Loc) (ls : Array Slot), f_X4_blockByWorks_20 l0 l3 l4 l5 h = some (v, h1) → Rep G h H → va_S (AA G) s.heap H locs → LV ls 6 [(0, va_rf l0), (3, .int l3), (4, .int l4), (5, .int l5)] → W p l e rm_X4_blockByWorks s m args below meth c H locs 0 0 (MQ below (Qx G none h1) args s 0 0 (AA G)) (F0 m 20 ls []) := by
  intro l0 l3 l4 l5 h H locs ls hq hR hS hl
  exact lp_ind (P := fun u : Option Nat × Int32 × Int32 × Int32 × Hp => ∀ (H : Heap) (locs : List Loc) (ls : Array Slot), Rep G u.2.2.2.2 H → va_S (AA G) s.heap H locs → LV ls 6 [(0, va_rf u.1), (3, .int u.2.1), (4, .int u.2.2.1), (5, .int u.2.2.2.1)] → W p l e rm_X4_blockByWorks s m args below meth c H locs 0 0 (MQ below (Qx G none h1) args s 0 0 (AA G)) (F0 m 20 ls [])) (fun k hk u hq H locs ls hR hS hl => tb_X4_blockByWorks_20 Z hr hlk hin hk u.1 u.2.1 u.2.2.1 u.2.2.2.1 u.2.2.2.2 H locs ls hq hR hS hl) FU (l0, l3, l4, l5, h) hq H locs ls hR hS hl
def f_X4_blockByWorks (this : Nat) (a0 : Option Nat) (a1 : Int32) (h : Hp) : Option (Unit × Hp) :=
rcv h a0 1 (fun b2 => bd (f_X0_sectionAt b2 a1 h) (fun x2 h =>
gR h (some this) 5 0 (fun x7 =>
rcv h x7 4 (fun b12 => bd (f_X3_lengthOf b12 a0 a1 h) (fun x12 h =>
f_X4_blockByWorks_20 (some this) x2 x12 0 h)))))
set_option maxHeartbeats 4000000 in
set_option maxRecDepth 100000 in
theorem c_X4_blockByWorks (l : Launch) {G : GG} (this : Nat) (a0 : Option Nat) (a1 : Int32) (h : Hp) (v : Unit) (h1 : Hp) (hq : f_X4_blockByWorks this a0 a1 h = some (v, h1)) : Met l yX4_blockByWorks (Cond.code yX4_blockByWorks cX4_blockByWorks 6 none :: GT) rm_X4_blockByWorks (va_Pc [.ref this, va_rf a0, .int a1] (Cn G h)) (Qx G none h1) 0 0 (AA G) := by
  refine xMet (cc := cX4_blockByWorks) (by decide) (Nat.le_of_ble_eq_true rfl) (List.forall_mem_cons.mpr ⟨rfl, (List.forall_mem_cons.mpr ⟨(rf_cat a0), (List.forall_mem_cons.mpr ⟨rfl, (fun _ z => by cases z)⟩)⟩)⟩) ?_
  intro p e s m below meth c ls Z hr hlk hin hR hS hl
  have hx := Z.1
  have hb := Z.2.1
  have hl : LV ls 6 [(0, va_rf (some this)), (1, va_rf a0), (2, .int a1)] := hl
  unfold f_X4_blockByWorks at hq
  refine xaln hx hb hl (x := a0) 1 rfl dX4_blockByWorks_0 ?_
  refine xiln hx hb hl (x := a1) 2 rfl dX4_blockByWorks_1 ?_
  refine xcV Z hR hS hl (rest := []) (As := [.int a1]) hq cl_X4_72 (fun b x h1 hc => c_X0_sectionAt l b a1 h x h1 hc) ⟨⟨rfl, rfl⟩, (by decide), (by decide)⟩ rfl rfl (by first | decide | (simp only [List.map_cons, List.map_nil, rf_cat, ct_int, ct_ref, List.sum_cons, List.sum_nil] <;> decide)) dX4_blockByWorks_2 (by decide) (fun x2 h H locs hq hR hS => ?_)
  refine xisn hx hb hl (x := x2) (lv' := [(3, .int x2), (0, va_rf (some this)), (1, va_rf a0), (2, .int a1)]) (by decide) dX4_blockByWorks_5 rfl (fun ls hl => ?_)
  refine xaln hx hb hl (x := (some this)) 1 rfl dX4_blockByWorks_6 ?_
  refine xgR Z hR hq fl_X4_28 rfl dX4_blockByWorks_7 (fun x7 hq => ?_)
  refine xaln hx hb hl (x := a0) 2 rfl dX4_blockByWorks_10 ?_
  refine xiln hx hb hl (x := a1) 3 rfl dX4_blockByWorks_11 ?_
  refine xcV Z hR hS hl (rest := []) (As := [va_rf a0, .int a1]) hq cl_X4_76 (fun b x h1 hc => c_X3_lengthOf l b a0 a1 h x h1 hc) ⟨⟨rfl, rfl⟩, (by decide), (by decide)⟩ rfl rfl (by first | decide | (simp only [List.map_cons, List.map_nil, rf_cat, ct_int, ct_ref, List.sum_cons, List.sum_nil] <;> decide)) dX4_blockByWorks_12 (by decide) (fun x12 h H locs hq hR hS => ?_)
  refine xis hx hb hl (x := x12) (lv' := [(4, .int x12), (3, .int x2), (0, va_rf (some this)), (1, va_rf a0), (2, .int a1)]) (by decide) dX4_blockByWorks_15 rfl (fun ls hl => ?_)
  refine lv_iconst (v := 0) hx hb dX4_blockByWorks_17 (by decide) ?_
  refine xis hx hb hl (x := 0) (lv' := [(5, .int 0), (4, .int x12), (3, .int x2), (0, va_rf (some this)), (1, va_rf a0), (2, .int a1)]) (by decide) dX4_blockByWorks_18 rfl (fun ls hl => ?_)
  exact t_X4_blockByWorks_20 Z hr hlk hin (some this) x2 x12 0 h _ _ ls hq hR hS (hl.sub [3, 2, 1, 0] rfl)
abbrev rm_X4_blockByOthers : Room := { frames := 3, cells := 0, slots := 0, locals := 64 }
def f_X4_blockByOthers_142  (k29 : Option Nat × Option Nat × Int32 × Int32 × Int32 × Int32 × Hp → Option (Unit × Hp)) (l0 : Option Nat) (l1 : Option Nat) (l3 : Int32) (l4 : Int32) (l5 : Int32) (l6 : Int32) (h : Hp) : Option (Unit × Hp) :=
k29 (l0, l1, l3, l4, l5, (l6 + 1), h)
set_option maxHeartbeats 4000000 in
set_option maxRecDepth 100000 in
theorem t_X4_blockByOthers_142 (Z : ZZ p s m args c cX4_blockByOthers RX4 10 G) (hr : meth.sig.returnType = none) (hlk : meth.locks = false) (hin : meth.name = "blockByOthers") {v : Unit} {h1 : Hp} {k29 : Option Nat × Option Nat × Int32 × Int32 × Int32 × Int32 × Hp → Option (Unit × Hp)} (hk29 : ∀ u : Option Nat × Option Nat × Int32 × Int32 × Int32 × Int32 × Hp, k29 u = some (v, h1) → ∀ (H : Heap) (locs : List Loc) (ls : Array Slot), Rep G u.2.2.2.2.2.2 H → va_S (AA G) s.heap H locs → LV ls 10 [(0, va_rf u.1), (1, va_rf u.2.1), (3, .int u.2.2.1), (4, .int u.2.2.2.1), (5, .int u.2.2.2.2.1), (6, .int u.2.2.2.2.2.1)] → W p l e rm_X4_blockByOthers s m args below meth c H locs 0 0 (MQ below (Qx G none h1) args s 0 0 (AA G)) (F0 m 29 ls [])) : ∀ (l0 : Option Nat) (l1 : Option Nat) (l3 : Int32) (l4 : Int32) (l5 : Int32) (l6 : Int32) (h : Hp) (H : Heap) (locs : List Loc) (ls : Array Slot), f_X4_blockByOthers_142 k29 l0 l1 l3 l4 l5 l6 h = some (v, h1) → Rep G h H → va_S (AA G) s.heap H locs → LV ls 10 [(0, va_rf l0), (1, va_rf l1), (3, .int l3), (4, .int l4), (5, .int l5), (6, .int l6)] → W p l e rm_X4_blockByOthers s m args below meth c H locs 0 0 (MQ below (Qx G none h1) args s 0 0 (AA G)) (F0 m 142 ls []) := by
  intro l0 l1 l3 l4 l5 l6 h H locs ls hq hR hS hl
  have hx := Z.1
  have hb := Z.2.1
  unfold f_X4_blockByOthers_142 at hq
  refine xinc hx hb hl (x := l6) (v := (l6 + 1)) (lv' := [(6, .int (l6 + 1)), (0, va_rf l0), (1, va_rf l1), (3, .int l3), (4, .int l4), (5, .int l5)]) 5 rfl (by rw [show Int32.ofInt (1) = (1 : Int32) from by decide]) (by decide) dX4_blockByOthers_142 rfl (fun ls hl => ?_)
  refine lv_goto (tgt := 29) hx hb dX4_blockByOthers_145 (by decide) ?_
  exact hk29 (l0, l1, l3, l4, l5, (l6 + 1), h) hq H locs ls hR hS (hl.sub [1, 2, 3, 4, 5, 0] rfl)
def fb_X4_blockByOthers_29  (k29 : Option Nat × Option Nat × Int32 × Int32 × Int32 × Int32 × Hp → Option (Unit × Hp)) (l0 : Option Nat) (l1 : Option Nat) (l3 : Int32) (l4 : Int32) (l5 : Int32) (l6 : Int32) (h : Hp) : Option (Unit × Hp) :=
gR h l0 5 1 (fun x32 =>
gR h x32 2 0 (fun x35 =>
rcv h x35 0 (fun b38 => bd (f_Jx4a65c_size_8abf5 b38 h) (fun x38 h =>
(if x38 ≤ l6 then
rtV h
else
gR h l0 5 1 (fun x45 =>
gR h x45 2 0 (fun x48 =>
rcv h x48 0 (fun b53 => bd (f_Jx4a65c_get_915e3 b53 l6 h) (fun x53 h =>
ckc h x53 1 (
rcv h x53 1 (fun b64 => bd (f_X0_stepInSection b64 l3 h) (fun x64 h =>
(if x53 = l1 then
f_X4_blockByOthers_142 k29 l0 l1 l3 l4 l5 l6 h
else
gI h x53 1 10 (fun x77 =>
(if x77 = 0 then
f_X4_blockByOthers_142 k29 l0 l1 l3 l4 l5 l6 h
else
(if x64 = (-1) then
f_X4_blockByOthers_142 k29 l0 l1 l3 l4 l5 l6 h
else
gR h l0 5 0 (fun x90 =>
rcv h x90 4 (fun b97 => bd (f_X3_isShared b97 l3 l1 x53 h) (fun x97 h =>
(if x97 = 0 then
f_X4_blockByOthers_142 k29 l0 l1 l3 l4 l5 l6 h
else
gR h x53 1 11 (fun x105 =>
ldI h x105 x64 (fun x110 =>
gR h x53 1 12 (fun x126 =>
ldI h x126 (x64 + 1) (fun x133 =>
rcv h l0 5 (fun b139 => bd (f_X4_block b139 (((x110 - l4) - l5) + 1) ((x133 - 1) + l5) h) (fun u139 h =>
f_X4_blockByOthers_142 k29 l0 l1 l3 l4 l5 l6 h))))))))))))))))))))))))))
set_option maxHeartbeats 4000000 in
set_option maxRecDepth 100000 in
theorem tb_X4_blockByOthers_29 (Z : ZZ p s m args c cX4_blockByOthers RX4 10 G) (hr : meth.sig.returnType = none) (hlk : meth.locks = false) (hin : meth.name = "blockByOthers") {v : Unit} {h1 : Hp} {k29 : Option Nat × Option Nat × Int32 × Int32 × Int32 × Int32 × Hp → Option (Unit × Hp)} (hk29 : ∀ u : Option Nat × Option Nat × Int32 × Int32 × Int32 × Int32 × Hp, k29 u = some (v, h1) → ∀ (H : Heap) (locs : List Loc) (ls : Array Slot), Rep G u.2.2.2.2.2.2 H → va_S (AA G) s.heap H locs → LV ls 10 [(0, va_rf u.1), (1, va_rf u.2.1), (3, .int u.2.2.1), (4, .int u.2.2.2.1), (5, .int u.2.2.2.2.1), (6, .int u.2.2.2.2.2.1)] → W p l e rm_X4_blockByOthers s m args below meth c H locs 0 0 (MQ below (Qx G none h1) args s 0 0 (AA G)) (F0 m 29 ls [])) : ∀ (l0 : Option Nat) (l1 : Option Nat) (l3 : Int32) (l4 : Int32) (l5 : Int32) (l6 : Int32) (h : Hp) (H : Heap) (locs : List Loc) (ls : Array Slot), fb_X4_blockByOthers_29 k29 l0 l1 l3 l4 l5 l6 h = some (v, h1) → Rep G h H → va_S (AA G) s.heap H locs → LV ls 10 [(0, va_rf l0), (1, va_rf l1), (3, .int l3), (4, .int l4), (5, .int l5), (6, .int l6)] → W p l e rm_X4_blockByOthers s m args below meth c H locs 0 0 (MQ below (Qx G none h1) args s 0 0 (AA G)) (F0 m 29 ls []) := by
  intro l0 l1 l3 l4 l5 l6 h H locs ls hq hR hS hl
  have hx := Z.1
  have hb := Z.2.1
  unfold fb_X4_blockByOthers_29 at hq
  refine xil hx hb hl (x := l6) 5 rfl dX4_blockByOthers_29 ?_
  refine xaln hx hb hl (x := l0) 0 rfl dX4_blockByOthers_31 ?_
  refine xgR Z hR hq fl_X4_32 rfl dX4_blockByOthers_32 (fun x32 hq => ?_)
  refine xgR Z hR hq fl_X4_101 rfl dX4_blockByOthers_35 (fun x35 hq => ?_)
  refine xcV Z hR hS hl (rest := [.int l6]) (As := []) hq cl_X4_107 (fun b x h1 hc => c_Jx4a65c_size_8abf5 l b h x h1 hc) ⟨⟨rfl, rfl⟩, (by decide), (by decide)⟩ rfl rfl (by first | decide | (simp only [List.map_cons, List.map_nil, rf_cat, ct_int, ct_ref, List.sum_cons, List.sum_nil] <;> decide)) dX4_blockByOthers_38 (by decide) (fun x38 h H locs hq hR hS => ?_)
  refine xcGe hx hb hq (tgt := 148) dX4_blockByOthers_41 (by decide) (fun hq => ?_) (fun hq => ?_)
  · exact xrV hx hb hr hlk hR hS hq (by decide) (by decide) dX4_blockByOthers_148
  refine xaln hx hb hl (x := l0) 0 rfl dX4_blockByOthers_44 ?_
  refine xgR Z hR hq fl_X4_32 rfl dX4_blockByOthers_45 (fun x45 hq => ?_)
  refine xgR Z hR hq fl_X4_101 rfl dX4_blockByOthers_48 (fun x48 hq => ?_)
  refine xil hx hb hl (x := l6) 5 rfl dX4_blockByOthers_51 ?_
  refine xcV Z hR hS hl (rest := []) (As := [.int l6]) hq cl_X4_112 (fun b x h1 hc => c_Jx4a65c_get_915e3 l b l6 h x h1 hc) ⟨⟨rfl, rfl⟩, (by decide), (by decide)⟩ rfl rfl (by first | decide | (simp only [List.map_cons, List.map_nil, rf_cat, ct_int, ct_ref, List.sum_cons, List.sum_nil] <;> decide)) dX4_blockByOthers_53 (by decide) (fun x53 h H locs hq hR hS => ?_)
  refine xck Z hR hq ck_X4_37 dX4_blockByOthers_56 (fun hq => ?_)
  refine xas hx hb hl (x := x53) (lv' := [(7, va_rf x53), (0, va_rf l0), (1, va_rf l1), (3, .int l3), (4, .int l4), (5, .int l5), (6, .int l6)]) (by decide) dX4_blockByOthers_59 rfl (fun ls hl => ?_)
  refine xal hx hb hl (x := x53) 0 rfl dX4_blockByOthers_61 ?_
  refine xiln hx hb hl (x := l3) 3 rfl dX4_blockByOthers_63 ?_
  refine xcV Z hR hS hl (rest := []) (As := [.int l3]) hq cl_X4_116 (fun b x h1 hc => c_X0_stepInSection l b l3 h x h1 hc) ⟨⟨rfl, rfl⟩, (by decide), (by decide)⟩ rfl rfl (by first | decide | (simp only [List.map_cons, List.map_nil, rf_cat, ct_int, ct_ref, List.sum_cons, List.sum_nil] <;> decide)) dX4_blockByOthers_64 (by decide) (fun x64 h H locs hq hR hS => ?_)
  refine xis hx hb hl (x := x64) (lv' := [(8, .int x64), (7, va_rf x53), (0, va_rf l0), (1, va_rf l1), (3, .int l3), (4, .int l4), (5, .int l5), (6, .int l6)]) (by decide) dX4_blockByOthers_67 rfl (fun ls hl => ?_)
  refine xal hx hb hl (x := x53) 1 rfl dX4_blockByOthers_69 ?_
  refine xaln hx hb hl (x := l1) 3 rfl dX4_blockByOthers_71 ?_
  refine xaEq hx hb hq (tgt := 142) dX4_blockByOthers_72 (by decide) (fun hq => ?_) (fun hq => ?_)
  · exact t_X4_blockByOthers_142 Z hr hlk hin hk29 l0 l1 l3 l4 l5 l6 h H locs ls hq hR hS (hl.sub [2, 3, 4, 5, 6, 7] rfl)
  refine xal hx hb hl (x := x53) 1 rfl dX4_blockByOthers_75 ?_
  refine xgI Z hR hq fl_X4_119 rfl dX4_blockByOthers_77 (fun x77 hq => ?_)
  refine xzEq hx hb hq (tgt := 142) dX4_blockByOthers_80 (by decide) (fun hq => ?_) (fun hq => ?_)
  · exact t_X4_blockByOthers_142 Z hr hlk hin hk29 l0 l1 l3 l4 l5 l6 h H locs ls hq hR hS (hl.sub [2, 3, 4, 5, 6, 7] rfl)
  refine xil hx hb hl (x := x64) 0 rfl dX4_blockByOthers_83 ?_
  refine lv_iconst (v := (-1)) hx hb dX4_blockByOthers_85 (by decide) ?_
  refine xcEq hx hb hq (tgt := 142) dX4_blockByOthers_86 (by decide) (fun hq => ?_) (fun hq => ?_)
  · exact t_X4_blockByOthers_142 Z hr hlk hin hk29 l0 l1 l3 l4 l5 l6 h H locs ls hq hR hS (hl.sub [2, 3, 4, 5, 6, 7] rfl)
  refine xaln hx hb hl (x := l0) 2 rfl dX4_blockByOthers_89 ?_
  refine xgR Z hR hq fl_X4_28 rfl dX4_blockByOthers_90 (fun x90 hq => ?_)
  refine xiln hx hb hl (x := l3) 4 rfl dX4_blockByOthers_93 ?_
  refine xaln hx hb hl (x := l1) 3 rfl dX4_blockByOthers_94 ?_
  refine xal hx hb hl (x := x53) 1 rfl dX4_blockByOthers_95 ?_
  refine xcV Z hR hS hl (rest := []) (As := [.int l3, va_rf l1, va_rf x53]) hq cl_X4_123 (fun b x h1 hc => c_X3_isShared l b l3 l1 x53 h x h1 hc) ⟨⟨rfl, rfl⟩, (by decide), (by decide)⟩ rfl rfl (by first | decide | (simp only [List.map_cons, List.map_nil, rf_cat, ct_int, ct_ref, List.sum_cons, List.sum_nil] <;> decide)) dX4_blockByOthers_97 (by decide) (fun x97 h H locs hq hR hS => ?_)
  refine xzEq hx hb hq (tgt := 142) dX4_blockByOthers_100 (by decide) (fun hq => ?_) (fun hq => ?_)
  · exact t_X4_blockByOthers_142 Z hr hlk hin hk29 l0 l1 l3 l4 l5 l6 h H locs ls hq hR hS (hl.sub [2, 3, 4, 5, 6, 7] rfl)
  refine xal hx hb hl (x := x53) 1 rfl dX4_blockByOthers_103 ?_
  refine xgR Z hR hq fl_X4_127 rfl dX4_blockByOthers_105 (fun x105 hq => ?_)
  refine xil hx hb hl (x := x64) 0 rfl dX4_blockByOthers_108 ?_
  refine xaI Z hR hq dX4_blockByOthers_110 (fun x110 hq => ?_)
  refine xil hx hb hl (x := l4) 5 rfl dX4_blockByOthers_111 ?_
  refine lv_isub hx hb dX4_blockByOthers_113 ?_
  refine xil hx hb hl (x := l5) 6 rfl dX4_blockByOthers_114 ?_
  refine lv_isub hx hb dX4_blockByOthers_116 ?_
  refine xis hx hb hl (x := ((x110 - l4) - l5)) (lv' := [(9, .int ((x110 - l4) - l5)), (8, .int x64), (7, va_rf x53), (0, va_rf l0), (1, va_rf l1), (3, .int l3), (4, .int l4), (5, .int l5), (6, .int l6)]) (by decide) dX4_blockByOthers_117 rfl (fun ls hl => ?_)
  refine xaln hx hb hl (x := l0) 3 rfl dX4_blockByOthers_119 ?_
  refine xil hx hb hl (x := ((x110 - l4) - l5)) 0 rfl dX4_blockByOthers_120 ?_
  refine lv_iconst (v := 1) hx hb dX4_blockByOthers_122 (by decide) ?_
  refine lv_iadd hx hb dX4_blockByOthers_123 ?_
  refine xal hx hb hl (x := x53) 2 rfl dX4_blockByOthers_124 ?_
  refine xgR Z hR hq fl_X4_128 rfl dX4_blockByOthers_126 (fun x126 hq => ?_)
  refine xil hx hb hl (x := x64) 1 rfl dX4_blockByOthers_129 ?_
  refine lv_iconst (v := 1) hx hb dX4_blockByOthers_131 (by decide) ?_
  refine lv_iadd hx hb dX4_blockByOthers_132 ?_
  refine xaI Z hR hq dX4_blockByOthers_133 (fun x133 hq => ?_)
  refine lv_iconst (v := 1) hx hb dX4_blockByOthers_134 (by decide) ?_
  refine lv_isub hx hb dX4_blockByOthers_135 ?_
  refine xil hx hb hl (x := l5) 7 rfl dX4_blockByOthers_136 ?_
  refine lv_iadd hx hb dX4_blockByOthers_138 ?_
  refine xcV Z hR hS hl (rest := []) (As := [.int (((x110 - l4) - l5) + 1), .int ((x133 - 1) + l5)]) hq cl_X4_94 (fun b x h1 hc => c_X4_block l b (((x110 - l4) - l5) + 1) ((x133 - 1) + l5) h x h1 hc) ⟨⟨rfl, rfl⟩, (by decide), (by decide)⟩ rfl rfl (by first | decide | (simp only [List.map_cons, List.map_nil, rf_cat, ct_int, ct_ref, List.sum_cons, List.sum_nil] <;> decide)) dX4_blockByOthers_139 (by decide) (fun u139 h H locs hq hR hS => ?_)
  exact t_X4_blockByOthers_142 Z hr hlk hin hk29 l0 l1 l3 l4 l5 l6 h H locs ls hq hR hS (hl.sub [3, 4, 5, 6, 7, 8] rfl)
def f_X4_blockByOthers_29  (l0 : Option Nat) (l1 : Option Nat) (l3 : Int32) (l4 : Int32) (l5 : Int32) (l6 : Int32) (h : Hp) : Option (Unit × Hp) :=
  lp (fun (k29 : Option Nat × Option Nat × Int32 × Int32 × Int32 × Int32 × Hp → Option (Unit × Hp)) (u : Option Nat × Option Nat × Int32 × Int32 × Int32 × Int32 × Hp) => fb_X4_blockByOthers_29 k29 u.1 u.2.1 u.2.2.1 u.2.2.2.1 u.2.2.2.2.1 u.2.2.2.2.2.1 u.2.2.2.2.2.2) FU (l0, l1, l3, l4, l5, l6, h)
theorem t_X4_blockByOthers_29 (Z : ZZ p s m args c cX4_blockByOthers RX4 10 G) (hr : meth.sig.returnType = none) (hlk : meth.locks = false) (hin : meth.name = "blockByOthers") {v : Unit} {h1 : Hp} : ∀ (l0 : Option Nat) (l1 : Option Nat) (l3 : Int32) (l4 : Int32) (l5 : Int32) (l6 : Int32) (h : Hp) (H : Heap) (locs : List Loc) (ls : Array Slot), f_X4_blockByOthers_29 l0 l1 l3 l4 l5 l6 h = some (v, h1) → Rep G h H → va_S (AA G) s.heap H locs → LV ls 10 [(0, va_rf l0), (1, va_rf l1), (3, .int l3), (4, .int l4), (5, .int l5), (6, .int l6)] → W p l e rm_X4_blockByOthers s m args below meth c H locs 0 0 (MQ below (Qx G none h1) args s 0 0 (AA G)) (F0 m 29 ls []) := by
  intro l0 l1 l3 l4 l5 l6 h H locs ls hq hR hS hl
  exact lp_ind (P := fun u : Option Nat × Option Nat × Int32 × Int32 × Int32 × Int32 × Hp => ∀ (H : Heap) (locs : List Loc) (ls : Array Slot), Rep G u.2.2.2.2.2.2 H → va_S (AA G) s.heap H locs → LV ls 10 [(0, va_rf u.1), (1, va_rf u.2.1), (3, .int u.2.2.1), (4, .int u.2.2.2.1), (5, .int u.2.2.2.2.1), (6, .int u.2.2.2.2.2.1)] → W p l e rm_X4_blockByOthers s m args below meth c H locs 0 0 (MQ below (Qx G none h1) args s 0 0 (AA G)) (F0 m 29 ls [])) (fun k hk u hq H locs ls hR hS hl => tb_X4_blockByOthers_29 Z hr hlk hin hk u.1 u.2.1 u.2.2.1 u.2.2.2.1 u.2.2.2.2.1 u.2.2.2.2.2.1 u.2.2.2.2.2.2 H locs ls hq hR hS hl) FU (l0, l1, l3, l4, l5, l6, h) hq H locs ls hR hS hl
def f_X4_blockByOthers (this : Nat) (a0 : Option Nat) (a1 : Int32) (h : Hp) : Option (Unit × Hp) :=
rcv h a0 1 (fun b2 => bd (f_X0_sectionAt b2 a1 h) (fun x2 h =>
gR h (some this) 5 0 (fun x7 =>
rcv h x7 4 (fun b12 => bd (f_X3_lengthOf b12 a0 a1 h) (fun x12 h =>
gR h (some this) 5 0 (fun x18 =>
rcv h x18 4 (fun b21 => bd (f_X3_holdBehind b21 h) (fun x21 h =>
f_X4_blockByOthers_29 (some this) a0 x2 x12 x21 0 h))))))))
set_option maxHeartbeats 4000000 in
set_option maxRecDepth 100000 in
theorem c_X4_blockByOthers (l : Launch) {G : GG} (this : Nat) (a0 : Option Nat) (a1 : Int32) (h : Hp) (v : Unit) (h1 : Hp) (hq : f_X4_blockByOthers this a0 a1 h = some (v, h1)) : Met l yX4_blockByOthers (Cond.code yX4_blockByOthers cX4_blockByOthers 10 none :: GT) rm_X4_blockByOthers (va_Pc [.ref this, va_rf a0, .int a1] (Cn G h)) (Qx G none h1) 0 0 (AA G) := by
  refine xMet (cc := cX4_blockByOthers) (by decide) (Nat.le_of_ble_eq_true rfl) (List.forall_mem_cons.mpr ⟨rfl, (List.forall_mem_cons.mpr ⟨(rf_cat a0), (List.forall_mem_cons.mpr ⟨rfl, (fun _ z => by cases z)⟩)⟩)⟩) ?_
  intro p e s m below meth c ls Z hr hlk hin hR hS hl
  have hx := Z.1
  have hb := Z.2.1
  have hl : LV ls 10 [(0, va_rf (some this)), (1, va_rf a0), (2, .int a1)] := hl
  unfold f_X4_blockByOthers at hq
  refine xaln hx hb hl (x := a0) 1 rfl dX4_blockByOthers_0 ?_
  refine xiln hx hb hl (x := a1) 2 rfl dX4_blockByOthers_1 ?_
  refine xcV Z hR hS hl (rest := []) (As := [.int a1]) hq cl_X4_72 (fun b x h1 hc => c_X0_sectionAt l b a1 h x h1 hc) ⟨⟨rfl, rfl⟩, (by decide), (by decide)⟩ rfl rfl (by first | decide | (simp only [List.map_cons, List.map_nil, rf_cat, ct_int, ct_ref, List.sum_cons, List.sum_nil] <;> decide)) dX4_blockByOthers_2 (by decide) (fun x2 h H locs hq hR hS => ?_)
  refine xisn hx hb hl (x := x2) (lv' := [(3, .int x2), (0, va_rf (some this)), (1, va_rf a0), (2, .int a1)]) (by decide) dX4_blockByOthers_5 rfl (fun ls hl => ?_)
  refine xaln hx hb hl (x := (some this)) 1 rfl dX4_blockByOthers_6 ?_
  refine xgR Z hR hq fl_X4_28 rfl dX4_blockByOthers_7 (fun x7 hq => ?_)
  refine xaln hx hb hl (x := a0) 2 rfl dX4_blockByOthers_10 ?_
  refine xiln hx hb hl (x := a1) 3 rfl dX4_blockByOthers_11 ?_
  refine xcV Z hR hS hl (rest := []) (As := [va_rf a0, .int a1]) hq cl_X4_76 (fun b x h1 hc => c_X3_lengthOf l b a0 a1 h x h1 hc) ⟨⟨rfl, rfl⟩, (by decide), (by decide)⟩ rfl rfl (by first | decide | (simp only [List.map_cons, List.map_nil, rf_cat, ct_int, ct_ref, List.sum_cons, List.sum_nil] <;> decide)) dX4_blockByOthers_12 (by decide) (fun x12 h H locs hq hR hS => ?_)
  refine xis hx hb hl (x := x12) (lv' := [(4, .int x12), (3, .int x2), (0, va_rf (some this)), (1, va_rf a0), (2, .int a1)]) (by decide) dX4_blockByOthers_15 rfl (fun ls hl => ?_)
  refine xaln hx hb hl (x := (some this)) 2 rfl dX4_blockByOthers_17 ?_
  refine xgR Z hR hq fl_X4_28 rfl dX4_blockByOthers_18 (fun x18 hq => ?_)
  refine xcV Z hR hS hl (rest := []) (As := []) hq cl_X4_98 (fun b x h1 hc => c_X3_holdBehind l b h x h1 hc) ⟨⟨rfl, rfl⟩, (by decide), (by decide)⟩ rfl rfl (by first | decide | (simp only [List.map_cons, List.map_nil, rf_cat, ct_int, ct_ref, List.sum_cons, List.sum_nil] <;> decide)) dX4_blockByOthers_21 (by decide) (fun x21 h H locs hq hR hS => ?_)
  refine xis hx hb hl (x := x21) (lv' := [(5, .int x21), (4, .int x12), (3, .int x2), (0, va_rf (some this)), (1, va_rf a0), (2, .int a1)]) (by decide) dX4_blockByOthers_24 rfl (fun ls hl => ?_)
  refine lv_iconst (v := 0) hx hb dX4_blockByOthers_26 (by decide) ?_
  refine xis hx hb hl (x := 0) (lv' := [(6, .int 0), (5, .int x21), (4, .int x12), (3, .int x2), (0, va_rf (some this)), (1, va_rf a0), (2, .int a1)]) (by decide) dX4_blockByOthers_27 rfl (fun ls hl => ?_)
  exact t_X4_blockByOthers_29 Z hr hlk hin (some this) a0 x2 x12 x21 0 h _ _ ls hq hR hS (hl.sub [4, 5, 3, 2, 1, 0] rfl)
abbrev rm_X4_countStanding : Room := { frames := 3, cells := 0, slots := 0, locals := 64 }
def f_X4_countStanding_118  (k9 : Option Nat × Option Nat × Int32 × Int32 × Hp → Option (Unit × Hp)) (l0 : Option Nat) (l1 : Option Nat) (l3 : Int32) (l4 : Int32) (h : Hp) : Option (Unit × Hp) :=
k9 (l0, l1, l3, (l4 + 1), h)
set_option maxHeartbeats 4000000 in
set_option maxRecDepth 100000 in
theorem t_X4_countStanding_118 (Z : ZZ p s m args c cX4_countStanding RX4 8 G) (hr : meth.sig.returnType = none) (hlk : meth.locks = false) (hin : meth.name = "countStanding") {v : Unit} {h1 : Hp} {k9 : Option Nat × Option Nat × Int32 × Int32 × Hp → Option (Unit × Hp)} (hk9 : ∀ u : Option Nat × Option Nat × Int32 × Int32 × Hp, k9 u = some (v, h1) → ∀ (H : Heap) (locs : List Loc) (ls : Array Slot), Rep G u.2.2.2.2 H → va_S (AA G) s.heap H locs → LV ls 8 [(0, va_rf u.1), (1, va_rf u.2.1), (3, .int u.2.2.1), (4, .int u.2.2.2.1)] → W p l e rm_X4_countStanding s m args below meth c H locs 0 0 (MQ below (Qx G none h1) args s 0 0 (AA G)) (F0 m 9 ls [])) : ∀ (l0 : Option Nat) (l1 : Option Nat) (l3 : Int32) (l4 : Int32) (h : Hp) (H : Heap) (locs : List Loc) (ls : Array Slot), f_X4_countStanding_118 k9 l0 l1 l3 l4 h = some (v, h1) → Rep G h H → va_S (AA G) s.heap H locs → LV ls 8 [(0, va_rf l0), (1, va_rf l1), (3, .int l3), (4, .int l4)] → W p l e rm_X4_countStanding s m args below meth c H locs 0 0 (MQ below (Qx G none h1) args s 0 0 (AA G)) (F0 m 118 ls []) := by
  intro l0 l1 l3 l4 h H locs ls hq hR hS hl
  have hx := Z.1
  have hb := Z.2.1
  unfold f_X4_countStanding_118 at hq
  refine xinc hx hb hl (x := l4) (v := (l4 + 1)) (lv' := [(4, .int (l4 + 1)), (0, va_rf l0), (1, va_rf l1), (3, .int l3)]) 3 rfl (by rw [show Int32.ofInt (1) = (1 : Int32) from by decide]) (by decide) dX4_countStanding_118 rfl (fun ls hl => ?_)
  refine lv_goto (tgt := 9) hx hb dX4_countStanding_121 (by decide) ?_
  exact hk9 (l0, l1, l3, (l4 + 1), h) hq H locs ls hR hS (hl.sub [1, 2, 3, 0] rfl)
def fb_X4_countStanding_88  (k9 : Option Nat × Option Nat × Int32 × Int32 × Hp → Option (Unit × Hp)) (k88 : Option Nat × Option Nat × Int32 × Int32 × Option Nat × Int32 × Int32 × Hp → Option (Unit × Hp)) (l0 : Option Nat) (l1 : Option Nat) (l3 : Int32) (l4 : Int32) (l5 : Option Nat) (l6 : Int32) (l7 : Int32) (h : Hp) : Option (Unit × Hp) :=
gR h l5 1 11 (fun x92 =>
ldI h x92 l6 (fun x97 =>
(if x97 ≤ l7 then
f_X4_countStanding_118 k9 l0 l1 l3 l4 h
else
gR h l0 5 4 (fun x102 =>
ldI h x102 l7 (fun x108 =>
stI h x102 l7 (x108 + 1) (fun h =>
k88 (l0, l1, l3, l4, l5, l6, (l7 + 1), h)))))))
set_option maxHeartbeats 4000000 in
set_option maxRecDepth 100000 in
theorem tb_X4_countStanding_88 (Z : ZZ p s m args c cX4_countStanding RX4 8 G) (hr : meth.sig.returnType = none) (hlk : meth.locks = false) (hin : meth.name = "countStanding") {v : Unit} {h1 : Hp} {k9 : Option Nat × Option Nat × Int32 × Int32 × Hp → Option (Unit × Hp)} (hk9 : ∀ u : Option Nat × Option Nat × Int32 × Int32 × Hp, k9 u = some (v, h1) → ∀ (H : Heap) (locs : List Loc) (ls : Array Slot), Rep G u.2.2.2.2 H → va_S (AA G) s.heap H locs → LV ls 8 [(0, va_rf u.1), (1, va_rf u.2.1), (3, .int u.2.2.1), (4, .int u.2.2.2.1)] → W p l e rm_X4_countStanding s m args below meth c H locs 0 0 (MQ below (Qx G none h1) args s 0 0 (AA G)) (F0 m 9 ls [])) {k88 : Option Nat × Option Nat × Int32 × Int32 × Option Nat × Int32 × Int32 × Hp → Option (Unit × Hp)} (hk88 : ∀ u : Option Nat × Option Nat × Int32 × Int32 × Option Nat × Int32 × Int32 × Hp, k88 u = some (v, h1) → ∀ (H : Heap) (locs : List Loc) (ls : Array Slot), Rep G u.2.2.2.2.2.2.2 H → va_S (AA G) s.heap H locs → LV ls 8 [(0, va_rf u.1), (1, va_rf u.2.1), (3, .int u.2.2.1), (4, .int u.2.2.2.1), (5, va_rf u.2.2.2.2.1), (6, .int u.2.2.2.2.2.1), (7, .int u.2.2.2.2.2.2.1)] → W p l e rm_X4_countStanding s m args below meth c H locs 0 0 (MQ below (Qx G none h1) args s 0 0 (AA G)) (F0 m 88 ls [])) : ∀ (l0 : Option Nat) (l1 : Option Nat) (l3 : Int32) (l4 : Int32) (l5 : Option Nat) (l6 : Int32) (l7 : Int32) (h : Hp) (H : Heap) (locs : List Loc) (ls : Array Slot), fb_X4_countStanding_88 k9 k88 l0 l1 l3 l4 l5 l6 l7 h = some (v, h1) → Rep G h H → va_S (AA G) s.heap H locs → LV ls 8 [(0, va_rf l0), (1, va_rf l1), (3, .int l3), (4, .int l4), (5, va_rf l5), (6, .int l6), (7, .int l7)] → W p l e rm_X4_countStanding s m args below meth c H locs 0 0 (MQ below (Qx G none h1) args s 0 0 (AA G)) (F0 m 88 ls []) := by
  intro l0 l1 l3 l4 l5 l6 l7 h H locs ls hq hR hS hl
  have hx := Z.1
  have hb := Z.2.1
  unfold fb_X4_countStanding_88 at hq
  refine xil hx hb hl (x := l7) 6 rfl dX4_countStanding_88 ?_
  refine xal hx hb hl (x := l5) 4 rfl dX4_countStanding_90 ?_
  refine xgR Z hR hq fl_X4_127 rfl dX4_countStanding_92 (fun x92 hq => ?_)
  refine xil hx hb hl (x := l6) 5 rfl dX4_countStanding_95 ?_
  refine xaI Z hR hq dX4_countStanding_97 (fun x97 hq => ?_)
  refine xcGe hx hb hq (tgt := 118) dX4_countStanding_98 (by decide) (fun hq => ?_) (fun hq => ?_)
  · exact t_X4_countStanding_118 Z hr hlk hin hk9 l0 l1 l3 l4 h H locs ls hq hR hS (hl.sub [0, 1, 2, 3] rfl)
  refine xaln hx hb hl (x := l0) 0 rfl dX4_countStanding_101 ?_
  refine xgR Z hR hq fl_X4_18 rfl dX4_countStanding_102 (fun x102 hq => ?_)
  refine xil hx hb hl (x := l7) 6 rfl dX4_countStanding_105 ?_
  refine lv_dup2_11 hx hb dX4_countStanding_107 rfl (rf_cat x102) ?_
  refine xaI Z hR hq dX4_countStanding_108 (fun x108 hq => ?_)
  refine lv_iconst (v := 1) hx hb dX4_countStanding_109 (by decide) ?_
  refine lv_iadd hx hb dX4_countStanding_110 ?_
  refine xsI Z hR hS hq dX4_countStanding_111 (fun h H locs hq hR hS => ?_)
  refine xinc hx hb hl (x := l7) (v := (l7 + 1)) (lv' := [(7, .int (l7 + 1)), (0, va_rf l0), (1, va_rf l1), (3, .int l3), (4, .int l4), (5, va_rf l5), (6, .int l6)]) 6 rfl (by rw [show Int32.ofInt (1) = (1 : Int32) from by decide]) (by decide) dX4_countStanding_112 rfl (fun ls hl => ?_)
  refine lv_goto (tgt := 88) hx hb dX4_countStanding_115 (by decide) ?_
  exact hk88 (l0, l1, l3, l4, l5, l6, (l7 + 1), h) hq H locs ls hR hS (hl.sub [1, 2, 3, 4, 5, 6, 0] rfl)
def f_X4_countStanding_88  (k9 : Option Nat × Option Nat × Int32 × Int32 × Hp → Option (Unit × Hp)) (l0 : Option Nat) (l1 : Option Nat) (l3 : Int32) (l4 : Int32) (l5 : Option Nat) (l6 : Int32) (l7 : Int32) (h : Hp) : Option (Unit × Hp) :=
  lp (fun (k88 : Option Nat × Option Nat × Int32 × Int32 × Option Nat × Int32 × Int32 × Hp → Option (Unit × Hp)) (u : Option Nat × Option Nat × Int32 × Int32 × Option Nat × Int32 × Int32 × Hp) => fb_X4_countStanding_88 k9 k88 u.1 u.2.1 u.2.2.1 u.2.2.2.1 u.2.2.2.2.1 u.2.2.2.2.2.1 u.2.2.2.2.2.2.1 u.2.2.2.2.2.2.2) FU (l0, l1, l3, l4, l5, l6, l7, h)
theorem t_X4_countStanding_88 (Z : ZZ p s m args c cX4_countStanding RX4 8 G) (hr : meth.sig.returnType = none) (hlk : meth.locks = false) (hin : meth.name = "countStanding") {v : Unit} {h1 : Hp} {k9 : Option Nat × Option Nat × Int32 × Int32 × Hp → Option (Unit × Hp)} (hk9 : ∀ u : Option Nat × Option Nat × Int32 × Int32 × Hp, k9 u = some (v, h1) → ∀ (H : Heap) (locs : List Loc) (ls : Array Slot), Rep G u.2.2.2.2 H → va_S (AA G) s.heap H locs → LV ls 8 [(0, va_rf u.1), (1, va_rf u.2.1), (3, .int u.2.2.1), (4, .int u.2.2.2.1)] → W p l e rm_X4_countStanding s m args below meth c H locs 0 0 (MQ below (Qx G none h1) args s 0 0 (AA G)) (F0 m 9 ls [])) : ∀ (l0 : Option Nat) (l1 : Option Nat) (l3 : Int32) (l4 : Int32) (l5 : Option Nat) (l6 : Int32) (l7 : Int32) (h : Hp) (H : Heap) (locs : List Loc) (ls : Array Slot), f_X4_countStanding_88 k9 l0 l1 l3 l4 l5 l6 l7 h = some (v, h1) → Rep G h H → va_S (AA G) s.heap H locs → LV ls 8 [(0, va_rf l0), (1, va_rf l1), (3, .int l3), (4, .int l4), (5, va_rf l5), (6, .int l6), (7, .int l7)] → W p l e rm_X4_countStanding s m args below meth c H locs 0 0 (MQ below (Qx G none h1) args s 0 0 (AA G)) (F0 m 88 ls []) := by
  intro l0 l1 l3 l4 l5 l6 l7 h H locs ls hq hR hS hl
  exact lp_ind (P := fun u : Option Nat × Option Nat × Int32 × Int32 × Option Nat × Int32 × Int32 × Hp => ∀ (H : Heap) (locs : List Loc) (ls : Array Slot), Rep G u.2.2.2.2.2.2.2 H → va_S (AA G) s.heap H locs → LV ls 8 [(0, va_rf u.1), (1, va_rf u.2.1), (3, .int u.2.2.1), (4, .int u.2.2.2.1), (5, va_rf u.2.2.2.2.1), (6, .int u.2.2.2.2.2.1), (7, .int u.2.2.2.2.2.2.1)] → W p l e rm_X4_countStanding s m args below meth c H locs 0 0 (MQ below (Qx G none h1) args s 0 0 (AA G)) (F0 m 88 ls [])) (fun k hk u hq H locs ls hR hS hl => tb_X4_countStanding_88 Z hr hlk hin hk9 hk u.1 u.2.1 u.2.2.1 u.2.2.2.1 u.2.2.2.2.1 u.2.2.2.2.2.1 u.2.2.2.2.2.2.1 u.2.2.2.2.2.2.2 H locs ls hq hR hS hl) FU (l0, l1, l3, l4, l5, l6, l7, h) hq H locs ls hR hS hl
def fb_X4_countStanding_9  (k9 : Option Nat × Option Nat × Int32 × Int32 × Hp → Option (Unit × Hp)) (l0 : Option Nat) (l1 : Option Nat) (l3 : Int32) (l4 : Int32) (h : Hp) : Option (Unit × Hp) :=
gR h l0 5 1 (fun x12 =>
gR h x12 2 0 (fun x15 =>
rcv h x15 0 (fun b18 => bd (f_Jx4a65c_size_8abf5 b18 h) (fun x18 h =>
(if x18 ≤ l4 then
rtV h
else
gR h l0 5 1 (fun x25 =>
gR h x25 2 0 (fun x28 =>
rcv h x28 0 (fun b33 => bd (f_Jx4a65c_get_915e3 b33 l4 h) (fun x33 h =>
ckc h x33 1 (
rcv h x33 1 (fun b44 => bd (f_X0_stepAtStation b44 l3 h) (fun x44 h =>
(if x33 = l1 then
f_X4_countStanding_118 k9 l0 l1 l3 l4 h
else
gI h x33 1 10 (fun x57 =>
(if x57 = 0 then
f_X4_countStanding_118 k9 l0 l1 l3 l4 h
else
(if x44 ≤ 0 then
f_X4_countStanding_118 k9 l0 l1 l3 l4 h
else
rcv h x33 1 (fun b72 => bd (f_X0_steps b72 h) (fun x72 h =>
(if x72 ≤ x44 then
f_X4_countStanding_118 k9 l0 l1 l3 l4 h
else
gR h x33 1 12 (fun x80 =>
ldI h x80 x44 (fun x85 =>
f_X4_countStanding_88 k9 l0 l1 l3 l4 x33 x44 x85 h)))))))))))))))))))))
set_option maxHeartbeats 4000000 in
set_option maxRecDepth 100000 in
theorem tb_X4_countStanding_9 (Z : ZZ p s m args c cX4_countStanding RX4 8 G) (hr : meth.sig.returnType = none) (hlk : meth.locks = false) (hin : meth.name = "countStanding") {v : Unit} {h1 : Hp} {k9 : Option Nat × Option Nat × Int32 × Int32 × Hp → Option (Unit × Hp)} (hk9 : ∀ u : Option Nat × Option Nat × Int32 × Int32 × Hp, k9 u = some (v, h1) → ∀ (H : Heap) (locs : List Loc) (ls : Array Slot), Rep G u.2.2.2.2 H → va_S (AA G) s.heap H locs → LV ls 8 [(0, va_rf u.1), (1, va_rf u.2.1), (3, .int u.2.2.1), (4, .int u.2.2.2.1)] → W p l e rm_X4_countStanding s m args below meth c H locs 0 0 (MQ below (Qx G none h1) args s 0 0 (AA G)) (F0 m 9 ls [])) : ∀ (l0 : Option Nat) (l1 : Option Nat) (l3 : Int32) (l4 : Int32) (h : Hp) (H : Heap) (locs : List Loc) (ls : Array Slot), fb_X4_countStanding_9 k9 l0 l1 l3 l4 h = some (v, h1) → Rep G h H → va_S (AA G) s.heap H locs → LV ls 8 [(0, va_rf l0), (1, va_rf l1), (3, .int l3), (4, .int l4)] → W p l e rm_X4_countStanding s m args below meth c H locs 0 0 (MQ below (Qx G none h1) args s 0 0 (AA G)) (F0 m 9 ls []) := by
  intro l0 l1 l3 l4 h H locs ls hq hR hS hl
  have hx := Z.1
  have hb := Z.2.1
  unfold fb_X4_countStanding_9 at hq
  refine xil hx hb hl (x := l4) 3 rfl dX4_countStanding_9 ?_
  refine xaln hx hb hl (x := l0) 0 rfl dX4_countStanding_11 ?_
  refine xgR Z hR hq fl_X4_32 rfl dX4_countStanding_12 (fun x12 hq => ?_)
  refine xgR Z hR hq fl_X4_101 rfl dX4_countStanding_15 (fun x15 hq => ?_)
  refine xcV Z hR hS hl (rest := [.int l4]) (As := []) hq cl_X4_107 (fun b x h1 hc => c_Jx4a65c_size_8abf5 l b h x h1 hc) ⟨⟨rfl, rfl⟩, (by decide), (by decide)⟩ rfl rfl (by first | decide | (simp only [List.map_cons, List.map_nil, rf_cat, ct_int, ct_ref, List.sum_cons, List.sum_nil] <;> decide)) dX4_countStanding_18 (by decide) (fun x18 h H locs hq hR hS => ?_)
  refine xcGe hx hb hq (tgt := 124) dX4_countStanding_21 (by decide) (fun hq => ?_) (fun hq => ?_)
  · exact xrV hx hb hr hlk hR hS hq (by decide) (by decide) dX4_countStanding_124
  refine xaln hx hb hl (x := l0) 0 rfl dX4_countStanding_24 ?_
  refine xgR Z hR hq fl_X4_32 rfl dX4_countStanding_25 (fun x25 hq => ?_)
  refine xgR Z hR hq fl_X4_101 rfl dX4_countStanding_28 (fun x28 hq => ?_)
  refine xil hx hb hl (x := l4) 3 rfl dX4_countStanding_31 ?_
  refine xcV Z hR hS hl (rest := []) (As := [.int l4]) hq cl_X4_112 (fun b x h1 hc => c_Jx4a65c_get_915e3 l b l4 h x h1 hc) ⟨⟨rfl, rfl⟩, (by decide), (by decide)⟩ rfl rfl (by first | decide | (simp only [List.map_cons, List.map_nil, rf_cat, ct_int, ct_ref, List.sum_cons, List.sum_nil] <;> decide)) dX4_countStanding_33 (by decide) (fun x33 h H locs hq hR hS => ?_)
  refine xck Z hR hq ck_X4_37 dX4_countStanding_36 (fun hq => ?_)
  refine xas hx hb hl (x := x33) (lv' := [(5, va_rf x33), (0, va_rf l0), (1, va_rf l1), (3, .int l3), (4, .int l4)]) (by decide) dX4_countStanding_39 rfl (fun ls hl => ?_)
  refine xal hx hb hl (x := x33) 0 rfl dX4_countStanding_41 ?_
  refine xiln hx hb hl (x := l3) 3 rfl dX4_countStanding_43 ?_
  refine xcV Z hR hS hl (rest := []) (As := [.int l3]) hq cl_X4_141 (fun b x h1 hc => c_X0_stepAtStation l b l3 h x h1 hc) ⟨⟨rfl, rfl⟩, (by decide), (by decide)⟩ rfl rfl (by first | decide | (simp only [List.map_cons, List.map_nil, rf_cat, ct_int, ct_ref, List.sum_cons, List.sum_nil] <;> decide)) dX4_countStanding_44 (by decide) (fun x44 h H locs hq hR hS => ?_)
  refine xis hx hb hl (x := x44) (lv' := [(6, .int x44), (5, va_rf x33), (0, va_rf l0), (1, va_rf l1), (3, .int l3), (4, .int l4)]) (by decide) dX4_countStanding_47 rfl (fun ls hl => ?_)
  refine xal hx hb hl (x := x33) 1 rfl dX4_countStanding_49 ?_
  refine xaln hx hb hl (x := l1) 3 rfl dX4_countStanding_51 ?_
  refine xaEq hx hb hq (tgt := 118) dX4_countStanding_52 (by decide) (fun hq => ?_) (fun hq => ?_)
  · exact t_X4_countStanding_118 Z hr hlk hin hk9 l0 l1 l3 l4 h H locs ls hq hR hS (hl.sub [2, 3, 4, 5] rfl)
  refine xal hx hb hl (x := x33) 1 rfl dX4_countStanding_55 ?_
  refine xgI Z hR hq fl_X4_119 rfl dX4_countStanding_57 (fun x57 hq => ?_)
  refine xzEq hx hb hq (tgt := 118) dX4_countStanding_60 (by decide) (fun hq => ?_) (fun hq => ?_)
  · exact t_X4_countStanding_118 Z hr hlk hin hk9 l0 l1 l3 l4 h H locs ls hq hR hS (hl.sub [2, 3, 4, 5] rfl)
  refine xil hx hb hl (x := x44) 0 rfl dX4_countStanding_63 ?_
  refine xzLe hx hb hq (tgt := 118) dX4_countStanding_65 (by decide) (fun hq => ?_) (fun hq => ?_)
  · exact t_X4_countStanding_118 Z hr hlk hin hk9 l0 l1 l3 l4 h H locs ls hq hR hS (hl.sub [2, 3, 4, 5] rfl)
  refine xil hx hb hl (x := x44) 0 rfl dX4_countStanding_68 ?_
  refine xal hx hb hl (x := x33) 1 rfl dX4_countStanding_70 ?_
  refine xcV Z hR hS hl (rest := [.int x44]) (As := []) hq cl_X4_45 (fun b x h1 hc => c_X0_steps l b h x h1 hc) ⟨⟨rfl, rfl⟩, (by decide), (by decide)⟩ rfl rfl (by first | decide | (simp only [List.map_cons, List.map_nil, rf_cat, ct_int, ct_ref, List.sum_cons, List.sum_nil] <;> decide)) dX4_countStanding_72 (by decide) (fun x72 h H locs hq hR hS => ?_)
  refine xcGe hx hb hq (tgt := 118) dX4_countStanding_75 (by decide) (fun hq => ?_) (fun hq => ?_)
  · exact t_X4_countStanding_118 Z hr hlk hin hk9 l0 l1 l3 l4 h H locs ls hq hR hS (hl.sub [2, 3, 4, 5] rfl)
  refine xal hx hb hl (x := x33) 1 rfl dX4_countStanding_78 ?_
  refine xgR Z hR hq fl_X4_128 rfl dX4_countStanding_80 (fun x80 hq => ?_)
  refine xil hx hb hl (x := x44) 0 rfl dX4_countStanding_83 ?_
  refine xaI Z hR hq dX4_countStanding_85 (fun x85 hq => ?_)
  refine xis hx hb hl (x := x85) (lv' := [(7, .int x85), (6, .int x44), (5, va_rf x33), (0, va_rf l0), (1, va_rf l1), (3, .int l3), (4, .int l4)]) (by decide) dX4_countStanding_86 rfl (fun ls hl => ?_)
  exact t_X4_countStanding_88 Z hr hlk hin hk9 l0 l1 l3 l4 x33 x44 x85 h H locs ls hq hR hS (hl.sub [3, 4, 5, 6, 2, 1, 0] rfl)
def f_X4_countStanding_9  (l0 : Option Nat) (l1 : Option Nat) (l3 : Int32) (l4 : Int32) (h : Hp) : Option (Unit × Hp) :=
  lp (fun (k9 : Option Nat × Option Nat × Int32 × Int32 × Hp → Option (Unit × Hp)) (u : Option Nat × Option Nat × Int32 × Int32 × Hp) => fb_X4_countStanding_9 k9 u.1 u.2.1 u.2.2.1 u.2.2.2.1 u.2.2.2.2) FU (l0, l1, l3, l4, h)
theorem t_X4_countStanding_9 (Z : ZZ p s m args c cX4_countStanding RX4 8 G) (hr : meth.sig.returnType = none) (hlk : meth.locks = false) (hin : meth.name = "countStanding") {v : Unit} {h1 : Hp} : ∀ (l0 : Option Nat) (l1 : Option Nat) (l3 : Int32) (l4 : Int32) (h : Hp) (H : Heap) (locs : List Loc) (ls : Array Slot), f_X4_countStanding_9 l0 l1 l3 l4 h = some (v, h1) → Rep G h H → va_S (AA G) s.heap H locs → LV ls 8 [(0, va_rf l0), (1, va_rf l1), (3, .int l3), (4, .int l4)] → W p l e rm_X4_countStanding s m args below meth c H locs 0 0 (MQ below (Qx G none h1) args s 0 0 (AA G)) (F0 m 9 ls []) := by
  intro l0 l1 l3 l4 h H locs ls hq hR hS hl
  exact lp_ind (P := fun u : Option Nat × Option Nat × Int32 × Int32 × Hp => ∀ (H : Heap) (locs : List Loc) (ls : Array Slot), Rep G u.2.2.2.2 H → va_S (AA G) s.heap H locs → LV ls 8 [(0, va_rf u.1), (1, va_rf u.2.1), (3, .int u.2.2.1), (4, .int u.2.2.2.1)] → W p l e rm_X4_countStanding s m args below meth c H locs 0 0 (MQ below (Qx G none h1) args s 0 0 (AA G)) (F0 m 9 ls [])) (fun k hk u hq H locs ls hR hS hl => tb_X4_countStanding_9 Z hr hlk hin hk u.1 u.2.1 u.2.2.1 u.2.2.2.1 u.2.2.2.2 H locs ls hq hR hS hl) FU (l0, l1, l3, l4, h) hq H locs ls hR hS hl
def f_X4_countStanding (this : Nat) (a0 : Option Nat) (a1 : Int32) (h : Hp) : Option (Unit × Hp) :=
rcv h a0 1 (fun b2 => bd (f_X0_stationAt b2 a1 h) (fun x2 h =>
f_X4_countStanding_9 (some this) a0 x2 0 h))
set_option maxHeartbeats 4000000 in
set_option maxRecDepth 100000 in
theorem c_X4_countStanding (l : Launch) {G : GG} (this : Nat) (a0 : Option Nat) (a1 : Int32) (h : Hp) (v : Unit) (h1 : Hp) (hq : f_X4_countStanding this a0 a1 h = some (v, h1)) : Met l yX4_countStanding (Cond.code yX4_countStanding cX4_countStanding 8 none :: GT) rm_X4_countStanding (va_Pc [.ref this, va_rf a0, .int a1] (Cn G h)) (Qx G none h1) 0 0 (AA G) := by
  refine xMet (cc := cX4_countStanding) (by decide) (Nat.le_of_ble_eq_true rfl) (List.forall_mem_cons.mpr ⟨rfl, (List.forall_mem_cons.mpr ⟨(rf_cat a0), (List.forall_mem_cons.mpr ⟨rfl, (fun _ z => by cases z)⟩)⟩)⟩) ?_
  intro p e s m below meth c ls Z hr hlk hin hR hS hl
  have hx := Z.1
  have hb := Z.2.1
  have hl : LV ls 8 [(0, va_rf (some this)), (1, va_rf a0), (2, .int a1)] := hl
  unfold f_X4_countStanding at hq
  refine xaln hx hb hl (x := a0) 1 rfl dX4_countStanding_0 ?_
  refine xiln hx hb hl (x := a1) 2 rfl dX4_countStanding_1 ?_
  refine xcV Z hR hS hl (rest := []) (As := [.int a1]) hq cl_X4_138 (fun b x h1 hc => c_X0_stationAt l b a1 h x h1 hc) ⟨⟨rfl, rfl⟩, (by decide), (by decide)⟩ rfl rfl (by first | decide | (simp only [List.map_cons, List.map_nil, rf_cat, ct_int, ct_ref, List.sum_cons, List.sum_nil] <;> decide)) dX4_countStanding_2 (by decide) (fun x2 h H locs hq hR hS => ?_)
  refine xisn hx hb hl (x := x2) (lv' := [(3, .int x2), (0, va_rf (some this)), (1, va_rf a0), (2, .int a1)]) (by decide) dX4_countStanding_5 rfl (fun ls hl => ?_)
  refine lv_iconst (v := 0) hx hb dX4_countStanding_6 (by decide) ?_
  refine xis hx hb hl (x := 0) (lv' := [(4, .int 0), (3, .int x2), (0, va_rf (some this)), (1, va_rf a0), (2, .int a1)]) (by decide) dX4_countStanding_7 rfl (fun ls hl => ?_)
  exact t_X4_countStanding_9 Z hr hlk hin (some this) a0 x2 0 h _ _ ls hq hR hS (hl.sub [2, 3, 1, 0] rfl)
abbrev rm_X4_clearComings : Room := { frames := 0, cells := 0, slots := 0, locals := 0 }
def fb_X4_clearComings_5  (k5 : Option Nat × Option Nat × Int32 × Int32 × Hp → Option (Unit × Hp)) (l0 : Option Nat) (l1 : Option Nat) (l2 : Int32) (l3 : Int32) (h : Hp) : Option (Unit × Hp) :=
gI h l1 1 6 (fun x7 =>
(if x7 < l3 then
rtV h
else
gR h l0 5 2 (fun x14 =>
stZ h x14 ((l2 * 240) + l3) 0 (fun h =>
k5 (l0, l1, l2, (l3 + 1), h)))))
set_option maxHeartbeats 4000000 in
set_option maxRecDepth 100000 in
theorem tb_X4_clearComings_5 (Z : ZZ p s m args c cX4_clearComings RX4 4 G) (hr : meth.sig.returnType = none) (hlk : meth.locks = false) (hin : meth.name = "clearComings") {v : Unit} {h1 : Hp} {k5 : Option Nat × Option Nat × Int32 × Int32 × Hp → Option (Unit × Hp)} (hk5 : ∀ u : Option Nat × Option Nat × Int32 × Int32 × Hp, k5 u = some (v, h1) → ∀ (H : Heap) (locs : List Loc) (ls : Array Slot), Rep G u.2.2.2.2 H → va_S (AA G) s.heap H locs → LV ls 4 [(0, va_rf u.1), (1, va_rf u.2.1), (2, .int u.2.2.1), (3, .int u.2.2.2.1)] → W p l e rm_X4_clearComings s m args below meth c H locs 0 0 (MQ below (Qx G none h1) args s 0 0 (AA G)) (F0 m 5 ls [])) : ∀ (l0 : Option Nat) (l1 : Option Nat) (l2 : Int32) (l3 : Int32) (h : Hp) (H : Heap) (locs : List Loc) (ls : Array Slot), fb_X4_clearComings_5 k5 l0 l1 l2 l3 h = some (v, h1) → Rep G h H → va_S (AA G) s.heap H locs → LV ls 4 [(0, va_rf l0), (1, va_rf l1), (2, .int l2), (3, .int l3)] → W p l e rm_X4_clearComings s m args below meth c H locs 0 0 (MQ below (Qx G none h1) args s 0 0 (AA G)) (F0 m 5 ls []) := by
  intro l0 l1 l2 l3 h H locs ls hq hR hS hl
  have hx := Z.1
  have hb := Z.2.1
  unfold fb_X4_clearComings_5 at hq
  refine xiln hx hb hl (x := l3) 3 rfl dX4_clearComings_5 ?_
  refine xaln hx hb hl (x := l1) 1 rfl dX4_clearComings_6 ?_
  refine xgI Z hR hq fl_X4_42 rfl dX4_clearComings_7 (fun x7 hq => ?_)
  refine xcGt hx hb hq (tgt := 32) dX4_clearComings_10 (by decide) (fun hq => ?_) (fun hq => ?_)
  · exact xrV hx hb hr hlk hR hS hq (by decide) (by decide) dX4_clearComings_32
  refine xaln hx hb hl (x := l0) 0 rfl dX4_clearComings_13 ?_
  refine xgR Z hR hq fl_X4_9 rfl dX4_clearComings_14 (fun x14 hq => ?_)
  refine xiln hx hb hl (x := l2) 2 rfl dX4_clearComings_17 ?_
  refine lv_sipush (v := 240) hx hb dX4_clearComings_18 (by decide) ?_
  refine lv_imul hx hb dX4_clearComings_21 ?_
  refine xiln hx hb hl (x := l3) 3 rfl dX4_clearComings_22 ?_
  refine lv_iadd hx hb dX4_clearComings_23 ?_
  refine lv_iconst (v := 0) hx hb dX4_clearComings_24 (by decide) ?_
  refine xsZ Z hR hS hq dX4_clearComings_25 (fun h H locs hq hR hS => ?_)
  refine xinc hx hb hl (x := l3) (v := (l3 + 1)) (lv' := [(3, .int (l3 + 1)), (0, va_rf l0), (1, va_rf l1), (2, .int l2)]) 3 rfl (by rw [show Int32.ofInt (1) = (1 : Int32) from by decide]) (by decide) dX4_clearComings_26 rfl (fun ls hl => ?_)
  refine lv_goto (tgt := 5) hx hb dX4_clearComings_29 (by decide) ?_
  exact hk5 (l0, l1, l2, (l3 + 1), h) hq H locs ls hR hS (hl.sub [1, 2, 3, 0] rfl)
def f_X4_clearComings_5  (l0 : Option Nat) (l1 : Option Nat) (l2 : Int32) (l3 : Int32) (h : Hp) : Option (Unit × Hp) :=
  lp (fun (k5 : Option Nat × Option Nat × Int32 × Int32 × Hp → Option (Unit × Hp)) (u : Option Nat × Option Nat × Int32 × Int32 × Hp) => fb_X4_clearComings_5 k5 u.1 u.2.1 u.2.2.1 u.2.2.2.1 u.2.2.2.2) FU (l0, l1, l2, l3, h)
theorem t_X4_clearComings_5 (Z : ZZ p s m args c cX4_clearComings RX4 4 G) (hr : meth.sig.returnType = none) (hlk : meth.locks = false) (hin : meth.name = "clearComings") {v : Unit} {h1 : Hp} : ∀ (l0 : Option Nat) (l1 : Option Nat) (l2 : Int32) (l3 : Int32) (h : Hp) (H : Heap) (locs : List Loc) (ls : Array Slot), f_X4_clearComings_5 l0 l1 l2 l3 h = some (v, h1) → Rep G h H → va_S (AA G) s.heap H locs → LV ls 4 [(0, va_rf l0), (1, va_rf l1), (2, .int l2), (3, .int l3)] → W p l e rm_X4_clearComings s m args below meth c H locs 0 0 (MQ below (Qx G none h1) args s 0 0 (AA G)) (F0 m 5 ls []) := by
  intro l0 l1 l2 l3 h H locs ls hq hR hS hl
  exact lp_ind (P := fun u : Option Nat × Option Nat × Int32 × Int32 × Hp => ∀ (H : Heap) (locs : List Loc) (ls : Array Slot), Rep G u.2.2.2.2 H → va_S (AA G) s.heap H locs → LV ls 4 [(0, va_rf u.1), (1, va_rf u.2.1), (2, .int u.2.2.1), (3, .int u.2.2.2.1)] → W p l e rm_X4_clearComings s m args below meth c H locs 0 0 (MQ below (Qx G none h1) args s 0 0 (AA G)) (F0 m 5 ls [])) (fun k hk u hq H locs ls hR hS hl => tb_X4_clearComings_5 Z hr hlk hin hk u.1 u.2.1 u.2.2.1 u.2.2.2.1 u.2.2.2.2 H locs ls hq hR hS hl) FU (l0, l1, l2, l3, h) hq H locs ls hR hS hl
def f_X4_clearComings (this : Nat) (a0 : Option Nat) (a1 : Int32) (h : Hp) : Option (Unit × Hp) :=
gI h a0 1 5 (fun x1 =>
f_X4_clearComings_5 (some this) a0 a1 x1 h)
set_option maxHeartbeats 4000000 in
set_option maxRecDepth 100000 in
theorem c_X4_clearComings (l : Launch) {G : GG} (this : Nat) (a0 : Option Nat) (a1 : Int32) (h : Hp) (v : Unit) (h1 : Hp) (hq : f_X4_clearComings this a0 a1 h = some (v, h1)) : Met l yX4_clearComings (Cond.code yX4_clearComings cX4_clearComings 4 none :: GT) rm_X4_clearComings (va_Pc [.ref this, va_rf a0, .int a1] (Cn G h)) (Qx G none h1) 0 0 (AA G) := by
  refine xMet (cc := cX4_clearComings) (by decide) (Nat.le_of_ble_eq_true rfl) (List.forall_mem_cons.mpr ⟨rfl, (List.forall_mem_cons.mpr ⟨(rf_cat a0), (List.forall_mem_cons.mpr ⟨rfl, (fun _ z => by cases z)⟩)⟩)⟩) ?_
  intro p e s m below meth c ls Z hr hlk hin hR hS hl
  have hx := Z.1
  have hb := Z.2.1
  have hl : LV ls 4 [(0, va_rf (some this)), (1, va_rf a0), (2, .int a1)] := hl
  unfold f_X4_clearComings at hq
  refine xaln hx hb hl (x := a0) 1 rfl dX4_clearComings_0 ?_
  refine xgI Z hR hq fl_X4_36 rfl dX4_clearComings_1 (fun x1 hq => ?_)
  refine xisn hx hb hl (x := x1) (lv' := [(3, .int x1), (0, va_rf (some this)), (1, va_rf a0), (2, .int a1)]) (by decide) dX4_clearComings_4 rfl (fun ls hl => ?_)
  exact t_X4_clearComings_5 Z hr hlk hin (some this) a0 a1 x1 h _ _ ls hq hR hS (hl.sub [1, 2, 3, 0] rfl)
abbrev rm_X4_spreadComings : Room := { frames := 2, cells := 0, slots := 0, locals := 44 }
def f_X4_spreadComings_144  (k59 : Option Nat × Option Nat × Int32 × Int32 × Int32 × Int32 × Int32 × Int32 × Int32 × Hp → Option (Unit × Hp)) (l0 : Option Nat) (l1 : Option Nat) (l2 : Int32) (l3 : Int32) (l4 : Int32) (l5 : Int32) (l6 : Int32) (l7 : Int32) (l8 : Int32) (h : Hp) : Option (Unit × Hp) :=
k59 (l0, l1, l2, l3, l4, l5, l6, l7, (l8 + 1), h)
set_option maxHeartbeats 4000000 in
set_option maxRecDepth 100000 in
theorem t_X4_spreadComings_144 (Z : ZZ p s m args c cX4_spreadComings RX4 9 G) (hr : meth.sig.returnType = none) (hlk : meth.locks = false) (hin : meth.name = "spreadComings") {v : Unit} {h1 : Hp} {k59 : Option Nat × Option Nat × Int32 × Int32 × Int32 × Int32 × Int32 × Int32 × Int32 × Hp → Option (Unit × Hp)} (hk59 : ∀ u : Option Nat × Option Nat × Int32 × Int32 × Int32 × Int32 × Int32 × Int32 × Int32 × Hp, k59 u = some (v, h1) → ∀ (H : Heap) (locs : List Loc) (ls : Array Slot), Rep G u.2.2.2.2.2.2.2.2.2 H → va_S (AA G) s.heap H locs → LV ls 9 [(0, va_rf u.1), (1, va_rf u.2.1), (2, .int u.2.2.1), (3, .int u.2.2.2.1), (4, .int u.2.2.2.2.1), (5, .int u.2.2.2.2.2.1), (6, .int u.2.2.2.2.2.2.1), (7, .int u.2.2.2.2.2.2.2.1), (8, .int u.2.2.2.2.2.2.2.2.1)] → W p l e rm_X4_spreadComings s m args below meth c H locs 0 0 (MQ below (Qx G none h1) args s 0 0 (AA G)) (F0 m 59 ls [])) : ∀ (l0 : Option Nat) (l1 : Option Nat) (l2 : Int32) (l3 : Int32) (l4 : Int32) (l5 : Int32) (l6 : Int32) (l7 : Int32) (l8 : Int32) (h : Hp) (H : Heap) (locs : List Loc) (ls : Array Slot), f_X4_spreadComings_144 k59 l0 l1 l2 l3 l4 l5 l6 l7 l8 h = some (v, h1) → Rep G h H → va_S (AA G) s.heap H locs → LV ls 9 [(0, va_rf l0), (1, va_rf l1), (2, .int l2), (3, .int l3), (4, .int l4), (5, .int l5), (6, .int l6), (7, .int l7), (8, .int l8)] → W p l e rm_X4_spreadComings s m args below meth c H locs 0 0 (MQ below (Qx G none h1) args s 0 0 (AA G)) (F0 m 144 ls []) := by
  intro l0 l1 l2 l3 l4 l5 l6 l7 l8 h H locs ls hq hR hS hl
  have hx := Z.1
  have hb := Z.2.1
  unfold f_X4_spreadComings_144 at hq
  refine xinc hx hb hl (x := l8) (v := (l8 + 1)) (lv' := [(8, .int (l8 + 1)), (0, va_rf l0), (1, va_rf l1), (2, .int l2), (3, .int l3), (4, .int l4), (5, .int l5), (6, .int l6), (7, .int l7)]) 8 rfl (by rw [show Int32.ofInt (1) = (1 : Int32) from by decide]) (by decide) dX4_spreadComings_144 rfl (fun ls hl => ?_)
  refine lv_goto (tgt := 59) hx hb dX4_spreadComings_147 (by decide) ?_
  exact hk59 (l0, l1, l2, l3, l4, l5, l6, l7, (l8 + 1), h) hq H locs ls hR hS (hl.sub [1, 2, 3, 4, 5, 6, 7, 8, 0] rfl)
def f_X4_spreadComings_125  (k59 : Option Nat × Option Nat × Int32 × Int32 × Int32 × Int32 × Int32 × Int32 × Int32 × Hp → Option (Unit × Hp)) (l0 : Option Nat) (l1 : Option Nat) (l2 : Int32) (l3 : Int32) (l4 : Int32) (l5 : Int32) (l6 : Int32) (l7 : Int32) (l8 : Int32) (h : Hp) : Option (Unit × Hp) :=
(if l2 ≤ 0 then
f_X4_spreadComings_144 k59 l0 l1 l2 l3 l4 l5 l6 l7 l8 h
else
gR h l0 5 4 (fun x130 =>
ldI h x130 l8 (fun x135 =>
(if x135 < l4 then
f_X4_spreadComings_144 k59 l0 l1 l2 l3 l4 l5 l6 l7 l8 h
else
f_X4_spreadComings_144 k59 l0 l1 l2 l3 l4 l5 l6 0 l8 h))))
set_option maxHeartbeats 4000000 in
set_option maxRecDepth 100000 in
theorem t_X4_spreadComings_125 (Z : ZZ p s m args c cX4_spreadComings RX4 9 G) (hr : meth.sig.returnType = none) (hlk : meth.locks = false) (hin : meth.name = "spreadComings") {v : Unit} {h1 : Hp} {k59 : Option Nat × Option Nat × Int32 × Int32 × Int32 × Int32 × Int32 × Int32 × Int32 × Hp → Option (Unit × Hp)} (hk59 : ∀ u : Option Nat × Option Nat × Int32 × Int32 × Int32 × Int32 × Int32 × Int32 × Int32 × Hp, k59 u = some (v, h1) → ∀ (H : Heap) (locs : List Loc) (ls : Array Slot), Rep G u.2.2.2.2.2.2.2.2.2 H → va_S (AA G) s.heap H locs → LV ls 9 [(0, va_rf u.1), (1, va_rf u.2.1), (2, .int u.2.2.1), (3, .int u.2.2.2.1), (4, .int u.2.2.2.2.1), (5, .int u.2.2.2.2.2.1), (6, .int u.2.2.2.2.2.2.1), (7, .int u.2.2.2.2.2.2.2.1), (8, .int u.2.2.2.2.2.2.2.2.1)] → W p l e rm_X4_spreadComings s m args below meth c H locs 0 0 (MQ below (Qx G none h1) args s 0 0 (AA G)) (F0 m 59 ls [])) : ∀ (l0 : Option Nat) (l1 : Option Nat) (l2 : Int32) (l3 : Int32) (l4 : Int32) (l5 : Int32) (l6 : Int32) (l7 : Int32) (l8 : Int32) (h : Hp) (H : Heap) (locs : List Loc) (ls : Array Slot), f_X4_spreadComings_125 k59 l0 l1 l2 l3 l4 l5 l6 l7 l8 h = some (v, h1) → Rep G h H → va_S (AA G) s.heap H locs → LV ls 9 [(0, va_rf l0), (1, va_rf l1), (2, .int l2), (3, .int l3), (4, .int l4), (5, .int l5), (6, .int l6), (7, .int l7), (8, .int l8)] → W p l e rm_X4_spreadComings s m args below meth c H locs 0 0 (MQ below (Qx G none h1) args s 0 0 (AA G)) (F0 m 125 ls []) := by
  intro l0 l1 l2 l3 l4 l5 l6 l7 l8 h H locs ls hq hR hS hl
  have hx := Z.1
  have hb := Z.2.1
  unfold f_X4_spreadComings_125 at hq
  refine xiln hx hb hl (x := l2) 2 rfl dX4_spreadComings_125 ?_
  refine xzLe hx hb hq (tgt := 144) dX4_spreadComings_126 (by decide) (fun hq => ?_) (fun hq => ?_)
  · exact t_X4_spreadComings_144 Z hr hlk hin hk59 l0 l1 l2 l3 l4 l5 l6 l7 l8 h H locs ls hq hR hS (hl.sub [0, 1, 2, 3, 4, 5, 6, 7, 8] rfl)
  refine xaln hx hb hl (x := l0) 0 rfl dX4_spreadComings_129 ?_
  refine xgR Z hR hq fl_X4_18 rfl dX4_spreadComings_130 (fun x130 hq => ?_)
  refine xil hx hb hl (x := l8) 8 rfl dX4_spreadComings_133 ?_
  refine xaI Z hR hq dX4_spreadComings_135 (fun x135 hq => ?_)
  refine xil hx hb hl (x := l4) 4 rfl dX4_spreadComings_136 ?_
  refine xcLt hx hb hq (tgt := 144) dX4_spreadComings_138 (by decide) (fun hq => ?_) (fun hq => ?_)
  · exact t_X4_spreadComings_144 Z hr hlk hin hk59 l0 l1 l2 l3 l4 l5 l6 l7 l8 h H locs ls hq hR hS (hl.sub [0, 1, 2, 3, 4, 5, 6, 7, 8] rfl)
  refine lv_iconst (v := 0) hx hb dX4_spreadComings_141 (by decide) ?_
  refine xis hx hb hl (x := 0) (lv' := [(7, .int 0), (0, va_rf l0), (1, va_rf l1), (2, .int l2), (3, .int l3), (4, .int l4), (5, .int l5), (6, .int l6), (8, .int l8)]) (by decide) dX4_spreadComings_142 rfl (fun ls hl => ?_)
  exact t_X4_spreadComings_144 Z hr hlk hin hk59 l0 l1 l2 l3 l4 l5 l6 0 l8 h H locs ls hq hR hS (hl.sub [1, 2, 3, 4, 5, 6, 7, 0, 8] rfl)
def f_X4_spreadComings_97  (k59 : Option Nat × Option Nat × Int32 × Int32 × Int32 × Int32 × Int32 × Int32 × Int32 × Hp → Option (Unit × Hp)) (s0 : Int32) (l0 : Option Nat) (l1 : Option Nat) (l2 : Int32) (l3 : Int32) (l4 : Int32) (l5 : Int32) (l6 : Int32) (l8 : Int32) (h : Hp) : Option (Unit × Hp) :=
(if s0 = 0 then
f_X4_spreadComings_125 k59 l0 l1 l2 l3 l4 l5 l6 s0 l8 h
else
gR h l0 5 3 (fun x105 =>
ldZ h x105 l8 (fun x110 =>
(if x110 = 0 then
gR h l0 5 2 (fun x115 =>
stZ h x115 (l6 + l8) 1 (fun h =>
f_X4_spreadComings_125 k59 l0 l1 l2 l3 l4 l5 l6 s0 l8 h))
else
f_X4_spreadComings_125 k59 l0 l1 l2 l3 l4 l5 l6 s0 l8 h))))
set_option maxHeartbeats 4000000 in
set_option maxRecDepth 100000 in
theorem t_X4_spreadComings_97 (Z : ZZ p s m args c cX4_spreadComings RX4 9 G) (hr : meth.sig.returnType = none) (hlk : meth.locks = false) (hin : meth.name = "spreadComings") {v : Unit} {h1 : Hp} {k59 : Option Nat × Option Nat × Int32 × Int32 × Int32 × Int32 × Int32 × Int32 × Int32 × Hp → Option (Unit × Hp)} (hk59 : ∀ u : Option Nat × Option Nat × Int32 × Int32 × Int32 × Int32 × Int32 × Int32 × Int32 × Hp, k59 u = some (v, h1) → ∀ (H : Heap) (locs : List Loc) (ls : Array Slot), Rep G u.2.2.2.2.2.2.2.2.2 H → va_S (AA G) s.heap H locs → LV ls 9 [(0, va_rf u.1), (1, va_rf u.2.1), (2, .int u.2.2.1), (3, .int u.2.2.2.1), (4, .int u.2.2.2.2.1), (5, .int u.2.2.2.2.2.1), (6, .int u.2.2.2.2.2.2.1), (7, .int u.2.2.2.2.2.2.2.1), (8, .int u.2.2.2.2.2.2.2.2.1)] → W p l e rm_X4_spreadComings s m args below meth c H locs 0 0 (MQ below (Qx G none h1) args s 0 0 (AA G)) (F0 m 59 ls [])) : ∀ (s0 : Int32) (l0 : Option Nat) (l1 : Option Nat) (l2 : Int32) (l3 : Int32) (l4 : Int32) (l5 : Int32) (l6 : Int32) (l8 : Int32) (h : Hp) (H : Heap) (locs : List Loc) (ls : Array Slot), f_X4_spreadComings_97 k59 s0 l0 l1 l2 l3 l4 l5 l6 l8 h = some (v, h1) → Rep G h H → va_S (AA G) s.heap H locs → LV ls 9 [(0, va_rf l0), (1, va_rf l1), (2, .int l2), (3, .int l3), (4, .int l4), (5, .int l5), (6, .int l6), (8, .int l8)] → W p l e rm_X4_spreadComings s m args below meth c H locs 0 0 (MQ below (Qx G none h1) args s 0 0 (AA G)) (F0 m 97 ls [.int s0]) := by
  intro s0 l0 l1 l2 l3 l4 l5 l6 l8 h H locs ls hq hR hS hl
  have hx := Z.1
  have hb := Z.2.1
  unfold f_X4_spreadComings_97 at hq
  refine xis hx hb hl (x := s0) (lv' := [(7, .int s0), (0, va_rf l0), (1, va_rf l1), (2, .int l2), (3, .int l3), (4, .int l4), (5, .int l5), (6, .int l6), (8, .int l8)]) (by decide) dX4_spreadComings_97 rfl (fun ls hl => ?_)
  refine xil hx hb hl (x := s0) 0 rfl dX4_spreadComings_99 ?_
  refine xzEq hx hb hq (tgt := 125) dX4_spreadComings_101 (by decide) (fun hq => ?_) (fun hq => ?_)
  · exact t_X4_spreadComings_125 Z hr hlk hin hk59 l0 l1 l2 l3 l4 l5 l6 s0 l8 h H locs ls hq hR hS (hl.sub [1, 2, 3, 4, 5, 6, 7, 0, 8] rfl)
  refine xaln hx hb hl (x := l0) 1 rfl dX4_spreadComings_104 ?_
  refine xgR Z hR hq fl_X4_15 rfl dX4_spreadComings_105 (fun x105 hq => ?_)
  refine xil hx hb hl (x := l8) 8 rfl dX4_spreadComings_108 ?_
  refine xaZ Z hR hq dX4_spreadComings_110 (fun x110 hq => ?_)
  refine xzNe hx hb hq (tgt := 125) dX4_spreadComings_111 (by decide) (fun hq => ?_) (fun hq => ?_)
  · exact t_X4_spreadComings_125 Z hr hlk hin hk59 l0 l1 l2 l3 l4 l5 l6 s0 l8 h H locs ls hq hR hS (hl.sub [1, 2, 3, 4, 5, 6, 7, 0, 8] rfl)
  refine xaln hx hb hl (x := l0) 1 rfl dX4_spreadComings_114 ?_
  refine xgR Z hR hq fl_X4_9 rfl dX4_spreadComings_115 (fun x115 hq => ?_)
  refine xil hx hb hl (x := l6) 7 rfl dX4_spreadComings_118 ?_
  refine xil hx hb hl (x := l8) 8 rfl dX4_spreadComings_120 ?_
  refine lv_iadd hx hb dX4_spreadComings_122 ?_
  refine lv_iconst (v := 1) hx hb dX4_spreadComings_123 (by decide) ?_
  refine xsZ Z hR hS hq dX4_spreadComings_124 (fun h H locs hq hR hS => ?_)
  exact t_X4_spreadComings_125 Z hr hlk hin hk59 l0 l1 l2 l3 l4 l5 l6 s0 l8 h H locs ls hq hR hS (hl.sub [1, 2, 3, 4, 5, 6, 7, 0, 8] rfl)
def f_X4_spreadComings_92  (k59 : Option Nat × Option Nat × Int32 × Int32 × Int32 × Int32 × Int32 × Int32 × Int32 × Hp → Option (Unit × Hp)) (l0 : Option Nat) (l1 : Option Nat) (l2 : Int32) (l3 : Int32) (l4 : Int32) (l5 : Int32) (l6 : Int32) (l8 : Int32) (h : Hp) : Option (Unit × Hp) :=
f_X4_spreadComings_97 k59 1 l0 l1 l2 l3 l4 l5 l6 l8 h
set_option maxHeartbeats 4000000 in
set_option maxRecDepth 100000 in
theorem t_X4_spreadComings_92 (Z : ZZ p s m args c cX4_spreadComings RX4 9 G) (hr : meth.sig.returnType = none) (hlk : meth.locks = false) (hin : meth.name = "spreadComings") {v : Unit} {h1 : Hp} {k59 : Option Nat × Option Nat × Int32 × Int32 × Int32 × Int32 × Int32 × Int32 × Int32 × Hp → Option (Unit × Hp)} (hk59 : ∀ u : Option Nat × Option Nat × Int32 × Int32 × Int32 × Int32 × Int32 × Int32 × Int32 × Hp, k59 u = some (v, h1) → ∀ (H : Heap) (locs : List Loc) (ls : Array Slot), Rep G u.2.2.2.2.2.2.2.2.2 H → va_S (AA G) s.heap H locs → LV ls 9 [(0, va_rf u.1), (1, va_rf u.2.1), (2, .int u.2.2.1), (3, .int u.2.2.2.1), (4, .int u.2.2.2.2.1), (5, .int u.2.2.2.2.2.1), (6, .int u.2.2.2.2.2.2.1), (7, .int u.2.2.2.2.2.2.2.1), (8, .int u.2.2.2.2.2.2.2.2.1)] → W p l e rm_X4_spreadComings s m args below meth c H locs 0 0 (MQ below (Qx G none h1) args s 0 0 (AA G)) (F0 m 59 ls [])) : ∀ (l0 : Option Nat) (l1 : Option Nat) (l2 : Int32) (l3 : Int32) (l4 : Int32) (l5 : Int32) (l6 : Int32) (l8 : Int32) (h : Hp) (H : Heap) (locs : List Loc) (ls : Array Slot), f_X4_spreadComings_92 k59 l0 l1 l2 l3 l4 l5 l6 l8 h = some (v, h1) → Rep G h H → va_S (AA G) s.heap H locs → LV ls 9 [(0, va_rf l0), (1, va_rf l1), (2, .int l2), (3, .int l3), (4, .int l4), (5, .int l5), (6, .int l6), (8, .int l8)] → W p l e rm_X4_spreadComings s m args below meth c H locs 0 0 (MQ below (Qx G none h1) args s 0 0 (AA G)) (F0 m 92 ls []) := by
  intro l0 l1 l2 l3 l4 l5 l6 l8 h H locs ls hq hR hS hl
  have hx := Z.1
  have hb := Z.2.1
  unfold f_X4_spreadComings_92 at hq
  refine lv_iconst (v := 1) hx hb dX4_spreadComings_92 (by decide) ?_
  refine lv_goto (tgt := 97) hx hb dX4_spreadComings_93 (by decide) ?_
  exact t_X4_spreadComings_97 Z hr hlk hin hk59 1 l0 l1 l2 l3 l4 l5 l6 l8 h H locs ls hq hR hS (hl.sub [0, 1, 2, 3, 4, 5, 6, 7] rfl)
def f_X4_spreadComings_96  (k59 : Option Nat × Option Nat × Int32 × Int32 × Int32 × Int32 × Int32 × Int32 × Int32 × Hp → Option (Unit × Hp)) (l0 : Option Nat) (l1 : Option Nat) (l2 : Int32) (l3 : Int32) (l4 : Int32) (l5 : Int32) (l6 : Int32) (l8 : Int32) (h : Hp) : Option (Unit × Hp) :=
f_X4_spreadComings_97 k59 0 l0 l1 l2 l3 l4 l5 l6 l8 h
set_option maxHeartbeats 4000000 in
set_option maxRecDepth 100000 in
theorem t_X4_spreadComings_96 (Z : ZZ p s m args c cX4_spreadComings RX4 9 G) (hr : meth.sig.returnType = none) (hlk : meth.locks = false) (hin : meth.name = "spreadComings") {v : Unit} {h1 : Hp} {k59 : Option Nat × Option Nat × Int32 × Int32 × Int32 × Int32 × Int32 × Int32 × Int32 × Hp → Option (Unit × Hp)} (hk59 : ∀ u : Option Nat × Option Nat × Int32 × Int32 × Int32 × Int32 × Int32 × Int32 × Int32 × Hp, k59 u = some (v, h1) → ∀ (H : Heap) (locs : List Loc) (ls : Array Slot), Rep G u.2.2.2.2.2.2.2.2.2 H → va_S (AA G) s.heap H locs → LV ls 9 [(0, va_rf u.1), (1, va_rf u.2.1), (2, .int u.2.2.1), (3, .int u.2.2.2.1), (4, .int u.2.2.2.2.1), (5, .int u.2.2.2.2.2.1), (6, .int u.2.2.2.2.2.2.1), (7, .int u.2.2.2.2.2.2.2.1), (8, .int u.2.2.2.2.2.2.2.2.1)] → W p l e rm_X4_spreadComings s m args below meth c H locs 0 0 (MQ below (Qx G none h1) args s 0 0 (AA G)) (F0 m 59 ls [])) : ∀ (l0 : Option Nat) (l1 : Option Nat) (l2 : Int32) (l3 : Int32) (l4 : Int32) (l5 : Int32) (l6 : Int32) (l8 : Int32) (h : Hp) (H : Heap) (locs : List Loc) (ls : Array Slot), f_X4_spreadComings_96 k59 l0 l1 l2 l3 l4 l5 l6 l8 h = some (v, h1) → Rep G h H → va_S (AA G) s.heap H locs → LV ls 9 [(0, va_rf l0), (1, va_rf l1), (2, .int l2), (3, .int l3), (4, .int l4), (5, .int l5), (6, .int l6), (8, .int l8)] → W p l e rm_X4_spreadComings s m args below meth c H locs 0 0 (MQ below (Qx G none h1) args s 0 0 (AA G)) (F0 m 96 ls []) := by
  intro l0 l1 l2 l3 l4 l5 l6 l8 h H locs ls hq hR hS hl
  have hx := Z.1
  have hb := Z.2.1
  unfold f_X4_spreadComings_96 at hq
  refine lv_iconst (v := 0) hx hb dX4_spreadComings_96 (by decide) ?_
  exact t_X4_spreadComings_97 Z hr hlk hin hk59 0 l0 l1 l2 l3 l4 l5 l6 l8 h H locs ls hq hR hS (hl.sub [0, 1, 2, 3, 4, 5, 6, 7] rfl)
def fb_X4_spreadComings_59  (k59 : Option Nat × Option Nat × Int32 × Int32 × Int32 × Int32 × Int32 × Int32 × Int32 × Hp → Option (Unit × Hp)) (l0 : Option Nat) (l1 : Option Nat) (l2 : Int32) (l3 : Int32) (l4 : Int32) (l5 : Int32) (l6 : Int32) (l7 : Int32) (l8 : Int32) (h : Hp) : Option (Unit × Hp) :=
gI h l1 1 6 (fun x64 =>
(if x64 < (l8 + l3) then
rtV h
else
(if l7 = 0 then
(if l2 ≤ 0 then
f_X4_spreadComings_96 k59 l0 l1 l2 l3 l4 l5 l6 l8 h
else
gR h l0 5 2 (fun x80 =>
ldZ h x80 (l5 + l8) (fun x88 =>
(if x88 = 0 then
f_X4_spreadComings_96 k59 l0 l1 l2 l3 l4 l5 l6 l8 h
else
f_X4_spreadComings_92 k59 l0 l1 l2 l3 l4 l5 l6 l8 h))))
else
f_X4_spreadComings_92 k59 l0 l1 l2 l3 l4 l5 l6 l8 h)))
set_option maxHeartbeats 4000000 in
set_option maxRecDepth 100000 in
theorem tb_X4_spreadComings_59 (Z : ZZ p s m args c cX4_spreadComings RX4 9 G) (hr : meth.sig.returnType = none) (hlk : meth.locks = false) (hin : meth.name = "spreadComings") {v : Unit} {h1 : Hp} {k59 : Option Nat × Option Nat × Int32 × Int32 × Int32 × Int32 × Int32 × Int32 × Int32 × Hp → Option (Unit × Hp)} (hk59 : ∀ u : Option Nat × Option Nat × Int32 × Int32 × Int32 × Int32 × Int32 × Int32 × Int32 × Hp, k59 u = some (v, h1) → ∀ (H : Heap) (locs : List Loc) (ls : Array Slot), Rep G u.2.2.2.2.2.2.2.2.2 H → va_S (AA G) s.heap H locs → LV ls 9 [(0, va_rf u.1), (1, va_rf u.2.1), (2, .int u.2.2.1), (3, .int u.2.2.2.1), (4, .int u.2.2.2.2.1), (5, .int u.2.2.2.2.2.1), (6, .int u.2.2.2.2.2.2.1), (7, .int u.2.2.2.2.2.2.2.1), (8, .int u.2.2.2.2.2.2.2.2.1)] → W p l e rm_X4_spreadComings s m args below meth c H locs 0 0 (MQ below (Qx G none h1) args s 0 0 (AA G)) (F0 m 59 ls [])) : ∀ (l0 : Option Nat) (l1 : Option Nat) (l2 : Int32) (l3 : Int32) (l4 : Int32) (l5 : Int32) (l6 : Int32) (l7 : Int32) (l8 : Int32) (h : Hp) (H : Heap) (locs : List Loc) (ls : Array Slot), fb_X4_spreadComings_59 k59 l0 l1 l2 l3 l4 l5 l6 l7 l8 h = some (v, h1) → Rep G h H → va_S (AA G) s.heap H locs → LV ls 9 [(0, va_rf l0), (1, va_rf l1), (2, .int l2), (3, .int l3), (4, .int l4), (5, .int l5), (6, .int l6), (7, .int l7), (8, .int l8)] → W p l e rm_X4_spreadComings s m args below meth c H locs 0 0 (MQ below (Qx G none h1) args s 0 0 (AA G)) (F0 m 59 ls []) := by
  intro l0 l1 l2 l3 l4 l5 l6 l7 l8 h H locs ls hq hR hS hl
  have hx := Z.1
  have hb := Z.2.1
  unfold fb_X4_spreadComings_59 at hq
  refine xil hx hb hl (x := l8) 8 rfl dX4_spreadComings_59 ?_
  refine xiln hx hb hl (x := l3) 3 rfl dX4_spreadComings_61 ?_
  refine lv_iadd hx hb dX4_spreadComings_62 ?_
  refine xaln hx hb hl (x := l1) 1 rfl dX4_spreadComings_63 ?_
  refine xgI Z hR hq fl_X4_42 rfl dX4_spreadComings_64 (fun x64 hq => ?_)
  refine xcGt hx hb hq (tgt := 150) dX4_spreadComings_67 (by decide) (fun hq => ?_) (fun hq => ?_)
  · exact xrV hx hb hr hlk hR hS hq (by decide) (by decide) dX4_spreadComings_150
  refine xil hx hb hl (x := l7) 7 rfl dX4_spreadComings_70 ?_
  refine xzNe hx hb hq (tgt := 92) dX4_spreadComings_72 (by decide) (fun hq => ?_) (fun hq => ?_)
  · exact t_X4_spreadComings_92 Z hr hlk hin hk59 l0 l1 l2 l3 l4 l5 l6 l8 h H locs ls hq hR hS (hl.sub [0, 1, 2, 3, 4, 5, 6, 8] rfl)
  refine xiln hx hb hl (x := l2) 2 rfl dX4_spreadComings_75 ?_
  refine xzLe hx hb hq (tgt := 96) dX4_spreadComings_76 (by decide) (fun hq => ?_) (fun hq => ?_)
  · exact t_X4_spreadComings_96 Z hr hlk hin hk59 l0 l1 l2 l3 l4 l5 l6 l8 h H locs ls hq hR hS (hl.sub [0, 1, 2, 3, 4, 5, 6, 8] rfl)
  refine xaln hx hb hl (x := l0) 0 rfl dX4_spreadComings_79 ?_
  refine xgR Z hR hq fl_X4_9 rfl dX4_spreadComings_80 (fun x80 hq => ?_)
  refine xil hx hb hl (x := l5) 5 rfl dX4_spreadComings_83 ?_
  refine xil hx hb hl (x := l8) 8 rfl dX4_spreadComings_85 ?_
  refine lv_iadd hx hb dX4_spreadComings_87 ?_
  refine xaZ Z hR hq dX4_spreadComings_88 (fun x88 hq => ?_)
  refine xzEq hx hb hq (tgt := 96) dX4_spreadComings_89 (by decide) (fun hq => ?_) (fun hq => ?_)
  · exact t_X4_spreadComings_96 Z hr hlk hin hk59 l0 l1 l2 l3 l4 l5 l6 l8 h H locs ls hq hR hS (hl.sub [0, 1, 2, 3, 4, 5, 6, 8] rfl)
  exact t_X4_spreadComings_92 Z hr hlk hin hk59 l0 l1 l2 l3 l4 l5 l6 l8 h H locs ls hq hR hS (hl.sub [0, 1, 2, 3, 4, 5, 6, 8] rfl)
def f_X4_spreadComings_59  (l0 : Option Nat) (l1 : Option Nat) (l2 : Int32) (l3 : Int32) (l4 : Int32) (l5 : Int32) (l6 : Int32) (l7 : Int32) (l8 : Int32) (h : Hp) : Option (Unit × Hp) :=
  lp (fun (k59 : Option Nat × Option Nat × Int32 × Int32 × Int32 × Int32 × Int32 × Int32 × Int32 × Hp → Option (Unit × Hp)) (u : Option Nat × Option Nat × Int32 × Int32 × Int32 × Int32 × Int32 × Int32 × Int32 × Hp) => fb_X4_spreadComings_59 k59 u.1 u.2.1 u.2.2.1 u.2.2.2.1 u.2.2.2.2.1 u.2.2.2.2.2.1 u.2.2.2.2.2.2.1 u.2.2.2.2.2.2.2.1 u.2.2.2.2.2.2.2.2.1 u.2.2.2.2.2.2.2.2.2) FU (l0, l1, l2, l3, l4, l5, l6, l7, l8, h)
theorem t_X4_spreadComings_59 (Z : ZZ p s m args c cX4_spreadComings RX4 9 G) (hr : meth.sig.returnType = none) (hlk : meth.locks = false) (hin : meth.name = "spreadComings") {v : Unit} {h1 : Hp} : ∀ (l0 : Option Nat) (l1 : Option Nat) (l2 : Int32) (l3 : Int32) (l4 : Int32) (l5 : Int32) (l6 : Int32) (l7 : Int32) (l8 : Int32) (h : Hp) (H : Heap) (locs : List Loc) (ls : Array Slot), f_X4_spreadComings_59 l0 l1 l2 l3 l4 l5 l6 l7 l8 h = some (v, h1) → Rep G h H → va_S (AA G) s.heap H locs → LV ls 9 [(0, va_rf l0), (1, va_rf l1), (2, .int l2), (3, .int l3), (4, .int l4), (5, .int l5), (6, .int l6), (7, .int l7), (8, .int l8)] → W p l e rm_X4_spreadComings s m args below meth c H locs 0 0 (MQ below (Qx G none h1) args s 0 0 (AA G)) (F0 m 59 ls []) := by
  intro l0 l1 l2 l3 l4 l5 l6 l7 l8 h H locs ls hq hR hS hl
  exact lp_ind (P := fun u : Option Nat × Option Nat × Int32 × Int32 × Int32 × Int32 × Int32 × Int32 × Int32 × Hp => ∀ (H : Heap) (locs : List Loc) (ls : Array Slot), Rep G u.2.2.2.2.2.2.2.2.2 H → va_S (AA G) s.heap H locs → LV ls 9 [(0, va_rf u.1), (1, va_rf u.2.1), (2, .int u.2.2.1), (3, .int u.2.2.2.1), (4, .int u.2.2.2.2.1), (5, .int u.2.2.2.2.2.1), (6, .int u.2.2.2.2.2.2.1), (7, .int u.2.2.2.2.2.2.2.1), (8, .int u.2.2.2.2.2.2.2.2.1)] → W p l e rm_X4_spreadComings s m args below meth c H locs 0 0 (MQ below (Qx G none h1) args s 0 0 (AA G)) (F0 m 59 ls [])) (fun k hk u hq H locs ls hR hS hl => tb_X4_spreadComings_59 Z hr hlk hin hk u.1 u.2.1 u.2.2.1 u.2.2.2.1 u.2.2.2.2.1 u.2.2.2.2.2.1 u.2.2.2.2.2.2.1 u.2.2.2.2.2.2.2.1 u.2.2.2.2.2.2.2.2.1 u.2.2.2.2.2.2.2.2.2 H locs ls hq hR hS hl) FU (l0, l1, l2, l3, l4, l5, l6, l7, l8, h) hq H locs ls hR hS hl
def f_X4_spreadComings_51  (s0 : Int32) (l0 : Option Nat) (l1 : Option Nat) (l2 : Int32) (l3 : Int32) (l4 : Int32) (l5 : Int32) (l6 : Int32) (h : Hp) : Option (Unit × Hp) :=
gI h l1 1 5 (fun x54 =>
f_X4_spreadComings_59 l0 l1 l2 l3 l4 l5 l6 s0 x54 h)
set_option maxHeartbeats 4000000 in
set_option maxRecDepth 100000 in
theorem t_X4_spreadComings_51 (Z : ZZ p s m args c cX4_spreadComings RX4 9 G) (hr : meth.sig.returnType = none) (hlk : meth.locks = false) (hin : meth.name = "spreadComings") {v : Unit} {h1 : Hp} : ∀ (s0 : Int32) (l0 : Option Nat) (l1 : Option Nat) (l2 : Int32) (l3 : Int32) (l4 : Int32) (l5 : Int32) (l6 : Int32) (h : Hp) (H : Heap) (locs : List Loc) (ls : Array Slot), f_X4_spreadComings_51 s0 l0 l1 l2 l3 l4 l5 l6 h = some (v, h1) → Rep G h H → va_S (AA G) s.heap H locs → LV ls 9 [(0, va_rf l0), (1, va_rf l1), (2, .int l2), (3, .int l3), (4, .int l4), (5, .int l5), (6, .int l6)] → W p l e rm_X4_spreadComings s m args below meth c H locs 0 0 (MQ below (Qx G none h1) args s 0 0 (AA G)) (F0 m 51 ls [.int s0]) := by
  intro s0 l0 l1 l2 l3 l4 l5 l6 h H locs ls hq hR hS hl
  have hx := Z.1
  have hb := Z.2.1
  unfold f_X4_spreadComings_51 at hq
  refine xis hx hb hl (x := s0) (lv' := [(7, .int s0), (0, va_rf l0), (1, va_rf l1), (2, .int l2), (3, .int l3), (4, .int l4), (5, .int l5), (6, .int l6)]) (by decide) dX4_spreadComings_51 rfl (fun ls hl => ?_)
  refine xaln hx hb hl (x := l1) 2 rfl dX4_spreadComings_53 ?_
  refine xgI Z hR hq fl_X4_36 rfl dX4_spreadComings_54 (fun x54 hq => ?_)
  refine xis hx hb hl (x := x54) (lv' := [(8, .int x54), (7, .int s0), (0, va_rf l0), (1, va_rf l1), (2, .int l2), (3, .int l3), (4, .int l4), (5, .int l5), (6, .int l6)]) (by decide) dX4_spreadComings_57 rfl (fun ls hl => ?_)
  exact t_X4_spreadComings_59 Z hr hlk hin l0 l1 l2 l3 l4 l5 l6 s0 x54 h H locs ls hq hR hS (hl.sub [2, 3, 4, 5, 6, 7, 8, 1, 0] rfl)
def f_X4_spreadComings (this : Nat) (a0 : Option Nat) (a1 : Int32) (h : Hp) : Option (Unit × Hp) :=
gR h (some this) 5 0 (fun x1 =>
rcv h x1 4 (fun b6 => bd (f_X3_lengthOf b6 a0 a1 h) (fun x6 h =>
gR h (some this) 5 0 (fun x11 =>
gR h x11 4 4 (fun x14 =>
rcv h a0 1 (fun b19 => bd (f_X0_stationAt b19 a1 h) (fun x19 h =>
ldI h x14 x19 (fun x22 =>
(if a1 = 0 then
f_X4_spreadComings_51 1 (some this) a0 a1 x6 x22 (a1 * 240) (((a1 * 240) + 240) + x6) h
else
f_X4_spreadComings_51 0 (some this) a0 a1 x6 x22 (a1 * 240) (((a1 * 240) + 240) + x6) h)))))))))
set_option maxHeartbeats 4000000 in
set_option maxRecDepth 100000 in
theorem c_X4_spreadComings (l : Launch) {G : GG} (this : Nat) (a0 : Option Nat) (a1 : Int32) (h : Hp) (v : Unit) (h1 : Hp) (hq : f_X4_spreadComings this a0 a1 h = some (v, h1)) : Met l yX4_spreadComings (Cond.code yX4_spreadComings cX4_spreadComings 9 none :: GT) rm_X4_spreadComings (va_Pc [.ref this, va_rf a0, .int a1] (Cn G h)) (Qx G none h1) 0 0 (AA G) := by
  refine xMet (cc := cX4_spreadComings) (by decide) (Nat.le_of_ble_eq_true rfl) (List.forall_mem_cons.mpr ⟨rfl, (List.forall_mem_cons.mpr ⟨(rf_cat a0), (List.forall_mem_cons.mpr ⟨rfl, (fun _ z => by cases z)⟩)⟩)⟩) ?_
  intro p e s m below meth c ls Z hr hlk hin hR hS hl
  have hx := Z.1
  have hb := Z.2.1
  have hl : LV ls 9 [(0, va_rf (some this)), (1, va_rf a0), (2, .int a1)] := hl
  unfold f_X4_spreadComings at hq
  refine xaln hx hb hl (x := (some this)) 0 rfl dX4_spreadComings_0 ?_
  refine xgR Z hR hq fl_X4_28 rfl dX4_spreadComings_1 (fun x1 hq => ?_)
  refine xaln hx hb hl (x := a0) 1 rfl dX4_spreadComings_4 ?_
  refine xiln hx hb hl (x := a1) 2 rfl dX4_spreadComings_5 ?_
  refine xcV Z hR hS hl (rest := []) (As := [va_rf a0, .int a1]) hq cl_X4_76 (fun b x h1 hc => c_X3_lengthOf l b a0 a1 h x h1 hc) ⟨⟨rfl, rfl⟩, (by decide), (by decide)⟩ rfl rfl (by first | decide | (simp only [List.map_cons, List.map_nil, rf_cat, ct_int, ct_ref, List.sum_cons, List.sum_nil] <;> decide)) dX4_spreadComings_6 (by decide) (fun x6 h H locs hq hR hS => ?_)
  refine xisn hx hb hl (x := x6) (lv' := [(3, .int x6), (0, va_rf (some this)), (1, va_rf a0), (2, .int a1)]) (by decide) dX4_spreadComings_9 rfl (fun ls hl => ?_)
  refine xaln hx hb hl (x := (some this)) 1 rfl dX4_spreadComings_10 ?_
  refine xgR Z hR hq fl_X4_28 rfl dX4_spreadComings_11 (fun x11 hq => ?_)
  refine xgR Z hR hq fl_X4_144 rfl dX4_spreadComings_14 (fun x14 hq => ?_)
  refine xaln hx hb hl (x := a0) 2 rfl dX4_spreadComings_17 ?_
  refine xiln hx hb hl (x := a1) 3 rfl dX4_spreadComings_18 ?_
  refine xcV Z hR hS hl (rest := [va_rf x14]) (As := [.int a1]) hq cl_X4_138 (fun b x h1 hc => c_X0_stationAt l b a1 h x h1 hc) ⟨⟨rfl, rfl⟩, (by decide), (by decide)⟩ rfl rfl (by first | decide | (simp only [List.map_cons, List.map_nil, rf_cat, ct_int, ct_ref, List.sum_cons, List.sum_nil] <;> decide)) dX4_spreadComings_19 (by decide) (fun x19 h H locs hq hR hS => ?_)
  refine xaI Z hR hq dX4_spreadComings_22 (fun x22 hq => ?_)
  refine xis hx hb hl (x := x22) (lv' := [(4, .int x22), (3, .int x6), (0, va_rf (some this)), (1, va_rf a0), (2, .int a1)]) (by decide) dX4_spreadComings_23 rfl (fun ls hl => ?_)
  refine xiln hx hb hl (x := a1) 4 rfl dX4_spreadComings_25 ?_
  refine lv_sipush (v := 240) hx hb dX4_spreadComings_26 (by decide) ?_
  refine lv_imul hx hb dX4_spreadComings_29 ?_
  refine xis hx hb hl (x := (a1 * 240)) (lv' := [(5, .int (a1 * 240)), (4, .int x22), (3, .int x6), (0, va_rf (some this)), (1, va_rf a0), (2, .int a1)]) (by decide) dX4_spreadComings_30 rfl (fun ls hl => ?_)
  refine xil hx hb hl (x := (a1 * 240)) 0 rfl dX4_spreadComings_32 ?_
  refine lv_sipush (v := 240) hx hb dX4_spreadComings_34 (by decide) ?_
  refine lv_iadd hx hb dX4_spreadComings_37 ?_
  refine xiln hx hb hl (x := x6) 2 rfl dX4_spreadComings_38 ?_
  refine lv_iadd hx hb dX4_spreadComings_39 ?_
  refine xis hx hb hl (x := (((a1 * 240) + 240) + x6)) (lv' := [(6, .int (((a1 * 240) + 240) + x6)), (5, .int (a1 * 240)), (4, .int x22), (3, .int x6), (0, va_rf (some this)), (1, va_rf a0), (2, .int a1)]) (by decide) dX4_spreadComings_40 rfl (fun ls hl => ?_)
  refine xiln hx hb hl (x := a1) 6 rfl dX4_spreadComings_42 ?_
  refine xzNe hx hb hq (tgt := 50) dX4_spreadComings_43 (by decide) (fun hq => ?_) (fun hq => ?_)
  · refine lv_iconst (v := 0) hx hb dX4_spreadComings_50 (by decide) ?_
    exact t_X4_spreadComings_51 Z hr hlk hin 0 (some this) a0 a1 x6 x22 (a1 * 240) (((a1 * 240) + 240) + x6) h _ _ ls hq hR hS (hl.sub [4, 5, 6, 3, 2, 1, 0] rfl)
  refine lv_iconst (v := 1) hx hb dX4_spreadComings_46 (by decide) ?_
  refine lv_goto (tgt := 51) hx hb dX4_spreadComings_47 (by decide) ?_
  exact t_X4_spreadComings_51 Z hr hlk hin 1 (some this) a0 a1 x6 x22 (a1 * 240) (((a1 * 240) + 240) + x6) h _ _ ls hq hR hS (hl.sub [4, 5, 6, 3, 2, 1, 0] rfl)
abbrev rm_X4_traceBack : Room := { frames := 2, cells := 0, slots := 0, locals := 44 }
def f_X4_traceBack_86  (k10 : Option Nat × Option Nat × Int32 × Int32 × Hp → Option (Unit × Hp)) (l0 : Option Nat) (l1 : Option Nat) (l3 : Int32) (l4 : Int32) (h : Hp) : Option (Unit × Hp) :=
k10 (l0, l1, l3, (l4 + (-1)), h)
set_option maxHeartbeats 4000000 in
set_option maxRecDepth 100000 in
theorem t_X4_traceBack_86 (Z : ZZ p s m args c cX4_traceBack RX4 6 G) (hr : meth.sig.returnType = none) (hlk : meth.locks = false) (hin : meth.name = "traceBack") {v : Unit} {h1 : Hp} {k10 : Option Nat × Option Nat × Int32 × Int32 × Hp → Option (Unit × Hp)} (hk10 : ∀ u : Option Nat × Option Nat × Int32 × Int32 × Hp, k10 u = some (v, h1) → ∀ (H : Heap) (locs : List Loc) (ls : Array Slot), Rep G u.2.2.2.2 H → va_S (AA G) s.heap H locs → LV ls 6 [(0, va_rf u.1), (1, va_rf u.2.1), (3, .int u.2.2.1), (4, .int u.2.2.2.1)] → W p l e rm_X4_traceBack s m args below meth c H locs 0 0 (MQ below (Qx G none h1) args s 0 0 (AA G)) (F0 m 10 ls [])) : ∀ (l0 : Option Nat) (l1 : Option Nat) (l3 : Int32) (l4 : Int32) (h : Hp) (H : Heap) (locs : List Loc) (ls : Array Slot), f_X4_traceBack_86 k10 l0 l1 l3 l4 h = some (v, h1) → Rep G h H → va_S (AA G) s.heap H locs → LV ls 6 [(0, va_rf l0), (1, va_rf l1), (3, .int l3), (4, .int l4)] → W p l e rm_X4_traceBack s m args below meth c H locs 0 0 (MQ below (Qx G none h1) args s 0 0 (AA G)) (F0 m 86 ls []) := by
  intro l0 l1 l3 l4 h H locs ls hq hR hS hl
  have hx := Z.1
  have hb := Z.2.1
  unfold f_X4_traceBack_86 at hq
  refine xinc hx hb hl (x := l4) (v := (l4 + (-1))) (lv' := [(4, .int (l4 + (-1))), (0, va_rf l0), (1, va_rf l1), (3, .int l3)]) 3 rfl (by rw [show Int32.ofInt (-1) = (-1 : Int32) from by decide]) (by decide) dX4_traceBack_86 rfl (fun ls hl => ?_)
  refine lv_goto (tgt := 10) hx hb dX4_traceBack_89 (by decide) ?_
  exact hk10 (l0, l1, l3, (l4 + (-1)), h) hq H locs ls hR hS (hl.sub [1, 2, 3, 0] rfl)
def fb_X4_traceBack_51  (k10 : Option Nat × Option Nat × Int32 × Int32 × Hp → Option (Unit × Hp)) (k51 : Option Nat × Option Nat × Int32 × Int32 × Hp → Option (Unit × Hp)) (l0 : Option Nat) (l1 : Option Nat) (l3 : Int32) (l4 : Int32) (h : Hp) : Option (Unit × Hp) :=
(if l4 ≤ 0 then
f_X4_traceBack_86 k10 l0 l1 l3 l4 h
else
gI h l1 1 5 (fun x58 =>
(if l3 ≤ x58 then
f_X4_traceBack_86 k10 l0 l1 l3 l4 h
else
gR h l0 5 2 (fun x65 =>
ldZ h x65 ((l4 * 240) + l3) (fun x76 =>
(if x76 = 0 then
k51 (l0, l1, (l3 + (-1)), l4, h)
else
f_X4_traceBack_86 k10 l0 l1 l3 l4 h))))))
set_option maxHeartbeats 4000000 in
set_option maxRecDepth 100000 in
theorem tb_X4_traceBack_51 (Z : ZZ p s m args c cX4_traceBack RX4 6 G) (hr : meth.sig.returnType = none) (hlk : meth.locks = false) (hin : meth.name = "traceBack") {v : Unit} {h1 : Hp} {k10 : Option Nat × Option Nat × Int32 × Int32 × Hp → Option (Unit × Hp)} (hk10 : ∀ u : Option Nat × Option Nat × Int32 × Int32 × Hp, k10 u = some (v, h1) → ∀ (H : Heap) (locs : List Loc) (ls : Array Slot), Rep G u.2.2.2.2 H → va_S (AA G) s.heap H locs → LV ls 6 [(0, va_rf u.1), (1, va_rf u.2.1), (3, .int u.2.2.1), (4, .int u.2.2.2.1)] → W p l e rm_X4_traceBack s m args below meth c H locs 0 0 (MQ below (Qx G none h1) args s 0 0 (AA G)) (F0 m 10 ls [])) {k51 : Option Nat × Option Nat × Int32 × Int32 × Hp → Option (Unit × Hp)} (hk51 : ∀ u : Option Nat × Option Nat × Int32 × Int32 × Hp, k51 u = some (v, h1) → ∀ (H : Heap) (locs : List Loc) (ls : Array Slot), Rep G u.2.2.2.2 H → va_S (AA G) s.heap H locs → LV ls 6 [(0, va_rf u.1), (1, va_rf u.2.1), (3, .int u.2.2.1), (4, .int u.2.2.2.1)] → W p l e rm_X4_traceBack s m args below meth c H locs 0 0 (MQ below (Qx G none h1) args s 0 0 (AA G)) (F0 m 51 ls [])) : ∀ (l0 : Option Nat) (l1 : Option Nat) (l3 : Int32) (l4 : Int32) (h : Hp) (H : Heap) (locs : List Loc) (ls : Array Slot), fb_X4_traceBack_51 k10 k51 l0 l1 l3 l4 h = some (v, h1) → Rep G h H → va_S (AA G) s.heap H locs → LV ls 6 [(0, va_rf l0), (1, va_rf l1), (3, .int l3), (4, .int l4)] → W p l e rm_X4_traceBack s m args below meth c H locs 0 0 (MQ below (Qx G none h1) args s 0 0 (AA G)) (F0 m 51 ls []) := by
  intro l0 l1 l3 l4 h H locs ls hq hR hS hl
  have hx := Z.1
  have hb := Z.2.1
  unfold fb_X4_traceBack_51 at hq
  refine xil hx hb hl (x := l4) 3 rfl dX4_traceBack_51 ?_
  refine xzLe hx hb hq (tgt := 86) dX4_traceBack_53 (by decide) (fun hq => ?_) (fun hq => ?_)
  · exact t_X4_traceBack_86 Z hr hlk hin hk10 l0 l1 l3 l4 h H locs ls hq hR hS (hl.sub [0, 1, 2, 3] rfl)
  refine xiln hx hb hl (x := l3) 2 rfl dX4_traceBack_56 ?_
  refine xaln hx hb hl (x := l1) 1 rfl dX4_traceBack_57 ?_
  refine xgI Z hR hq fl_X4_36 rfl dX4_traceBack_58 (fun x58 hq => ?_)
  refine xcLe hx hb hq (tgt := 86) dX4_traceBack_61 (by decide) (fun hq => ?_) (fun hq => ?_)
  · exact t_X4_traceBack_86 Z hr hlk hin hk10 l0 l1 l3 l4 h H locs ls hq hR hS (hl.sub [0, 1, 2, 3] rfl)
  refine xaln hx hb hl (x := l0) 0 rfl dX4_traceBack_64 ?_
  refine xgR Z hR hq fl_X4_9 rfl dX4_traceBack_65 (fun x65 hq => ?_)
  refine xil hx hb hl (x := l4) 3 rfl dX4_traceBack_68 ?_
  refine lv_sipush (v := 240) hx hb dX4_traceBack_70 (by decide) ?_
  refine lv_imul hx hb dX4_traceBack_73 ?_
  refine xiln hx hb hl (x := l3) 2 rfl dX4_traceBack_74 ?_
  refine lv_iadd hx hb dX4_traceBack_75 ?_
  refine xaZ Z hR hq dX4_traceBack_76 (fun x76 hq => ?_)
  refine xzNe hx hb hq (tgt := 86) dX4_traceBack_77 (by decide) (fun hq => ?_) (fun hq => ?_)
  · exact t_X4_traceBack_86 Z hr hlk hin hk10 l0 l1 l3 l4 h H locs ls hq hR hS (hl.sub [0, 1, 2, 3] rfl)
  refine xinc hx hb hl (x := l3) (v := (l3 + (-1))) (lv' := [(3, .int (l3 + (-1))), (0, va_rf l0), (1, va_rf l1), (4, .int l4)]) 2 rfl (by rw [show Int32.ofInt (-1) = (-1 : Int32) from by decide]) (by decide) dX4_traceBack_80 rfl (fun ls hl => ?_)
  refine lv_goto (tgt := 51) hx hb dX4_traceBack_83 (by decide) ?_
  exact hk51 (l0, l1, (l3 + (-1)), l4, h) hq H locs ls hR hS (hl.sub [1, 2, 0, 3] rfl)
def f_X4_traceBack_51  (k10 : Option Nat × Option Nat × Int32 × Int32 × Hp → Option (Unit × Hp)) (l0 : Option Nat) (l1 : Option Nat) (l3 : Int32) (l4 : Int32) (h : Hp) : Option (Unit × Hp) :=
  lp (fun (k51 : Option Nat × Option Nat × Int32 × Int32 × Hp → Option (Unit × Hp)) (u : Option Nat × Option Nat × Int32 × Int32 × Hp) => fb_X4_traceBack_51 k10 k51 u.1 u.2.1 u.2.2.1 u.2.2.2.1 u.2.2.2.2) FU (l0, l1, l3, l4, h)
theorem t_X4_traceBack_51 (Z : ZZ p s m args c cX4_traceBack RX4 6 G) (hr : meth.sig.returnType = none) (hlk : meth.locks = false) (hin : meth.name = "traceBack") {v : Unit} {h1 : Hp} {k10 : Option Nat × Option Nat × Int32 × Int32 × Hp → Option (Unit × Hp)} (hk10 : ∀ u : Option Nat × Option Nat × Int32 × Int32 × Hp, k10 u = some (v, h1) → ∀ (H : Heap) (locs : List Loc) (ls : Array Slot), Rep G u.2.2.2.2 H → va_S (AA G) s.heap H locs → LV ls 6 [(0, va_rf u.1), (1, va_rf u.2.1), (3, .int u.2.2.1), (4, .int u.2.2.2.1)] → W p l e rm_X4_traceBack s m args below meth c H locs 0 0 (MQ below (Qx G none h1) args s 0 0 (AA G)) (F0 m 10 ls [])) : ∀ (l0 : Option Nat) (l1 : Option Nat) (l3 : Int32) (l4 : Int32) (h : Hp) (H : Heap) (locs : List Loc) (ls : Array Slot), f_X4_traceBack_51 k10 l0 l1 l3 l4 h = some (v, h1) → Rep G h H → va_S (AA G) s.heap H locs → LV ls 6 [(0, va_rf l0), (1, va_rf l1), (3, .int l3), (4, .int l4)] → W p l e rm_X4_traceBack s m args below meth c H locs 0 0 (MQ below (Qx G none h1) args s 0 0 (AA G)) (F0 m 51 ls []) := by
  intro l0 l1 l3 l4 h H locs ls hq hR hS hl
  exact lp_ind (P := fun u : Option Nat × Option Nat × Int32 × Int32 × Hp => ∀ (H : Heap) (locs : List Loc) (ls : Array Slot), Rep G u.2.2.2.2 H → va_S (AA G) s.heap H locs → LV ls 6 [(0, va_rf u.1), (1, va_rf u.2.1), (3, .int u.2.2.1), (4, .int u.2.2.2.1)] → W p l e rm_X4_traceBack s m args below meth c H locs 0 0 (MQ below (Qx G none h1) args s 0 0 (AA G)) (F0 m 51 ls [])) (fun k hk u hq H locs ls hR hS hl => tb_X4_traceBack_51 Z hr hlk hin hk10 hk u.1 u.2.1 u.2.2.1 u.2.2.2.1 u.2.2.2.2 H locs ls hq hR hS hl) FU (l0, l1, l3, l4, h) hq H locs ls hR hS hl
def fb_X4_traceBack_10  (k10 : Option Nat × Option Nat × Int32 × Int32 × Hp → Option (Unit × Hp)) (l0 : Option Nat) (l1 : Option Nat) (l3 : Int32) (l4 : Int32) (h : Hp) : Option (Unit × Hp) :=
(if l4 < 0 then
rtV h
else
gR h l0 5 0 (fun x17 =>
rcv h x17 4 (fun b23 => bd (f_X3_lengthOf b23 l1 l4 h) (fun x23 h =>
gR h l0 5 6 (fun x30 =>
stI h x30 (l4 + 1) l3 (fun h =>
gR h l0 5 5 (fun x40 =>
stI h x40 l4 (l3 - x23) (fun h =>
f_X4_traceBack_51 k10 l0 l1 (l3 - x23) l4 h))))))))
set_option maxHeartbeats 4000000 in
set_option maxRecDepth 100000 in
theorem tb_X4_traceBack_10 (Z : ZZ p s m args c cX4_traceBack RX4 6 G) (hr : meth.sig.returnType = none) (hlk : meth.locks = false) (hin : meth.name = "traceBack") {v : Unit} {h1 : Hp} {k10 : Option Nat × Option Nat × Int32 × Int32 × Hp → Option (Unit × Hp)} (hk10 : ∀ u : Option Nat × Option Nat × Int32 × Int32 × Hp, k10 u = some (v, h1) → ∀ (H : Heap) (locs : List Loc) (ls : Array Slot), Rep G u.2.2.2.2 H → va_S (AA G) s.heap H locs → LV ls 6 [(0, va_rf u.1), (1, va_rf u.2.1), (3, .int u.2.2.1), (4, .int u.2.2.2.1)] → W p l e rm_X4_traceBack s m args below meth c H locs 0 0 (MQ below (Qx G none h1) args s 0 0 (AA G)) (F0 m 10 ls [])) : ∀ (l0 : Option Nat) (l1 : Option Nat) (l3 : Int32) (l4 : Int32) (h : Hp) (H : Heap) (locs : List Loc) (ls : Array Slot), fb_X4_traceBack_10 k10 l0 l1 l3 l4 h = some (v, h1) → Rep G h H → va_S (AA G) s.heap H locs → LV ls 6 [(0, va_rf l0), (1, va_rf l1), (3, .int l3), (4, .int l4)] → W p l e rm_X4_traceBack s m args below meth c H locs 0 0 (MQ below (Qx G none h1) args s 0 0 (AA G)) (F0 m 10 ls []) := by
  intro l0 l1 l3 l4 h H locs ls hq hR hS hl
  have hx := Z.1
  have hb := Z.2.1
  unfold fb_X4_traceBack_10 at hq
  refine xil hx hb hl (x := l4) 3 rfl dX4_traceBack_10 ?_
  refine xzLt hx hb hq (tgt := 92) dX4_traceBack_12 (by decide) (fun hq => ?_) (fun hq => ?_)
  · exact xrV hx hb hr hlk hR hS hq (by decide) (by decide) dX4_traceBack_92
  refine xiln hx hb hl (x := l3) 2 rfl dX4_traceBack_15 ?_
  refine xaln hx hb hl (x := l0) 0 rfl dX4_traceBack_16 ?_
  refine xgR Z hR hq fl_X4_28 rfl dX4_traceBack_17 (fun x17 hq => ?_)
  refine xaln hx hb hl (x := l1) 1 rfl dX4_traceBack_20 ?_
  refine xil hx hb hl (x := l4) 3 rfl dX4_traceBack_21 ?_
  refine xcV Z hR hS hl (rest := [.int l3]) (As := [va_rf l1, .int l4]) hq cl_X4_76 (fun b x h1 hc => c_X3_lengthOf l b l1 l4 h x h1 hc) ⟨⟨rfl, rfl⟩, (by decide), (by decide)⟩ rfl rfl (by first | decide | (simp only [List.map_cons, List.map_nil, rf_cat, ct_int, ct_ref, List.sum_cons, List.sum_nil] <;> decide)) dX4_traceBack_23 (by decide) (fun x23 h H locs hq hR hS => ?_)
  refine lv_isub hx hb dX4_traceBack_26 ?_
  refine xis hx hb hl (x := (l3 - x23)) (lv' := [(5, .int (l3 - x23)), (0, va_rf l0), (1, va_rf l1), (3, .int l3), (4, .int l4)]) (by decide) dX4_traceBack_27 rfl (fun ls hl => ?_)
  refine xaln hx hb hl (x := l0) 1 rfl dX4_traceBack_29 ?_
  refine xgR Z hR hq fl_X4_25 rfl dX4_traceBack_30 (fun x30 hq => ?_)
  refine xil hx hb hl (x := l4) 4 rfl dX4_traceBack_33 ?_
  refine lv_iconst (v := 1) hx hb dX4_traceBack_35 (by decide) ?_
  refine lv_iadd hx hb dX4_traceBack_36 ?_
  refine xiln hx hb hl (x := l3) 3 rfl dX4_traceBack_37 ?_
  refine xsI Z hR hS hq dX4_traceBack_38 (fun h H locs hq hR hS => ?_)
  refine xaln hx hb hl (x := l0) 1 rfl dX4_traceBack_39 ?_
  refine xgR Z hR hq fl_X4_22 rfl dX4_traceBack_40 (fun x40 hq => ?_)
  refine xil hx hb hl (x := l4) 4 rfl dX4_traceBack_43 ?_
  refine xil hx hb hl (x := (l3 - x23)) 0 rfl dX4_traceBack_45 ?_
  refine xsI Z hR hS hq dX4_traceBack_47 (fun h H locs hq hR hS => ?_)
  refine xil hx hb hl (x := (l3 - x23)) 0 rfl dX4_traceBack_48 ?_
  refine xisn hx hb hl (x := (l3 - x23)) (lv' := [(3, .int (l3 - x23)), (5, .int (l3 - x23)), (0, va_rf l0), (1, va_rf l1), (4, .int l4)]) (by decide) dX4_traceBack_50 rfl (fun ls hl => ?_)
  exact t_X4_traceBack_51 Z hr hlk hin hk10 l0 l1 (l3 - x23) l4 h H locs ls hq hR hS (hl.sub [2, 3, 0, 4] rfl)
def f_X4_traceBack_10  (l0 : Option Nat) (l1 : Option Nat) (l3 : Int32) (l4 : Int32) (h : Hp) : Option (Unit × Hp) :=
  lp (fun (k10 : Option Nat × Option Nat × Int32 × Int32 × Hp → Option (Unit × Hp)) (u : Option Nat × Option Nat × Int32 × Int32 × Hp) => fb_X4_traceBack_10 k10 u.1 u.2.1 u.2.2.1 u.2.2.2.1 u.2.2.2.2) FU (l0, l1, l3, l4, h)
theorem t_X4_traceBack_10 (Z : ZZ p s m args c cX4_traceBack RX4 6 G) (hr : meth.sig.returnType = none) (hlk : meth.locks = false) (hin : meth.name = "traceBack") {v : Unit} {h1 : Hp} : ∀ (l0 : Option Nat) (l1 : Option Nat) (l3 : Int32) (l4 : Int32) (h : Hp) (H : Heap) (locs : List Loc) (ls : Array Slot), f_X4_traceBack_10 l0 l1 l3 l4 h = some (v, h1) → Rep G h H → va_S (AA G) s.heap H locs → LV ls 6 [(0, va_rf l0), (1, va_rf l1), (3, .int l3), (4, .int l4)] → W p l e rm_X4_traceBack s m args below meth c H locs 0 0 (MQ below (Qx G none h1) args s 0 0 (AA G)) (F0 m 10 ls []) := by
  intro l0 l1 l3 l4 h H locs ls hq hR hS hl
  exact lp_ind (P := fun u : Option Nat × Option Nat × Int32 × Int32 × Hp => ∀ (H : Heap) (locs : List Loc) (ls : Array Slot), Rep G u.2.2.2.2 H → va_S (AA G) s.heap H locs → LV ls 6 [(0, va_rf u.1), (1, va_rf u.2.1), (3, .int u.2.2.1), (4, .int u.2.2.2.1)] → W p l e rm_X4_traceBack s m args below meth c H locs 0 0 (MQ below (Qx G none h1) args s 0 0 (AA G)) (F0 m 10 ls [])) (fun k hk u hq H locs ls hR hS hl => tb_X4_traceBack_10 Z hr hlk hin hk u.1 u.2.1 u.2.2.1 u.2.2.2.1 u.2.2.2.2 H locs ls hq hR hS hl) FU (l0, l1, l3, l4, h) hq H locs ls hR hS hl
def f_X4_traceBack (this : Nat) (a0 : Option Nat) (a1 : Int32) (h : Hp) : Option (Unit × Hp) :=
rcv h a0 1 (fun b3 => bd (f_X0_steps b3 h) (fun x3 h =>
f_X4_traceBack_10 (some this) a0 a1 (x3 - 1) h))
set_option maxHeartbeats 4000000 in
set_option maxRecDepth 100000 in
theorem c_X4_traceBack (l : Launch) {G : GG} (this : Nat) (a0 : Option Nat) (a1 : Int32) (h : Hp) (v : Unit) (h1 : Hp) (hq : f_X4_traceBack this a0 a1 h = some (v, h1)) : Met l yX4_traceBack (Cond.code yX4_traceBack cX4_traceBack 6 none :: GT) rm_X4_traceBack (va_Pc [.ref this, va_rf a0, .int a1] (Cn G h)) (Qx G none h1) 0 0 (AA G) := by
  refine xMet (cc := cX4_traceBack) (by decide) (Nat.le_of_ble_eq_true rfl) (List.forall_mem_cons.mpr ⟨rfl, (List.forall_mem_cons.mpr ⟨(rf_cat a0), (List.forall_mem_cons.mpr ⟨rfl, (fun _ z => by cases z)⟩)⟩)⟩) ?_
  intro p e s m below meth c ls Z hr hlk hin hR hS hl
  have hx := Z.1
  have hb := Z.2.1
  have hl : LV ls 6 [(0, va_rf (some this)), (1, va_rf a0), (2, .int a1)] := hl
  unfold f_X4_traceBack at hq
  refine xiln hx hb hl (x := a1) 2 rfl dX4_traceBack_0 ?_
  refine xisn hx hb hl (x := a1) (lv' := [(3, .int a1), (0, va_rf (some this)), (1, va_rf a0), (2, .int a1)]) (by decide) dX4_traceBack_1 rfl (fun ls hl => ?_)
  refine xaln hx hb hl (x := a0) 2 rfl dX4_traceBack_2 ?_
  refine xcV Z hR hS hl (rest := []) (As := []) hq cl_X4_45 (fun b x h1 hc => c_X0_steps l b h x h1 hc) ⟨⟨rfl, rfl⟩, (by decide), (by decide)⟩ rfl rfl (by first | decide | (simp only [List.map_cons, List.map_nil, rf_cat, ct_int, ct_ref, List.sum_cons, List.sum_nil] <;> decide)) dX4_traceBack_3 (by decide) (fun x3 h H locs hq hR hS => ?_)
  refine lv_iconst (v := 1) hx hb dX4_traceBack_6 (by decide) ?_
  refine lv_isub hx hb dX4_traceBack_7 ?_
  refine xis hx hb hl (x := (x3 - 1)) (lv' := [(4, .int (x3 - 1)), (3, .int a1), (0, va_rf (some this)), (1, va_rf a0), (2, .int a1)]) (by decide) dX4_traceBack_8 rfl (fun ls hl => ?_)
  exact t_X4_traceBack_10 Z hr hlk hin (some this) a0 a1 (x3 - 1) h _ _ ls hq hR hS (hl.sub [2, 3, 1, 0] rfl)
abbrev rm_X4_endFor : Room := { frames := 4, cells := 0, slots := 0, locals := 93 }
def fb_X4_endFor_73  (k73 : Option Nat × Option Nat × Int32 × Int32 × Hp → Option (Int32 × Hp)) (l0 : Option Nat) (l1 : Option Nat) (l2 : Int32) (l3 : Int32) (h : Hp) : Option (Int32 × Hp) :=
gI h l1 1 6 (fun x75 =>
(if x75 < l3 then
rtI (-1) h
else
gR h l0 5 2 (fun x82 =>
ldZ h x82 ((l2 * 240) + l3) (fun x92 =>
(if x92 = 0 then
k73 (l0, l1, l2, (l3 + 1), h)
else
rcv h l0 5 (fun b99 => bd (f_X4_traceBack b99 l1 l3 h) (fun u99 h =>
rtI l3 h)))))))
set_option maxHeartbeats 4000000 in
set_option maxRecDepth 100000 in
theorem tb_X4_endFor_73 (Z : ZZ p s m args c cX4_endFor RX4 4 G) (hr : meth.sig.returnType = (some .int)) (hlk : meth.locks = false) (hin : meth.name = "endFor") {v : Int32} {h1 : Hp} {k73 : Option Nat × Option Nat × Int32 × Int32 × Hp → Option (Int32 × Hp)} (hk73 : ∀ u : Option Nat × Option Nat × Int32 × Int32 × Hp, k73 u = some (v, h1) → ∀ (H : Heap) (locs : List Loc) (ls : Array Slot), Rep G u.2.2.2.2 H → va_S (AA G) s.heap H locs → LV ls 4 [(0, va_rf u.1), (1, va_rf u.2.1), (2, .int u.2.2.1), (3, .int u.2.2.2.1)] → W p l e rm_X4_endFor s m args below meth c H locs 0 0 (MQ below (Qx G (some (.int v)) h1) args s 0 0 (AA G)) (F0 m 73 ls [])) : ∀ (l0 : Option Nat) (l1 : Option Nat) (l2 : Int32) (l3 : Int32) (h : Hp) (H : Heap) (locs : List Loc) (ls : Array Slot), fb_X4_endFor_73 k73 l0 l1 l2 l3 h = some (v, h1) → Rep G h H → va_S (AA G) s.heap H locs → LV ls 4 [(0, va_rf l0), (1, va_rf l1), (2, .int l2), (3, .int l3)] → W p l e rm_X4_endFor s m args below meth c H locs 0 0 (MQ below (Qx G (some (.int v)) h1) args s 0 0 (AA G)) (F0 m 73 ls []) := by
  intro l0 l1 l2 l3 h H locs ls hq hR hS hl
  have hx := Z.1
  have hb := Z.2.1
  unfold fb_X4_endFor_73 at hq
  refine xiln hx hb hl (x := l3) 3 rfl dX4_endFor_73 ?_
  refine xaln hx hb hl (x := l1) 1 rfl dX4_endFor_74 ?_
  refine xgI Z hR hq fl_X4_42 rfl dX4_endFor_75 (fun x75 hq => ?_)
  refine xcGt hx hb hq (tgt := 110) dX4_endFor_78 (by decide) (fun hq => ?_) (fun hq => ?_)
  · refine lv_iconst (v := (-1)) hx hb dX4_endFor_110 (by decide) ?_
    exact xrI hx hb hr hlk hR hS hq (by decide) (by decide) dX4_endFor_111
  refine xaln hx hb hl (x := l0) 0 rfl dX4_endFor_81 ?_
  refine xgR Z hR hq fl_X4_9 rfl dX4_endFor_82 (fun x82 hq => ?_)
  refine xiln hx hb hl (x := l2) 2 rfl dX4_endFor_85 ?_
  refine lv_sipush (v := 240) hx hb dX4_endFor_86 (by decide) ?_
  refine lv_imul hx hb dX4_endFor_89 ?_
  refine xiln hx hb hl (x := l3) 3 rfl dX4_endFor_90 ?_
  refine lv_iadd hx hb dX4_endFor_91 ?_
  refine xaZ Z hR hq dX4_endFor_92 (fun x92 hq => ?_)
  refine xzEq hx hb hq (tgt := 104) dX4_endFor_93 (by decide) (fun hq => ?_) (fun hq => ?_)
  · refine xinc hx hb hl (x := l3) (v := (l3 + 1)) (lv' := [(3, .int (l3 + 1)), (0, va_rf l0), (1, va_rf l1), (2, .int l2)]) 3 rfl (by rw [show Int32.ofInt (1) = (1 : Int32) from by decide]) (by decide) dX4_endFor_104 rfl (fun ls hl => ?_)
    refine lv_goto (tgt := 73) hx hb dX4_endFor_107 (by decide) ?_
    exact hk73 (l0, l1, l2, (l3 + 1), h) hq H locs ls hR hS (hl.sub [1, 2, 3, 0] rfl)
  refine xaln hx hb hl (x := l0) 0 rfl dX4_endFor_96 ?_
  refine xaln hx hb hl (x := l1) 1 rfl dX4_endFor_97 ?_
  refine xiln hx hb hl (x := l3) 3 rfl dX4_endFor_98 ?_
  refine xcV Z hR hS hl (rest := []) (As := [va_rf l1, .int l3]) hq cl_X4_69 (fun b x h1 hc => c_X4_traceBack l b l1 l3 h x h1 hc) ⟨⟨rfl, rfl⟩, (by decide), (by decide)⟩ rfl rfl (by first | decide | (simp only [List.map_cons, List.map_nil, rf_cat, ct_int, ct_ref, List.sum_cons, List.sum_nil] <;> decide)) dX4_endFor_99 (by decide) (fun u99 h H locs hq hR hS => ?_)
  refine xiln hx hb hl (x := l3) 3 rfl dX4_endFor_102 ?_
  exact xrI hx hb hr hlk hR hS hq (by decide) (by decide) dX4_endFor_103
def f_X4_endFor_73  (l0 : Option Nat) (l1 : Option Nat) (l2 : Int32) (l3 : Int32) (h : Hp) : Option (Int32 × Hp) :=
  lp (fun (k73 : Option Nat × Option Nat × Int32 × Int32 × Hp → Option (Int32 × Hp)) (u : Option Nat × Option Nat × Int32 × Int32 × Hp) => fb_X4_endFor_73 k73 u.1 u.2.1 u.2.2.1 u.2.2.2.1 u.2.2.2.2) FU (l0, l1, l2, l3, h)
theorem t_X4_endFor_73 (Z : ZZ p s m args c cX4_endFor RX4 4 G) (hr : meth.sig.returnType = (some .int)) (hlk : meth.locks = false) (hin : meth.name = "endFor") {v : Int32} {h1 : Hp} : ∀ (l0 : Option Nat) (l1 : Option Nat) (l2 : Int32) (l3 : Int32) (h : Hp) (H : Heap) (locs : List Loc) (ls : Array Slot), f_X4_endFor_73 l0 l1 l2 l3 h = some (v, h1) → Rep G h H → va_S (AA G) s.heap H locs → LV ls 4 [(0, va_rf l0), (1, va_rf l1), (2, .int l2), (3, .int l3)] → W p l e rm_X4_endFor s m args below meth c H locs 0 0 (MQ below (Qx G (some (.int v)) h1) args s 0 0 (AA G)) (F0 m 73 ls []) := by
  intro l0 l1 l2 l3 h H locs ls hq hR hS hl
  exact lp_ind (P := fun u : Option Nat × Option Nat × Int32 × Int32 × Hp => ∀ (H : Heap) (locs : List Loc) (ls : Array Slot), Rep G u.2.2.2.2 H → va_S (AA G) s.heap H locs → LV ls 4 [(0, va_rf u.1), (1, va_rf u.2.1), (2, .int u.2.2.1), (3, .int u.2.2.2.1)] → W p l e rm_X4_endFor s m args below meth c H locs 0 0 (MQ below (Qx G (some (.int v)) h1) args s 0 0 (AA G)) (F0 m 73 ls [])) (fun k hk u hq H locs ls hR hS hl => tb_X4_endFor_73 Z hr hlk hin hk u.1 u.2.1 u.2.2.1 u.2.2.2.1 u.2.2.2.2 H locs ls hq hR hS hl) FU (l0, l1, l2, l3, h) hq H locs ls hR hS hl
def fb_X4_endFor_20  (k20 : Option Nat × Option Nat × Int32 × Int32 × Hp → Option (Int32 × Hp)) (l0 : Option Nat) (l1 : Option Nat) (l2 : Int32) (l3 : Int32) (h : Hp) : Option (Int32 × Hp) :=
(if l2 ≤ l3 then
gI h l1 1 5 (fun x69 =>
f_X4_endFor_73 l0 l1 l2 x69 h)
else
rcv h l0 5 (fun b27 => bd (f_X4_clearMinutes b27 l1 h) (fun u27 h =>
rcv h l0 5 (fun b33 => bd (f_X4_blockByWorks b33 l1 l3 h) (fun u33 h =>
rcv h l0 5 (fun b39 => bd (f_X4_blockByOthers b39 l1 l3 h) (fun u39 h =>
rcv h l0 5 (fun b45 => bd (f_X4_countStanding b45 l1 l3 h) (fun u45 h =>
rcv h l0 5 (fun b53 => bd (f_X4_clearComings b53 l1 (l3 + 1) h) (fun u53 h =>
rcv h l0 5 (fun b59 => bd (f_X4_spreadComings b59 l1 l3 h) (fun u59 h =>
k20 (l0, l1, l2, (l3 + 1), h))))))))))))))
set_option maxHeartbeats 4000000 in
set_option maxRecDepth 100000 in
theorem tb_X4_endFor_20 (Z : ZZ p s m args c cX4_endFor RX4 4 G) (hr : meth.sig.returnType = (some .int)) (hlk : meth.locks = false) (hin : meth.name = "endFor") {v : Int32} {h1 : Hp} {k20 : Option Nat × Option Nat × Int32 × Int32 × Hp → Option (Int32 × Hp)} (hk20 : ∀ u : Option Nat × Option Nat × Int32 × Int32 × Hp, k20 u = some (v, h1) → ∀ (H : Heap) (locs : List Loc) (ls : Array Slot), Rep G u.2.2.2.2 H → va_S (AA G) s.heap H locs → LV ls 4 [(0, va_rf u.1), (1, va_rf u.2.1), (2, .int u.2.2.1), (3, .int u.2.2.2.1)] → W p l e rm_X4_endFor s m args below meth c H locs 0 0 (MQ below (Qx G (some (.int v)) h1) args s 0 0 (AA G)) (F0 m 20 ls [])) : ∀ (l0 : Option Nat) (l1 : Option Nat) (l2 : Int32) (l3 : Int32) (h : Hp) (H : Heap) (locs : List Loc) (ls : Array Slot), fb_X4_endFor_20 k20 l0 l1 l2 l3 h = some (v, h1) → Rep G h H → va_S (AA G) s.heap H locs → LV ls 4 [(0, va_rf l0), (1, va_rf l1), (2, .int l2), (3, .int l3)] → W p l e rm_X4_endFor s m args below meth c H locs 0 0 (MQ below (Qx G (some (.int v)) h1) args s 0 0 (AA G)) (F0 m 20 ls []) := by
  intro l0 l1 l2 l3 h H locs ls hq hR hS hl
  have hx := Z.1
  have hb := Z.2.1
  unfold fb_X4_endFor_20 at hq
  refine xiln hx hb hl (x := l3) 3 rfl dX4_endFor_20 ?_
  refine xiln hx hb hl (x := l2) 2 rfl dX4_endFor_21 ?_
  refine xcGe hx hb hq (tgt := 68) dX4_endFor_22 (by decide) (fun hq => ?_) (fun hq => ?_)
  · refine xaln hx hb hl (x := l1) 1 rfl dX4_endFor_68 ?_
    refine xgI Z hR hq fl_X4_36 rfl dX4_endFor_69 (fun x69 hq => ?_)
    refine xisn hx hb hl (x := x69) (lv' := [(3, .int x69), (0, va_rf l0), (1, va_rf l1), (2, .int l2)]) (by decide) dX4_endFor_72 rfl (fun ls hl => ?_)
    exact t_X4_endFor_73 Z hr hlk hin l0 l1 l2 x69 h H locs ls hq hR hS (hl.sub [1, 2, 3, 0] rfl)
  refine xaln hx hb hl (x := l0) 0 rfl dX4_endFor_25 ?_
  refine xaln hx hb hl (x := l1) 1 rfl dX4_endFor_26 ?_
  refine xcV Z hR hS hl (rest := []) (As := [va_rf l1]) hq cl_X4_49 (fun b x h1 hc => c_X4_clearMinutes l b l1 h x h1 hc) ⟨⟨rfl, rfl⟩, (by decide), (by decide)⟩ rfl rfl (by first | decide | (simp only [List.map_cons, List.map_nil, rf_cat, ct_int, ct_ref, List.sum_cons, List.sum_nil] <;> decide)) dX4_endFor_27 (by decide) (fun u27 h H locs hq hR hS => ?_)
  refine xaln hx hb hl (x := l0) 0 rfl dX4_endFor_30 ?_
  refine xaln hx hb hl (x := l1) 1 rfl dX4_endFor_31 ?_
  refine xiln hx hb hl (x := l3) 3 rfl dX4_endFor_32 ?_
  refine xcV Z hR hS hl (rest := []) (As := [va_rf l1, .int l3]) hq cl_X4_53 (fun b x h1 hc => c_X4_blockByWorks l b l1 l3 h x h1 hc) ⟨⟨rfl, rfl⟩, (by decide), (by decide)⟩ rfl rfl (by first | decide | (simp only [List.map_cons, List.map_nil, rf_cat, ct_int, ct_ref, List.sum_cons, List.sum_nil] <;> decide)) dX4_endFor_33 (by decide) (fun u33 h H locs hq hR hS => ?_)
  refine xaln hx hb hl (x := l0) 0 rfl dX4_endFor_36 ?_
  refine xaln hx hb hl (x := l1) 1 rfl dX4_endFor_37 ?_
  refine xiln hx hb hl (x := l3) 3 rfl dX4_endFor_38 ?_
  refine xcV Z hR hS hl (rest := []) (As := [va_rf l1, .int l3]) hq cl_X4_57 (fun b x h1 hc => c_X4_blockByOthers l b l1 l3 h x h1 hc) ⟨⟨rfl, rfl⟩, (by decide), (by decide)⟩ rfl rfl (by first | decide | (simp only [List.map_cons, List.map_nil, rf_cat, ct_int, ct_ref, List.sum_cons, List.sum_nil] <;> decide)) dX4_endFor_39 (by decide) (fun u39 h H locs hq hR hS => ?_)
  refine xaln hx hb hl (x := l0) 0 rfl dX4_endFor_42 ?_
  refine xaln hx hb hl (x := l1) 1 rfl dX4_endFor_43 ?_
  refine xiln hx hb hl (x := l3) 3 rfl dX4_endFor_44 ?_
  refine xcV Z hR hS hl (rest := []) (As := [va_rf l1, .int l3]) hq cl_X4_60 (fun b x h1 hc => c_X4_countStanding l b l1 l3 h x h1 hc) ⟨⟨rfl, rfl⟩, (by decide), (by decide)⟩ rfl rfl (by first | decide | (simp only [List.map_cons, List.map_nil, rf_cat, ct_int, ct_ref, List.sum_cons, List.sum_nil] <;> decide)) dX4_endFor_45 (by decide) (fun u45 h H locs hq hR hS => ?_)
  refine xaln hx hb hl (x := l0) 0 rfl dX4_endFor_48 ?_
  refine xaln hx hb hl (x := l1) 1 rfl dX4_endFor_49 ?_
  refine xiln hx hb hl (x := l3) 3 rfl dX4_endFor_50 ?_
  refine lv_iconst (v := 1) hx hb dX4_endFor_51 (by decide) ?_
  refine lv_iadd hx hb dX4_endFor_52 ?_
  refine xcV Z hR hS hl (rest := []) (As := [va_rf l1, .int (l3 + 1)]) hq cl_X4_63 (fun b x h1 hc => c_X4_clearComings l b l1 (l3 + 1) h x h1 hc) ⟨⟨rfl, rfl⟩, (by decide), (by decide)⟩ rfl rfl (by first | decide | (simp only [List.map_cons, List.map_nil, rf_cat, ct_int, ct_ref, List.sum_cons, List.sum_nil] <;> decide)) dX4_endFor_53 (by decide) (fun u53 h H locs hq hR hS => ?_)
  refine xaln hx hb hl (x := l0) 0 rfl dX4_endFor_56 ?_
  refine xaln hx hb hl (x := l1) 1 rfl dX4_endFor_57 ?_
  refine xiln hx hb hl (x := l3) 3 rfl dX4_endFor_58 ?_
  refine xcV Z hR hS hl (rest := []) (As := [va_rf l1, .int l3]) hq cl_X4_66 (fun b x h1 hc => c_X4_spreadComings l b l1 l3 h x h1 hc) ⟨⟨rfl, rfl⟩, (by decide), (by decide)⟩ rfl rfl (by first | decide | (simp only [List.map_cons, List.map_nil, rf_cat, ct_int, ct_ref, List.sum_cons, List.sum_nil] <;> decide)) dX4_endFor_59 (by decide) (fun u59 h H locs hq hR hS => ?_)
  refine xinc hx hb hl (x := l3) (v := (l3 + 1)) (lv' := [(3, .int (l3 + 1)), (0, va_rf l0), (1, va_rf l1), (2, .int l2)]) 3 rfl (by rw [show Int32.ofInt (1) = (1 : Int32) from by decide]) (by decide) dX4_endFor_62 rfl (fun ls hl => ?_)
  refine lv_goto (tgt := 20) hx hb dX4_endFor_65 (by decide) ?_
  exact hk20 (l0, l1, l2, (l3 + 1), h) hq H locs ls hR hS (hl.sub [1, 2, 3, 0] rfl)
def f_X4_endFor_20  (l0 : Option Nat) (l1 : Option Nat) (l2 : Int32) (l3 : Int32) (h : Hp) : Option (Int32 × Hp) :=
  lp (fun (k20 : Option Nat × Option Nat × Int32 × Int32 × Hp → Option (Int32 × Hp)) (u : Option Nat × Option Nat × Int32 × Int32 × Hp) => fb_X4_endFor_20 k20 u.1 u.2.1 u.2.2.1 u.2.2.2.1 u.2.2.2.2) FU (l0, l1, l2, l3, h)
theorem t_X4_endFor_20 (Z : ZZ p s m args c cX4_endFor RX4 4 G) (hr : meth.sig.returnType = (some .int)) (hlk : meth.locks = false) (hin : meth.name = "endFor") {v : Int32} {h1 : Hp} : ∀ (l0 : Option Nat) (l1 : Option Nat) (l2 : Int32) (l3 : Int32) (h : Hp) (H : Heap) (locs : List Loc) (ls : Array Slot), f_X4_endFor_20 l0 l1 l2 l3 h = some (v, h1) → Rep G h H → va_S (AA G) s.heap H locs → LV ls 4 [(0, va_rf l0), (1, va_rf l1), (2, .int l2), (3, .int l3)] → W p l e rm_X4_endFor s m args below meth c H locs 0 0 (MQ below (Qx G (some (.int v)) h1) args s 0 0 (AA G)) (F0 m 20 ls []) := by
  intro l0 l1 l2 l3 h H locs ls hq hR hS hl
  exact lp_ind (P := fun u : Option Nat × Option Nat × Int32 × Int32 × Hp => ∀ (H : Heap) (locs : List Loc) (ls : Array Slot), Rep G u.2.2.2.2 H → va_S (AA G) s.heap H locs → LV ls 4 [(0, va_rf u.1), (1, va_rf u.2.1), (2, .int u.2.2.1), (3, .int u.2.2.2.1)] → W p l e rm_X4_endFor s m args below meth c H locs 0 0 (MQ below (Qx G (some (.int v)) h1) args s 0 0 (AA G)) (F0 m 20 ls [])) (fun k hk u hq H locs ls hR hS hl => tb_X4_endFor_20 Z hr hlk hin hk u.1 u.2.1 u.2.2.1 u.2.2.2.1 u.2.2.2.2 H locs ls hq hR hS hl) FU (l0, l1, l2, l3, h) hq H locs ls hR hS hl
def f_X4_endFor (this : Nat) (a0 : Option Nat) (h : Hp) : Option (Int32 × Hp) :=
gI h a0 1 5 (fun x1 =>
gI h a0 1 6 (fun x5 =>
(if x1 ≤ x5 then
rcv h a0 1 (fun b14 => bd (f_X0_steps b14 h) (fun x14 h =>
f_X4_endFor_20 (some this) a0 x14 0 h))
else
rtI (-1) h)))
set_option maxHeartbeats 4000000 in
set_option maxRecDepth 100000 in
theorem c_X4_endFor (l : Launch) {G : GG} (this : Nat) (a0 : Option Nat) (h : Hp) (v : Int32) (h1 : Hp) (hq : f_X4_endFor this a0 h = some (v, h1)) : Met l yX4_endFor (Cond.code yX4_endFor cX4_endFor 4 (some .int) :: GT) rm_X4_endFor (va_Pc [.ref this, va_rf a0] (Cn G h)) (Qx G (some (.int v)) h1) 0 0 (AA G) := by
  refine xMet (cc := cX4_endFor) (by decide) (Nat.le_of_ble_eq_true rfl) (List.forall_mem_cons.mpr ⟨rfl, (List.forall_mem_cons.mpr ⟨(rf_cat a0), (fun _ z => by cases z)⟩)⟩) ?_
  intro p e s m below meth c ls Z hr hlk hin hR hS hl
  have hx := Z.1
  have hb := Z.2.1
  have hl : LV ls 4 [(0, va_rf (some this)), (1, va_rf a0)] := hl
  unfold f_X4_endFor at hq
  refine xaln hx hb hl (x := a0) 1 rfl dX4_endFor_0 ?_
  refine xgI Z hR hq fl_X4_36 rfl dX4_endFor_1 (fun x1 hq => ?_)
  refine xaln hx hb hl (x := a0) 1 rfl dX4_endFor_4 ?_
  refine xgI Z hR hq fl_X4_42 rfl dX4_endFor_5 (fun x5 hq => ?_)
  refine xcLe hx hb hq (tgt := 13) dX4_endFor_8 (by decide) (fun hq => ?_) (fun hq => ?_)
  · refine xaln hx hb hl (x := a0) 1 rfl dX4_endFor_13 ?_
    refine xcV Z hR hS hl (rest := []) (As := []) hq cl_X4_45 (fun b x h1 hc => c_X0_steps l b h x h1 hc) ⟨⟨rfl, rfl⟩, (by decide), (by decide)⟩ rfl rfl (by first | decide | (simp only [List.map_cons, List.map_nil, rf_cat, ct_int, ct_ref, List.sum_cons, List.sum_nil] <;> decide)) dX4_endFor_14 (by decide) (fun x14 h H locs hq hR hS => ?_)
    refine xisn hx hb hl (x := x14) (lv' := [(2, .int x14), (0, va_rf (some this)), (1, va_rf a0)]) (by decide) dX4_endFor_17 rfl (fun ls hl => ?_)
    refine lv_iconst (v := 0) hx hb dX4_endFor_18 (by decide) ?_
    refine xisn hx hb hl (x := 0) (lv' := [(3, .int 0), (2, .int x14), (0, va_rf (some this)), (1, va_rf a0)]) (by decide) dX4_endFor_19 rfl (fun ls hl => ?_)
    exact t_X4_endFor_20 Z hr hlk hin (some this) a0 x14 0 h _ _ ls hq hR hS (hl.sub [2, 3, 1, 0] rfl)
  refine lv_iconst (v := (-1)) hx hb dX4_endFor_11 (by decide) ?_
  exact xrI hx hb hr hlk hR hS hq (by decide) (by decide) dX4_endFor_12
end
