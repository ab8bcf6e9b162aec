theorem fl_X6_9 : FL RX6 9 7 3 := ⟨_, TX6, 11, "FreightPaths$Run", rfl, by decide, by decide +kernel, Or.inl rfl⟩
theorem fl_X6_15 : FL RX6 15 7 4 := ⟨_, TX6, 11, "FreightPaths$Run", rfl, by decide, by decide +kernel, Or.inl rfl⟩
theorem fl_X6_18 : FL RX6 18 7 5 := ⟨_, TX6, 11, "FreightPaths$Run", rfl, by decide, by decide +kernel, Or.inl rfl⟩
theorem fl_X6_21 : FL RX6 21 7 6 := ⟨_, TX6, 11, "FreightPaths$Run", rfl, by decide, by decide +kernel, Or.inl rfl⟩
theorem fl_X6_24 : FL RX6 24 7 7 := ⟨_, TX6, 11, "FreightPaths$Run", rfl, by decide, by decide +kernel, Or.inl rfl⟩
theorem fl_X6_27 : FL RX6 27 7 8 := ⟨_, TX6, 11, "FreightPaths$Run", rfl, by decide, by decide +kernel, Or.inl rfl⟩
theorem fl_X6_30 : FL RX6 30 7 9 := ⟨_, TX6, 11, "FreightPaths$Run", rfl, by decide, by decide +kernel, Or.inl rfl⟩
theorem fl_X6_33 : FL RX6 33 7 10 := ⟨_, TX6, 11, "FreightPaths$Run", rfl, by decide, by decide +kernel, Or.inl rfl⟩
theorem fl_X6_36 : FL RX6 36 7 0 := ⟨_, TX6, 11, "FreightPaths$Run", rfl, by decide, by decide +kernel, Or.inl rfl⟩
theorem fl_X6_40 : FL RX6 40 7 1 := ⟨_, TX6, 11, "FreightPaths$Run", rfl, by decide, by decide +kernel, Or.inl rfl⟩
theorem fl_X6_44 : FL RX6 44 7 2 := ⟨_, TX6, 11, "FreightPaths$Run", rfl, by decide, by decide +kernel, Or.inl rfl⟩
theorem fl_X6_51 : FL RX6 51 2 1 := ⟨_, TX1, 2, "FreightPaths$Book", rfl, by decide, by decide +kernel, Or.inl rfl⟩
theorem fl_X6_78 : FL RX6 78 2 0 := ⟨_, TX1, 2, "FreightPaths$Book", rfl, by decide, by decide +kernel, Or.inl rfl⟩
theorem fl_X6_81 : FL RX6 81 1 13 := ⟨_, TX0, 14, "FreightPaths$Bid", rfl, by decide, by decide +kernel, Or.inl rfl⟩
theorem fl_X6_84 : FL RX6 84 1 2 := ⟨_, TX0, 14, "FreightPaths$Bid", rfl, by decide, by decide +kernel, Or.inl rfl⟩
theorem fl_X6_88 : FL RX6 88 1 0 := ⟨_, TX0, 14, "FreightPaths$Bid", rfl, by decide, by decide +kernel, Or.inl rfl⟩
theorem fl_X6_91 : FL RX6 91 1 10 := ⟨_, TX0, 14, "FreightPaths$Bid", rfl, by decide, by decide +kernel, Or.inl rfl⟩
theorem fl_X6_97 : FL RX6 97 1 11 := ⟨_, TX0, 14, "FreightPaths$Bid", rfl, by decide, by decide +kernel, Or.inl rfl⟩
theorem fl_X6_104 : FL RX6 104 4 1 := ⟨_, TX3, 10, "FreightPaths$Line", rfl, by decide, by decide +kernel, Or.inl rfl⟩
theorem fl_X6_127 : FL RX6 127 1 12 := ⟨_, TX0, 14, "FreightPaths$Bid", rfl, by decide, by decide +kernel, Or.inl rfl⟩
theorem fl_X6_133 : FL RX6 133 1 1 := ⟨_, TX0, 14, "FreightPaths$Bid", rfl, by decide, by decide +kernel, Or.inl rfl⟩
theorem if_X6_7_0 : iF RX6 7 0 := fun _ _ _ z => by cases z; exact ⟨rfl, rfl⟩
theorem if_X6_7_1 : iF RX6 7 1 := fun _ _ _ z => by cases z; exact ⟨rfl, rfl⟩
theorem nf_7_2 : nF 7 2 := fun _ _ _ z => by cases z; rfl
theorem if_X6_7_3 : iF RX6 7 3 := fun _ _ _ z => by cases z; exact ⟨rfl, rfl⟩
theorem if_X6_7_4 : iF RX6 7 4 := fun _ _ _ z => by cases z; exact ⟨rfl, rfl⟩
theorem if_X6_7_5 : iF RX6 7 5 := fun _ _ _ z => by cases z; exact ⟨rfl, rfl⟩
theorem if_X6_7_6 : iF RX6 7 6 := fun _ _ _ z => by cases z; exact ⟨rfl, rfl⟩
theorem if_X6_7_7 : iF RX6 7 7 := fun _ _ _ z => by cases z; exact ⟨rfl, rfl⟩
theorem if_X6_7_8 : iF RX6 7 8 := fun _ _ _ z => by cases z; exact ⟨rfl, rfl⟩
theorem if_X6_7_9 : iF RX6 7 9 := fun _ _ _ z => by cases z; exact ⟨rfl, rfl⟩
theorem if_X6_7_10 : iF RX6 7 10 := fun _ _ _ z => by cases z; exact ⟨rfl, rfl⟩
theorem ck_X6_67 : (∃ T : u_T, vwCl[1]? = some ("FreightPaths$Bid", T, 14)) ∧ Cond.classLink RX6 67 "FreightPaths$Bid" ∈ GT := ⟨⟨TX0, rfl⟩, by decide +kernel⟩
theorem lk_X6_3 : Cond.methodLink RX6 3 objectInit ∈ GT := by decide +kernel
theorem me_X6_reset : Cond.instanceMethod yX6_reset ∈ GT ∧ Cond.selects RX6 yX6_reset yX6_reset ∈ GT ∧ Cond.initialized RX6 ∈ GT ∧ Cond.code yX6_reset cX6_reset 3 none ∈ GT := ⟨by decide +kernel, by decide +kernel, by decide +kernel, by decide +kernel⟩
theorem cl_X6_48 : VL RX6 48 7 yX6_reset cX6_reset 3 none 0 := ⟨⟨TX6, 11, rfl⟩, ⟨by decide +kernel, me_X6_reset⟩, by decide, by decide, by decide +kernel⟩
theorem cl_X6_57 : VL RX6 57 0 yJx4a65c_size_8abf5 cJx4a65c_size_8abf5 1 (some .int) 0 := ⟨⟨TJx4a65c, 3, rfl⟩, ⟨by decide +kernel, me_Jx4a65c_size_8abf5⟩, by decide, by decide, by decide +kernel⟩
theorem cl_X6_63 : VL RX6 63 0 yJx4a65c_get_915e3 cJx4a65c_get_915e3 2 (some (.object "java/lang/Object")) 1 := ⟨⟨TJx4a65c, 3, rfl⟩, ⟨by decide +kernel, me_Jx4a65c_get_915e3⟩, by decide, by decide, by decide +kernel⟩
theorem me_X6_wantsToLeave : Cond.instanceMethod yX6_wantsToLeave ∈ GT ∧ Cond.selects RX6 yX6_wantsToLeave yX6_wantsToLeave ∈ GT ∧ Cond.initialized RX6 ∈ GT ∧ Cond.code yX6_wantsToLeave cX6_wantsToLeave 4 (some .boolean) ∈ GT := ⟨by decide +kernel, by decide +kernel, by decide +kernel, by decide +kernel⟩
theorem cl_X6_69 : VL RX6 69 7 yX6_wantsToLeave cX6_wantsToLeave 4 (some .boolean) 2 := ⟨⟨TX6, 11, rfl⟩, ⟨by decide +kernel, me_X6_wantsToLeave⟩, by decide, by decide, by decide +kernel⟩
theorem me_X6_leaveOrPutDown : Cond.instanceMethod yX6_leaveOrPutDown ∈ GT ∧ Cond.selects RX6 yX6_leaveOrPutDown yX6_leaveOrPutDown ∈ GT ∧ Cond.initialized RX6 ∈ GT ∧ Cond.code yX6_leaveOrPutDown cX6_leaveOrPutDown 7 none ∈ GT := ⟨by decide +kernel, by decide +kernel, by decide +kernel, by decide +kernel⟩
theorem cl_X6_73 : VL RX6 73 7 yX6_leaveOrPutDown cX6_leaveOrPutDown 7 none 2 := ⟨⟨TX6, 11, rfl⟩, ⟨by decide +kernel, me_X6_leaveOrPutDown⟩, by decide, by decide, by decide +kernel⟩
theorem cl_X6_77 : VL RX6 77 2 yX1_size cX1_size 1 (some .int) 0 := ⟨⟨TX1, 2, rfl⟩, ⟨by decide +kernel, me_X1_size⟩, by decide, by decide, by decide +kernel⟩
theorem cl_X6_94 : VL RX6 94 1 yX0_steps cX0_steps 1 (some .int) 0 := ⟨⟨TX0, 14, rfl⟩, ⟨by decide +kernel, me_X0_steps⟩, by decide, by decide, by decide +kernel⟩
theorem cl_X6_100 : VL RX6 100 1 yX0_sectionAt cX0_sectionAt 2 (some .int) 1 := ⟨⟨TX0, 14, rfl⟩, ⟨by decide +kernel, me_X0_sectionAt⟩, by decide, by decide, by decide +kernel⟩
theorem cl_X6_110 : VL RX6 110 1 yX0_way cX0_way 1 (some .int) 0 := ⟨⟨TX0, 14, rfl⟩, ⟨by decide +kernel, me_X0_way⟩, by decide, by decide, by decide +kernel⟩
theorem cl_X6_113 : VL RX6 113 4 yX3_isClosed cX3_isClosed 4 (some .boolean) 2 := ⟨⟨TX3, 10, rfl⟩, ⟨by decide +kernel, me_X3_isClosed⟩, by decide, by decide, by decide +kernel⟩
theorem cl_X6_117 : VL RX6 117 4 yX3_lengthOf cX3_lengthOf 4 (some .int) 2 := ⟨⟨TX3, 10, rfl⟩, ⟨by decide +kernel, me_X3_lengthOf⟩, by decide, by decide, by decide +kernel⟩
theorem cl_X6_121 : VL RX6 121 4 yX3_holdBehind cX3_holdBehind 1 (some .int) 0 := ⟨⟨TX3, 10, rfl⟩, ⟨by decide +kernel, me_X3_holdBehind⟩, by decide, by decide, by decide +kernel⟩
theorem cl_X6_124 : VL RX6 124 1 yX0_stationAt cX0_stationAt 2 (some .int) 1 := ⟨⟨TX0, 14, rfl⟩, ⟨by decide +kernel, me_X0_stationAt⟩, by decide, by decide, by decide +kernel⟩
theorem me_X6_toOthers : Cond.instanceMethod yX6_toOthers ∈ GT ∧ Cond.selects RX6 yX6_toOthers yX6_toOthers ∈ GT ∧ Cond.initialized RX6 ∈ GT ∧ Cond.code yX6_toOthers cX6_toOthers 4 (some .int) ∈ GT := ⟨by decide +kernel, by decide +kernel, by decide +kernel, by decide +kernel⟩
theorem cl_X6_130 : VL RX6 130 7 yX6_toOthers cX6_toOthers 4 (some .int) 1 := ⟨⟨TX6, 11, rfl⟩, ⟨by decide +kernel, me_X6_toOthers⟩, by decide, by decide, by decide +kernel⟩
section
variable {p : Program} {l : Launch} {e : Env} {s : State} {m : MethodId} {args : Array Value} {below : List Frame} {meth : Method} {c : Code} {G : GG}
abbrev rm_X6_init : Room := { frames := 1, cells := 8, slots := 368, locals := 20 }
def f_X6_init (this : Nat) (a0 : Option Nat) (a1 : Option Nat) (h : Hp) : Option (Unit × Hp) :=
nwI h 16 (fun n7 h =>
pR h (some this) 7 3 (some n7) (fun h =>
nwI h 16 (fun n15 h =>
pR h (some this) 7 4 (some n15) (fun h =>
nwI h 16 (fun n23 h =>
pR h (some this) 7 5 (some n23) (fun h =>
nwI h 16 (fun n31 h =>
pR h (some this) 7 6 (some n31) (fun h =>
nwI h 16 (fun n39 h =>
pR h (some this) 7 7 (some n39) (fun h =>
nwI h 256 (fun n48 h =>
pR h (some this) 7 8 (some n48) (fun h =>
nwI h 16 (fun n56 h =>
pR h (some this) 7 9 (some n56) (fun h =>
nwI h 16 (fun n64 h =>
pR h (some this) 7 10 (some n64) (fun h =>
pR h (some this) 7 0 a0 (fun h =>
pR h (some this) 7 1 a1 (fun h =>
rtV h))))))))))))))))))
set_option maxHeartbeats 4000000 in
set_option maxRecDepth 100000 in
theorem c_X6_init (l : Launch) {G : GG} (this : Nat) (a0 : Option Nat) (a1 : Option Nat) (h : Hp) (v : Unit) (h1 : Hp) (hq : f_X6_init this a0 a1 h = some (v, h1)) : Met l yX6_init (Cond.code yX6_init cX6_init 3 none :: GT) rm_X6_init (va_Pc [.ref this, va_rf a0, va_rf a1] (Cn G h)) (Qx G none h1) 8 368 (AA G) := by
  refine xMet (cc := cX6_init) (by decide) (Nat.le_of_ble_eq_true rfl) (List.forall_mem_cons.mpr ⟨rfl, (List.forall_mem_cons.mpr ⟨(rf_cat a0), (List.forall_mem_cons.mpr ⟨(rf_cat a1), (fun _ z => by cases z)⟩)⟩)⟩) ?_
  intro p e s m below meth c ls Z hr hlk hin hR hS hl
  have hx := Z.1
  have hb := Z.2.1
  have hl : LV ls 3 [(0, va_rf (some this)), (1, va_rf a0), (2, va_rf a1)] := hl
  unfold f_X6_init at hq
  refine xaln hx hb hl (x := (some this)) 0 rfl dX6_init_0 ?_
  refine xoi Z hl lk_X6_3 (by decide) (by decide) dX6_init_1 ?_
  refine xaln hx hb hl (x := (some this)) 0 rfl dX6_init_4 ?_
  refine lv_bipush (v := 16) hx hb dX6_init_5 (by decide) ?_
  refine xnI Z hR hS hq ac_I (by decide) (by decide) (by decide) (by decide) (by decide) dX6_init_7 (fun n7 h H hq hR hS => ?_)
  refine xpR Z hR hS hq fl_X6_9 rfl (Or.inr ⟨if_X6_7_3, hin⟩) dX6_init_9 (fun h H locs hq hR hS => ?_)
  refine xaln hx hb hl (x := (some this)) 0 rfl dX6_init_12 ?_
  refine lv_bipush (v := 16) hx hb dX6_init_13 (by decide) ?_
  refine xnI Z hR hS hq ac_I (by decide) (by decide) (by decide) (by decide) (by decide) dX6_init_15 (fun n15 h H hq hR hS => ?_)
  refine xpR Z hR hS hq fl_X6_15 rfl (Or.inr ⟨if_X6_7_4, hin⟩) dX6_init_17 (fun h H locs hq hR hS => ?_)
  refine xaln hx hb hl (x := (some this)) 0 rfl dX6_init_20 ?_
  refine lv_bipush (v := 16) hx hb dX6_init_21 (by decide) ?_
  refine xnI Z hR hS hq ac_I (by decide) (by decide) (by decide) (by decide) (by decide) dX6_init_23 (fun n23 h H hq hR hS => ?_)
  refine xpR Z hR hS hq fl_X6_18 rfl (Or.inr ⟨if_X6_7_5, hin⟩) dX6_init_25 (fun h H locs hq hR hS => ?_)
  refine xaln hx hb hl (x := (some this)) 0 rfl dX6_init_28 ?_
  refine lv_bipush (v := 16) hx hb dX6_init_29 (by decide) ?_
  refine xnI Z hR hS hq ac_I (by decide) (by decide) (by decide) (by decide) (by decide) dX6_init_31 (fun n31 h H hq hR hS => ?_)
  refine xpR Z hR hS hq fl_X6_21 rfl (Or.inr ⟨if_X6_7_6, hin⟩) dX6_init_33 (fun h H locs hq hR hS => ?_)
  refine xaln hx hb hl (x := (some this)) 0 rfl dX6_init_36 ?_
  refine lv_bipush (v := 16) hx hb dX6_init_37 (by decide) ?_
  refine xnI Z hR hS hq ac_I (by decide) (by decide) (by decide) (by decide) (by decide) dX6_init_39 (fun n39 h H hq hR hS => ?_)
  refine xpR Z hR hS hq fl_X6_24 rfl (Or.inr ⟨if_X6_7_7, hin⟩) dX6_init_41 (fun h H locs hq hR hS => ?_)
  refine xaln hx hb hl (x := (some this)) 0 rfl dX6_init_44 ?_
  refine lv_sipush (v := 256) hx hb dX6_init_45 (by decide) ?_
  refine xnI Z hR hS hq ac_I (by decide) (by decide) (by decide) (by decide) (by decide) dX6_init_48 (fun n48 h H hq hR hS => ?_)
  refine xpR Z hR hS hq fl_X6_27 rfl (Or.inr ⟨if_X6_7_8, hin⟩) dX6_init_50 (fun h H locs hq hR hS => ?_)
  refine xaln hx hb hl (x := (some this)) 0 rfl dX6_init_53 ?_
  refine lv_bipush (v := 16) hx hb dX6_init_54 (by decide) ?_
  refine xnI Z hR hS hq ac_I (by decide) (by decide) (by decide) (by decide) (by decide) dX6_init_56 (fun n56 h H hq hR hS => ?_)
  refine xpR Z hR hS hq fl_X6_30 rfl (Or.inr ⟨if_X6_7_9, hin⟩) dX6_init_58 (fun h H locs hq hR hS => ?_)
  refine xaln hx hb hl (x := (some this)) 0 rfl dX6_init_61 ?_
  refine lv_bipush (v := 16) hx hb dX6_init_62 (by decide) ?_
  refine xnI Z hR hS hq ac_I (by decide) (by decide) (by decide) (by decide) (by decide) dX6_init_64 (fun n64 h H hq hR hS => ?_)
  refine xpR Z hR hS hq fl_X6_33 rfl (Or.inr ⟨if_X6_7_10, hin⟩) dX6_init_66 (fun h H locs hq hR hS => ?_)
  refine xaln hx hb hl (x := (some this)) 0 rfl dX6_init_69 ?_
  refine xaln hx hb hl (x := a0) 1 rfl dX6_init_70 ?_
  refine xpR Z hR hS hq fl_X6_36 rfl (Or.inr ⟨if_X6_7_0, hin⟩) dX6_init_71 (fun h H locs hq hR hS => ?_)
  refine xaln hx hb hl (x := (some this)) 0 rfl dX6_init_74 ?_
  refine xaln hx hb hl (x := a1) 2 rfl dX6_init_75 ?_
  refine xpR Z hR hS hq fl_X6_40 rfl (Or.inr ⟨if_X6_7_1, hin⟩) dX6_init_76 (fun h H locs hq hR hS => ?_)
  exact xrV hx hb hr hlk hR hS hq (by decide) (by decide) dX6_init_79
abbrev rm_X6_forget : Room := { frames := 0, cells := 0, slots := 0, locals := 0 }
def f_X6_forget (this : Nat) (h : Hp) : Option (Unit × Hp) :=
pZ h (some this) 7 2 0 (fun h =>
rtV h)
set_option maxHeartbeats 4000000 in
set_option maxRecDepth 100000 in
theorem c_X6_forget (l : Launch) {G : GG} (this : Nat) (h : Hp) (v : Unit) (h1 : Hp) (hq : f_X6_forget this h = some (v, h1)) : Met l yX6_forget (Cond.code yX6_forget cX6_forget 1 none :: GT) rm_X6_forget (va_Pc [.ref this] (Cn G h)) (Qx G none h1) 0 0 (AA G) := by
  refine xMet (cc := cX6_forget) (by decide) (Nat.le_of_ble_eq_true rfl) (List.forall_mem_cons.mpr ⟨rfl, (fun _ z => by cases z)⟩) ?_
  intro p e s m below meth c ls Z hr hlk hin hR hS hl
  have hx := Z.1
  have hb := Z.2.1
  have hl : LV ls 1 [(0, va_rf (some this))] := hl
  unfold f_X6_forget at hq
  refine xaln hx hb hl (x := (some this)) 0 rfl dX6_forget_0 ?_
  refine lv_iconst (v := 0) hx hb dX6_forget_1 (by decide) ?_
  refine xpZ Z hR hS hq fl_X6_44 rfl (Or.inl nf_7_2) dX6_forget_2 (fun h H locs hq hR hS => ?_)
  exact xrV hx hb hr hlk hR hS hq (by decide) (by decide) dX6_forget_5
abbrev rm_X6_reset : Room := { frames := 3, cells := 0, slots := 0, locals := 64 }
def fb_X6_reset_57  (k57 : Option Nat × Int32 × Hp → Option (Unit × Hp)) (l0 : Option Nat) (l1 : Int32) (h : Hp) : Option (Unit × Hp) :=
gR h l0 7 1 (fun x59 =>
rcv h x59 2 (fun b62 => bd (f_X1_size b62 h) (fun x62 h =>
(if x62 ≤ l1 then
rtV h
else
gR h l0 7 1 (fun x69 =>
gR h x69 2 0 (fun x72 =>
rcv h x72 0 (fun b76 => bd (f_Jx4a65c_get_915e3 b76 l1 h) (fun x76 h =>
ckc h x76 1 (
gR h l0 7 3 (fun x84 =>
stI h x84 l1 0 (fun h =>
gR h l0 7 4 (fun x91 =>
stI h x91 l1 0 (fun h =>
gR h l0 7 5 (fun x98 =>
gR h x76 1 13 (fun x103 =>
gI h x76 1 2 (fun x107 =>
ldI h x103 x107 (fun x110 =>
stI h x98 l1 x110 (fun h =>
gR h l0 7 6 (fun x113 =>
stI h x113 l1 0 (fun h =>
gR h l0 7 7 (fun x120 =>
stI h x120 l1 0 (fun h =>
k57 (l0, (l1 + 1), h)))))))))))))))))))))))
set_option maxHeartbeats 4000000 in
set_option maxRecDepth 100000 in
theorem tb_X6_reset_57 (Z : ZZ p s m args c cX6_reset RX6 3 G) (hr : meth.sig.returnType = none) (hlk : meth.locks = false) (hin : meth.name = "reset") {v : Unit} {h1 : Hp} {k57 : Option Nat × Int32 × Hp → Option (Unit × Hp)} (hk57 : ∀ u : Option Nat × Int32 × Hp, k57 u = some (v, h1) → ∀ (H : Heap) (locs : List Loc) (ls : Array Slot), Rep G u.2.2 H → va_S (AA G) s.heap H locs → LV ls 3 [(0, va_rf u.1), (1, .int u.2.1)] → W p l e rm_X6_reset s m args below meth c H locs 0 0 (MQ below (Qx G none h1) args s 0 0 (AA G)) (F0 m 57 ls [])) : ∀ (l0 : Option Nat) (l1 : Int32) (h : Hp) (H : Heap) (locs : List Loc) (ls : Array Slot), fb_X6_reset_57 k57 l0 l1 h = some (v, h1) → Rep G h H → va_S (AA G) s.heap H locs → LV ls 3 [(0, va_rf l0), (1, .int l1)] → W p l e rm_X6_reset s m args below meth c H locs 0 0 (MQ below (Qx G none h1) args s 0 0 (AA G)) (F0 m 57 ls []) := by
  intro l0 l1 h H locs ls hq hR hS hl
  have hx := Z.1
  have hb := Z.2.1
  unfold fb_X6_reset_57 at hq
  refine xiln hx hb hl (x := l1) 1 rfl dX6_reset_57 ?_
  refine xaln hx hb hl (x := l0) 0 rfl dX6_reset_58 ?_
  refine xgR Z hR hq fl_X6_40 rfl dX6_reset_59 (fun x59 hq => ?_)
  refine xcV Z hR hS hl (rest := [.int l1]) (As := []) hq cl_X6_77 (fun b x h1 hc => c_X1_size l b h x h1 hc) ⟨⟨rfl, rfl⟩, (by decide), (by decide)⟩ rfl rfl (by first | decide | (simp only [List.map_cons, List.map_nil, rf_cat, ct_int, ct_ref, List.sum_cons, List.sum_nil] <;> decide)) dX6_reset_62 (by decide) (fun x62 h H locs hq hR hS => ?_)
  refine xcGe hx hb hq (tgt := 132) dX6_reset_65 (by decide) (fun hq => ?_) (fun hq => ?_)
  · exact xrV hx hb hr hlk hR hS hq (by decide) (by decide) dX6_reset_132
  refine xaln hx hb hl (x := l0) 0 rfl dX6_reset_68 ?_
  refine xgR Z hR hq fl_X6_40 rfl dX6_reset_69 (fun x69 hq => ?_)
  refine xgR Z hR hq fl_X6_78 rfl dX6_reset_72 (fun x72 hq => ?_)
  refine xiln hx hb hl (x := l1) 1 rfl dX6_reset_75 ?_
  refine xcV Z hR hS hl (rest := []) (As := [.int l1]) hq cl_X6_63 (fun b x h1 hc => c_Jx4a65c_get_915e3 l b l1 h x h1 hc) ⟨⟨rfl, rfl⟩, (by decide), (by decide)⟩ rfl rfl (by first | decide | (simp only [List.map_cons, List.map_nil, rf_cat, ct_int, ct_ref, List.sum_cons, List.sum_nil] <;> decide)) dX6_reset_76 (by decide) (fun x76 h H locs hq hR hS => ?_)
  refine xck Z hR hq ck_X6_67 dX6_reset_79 (fun hq => ?_)
  refine xasn hx hb hl (x := x76) (lv' := [(2, va_rf x76), (0, va_rf l0), (1, .int l1)]) (by decide) dX6_reset_82 rfl (fun ls hl => ?_)
  refine xaln hx hb hl (x := l0) 1 rfl dX6_reset_83 ?_
  refine xgR Z hR hq fl_X6_9 rfl dX6_reset_84 (fun x84 hq => ?_)
  refine xiln hx hb hl (x := l1) 2 rfl dX6_reset_87 ?_
  refine lv_iconst (v := 0) hx hb dX6_reset_88 (by decide) ?_
  refine xsI Z hR hS hq dX6_reset_89 (fun h H locs hq hR hS => ?_)
  refine xaln hx hb hl (x := l0) 1 rfl dX6_reset_90 ?_
  refine xgR Z hR hq fl_X6_15 rfl dX6_reset_91 (fun x91 hq => ?_)
  refine xiln hx hb hl (x := l1) 2 rfl dX6_reset_94 ?_
  refine lv_iconst (v := 0) hx hb dX6_reset_95 (by decide) ?_
  refine xsI Z hR hS hq dX6_reset_96 (fun h H locs hq hR hS => ?_)
  refine xaln hx hb hl (x := l0) 1 rfl dX6_reset_97 ?_
  refine xgR Z hR hq fl_X6_18 rfl dX6_reset_98 (fun x98 hq => ?_)
  refine xiln hx hb hl (x := l1) 2 rfl dX6_reset_101 ?_
  refine xaln hx hb hl (x := x76) 0 rfl dX6_reset_102 ?_
  refine xgR Z hR hq fl_X6_81 rfl dX6_reset_103 (fun x103 hq => ?_)
  refine xaln hx hb hl (x := x76) 0 rfl dX6_reset_106 ?_
  refine xgI Z hR hq fl_X6_84 rfl dX6_reset_107 (fun x107 hq => ?_)
  refine xaI Z hR hq dX6_reset_110 (fun x110 hq => ?_)
  refine xsI Z hR hS hq dX6_reset_111 (fun h H locs hq hR hS => ?_)
  refine xaln hx hb hl (x := l0) 1 rfl dX6_reset_112 ?_
  refine xgR Z hR hq fl_X6_21 rfl dX6_reset_113 (fun x113 hq => ?_)
  refine xiln hx hb hl (x := l1) 2 rfl dX6_reset_116 ?_
  refine lv_iconst (v := 0) hx hb dX6_reset_117 (by decide) ?_
  refine xsI Z hR hS hq dX6_reset_118 (fun h H locs hq hR hS => ?_)
  refine xaln hx hb hl (x := l0) 1 rfl dX6_reset_119 ?_
  refine xgR Z hR hq fl_X6_24 rfl dX6_reset_120 (fun x120 hq => ?_)
  refine xiln hx hb hl (x := l1) 2 rfl dX6_reset_123 ?_
  refine lv_iconst (v := 0) hx hb dX6_reset_124 (by decide) ?_
  refine xsI Z hR hS hq dX6_reset_125 (fun h H locs hq hR hS => ?_)
  refine xinc hx hb hl (x := l1) (v := (l1 + 1)) (lv' := [(1, .int (l1 + 1)), (2, va_rf x76), (0, va_rf l0)]) 2 rfl (by rw [show Int32.ofInt (1) = (1 : Int32) from by decide]) (by decide) dX6_reset_126 rfl (fun ls hl => ?_)
  refine lv_goto (tgt := 57) hx hb dX6_reset_129 (by decide) ?_
  exact hk57 (l0, (l1 + 1), h) hq H locs ls hR hS (hl.sub [2, 0] rfl)
def f_X6_reset_57  (l0 : Option Nat) (l1 : Int32) (h : Hp) : Option (Unit × Hp) :=
  lp (fun (k57 : Option Nat × Int32 × Hp → Option (Unit × Hp)) (u : Option Nat × Int32 × Hp) => fb_X6_reset_57 k57 u.1 u.2.1 u.2.2) FU (l0, l1, h)
theorem t_X6_reset_57 (Z : ZZ p s m args c cX6_reset RX6 3 G) (hr : meth.sig.returnType = none) (hlk : meth.locks = false) (hin : meth.name = "reset") {v : Unit} {h1 : Hp} : ∀ (l0 : Option Nat) (l1 : Int32) (h : Hp) (H : Heap) (locs : List Loc) (ls : Array Slot), f_X6_reset_57 l0 l1 h = some (v, h1) → Rep G h H → va_S (AA G) s.heap H locs → LV ls 3 [(0, va_rf l0), (1, .int l1)] → W p l e rm_X6_reset s m args below meth c H locs 0 0 (MQ below (Qx G none h1) args s 0 0 (AA G)) (F0 m 57 ls []) := by
  intro l0 l1 h H locs ls hq hR hS hl
  exact lp_ind (P := fun u : Option Nat × Int32 × Hp => ∀ (H : Heap) (locs : List Loc) (ls : Array Slot), Rep G u.2.2 H → va_S (AA G) s.heap H locs → LV ls 3 [(0, va_rf u.1), (1, .int u.2.1)] → W p l e rm_X6_reset s m args below meth c H locs 0 0 (MQ below (Qx G none h1) args s 0 0 (AA G)) (F0 m 57 ls [])) (fun k hk u hq H locs ls hR hS hl => tb_X6_reset_57 Z hr hlk hin hk u.1 u.2.1 u.2.2 H locs ls hq hR hS hl) FU (l0, l1, h) hq H locs ls hR hS hl
def fb_X6_reset_33  (k33 : Option Nat × Int32 × Hp → Option (Unit × Hp)) (l0 : Option Nat) (l1 : Int32) (h : Hp) : Option (Unit × Hp) :=
gR h l0 7 8 (fun x35 =>
alI h x35 (fun x38 =>
(if x38 ≤ l1 then
f_X6_reset_57 l0 0 h
else
gR h l0 7 8 (fun x43 =>
stI h x43 l1 0 (fun h =>
k33 (l0, (l1 + 1), h))))))
set_option maxHeartbeats 4000000 in
set_option maxRecDepth 100000 in
theorem tb_X6_reset_33 (Z : ZZ p s m args c cX6_reset RX6 3 G) (hr : meth.sig.returnType = none) (hlk : meth.locks = false) (hin : meth.name = "reset") {v : Unit} {h1 : Hp} {k33 : Option Nat × Int32 × Hp → Option (Unit × Hp)} (hk33 : ∀ u : Option Nat × Int32 × Hp, k33 u = some (v, h1) → ∀ (H : Heap) (locs : List Loc) (ls : Array Slot), Rep G u.2.2 H → va_S (AA G) s.heap H locs → LV ls 3 [(0, va_rf u.1), (1, .int u.2.1)] → W p l e rm_X6_reset s m args below meth c H locs 0 0 (MQ below (Qx G none h1) args s 0 0 (AA G)) (F0 m 33 ls [])) : ∀ (l0 : Option Nat) (l1 : Int32) (h : Hp) (H : Heap) (locs : List Loc) (ls : Array Slot), fb_X6_reset_33 k33 l0 l1 h = some (v, h1) → Rep G h H → va_S (AA G) s.heap H locs → LV ls 3 [(0, va_rf l0), (1, .int l1)] → W p l e rm_X6_reset s m args below meth c H locs 0 0 (MQ below (Qx G none h1) args s 0 0 (AA G)) (F0 m 33 ls []) := by
  intro l0 l1 h H locs ls hq hR hS hl
  have hx := Z.1
  have hb := Z.2.1
  unfold fb_X6_reset_33 at hq
  refine xiln hx hb hl (x := l1) 1 rfl dX6_reset_33 ?_
  refine xaln hx hb hl (x := l0) 0 rfl dX6_reset_34 ?_
  refine xgR Z hR hq fl_X6_27 rfl dX6_reset_35 (fun x35 hq => ?_)
  refine xlI Z hR hq dX6_reset_38 (fun x38 hq => ?_)
  refine xcGe hx hb hq (tgt := 55) dX6_reset_39 (by decide) (fun hq => ?_) (fun hq => ?_)
  · refine lv_iconst (v := 0) hx hb dX6_reset_55 (by decide) ?_
    refine xisn hx hb hl (x := 0) (lv' := [(1, .int 0), (0, va_rf l0)]) (by decide) dX6_reset_56 rfl (fun ls hl => ?_)
    exact t_X6_reset_57 Z hr hlk hin l0 0 h H locs ls hq hR hS (hl.sub [1, 0] rfl)
  refine xaln hx hb hl (x := l0) 0 rfl dX6_reset_42 ?_
  refine xgR Z hR hq fl_X6_27 rfl dX6_reset_43 (fun x43 hq => ?_)
  refine xiln hx hb hl (x := l1) 1 rfl dX6_reset_46 ?_
  refine lv_iconst (v := 0) hx hb dX6_reset_47 (by decide) ?_
  refine xsI Z hR hS hq dX6_reset_48 (fun h H locs hq hR hS => ?_)
  refine xinc hx hb hl (x := l1) (v := (l1 + 1)) (lv' := [(1, .int (l1 + 1)), (0, va_rf l0)]) 1 rfl (by rw [show Int32.ofInt (1) = (1 : Int32) from by decide]) (by decide) dX6_reset_49 rfl (fun ls hl => ?_)
  refine lv_goto (tgt := 33) hx hb dX6_reset_52 (by decide) ?_
  exact hk33 (l0, (l1 + 1), h) hq H locs ls hR hS (hl.sub [1, 0] rfl)
def f_X6_reset_33  (l0 : Option Nat) (l1 : Int32) (h : Hp) : Option (Unit × Hp) :=
  lp (fun (k33 : Option Nat × Int32 × Hp → Option (Unit × Hp)) (u : Option Nat × Int32 × Hp) => fb_X6_reset_33 k33 u.1 u.2.1 u.2.2) FU (l0, l1, h)
theorem t_X6_reset_33 (Z : ZZ p s m args c cX6_reset RX6 3 G) (hr : meth.sig.returnType = none) (hlk : meth.locks = false) (hin : meth.name = "reset") {v : Unit} {h1 : Hp} : ∀ (l0 : Option Nat) (l1 : Int32) (h : Hp) (H : Heap) (locs : List Loc) (ls : Array Slot), f_X6_reset_33 l0 l1 h = some (v, h1) → Rep G h H → va_S (AA G) s.heap H locs → LV ls 3 [(0, va_rf l0), (1, .int l1)] → W p l e rm_X6_reset s m args below meth c H locs 0 0 (MQ below (Qx G none h1) args s 0 0 (AA G)) (F0 m 33 ls []) := by
  intro l0 l1 h H locs ls hq hR hS hl
  exact lp_ind (P := fun u : Option Nat × Int32 × Hp => ∀ (H : Heap) (locs : List Loc) (ls : Array Slot), Rep G u.2.2 H → va_S (AA G) s.heap H locs → LV ls 3 [(0, va_rf u.1), (1, .int u.2.1)] → W p l e rm_X6_reset s m args below meth c H locs 0 0 (MQ below (Qx G none h1) args s 0 0 (AA G)) (F0 m 33 ls [])) (fun k hk u hq H locs ls hR hS hl => tb_X6_reset_33 Z hr hlk hin hk u.1 u.2.1 u.2.2 H locs ls hq hR hS hl) FU (l0, l1, h) hq H locs ls hR hS hl
def fb_X6_reset_2  (k2 : Option Nat × Int32 × Hp → Option (Unit × Hp)) (l0 : Option Nat) (l1 : Int32) (h : Hp) : Option (Unit × Hp) :=
gR h l0 7 9 (fun x4 =>
alI h x4 (fun x7 =>
(if x7 ≤ l1 then
f_X6_reset_33 l0 0 h
else
gR h l0 7 9 (fun x12 =>
stI h x12 l1 (-1) (fun h =>
gR h l0 7 10 (fun x19 =>
stI h x19 l1 (-1) (fun h =>
k2 (l0, (l1 + 1), h))))))))
set_option maxHeartbeats 4000000 in
set_option maxRecDepth 100000 in
theorem tb_X6_reset_2 (Z : ZZ p s m args c cX6_reset RX6 3 G) (hr : meth.sig.returnType = none) (hlk : meth.locks = false) (hin : meth.name = "reset") {v : Unit} {h1 : Hp} {k2 : Option Nat × Int32 × Hp → Option (Unit × Hp)} (hk2 : ∀ u : Option Nat × Int32 × Hp, k2 u = some (v, h1) → ∀ (H : Heap) (locs : List Loc) (ls : Array Slot), Rep G u.2.2 H → va_S (AA G) s.heap H locs → LV ls 3 [(0, va_rf u.1), (1, .int u.2.1)] → W p l e rm_X6_reset s m args below meth c H locs 0 0 (MQ below (Qx G none h1) args s 0 0 (AA G)) (F0 m 2 ls [])) : ∀ (l0 : Option Nat) (l1 : Int32) (h : Hp) (H : Heap) (locs : List Loc) (ls : Array Slot), fb_X6_reset_2 k2 l0 l1 h = some (v, h1) → Rep G h H → va_S (AA G) s.heap H locs → LV ls 3 [(0, va_rf l0), (1, .int l1)] → W p l e rm_X6_reset s m args below meth c H locs 0 0 (MQ below (Qx G none h1) args s 0 0 (AA G)) (F0 m 2 ls []) := by
  intro l0 l1 h H locs ls hq hR hS hl
  have hx := Z.1
  have hb := Z.2.1
  unfold fb_X6_reset_2 at hq
  refine xiln hx hb hl (x := l1) 1 rfl dX6_reset_2 ?_
  refine xaln hx hb hl (x := l0) 0 rfl dX6_reset_3 ?_
  refine xgR Z hR hq fl_X6_30 rfl dX6_reset_4 (fun x4 hq => ?_)
  refine xlI Z hR hq dX6_reset_7 (fun x7 hq => ?_)
  refine xcGe hx hb hq (tgt := 31) dX6_reset_8 (by decide) (fun hq => ?_) (fun hq => ?_)
  · refine lv_iconst (v := 0) hx hb dX6_reset_31 (by decide) ?_
    refine xisn hx hb hl (x := 0) (lv' := [(1, .int 0), (0, va_rf l0)]) (by decide) dX6_reset_32 rfl (fun ls hl => ?_)
    exact t_X6_reset_33 Z hr hlk hin l0 0 h H locs ls hq hR hS (hl.sub [1, 0] rfl)
  refine xaln hx hb hl (x := l0) 0 rfl dX6_reset_11 ?_
  refine xgR Z hR hq fl_X6_30 rfl dX6_reset_12 (fun x12 hq => ?_)
  refine xiln hx hb hl (x := l1) 1 rfl dX6_reset_15 ?_
  refine lv_iconst (v := (-1)) hx hb dX6_reset_16 (by decide) ?_
  refine xsI Z hR hS hq dX6_reset_17 (fun h H locs hq hR hS => ?_)
  refine xaln hx hb hl (x := l0) 0 rfl dX6_reset_18 ?_
  refine xgR Z hR hq fl_X6_33 rfl dX6_reset_19 (fun x19 hq => ?_)
  refine xiln hx hb hl (x := l1) 1 rfl dX6_reset_22 ?_
  refine lv_iconst (v := (-1)) hx hb dX6_reset_23 (by decide) ?_
  refine xsI Z hR hS hq dX6_reset_24 (fun h H locs hq hR hS => ?_)
  refine xinc hx hb hl (x := l1) (v := (l1 + 1)) (lv' := [(1, .int (l1 + 1)), (0, va_rf l0)]) 1 rfl (by rw [show Int32.ofInt (1) = (1 : Int32) from by decide]) (by decide) dX6_reset_25 rfl (fun ls hl => ?_)
  refine lv_goto (tgt := 2) hx hb dX6_reset_28 (by decide) ?_
  exact hk2 (l0, (l1 + 1), h) hq H locs ls hR hS (hl.sub [1, 0] rfl)
def f_X6_reset_2  (l0 : Option Nat) (l1 : Int32) (h : Hp) : Option (Unit × Hp) :=
  lp (fun (k2 : Option Nat × Int32 × Hp → Option (Unit × Hp)) (u : Option Nat × Int32 × Hp) => fb_X6_reset_2 k2 u.1 u.2.1 u.2.2) FU (l0, l1, h)
theorem t_X6_reset_2 (Z : ZZ p s m args c cX6_reset RX6 3 G) (hr : meth.sig.returnType = none) (hlk : meth.locks = false) (hin : meth.name = "reset") {v : Unit} {h1 : Hp} : ∀ (l0 : Option Nat) (l1 : Int32) (h : Hp) (H : Heap) (locs : List Loc) (ls : Array Slot), f_X6_reset_2 l0 l1 h = some (v, h1) → Rep G h H → va_S (AA G) s.heap H locs → LV ls 3 [(0, va_rf l0), (1, .int l1)] → W p l e rm_X6_reset s m args below meth c H locs 0 0 (MQ below (Qx G none h1) args s 0 0 (AA G)) (F0 m 2 ls []) := by
  intro l0 l1 h H locs ls hq hR hS hl
  exact lp_ind (P := fun u : Option Nat × Int32 × Hp => ∀ (H : Heap) (locs : List Loc) (ls : Array Slot), Rep G u.2.2 H → va_S (AA G) s.heap H locs → LV ls 3 [(0, va_rf u.1), (1, .int u.2.1)] → W p l e rm_X6_reset s m args below meth c H locs 0 0 (MQ below (Qx G none h1) args s 0 0 (AA G)) (F0 m 2 ls [])) (fun k hk u hq H locs ls hR hS hl => tb_X6_reset_2 Z hr hlk hin hk u.1 u.2.1 u.2.2 H locs ls hq hR hS hl) FU (l0, l1, h) hq H locs ls hR hS hl
def f_X6_reset (this : Nat) (h : Hp) : Option (Unit × Hp) :=
f_X6_reset_2 (some this) 0 h
set_option maxHeartbeats 4000000 in
set_option maxRecDepth 100000 in
theorem c_X6_reset (l : Launch) {G : GG} (this : Nat) (h : Hp) (v : Unit) (h1 : Hp) (hq : f_X6_reset this h = some (v, h1)) : Met l yX6_reset (Cond.code yX6_reset cX6_reset 3 none :: GT) rm_X6_reset (va_Pc [.ref this] (Cn G h)) (Qx G none h1) 0 0 (AA G) := by
  refine xMet (cc := cX6_reset) (by decide) (Nat.le_of_ble_eq_true rfl) (List.forall_mem_cons.mpr ⟨rfl, (fun _ z => by cases z)⟩) ?_
  intro p e s m below meth c ls Z hr hlk hin hR hS hl
  have hx := Z.1
  have hb := Z.2.1
  have hl : LV ls 3 [(0, va_rf (some this))] := hl
  unfold f_X6_reset at hq
  refine lv_iconst (v := 0) hx hb dX6_reset_0 (by decide) ?_
  refine xisn hx hb hl (x := 0) (lv' := [(1, .int 0), (0, va_rf (some this))]) (by decide) dX6_reset_1 rfl (fun ls hl => ?_)
  exact t_X6_reset_2 Z hr hlk hin (some this) 0 h _ _ ls hq hR hS (hl.sub [1, 0] rfl)
abbrev rm_X6_wantsToLeave : Room := { frames := 1, cells := 0, slots := 0, locals := 20 }
def f_X6_wantsToLeave_53  (s0 : Int32) (h : Hp) : Option (Int32 × Hp) :=
rtZ s0 h
set_option maxHeartbeats 4000000 in
set_option maxRecDepth 100000 in
theorem t_X6_wantsToLeave_53 (Z : ZZ p s m args c cX6_wantsToLeave RX6 4 G) (hr : meth.sig.returnType = (some .boolean)) (hlk : meth.locks = false) (hin : meth.name = "wantsToLeave") {v : Int32} {h1 : Hp} : ∀ (s0 : Int32) (h : Hp) (H : Heap) (locs : List Loc) (ls : Array Slot), f_X6_wantsToLeave_53 s0 h = some (v, h1) → Rep G h H → va_S (AA G) s.heap H locs → LV ls 4 [] → W p l e rm_X6_wantsToLeave s m args below meth c H locs 0 0 (MQ below (Qx G (some (.int v)) h1) args s 0 0 (AA G)) (F0 m 53 ls [.int s0]) := by
  intro s0 h H locs ls hq hR hS hl
  have hx := Z.1
  have hb := Z.2.1
  unfold f_X6_wantsToLeave_53 at hq
  exact xrZ hx hb hr hlk hR hS hq (by decide) (by decide) dX6_wantsToLeave_53
def f_X6_wantsToLeave_52   (h : Hp) : Option (Int32 × Hp) :=
f_X6_wantsToLeave_53 0 h
set_option maxHeartbeats 4000000 in
set_option maxRecDepth 100000 in
theorem t_X6_wantsToLeave_52 (Z : ZZ p s m args c cX6_wantsToLeave RX6 4 G) (hr : meth.sig.returnType = (some .boolean)) (hlk : meth.locks = false) (hin : meth.name = "wantsToLeave") {v : Int32} {h1 : Hp} : ∀  (h : Hp) (H : Heap) (locs : List Loc) (ls : Array Slot), f_X6_wantsToLeave_52  h = some (v, h1) → Rep G h H → va_S (AA G) s.heap H locs → LV ls 4 [] → W p l e rm_X6_wantsToLeave s m args below meth c H locs 0 0 (MQ below (Qx G (some (.int v)) h1) args s 0 0 (AA G)) (F0 m 52 ls []) := by
  intro  h H locs ls hq hR hS hl
  have hx := Z.1
  have hb := Z.2.1
  unfold f_X6_wantsToLeave_52 at hq
  refine lv_iconst (v := 0) hx hb dX6_wantsToLeave_52 (by decide) ?_
  exact t_X6_wantsToLeave_53 Z hr hlk hin 0 h H locs ls hq hR hS (hl.sub [] rfl)
def f_X6_wantsToLeave (this : Nat) (a0 : Option Nat) (a1 : Int32) (h : Hp) : Option (Int32 × Hp) :=
gR h (some this) 7 3 (fun x1 =>
gI h a0 1 0 (fun x5 =>
ldI h x1 x5 (fun x8 =>
gI h a0 1 10 (fun x11 =>
(if x11 = 0 then
f_X6_wantsToLeave_52  h
else
rcv h a0 1 (fun b19 => bd (f_X0_steps b19 h) (fun x19 h =>
(if x19 ≤ x8 then
f_X6_wantsToLeave_52  h
else
gR h (some this) 7 4 (fun x26 =>
gI h a0 1 0 (fun x30 =>
ldI h x26 x30 (fun x33 =>
(if a1 < x33 then
f_X6_wantsToLeave_52  h
else
gR h a0 1 11 (fun x39 =>
ldI h x39 x8 (fun x43 =>
(if a1 < x43 then
f_X6_wantsToLeave_52  h
else
f_X6_wantsToLeave_53 1 h)))))))))))))))
set_option maxHeartbeats 4000000 in
set_option maxRecDepth 100000 in
theorem c_X6_wantsToLeave (l : Launch) {G : GG} (this : Nat) (a0 : Option Nat) (a1 : Int32) (h : Hp) (v : Int32) (h1 : Hp) (hq : f_X6_wantsToLeave this a0 a1 h = some (v, h1)) : Met l yX6_wantsToLeave (Cond.code yX6_wantsToLeave cX6_wantsToLeave 4 (some .boolean) :: GT) rm_X6_wantsToLeave (va_Pc [.ref this, va_rf a0, .int a1] (Cn G h)) (Qx G (some (.int v)) h1) 0 0 (AA G) := by
  refine xMet (cc := cX6_wantsToLeave) (by decide) (Nat.le_of_ble_eq_true rfl) (List.forall_mem_cons.mpr ⟨rfl, (List.forall_mem_cons.mpr ⟨(rf_cat a0), (List.forall_mem_cons.mpr ⟨rfl, (fun _ z => by cases z)⟩)⟩)⟩) ?_
  intro p e s m below meth c ls Z hr hlk hin hR hS hl
  have hx := Z.1
  have hb := Z.2.1
  have hl : LV ls 4 [(0, va_rf (some this)), (1, va_rf a0), (2, .int a1)] := hl
  unfold f_X6_wantsToLeave at hq
  refine xaln hx hb hl (x := (some this)) 0 rfl dX6_wantsToLeave_0 ?_
  refine xgR Z hR hq fl_X6_9 rfl dX6_wantsToLeave_1 (fun x1 hq => ?_)
  refine xaln hx hb hl (x := a0) 1 rfl dX6_wantsToLeave_4 ?_
  refine xgI Z hR hq fl_X6_88 rfl dX6_wantsToLeave_5 (fun x5 hq => ?_)
  refine xaI Z hR hq dX6_wantsToLeave_8 (fun x8 hq => ?_)
  refine xisn hx hb hl (x := x8) (lv' := [(3, .int x8), (0, va_rf (some this)), (1, va_rf a0), (2, .int a1)]) (by decide) dX6_wantsToLeave_9 rfl (fun ls hl => ?_)
  refine xaln hx hb hl (x := a0) 2 rfl dX6_wantsToLeave_10 ?_
  refine xgI Z hR hq fl_X6_91 rfl dX6_wantsToLeave_11 (fun x11 hq => ?_)
  refine xzEq hx hb hq (tgt := 52) dX6_wantsToLeave_14 (by decide) (fun hq => ?_) (fun hq => ?_)
  · exact t_X6_wantsToLeave_52 Z hr hlk hin  h _ _ ls hq hR hS (hl.sub [] rfl)
  refine xiln hx hb hl (x := x8) 0 rfl dX6_wantsToLeave_17 ?_
  refine xaln hx hb hl (x := a0) 2 rfl dX6_wantsToLeave_18 ?_
  refine xcV Z hR hS hl (rest := [.int x8]) (As := []) hq cl_X6_94 (fun b x h1 hc => c_X0_steps l b h x h1 hc) ⟨⟨rfl, rfl⟩, (by decide), (by decide)⟩ rfl rfl (by first | decide | (simp only [List.map_cons, List.map_nil, rf_cat, ct_int, ct_ref, List.sum_cons, List.sum_nil] <;> decide)) dX6_wantsToLeave_19 (by decide) (fun x19 h H locs hq hR hS => ?_)
  refine xcGe hx hb hq (tgt := 52) dX6_wantsToLeave_22 (by decide) (fun hq => ?_) (fun hq => ?_)
  · exact t_X6_wantsToLeave_52 Z hr hlk hin  h _ _ ls hq hR hS (hl.sub [] rfl)
  refine xaln hx hb hl (x := (some this)) 1 rfl dX6_wantsToLeave_25 ?_
  refine xgR Z hR hq fl_X6_15 rfl dX6_wantsToLeave_26 (fun x26 hq => ?_)
  refine xaln hx hb hl (x := a0) 2 rfl dX6_wantsToLeave_29 ?_
  refine xgI Z hR hq fl_X6_88 rfl dX6_wantsToLeave_30 (fun x30 hq => ?_)
  refine xaI Z hR hq dX6_wantsToLeave_33 (fun x33 hq => ?_)
  refine xiln hx hb hl (x := a1) 3 rfl dX6_wantsToLeave_34 ?_
  refine xcGt hx hb hq (tgt := 52) dX6_wantsToLeave_35 (by decide) (fun hq => ?_) (fun hq => ?_)
  · exact t_X6_wantsToLeave_52 Z hr hlk hin  h _ _ ls hq hR hS (hl.sub [] rfl)
  refine xaln hx hb hl (x := a0) 2 rfl dX6_wantsToLeave_38 ?_
  refine xgR Z hR hq fl_X6_97 rfl dX6_wantsToLeave_39 (fun x39 hq => ?_)
  refine xiln hx hb hl (x := x8) 0 rfl dX6_wantsToLeave_42 ?_
  refine xaI Z hR hq dX6_wantsToLeave_43 (fun x43 hq => ?_)
  refine xiln hx hb hl (x := a1) 3 rfl dX6_wantsToLeave_44 ?_
  refine xcGt hx hb hq (tgt := 52) dX6_wantsToLeave_45 (by decide) (fun hq => ?_) (fun hq => ?_)
  · exact t_X6_wantsToLeave_52 Z hr hlk hin  h _ _ ls hq hR hS (hl.sub [] rfl)
  refine lv_iconst (v := 1) hx hb dX6_wantsToLeave_48 (by decide) ?_
  refine lv_goto (tgt := 53) hx hb dX6_wantsToLeave_49 (by decide) ?_
  exact t_X6_wantsToLeave_53 Z hr hlk hin 1 h _ _ ls hq hR hS (hl.sub [] rfl)
abbrev rm_X6_leaveOrPutDown : Room := { frames := 2, cells := 0, slots := 0, locals := 44 }
def f_X6_leaveOrPutDown_239   (h : Hp) : Option (Unit × Hp) :=
rtV h
set_option maxHeartbeats 4000000 in
set_option maxRecDepth 100000 in
theorem t_X6_leaveOrPutDown_239 (Z : ZZ p s m args c cX6_leaveOrPutDown RX6 7 G) (hr : meth.sig.returnType = none) (hlk : meth.locks = false) (hin : meth.name = "leaveOrPutDown") {v : Unit} {h1 : Hp} : ∀  (h : Hp) (H : Heap) (locs : List Loc) (ls : Array Slot), f_X6_leaveOrPutDown_239  h = some (v, h1) → Rep G h H → va_S (AA G) s.heap H locs → LV ls 7 [] → W p l e rm_X6_leaveOrPutDown s m args below meth c H locs 0 0 (MQ below (Qx G none h1) args s 0 0 (AA G)) (F0 m 239 ls []) := by
  intro  h H locs ls hq hR hS hl
  have hx := Z.1
  have hb := Z.2.1
  unfold f_X6_leaveOrPutDown_239 at hq
  exact xrV hx hb hr hlk hR hS hq (by decide) (by decide) dX6_leaveOrPutDown_239
def f_X6_leaveOrPutDown_153  (l0 : Option Nat) (l1 : Option Nat) (l2 : Int32) (l3 : Int32) (l5 : Int32) (h : Hp) : Option (Unit × Hp) :=
gR h l0 7 0 (fun x154 =>
gR h l0 7 3 (fun x159 =>
ldI h x159 l3 (fun x163 =>
rcv h x154 4 (fun b164 => bd (f_X3_lengthOf b164 l1 x163 h) (fun x164 h =>
gR h l0 7 9 (fun x170 =>
stI h x170 l5 l3 (fun h =>
gR h l0 7 10 (fun x178 =>
gR h l0 7 0 (fun x190 =>
rcv h x190 4 (fun b193 => bd (f_X3_holdBehind b193 h) (fun x193 h =>
stI h x178 l5 (((l2 + x164) - 1) + x193) (fun h =>
gR h l0 7 3 (fun x199 =>
ldI h x199 l3 (fun x204 =>
stI h x199 l3 (x204 + 1) (fun h =>
gR h l0 7 4 (fun x209 =>
stI h x209 l3 (l2 + x164) (fun h =>
gR h l0 7 5 (fun x219 =>
gR h l1 1 13 (fun x224 =>
gR h l0 7 3 (fun x229 =>
ldI h x229 l3 (fun x233 =>
rcv h l1 1 (fun b234 => bd (f_X0_stationAt b234 x233 h) (fun x234 h =>
ldI h x224 x234 (fun x237 =>
stI h x219 l3 x237 (fun h =>
f_X6_leaveOrPutDown_239  h)))))))))))))))))))))))))
set_option maxHeartbeats 4000000 in
set_option maxRecDepth 100000 in
theorem t_X6_leaveOrPutDown_153 (Z : ZZ p s m args c cX6_leaveOrPutDown RX6 7 G) (hr : meth.sig.returnType = none) (hlk : meth.locks = false) (hin : meth.name = "leaveOrPutDown") {v : Unit} {h1 : Hp} : ∀ (l0 : Option Nat) (l1 : Option Nat) (l2 : Int32) (l3 : Int32) (l5 : Int32) (h : Hp) (H : Heap) (locs : List Loc) (ls : Array Slot), f_X6_leaveOrPutDown_153 l0 l1 l2 l3 l5 h = some (v, h1) → Rep G h H → va_S (AA G) s.heap H locs → LV ls 7 [(0, va_rf l0), (1, va_rf l1), (2, .int l2), (3, .int l3), (5, .int l5)] → W p l e rm_X6_leaveOrPutDown s m args below meth c H locs 0 0 (MQ below (Qx G none h1) args s 0 0 (AA G)) (F0 m 153 ls []) := by
  intro l0 l1 l2 l3 l5 h H locs ls hq hR hS hl
  have hx := Z.1
  have hb := Z.2.1
  unfold f_X6_leaveOrPutDown_153 at hq
  refine xaln hx hb hl (x := l0) 0 rfl dX6_leaveOrPutDown_153 ?_
  refine xgR Z hR hq fl_X6_36 rfl dX6_leaveOrPutDown_154 (fun x154 hq => ?_)
  refine xaln hx hb hl (x := l1) 1 rfl dX6_leaveOrPutDown_157 ?_
  refine xaln hx hb hl (x := l0) 0 rfl dX6_leaveOrPutDown_158 ?_
  refine xgR Z hR hq fl_X6_9 rfl dX6_leaveOrPutDown_159 (fun x159 hq => ?_)
  refine xiln hx hb hl (x := l3) 3 rfl dX6_leaveOrPutDown_162 ?_
  refine xaI Z hR hq dX6_leaveOrPutDown_163 (fun x163 hq => ?_)
  refine xcV Z hR hS hl (rest := []) (As := [va_rf l1, .int x163]) hq cl_X6_117 (fun b x h1 hc => c_X3_lengthOf l b l1 x163 h x h1 hc) ⟨⟨rfl, rfl⟩, (by decide), (by decide)⟩ rfl rfl (by first | decide | (simp only [List.map_cons, List.map_nil, rf_cat, ct_int, ct_ref, List.sum_cons, List.sum_nil] <;> decide)) dX6_leaveOrPutDown_164 (by decide) (fun x164 h H locs hq hR hS => ?_)
  refine xis hx hb hl (x := x164) (lv' := [(6, .int x164), (0, va_rf l0), (1, va_rf l1), (2, .int l2), (3, .int l3), (5, .int l5)]) (by decide) dX6_leaveOrPutDown_167 rfl (fun ls hl => ?_)
  refine xaln hx hb hl (x := l0) 1 rfl dX6_leaveOrPutDown_169 ?_
  refine xgR Z hR hq fl_X6_30 rfl dX6_leaveOrPutDown_170 (fun x170 hq => ?_)
  refine xil hx hb hl (x := l5) 5 rfl dX6_leaveOrPutDown_173 ?_
  refine xiln hx hb hl (x := l3) 4 rfl dX6_leaveOrPutDown_175 ?_
  refine xsI Z hR hS hq dX6_leaveOrPutDown_176 (fun h H locs hq hR hS => ?_)
  refine xaln hx hb hl (x := l0) 1 rfl dX6_leaveOrPutDown_177 ?_
  refine xgR Z hR hq fl_X6_33 rfl dX6_leaveOrPutDown_178 (fun x178 hq => ?_)
  refine xil hx hb hl (x := l5) 5 rfl dX6_leaveOrPutDown_181 ?_
  refine xiln hx hb hl (x := l2) 3 rfl dX6_leaveOrPutDown_183 ?_
  refine xil hx hb hl (x := x164) 0 rfl dX6_leaveOrPutDown_184 ?_
  refine lv_iadd hx hb dX6_leaveOrPutDown_186 ?_
  refine lv_iconst (v := 1) hx hb dX6_leaveOrPutDown_187 (by decide) ?_
  refine lv_isub hx hb dX6_leaveOrPutDown_188 ?_
  refine xaln hx hb hl (x := l0) 1 rfl dX6_leaveOrPutDown_189 ?_
  refine xgR Z hR hq fl_X6_36 rfl dX6_leaveOrPutDown_190 (fun x190 hq => ?_)
  refine xcV Z hR hS hl (rest := [.int ((l2 + x164) - 1), .int l5, va_rf x178]) (As := []) hq cl_X6_121 (fun b x h1 hc => c_X3_holdBehind l b h x h1 hc) ⟨⟨rfl, rfl⟩, (by decide), (by decide)⟩ rfl rfl (by first | decide | (simp only [List.map_cons, List.map_nil, rf_cat, ct_int, ct_ref, List.sum_cons, List.sum_nil] <;> decide)) dX6_leaveOrPutDown_193 (by decide) (fun x193 h H locs hq hR hS => ?_)
  refine lv_iadd hx hb dX6_leaveOrPutDown_196 ?_
  refine xsI Z hR hS hq dX6_leaveOrPutDown_197 (fun h H locs hq hR hS => ?_)
  refine xaln hx hb hl (x := l0) 1 rfl dX6_leaveOrPutDown_198 ?_
  refine xgR Z hR hq fl_X6_9 rfl dX6_leaveOrPutDown_199 (fun x199 hq => ?_)
  refine xiln hx hb hl (x := l3) 4 rfl dX6_leaveOrPutDown_202 ?_
  refine lv_dup2_11 hx hb dX6_leaveOrPutDown_203 rfl (rf_cat x199) ?_
  refine xaI Z hR hq dX6_leaveOrPutDown_204 (fun x204 hq => ?_)
  refine lv_iconst (v := 1) hx hb dX6_leaveOrPutDown_205 (by decide) ?_
  refine lv_iadd hx hb dX6_leaveOrPutDown_206 ?_
  refine xsI Z hR hS hq dX6_leaveOrPutDown_207 (fun h H locs hq hR hS => ?_)
  refine xaln hx hb hl (x := l0) 1 rfl dX6_leaveOrPutDown_208 ?_
  refine xgR Z hR hq fl_X6_15 rfl dX6_leaveOrPutDown_209 (fun x209 hq => ?_)
  refine xiln hx hb hl (x := l3) 4 rfl dX6_leaveOrPutDown_212 ?_
  refine xiln hx hb hl (x := l2) 3 rfl dX6_leaveOrPutDown_213 ?_
  refine xil hx hb hl (x := x164) 0 rfl dX6_leaveOrPutDown_214 ?_
  refine lv_iadd hx hb dX6_leaveOrPutDown_216 ?_
  refine xsI Z hR hS hq dX6_leaveOrPutDown_217 (fun h H locs hq hR hS => ?_)
  refine xaln hx hb hl (x := l0) 1 rfl dX6_leaveOrPutDown_218 ?_
  refine xgR Z hR hq fl_X6_18 rfl dX6_leaveOrPutDown_219 (fun x219 hq => ?_)
  refine xiln hx hb hl (x := l3) 4 rfl dX6_leaveOrPutDown_222 ?_
  refine xaln hx hb hl (x := l1) 2 rfl dX6_leaveOrPutDown_223 ?_
  refine xgR Z hR hq fl_X6_81 rfl dX6_leaveOrPutDown_224 (fun x224 hq => ?_)
  refine xaln hx hb hl (x := l1) 2 rfl dX6_leaveOrPutDown_227 ?_
  refine xaln hx hb hl (x := l0) 1 rfl dX6_leaveOrPutDown_228 ?_
  refine xgR Z hR hq fl_X6_9 rfl dX6_leaveOrPutDown_229 (fun x229 hq => ?_)
  refine xiln hx hb hl (x := l3) 4 rfl dX6_leaveOrPutDown_232 ?_
  refine xaI Z hR hq dX6_leaveOrPutDown_233 (fun x233 hq => ?_)
  refine xcV Z hR hS hl (rest := [va_rf x224, .int l3, va_rf x219]) (As := [.int x233]) hq cl_X6_124 (fun b x h1 hc => c_X0_stationAt l b x233 h x h1 hc) ⟨⟨rfl, rfl⟩, (by decide), (by decide)⟩ rfl rfl (by first | decide | (simp only [List.map_cons, List.map_nil, rf_cat, ct_int, ct_ref, List.sum_cons, List.sum_nil] <;> decide)) dX6_leaveOrPutDown_234 (by decide) (fun x234 h H locs hq hR hS => ?_)
  refine xaI Z hR hq dX6_leaveOrPutDown_237 (fun x237 hq => ?_)
  refine xsI Z hR hS hq dX6_leaveOrPutDown_238 (fun h H locs hq hR hS => ?_)
  exact t_X6_leaveOrPutDown_239 Z hr hlk hin  h H locs ls hq hR hS (hl.sub [] rfl)
def f_X6_leaveOrPutDown_46  (s0 : Int32) (s1 : Int32) (l0 : Option Nat) (l1 : Option Nat) (l2 : Int32) (l3 : Int32) (l4 : Int32) (h : Hp) : Option (Unit × Hp) :=
gR h l0 7 5 (fun x50 =>
ldI h x50 l3 (fun x54 =>
(if x54 ≤ 0 then
gR h l0 7 0 (fun x82 =>
rcv h x82 4 (fun b88 => bd (f_X3_isClosed b88 l4 l2 h) (fun x88 h =>
(if x88 = 0 then
gR h l0 7 10 (fun x108 =>
ldI h x108 (s0 + s1) (fun x113 =>
(if x113 < l2 then
f_X6_leaveOrPutDown_153 l0 l1 l2 l3 (s0 + s1) h
else
gR h l0 7 9 (fun x119 =>
ldI h x119 (s0 + s1) (fun x124 =>
(if x124 = (-1) then
f_X6_leaveOrPutDown_153 l0 l1 l2 l3 (s0 + s1) h
else
gR h l0 7 8 (fun x130 =>
gR h l0 7 9 (fun x138 =>
ldI h x138 (s0 + s1) (fun x143 =>
ldI h x130 ((l3 * 16) + x143) (fun x146 =>
stI h x130 ((l3 * 16) + x143) (x146 + 1) (fun h =>
f_X6_leaveOrPutDown_239  h)))))))))))
else
gR h l0 7 7 (fun x95 =>
ldI h x95 l3 (fun x100 =>
stI h x95 l3 (x100 + 1) (fun h =>
f_X6_leaveOrPutDown_239  h)))))))
else
gR h l0 7 5 (fun x59 =>
ldI h x59 l3 (fun x64 =>
stI h x59 l3 (x64 - 1) (fun h =>
gR h l0 7 6 (fun x69 =>
ldI h x69 l3 (fun x74 =>
stI h x69 l3 (x74 + 1) (fun h =>
f_X6_leaveOrPutDown_239  h)))))))))
set_option maxHeartbeats 4000000 in
set_option maxRecDepth 100000 in
theorem t_X6_leaveOrPutDown_46 (Z : ZZ p s m args c cX6_leaveOrPutDown RX6 7 G) (hr : meth.sig.returnType = none) (hlk : meth.locks = false) (hin : meth.name = "leaveOrPutDown") {v : Unit} {h1 : Hp} : ∀ (s0 : Int32) (s1 : Int32) (l0 : Option Nat) (l1 : Option Nat) (l2 : Int32) (l3 : Int32) (l4 : Int32) (h : Hp) (H : Heap) (locs : List Loc) (ls : Array Slot), f_X6_leaveOrPutDown_46 s0 s1 l0 l1 l2 l3 l4 h = some (v, h1) → Rep G h H → va_S (AA G) s.heap H locs → LV ls 7 [(0, va_rf l0), (1, va_rf l1), (2, .int l2), (3, .int l3), (4, .int l4)] → W p l e rm_X6_leaveOrPutDown s m args below meth c H locs 0 0 (MQ below (Qx G none h1) args s 0 0 (AA G)) (F0 m 46 ls [.int s1, .int s0]) := by
  intro s0 s1 l0 l1 l2 l3 l4 h H locs ls hq hR hS hl
  have hx := Z.1
  have hb := Z.2.1
  unfold f_X6_leaveOrPutDown_46 at hq
  refine lv_iadd hx hb dX6_leaveOrPutDown_46 ?_
  refine xis hx hb hl (x := (s0 + s1)) (lv' := [(5, .int (s0 + s1)), (0, va_rf l0), (1, va_rf l1), (2, .int l2), (3, .int l3), (4, .int l4)]) (by decide) dX6_leaveOrPutDown_47 rfl (fun ls hl => ?_)
  refine xaln hx hb hl (x := l0) 1 rfl dX6_leaveOrPutDown_49 ?_
  refine xgR Z hR hq fl_X6_18 rfl dX6_leaveOrPutDown_50 (fun x50 hq => ?_)
  refine xiln hx hb hl (x := l3) 4 rfl dX6_leaveOrPutDown_53 ?_
  refine xaI Z hR hq dX6_leaveOrPutDown_54 (fun x54 hq => ?_)
  refine xzLe hx hb hq (tgt := 81) dX6_leaveOrPutDown_55 (by decide) (fun hq => ?_) (fun hq => ?_)
  · refine xaln hx hb hl (x := l0) 1 rfl dX6_leaveOrPutDown_81 ?_
    refine xgR Z hR hq fl_X6_36 rfl dX6_leaveOrPutDown_82 (fun x82 hq => ?_)
    refine xil hx hb hl (x := l4) 5 rfl dX6_leaveOrPutDown_85 ?_
    refine xiln hx hb hl (x := l2) 3 rfl dX6_leaveOrPutDown_87 ?_
    refine xcV Z hR hS hl (rest := []) (As := [.int l4, .int l2]) hq cl_X6_113 (fun b x h1 hc => c_X3_isClosed l b l4 l2 h x h1 hc) ⟨⟨rfl, rfl⟩, (by decide), (by decide)⟩ rfl rfl (by first | decide | (simp only [List.map_cons, List.map_nil, rf_cat, ct_int, ct_ref, List.sum_cons, List.sum_nil] <;> decide)) dX6_leaveOrPutDown_88 (by decide) (fun x88 h H locs hq hR hS => ?_)
    refine xzEq hx hb hq (tgt := 107) dX6_leaveOrPutDown_91 (by decide) (fun hq => ?_) (fun hq => ?_)
    · refine xaln hx hb hl (x := l0) 1 rfl dX6_leaveOrPutDown_107 ?_
      refine xgR Z hR hq fl_X6_33 rfl dX6_leaveOrPutDown_108 (fun x108 hq => ?_)
      refine xil hx hb hl (x := (s0 + s1)) 0 rfl dX6_leaveOrPutDown_111 ?_
      refine xaI Z hR hq dX6_leaveOrPutDown_113 (fun x113 hq => ?_)
      refine xiln hx hb hl (x := l2) 3 rfl dX6_leaveOrPutDown_114 ?_
      refine xcLt hx hb hq (tgt := 153) dX6_leaveOrPutDown_115 (by decide) (fun hq => ?_) (fun hq => ?_)
      · exact t_X6_leaveOrPutDown_153 Z hr hlk hin l0 l1 l2 l3 (s0 + s1) h H locs ls hq hR hS (hl.sub [1, 2, 3, 4, 0] rfl)
      refine xaln hx hb hl (x := l0) 1 rfl dX6_leaveOrPutDown_118 ?_
      refine xgR Z hR hq fl_X6_30 rfl dX6_leaveOrPutDown_119 (fun x119 hq => ?_)
      refine xil hx hb hl (x := (s0 + s1)) 0 rfl dX6_leaveOrPutDown_122 ?_
      refine xaI Z hR hq dX6_leaveOrPutDown_124 (fun x124 hq => ?_)
      refine lv_iconst (v := (-1)) hx hb dX6_leaveOrPutDown_125 (by decide) ?_
      refine xcEq hx hb hq (tgt := 153) dX6_leaveOrPutDown_126 (by decide) (fun hq => ?_) (fun hq => ?_)
      · exact t_X6_leaveOrPutDown_153 Z hr hlk hin l0 l1 l2 l3 (s0 + s1) h H locs ls hq hR hS (hl.sub [1, 2, 3, 4, 0] rfl)
      refine xaln hx hb hl (x := l0) 1 rfl dX6_leaveOrPutDown_129 ?_
      refine xgR Z hR hq fl_X6_27 rfl dX6_leaveOrPutDown_130 (fun x130 hq => ?_)
      refine xiln hx hb hl (x := l3) 4 rfl dX6_leaveOrPutDown_133 ?_
      refine lv_bipush (v := 16) hx hb dX6_leaveOrPutDown_134 (by decide) ?_
      refine lv_imul hx hb dX6_leaveOrPutDown_136 ?_
      refine xaln hx hb hl (x := l0) 1 rfl dX6_leaveOrPutDown_137 ?_
      refine xgR Z hR hq fl_X6_30 rfl dX6_leaveOrPutDown_138 (fun x138 hq => ?_)
      refine xil hx hb hl (x := (s0 + s1)) 0 rfl dX6_leaveOrPutDown_141 ?_
      refine xaI Z hR hq dX6_leaveOrPutDown_143 (fun x143 hq => ?_)
      refine lv_iadd hx hb dX6_leaveOrPutDown_144 ?_
      refine lv_dup2_11 hx hb dX6_leaveOrPutDown_145 rfl (rf_cat x130) ?_
      refine xaI Z hR hq dX6_leaveOrPutDown_146 (fun x146 hq => ?_)
      refine lv_iconst (v := 1) hx hb dX6_leaveOrPutDown_147 (by decide) ?_
      refine lv_iadd hx hb dX6_leaveOrPutDown_148 ?_
      refine xsI Z hR hS hq dX6_leaveOrPutDown_149 (fun h H locs hq hR hS => ?_)
      refine lv_goto (tgt := 239) hx hb dX6_leaveOrPutDown_150 (by decide) ?_
      exact t_X6_leaveOrPutDown_239 Z hr hlk hin  h H locs ls hq hR hS (hl.sub [] rfl)
    refine xaln hx hb hl (x := l0) 1 rfl dX6_leaveOrPutDown_94 ?_
    refine xgR Z hR hq fl_X6_24 rfl dX6_leaveOrPutDown_95 (fun x95 hq => ?_)
    refine xiln hx hb hl (x := l3) 4 rfl dX6_leaveOrPutDown_98 ?_
    refine lv_dup2_11 hx hb dX6_leaveOrPutDown_99 rfl (rf_cat x95) ?_
    refine xaI Z hR hq dX6_leaveOrPutDown_100 (fun x100 hq => ?_)
    refine lv_iconst (v := 1) hx hb dX6_leaveOrPutDown_101 (by decide) ?_
    refine lv_iadd hx hb dX6_leaveOrPutDown_102 ?_
    refine xsI Z hR hS hq dX6_leaveOrPutDown_103 (fun h H locs hq hR hS => ?_)
    refine lv_goto (tgt := 239) hx hb dX6_leaveOrPutDown_104 (by decide) ?_
    exact t_X6_leaveOrPutDown_239 Z hr hlk hin  h H locs ls hq hR hS (hl.sub [] rfl)
  refine xaln hx hb hl (x := l0) 1 rfl dX6_leaveOrPutDown_58 ?_
  refine xgR Z hR hq fl_X6_18 rfl dX6_leaveOrPutDown_59 (fun x59 hq => ?_)
  refine xiln hx hb hl (x := l3) 4 rfl dX6_leaveOrPutDown_62 ?_
  refine lv_dup2_11 hx hb dX6_leaveOrPutDown_63 rfl (rf_cat x59) ?_
  refine xaI Z hR hq dX6_leaveOrPutDown_64 (fun x64 hq => ?_)
  refine lv_iconst (v := 1) hx hb dX6_leaveOrPutDown_65 (by decide) ?_
  refine lv_isub hx hb dX6_leaveOrPutDown_66 ?_
  refine xsI Z hR hS hq dX6_leaveOrPutDown_67 (fun h H locs hq hR hS => ?_)
  refine xaln hx hb hl (x := l0) 1 rfl dX6_leaveOrPutDown_68 ?_
  refine xgR Z hR hq fl_X6_21 rfl dX6_leaveOrPutDown_69 (fun x69 hq => ?_)
  refine xiln hx hb hl (x := l3) 4 rfl dX6_leaveOrPutDown_72 ?_
  refine lv_dup2_11 hx hb dX6_leaveOrPutDown_73 rfl (rf_cat x69) ?_
  refine xaI Z hR hq dX6_leaveOrPutDown_74 (fun x74 hq => ?_)
  refine lv_iconst (v := 1) hx hb dX6_leaveOrPutDown_75 (by decide) ?_
  refine lv_iadd hx hb dX6_leaveOrPutDown_76 ?_
  refine xsI Z hR hS hq dX6_leaveOrPutDown_77 (fun h H locs hq hR hS => ?_)
  refine lv_goto (tgt := 239) hx hb dX6_leaveOrPutDown_78 (by decide) ?_
  exact t_X6_leaveOrPutDown_239 Z hr hlk hin  h H locs ls hq hR hS (hl.sub [] rfl)
def f_X6_leaveOrPutDown_45  (s0 : Int32) (l0 : Option Nat) (l1 : Option Nat) (l2 : Int32) (l3 : Int32) (l4 : Int32) (h : Hp) : Option (Unit × Hp) :=
f_X6_leaveOrPutDown_46 s0 0 l0 l1 l2 l3 l4 h
set_option maxHeartbeats 4000000 in
set_option maxRecDepth 100000 in
theorem t_X6_leaveOrPutDown_45 (Z : ZZ p s m args c cX6_leaveOrPutDown RX6 7 G) (hr : meth.sig.returnType = none) (hlk : meth.locks = false) (hin : meth.name = "leaveOrPutDown") {v : Unit} {h1 : Hp} : ∀ (s0 : Int32) (l0 : Option Nat) (l1 : Option Nat) (l2 : Int32) (l3 : Int32) (l4 : Int32) (h : Hp) (H : Heap) (locs : List Loc) (ls : Array Slot), f_X6_leaveOrPutDown_45 s0 l0 l1 l2 l3 l4 h = some (v, h1) → Rep G h H → va_S (AA G) s.heap H locs → LV ls 7 [(0, va_rf l0), (1, va_rf l1), (2, .int l2), (3, .int l3), (4, .int l4)] → W p l e rm_X6_leaveOrPutDown s m args below meth c H locs 0 0 (MQ below (Qx G none h1) args s 0 0 (AA G)) (F0 m 45 ls [.int s0]) := by
  intro s0 l0 l1 l2 l3 l4 h H locs ls hq hR hS hl
  have hx := Z.1
  have hb := Z.2.1
  unfold f_X6_leaveOrPutDown_45 at hq
  refine lv_iconst (v := 0) hx hb dX6_leaveOrPutDown_45 (by decide) ?_
  exact t_X6_leaveOrPutDown_46 Z hr hlk hin s0 0 l0 l1 l2 l3 l4 h H locs ls hq hR hS (hl.sub [0, 1, 2, 3, 4] rfl)
def f_X6_leaveOrPutDown (this : Nat) (a0 : Option Nat) (a1 : Int32) (h : Hp) : Option (Unit × Hp) :=
gI h a0 1 0 (fun x1 =>
gR h (some this) 7 3 (fun x7 =>
ldI h x7 x1 (fun x11 =>
rcv h a0 1 (fun b12 => bd (f_X0_sectionAt b12 x11 h) (fun x12 h =>
gR h (some this) 7 0 (fun x22 =>
gR h x22 4 1 (fun x25 =>
ldZ h x25 x12 (fun x30 =>
(if x30 = 0 then
f_X6_leaveOrPutDown_45 (x12 * 2) (some this) a0 a1 x1 x12 h
else
rcv h a0 1 (fun b35 => bd (f_X0_way b35 h) (fun x35 h =>
(if 0 ≤ x35 then
f_X6_leaveOrPutDown_45 (x12 * 2) (some this) a0 a1 x1 x12 h
else
f_X6_leaveOrPutDown_46 (x12 * 2) 1 (some this) a0 a1 x1 x12 h))))))))))))
set_option maxHeartbeats 4000000 in
set_option maxRecDepth 100000 in
theorem c_X6_leaveOrPutDown (l : Launch) {G : GG} (this : Nat) (a0 : Option Nat) (a1 : Int32) (h : Hp) (v : Unit) (h1 : Hp) (hq : f_X6_leaveOrPutDown this a0 a1 h = some (v, h1)) : Met l yX6_leaveOrPutDown (Cond.code yX6_leaveOrPutDown cX6_leaveOrPutDown 7 none :: GT) rm_X6_leaveOrPutDown (va_Pc [.ref this, va_rf a0, .int a1] (Cn G h)) (Qx G none h1) 0 0 (AA G) := by
  refine xMet (cc := cX6_leaveOrPutDown) (by decide) (Nat.le_of_ble_eq_true rfl) (List.forall_mem_cons.mpr ⟨rfl, (List.forall_mem_cons.mpr ⟨(rf_cat a0), (List.forall_mem_cons.mpr ⟨rfl, (fun _ z => by cases z)⟩)⟩)⟩) ?_
  intro p e s m below meth c ls Z hr hlk hin hR hS hl
  have hx := Z.1
  have hb := Z.2.1
  have hl : LV ls 7 [(0, va_rf (some this)), (1, va_rf a0), (2, .int a1)] := hl
  unfold f_X6_leaveOrPutDown at hq
  refine xaln hx hb hl (x := a0) 1 rfl dX6_leaveOrPutDown_0 ?_
  refine xgI Z hR hq fl_X6_88 rfl dX6_leaveOrPutDown_1 (fun x1 hq => ?_)
  refine xisn hx hb hl (x := x1) (lv' := [(3, .int x1), (0, va_rf (some this)), (1, va_rf a0), (2, .int a1)]) (by decide) dX6_leaveOrPutDown_4 rfl (fun ls hl => ?_)
  refine xaln hx hb hl (x := a0) 2 rfl dX6_leaveOrPutDown_5 ?_
  refine xaln hx hb hl (x := (some this)) 1 rfl dX6_leaveOrPutDown_6 ?_
  refine xgR Z hR hq fl_X6_9 rfl dX6_leaveOrPutDown_7 (fun x7 hq => ?_)
  refine xiln hx hb hl (x := x1) 0 rfl dX6_leaveOrPutDown_10 ?_
  refine xaI Z hR hq dX6_leaveOrPutDown_11 (fun x11 hq => ?_)
  refine xcV Z hR hS hl (rest := []) (As := [.int x11]) hq cl_X6_100 (fun b x h1 hc => c_X0_sectionAt l b x11 h x h1 hc) ⟨⟨rfl, rfl⟩, (by decide), (by decide)⟩ rfl rfl (by first | decide | (simp only [List.map_cons, List.map_nil, rf_cat, ct_int, ct_ref, List.sum_cons, List.sum_nil] <;> decide)) dX6_leaveOrPutDown_12 (by decide) (fun x12 h H locs hq hR hS => ?_)
  refine xis hx hb hl (x := x12) (lv' := [(4, .int x12), (3, .int x1), (0, va_rf (some this)), (1, va_rf a0), (2, .int a1)]) (by decide) dX6_leaveOrPutDown_15 rfl (fun ls hl => ?_)
  refine xil hx hb hl (x := x12) 0 rfl dX6_leaveOrPutDown_17 ?_
  refine lv_iconst (v := 2) hx hb dX6_leaveOrPutDown_19 (by decide) ?_
  refine lv_imul hx hb dX6_leaveOrPutDown_20 ?_
  refine xaln hx hb hl (x := (some this)) 2 rfl dX6_leaveOrPutDown_21 ?_
  refine xgR Z hR hq fl_X6_36 rfl dX6_leaveOrPutDown_22 (fun x22 hq => ?_)
  refine xgR Z hR hq fl_X6_104 rfl dX6_leaveOrPutDown_25 (fun x25 hq => ?_)
  refine xil hx hb hl (x := x12) 0 rfl dX6_leaveOrPutDown_28 ?_
  refine xaZ Z hR hq dX6_leaveOrPutDown_30 (fun x30 hq => ?_)
  refine xzEq hx hb hq (tgt := 45) dX6_leaveOrPutDown_31 (by decide) (fun hq => ?_) (fun hq => ?_)
  · exact t_X6_leaveOrPutDown_45 Z hr hlk hin (x12 * 2) (some this) a0 a1 x1 x12 h _ _ ls hq hR hS (hl.sub [2, 3, 4, 1, 0] rfl)
  refine xaln hx hb hl (x := a0) 3 rfl dX6_leaveOrPutDown_34 ?_
  refine xcV Z hR hS hl (rest := [.int (x12 * 2)]) (As := []) hq cl_X6_110 (fun b x h1 hc => c_X0_way l b h x h1 hc) ⟨⟨rfl, rfl⟩, (by decide), (by decide)⟩ rfl rfl (by first | decide | (simp only [List.map_cons, List.map_nil, rf_cat, ct_int, ct_ref, List.sum_cons, List.sum_nil] <;> decide)) dX6_leaveOrPutDown_35 (by decide) (fun x35 h H locs hq hR hS => ?_)
  refine xzGe hx hb hq (tgt := 45) dX6_leaveOrPutDown_38 (by decide) (fun hq => ?_) (fun hq => ?_)
  · exact t_X6_leaveOrPutDown_45 Z hr hlk hin (x12 * 2) (some this) a0 a1 x1 x12 h _ _ ls hq hR hS (hl.sub [2, 3, 4, 1, 0] rfl)
  refine lv_iconst (v := 1) hx hb dX6_leaveOrPutDown_41 (by decide) ?_
  refine lv_goto (tgt := 46) hx hb dX6_leaveOrPutDown_42 (by decide) ?_
  exact t_X6_leaveOrPutDown_46 Z hr hlk hin (x12 * 2) 1 (some this) a0 a1 x1 x12 h _ _ ls hq hR hS (hl.sub [2, 3, 4, 1, 0] rfl)
abbrev rm_X6_bringUpToDate : Room := { frames := 4, cells := 0, slots := 0, locals := 86 }
def f_X6_bringUpToDate_67  (k14 : Option Nat × Int32 × Hp → Option (Unit × Hp)) (k23 : Option Nat × Int32 × Int32 × Hp → Option (Unit × Hp)) (l0 : Option Nat) (l1 : Int32) (l2 : Int32) (h : Hp) : Option (Unit × Hp) :=
k23 (l0, l1, (l2 + 1), h)
set_option maxHeartbeats 4000000 in
set_option maxRecDepth 100000 in
theorem t_X6_bringUpToDate_67 (Z : ZZ p s m args c cX6_bringUpToDate RX6 4 G) (hr : meth.sig.returnType = none) (hlk : meth.locks = false) (hin : meth.name = "bringUpToDate") {v : Unit} {h1 : Hp} {k14 : Option Nat × Int32 × Hp → Option (Unit × Hp)} (hk14 : ∀ u : Option Nat × Int32 × Hp, k14 u = some (v, h1) → ∀ (H : Heap) (locs : List Loc) (ls : Array Slot), Rep G u.2.2 H → va_S (AA G) s.heap H locs → LV ls 4 [(0, va_rf u.1), (1, .int u.2.1)] → W p l e rm_X6_bringUpToDate s m args below meth c H locs 0 0 (MQ below (Qx G none h1) args s 0 0 (AA G)) (F0 m 14 ls [])) {k23 : Option Nat × Int32 × Int32 × Hp → Option (Unit × Hp)} (hk23 : ∀ u : Option Nat × Int32 × Int32 × Hp, k23 u = some (v, h1) → ∀ (H : Heap) (locs : List Loc) (ls : Array Slot), Rep G u.2.2.2 H → va_S (AA G) s.heap H locs → LV ls 4 [(0, va_rf u.1), (1, .int u.2.1), (2, .int u.2.2.1)] → W p l e rm_X6_bringUpToDate s m args below meth c H locs 0 0 (MQ below (Qx G none h1) args s 0 0 (AA G)) (F0 m 23 ls [])) : ∀ (l0 : Option Nat) (l1 : Int32) (l2 : Int32) (h : Hp) (H : Heap) (locs : List Loc) (ls : Array Slot), f_X6_bringUpToDate_67 k14 k23 l0 l1 l2 h = some (v, h1) → Rep G h H → va_S (AA G) s.heap H locs → LV ls 4 [(0, va_rf l0), (1, .int l1), (2, .int l2)] → W p l e rm_X6_bringUpToDate s m args below meth c H locs 0 0 (MQ below (Qx G none h1) args s 0 0 (AA G)) (F0 m 67 ls []) := by
  intro l0 l1 l2 h H locs ls hq hR hS hl
  have hx := Z.1
  have hb := Z.2.1
  unfold f_X6_bringUpToDate_67 at hq
  refine xinc hx hb hl (x := l2) (v := (l2 + 1)) (lv' := [(2, .int (l2 + 1)), (0, va_rf l0), (1, .int l1)]) 2 rfl (by rw [show Int32.ofInt (1) = (1 : Int32) from by decide]) (by decide) dX6_bringUpToDate_67 rfl (fun ls hl => ?_)
  refine lv_goto (tgt := 23) hx hb dX6_bringUpToDate_70 (by decide) ?_
  exact hk23 (l0, l1, (l2 + 1), h) hq H locs ls hR hS (hl.sub [1, 2, 0] rfl)
def fb_X6_bringUpToDate_23  (k14 : Option Nat × Int32 × Hp → Option (Unit × Hp)) (k23 : Option Nat × Int32 × Int32 × Hp → Option (Unit × Hp)) (l0 : Option Nat) (l1 : Int32) (l2 : Int32) (h : Hp) : Option (Unit × Hp) :=
gR h l0 7 1 (fun x25 =>
gR h x25 2 1 (fun x28 =>
rcv h x28 0 (fun b31 => bd (f_Jx4a65c_size_8abf5 b31 h) (fun x31 h =>
(if x31 ≤ l2 then
k14 (l0, (l1 + 1), h)
else
gR h l0 7 1 (fun x38 =>
gR h x38 2 1 (fun x41 =>
rcv h x41 0 (fun b45 => bd (f_Jx4a65c_get_915e3 b45 l2 h) (fun x45 h =>
ckc h x45 1 (
rcv h l0 7 (fun b55 => bd (f_X6_wantsToLeave b55 x45 l1 h) (fun x55 h =>
(if x55 = 0 then
f_X6_bringUpToDate_67 k14 k23 l0 l1 l2 h
else
rcv h l0 7 (fun b64 => bd (f_X6_leaveOrPutDown b64 x45 l1 h) (fun u64 h =>
f_X6_bringUpToDate_67 k14 k23 l0 l1 l2 h)))))))))))))))
set_option maxHeartbeats 4000000 in
set_option maxRecDepth 100000 in
theorem tb_X6_bringUpToDate_23 (Z : ZZ p s m args c cX6_bringUpToDate RX6 4 G) (hr : meth.sig.returnType = none) (hlk : meth.locks = false) (hin : meth.name = "bringUpToDate") {v : Unit} {h1 : Hp} {k14 : Option Nat × Int32 × Hp → Option (Unit × Hp)} (hk14 : ∀ u : Option Nat × Int32 × Hp, k14 u = some (v, h1) → ∀ (H : Heap) (locs : List Loc) (ls : Array Slot), Rep G u.2.2 H → va_S (AA G) s.heap H locs → LV ls 4 [(0, va_rf u.1), (1, .int u.2.1)] → W p l e rm_X6_bringUpToDate s m args below meth c H locs 0 0 (MQ below (Qx G none h1) args s 0 0 (AA G)) (F0 m 14 ls [])) {k23 : Option Nat × Int32 × Int32 × Hp → Option (Unit × Hp)} (hk23 : ∀ u : Option Nat × Int32 × Int32 × Hp, k23 u = some (v, h1) → ∀ (H : Heap) (locs : List Loc) (ls : Array Slot), Rep G u.2.2.2 H → va_S (AA G) s.heap H locs → LV ls 4 [(0, va_rf u.1), (1, .int u.2.1), (2, .int u.2.2.1)] → W p l e rm_X6_bringUpToDate s m args below meth c H locs 0 0 (MQ below (Qx G none h1) args s 0 0 (AA G)) (F0 m 23 ls [])) : ∀ (l0 : Option Nat) (l1 : Int32) (l2 : Int32) (h : Hp) (H : Heap) (locs : List Loc) (ls : Array Slot), fb_X6_bringUpToDate_23 k14 k23 l0 l1 l2 h = some (v, h1) → Rep G h H → va_S (AA G) s.heap H locs → LV ls 4 [(0, va_rf l0), (1, .int l1), (2, .int l2)] → W p l e rm_X6_bringUpToDate s m args below meth c H locs 0 0 (MQ below (Qx G none h1) args s 0 0 (AA G)) (F0 m 23 ls []) := by
  intro l0 l1 l2 h H locs ls hq hR hS hl
  have hx := Z.1
  have hb := Z.2.1
  unfold fb_X6_bringUpToDate_23 at hq
  refine xiln hx hb hl (x := l2) 2 rfl dX6_bringUpToDate_23 ?_
  refine xaln hx hb hl (x := l0) 0 rfl dX6_bringUpToDate_24 ?_
  refine xgR Z hR hq fl_X6_40 rfl dX6_bringUpToDate_25 (fun x25 hq => ?_)
  refine xgR Z hR hq fl_X6_51 rfl dX6_bringUpToDate_28 (fun x28 hq => ?_)
  refine xcV Z hR hS hl (rest := [.int l2]) (As := []) hq cl_X6_57 (fun b x h1 hc => c_Jx4a65c_size_8abf5 l b h x h1 hc) ⟨⟨rfl, rfl⟩, (by decide), (by decide)⟩ rfl rfl (by first | decide | (simp only [List.map_cons, List.map_nil, rf_cat, ct_int, ct_ref, List.sum_cons, List.sum_nil] <;> decide)) dX6_bringUpToDate_31 (by decide) (fun x31 h H locs hq hR hS => ?_)
  refine xcGe hx hb hq (tgt := 73) dX6_bringUpToDate_34 (by decide) (fun hq => ?_) (fun hq => ?_)
  · refine xinc hx hb hl (x := l1) (v := (l1 + 1)) (lv' := [(1, .int (l1 + 1)), (0, va_rf l0), (2, .int l2)]) 1 rfl (by rw [show Int32.ofInt (1) = (1 : Int32) from by decide]) (by decide) dX6_bringUpToDate_73 rfl (fun ls hl => ?_)
    refine lv_goto (tgt := 14) hx hb dX6_bringUpToDate_76 (by decide) ?_
    exact hk14 (l0, (l1 + 1), h) hq H locs ls hR hS (hl.sub [1, 0] rfl)
  refine xaln hx hb hl (x := l0) 0 rfl dX6_bringUpToDate_37 ?_
  refine xgR Z hR hq fl_X6_40 rfl dX6_bringUpToDate_38 (fun x38 hq => ?_)
  refine xgR Z hR hq fl_X6_51 rfl dX6_bringUpToDate_41 (fun x41 hq => ?_)
  refine xiln hx hb hl (x := l2) 2 rfl dX6_bringUpToDate_44 ?_
  refine xcV Z hR hS hl (rest := []) (As := [.int l2]) hq cl_X6_63 (fun b x h1 hc => c_Jx4a65c_get_915e3 l b l2 h x h1 hc) ⟨⟨rfl, rfl⟩, (by decide), (by decide)⟩ rfl rfl (by first | decide | (simp only [List.map_cons, List.map_nil, rf_cat, ct_int, ct_ref, List.sum_cons, List.sum_nil] <;> decide)) dX6_bringUpToDate_45 (by decide) (fun x45 h H locs hq hR hS => ?_)
  refine xck Z hR hq ck_X6_67 dX6_bringUpToDate_48 (fun hq => ?_)
  refine xasn hx hb hl (x := x45) (lv' := [(3, va_rf x45), (0, va_rf l0), (1, .int l1), (2, .int l2)]) (by decide) dX6_bringUpToDate_51 rfl (fun ls hl => ?_)
  refine xaln hx hb hl (x := l0) 1 rfl dX6_bringUpToDate_52 ?_
  refine xaln hx hb hl (x := x45) 0 rfl dX6_bringUpToDate_53 ?_
  refine xiln hx hb hl (x := l1) 2 rfl dX6_bringUpToDate_54 ?_
  refine xcV Z hR hS hl (rest := []) (As := [va_rf x45, .int l1]) hq cl_X6_69 (fun b x h1 hc => c_X6_wantsToLeave l b x45 l1 h x h1 hc) ⟨⟨rfl, rfl⟩, (by decide), (by decide)⟩ rfl rfl (by first | decide | (simp only [List.map_cons, List.map_nil, rf_cat, ct_int, ct_ref, List.sum_cons, List.sum_nil] <;> decide)) dX6_bringUpToDate_55 (by decide) (fun x55 h H locs hq hR hS => ?_)
  refine xzEq hx hb hq (tgt := 67) dX6_bringUpToDate_58 (by decide) (fun hq => ?_) (fun hq => ?_)
  · exact t_X6_bringUpToDate_67 Z hr hlk hin hk14 hk23 l0 l1 l2 h H locs ls hq hR hS (hl.sub [1, 2, 3] rfl)
  refine xaln hx hb hl (x := l0) 1 rfl dX6_bringUpToDate_61 ?_
  refine xaln hx hb hl (x := x45) 0 rfl dX6_bringUpToDate_62 ?_
  refine xiln hx hb hl (x := l1) 2 rfl dX6_bringUpToDate_63 ?_
  refine xcV Z hR hS hl (rest := []) (As := [va_rf x45, .int l1]) hq cl_X6_73 (fun b x h1 hc => c_X6_leaveOrPutDown l b x45 l1 h x h1 hc) ⟨⟨rfl, rfl⟩, (by decide), (by decide)⟩ rfl rfl (by first | decide | (simp only [List.map_cons, List.map_nil, rf_cat, ct_int, ct_ref, List.sum_cons, List.sum_nil] <;> decide)) dX6_bringUpToDate_64 (by decide) (fun u64 h H locs hq hR hS => ?_)
  exact t_X6_bringUpToDate_67 Z hr hlk hin hk14 hk23 l0 l1 l2 h H locs ls hq hR hS (hl.sub [1, 2, 3] rfl)
def f_X6_bringUpToDate_23  (k14 : Option Nat × Int32 × Hp → Option (Unit × Hp)) (l0 : Option Nat) (l1 : Int32) (l2 : Int32) (h : Hp) : Option (Unit × Hp) :=
  lp (fun (k23 : Option Nat × Int32 × Int32 × Hp → Option (Unit × Hp)) (u : Option Nat × Int32 × Int32 × Hp) => fb_X6_bringUpToDate_23 k14 k23 u.1 u.2.1 u.2.2.1 u.2.2.2) FU (l0, l1, l2, h)
theorem t_X6_bringUpToDate_23 (Z : ZZ p s m args c cX6_bringUpToDate RX6 4 G) (hr : meth.sig.returnType = none) (hlk : meth.locks = false) (hin : meth.name = "bringUpToDate") {v : Unit} {h1 : Hp} {k14 : Option Nat × Int32 × Hp → Option (Unit × Hp)} (hk14 : ∀ u : Option Nat × Int32 × Hp, k14 u = some (v, h1) → ∀ (H : Heap) (locs : List Loc) (ls : Array Slot), Rep G u.2.2 H → va_S (AA G) s.heap H locs → LV ls 4 [(0, va_rf u.1), (1, .int u.2.1)] → W p l e rm_X6_bringUpToDate s m args below meth c H locs 0 0 (MQ below (Qx G none h1) args s 0 0 (AA G)) (F0 m 14 ls [])) : ∀ (l0 : Option Nat) (l1 : Int32) (l2 : Int32) (h : Hp) (H : Heap) (locs : List Loc) (ls : Array Slot), f_X6_bringUpToDate_23 k14 l0 l1 l2 h = some (v, h1) → Rep G h H → va_S (AA G) s.heap H locs → LV ls 4 [(0, va_rf l0), (1, .int l1), (2, .int l2)] → W p l e rm_X6_bringUpToDate s m args below meth c H locs 0 0 (MQ below (Qx G none h1) args s 0 0 (AA G)) (F0 m 23 ls []) := by
  intro l0 l1 l2 h H locs ls hq hR hS hl
  exact lp_ind (P := fun u : Option Nat × Int32 × Int32 × Hp => ∀ (H : Heap) (locs : List Loc) (ls : Array Slot), Rep G u.2.2.2 H → va_S (AA G) s.heap H locs → LV ls 4 [(0, va_rf u.1), (1, .int u.2.1), (2, .int u.2.2.1)] → W p l e rm_X6_bringUpToDate s m args below meth c H locs 0 0 (MQ below (Qx G none h1) args s 0 0 (AA G)) (F0 m 23 ls [])) (fun k hk u hq H locs ls hR hS hl => tb_X6_bringUpToDate_23 Z hr hlk hin hk14 hk u.1 u.2.1 u.2.2.1 u.2.2.2 H locs ls hq hR hS hl) FU (l0, l1, l2, h) hq H locs ls hR hS hl
def fb_X6_bringUpToDate_14  (k14 : Option Nat × Int32 × Hp → Option (Unit × Hp)) (l0 : Option Nat) (l1 : Int32) (h : Hp) : Option (Unit × Hp) :=
(if 480 ≤ l1 then
pZ h l0 7 2 1 (fun h =>
rtV h)
else
f_X6_bringUpToDate_23 k14 l0 l1 0 h)
set_option maxHeartbeats 4000000 in
set_option maxRecDepth 100000 in
theorem tb_X6_bringUpToDate_14 (Z : ZZ p s m args c cX6_bringUpToDate RX6 4 G) (hr : meth.sig.returnType = none) (hlk : meth.locks = false) (hin : meth.name = "bringUpToDate") {v : Unit} {h1 : Hp} {k14 : Option Nat × Int32 × Hp → Option (Unit × Hp)} (hk14 : ∀ u : Option Nat × Int32 × Hp, k14 u = some (v, h1) → ∀ (H : Heap) (locs : List Loc) (ls : Array Slot), Rep G u.2.2 H → va_S (AA G) s.heap H locs → LV ls 4 [(0, va_rf u.1), (1, .int u.2.1)] → W p l e rm_X6_bringUpToDate s m args below meth c H locs 0 0 (MQ below (Qx G none h1) args s 0 0 (AA G)) (F0 m 14 ls [])) : ∀ (l0 : Option Nat) (l1 : Int32) (h : Hp) (H : Heap) (locs : List Loc) (ls : Array Slot), fb_X6_bringUpToDate_14 k14 l0 l1 h = some (v, h1) → Rep G h H → va_S (AA G) s.heap H locs → LV ls 4 [(0, va_rf l0), (1, .int l1)] → W p l e rm_X6_bringUpToDate s m args below meth c H locs 0 0 (MQ below (Qx G none h1) args s 0 0 (AA G)) (F0 m 14 ls []) := by
  intro l0 l1 h H locs ls hq hR hS hl
  have hx := Z.1
  have hb := Z.2.1
  unfold fb_X6_bringUpToDate_14 at hq
  refine xiln hx hb hl (x := l1) 1 rfl dX6_bringUpToDate_14 ?_
  refine lv_sipush (v := 480) hx hb dX6_bringUpToDate_15 (by decide) ?_
  refine xcGe hx hb hq (tgt := 79) dX6_bringUpToDate_18 (by decide) (fun hq => ?_) (fun hq => ?_)
  · refine xaln hx hb hl (x := l0) 0 rfl dX6_bringUpToDate_79 ?_
    refine lv_iconst (v := 1) hx hb dX6_bringUpToDate_80 (by decide) ?_
    refine xpZ Z hR hS hq fl_X6_44 rfl (Or.inl nf_7_2) dX6_bringUpToDate_81 (fun h H locs hq hR hS => ?_)
    exact xrV hx hb hr hlk hR hS hq (by decide) (by decide) dX6_bringUpToDate_84
  refine lv_iconst (v := 0) hx hb dX6_bringUpToDate_21 (by decide) ?_
  refine xisn hx hb hl (x := 0) (lv' := [(2, .int 0), (0, va_rf l0), (1, .int l1)]) (by decide) dX6_bringUpToDate_22 rfl (fun ls hl => ?_)
  exact t_X6_bringUpToDate_23 Z hr hlk hin hk14 l0 l1 0 h H locs ls hq hR hS (hl.sub [1, 2, 0] rfl)
def f_X6_bringUpToDate_14  (l0 : Option Nat) (l1 : Int32) (h : Hp) : Option (Unit × Hp) :=
  lp (fun (k14 : Option Nat × Int32 × Hp → Option (Unit × Hp)) (u : Option Nat × Int32 × Hp) => fb_X6_bringUpToDate_14 k14 u.1 u.2.1 u.2.2) FU (l0, l1, h)
theorem t_X6_bringUpToDate_14 (Z : ZZ p s m args c cX6_bringUpToDate RX6 4 G) (hr : meth.sig.returnType = none) (hlk : meth.locks = false) (hin : meth.name = "bringUpToDate") {v : Unit} {h1 : Hp} : ∀ (l0 : Option Nat) (l1 : Int32) (h : Hp) (H : Heap) (locs : List Loc) (ls : Array Slot), f_X6_bringUpToDate_14 l0 l1 h = some (v, h1) → Rep G h H → va_S (AA G) s.heap H locs → LV ls 4 [(0, va_rf l0), (1, .int l1)] → W p l e rm_X6_bringUpToDate s m args below meth c H locs 0 0 (MQ below (Qx G none h1) args s 0 0 (AA G)) (F0 m 14 ls []) := by
  intro l0 l1 h H locs ls hq hR hS hl
  exact lp_ind (P := fun u : Option Nat × Int32 × Hp => ∀ (H : Heap) (locs : List Loc) (ls : Array Slot), Rep G u.2.2 H → va_S (AA G) s.heap H locs → LV ls 4 [(0, va_rf u.1), (1, .int u.2.1)] → W p l e rm_X6_bringUpToDate s m args below meth c H locs 0 0 (MQ below (Qx G none h1) args s 0 0 (AA G)) (F0 m 14 ls [])) (fun k hk u hq H locs ls hR hS hl => tb_X6_bringUpToDate_14 Z hr hlk hin hk u.1 u.2.1 u.2.2 H locs ls hq hR hS hl) FU (l0, l1, h) hq H locs ls hR hS hl
def f_X6_bringUpToDate (this : Nat) (h : Hp) : Option (Unit × Hp) :=
gI h (some this) 7 2 (fun x1 =>
(if x1 = 0 then
rcv h (some this) 7 (fun b9 => bd (f_X6_reset b9 h) (fun u9 h =>
f_X6_bringUpToDate_14 (some this) 0 h))
else
rtV h))
set_option maxHeartbeats 4000000 in
set_option maxRecDepth 100000 in
theorem c_X6_bringUpToDate (l : Launch) {G : GG} (this : Nat) (h : Hp) (v : Unit) (h1 : Hp) (hq : f_X6_bringUpToDate this h = some (v, h1)) : Met l yX6_bringUpToDate (Cond.code yX6_bringUpToDate cX6_bringUpToDate 4 none :: GT) rm_X6_bringUpToDate (va_Pc [.ref this] (Cn G h)) (Qx G none h1) 0 0 (AA G) := by
  refine xMet (cc := cX6_bringUpToDate) (by decide) (Nat.le_of_ble_eq_true rfl) (List.forall_mem_cons.mpr ⟨rfl, (fun _ z => by cases z)⟩) ?_
  intro p e s m below meth c ls Z hr hlk hin hR hS hl
  have hx := Z.1
  have hb := Z.2.1
  have hl : LV ls 4 [(0, va_rf (some this))] := hl
  unfold f_X6_bringUpToDate at hq
  refine xaln hx hb hl (x := (some this)) 0 rfl dX6_bringUpToDate_0 ?_
  refine xgI Z hR hq fl_X6_44 rfl dX6_bringUpToDate_1 (fun x1 hq => ?_)
  refine xzEq hx hb hq (tgt := 8) dX6_bringUpToDate_4 (by decide) (fun hq => ?_) (fun hq => ?_)
  · refine xaln hx hb hl (x := (some this)) 0 rfl dX6_bringUpToDate_8 ?_
    refine xcV Z hR hS hl (rest := []) (As := []) hq cl_X6_48 (fun b x h1 hc => c_X6_reset l b h x h1 hc) ⟨⟨rfl, rfl⟩, (by decide), (by decide)⟩ rfl rfl (by first | decide | (simp only [List.map_cons, List.map_nil, rf_cat, ct_int, ct_ref, List.sum_cons, List.sum_nil] <;> decide)) dX6_bringUpToDate_9 (by decide) (fun u9 h H locs hq hR hS => ?_)
    refine lv_iconst (v := 0) hx hb dX6_bringUpToDate_12 (by decide) ?_
    refine xisn hx hb hl (x := 0) (lv' := [(1, .int 0), (0, va_rf (some this))]) (by decide) dX6_bringUpToDate_13 rfl (fun ls hl => ?_)
    exact t_X6_bringUpToDate_14 Z hr hlk hin (some this) 0 h _ _ ls hq hR hS (hl.sub [1, 0] rfl)
  exact xrV hx hb hr hlk hR hS hq (by decide) (by decide) dX6_bringUpToDate_7
abbrev rm_X6_toOthers : Room := { frames := 2, cells := 0, slots := 0, locals := 40 }
def fb_X6_toOthers_4  (k4 : Option Nat × Int32 × Int32 × Int32 × Hp → Option (Int32 × Hp)) (l0 : Option Nat) (l1 : Int32) (l2 : Int32) (l3 : Int32) (h : Hp) : Option (Int32 × Hp) :=
gR h l0 7 1 (fun x6 =>
rcv h x6 2 (fun b9 => bd (f_X1_size b9 h) (fun x9 h =>
(if x9 ≤ l3 then
rtI l2 h
else
gR h l0 7 8 (fun x17 =>
ldI h x17 ((l1 * 16) + l3) (fun x26 =>
k4 (l0, l1, (l2 + x26), (l3 + 1), h)))))))
set_option maxHeartbeats 4000000 in
set_option maxRecDepth 100000 in
theorem tb_X6_toOthers_4 (Z : ZZ p s m args c cX6_toOthers RX6 4 G) (hr : meth.sig.returnType = (some .int)) (hlk : meth.locks = false) (hin : meth.name = "toOthers") {v : Int32} {h1 : Hp} {k4 : Option Nat × Int32 × Int32 × Int32 × Hp → Option (Int32 × Hp)} (hk4 : ∀ u : Option Nat × Int32 × Int32 × Int32 × Hp, k4 u = some (v, h1) → ∀ (H : Heap) (locs : List Loc) (ls : Array Slot), Rep G u.2.2.2.2 H → va_S (AA G) s.heap H locs → LV ls 4 [(0, va_rf u.1), (1, .int u.2.1), (2, .int u.2.2.1), (3, .int u.2.2.2.1)] → W p l e rm_X6_toOthers s m args below meth c H locs 0 0 (MQ below (Qx G (some (.int v)) h1) args s 0 0 (AA G)) (F0 m 4 ls [])) : ∀ (l0 : Option Nat) (l1 : Int32) (l2 : Int32) (l3 : Int32) (h : Hp) (H : Heap) (locs : List Loc) (ls : Array Slot), fb_X6_toOthers_4 k4 l0 l1 l2 l3 h = some (v, h1) → Rep G h H → va_S (AA G) s.heap H locs → LV ls 4 [(0, va_rf l0), (1, .int l1), (2, .int l2), (3, .int l3)] → W p l e rm_X6_toOthers s m args below meth c H locs 0 0 (MQ below (Qx G (some (.int v)) h1) args s 0 0 (AA G)) (F0 m 4 ls []) := by
  intro l0 l1 l2 l3 h H locs ls hq hR hS hl
  have hx := Z.1
  have hb := Z.2.1
  unfold fb_X6_toOthers_4 at hq
  refine xiln hx hb hl (x := l3) 3 rfl dX6_toOthers_4 ?_
  refine xaln hx hb hl (x := l0) 0 rfl dX6_toOthers_5 ?_
  refine xgR Z hR hq fl_X6_40 rfl dX6_toOthers_6 (fun x6 hq => ?_)
  refine xcV Z hR hS hl (rest := [.int l3]) (As := []) hq cl_X6_77 (fun b x h1 hc => c_X1_size l b h x h1 hc) ⟨⟨rfl, rfl⟩, (by decide), (by decide)⟩ rfl rfl (by first | decide | (simp only [List.map_cons, List.map_nil, rf_cat, ct_int, ct_ref, List.sum_cons, List.sum_nil] <;> decide)) dX6_toOthers_9 (by decide) (fun x9 h H locs hq hR hS => ?_)
  refine xcGe hx hb hq (tgt := 35) dX6_toOthers_12 (by decide) (fun hq => ?_) (fun hq => ?_)
  · refine xiln hx hb hl (x := l2) 2 rfl dX6_toOthers_35 ?_
    exact xrI hx hb hr hlk hR hS hq (by decide) (by decide) dX6_toOthers_36
  refine xiln hx hb hl (x := l2) 2 rfl dX6_toOthers_15 ?_
  refine xaln hx hb hl (x := l0) 0 rfl dX6_toOthers_16 ?_
  refine xgR Z hR hq fl_X6_27 rfl dX6_toOthers_17 (fun x17 hq => ?_)
  refine xiln hx hb hl (x := l1) 1 rfl dX6_toOthers_20 ?_
  refine lv_bipush (v := 16) hx hb dX6_toOthers_21 (by decide) ?_
  refine lv_imul hx hb dX6_toOthers_23 ?_
  refine xiln hx hb hl (x := l3) 3 rfl dX6_toOthers_24 ?_
  refine lv_iadd hx hb dX6_toOthers_25 ?_
  refine xaI Z hR hq dX6_toOthers_26 (fun x26 hq => ?_)
  refine lv_iadd hx hb dX6_toOthers_27 ?_
  refine xisn hx hb hl (x := (l2 + x26)) (lv' := [(2, .int (l2 + x26)), (0, va_rf l0), (1, .int l1), (3, .int l3)]) (by decide) dX6_toOthers_28 rfl (fun ls hl => ?_)
  refine xinc hx hb hl (x := l3) (v := (l3 + 1)) (lv' := [(3, .int (l3 + 1)), (2, .int (l2 + x26)), (0, va_rf l0), (1, .int l1)]) 3 rfl (by rw [show Int32.ofInt (1) = (1 : Int32) from by decide]) (by decide) dX6_toOthers_29 rfl (fun ls hl => ?_)
  refine lv_goto (tgt := 4) hx hb dX6_toOthers_32 (by decide) ?_
  exact hk4 (l0, l1, (l2 + x26), (l3 + 1), h) hq H locs ls hR hS (hl.sub [2, 3, 1, 0] rfl)
def f_X6_toOthers_4  (l0 : Option Nat) (l1 : Int32) (l2 : Int32) (l3 : Int32) (h : Hp) : Option (Int32 × Hp) :=
  lp (fun (k4 : Option Nat × Int32 × Int32 × Int32 × Hp → Option (Int32 × Hp)) (u : Option Nat × Int32 × Int32 × Int32 × Hp) => fb_X6_toOthers_4 k4 u.1 u.2.1 u.2.2.1 u.2.2.2.1 u.2.2.2.2) FU (l0, l1, l2, l3, h)
theorem t_X6_toOthers_4 (Z : ZZ p s m args c cX6_toOthers RX6 4 G) (hr : meth.sig.returnType = (some .int)) (hlk : meth.locks = false) (hin : meth.name = "toOthers") {v : Int32} {h1 : Hp} : ∀ (l0 : Option Nat) (l1 : Int32) (l2 : Int32) (l3 : Int32) (h : Hp) (H : Heap) (locs : List Loc) (ls : Array Slot), f_X6_toOthers_4 l0 l1 l2 l3 h = some (v, h1) → Rep G h H → va_S (AA G) s.heap H locs → LV ls 4 [(0, va_rf l0), (1, .int l1), (2, .int l2), (3, .int l3)] → W p l e rm_X6_toOthers s m args below meth c H locs 0 0 (MQ below (Qx G (some (.int v)) h1) args s 0 0 (AA G)) (F0 m 4 ls []) := by
  intro l0 l1 l2 l3 h H locs ls hq hR hS hl
  exact lp_ind (P := fun u : Option Nat × Int32 × Int32 × Int32 × Hp => ∀ (H : Heap) (locs : List Loc) (ls : Array Slot), Rep G u.2.2.2.2 H → va_S (AA G) s.heap H locs → LV ls 4 [(0, va_rf u.1), (1, .int u.2.1), (2, .int u.2.2.1), (3, .int u.2.2.2.1)] → W p l e rm_X6_toOthers s m args below meth c H locs 0 0 (MQ below (Qx G (some (.int v)) h1) args s 0 0 (AA G)) (F0 m 4 ls [])) (fun k hk u hq H locs ls hR hS hl => tb_X6_toOthers_4 Z hr hlk hin hk u.1 u.2.1 u.2.2.1 u.2.2.2.1 u.2.2.2.2 H locs ls hq hR hS hl) FU (l0, l1, l2, l3, h) hq H locs ls hR hS hl
def f_X6_toOthers (this : Nat) (a0 : Int32) (h : Hp) : Option (Int32 × Hp) :=
f_X6_toOthers_4 (some this) a0 0 0 h
set_option maxHeartbeats 4000000 in
set_option maxRecDepth 100000 in
theorem c_X6_toOthers (l : Launch) {G : GG} (this : Nat) (a0 : Int32) (h : Hp) (v : Int32) (h1 : Hp) (hq : f_X6_toOthers this a0 h = some (v, h1)) : Met l yX6_toOthers (Cond.code yX6_toOthers cX6_toOthers 4 (some .int) :: GT) rm_X6_toOthers (va_Pc [.ref this, .int a0] (Cn G h)) (Qx G (some (.int v)) h1) 0 0 (AA G) := by
  refine xMet (cc := cX6_toOthers) (by decide) (Nat.le_of_ble_eq_true rfl) (List.forall_mem_cons.mpr ⟨rfl, (List.forall_mem_cons.mpr ⟨rfl, (fun _ z => by cases z)⟩)⟩) ?_
  intro p e s m below meth c ls Z hr hlk hin hR hS hl
  have hx := Z.1
  have hb := Z.2.1
  have hl : LV ls 4 [(0, va_rf (some this)), (1, .int a0)] := hl
  unfold f_X6_toOthers at hq
  refine lv_iconst (v := 0) hx hb dX6_toOthers_0 (by decide) ?_
  refine xisn hx hb hl (x := 0) (lv' := [(2, .int 0), (0, va_rf (some this)), (1, .int a0)]) (by decide) dX6_toOthers_1 rfl (fun ls hl => ?_)
  refine lv_iconst (v := 0) hx hb dX6_toOthers_2 (by decide) ?_
  refine xisn hx hb hl (x := 0) (lv' := [(3, .int 0), (2, .int 0), (0, va_rf (some this)), (1, .int a0)]) (by decide) dX6_toOthers_3 rfl (fun ls hl => ?_)
  exact t_X6_toOthers_4 Z hr hlk hin (some this) a0 0 0 h _ _ ls hq hR hS (hl.sub [2, 3, 1, 0] rfl)
abbrev rm_X6_told : Room := { frames := 3, cells := 0, slots := 0, locals := 63 }
def f_X6_told_34   (h : Hp) : Option (Int32 × Hp) :=
rtI (-1) h
set_option maxHeartbeats 4000000 in
set_option maxRecDepth 100000 in
theorem t_X6_told_34 (Z : ZZ p s m args c cX6_told RX6 6 G) (hr : meth.sig.returnType = (some .int)) (hlk : meth.locks = false) (hin : meth.name = "told") {v : Int32} {h1 : Hp} : ∀  (h : Hp) (H : Heap) (locs : List Loc) (ls : Array Slot), f_X6_told_34  h = some (v, h1) → Rep G h H → va_S (AA G) s.heap H locs → LV ls 6 [] → W p l e rm_X6_told s m args below meth c H locs 0 0 (MQ below (Qx G (some (.int v)) h1) args s 0 0 (AA G)) (F0 m 34 ls []) := by
  intro  h H locs ls hq hR hS hl
  have hx := Z.1
  have hb := Z.2.1
  unfold f_X6_told_34 at hq
  refine lv_iconst (v := (-1)) hx hb dX6_told_34 (by decide) ?_
  exact xrI hx hb hr hlk hR hS hq (by decide) (by decide) dX6_told_35
def f_X6_told (this : Nat) (a0 : Option Nat) (a1 : Int32) (h : Hp) : Option (Int32 × Hp) :=
gI h a0 1 0 (fun x1 =>
gR h (some this) 7 4 (fun x6 =>
ldI h x6 x1 (fun x10 =>
gR h (some this) 7 3 (fun x14 =>
ldI h x14 x1 (fun x18 =>
rcv h a0 1 (fun b20 => bd (f_X0_steps b20 h) (fun x20 h =>
(if x18 < x20 then
f_X6_told_34  h
else
(if x10 < 480 then
gR h a0 1 12 (fun x39 =>
rcv h a0 1 (fun b43 => bd (f_X0_steps b43 h) (fun x43 h =>
ldI h x39 x43 (fun x46 =>
(if a1 = 0 then
rtI x10 h
else
if a1 = 1 then
rtI (x10 - x46) h
else
if a1 = 2 then
gR h (some this) 7 6 (fun x95 =>
ldI h x95 x1 (fun x99 =>
rtI x99 h))
else
if a1 = 3 then
gR h (some this) 7 7 (fun x102 =>
ldI h x102 x1 (fun x106 =>
rtI x106 h))
else
if a1 = 4 then
rcv h (some this) 7 (fun b110 => bd (f_X6_toOthers b110 x1 h) (fun x110 h =>
rtI x110 h))
else
if a1 = 5 then
gR h (some this) 7 6 (fun x115 =>
ldI h x115 x1 (fun x119 =>
gR h (some this) 7 7 (fun x121 =>
ldI h x121 x1 (fun x125 =>
rcv h (some this) 7 (fun b129 => bd (f_X6_toOthers b129 x1 h) (fun x129 h =>
rtI (((x119 + x125) + x129) - (x10 - x46)) h))))))
else
rtI (-1) h)))))
else
f_X6_told_34  h)))))))))
set_option maxHeartbeats 4000000 in
set_option maxRecDepth 100000 in
theorem c_X6_told (l : Launch) {G : GG} (this : Nat) (a0 : Option Nat) (a1 : Int32) (h : Hp) (v : Int32) (h1 : Hp) (hq : f_X6_told this a0 a1 h = some (v, h1)) : Met l yX6_told (Cond.code yX6_told cX6_told 6 (some .int) :: GT) rm_X6_told (va_Pc [.ref this, va_rf a0, .int a1] (Cn G h)) (Qx G (some (.int v)) h1) 0 0 (AA G) := by
  refine xMet (cc := cX6_told) (by decide) (Nat.le_of_ble_eq_true rfl) (List.forall_mem_cons.mpr ⟨rfl, (List.forall_mem_cons.mpr ⟨(rf_cat a0), (List.forall_mem_cons.mpr ⟨rfl, (fun _ z => by cases z)⟩)⟩)⟩) ?_
  intro p e s m below meth c ls Z hr hlk hin hR hS hl
  have hx := Z.1
  have hb := Z.2.1
  have hl : LV ls 6 [(0, va_rf (some this)), (1, va_rf a0), (2, .int a1)] := hl
  unfold f_X6_told at hq
  refine xaln hx hb hl (x := a0) 1 rfl dX6_told_0 ?_
  refine xgI Z hR hq fl_X6_88 rfl dX6_told_1 (fun x1 hq => ?_)
  refine xisn hx hb hl (x := x1) (lv' := [(3, .int x1), (0, va_rf (some this)), (1, va_rf a0), (2, .int a1)]) (by decide) dX6_told_4 rfl (fun ls hl => ?_)
  refine xaln hx hb hl (x := (some this)) 1 rfl dX6_told_5 ?_
  refine xgR Z hR hq fl_X6_15 rfl dX6_told_6 (fun x6 hq => ?_)
  refine xiln hx hb hl (x := x1) 0 rfl dX6_told_9 ?_
  refine xaI Z hR hq dX6_told_10 (fun x10 hq => ?_)
  refine xis hx hb hl (x := x10) (lv' := [(4, .int x10), (3, .int x1), (0, va_rf (some this)), (1, va_rf a0), (2, .int a1)]) (by decide) dX6_told_11 rfl (fun ls hl => ?_)
  refine xaln hx hb hl (x := (some this)) 2 rfl dX6_told_13 ?_
  refine xgR Z hR hq fl_X6_9 rfl dX6_told_14 (fun x14 hq => ?_)
  refine xiln hx hb hl (x := x1) 1 rfl dX6_told_17 ?_
  refine xaI Z hR hq dX6_told_18 (fun x18 hq => ?_)
  refine xaln hx hb hl (x := a0) 3 rfl dX6_told_19 ?_
  refine xcV Z hR hS hl (rest := [.int x18]) (As := []) hq cl_X6_94 (fun b x h1 hc => c_X0_steps l b h x h1 hc) ⟨⟨rfl, rfl⟩, (by decide), (by decide)⟩ rfl rfl (by first | decide | (simp only [List.map_cons, List.map_nil, rf_cat, ct_int, ct_ref, List.sum_cons, List.sum_nil] <;> decide)) dX6_told_20 (by decide) (fun x20 h H locs hq hR hS => ?_)
  refine xcLt hx hb hq (tgt := 34) dX6_told_23 (by decide) (fun hq => ?_) (fun hq => ?_)
  · exact t_X6_told_34 Z hr hlk hin  h _ _ ls hq hR hS (hl.sub [] rfl)
  refine xil hx hb hl (x := x10) 0 rfl dX6_told_26 ?_
  refine lv_sipush (v := 480) hx hb dX6_told_28 (by decide) ?_
  refine xcLt hx hb hq (tgt := 36) dX6_told_31 (by decide) (fun hq => ?_) (fun hq => ?_)
  · refine xil hx hb hl (x := x10) 0 rfl dX6_told_36 ?_
    refine xaln hx hb hl (x := a0) 3 rfl dX6_told_38 ?_
    refine xgR Z hR hq fl_X6_127 rfl dX6_told_39 (fun x39 hq => ?_)
    refine xaln hx hb hl (x := a0) 3 rfl dX6_told_42 ?_
    refine xcV Z hR hS hl (rest := [va_rf x39, .int x10]) (As := []) hq cl_X6_94 (fun b x h1 hc => c_X0_steps l b h x h1 hc) ⟨⟨rfl, rfl⟩, (by decide), (by decide)⟩ rfl rfl (by first | decide | (simp only [List.map_cons, List.map_nil, rf_cat, ct_int, ct_ref, List.sum_cons, List.sum_nil] <;> decide)) dX6_told_43 (by decide) (fun x43 h H locs hq hR hS => ?_)
    refine xaI Z hR hq dX6_told_46 (fun x46 hq => ?_)
    refine lv_isub hx hb dX6_told_47 ?_
    refine xis hx hb hl (x := (x10 - x46)) (lv' := [(5, .int (x10 - x46)), (4, .int x10), (3, .int x1), (0, va_rf (some this)), (1, va_rf a0), (2, .int a1)]) (by decide) dX6_told_48 rfl (fun ls hl => ?_)
    refine xiln hx hb hl (x := a1) 5 rfl dX6_told_50 ?_
    by_cases e51_0 : a1 = 0
    · have hq := ite_t hq e51_0
      refine lv_tableIn (x := a1) (off := 37) (tgt := 88) hx hb dX6_told_51 (by rw [e51_0]; decide) (by rw [e51_0]; decide) (by rw [e51_0]; rfl) (by decide) ?_
      refine xil hx hb hl (x := x10) 1 rfl dX6_told_88 ?_
      exact xrI hx hb hr hlk hR hS hq (by decide) (by decide) dX6_told_90
    replace hq := ite_f hq e51_0
    by_cases e51_1 : a1 = 1
    · have hq := ite_t hq e51_1
      refine lv_tableIn (x := a1) (off := 40) (tgt := 91) hx hb dX6_told_51 (by rw [e51_1]; decide) (by rw [e51_1]; decide) (by rw [e51_1]; rfl) (by decide) ?_
      refine xil hx hb hl (x := (x10 - x46)) 0 rfl dX6_told_91 ?_
      exact xrI hx hb hr hlk hR hS hq (by decide) (by decide) dX6_told_93
    replace hq := ite_f hq e51_1
    by_cases e51_2 : a1 = 2
    · have hq := ite_t hq e51_2
      refine lv_tableIn (x := a1) (off := 43) (tgt := 94) hx hb dX6_told_51 (by rw [e51_2]; decide) (by rw [e51_2]; decide) (by rw [e51_2]; rfl) (by decide) ?_
      refine xaln hx hb hl (x := (some this)) 3 rfl dX6_told_94 ?_
      refine xgR Z hR hq fl_X6_21 rfl dX6_told_95 (fun x95 hq => ?_)
      refine xiln hx hb hl (x := x1) 2 rfl dX6_told_98 ?_
      refine xaI Z hR hq dX6_told_99 (fun x99 hq => ?_)
      exact xrI hx hb hr hlk hR hS hq (by decide) (by decide) dX6_told_100
    replace hq := ite_f hq e51_2
    by_cases e51_3 : a1 = 3
    · have hq := ite_t hq e51_3
      refine lv_tableIn (x := a1) (off := 50) (tgt := 101) hx hb dX6_told_51 (by rw [e51_3]; decide) (by rw [e51_3]; decide) (by rw [e51_3]; rfl) (by decide) ?_
      refine xaln hx hb hl (x := (some this)) 3 rfl dX6_told_101 ?_
      refine xgR Z hR hq fl_X6_24 rfl dX6_told_102 (fun x102 hq => ?_)
      refine xiln hx hb hl (x := x1) 2 rfl dX6_told_105 ?_
      refine xaI Z hR hq dX6_told_106 (fun x106 hq => ?_)
      exact xrI hx hb hr hlk hR hS hq (by decide) (by decide) dX6_told_107
    replace hq := ite_f hq e51_3
    by_cases e51_4 : a1 = 4
    · have hq := ite_t hq e51_4
      refine lv_tableIn (x := a1) (off := 57) (tgt := 108) hx hb dX6_told_51 (by rw [e51_4]; decide) (by rw [e51_4]; decide) (by rw [e51_4]; rfl) (by decide) ?_
      refine xaln hx hb hl (x := (some this)) 3 rfl dX6_told_108 ?_
      refine xiln hx hb hl (x := x1) 2 rfl dX6_told_109 ?_
      refine xcV Z hR hS hl (rest := []) (As := [.int x1]) hq cl_X6_130 (fun b x h1 hc => c_X6_toOthers l b x1 h x h1 hc) ⟨⟨rfl, rfl⟩, (by decide), (by decide)⟩ rfl rfl (by first | decide | (simp only [List.map_cons, List.map_nil, rf_cat, ct_int, ct_ref, List.sum_cons, List.sum_nil] <;> decide)) dX6_told_110 (by decide) (fun x110 h H locs hq hR hS => ?_)
      exact xrI hx hb hr hlk hR hS hq (by decide) (by decide) dX6_told_113
    replace hq := ite_f hq e51_4
    by_cases e51_5 : a1 = 5
    · have hq := ite_t hq e51_5
      refine lv_tableIn (x := a1) (off := 63) (tgt := 114) hx hb dX6_told_51 (by rw [e51_5]; decide) (by rw [e51_5]; decide) (by rw [e51_5]; rfl) (by decide) ?_
      refine xaln hx hb hl (x := (some this)) 3 rfl dX6_told_114 ?_
      refine xgR Z hR hq fl_X6_21 rfl dX6_told_115 (fun x115 hq => ?_)
      refine xiln hx hb hl (x := x1) 2 rfl dX6_told_118 ?_
      refine xaI Z hR hq dX6_told_119 (fun x119 hq => ?_)
      refine xaln hx hb hl (x := (some this)) 3 rfl dX6_told_120 ?_
      refine xgR Z hR hq fl_X6_24 rfl dX6_told_121 (fun x121 hq => ?_)
      refine xiln hx hb hl (x := x1) 2 rfl dX6_told_124 ?_
      refine xaI Z hR hq dX6_told_125 (fun x125 hq => ?_)
      refine lv_iadd hx hb dX6_told_126 ?_
      refine xaln hx hb hl (x := (some this)) 3 rfl dX6_told_127 ?_
      refine xiln hx hb hl (x := x1) 2 rfl dX6_told_128 ?_
      refine xcV Z hR hS hl (rest := [.int (x119 + x125)]) (As := [.int x1]) hq cl_X6_130 (fun b x h1 hc => c_X6_toOthers l b x1 h x h1 hc) ⟨⟨rfl, rfl⟩, (by decide), (by decide)⟩ rfl rfl (by first | decide | (simp only [List.map_cons, List.map_nil, rf_cat, ct_int, ct_ref, List.sum_cons, List.sum_nil] <;> decide)) dX6_told_129 (by decide) (fun x129 h H locs hq hR hS => ?_)
      refine lv_iadd hx hb dX6_told_132 ?_
      refine xil hx hb hl (x := (x10 - x46)) 0 rfl dX6_told_133 ?_
      refine lv_isub hx hb dX6_told_135 ?_
      exact xrI hx hb hr hlk hR hS hq (by decide) (by decide) dX6_told_136
    replace hq := ite_f hq e51_5
    refine lv_tableOut (x := a1) (tgt := 137) hx hb dX6_told_51 (sw_out 6 (by decide) (by intro j hj; match j, hj with | 0, _ => exact e51_0 | 1, _ => exact e51_1 | 2, _ => exact e51_2 | 3, _ => exact e51_3 | 4, _ => exact e51_4 | 5, _ => exact e51_5 | j + 6, hj => exact absurd hj (by omega))) (by decide) ?_
    refine lv_iconst (v := (-1)) hx hb dX6_told_137 (by decide) ?_
    exact xrI hx hb hr hlk hR hS hq (by decide) (by decide) dX6_told_138
  exact t_X6_told_34 Z hr hlk hin  h _ _ ls hq hR hS (hl.sub [] rfl)
abbrev rm_X6_coinsOf : Room := { frames := 3, cells := 0, slots := 0, locals := 64 }
def f_X6_coinsOf_103  (k4 : Option Nat × Int32 × Int32 × Int32 × Hp → Option (Int32 × Hp)) (k18 : Option Nat × Int32 × Int32 × Int32 × Int32 × Hp → Option (Int32 × Hp)) (s0 : Int32) (s1 : Int32) (l0 : Option Nat) (l1 : Int32) (l3 : Int32) (l4 : Int32) (h : Hp) : Option (Int32 × Hp) :=
k18 (l0, l1, (s0 - s1), l3, (l4 + 1), h)
set_option maxHeartbeats 4000000 in
set_option maxRecDepth 100000 in
theorem t_X6_coinsOf_103 (Z : ZZ p s m args c cX6_coinsOf RX6 6 G) (hr : meth.sig.returnType = (some .int)) (hlk : meth.locks = false) (hin : meth.name = "coinsOf") {v : Int32} {h1 : Hp} {k4 : Option Nat × Int32 × Int32 × Int32 × Hp → Option (Int32 × Hp)} (hk4 : ∀ u : Option Nat × Int32 × Int32 × Int32 × Hp, k4 u = some (v, h1) → ∀ (H : Heap) (locs : List Loc) (ls : Array Slot), Rep G u.2.2.2.2 H → va_S (AA G) s.heap H locs → LV ls 6 [(0, va_rf u.1), (1, .int u.2.1), (2, .int u.2.2.1), (3, .int u.2.2.2.1)] → W p l e rm_X6_coinsOf s m args below meth c H locs 0 0 (MQ below (Qx G (some (.int v)) h1) args s 0 0 (AA G)) (F0 m 4 ls [])) {k18 : Option Nat × Int32 × Int32 × Int32 × Int32 × Hp → Option (Int32 × Hp)} (hk18 : ∀ u : Option Nat × Int32 × Int32 × Int32 × Int32 × Hp, k18 u = some (v, h1) → ∀ (H : Heap) (locs : List Loc) (ls : Array Slot), Rep G u.2.2.2.2.2 H → va_S (AA G) s.heap H locs → LV ls 6 [(0, va_rf u.1), (1, .int u.2.1), (2, .int u.2.2.1), (3, .int u.2.2.2.1), (4, .int u.2.2.2.2.1)] → W p l e rm_X6_coinsOf s m args below meth c H locs 0 0 (MQ below (Qx G (some (.int v)) h1) args s 0 0 (AA G)) (F0 m 18 ls [])) : ∀ (s0 : Int32) (s1 : Int32) (l0 : Option Nat) (l1 : Int32) (l3 : Int32) (l4 : Int32) (h : Hp) (H : Heap) (locs : List Loc) (ls : Array Slot), f_X6_coinsOf_103 k4 k18 s0 s1 l0 l1 l3 l4 h = some (v, h1) → Rep G h H → va_S (AA G) s.heap H locs → LV ls 6 [(0, va_rf l0), (1, .int l1), (3, .int l3), (4, .int l4)] → W p l e rm_X6_coinsOf s m args below meth c H locs 0 0 (MQ below (Qx G (some (.int v)) h1) args s 0 0 (AA G)) (F0 m 103 ls [.int s1, .int s0]) := by
  intro s0 s1 l0 l1 l3 l4 h H locs ls hq hR hS hl
  have hx := Z.1
  have hb := Z.2.1
  unfold f_X6_coinsOf_103 at hq
  refine lv_isub hx hb dX6_coinsOf_103 ?_
  refine xisn hx hb hl (x := (s0 - s1)) (lv' := [(2, .int (s0 - s1)), (0, va_rf l0), (1, .int l1), (3, .int l3), (4, .int l4)]) (by decide) dX6_coinsOf_104 rfl (fun ls hl => ?_)
  refine xinc hx hb hl (x := l4) (v := (l4 + 1)) (lv' := [(4, .int (l4 + 1)), (2, .int (s0 - s1)), (0, va_rf l0), (1, .int l1), (3, .int l3)]) 4 rfl (by rw [show Int32.ofInt (1) = (1 : Int32) from by decide]) (by decide) dX6_coinsOf_105 rfl (fun ls hl => ?_)
  refine lv_goto (tgt := 18) hx hb dX6_coinsOf_108 (by decide) ?_
  exact hk18 (l0, l1, (s0 - s1), l3, (l4 + 1), h) hq H locs ls hR hS (hl.sub [2, 3, 1, 4, 0] rfl)
def f_X6_coinsOf_72  (k4 : Option Nat × Int32 × Int32 × Int32 × Hp → Option (Int32 × Hp)) (k18 : Option Nat × Int32 × Int32 × Int32 × Int32 × Hp → Option (Int32 × Hp)) (s0 : Int32) (s1 : Int32) (l0 : Option Nat) (l1 : Int32) (l3 : Int32) (l4 : Int32) (l5 : Int32) (h : Hp) : Option (Int32 × Hp) :=
gR h l0 7 1 (fun x76 =>
gR h x76 2 0 (fun x79 =>
rcv h x79 0 (fun b84 => bd (f_Jx4a65c_get_915e3 b84 l4 h) (fun x84 h =>
ckc h x84 1 (
gI h x84 1 1 (fun x90 =>
(if x90 = l1 then
f_X6_coinsOf_103 k4 k18 (s0 + s1) l5 l0 l1 l3 l4 h
else
f_X6_coinsOf_103 k4 k18 (s0 + s1) 0 l0 l1 l3 l4 h)))))))
set_option maxHeartbeats 4000000 in
set_option maxRecDepth 100000 in
theorem t_X6_coinsOf_72 (Z : ZZ p s m args c cX6_coinsOf RX6 6 G) (hr : meth.sig.returnType = (some .int)) (hlk : meth.locks = false) (hin : meth.name = "coinsOf") {v : Int32} {h1 : Hp} {k4 : Option Nat × Int32 × Int32 × Int32 × Hp → Option (Int32 × Hp)} (hk4 : ∀ u : Option Nat × Int32 × Int32 × Int32 × Hp, k4 u = some (v, h1) → ∀ (H : Heap) (locs : List Loc) (ls : Array Slot), Rep G u.2.2.2.2 H → va_S (AA G) s.heap H locs → LV ls 6 [(0, va_rf u.1), (1, .int u.2.1), (2, .int u.2.2.1), (3, .int u.2.2.2.1)] → W p l e rm_X6_coinsOf s m args below meth c H locs 0 0 (MQ below (Qx G (some (.int v)) h1) args s 0 0 (AA G)) (F0 m 4 ls [])) {k18 : Option Nat × Int32 × Int32 × Int32 × Int32 × Hp → Option (Int32 × Hp)} (hk18 : ∀ u : Option Nat × Int32 × Int32 × Int32 × Int32 × Hp, k18 u = some (v, h1) → ∀ (H : Heap) (locs : List Loc) (ls : Array Slot), Rep G u.2.2.2.2.2 H → va_S (AA G) s.heap H locs → LV ls 6 [(0, va_rf u.1), (1, .int u.2.1), (2, .int u.2.2.1), (3, .int u.2.2.2.1), (4, .int u.2.2.2.2.1)] → W p l e rm_X6_coinsOf s m args below meth c H locs 0 0 (MQ below (Qx G (some (.int v)) h1) args s 0 0 (AA G)) (F0 m 18 ls [])) : ∀ (s0 : Int32) (s1 : Int32) (l0 : Option Nat) (l1 : Int32) (l3 : Int32) (l4 : Int32) (l5 : Int32) (h : Hp) (H : Heap) (locs : List Loc) (ls : Array Slot), f_X6_coinsOf_72 k4 k18 s0 s1 l0 l1 l3 l4 l5 h = some (v, h1) → Rep G h H → va_S (AA G) s.heap H locs → LV ls 6 [(0, va_rf l0), (1, .int l1), (3, .int l3), (4, .int l4), (5, .int l5)] → W p l e rm_X6_coinsOf s m args below meth c H locs 0 0 (MQ below (Qx G (some (.int v)) h1) args s 0 0 (AA G)) (F0 m 72 ls [.int s1, .int s0]) := by
  intro s0 s1 l0 l1 l3 l4 l5 h H locs ls hq hR hS hl
  have hx := Z.1
  have hb := Z.2.1
  unfold f_X6_coinsOf_72 at hq
  refine lv_iadd hx hb dX6_coinsOf_72 ?_
  refine xisn hx hb hl (x := (s0 + s1)) (lv' := [(2, .int (s0 + s1)), (0, va_rf l0), (1, .int l1), (3, .int l3), (4, .int l4), (5, .int l5)]) (by decide) dX6_coinsOf_73 rfl (fun ls hl => ?_)
  refine xiln hx hb hl (x := (s0 + s1)) 0 rfl dX6_coinsOf_74 ?_
  refine xaln hx hb hl (x := l0) 1 rfl dX6_coinsOf_75 ?_
  refine xgR Z hR hq fl_X6_40 rfl dX6_coinsOf_76 (fun x76 hq => ?_)
  refine xgR Z hR hq fl_X6_78 rfl dX6_coinsOf_79 (fun x79 hq => ?_)
  refine xil hx hb hl (x := l4) 4 rfl dX6_coinsOf_82 ?_
  refine xcV Z hR hS hl (rest := [.int (s0 + s1)]) (As := [.int l4]) hq cl_X6_63 (fun b x h1 hc => c_Jx4a65c_get_915e3 l b l4 h x h1 hc) ⟨⟨rfl, rfl⟩, (by decide), (by decide)⟩ rfl rfl (by first | decide | (simp only [List.map_cons, List.map_nil, rf_cat, ct_int, ct_ref, List.sum_cons, List.sum_nil] <;> decide)) dX6_coinsOf_84 (by decide) (fun x84 h H locs hq hR hS => ?_)
  refine xck Z hR hq ck_X6_67 dX6_coinsOf_87 (fun hq => ?_)
  refine xgI Z hR hq fl_X6_133 rfl dX6_coinsOf_90 (fun x90 hq => ?_)
  refine xiln hx hb hl (x := l1) 2 rfl dX6_coinsOf_93 ?_
  refine xcNe hx hb hq (tgt := 102) dX6_coinsOf_94 (by decide) (fun hq => ?_) (fun hq => ?_)
  · refine lv_iconst (v := 0) hx hb dX6_coinsOf_102 (by decide) ?_
    exact t_X6_coinsOf_103 Z hr hlk hin hk4 hk18 (s0 + s1) 0 l0 l1 l3 l4 h H locs ls hq hR hS (hl.sub [1, 2, 3, 4] rfl)
  refine xil hx hb hl (x := l5) 5 rfl dX6_coinsOf_97 ?_
  refine lv_goto (tgt := 103) hx hb dX6_coinsOf_99 (by decide) ?_
  exact t_X6_coinsOf_103 Z hr hlk hin hk4 hk18 (s0 + s1) l5 l0 l1 l3 l4 h H locs ls hq hR hS (hl.sub [1, 2, 3, 4] rfl)
def fb_X6_coinsOf_18  (k4 : Option Nat × Int32 × Int32 × Int32 × Hp → Option (Int32 × Hp)) (k18 : Option Nat × Int32 × Int32 × Int32 × Int32 × Hp → Option (Int32 × Hp)) (l0 : Option Nat) (l1 : Int32) (l2 : Int32) (l3 : Int32) (l4 : Int32) (h : Hp) : Option (Int32 × Hp) :=
gR h l0 7 1 (fun x21 =>
rcv h x21 2 (fun b24 => bd (f_X1_size b24 h) (fun x24 h =>
(if x24 ≤ l4 then
k4 (l0, l1, l2, (l3 + 1), h)
else
gR h l0 7 8 (fun x31 =>
ldI h x31 ((l3 * 16) + l4) (fun x41 =>
gR h l0 7 1 (fun x46 =>
gR h x46 2 0 (fun x49 =>
rcv h x49 0 (fun b53 => bd (f_Jx4a65c_get_915e3 b53 l3 h) (fun x53 h =>
ckc h x53 1 (
gI h x53 1 1 (fun x59 =>
(if x59 = l1 then
f_X6_coinsOf_72 k4 k18 l2 x41 l0 l1 l3 l4 x41 h
else
f_X6_coinsOf_72 k4 k18 l2 0 l0 l1 l3 l4 x41 h)))))))))))))
set_option maxHeartbeats 4000000 in
set_option maxRecDepth 100000 in
theorem tb_X6_coinsOf_18 (Z : ZZ p s m args c cX6_coinsOf RX6 6 G) (hr : meth.sig.returnType = (some .int)) (hlk : meth.locks = false) (hin : meth.name = "coinsOf") {v : Int32} {h1 : Hp} {k4 : Option Nat × Int32 × Int32 × Int32 × Hp → Option (Int32 × Hp)} (hk4 : ∀ u : Option Nat × Int32 × Int32 × Int32 × Hp, k4 u = some (v, h1) → ∀ (H : Heap) (locs : List Loc) (ls : Array Slot), Rep G u.2.2.2.2 H → va_S (AA G) s.heap H locs → LV ls 6 [(0, va_rf u.1), (1, .int u.2.1), (2, .int u.2.2.1), (3, .int u.2.2.2.1)] → W p l e rm_X6_coinsOf s m args below meth c H locs 0 0 (MQ below (Qx G (some (.int v)) h1) args s 0 0 (AA G)) (F0 m 4 ls [])) {k18 : Option Nat × Int32 × Int32 × Int32 × Int32 × Hp → Option (Int32 × Hp)} (hk18 : ∀ u : Option Nat × Int32 × Int32 × Int32 × Int32 × Hp, k18 u = some (v, h1) → ∀ (H : Heap) (locs : List Loc) (ls : Array Slot), Rep G u.2.2.2.2.2 H → va_S (AA G) s.heap H locs → LV ls 6 [(0, va_rf u.1), (1, .int u.2.1), (2, .int u.2.2.1), (3, .int u.2.2.2.1), (4, .int u.2.2.2.2.1)] → W p l e rm_X6_coinsOf s m args below meth c H locs 0 0 (MQ below (Qx G (some (.int v)) h1) args s 0 0 (AA G)) (F0 m 18 ls [])) : ∀ (l0 : Option Nat) (l1 : Int32) (l2 : Int32) (l3 : Int32) (l4 : Int32) (h : Hp) (H : Heap) (locs : List Loc) (ls : Array Slot), fb_X6_coinsOf_18 k4 k18 l0 l1 l2 l3 l4 h = some (v, h1) → Rep G h H → va_S (AA G) s.heap H locs → LV ls 6 [(0, va_rf l0), (1, .int l1), (2, .int l2), (3, .int l3), (4, .int l4)] → W p l e rm_X6_coinsOf s m args below meth c H locs 0 0 (MQ below (Qx G (some (.int v)) h1) args s 0 0 (AA G)) (F0 m 18 ls []) := by
  intro l0 l1 l2 l3 l4 h H locs ls hq hR hS hl
  have hx := Z.1
  have hb := Z.2.1
  unfold fb_X6_coinsOf_18 at hq
  refine xil hx hb hl (x := l4) 4 rfl dX6_coinsOf_18 ?_
  refine xaln hx hb hl (x := l0) 0 rfl dX6_coinsOf_20 ?_
  refine xgR Z hR hq fl_X6_40 rfl dX6_coinsOf_21 (fun x21 hq => ?_)
  refine xcV Z hR hS hl (rest := [.int l4]) (As := []) hq cl_X6_77 (fun b x h1 hc => c_X1_size l b h x h1 hc) ⟨⟨rfl, rfl⟩, (by decide), (by decide)⟩ rfl rfl (by first | decide | (simp only [List.map_cons, List.map_nil, rf_cat, ct_int, ct_ref, List.sum_cons, List.sum_nil] <;> decide)) dX6_coinsOf_24 (by decide) (fun x24 h H locs hq hR hS => ?_)
  refine xcGe hx hb hq (tgt := 111) dX6_coinsOf_27 (by decide) (fun hq => ?_) (fun hq => ?_)
  · refine xinc hx hb hl (x := l3) (v := (l3 + 1)) (lv' := [(3, .int (l3 + 1)), (0, va_rf l0), (1, .int l1), (2, .int l2), (4, .int l4)]) 3 rfl (by rw [show Int32.ofInt (1) = (1 : Int32) from by decide]) (by decide) dX6_coinsOf_111 rfl (fun ls hl => ?_)
    refine lv_goto (tgt := 4) hx hb dX6_coinsOf_114 (by decide) ?_
    exact hk4 (l0, l1, l2, (l3 + 1), h) hq H locs ls hR hS (hl.sub [1, 2, 3, 0] rfl)
  refine xaln hx hb hl (x := l0) 0 rfl dX6_coinsOf_30 ?_
  refine xgR Z hR hq fl_X6_27 rfl dX6_coinsOf_31 (fun x31 hq => ?_)
  refine xiln hx hb hl (x := l3) 3 rfl dX6_coinsOf_34 ?_
  refine lv_bipush (v := 16) hx hb dX6_coinsOf_35 (by decide) ?_
  refine lv_imul hx hb dX6_coinsOf_37 ?_
  refine xil hx hb hl (x := l4) 4 rfl dX6_coinsOf_38 ?_
  refine lv_iadd hx hb dX6_coinsOf_40 ?_
  refine xaI Z hR hq dX6_coinsOf_41 (fun x41 hq => ?_)
  refine xis hx hb hl (x := x41) (lv' := [(5, .int x41), (0, va_rf l0), (1, .int l1), (2, .int l2), (3, .int l3), (4, .int l4)]) (by decide) dX6_coinsOf_42 rfl (fun ls hl => ?_)
  refine xiln hx hb hl (x := l2) 3 rfl dX6_coinsOf_44 ?_
  refine xaln hx hb hl (x := l0) 1 rfl dX6_coinsOf_45 ?_
  refine xgR Z hR hq fl_X6_40 rfl dX6_coinsOf_46 (fun x46 hq => ?_)
  refine xgR Z hR hq fl_X6_78 rfl dX6_coinsOf_49 (fun x49 hq => ?_)
  refine xiln hx hb hl (x := l3) 4 rfl dX6_coinsOf_52 ?_
  refine xcV Z hR hS hl (rest := [.int l2]) (As := [.int l3]) hq cl_X6_63 (fun b x h1 hc => c_Jx4a65c_get_915e3 l b l3 h x h1 hc) ⟨⟨rfl, rfl⟩, (by decide), (by decide)⟩ rfl rfl (by first | decide | (simp only [List.map_cons, List.map_nil, rf_cat, ct_int, ct_ref, List.sum_cons, List.sum_nil] <;> decide)) dX6_coinsOf_53 (by decide) (fun x53 h H locs hq hR hS => ?_)
  refine xck Z hR hq ck_X6_67 dX6_coinsOf_56 (fun hq => ?_)
  refine xgI Z hR hq fl_X6_133 rfl dX6_coinsOf_59 (fun x59 hq => ?_)
  refine xiln hx hb hl (x := l1) 2 rfl dX6_coinsOf_62 ?_
  refine xcNe hx hb hq (tgt := 71) dX6_coinsOf_63 (by decide) (fun hq => ?_) (fun hq => ?_)
  · refine lv_iconst (v := 0) hx hb dX6_coinsOf_71 (by decide) ?_
    exact t_X6_coinsOf_72 Z hr hlk hin hk4 hk18 l2 0 l0 l1 l3 l4 x41 h H locs ls hq hR hS (hl.sub [1, 2, 4, 5, 0] rfl)
  refine xil hx hb hl (x := x41) 0 rfl dX6_coinsOf_66 ?_
  refine lv_goto (tgt := 72) hx hb dX6_coinsOf_68 (by decide) ?_
  exact t_X6_coinsOf_72 Z hr hlk hin hk4 hk18 l2 x41 l0 l1 l3 l4 x41 h H locs ls hq hR hS (hl.sub [1, 2, 4, 5, 0] rfl)
def f_X6_coinsOf_18  (k4 : Option Nat × Int32 × Int32 × Int32 × Hp → Option (Int32 × Hp)) (l0 : Option Nat) (l1 : Int32) (l2 : Int32) (l3 : Int32) (l4 : Int32) (h : Hp) : Option (Int32 × Hp) :=
  lp (fun (k18 : Option Nat × Int32 × Int32 × Int32 × Int32 × Hp → Option (Int32 × Hp)) (u : Option Nat × Int32 × Int32 × Int32 × Int32 × Hp) => fb_X6_coinsOf_18 k4 k18 u.1 u.2.1 u.2.2.1 u.2.2.2.1 u.2.2.2.2.1 u.2.2.2.2.2) FU (l0, l1, l2, l3, l4, h)
theorem t_X6_coinsOf_18 (Z : ZZ p s m args c cX6_coinsOf RX6 6 G) (hr : meth.sig.returnType = (some .int)) (hlk : meth.locks = false) (hin : meth.name = "coinsOf") {v : Int32} {h1 : Hp} {k4 : Option Nat × Int32 × Int32 × Int32 × Hp → Option (Int32 × Hp)} (hk4 : ∀ u : Option Nat × Int32 × Int32 × Int32 × Hp, k4 u = some (v, h1) → ∀ (H : Heap) (locs : List Loc) (ls : Array Slot), Rep G u.2.2.2.2 H → va_S (AA G) s.heap H locs → LV ls 6 [(0, va_rf u.1), (1, .int u.2.1), (2, .int u.2.2.1), (3, .int u.2.2.2.1)] → W p l e rm_X6_coinsOf s m args below meth c H locs 0 0 (MQ below (Qx G (some (.int v)) h1) args s 0 0 (AA G)) (F0 m 4 ls [])) : ∀ (l0 : Option Nat) (l1 : Int32) (l2 : Int32) (l3 : Int32) (l4 : Int32) (h : Hp) (H : Heap) (locs : List Loc) (ls : Array Slot), f_X6_coinsOf_18 k4 l0 l1 l2 l3 l4 h = some (v, h1) → Rep G h H → va_S (AA G) s.heap H locs → LV ls 6 [(0, va_rf l0), (1, .int l1), (2, .int l2), (3, .int l3), (4, .int l4)] → W p l e rm_X6_coinsOf s m args below meth c H locs 0 0 (MQ below (Qx G (some (.int v)) h1) args s 0 0 (AA G)) (F0 m 18 ls []) := by
  intro l0 l1 l2 l3 l4 h H locs ls hq hR hS hl
  exact lp_ind (P := fun u : Option Nat × Int32 × Int32 × Int32 × Int32 × Hp => ∀ (H : Heap) (locs : List Loc) (ls : Array Slot), Rep G u.2.2.2.2.2 H → va_S (AA G) s.heap H locs → LV ls 6 [(0, va_rf u.1), (1, .int u.2.1), (2, .int u.2.2.1), (3, .int u.2.2.2.1), (4, .int u.2.2.2.2.1)] → W p l e rm_X6_coinsOf s m args below meth c H locs 0 0 (MQ below (Qx G (some (.int v)) h1) args s 0 0 (AA G)) (F0 m 18 ls [])) (fun k hk u hq H locs ls hR hS hl => tb_X6_coinsOf_18 Z hr hlk hin hk4 hk u.1 u.2.1 u.2.2.1 u.2.2.2.1 u.2.2.2.2.1 u.2.2.2.2.2 H locs ls hq hR hS hl) FU (l0, l1, l2, l3, l4, h) hq H locs ls hR hS hl
def fb_X6_coinsOf_4  (k4 : Option Nat × Int32 × Int32 × Int32 × Hp → Option (Int32 × Hp)) (l0 : Option Nat) (l1 : Int32) (l2 : Int32) (l3 : Int32) (h : Hp) : Option (Int32 × Hp) :=
gR h l0 7 1 (fun x6 =>
rcv h x6 2 (fun b9 => bd (f_X1_size b9 h) (fun x9 h =>
(if x9 ≤ l3 then
rtI l2 h
else
f_X6_coinsOf_18 k4 l0 l1 l2 l3 0 h))))
set_option maxHeartbeats 4000000 in
set_option maxRecDepth 100000 in
theorem tb_X6_coinsOf_4 (Z : ZZ p s m args c cX6_coinsOf RX6 6 G) (hr : meth.sig.returnType = (some .int)) (hlk : meth.locks = false) (hin : meth.name = "coinsOf") {v : Int32} {h1 : Hp} {k4 : Option Nat × Int32 × Int32 × Int32 × Hp → Option (Int32 × Hp)} (hk4 : ∀ u : Option Nat × Int32 × Int32 × Int32 × Hp, k4 u = some (v, h1) → ∀ (H : Heap) (locs : List Loc) (ls : Array Slot), Rep G u.2.2.2.2 H → va_S (AA G) s.heap H locs → LV ls 6 [(0, va_rf u.1), (1, .int u.2.1), (2, .int u.2.2.1), (3, .int u.2.2.2.1)] → W p l e rm_X6_coinsOf s m args below meth c H locs 0 0 (MQ below (Qx G (some (.int v)) h1) args s 0 0 (AA G)) (F0 m 4 ls [])) : ∀ (l0 : Option Nat) (l1 : Int32) (l2 : Int32) (l3 : Int32) (h : Hp) (H : Heap) (locs : List Loc) (ls : Array Slot), fb_X6_coinsOf_4 k4 l0 l1 l2 l3 h = some (v, h1) → Rep G h H → va_S (AA G) s.heap H locs → LV ls 6 [(0, va_rf l0), (1, .int l1), (2, .int l2), (3, .int l3)] → W p l e rm_X6_coinsOf s m args below meth c H locs 0 0 (MQ below (Qx G (some (.int v)) h1) args s 0 0 (AA G)) (F0 m 4 ls []) := by
  intro l0 l1 l2 l3 h H locs ls hq hR hS hl
  have hx := Z.1
  have hb := Z.2.1
  unfold fb_X6_coinsOf_4 at hq
  refine xiln hx hb hl (x := l3) 3 rfl dX6_coinsOf_4 ?_
  refine xaln hx hb hl (x := l0) 0 rfl dX6_coinsOf_5 ?_
  refine xgR Z hR hq fl_X6_40 rfl dX6_coinsOf_6 (fun x6 hq => ?_)
  refine xcV Z hR hS hl (rest := [.int l3]) (As := []) hq cl_X6_77 (fun b x h1 hc => c_X1_size l b h x h1 hc) ⟨⟨rfl, rfl⟩, (by decide), (by decide)⟩ rfl rfl (by first | decide | (simp only [List.map_cons, List.map_nil, rf_cat, ct_int, ct_ref, List.sum_cons, List.sum_nil] <;> decide)) dX6_coinsOf_9 (by decide) (fun x9 h H locs hq hR hS => ?_)
  refine xcGe hx hb hq (tgt := 117) dX6_coinsOf_12 (by decide) (fun hq => ?_) (fun hq => ?_)
  · refine xiln hx hb hl (x := l2) 2 rfl dX6_coinsOf_117 ?_
    exact xrI hx hb hr hlk hR hS hq (by decide) (by decide) dX6_coinsOf_118
  refine lv_iconst (v := 0) hx hb dX6_coinsOf_15 (by decide) ?_
  refine xis hx hb hl (x := 0) (lv' := [(4, .int 0), (0, va_rf l0), (1, .int l1), (2, .int l2), (3, .int l3)]) (by decide) dX6_coinsOf_16 rfl (fun ls hl => ?_)
  exact t_X6_coinsOf_18 Z hr hlk hin hk4 l0 l1 l2 l3 0 h H locs ls hq hR hS (hl.sub [1, 2, 3, 4, 0] rfl)
def f_X6_coinsOf_4  (l0 : Option Nat) (l1 : Int32) (l2 : Int32) (l3 : Int32) (h : Hp) : Option (Int32 × Hp) :=
  lp (fun (k4 : Option Nat × Int32 × Int32 × Int32 × Hp → Option (Int32 × Hp)) (u : Option Nat × Int32 × Int32 × Int32 × Hp) => fb_X6_coinsOf_4 k4 u.1 u.2.1 u.2.2.1 u.2.2.2.1 u.2.2.2.2) FU (l0, l1, l2, l3, h)
theorem t_X6_coinsOf_4 (Z : ZZ p s m args c cX6_coinsOf RX6 6 G) (hr : meth.sig.returnType = (some .int)) (hlk : meth.locks = false) (hin : meth.name = "coinsOf") {v : Int32} {h1 : Hp} : ∀ (l0 : Option Nat) (l1 : Int32) (l2 : Int32) (l3 : Int32) (h : Hp) (H : Heap) (locs : List Loc) (ls : Array Slot), f_X6_coinsOf_4 l0 l1 l2 l3 h = some (v, h1) → Rep G h H → va_S (AA G) s.heap H locs → LV ls 6 [(0, va_rf l0), (1, .int l1), (2, .int l2), (3, .int l3)] → W p l e rm_X6_coinsOf s m args below meth c H locs 0 0 (MQ below (Qx G (some (.int v)) h1) args s 0 0 (AA G)) (F0 m 4 ls []) := by
  intro l0 l1 l2 l3 h H locs ls hq hR hS hl
  exact lp_ind (P := fun u : Option Nat × Int32 × Int32 × Int32 × Hp => ∀ (H : Heap) (locs : List Loc) (ls : Array Slot), Rep G u.2.2.2.2 H → va_S (AA G) s.heap H locs → LV ls 6 [(0, va_rf u.1), (1, .int u.2.1), (2, .int u.2.2.1), (3, .int u.2.2.2.1)] → W p l e rm_X6_coinsOf s m args below meth c H locs 0 0 (MQ below (Qx G (some (.int v)) h1) args s 0 0 (AA G)) (F0 m 4 ls [])) (fun k hk u hq H locs ls hR hS hl => tb_X6_coinsOf_4 Z hr hlk hin hk u.1 u.2.1 u.2.2.1 u.2.2.2.1 u.2.2.2.2 H locs ls hq hR hS hl) FU (l0, l1, l2, l3, h) hq H locs ls hR hS hl
def f_X6_coinsOf (this : Nat) (a0 : Int32) (h : Hp) : Option (Int32 × Hp) :=
f_X6_coinsOf_4 (some this) a0 0 0 h
set_option maxHeartbeats 4000000 in
set_option maxRecDepth 100000 in
theorem c_X6_coinsOf (l : Launch) {G : GG} (this : Nat) (a0 : Int32) (h : Hp) (v : Int32) (h1 : Hp) (hq : f_X6_coinsOf this a0 h = some (v, h1)) : Met l yX6_coinsOf (Cond.code yX6_coinsOf cX6_coinsOf 6 (some .int) :: GT) rm_X6_coinsOf (va_Pc [.ref this, .int a0] (Cn G h)) (Qx G (some (.int v)) h1) 0 0 (AA G) := by
  refine xMet (cc := cX6_coinsOf) (by decide) (Nat.le_of_ble_eq_true rfl) (List.forall_mem_cons.mpr ⟨rfl, (List.forall_mem_cons.mpr ⟨rfl, (fun _ z => by cases z)⟩)⟩) ?_
  intro p e s m below meth c ls Z hr hlk hin hR hS hl
  have hx := Z.1
  have hb := Z.2.1
  have hl : LV ls 6 [(0, va_rf (some this)), (1, .int a0)] := hl
  unfold f_X6_coinsOf at hq
  refine lv_iconst (v := 0) hx hb dX6_coinsOf_0 (by decide) ?_
  refine xisn hx hb hl (x := 0) (lv' := [(2, .int 0), (0, va_rf (some this)), (1, .int a0)]) (by decide) dX6_coinsOf_1 rfl (fun ls hl => ?_)
  refine lv_iconst (v := 0) hx hb dX6_coinsOf_2 (by decide) ?_
  refine xisn hx hb hl (x := 0) (lv' := [(3, .int 0), (2, .int 0), (0, va_rf (some this)), (1, .int a0)]) (by decide) dX6_coinsOf_3 rfl (fun ls hl => ?_)
  exact t_X6_coinsOf_4 Z hr hlk hin (some this) a0 0 0 h _ _ ls hq hR hS (hl.sub [2, 3, 1, 0] rfl)
end
