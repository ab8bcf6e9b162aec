theorem fl_X0_9 : FL RX0 9 1 9 := ⟨_, TX0, 14, "FreightPaths$Bid", rfl, by decide, by decide +kernel, Or.inl rfl⟩
theorem fl_X0_15 : FL RX0 15 1 11 := ⟨_, TX0, 14, "FreightPaths$Bid", rfl, by decide, by decide +kernel, Or.inl rfl⟩
theorem fl_X0_19 : FL RX0 19 1 12 := ⟨_, TX0, 14, "FreightPaths$Bid", rfl, by decide, by decide +kernel, Or.inl rfl⟩
theorem fl_X0_22 : FL RX0 22 1 13 := ⟨_, TX0, 14, "FreightPaths$Bid", rfl, by decide, by decide +kernel, Or.inl rfl⟩
theorem fl_X0_25 : FL RX0 25 1 0 := ⟨_, TX0, 14, "FreightPaths$Bid", rfl, by decide, by decide +kernel, Or.inl rfl⟩
theorem fl_X0_28 : FL RX0 28 1 1 := ⟨_, TX0, 14, "FreightPaths$Bid", rfl, by decide, by decide +kernel, Or.inl rfl⟩
theorem fl_X0_31 : FL RX0 31 1 2 := ⟨_, TX0, 14, "FreightPaths$Bid", rfl, by decide, by decide +kernel, Or.inl rfl⟩
theorem fl_X0_34 : FL RX0 34 1 3 := ⟨_, TX0, 14, "FreightPaths$Bid", rfl, by decide, by decide +kernel, Or.inl rfl⟩
theorem fl_X0_37 : FL RX0 37 1 4 := ⟨_, TX0, 14, "FreightPaths$Bid", rfl, by decide, by decide +kernel, Or.inl rfl⟩
theorem fl_X0_40 : FL RX0 40 1 5 := ⟨_, TX0, 14, "FreightPaths$Bid", rfl, by decide, by decide +kernel, Or.inl rfl⟩
theorem fl_X0_43 : FL RX0 43 1 6 := ⟨_, TX0, 14, "FreightPaths$Bid", rfl, by decide, by decide +kernel, Or.inl rfl⟩
theorem fl_X0_46 : FL RX0 46 1 7 := ⟨_, TX0, 14, "FreightPaths$Bid", rfl, by decide, by decide +kernel, Or.inl rfl⟩
theorem fl_X0_49 : FL RX0 49 1 8 := ⟨_, TX0, 14, "FreightPaths$Bid", rfl, by decide, by decide +kernel, Or.inl rfl⟩
theorem fl_X0_52 : FL RX0 52 1 10 := ⟨_, TX0, 14, "FreightPaths$Bid", rfl, by decide, by decide +kernel, Or.inl rfl⟩
theorem if_X0_1_0 : iF RX0 1 0 := fun _ _ _ z => by cases z; exact ⟨rfl, rfl⟩
theorem if_X0_1_1 : iF RX0 1 1 := fun _ _ _ z => by cases z; exact ⟨rfl, rfl⟩
theorem if_X0_1_2 : iF RX0 1 2 := fun _ _ _ z => by cases z; exact ⟨rfl, rfl⟩
theorem if_X0_1_3 : iF RX0 1 3 := fun _ _ _ z => by cases z; exact ⟨rfl, rfl⟩
theorem if_X0_1_4 : iF RX0 1 4 := fun _ _ _ z => by cases z; exact ⟨rfl, rfl⟩
theorem if_X0_1_5 : iF RX0 1 5 := fun _ _ _ z => by cases z; exact ⟨rfl, rfl⟩
theorem if_X0_1_6 : iF RX0 1 6 := fun _ _ _ z => by cases z; exact ⟨rfl, rfl⟩
theorem if_X0_1_7 : iF RX0 1 7 := fun _ _ _ z => by cases z; exact ⟨rfl, rfl⟩
theorem if_X0_1_8 : iF RX0 1 8 := fun _ _ _ z => by cases z; exact ⟨rfl, rfl⟩
theorem nf_1_9 : nF 1 9 := fun _ _ _ z => by cases z; rfl
theorem nf_1_10 : nF 1 10 := fun _ _ _ z => by cases z; rfl
theorem if_X0_1_11 : iF RX0 1 11 := fun _ _ _ z => by cases z; exact ⟨rfl, rfl⟩
theorem if_X0_1_12 : iF RX0 1 12 := fun _ _ _ z => by cases z; exact ⟨rfl, rfl⟩
theorem if_X0_1_13 : iF RX0 1 13 := fun _ _ _ z => by cases z; exact ⟨rfl, rfl⟩
theorem lk_X0_3 : Cond.methodLink RX0 3 objectInit ∈ GT := by decide +kernel
theorem me_X0_way : Cond.instanceMethod yX0_way ∈ GT ∧ Cond.selects RX0 yX0_way yX0_way ∈ GT ∧ Cond.initialized RX0 ∈ GT ∧ Cond.code yX0_way cX0_way 1 (some .int) ∈ GT := ⟨by decide +kernel, by decide +kernel, by decide +kernel, by decide +kernel⟩
theorem cl_X0_56 : VL RX0 56 1 yX0_way cX0_way 1 (some .int) 0 := ⟨⟨TX0, 14, rfl⟩, ⟨by decide +kernel, me_X0_way⟩, by decide, by decide, by decide +kernel⟩
section
variable {p : Program} {l : Launch} {e : Env} {s : State} {m : MethodId} {args : Array Value} {below : List Frame} {meth : Method} {c : Code} {G : GG}
abbrev rm_X0_init : Room := { frames := 1, cells := 3, slots := 24, locals := 20 }
def f_X0_init (this : Nat) (a0 : Int32) (a1 : Int32) (a2 : Int32) (a3 : Int32) (a4 : Int32) (h : Hp) : Option (Unit × Hp) :=
pI h (some this) 1 9 (-1) (fun h =>
nwI h 8 (fun n12 h =>
pR h (some this) 1 11 (some n12) (fun h =>
nwI h 8 (fun n20 h =>
pR h (some this) 1 12 (some n20) (fun h =>
nwI h 8 (fun n28 h =>
pR h (some this) 1 13 (some n28) (fun h =>
pI h (some this) 1 0 a0 (fun h =>
pI h (some this) 1 1 (a1 / 10000) (fun h =>
pI h (some this) 1 2 ((a1 / 1000) - (a1 / 1000) / 10 * 10) (fun h =>
pI h (some this) 1 3 ((a1 / 100) - (a1 / 100) / 10 * 10) (fun h =>
pI h (some this) 1 4 ((a1 / 10) - (a1 / 10) / 10 * 10) (fun h =>
pI h (some this) 1 5 (a2 / 1000) (fun h =>
pI h (some this) 1 6 (a2 - a2 / 1000 * 1000) (fun h =>
pI h (some this) 1 7 a3 (fun h =>
pI h (some this) 1 8 a4 (fun h =>
rtV h))))))))))))))))
set_option maxHeartbeats 4000000 in
set_option maxRecDepth 100000 in
theorem c_X0_init (l : Launch) {G : GG} (this : Nat) (a0 : Int32) (a1 : Int32) (a2 : Int32) (a3 : Int32) (a4 : Int32) (h : Hp) (v : Unit) (h1 : Hp) (hq : f_X0_init this a0 a1 a2 a3 a4 h = some (v, h1)) : Met l yX0_init (Cond.code yX0_init cX0_init 6 none :: GT) rm_X0_init (va_Pc [.ref this, .int a0, .int a1, .int a2, .int a3, .int a4] (Cn G h)) (Qx G none h1) 3 24 (AA G) := by
  refine xMet (cc := cX0_init) (by decide) (Nat.le_of_ble_eq_true rfl) (List.forall_mem_cons.mpr ⟨rfl, (List.forall_mem_cons.mpr ⟨rfl, (List.forall_mem_cons.mpr ⟨rfl, (List.forall_mem_cons.mpr ⟨rfl, (List.forall_mem_cons.mpr ⟨rfl, (List.forall_mem_cons.mpr ⟨rfl, (fun _ z => by cases z)⟩)⟩)⟩)⟩)⟩)⟩) ?_
  intro p e s m below meth c ls Z hr hlk hin hR hS hl
  have hx := Z.1
  have hb := Z.2.1
  have hl : LV ls 6 [(0, va_rf (some this)), (1, .int a0), (2, .int a1), (3, .int a2), (4, .int a3), (5, .int a4)] := hl
  unfold f_X0_init at hq
  refine xaln hx hb hl (x := (some this)) 0 rfl dX0_init_0 ?_
  refine xoi Z hl lk_X0_3 (by decide) (by decide) dX0_init_1 ?_
  refine xaln hx hb hl (x := (some this)) 0 rfl dX0_init_4 ?_
  refine lv_iconst (v := (-1)) hx hb dX0_init_5 (by decide) ?_
  refine xpI Z hR hS hq fl_X0_9 rfl (Or.inl nf_1_9) dX0_init_6 (fun h H locs hq hR hS => ?_)
  refine xaln hx hb hl (x := (some this)) 0 rfl dX0_init_9 ?_
  refine lv_bipush (v := 8) hx hb dX0_init_10 (by decide) ?_
  refine xnI Z hR hS hq ac_I (by decide) (by decide) (by decide) (by decide) (by decide) dX0_init_12 (fun n12 h H hq hR hS => ?_)
  refine xpR Z hR hS hq fl_X0_15 rfl (Or.inr ⟨if_X0_1_11, hin⟩) dX0_init_14 (fun h H locs hq hR hS => ?_)
  refine xaln hx hb hl (x := (some this)) 0 rfl dX0_init_17 ?_
  refine lv_bipush (v := 8) hx hb dX0_init_18 (by decide) ?_
  refine xnI Z hR hS hq ac_I (by decide) (by decide) (by decide) (by decide) (by decide) dX0_init_20 (fun n20 h H hq hR hS => ?_)
  refine xpR Z hR hS hq fl_X0_19 rfl (Or.inr ⟨if_X0_1_12, hin⟩) dX0_init_22 (fun h H locs hq hR hS => ?_)
  refine xaln hx hb hl (x := (some this)) 0 rfl dX0_init_25 ?_
  refine lv_bipush (v := 8) hx hb dX0_init_26 (by decide) ?_
  refine xnI Z hR hS hq ac_I (by decide) (by decide) (by decide) (by decide) (by decide) dX0_init_28 (fun n28 h H hq hR hS => ?_)
  refine xpR Z hR hS hq fl_X0_22 rfl (Or.inr ⟨if_X0_1_13, hin⟩) dX0_init_30 (fun h H locs hq hR hS => ?_)
  refine xaln hx hb hl (x := (some this)) 0 rfl dX0_init_33 ?_
  refine xiln hx hb hl (x := a0) 1 rfl dX0_init_34 ?_
  refine xpI Z hR hS hq fl_X0_25 rfl (Or.inr ⟨if_X0_1_0, hin⟩) dX0_init_35 (fun h H locs hq hR hS => ?_)
  refine xaln hx hb hl (x := (some this)) 0 rfl dX0_init_38 ?_
  refine xiln hx hb hl (x := a1) 2 rfl dX0_init_39 ?_
  refine lv_sipush (v := 10000) hx hb dX0_init_40 (by decide) ?_
  refine lv_idiv hx hb dX0_init_43 (by decide) ?_
  refine xpI Z hR hS hq fl_X0_28 rfl (Or.inr ⟨if_X0_1_1, hin⟩) dX0_init_44 (fun h H locs hq hR hS => ?_)
  refine xaln hx hb hl (x := (some this)) 0 rfl dX0_init_47 ?_
  refine xiln hx hb hl (x := a1) 2 rfl dX0_init_48 ?_
  refine lv_sipush (v := 1000) hx hb dX0_init_49 (by decide) ?_
  refine lv_idiv hx hb dX0_init_52 (by decide) ?_
  refine lv_bipush (v := 10) hx hb dX0_init_53 (by decide) ?_
  refine lv_irem hx hb dX0_init_55 (by decide) ?_
  refine xpI Z hR hS hq fl_X0_31 rfl (Or.inr ⟨if_X0_1_2, hin⟩) dX0_init_56 (fun h H locs hq hR hS => ?_)
  refine xaln hx hb hl (x := (some this)) 0 rfl dX0_init_59 ?_
  refine xiln hx hb hl (x := a1) 2 rfl dX0_init_60 ?_
  refine lv_bipush (v := 100) hx hb dX0_init_61 (by decide) ?_
  refine lv_idiv hx hb dX0_init_63 (by decide) ?_
  refine lv_bipush (v := 10) hx hb dX0_init_64 (by decide) ?_
  refine lv_irem hx hb dX0_init_66 (by decide) ?_
  refine xpI Z hR hS hq fl_X0_34 rfl (Or.inr ⟨if_X0_1_3, hin⟩) dX0_init_67 (fun h H locs hq hR hS => ?_)
  refine xaln hx hb hl (x := (some this)) 0 rfl dX0_init_70 ?_
  refine xiln hx hb hl (x := a1) 2 rfl dX0_init_71 ?_
  refine lv_bipush (v := 10) hx hb dX0_init_72 (by decide) ?_
  refine lv_idiv hx hb dX0_init_74 (by decide) ?_
  refine lv_bipush (v := 10) hx hb dX0_init_75 (by decide) ?_
  refine lv_irem hx hb dX0_init_77 (by decide) ?_
  refine xpI Z hR hS hq fl_X0_37 rfl (Or.inr ⟨if_X0_1_4, hin⟩) dX0_init_78 (fun h H locs hq hR hS => ?_)
  refine xaln hx hb hl (x := (some this)) 0 rfl dX0_init_81 ?_
  refine xiln hx hb hl (x := a2) 3 rfl dX0_init_82 ?_
  refine lv_sipush (v := 1000) hx hb dX0_init_83 (by decide) ?_
  refine lv_idiv hx hb dX0_init_86 (by decide) ?_
  refine xpI Z hR hS hq fl_X0_40 rfl (Or.inr ⟨if_X0_1_5, hin⟩) dX0_init_87 (fun h H locs hq hR hS => ?_)
  refine xaln hx hb hl (x := (some this)) 0 rfl dX0_init_90 ?_
  refine xiln hx hb hl (x := a2) 3 rfl dX0_init_91 ?_
  refine lv_sipush (v := 1000) hx hb dX0_init_92 (by decide) ?_
  refine lv_irem hx hb dX0_init_95 (by decide) ?_
  refine xpI Z hR hS hq fl_X0_43 rfl (Or.inr ⟨if_X0_1_6, hin⟩) dX0_init_96 (fun h H locs hq hR hS => ?_)
  refine xaln hx hb hl (x := (some this)) 0 rfl dX0_init_99 ?_
  refine xil hx hb hl (x := a3) 4 rfl dX0_init_100 ?_
  refine xpI Z hR hS hq fl_X0_46 rfl (Or.inr ⟨if_X0_1_7, hin⟩) dX0_init_102 (fun h H locs hq hR hS => ?_)
  refine xaln hx hb hl (x := (some this)) 0 rfl dX0_init_105 ?_
  refine xil hx hb hl (x := a4) 5 rfl dX0_init_106 ?_
  refine xpI Z hR hS hq fl_X0_49 rfl (Or.inr ⟨if_X0_1_8, hin⟩) dX0_init_108 (fun h H locs hq hR hS => ?_)
  exact xrV hx hb hr hlk hR hS hq (by decide) (by decide) dX0_init_111
abbrev rm_X0_isWhat : Room := { frames := 0, cells := 0, slots := 0, locals := 0 }
def f_X0_isWhat_32   (h : Hp) : Option (Int32 × Hp) :=
rtZ 0 h
set_option maxHeartbeats 4000000 in
set_option maxRecDepth 100000 in
theorem t_X0_isWhat_32 (Z : ZZ p s m args c cX0_isWhat RX0 4 G) (hr : meth.sig.returnType = (some .boolean)) (hlk : meth.locks = false) (hin : meth.name = "isWhat") {v : Int32} {h1 : Hp} : ∀  (h : Hp) (H : Heap) (locs : List Loc) (ls : Array Slot), f_X0_isWhat_32  h = some (v, h1) → Rep G h H → va_S (AA G) s.heap H locs → LV ls 4 [] → W p l e rm_X0_isWhat s m args below meth c H locs 0 0 (MQ below (Qx G (some (.int v)) h1) args s 0 0 (AA G)) (F0 m 32 ls []) := by
  intro  h H locs ls hq hR hS hl
  have hx := Z.1
  have hb := Z.2.1
  unfold f_X0_isWhat_32 at hq
  refine lv_iconst (v := 0) hx hb dX0_isWhat_32 (by decide) ?_
  exact xrZ hx hb hr hlk hR hS hq (by decide) (by decide) dX0_isWhat_33
def f_X0_isWhat_71  (s0 : Int32) (h : Hp) : Option (Int32 × Hp) :=
rtZ s0 h
set_option maxHeartbeats 4000000 in
set_option maxRecDepth 100000 in
theorem t_X0_isWhat_71 (Z : ZZ p s m args c cX0_isWhat RX0 4 G) (hr : meth.sig.returnType = (some .boolean)) (hlk : meth.locks = false) (hin : meth.name = "isWhat") {v : Int32} {h1 : Hp} : ∀ (s0 : Int32) (h : Hp) (H : Heap) (locs : List Loc) (ls : Array Slot), f_X0_isWhat_71 s0 h = some (v, h1) → Rep G h H → va_S (AA G) s.heap H locs → LV ls 4 [] → W p l e rm_X0_isWhat s m args below meth c H locs 0 0 (MQ below (Qx G (some (.int v)) h1) args s 0 0 (AA G)) (F0 m 71 ls [.int s0]) := by
  intro s0 h H locs ls hq hR hS hl
  have hx := Z.1
  have hb := Z.2.1
  unfold f_X0_isWhat_71 at hq
  exact xrZ hx hb hr hlk hR hS hq (by decide) (by decide) dX0_isWhat_71
def f_X0_isWhat_70   (h : Hp) : Option (Int32 × Hp) :=
f_X0_isWhat_71 0 h
set_option maxHeartbeats 4000000 in
set_option maxRecDepth 100000 in
theorem t_X0_isWhat_70 (Z : ZZ p s m args c cX0_isWhat RX0 4 G) (hr : meth.sig.returnType = (some .boolean)) (hlk : meth.locks = false) (hin : meth.name = "isWhat") {v : Int32} {h1 : Hp} : ∀  (h : Hp) (H : Heap) (locs : List Loc) (ls : Array Slot), f_X0_isWhat_70  h = some (v, h1) → Rep G h H → va_S (AA G) s.heap H locs → LV ls 4 [] → W p l e rm_X0_isWhat s m args below meth c H locs 0 0 (MQ below (Qx G (some (.int v)) h1) args s 0 0 (AA G)) (F0 m 70 ls []) := by
  intro  h H locs ls hq hR hS hl
  have hx := Z.1
  have hb := Z.2.1
  unfold f_X0_isWhat_70 at hq
  refine lv_iconst (v := 0) hx hb dX0_isWhat_70 (by decide) ?_
  exact t_X0_isWhat_71 Z hr hlk hin 0 h H locs ls hq hR hS (hl.sub [] rfl)
def f_X0_isWhat (a0 : Int32) (a1 : Int32) (h : Hp) : Option (Int32 × Hp) :=
(if a0 < 0 then
f_X0_isWhat_32  h
else
(if 6 ≤ (a0 / 10000) then
f_X0_isWhat_32  h
else
(if 2 ≤ ((a0 / 10) - (a0 / 10) / 10 * 10) then
f_X0_isWhat_32  h
else
(if (a0 - a0 / 10 * 10) = 0 then
(if a1 ≤ ((a0 / 1000) - (a0 / 1000) / 10 * 10) then
f_X0_isWhat_70  h
else
(if a1 ≤ ((a0 / 100) - (a0 / 100) / 10 * 10) then
f_X0_isWhat_70  h
else
(if ((a0 / 1000) - (a0 / 1000) / 10 * 10) = ((a0 / 100) - (a0 / 100) / 10 * 10) then
f_X0_isWhat_70  h
else
f_X0_isWhat_71 1 h)))
else
f_X0_isWhat_32  h))))
set_option maxHeartbeats 4000000 in
set_option maxRecDepth 100000 in
theorem c_X0_isWhat (l : Launch) {G : GG} (a0 : Int32) (a1 : Int32) (h : Hp) (v : Int32) (h1 : Hp) (hq : f_X0_isWhat a0 a1 h = some (v, h1)) : Met l yX0_isWhat (Cond.code yX0_isWhat cX0_isWhat 4 (some .boolean) :: GT) rm_X0_isWhat (va_Pc [.int a0, .int a1] (Cn G h)) (Qx G (some (.int v)) h1) 0 0 (AA G) := by
  refine xMet (cc := cX0_isWhat) (by decide) (Nat.le_of_ble_eq_true rfl) (List.forall_mem_cons.mpr ⟨rfl, (List.forall_mem_cons.mpr ⟨rfl, (fun _ z => by cases z)⟩)⟩) ?_
  intro p e s m below meth c ls Z hr hlk hin hR hS hl
  have hx := Z.1
  have hb := Z.2.1
  have hl : LV ls 4 [(0, .int a0), (1, .int a1)] := hl
  unfold f_X0_isWhat at hq
  refine xiln hx hb hl (x := a0) 0 rfl dX0_isWhat_0 ?_
  refine xzLt hx hb hq (tgt := 32) dX0_isWhat_1 (by decide) (fun hq => ?_) (fun hq => ?_)
  · exact t_X0_isWhat_32 Z hr hlk hin  h _ _ ls hq hR hS (hl.sub [] rfl)
  refine xiln hx hb hl (x := a0) 0 rfl dX0_isWhat_4 ?_
  refine lv_sipush (v := 10000) hx hb dX0_isWhat_5 (by decide) ?_
  refine lv_idiv hx hb dX0_isWhat_8 (by decide) ?_
  refine lv_bipush (v := 6) hx hb dX0_isWhat_9 (by decide) ?_
  refine xcGe hx hb hq (tgt := 32) dX0_isWhat_11 (by decide) (fun hq => ?_) (fun hq => ?_)
  · exact t_X0_isWhat_32 Z hr hlk hin  h _ _ ls hq hR hS (hl.sub [] rfl)
  refine xiln hx hb hl (x := a0) 0 rfl dX0_isWhat_14 ?_
  refine lv_bipush (v := 10) hx hb dX0_isWhat_15 (by decide) ?_
  refine lv_idiv hx hb dX0_isWhat_17 (by decide) ?_
  refine lv_bipush (v := 10) hx hb dX0_isWhat_18 (by decide) ?_
  refine lv_irem hx hb dX0_isWhat_20 (by decide) ?_
  refine lv_iconst (v := 2) hx hb dX0_isWhat_21 (by decide) ?_
  refine xcGe hx hb hq (tgt := 32) dX0_isWhat_22 (by decide) (fun hq => ?_) (fun hq => ?_)
  · exact t_X0_isWhat_32 Z hr hlk hin  h _ _ ls hq hR hS (hl.sub [] rfl)
  refine xiln hx hb hl (x := a0) 0 rfl dX0_isWhat_25 ?_
  refine lv_bipush (v := 10) hx hb dX0_isWhat_26 (by decide) ?_
  refine lv_irem hx hb dX0_isWhat_28 (by decide) ?_
  refine xzEq hx hb hq (tgt := 34) dX0_isWhat_29 (by decide) (fun hq => ?_) (fun hq => ?_)
  · refine xiln hx hb hl (x := a0) 0 rfl dX0_isWhat_34 ?_
    refine lv_sipush (v := 1000) hx hb dX0_isWhat_35 (by decide) ?_
    refine lv_idiv hx hb dX0_isWhat_38 (by decide) ?_
    refine lv_bipush (v := 10) hx hb dX0_isWhat_39 (by decide) ?_
    refine lv_irem hx hb dX0_isWhat_41 (by decide) ?_
    refine xisn hx hb hl (x := ((a0 / 1000) - (a0 / 1000) / 10 * 10)) (lv' := [(2, .int ((a0 / 1000) - (a0 / 1000) / 10 * 10)), (0, .int a0), (1, .int a1)]) (by decide) dX0_isWhat_42 rfl (fun ls hl => ?_)
    refine xiln hx hb hl (x := a0) 1 rfl dX0_isWhat_43 ?_
    refine lv_bipush (v := 100) hx hb dX0_isWhat_44 (by decide) ?_
    refine lv_idiv hx hb dX0_isWhat_46 (by decide) ?_
    refine lv_bipush (v := 10) hx hb dX0_isWhat_47 (by decide) ?_
    refine lv_irem hx hb dX0_isWhat_49 (by decide) ?_
    refine xisn hx hb hl (x := ((a0 / 100) - (a0 / 100) / 10 * 10)) (lv' := [(3, .int ((a0 / 100) - (a0 / 100) / 10 * 10)), (2, .int ((a0 / 1000) - (a0 / 1000) / 10 * 10)), (0, .int a0), (1, .int a1)]) (by decide) dX0_isWhat_50 rfl (fun ls hl => ?_)
    refine xiln hx hb hl (x := ((a0 / 1000) - (a0 / 1000) / 10 * 10)) 1 rfl dX0_isWhat_51 ?_
    refine xiln hx hb hl (x := a1) 3 rfl dX0_isWhat_52 ?_
    refine xcGe hx hb hq (tgt := 70) dX0_isWhat_53 (by decide) (fun hq => ?_) (fun hq => ?_)
    · exact t_X0_isWhat_70 Z hr hlk hin  h _ _ ls hq hR hS (hl.sub [] rfl)
    refine xiln hx hb hl (x := ((a0 / 100) - (a0 / 100) / 10 * 10)) 0 rfl dX0_isWhat_56 ?_
    refine xiln hx hb hl (x := a1) 3 rfl dX0_isWhat_57 ?_
    refine xcGe hx hb hq (tgt := 70) dX0_isWhat_58 (by decide) (fun hq => ?_) (fun hq => ?_)
    · exact t_X0_isWhat_70 Z hr hlk hin  h _ _ ls hq hR hS (hl.sub [] rfl)
    refine xiln hx hb hl (x := ((a0 / 1000) - (a0 / 1000) / 10 * 10)) 1 rfl dX0_isWhat_61 ?_
    refine xiln hx hb hl (x := ((a0 / 100) - (a0 / 100) / 10 * 10)) 0 rfl dX0_isWhat_62 ?_
    refine xcEq hx hb hq (tgt := 70) dX0_isWhat_63 (by decide) (fun hq => ?_) (fun hq => ?_)
    · exact t_X0_isWhat_70 Z hr hlk hin  h _ _ ls hq hR hS (hl.sub [] rfl)
    refine lv_iconst (v := 1) hx hb dX0_isWhat_66 (by decide) ?_
    refine lv_goto (tgt := 71) hx hb dX0_isWhat_67 (by decide) ?_
    exact t_X0_isWhat_71 Z hr hlk hin 1 h _ _ ls hq hR hS (hl.sub [] rfl)
  exact t_X0_isWhat_32 Z hr hlk hin  h _ _ ls hq hR hS (hl.sub [] rfl)
abbrev rm_X0_isWhen : Room := { frames := 0, cells := 0, slots := 0, locals := 0 }
def f_X0_isWhen_31  (s0 : Int32) (h : Hp) : Option (Int32 × Hp) :=
rtZ s0 h
set_option maxHeartbeats 4000000 in
set_option maxRecDepth 100000 in
theorem t_X0_isWhen_31 (Z : ZZ p s m args c cX0_isWhen RX0 1 G) (hr : meth.sig.returnType = (some .boolean)) (hlk : meth.locks = false) (hin : meth.name = "isWhen") {v : Int32} {h1 : Hp} : ∀ (s0 : Int32) (h : Hp) (H : Heap) (locs : List Loc) (ls : Array Slot), f_X0_isWhen_31 s0 h = some (v, h1) → Rep G h H → va_S (AA G) s.heap H locs → LV ls 1 [] → W p l e rm_X0_isWhen s m args below meth c H locs 0 0 (MQ below (Qx G (some (.int v)) h1) args s 0 0 (AA G)) (F0 m 31 ls [.int s0]) := by
  intro s0 h H locs ls hq hR hS hl
  have hx := Z.1
  have hb := Z.2.1
  unfold f_X0_isWhen_31 at hq
  exact xrZ hx hb hr hlk hR hS hq (by decide) (by decide) dX0_isWhen_31
def f_X0_isWhen_30   (h : Hp) : Option (Int32 × Hp) :=
f_X0_isWhen_31 0 h
set_option maxHeartbeats 4000000 in
set_option maxRecDepth 100000 in
theorem t_X0_isWhen_30 (Z : ZZ p s m args c cX0_isWhen RX0 1 G) (hr : meth.sig.returnType = (some .boolean)) (hlk : meth.locks = false) (hin : meth.name = "isWhen") {v : Int32} {h1 : Hp} : ∀  (h : Hp) (H : Heap) (locs : List Loc) (ls : Array Slot), f_X0_isWhen_30  h = some (v, h1) → Rep G h H → va_S (AA G) s.heap H locs → LV ls 1 [] → W p l e rm_X0_isWhen s m args below meth c H locs 0 0 (MQ below (Qx G (some (.int v)) h1) args s 0 0 (AA G)) (F0 m 30 ls []) := by
  intro  h H locs ls hq hR hS hl
  have hx := Z.1
  have hb := Z.2.1
  unfold f_X0_isWhen_30 at hq
  refine lv_iconst (v := 0) hx hb dX0_isWhen_30 (by decide) ?_
  exact t_X0_isWhen_31 Z hr hlk hin 0 h H locs ls hq hR hS (hl.sub [] rfl)
def f_X0_isWhen (a0 : Int32) (h : Hp) : Option (Int32 × Hp) :=
(if a0 < 0 then
f_X0_isWhen_30  h
else
(if 240 ≤ (a0 / 1000) then
f_X0_isWhen_30  h
else
(if 240 ≤ (a0 - a0 / 1000 * 1000) then
f_X0_isWhen_30  h
else
f_X0_isWhen_31 1 h)))
set_option maxHeartbeats 4000000 in
set_option maxRecDepth 100000 in
theorem c_X0_isWhen (l : Launch) {G : GG} (a0 : Int32) (h : Hp) (v : Int32) (h1 : Hp) (hq : f_X0_isWhen a0 h = some (v, h1)) : Met l yX0_isWhen (Cond.code yX0_isWhen cX0_isWhen 1 (some .boolean) :: GT) rm_X0_isWhen (va_Pc [.int a0] (Cn G h)) (Qx G (some (.int v)) h1) 0 0 (AA G) := by
  refine xMet (cc := cX0_isWhen) (by decide) (Nat.le_of_ble_eq_true rfl) (List.forall_mem_cons.mpr ⟨rfl, (fun _ z => by cases z)⟩) ?_
  intro p e s m below meth c ls Z hr hlk hin hR hS hl
  have hx := Z.1
  have hb := Z.2.1
  have hl : LV ls 1 [(0, .int a0)] := hl
  unfold f_X0_isWhen at hq
  refine xiln hx hb hl (x := a0) 0 rfl dX0_isWhen_0 ?_
  refine xzLt hx hb hq (tgt := 30) dX0_isWhen_1 (by decide) (fun hq => ?_) (fun hq => ?_)
  · exact t_X0_isWhen_30 Z hr hlk hin  h _ _ ls hq hR hS (hl.sub [] rfl)
  refine xiln hx hb hl (x := a0) 0 rfl dX0_isWhen_4 ?_
  refine lv_sipush (v := 1000) hx hb dX0_isWhen_5 (by decide) ?_
  refine lv_idiv hx hb dX0_isWhen_8 (by decide) ?_
  refine lv_sipush (v := 240) hx hb dX0_isWhen_9 (by decide) ?_
  refine xcGe hx hb hq (tgt := 30) dX0_isWhen_12 (by decide) (fun hq => ?_) (fun hq => ?_)
  · exact t_X0_isWhen_30 Z hr hlk hin  h _ _ ls hq hR hS (hl.sub [] rfl)
  refine xiln hx hb hl (x := a0) 0 rfl dX0_isWhen_15 ?_
  refine lv_sipush (v := 1000) hx hb dX0_isWhen_16 (by decide) ?_
  refine lv_irem hx hb dX0_isWhen_19 (by decide) ?_
  refine lv_sipush (v := 240) hx hb dX0_isWhen_20 (by decide) ?_
  refine xcGe hx hb hq (tgt := 30) dX0_isWhen_23 (by decide) (fun hq => ?_) (fun hq => ?_)
  · exact t_X0_isWhen_30 Z hr hlk hin  h _ _ ls hq hR hS (hl.sub [] rfl)
  refine lv_iconst (v := 1) hx hb dX0_isWhen_26 (by decide) ?_
  refine lv_goto (tgt := 31) hx hb dX0_isWhen_27 (by decide) ?_
  exact t_X0_isWhen_31 Z hr hlk hin 1 h _ _ ls hq hR hS (hl.sub [] rfl)
abbrev rm_X0_takePath : Room := { frames := 0, cells := 0, slots := 0, locals := 0 }
def fb_X0_takePath_2  (k2 : Option Nat × Option Nat × Option Nat × Int32 × Hp → Option (Unit × Hp)) (l0 : Option Nat) (l1 : Option Nat) (l2 : Option Nat) (l3 : Int32) (h : Hp) : Option (Unit × Hp) :=
(if 8 ≤ l3 then
pZ h l0 1 10 1 (fun h =>
rtV h)
else
gR h l0 1 11 (fun x9 =>
ldI h l1 l3 (fun x15 =>
stI h x9 l3 x15 (fun h =>
gR h l0 1 12 (fun x18 =>
ldI h l2 l3 (fun x24 =>
stI h x18 l3 x24 (fun h =>
k2 (l0, l1, l2, (l3 + 1), h))))))))
set_option maxHeartbeats 4000000 in
set_option maxRecDepth 100000 in
theorem tb_X0_takePath_2 (Z : ZZ p s m args c cX0_takePath RX0 4 G) (hr : meth.sig.returnType = none) (hlk : meth.locks = false) (hin : meth.name = "takePath") {v : Unit} {h1 : Hp} {k2 : Option Nat × Option Nat × Option Nat × Int32 × Hp → Option (Unit × Hp)} (hk2 : ∀ u : Option Nat × Option Nat × Option Nat × Int32 × Hp, k2 u = some (v, h1) → ∀ (H : Heap) (locs : List Loc) (ls : Array Slot), Rep G u.2.2.2.2 H → va_S (AA G) s.heap H locs → LV ls 4 [(0, va_rf u.1), (1, va_rf u.2.1), (2, va_rf u.2.2.1), (3, .int u.2.2.2.1)] → W p l e rm_X0_takePath s m args below meth c H locs 0 0 (MQ below (Qx G none h1) args s 0 0 (AA G)) (F0 m 2 ls [])) : ∀ (l0 : Option Nat) (l1 : Option Nat) (l2 : Option Nat) (l3 : Int32) (h : Hp) (H : Heap) (locs : List Loc) (ls : Array Slot), fb_X0_takePath_2 k2 l0 l1 l2 l3 h = some (v, h1) → Rep G h H → va_S (AA G) s.heap H locs → LV ls 4 [(0, va_rf l0), (1, va_rf l1), (2, va_rf l2), (3, .int l3)] → W p l e rm_X0_takePath s m args below meth c H locs 0 0 (MQ below (Qx G none h1) args s 0 0 (AA G)) (F0 m 2 ls []) := by
  intro l0 l1 l2 l3 h H locs ls hq hR hS hl
  have hx := Z.1
  have hb := Z.2.1
  unfold fb_X0_takePath_2 at hq
  refine xiln hx hb hl (x := l3) 3 rfl dX0_takePath_2 ?_
  refine lv_bipush (v := 8) hx hb dX0_takePath_3 (by decide) ?_
  refine xcGe hx hb hq (tgt := 32) dX0_takePath_5 (by decide) (fun hq => ?_) (fun hq => ?_)
  · refine xaln hx hb hl (x := l0) 0 rfl dX0_takePath_32 ?_
    refine lv_iconst (v := 1) hx hb dX0_takePath_33 (by decide) ?_
    refine xpZ Z hR hS hq fl_X0_52 rfl (Or.inl nf_1_10) dX0_takePath_34 (fun h H locs hq hR hS => ?_)
    exact xrV hx hb hr hlk hR hS hq (by decide) (by decide) dX0_takePath_37
  refine xaln hx hb hl (x := l0) 0 rfl dX0_takePath_8 ?_
  refine xgR Z hR hq fl_X0_15 rfl dX0_takePath_9 (fun x9 hq => ?_)
  refine xiln hx hb hl (x := l3) 3 rfl dX0_takePath_12 ?_
  refine xaln hx hb hl (x := l1) 1 rfl dX0_takePath_13 ?_
  refine xiln hx hb hl (x := l3) 3 rfl dX0_takePath_14 ?_
  refine xaI Z hR hq dX0_takePath_15 (fun x15 hq => ?_)
  refine xsI Z hR hS hq dX0_takePath_16 (fun h H locs hq hR hS => ?_)
  refine xaln hx hb hl (x := l0) 0 rfl dX0_takePath_17 ?_
  refine xgR Z hR hq fl_X0_19 rfl dX0_takePath_18 (fun x18 hq => ?_)
  refine xiln hx hb hl (x := l3) 3 rfl dX0_takePath_21 ?_
  refine xaln hx hb hl (x := l2) 2 rfl dX0_takePath_22 ?_
  refine xiln hx hb hl (x := l3) 3 rfl dX0_takePath_23 ?_
  refine xaI Z hR hq dX0_takePath_24 (fun x24 hq => ?_)
  refine xsI Z hR hS hq dX0_takePath_25 (fun h H locs hq hR hS => ?_)
  refine xinc hx hb hl (x := l3) (v := (l3 + 1)) (lv' := [(3, .int (l3 + 1)), (0, va_rf l0), (1, va_rf l1), (2, va_rf l2)]) 3 rfl (by rw [show Int32.ofInt (1) = (1 : Int32) from by decide]) (by decide) dX0_takePath_26 rfl (fun ls hl => ?_)
  refine lv_goto (tgt := 2) hx hb dX0_takePath_29 (by decide) ?_
  exact hk2 (l0, l1, l2, (l3 + 1), h) hq H locs ls hR hS (hl.sub [1, 2, 3, 0] rfl)
def f_X0_takePath_2  (l0 : Option Nat) (l1 : Option Nat) (l2 : Option Nat) (l3 : Int32) (h : Hp) : Option (Unit × Hp) :=
  lp (fun (k2 : Option Nat × Option Nat × Option Nat × Int32 × Hp → Option (Unit × Hp)) (u : Option Nat × Option Nat × Option Nat × Int32 × Hp) => fb_X0_takePath_2 k2 u.1 u.2.1 u.2.2.1 u.2.2.2.1 u.2.2.2.2) FU (l0, l1, l2, l3, h)
theorem t_X0_takePath_2 (Z : ZZ p s m args c cX0_takePath RX0 4 G) (hr : meth.sig.returnType = none) (hlk : meth.locks = false) (hin : meth.name = "takePath") {v : Unit} {h1 : Hp} : ∀ (l0 : Option Nat) (l1 : Option Nat) (l2 : Option Nat) (l3 : Int32) (h : Hp) (H : Heap) (locs : List Loc) (ls : Array Slot), f_X0_takePath_2 l0 l1 l2 l3 h = some (v, h1) → Rep G h H → va_S (AA G) s.heap H locs → LV ls 4 [(0, va_rf l0), (1, va_rf l1), (2, va_rf l2), (3, .int l3)] → W p l e rm_X0_takePath s m args below meth c H locs 0 0 (MQ below (Qx G none h1) args s 0 0 (AA G)) (F0 m 2 ls []) := by
  intro l0 l1 l2 l3 h H locs ls hq hR hS hl
  exact lp_ind (P := fun u : Option Nat × Option Nat × Option Nat × Int32 × Hp => ∀ (H : Heap) (locs : List Loc) (ls : Array Slot), Rep G u.2.2.2.2 H → va_S (AA G) s.heap H locs → LV ls 4 [(0, va_rf u.1), (1, va_rf u.2.1), (2, va_rf u.2.2.1), (3, .int u.2.2.2.1)] → W p l e rm_X0_takePath s m args below meth c H locs 0 0 (MQ below (Qx G none h1) args s 0 0 (AA G)) (F0 m 2 ls [])) (fun k hk u hq H locs ls hR hS hl => tb_X0_takePath_2 Z hr hlk hin hk u.1 u.2.1 u.2.2.1 u.2.2.2.1 u.2.2.2.2 H locs ls hq hR hS hl) FU (l0, l1, l2, l3, h) hq H locs ls hR hS hl
def f_X0_takePath (this : Nat) (a0 : Option Nat) (a1 : Option Nat) (h : Hp) : Option (Unit × Hp) :=
f_X0_takePath_2 (some this) a0 a1 0 h
set_option maxHeartbeats 4000000 in
set_option maxRecDepth 100000 in
theorem c_X0_takePath (l : Launch) {G : GG} (this : Nat) (a0 : Option Nat) (a1 : Option Nat) (h : Hp) (v : Unit) (h1 : Hp) (hq : f_X0_takePath this a0 a1 h = some (v, h1)) : Met l yX0_takePath (Cond.code yX0_takePath cX0_takePath 4 none :: GT) rm_X0_takePath (va_Pc [.ref this, va_rf a0, va_rf a1] (Cn G h)) (Qx G none h1) 0 0 (AA G) := by
  refine xMet (cc := cX0_takePath) (by decide) (Nat.le_of_ble_eq_true rfl) (List.forall_mem_cons.mpr ⟨rfl, (List.forall_mem_cons.mpr ⟨(rf_cat a0), (List.forall_mem_cons.mpr ⟨(rf_cat a1), (fun _ z => by cases z)⟩)⟩)⟩) ?_
  intro p e s m below meth c ls Z hr hlk hin hR hS hl
  have hx := Z.1
  have hb := Z.2.1
  have hl : LV ls 4 [(0, va_rf (some this)), (1, va_rf a0), (2, va_rf a1)] := hl
  unfold f_X0_takePath at hq
  refine lv_iconst (v := 0) hx hb dX0_takePath_0 (by decide) ?_
  refine xisn hx hb hl (x := 0) (lv' := [(3, .int 0), (0, va_rf (some this)), (1, va_rf a0), (2, va_rf a1)]) (by decide) dX0_takePath_1 rfl (fun ls hl => ?_)
  exact t_X0_takePath_2 Z hr hlk hin (some this) a0 a1 0 h _ _ ls hq hR hS (hl.sub [1, 2, 3, 0] rfl)
abbrev rm_X0_steps : Room := { frames := 0, cells := 0, slots := 0, locals := 0 }
def f_X0_steps_32  (s0 : Int32) (h : Hp) : Option (Int32 × Hp) :=
rtI s0 h
set_option maxHeartbeats 4000000 in
set_option maxRecDepth 100000 in
theorem t_X0_steps_32 (Z : ZZ p s m args c cX0_steps RX0 1 G) (hr : meth.sig.returnType = (some .int)) (hlk : meth.locks = false) (hin : meth.name = "steps") {v : Int32} {h1 : Hp} : ∀ (s0 : Int32) (h : Hp) (H : Heap) (locs : List Loc) (ls : Array Slot), f_X0_steps_32 s0 h = some (v, h1) → Rep G h H → va_S (AA G) s.heap H locs → LV ls 1 [] → W p l e rm_X0_steps s m args below meth c H locs 0 0 (MQ below (Qx G (some (.int v)) h1) args s 0 0 (AA G)) (F0 m 32 ls [.int s0]) := by
  intro s0 h H locs ls hq hR hS hl
  have hx := Z.1
  have hb := Z.2.1
  unfold f_X0_steps_32 at hq
  exact xrI hx hb hr hlk hR hS hq (by decide) (by decide) dX0_steps_32
def f_X0_steps (this : Nat) (h : Hp) : Option (Int32 × Hp) :=
gI h (some this) 1 3 (fun x1 =>
gI h (some this) 1 2 (fun x5 =>
(if x1 ≤ x5 then
gI h (some this) 1 2 (fun x24 =>
gI h (some this) 1 3 (fun x28 =>
f_X0_steps_32 (x24 - x28) h))
else
gI h (some this) 1 3 (fun x12 =>
gI h (some this) 1 2 (fun x16 =>
f_X0_steps_32 (x12 - x16) h)))))
set_option maxHeartbeats 4000000 in
set_option maxRecDepth 100000 in
theorem c_X0_steps (l : Launch) {G : GG} (this : Nat) (h : Hp) (v : Int32) (h1 : Hp) (hq : f_X0_steps this h = some (v, h1)) : Met l yX0_steps (Cond.code yX0_steps cX0_steps 1 (some .int) :: GT) rm_X0_steps (va_Pc [.ref this] (Cn G h)) (Qx G (some (.int v)) h1) 0 0 (AA G) := by
  refine xMet (cc := cX0_steps) (by decide) (Nat.le_of_ble_eq_true rfl) (List.forall_mem_cons.mpr ⟨rfl, (fun _ z => by cases z)⟩) ?_
  intro p e s m below meth c ls Z hr hlk hin hR hS hl
  have hx := Z.1
  have hb := Z.2.1
  have hl : LV ls 1 [(0, va_rf (some this))] := hl
  unfold f_X0_steps at hq
  refine xaln hx hb hl (x := (some this)) 0 rfl dX0_steps_0 ?_
  refine xgI Z hR hq fl_X0_34 rfl dX0_steps_1 (fun x1 hq => ?_)
  refine xaln hx hb hl (x := (some this)) 0 rfl dX0_steps_4 ?_
  refine xgI Z hR hq fl_X0_31 rfl dX0_steps_5 (fun x5 hq => ?_)
  refine xcLe hx hb hq (tgt := 23) dX0_steps_8 (by decide) (fun hq => ?_) (fun hq => ?_)
  · refine xaln hx hb hl (x := (some this)) 0 rfl dX0_steps_23 ?_
    refine xgI Z hR hq fl_X0_31 rfl dX0_steps_24 (fun x24 hq => ?_)
    refine xaln hx hb hl (x := (some this)) 0 rfl dX0_steps_27 ?_
    refine xgI Z hR hq fl_X0_34 rfl dX0_steps_28 (fun x28 hq => ?_)
    refine lv_isub hx hb dX0_steps_31 ?_
    exact t_X0_steps_32 Z hr hlk hin (x24 - x28) h _ _ ls hq hR hS (hl.sub [] rfl)
  refine xaln hx hb hl (x := (some this)) 0 rfl dX0_steps_11 ?_
  refine xgI Z hR hq fl_X0_34 rfl dX0_steps_12 (fun x12 hq => ?_)
  refine xaln hx hb hl (x := (some this)) 0 rfl dX0_steps_15 ?_
  refine xgI Z hR hq fl_X0_31 rfl dX0_steps_16 (fun x16 hq => ?_)
  refine lv_isub hx hb dX0_steps_19 ?_
  refine lv_goto (tgt := 32) hx hb dX0_steps_20 (by decide) ?_
  exact t_X0_steps_32 Z hr hlk hin (x12 - x16) h _ _ ls hq hR hS (hl.sub [] rfl)
abbrev rm_X0_way : Room := { frames := 0, cells := 0, slots := 0, locals := 0 }
def f_X0_way_16  (s0 : Int32) (h : Hp) : Option (Int32 × Hp) :=
rtI s0 h
set_option maxHeartbeats 4000000 in
set_option maxRecDepth 100000 in
theorem t_X0_way_16 (Z : ZZ p s m args c cX0_way RX0 1 G) (hr : meth.sig.returnType = (some .int)) (hlk : meth.locks = false) (hin : meth.name = "way") {v : Int32} {h1 : Hp} : ∀ (s0 : Int32) (h : Hp) (H : Heap) (locs : List Loc) (ls : Array Slot), f_X0_way_16 s0 h = some (v, h1) → Rep G h H → va_S (AA G) s.heap H locs → LV ls 1 [] → W p l e rm_X0_way s m args below meth c H locs 0 0 (MQ below (Qx G (some (.int v)) h1) args s 0 0 (AA G)) (F0 m 16 ls [.int s0]) := by
  intro s0 h H locs ls hq hR hS hl
  have hx := Z.1
  have hb := Z.2.1
  unfold f_X0_way_16 at hq
  exact xrI hx hb hr hlk hR hS hq (by decide) (by decide) dX0_way_16
def f_X0_way (this : Nat) (h : Hp) : Option (Int32 × Hp) :=
gI h (some this) 1 3 (fun x1 =>
gI h (some this) 1 2 (fun x5 =>
(if x1 ≤ x5 then
f_X0_way_16 (-1) h
else
f_X0_way_16 1 h)))
set_option maxHeartbeats 4000000 in
set_option maxRecDepth 100000 in
theorem c_X0_way (l : Launch) {G : GG} (this : Nat) (h : Hp) (v : Int32) (h1 : Hp) (hq : f_X0_way this h = some (v, h1)) : Met l yX0_way (Cond.code yX0_way cX0_way 1 (some .int) :: GT) rm_X0_way (va_Pc [.ref this] (Cn G h)) (Qx G (some (.int v)) h1) 0 0 (AA G) := by
  refine xMet (cc := cX0_way) (by decide) (Nat.le_of_ble_eq_true rfl) (List.forall_mem_cons.mpr ⟨rfl, (fun _ z => by cases z)⟩) ?_
  intro p e s m below meth c ls Z hr hlk hin hR hS hl
  have hx := Z.1
  have hb := Z.2.1
  have hl : LV ls 1 [(0, va_rf (some this))] := hl
  unfold f_X0_way at hq
  refine xaln hx hb hl (x := (some this)) 0 rfl dX0_way_0 ?_
  refine xgI Z hR hq fl_X0_34 rfl dX0_way_1 (fun x1 hq => ?_)
  refine xaln hx hb hl (x := (some this)) 0 rfl dX0_way_4 ?_
  refine xgI Z hR hq fl_X0_31 rfl dX0_way_5 (fun x5 hq => ?_)
  refine xcLe hx hb hq (tgt := 15) dX0_way_8 (by decide) (fun hq => ?_) (fun hq => ?_)
  · refine lv_iconst (v := (-1)) hx hb dX0_way_15 (by decide) ?_
    exact t_X0_way_16 Z hr hlk hin (-1) h _ _ ls hq hR hS (hl.sub [] rfl)
  refine lv_iconst (v := 1) hx hb dX0_way_11 (by decide) ?_
  refine lv_goto (tgt := 16) hx hb dX0_way_12 (by decide) ?_
  exact t_X0_way_16 Z hr hlk hin 1 h _ _ ls hq hR hS (hl.sub [] rfl)
abbrev rm_X0_stationAt : Room := { frames := 1, cells := 0, slots := 0, locals := 20 }
def f_X0_stationAt (this : Nat) (a0 : Int32) (h : Hp) : Option (Int32 × Hp) :=
gI h (some this) 1 2 (fun x1 =>
rcv h (some this) 1 (fun b5 => bd (f_X0_way b5 h) (fun x5 h =>
rtI (x1 + (x5 * a0)) h)))
set_option maxHeartbeats 4000000 in
set_option maxRecDepth 100000 in
theorem c_X0_stationAt (l : Launch) {G : GG} (this : Nat) (a0 : Int32) (h : Hp) (v : Int32) (h1 : Hp) (hq : f_X0_stationAt this a0 h = some (v, h1)) : Met l yX0_stationAt (Cond.code yX0_stationAt cX0_stationAt 2 (some .int) :: GT) rm_X0_stationAt (va_Pc [.ref this, .int a0] (Cn G h)) (Qx G (some (.int v)) h1) 0 0 (AA G) := by
  refine xMet (cc := cX0_stationAt) (by decide) (Nat.le_of_ble_eq_true rfl) (List.forall_mem_cons.mpr ⟨rfl, (List.forall_mem_cons.mpr ⟨rfl, (fun _ z => by cases z)⟩)⟩) ?_
  intro p e s m below meth c ls Z hr hlk hin hR hS hl
  have hx := Z.1
  have hb := Z.2.1
  have hl : LV ls 2 [(0, va_rf (some this)), (1, .int a0)] := hl
  unfold f_X0_stationAt at hq
  refine xaln hx hb hl (x := (some this)) 0 rfl dX0_stationAt_0 ?_
  refine xgI Z hR hq fl_X0_31 rfl dX0_stationAt_1 (fun x1 hq => ?_)
  refine xaln hx hb hl (x := (some this)) 0 rfl dX0_stationAt_4 ?_
  refine xcV Z hR hS hl (rest := [.int x1]) (As := []) hq cl_X0_56 (fun b x h1 hc => c_X0_way l b h x h1 hc) ⟨⟨rfl, rfl⟩, (by decide), (by decide)⟩ rfl rfl (by first | decide | (simp only [List.map_cons, List.map_nil, rf_cat, ct_int, ct_ref, List.sum_cons, List.sum_nil] <;> decide)) dX0_stationAt_5 (by decide) (fun x5 h H locs hq hR hS => ?_)
  refine xiln hx hb hl (x := a0) 1 rfl dX0_stationAt_8 ?_
  refine lv_imul hx hb dX0_stationAt_9 ?_
  refine lv_iadd hx hb dX0_stationAt_10 ?_
  exact xrI hx hb hr hlk hR hS hq (by decide) (by decide) dX0_stationAt_11
abbrev rm_X0_sectionAt : Room := { frames := 0, cells := 0, slots := 0, locals := 0 }
def f_X0_sectionAt_28  (s0 : Int32) (h : Hp) : Option (Int32 × Hp) :=
rtI s0 h
set_option maxHeartbeats 4000000 in
set_option maxRecDepth 100000 in
theorem t_X0_sectionAt_28 (Z : ZZ p s m args c cX0_sectionAt RX0 2 G) (hr : meth.sig.returnType = (some .int)) (hlk : meth.locks = false) (hin : meth.name = "sectionAt") {v : Int32} {h1 : Hp} : ∀ (s0 : Int32) (h : Hp) (H : Heap) (locs : List Loc) (ls : Array Slot), f_X0_sectionAt_28 s0 h = some (v, h1) → Rep G h H → va_S (AA G) s.heap H locs → LV ls 2 [] → W p l e rm_X0_sectionAt s m args below meth c H locs 0 0 (MQ below (Qx G (some (.int v)) h1) args s 0 0 (AA G)) (F0 m 28 ls [.int s0]) := by
  intro s0 h H locs ls hq hR hS hl
  have hx := Z.1
  have hb := Z.2.1
  unfold f_X0_sectionAt_28 at hq
  exact xrI hx hb hr hlk hR hS hq (by decide) (by decide) dX0_sectionAt_28
def f_X0_sectionAt (this : Nat) (a0 : Int32) (h : Hp) : Option (Int32 × Hp) :=
gI h (some this) 1 3 (fun x1 =>
gI h (some this) 1 2 (fun x5 =>
(if x1 ≤ x5 then
gI h (some this) 1 2 (fun x21 =>
f_X0_sectionAt_28 ((x21 - a0) - 1) h)
else
gI h (some this) 1 2 (fun x12 =>
f_X0_sectionAt_28 (x12 + a0) h))))
set_option maxHeartbeats 4000000 in
set_option maxRecDepth 100000 in
theorem c_X0_sectionAt (l : Launch) {G : GG} (this : Nat) (a0 : Int32) (h : Hp) (v : Int32) (h1 : Hp) (hq : f_X0_sectionAt this a0 h = some (v, h1)) : Met l yX0_sectionAt (Cond.code yX0_sectionAt cX0_sectionAt 2 (some .int) :: GT) rm_X0_sectionAt (va_Pc [.ref this, .int a0] (Cn G h)) (Qx G (some (.int v)) h1) 0 0 (AA G) := by
  refine xMet (cc := cX0_sectionAt) (by decide) (Nat.le_of_ble_eq_true rfl) (List.forall_mem_cons.mpr ⟨rfl, (List.forall_mem_cons.mpr ⟨rfl, (fun _ z => by cases z)⟩)⟩) ?_
  intro p e s m below meth c ls Z hr hlk hin hR hS hl
  have hx := Z.1
  have hb := Z.2.1
  have hl : LV ls 2 [(0, va_rf (some this)), (1, .int a0)] := hl
  unfold f_X0_sectionAt at hq
  refine xaln hx hb hl (x := (some this)) 0 rfl dX0_sectionAt_0 ?_
  refine xgI Z hR hq fl_X0_34 rfl dX0_sectionAt_1 (fun x1 hq => ?_)
  refine xaln hx hb hl (x := (some this)) 0 rfl dX0_sectionAt_4 ?_
  refine xgI Z hR hq fl_X0_31 rfl dX0_sectionAt_5 (fun x5 hq => ?_)
  refine xcLe hx hb hq (tgt := 20) dX0_sectionAt_8 (by decide) (fun hq => ?_) (fun hq => ?_)
  · refine xaln hx hb hl (x := (some this)) 0 rfl dX0_sectionAt_20 ?_
    refine xgI Z hR hq fl_X0_31 rfl dX0_sectionAt_21 (fun x21 hq => ?_)
    refine xiln hx hb hl (x := a0) 1 rfl dX0_sectionAt_24 ?_
    refine lv_isub hx hb dX0_sectionAt_25 ?_
    refine lv_iconst (v := 1) hx hb dX0_sectionAt_26 (by decide) ?_
    refine lv_isub hx hb dX0_sectionAt_27 ?_
    exact t_X0_sectionAt_28 Z hr hlk hin ((x21 - a0) - 1) h _ _ ls hq hR hS (hl.sub [] rfl)
  refine xaln hx hb hl (x := (some this)) 0 rfl dX0_sectionAt_11 ?_
  refine xgI Z hR hq fl_X0_31 rfl dX0_sectionAt_12 (fun x12 hq => ?_)
  refine xiln hx hb hl (x := a0) 1 rfl dX0_sectionAt_15 ?_
  refine lv_iadd hx hb dX0_sectionAt_16 ?_
  refine lv_goto (tgt := 28) hx hb dX0_sectionAt_17 (by decide) ?_
  exact t_X0_sectionAt_28 Z hr hlk hin (x12 + a0) h _ _ ls hq hR hS (hl.sub [] rfl)
abbrev rm_X0_stepAtStation : Room := { frames := 0, cells := 0, slots := 0, locals := 0 }
def f_X0_stepAtStation_37  (s0 : Int32) (h : Hp) : Option (Int32 × Hp) :=
rtI s0 h
set_option maxHeartbeats 4000000 in
set_option maxRecDepth 100000 in
theorem t_X0_stepAtStation_37 (Z : ZZ p s m args c cX0_stepAtStation RX0 2 G) (hr : meth.sig.returnType = (some .int)) (hlk : meth.locks = false) (hin : meth.name = "stepAtStation") {v : Int32} {h1 : Hp} : ∀ (s0 : Int32) (h : Hp) (H : Heap) (locs : List Loc) (ls : Array Slot), f_X0_stepAtStation_37 s0 h = some (v, h1) → Rep G h H → va_S (AA G) s.heap H locs → LV ls 2 [] → W p l e rm_X0_stepAtStation s m args below meth c H locs 0 0 (MQ below (Qx G (some (.int v)) h1) args s 0 0 (AA G)) (F0 m 37 ls [.int s0]) := by
  intro s0 h H locs ls hq hR hS hl
  have hx := Z.1
  have hb := Z.2.1
  unfold f_X0_stepAtStation_37 at hq
  exact xrI hx hb hr hlk hR hS hq (by decide) (by decide) dX0_stepAtStation_37
def f_X0_stepAtStation_36   (h : Hp) : Option (Int32 × Hp) :=
f_X0_stepAtStation_37 (-1) h
set_option maxHeartbeats 4000000 in
set_option maxRecDepth 100000 in
theorem t_X0_stepAtStation_36 (Z : ZZ p s m args c cX0_stepAtStation RX0 2 G) (hr : meth.sig.returnType = (some .int)) (hlk : meth.locks = false) (hin : meth.name = "stepAtStation") {v : Int32} {h1 : Hp} : ∀  (h : Hp) (H : Heap) (locs : List Loc) (ls : Array Slot), f_X0_stepAtStation_36  h = some (v, h1) → Rep G h H → va_S (AA G) s.heap H locs → LV ls 2 [] → W p l e rm_X0_stepAtStation s m args below meth c H locs 0 0 (MQ below (Qx G (some (.int v)) h1) args s 0 0 (AA G)) (F0 m 36 ls []) := by
  intro  h H locs ls hq hR hS hl
  have hx := Z.1
  have hb := Z.2.1
  unfold f_X0_stepAtStation_36 at hq
  refine lv_iconst (v := (-1)) hx hb dX0_stepAtStation_36 (by decide) ?_
  exact t_X0_stepAtStation_37 Z hr hlk hin (-1) h H locs ls hq hR hS (hl.sub [] rfl)
def f_X0_stepAtStation_64  (s0 : Int32) (h : Hp) : Option (Int32 × Hp) :=
rtI s0 h
set_option maxHeartbeats 4000000 in
set_option maxRecDepth 100000 in
theorem t_X0_stepAtStation_64 (Z : ZZ p s m args c cX0_stepAtStation RX0 2 G) (hr : meth.sig.returnType = (some .int)) (hlk : meth.locks = false) (hin : meth.name = "stepAtStation") {v : Int32} {h1 : Hp} : ∀ (s0 : Int32) (h : Hp) (H : Heap) (locs : List Loc) (ls : Array Slot), f_X0_stepAtStation_64 s0 h = some (v, h1) → Rep G h H → va_S (AA G) s.heap H locs → LV ls 2 [] → W p l e rm_X0_stepAtStation s m args below meth c H locs 0 0 (MQ below (Qx G (some (.int v)) h1) args s 0 0 (AA G)) (F0 m 64 ls [.int s0]) := by
  intro s0 h H locs ls hq hR hS hl
  have hx := Z.1
  have hb := Z.2.1
  unfold f_X0_stepAtStation_64 at hq
  exact xrI hx hb hr hlk hR hS hq (by decide) (by decide) dX0_stepAtStation_64
def f_X0_stepAtStation_63   (h : Hp) : Option (Int32 × Hp) :=
f_X0_stepAtStation_64 (-1) h
set_option maxHeartbeats 4000000 in
set_option maxRecDepth 100000 in
theorem t_X0_stepAtStation_63 (Z : ZZ p s m args c cX0_stepAtStation RX0 2 G) (hr : meth.sig.returnType = (some .int)) (hlk : meth.locks = false) (hin : meth.name = "stepAtStation") {v : Int32} {h1 : Hp} : ∀  (h : Hp) (H : Heap) (locs : List Loc) (ls : Array Slot), f_X0_stepAtStation_63  h = some (v, h1) → Rep G h H → va_S (AA G) s.heap H locs → LV ls 2 [] → W p l e rm_X0_stepAtStation s m args below meth c H locs 0 0 (MQ below (Qx G (some (.int v)) h1) args s 0 0 (AA G)) (F0 m 63 ls []) := by
  intro  h H locs ls hq hR hS hl
  have hx := Z.1
  have hb := Z.2.1
  unfold f_X0_stepAtStation_63 at hq
  refine lv_iconst (v := (-1)) hx hb dX0_stepAtStation_63 (by decide) ?_
  exact t_X0_stepAtStation_64 Z hr hlk hin (-1) h H locs ls hq hR hS (hl.sub [] rfl)
def f_X0_stepAtStation (this : Nat) (a0 : Int32) (h : Hp) : Option (Int32 × Hp) :=
gI h (some this) 1 3 (fun x1 =>
gI h (some this) 1 2 (fun x5 =>
(if x1 ≤ x5 then
gI h (some this) 1 3 (fun x40 =>
(if a0 < x40 then
f_X0_stepAtStation_63  h
else
gI h (some this) 1 2 (fun x48 =>
(if x48 < a0 then
f_X0_stepAtStation_63  h
else
gI h (some this) 1 2 (fun x55 =>
f_X0_stepAtStation_64 (x55 - a0) h)))))
else
gI h (some this) 1 2 (fun x13 =>
(if a0 < x13 then
f_X0_stepAtStation_36  h
else
gI h (some this) 1 3 (fun x21 =>
(if x21 < a0 then
f_X0_stepAtStation_36  h
else
gI h (some this) 1 2 (fun x29 =>
f_X0_stepAtStation_37 (a0 - x29) h))))))))
set_option maxHeartbeats 4000000 in
set_option maxRecDepth 100000 in
theorem c_X0_stepAtStation (l : Launch) {G : GG} (this : Nat) (a0 : Int32) (h : Hp) (v : Int32) (h1 : Hp) (hq : f_X0_stepAtStation this a0 h = some (v, h1)) : Met l yX0_stepAtStation (Cond.code yX0_stepAtStation cX0_stepAtStation 2 (some .int) :: GT) rm_X0_stepAtStation (va_Pc [.ref this, .int a0] (Cn G h)) (Qx G (some (.int v)) h1) 0 0 (AA G) := by
  refine xMet (cc := cX0_stepAtStation) (by decide) (Nat.le_of_ble_eq_true rfl) (List.forall_mem_cons.mpr ⟨rfl, (List.forall_mem_cons.mpr ⟨rfl, (fun _ z => by cases z)⟩)⟩) ?_
  intro p e s m below meth c ls Z hr hlk hin hR hS hl
  have hx := Z.1
  have hb := Z.2.1
  have hl : LV ls 2 [(0, va_rf (some this)), (1, .int a0)] := hl
  unfold f_X0_stepAtStation at hq
  refine xaln hx hb hl (x := (some this)) 0 rfl dX0_stepAtStation_0 ?_
  refine xgI Z hR hq fl_X0_34 rfl dX0_stepAtStation_1 (fun x1 hq => ?_)
  refine xaln hx hb hl (x := (some this)) 0 rfl dX0_stepAtStation_4 ?_
  refine xgI Z hR hq fl_X0_31 rfl dX0_stepAtStation_5 (fun x5 hq => ?_)
  refine xcLe hx hb hq (tgt := 38) dX0_stepAtStation_8 (by decide) (fun hq => ?_) (fun hq => ?_)
  · refine xiln hx hb hl (x := a0) 1 rfl dX0_stepAtStation_38 ?_
    refine xaln hx hb hl (x := (some this)) 0 rfl dX0_stepAtStation_39 ?_
    refine xgI Z hR hq fl_X0_34 rfl dX0_stepAtStation_40 (fun x40 hq => ?_)
    refine xcLt hx hb hq (tgt := 63) dX0_stepAtStation_43 (by decide) (fun hq => ?_) (fun hq => ?_)
    · exact t_X0_stepAtStation_63 Z hr hlk hin  h _ _ ls hq hR hS (hl.sub [] rfl)
    refine xiln hx hb hl (x := a0) 1 rfl dX0_stepAtStation_46 ?_
    refine xaln hx hb hl (x := (some this)) 0 rfl dX0_stepAtStation_47 ?_
    refine xgI Z hR hq fl_X0_31 rfl dX0_stepAtStation_48 (fun x48 hq => ?_)
    refine xcGt hx hb hq (tgt := 63) dX0_stepAtStation_51 (by decide) (fun hq => ?_) (fun hq => ?_)
    · exact t_X0_stepAtStation_63 Z hr hlk hin  h _ _ ls hq hR hS (hl.sub [] rfl)
    refine xaln hx hb hl (x := (some this)) 0 rfl dX0_stepAtStation_54 ?_
    refine xgI Z hR hq fl_X0_31 rfl dX0_stepAtStation_55 (fun x55 hq => ?_)
    refine xiln hx hb hl (x := a0) 1 rfl dX0_stepAtStation_58 ?_
    refine lv_isub hx hb dX0_stepAtStation_59 ?_
    refine lv_goto (tgt := 64) hx hb dX0_stepAtStation_60 (by decide) ?_
    exact t_X0_stepAtStation_64 Z hr hlk hin (x55 - a0) h _ _ ls hq hR hS (hl.sub [] rfl)
  refine xiln hx hb hl (x := a0) 1 rfl dX0_stepAtStation_11 ?_
  refine xaln hx hb hl (x := (some this)) 0 rfl dX0_stepAtStation_12 ?_
  refine xgI Z hR hq fl_X0_31 rfl dX0_stepAtStation_13 (fun x13 hq => ?_)
  refine xcLt hx hb hq (tgt := 36) dX0_stepAtStation_16 (by decide) (fun hq => ?_) (fun hq => ?_)
  · exact t_X0_stepAtStation_36 Z hr hlk hin  h _ _ ls hq hR hS (hl.sub [] rfl)
  refine xiln hx hb hl (x := a0) 1 rfl dX0_stepAtStation_19 ?_
  refine xaln hx hb hl (x := (some this)) 0 rfl dX0_stepAtStation_20 ?_
  refine xgI Z hR hq fl_X0_34 rfl dX0_stepAtStation_21 (fun x21 hq => ?_)
  refine xcGt hx hb hq (tgt := 36) dX0_stepAtStation_24 (by decide) (fun hq => ?_) (fun hq => ?_)
  · exact t_X0_stepAtStation_36 Z hr hlk hin  h _ _ ls hq hR hS (hl.sub [] rfl)
  refine xiln hx hb hl (x := a0) 1 rfl dX0_stepAtStation_27 ?_
  refine xaln hx hb hl (x := (some this)) 0 rfl dX0_stepAtStation_28 ?_
  refine xgI Z hR hq fl_X0_31 rfl dX0_stepAtStation_29 (fun x29 hq => ?_)
  refine lv_isub hx hb dX0_stepAtStation_32 ?_
  refine lv_goto (tgt := 37) hx hb dX0_stepAtStation_33 (by decide) ?_
  exact t_X0_stepAtStation_37 Z hr hlk hin (a0 - x29) h _ _ ls hq hR hS (hl.sub [] rfl)
abbrev rm_X0_stepInSection : Room := { frames := 0, cells := 0, slots := 0, locals := 0 }
def f_X0_stepInSection_37  (s0 : Int32) (h : Hp) : Option (Int32 × Hp) :=
rtI s0 h
set_option maxHeartbeats 4000000 in
set_option maxRecDepth 100000 in
theorem t_X0_stepInSection_37 (Z : ZZ p s m args c cX0_stepInSection RX0 2 G) (hr : meth.sig.returnType = (some .int)) (hlk : meth.locks = false) (hin : meth.name = "stepInSection") {v : Int32} {h1 : Hp} : ∀ (s0 : Int32) (h : Hp) (H : Heap) (locs : List Loc) (ls : Array Slot), f_X0_stepInSection_37 s0 h = some (v, h1) → Rep G h H → va_S (AA G) s.heap H locs → LV ls 2 [] → W p l e rm_X0_stepInSection s m args below meth c H locs 0 0 (MQ below (Qx G (some (.int v)) h1) args s 0 0 (AA G)) (F0 m 37 ls [.int s0]) := by
  intro s0 h H locs ls hq hR hS hl
  have hx := Z.1
  have hb := Z.2.1
  unfold f_X0_stepInSection_37 at hq
  exact xrI hx hb hr hlk hR hS hq (by decide) (by decide) dX0_stepInSection_37
def f_X0_stepInSection_36   (h : Hp) : Option (Int32 × Hp) :=
f_X0_stepInSection_37 (-1) h
set_option maxHeartbeats 4000000 in
set_option maxRecDepth 100000 in
theorem t_X0_stepInSection_36 (Z : ZZ p s m args c cX0_stepInSection RX0 2 G) (hr : meth.sig.returnType = (some .int)) (hlk : meth.locks = false) (hin : meth.name = "stepInSection") {v : Int32} {h1 : Hp} : ∀  (h : Hp) (H : Heap) (locs : List Loc) (ls : Array Slot), f_X0_stepInSection_36  h = some (v, h1) → Rep G h H → va_S (AA G) s.heap H locs → LV ls 2 [] → W p l e rm_X0_stepInSection s m args below meth c H locs 0 0 (MQ below (Qx G (some (.int v)) h1) args s 0 0 (AA G)) (F0 m 36 ls []) := by
  intro  h H locs ls hq hR hS hl
  have hx := Z.1
  have hb := Z.2.1
  unfold f_X0_stepInSection_36 at hq
  refine lv_iconst (v := (-1)) hx hb dX0_stepInSection_36 (by decide) ?_
  exact t_X0_stepInSection_37 Z hr hlk hin (-1) h H locs ls hq hR hS (hl.sub [] rfl)
def f_X0_stepInSection_66  (s0 : Int32) (h : Hp) : Option (Int32 × Hp) :=
rtI s0 h
set_option maxHeartbeats 4000000 in
set_option maxRecDepth 100000 in
theorem t_X0_stepInSection_66 (Z : ZZ p s m args c cX0_stepInSection RX0 2 G) (hr : meth.sig.returnType = (some .int)) (hlk : meth.locks = false) (hin : meth.name = "stepInSection") {v : Int32} {h1 : Hp} : ∀ (s0 : Int32) (h : Hp) (H : Heap) (locs : List Loc) (ls : Array Slot), f_X0_stepInSection_66 s0 h = some (v, h1) → Rep G h H → va_S (AA G) s.heap H locs → LV ls 2 [] → W p l e rm_X0_stepInSection s m args below meth c H locs 0 0 (MQ below (Qx G (some (.int v)) h1) args s 0 0 (AA G)) (F0 m 66 ls [.int s0]) := by
  intro s0 h H locs ls hq hR hS hl
  have hx := Z.1
  have hb := Z.2.1
  unfold f_X0_stepInSection_66 at hq
  exact xrI hx hb hr hlk hR hS hq (by decide) (by decide) dX0_stepInSection_66
def f_X0_stepInSection_65   (h : Hp) : Option (Int32 × Hp) :=
f_X0_stepInSection_66 (-1) h
set_option maxHeartbeats 4000000 in
set_option maxRecDepth 100000 in
theorem t_X0_stepInSection_65 (Z : ZZ p s m args c cX0_stepInSection RX0 2 G) (hr : meth.sig.returnType = (some .int)) (hlk : meth.locks = false) (hin : meth.name = "stepInSection") {v : Int32} {h1 : Hp} : ∀  (h : Hp) (H : Heap) (locs : List Loc) (ls : Array Slot), f_X0_stepInSection_65  h = some (v, h1) → Rep G h H → va_S (AA G) s.heap H locs → LV ls 2 [] → W p l e rm_X0_stepInSection s m args below meth c H locs 0 0 (MQ below (Qx G (some (.int v)) h1) args s 0 0 (AA G)) (F0 m 65 ls []) := by
  intro  h H locs ls hq hR hS hl
  have hx := Z.1
  have hb := Z.2.1
  unfold f_X0_stepInSection_65 at hq
  refine lv_iconst (v := (-1)) hx hb dX0_stepInSection_65 (by decide) ?_
  exact t_X0_stepInSection_66 Z hr hlk hin (-1) h H locs ls hq hR hS (hl.sub [] rfl)
def f_X0_stepInSection (this : Nat) (a0 : Int32) (h : Hp) : Option (Int32 × Hp) :=
gI h (some this) 1 3 (fun x1 =>
gI h (some this) 1 2 (fun x5 =>
(if x1 ≤ x5 then
gI h (some this) 1 3 (fun x40 =>
(if a0 < x40 then
f_X0_stepInSection_65  h
else
gI h (some this) 1 2 (fun x48 =>
(if x48 ≤ a0 then
f_X0_stepInSection_65  h
else
gI h (some this) 1 2 (fun x55 =>
f_X0_stepInSection_66 ((x55 - a0) - 1) h)))))
else
gI h (some this) 1 2 (fun x13 =>
(if a0 < x13 then
f_X0_stepInSection_36  h
else
gI h (some this) 1 3 (fun x21 =>
(if x21 ≤ a0 then
f_X0_stepInSection_36  h
else
gI h (some this) 1 2 (fun x29 =>
f_X0_stepInSection_37 (a0 - x29) h))))))))
set_option maxHeartbeats 4000000 in
set_option maxRecDepth 100000 in
theorem c_X0_stepInSection (l : Launch) {G : GG} (this : Nat) (a0 : Int32) (h : Hp) (v : Int32) (h1 : Hp) (hq : f_X0_stepInSection this a0 h = some (v, h1)) : Met l yX0_stepInSection (Cond.code yX0_stepInSection cX0_stepInSection 2 (some .int) :: GT) rm_X0_stepInSection (va_Pc [.ref this, .int a0] (Cn G h)) (Qx G (some (.int v)) h1) 0 0 (AA G) := by
  refine xMet (cc := cX0_stepInSection) (by decide) (Nat.le_of_ble_eq_true rfl) (List.forall_mem_cons.mpr ⟨rfl, (List.forall_mem_cons.mpr ⟨rfl, (fun _ z => by cases z)⟩)⟩) ?_
  intro p e s m below meth c ls Z hr hlk hin hR hS hl
  have hx := Z.1
  have hb := Z.2.1
  have hl : LV ls 2 [(0, va_rf (some this)), (1, .int a0)] := hl
  unfold f_X0_stepInSection at hq
  refine xaln hx hb hl (x := (some this)) 0 rfl dX0_stepInSection_0 ?_
  refine xgI Z hR hq fl_X0_34 rfl dX0_stepInSection_1 (fun x1 hq => ?_)
  refine xaln hx hb hl (x := (some this)) 0 rfl dX0_stepInSection_4 ?_
  refine xgI Z hR hq fl_X0_31 rfl dX0_stepInSection_5 (fun x5 hq => ?_)
  refine xcLe hx hb hq (tgt := 38) dX0_stepInSection_8 (by decide) (fun hq => ?_) (fun hq => ?_)
  · refine xiln hx hb hl (x := a0) 1 rfl dX0_stepInSection_38 ?_
    refine xaln hx hb hl (x := (some this)) 0 rfl dX0_stepInSection_39 ?_
    refine xgI Z hR hq fl_X0_34 rfl dX0_stepInSection_40 (fun x40 hq => ?_)
    refine xcLt hx hb hq (tgt := 65) dX0_stepInSection_43 (by decide) (fun hq => ?_) (fun hq => ?_)
    · exact t_X0_stepInSection_65 Z hr hlk hin  h _ _ ls hq hR hS (hl.sub [] rfl)
    refine xiln hx hb hl (x := a0) 1 rfl dX0_stepInSection_46 ?_
    refine xaln hx hb hl (x := (some this)) 0 rfl dX0_stepInSection_47 ?_
    refine xgI Z hR hq fl_X0_31 rfl dX0_stepInSection_48 (fun x48 hq => ?_)
    refine xcGe hx hb hq (tgt := 65) dX0_stepInSection_51 (by decide) (fun hq => ?_) (fun hq => ?_)
    · exact t_X0_stepInSection_65 Z hr hlk hin  h _ _ ls hq hR hS (hl.sub [] rfl)
    refine xaln hx hb hl (x := (some this)) 0 rfl dX0_stepInSection_54 ?_
    refine xgI Z hR hq fl_X0_31 rfl dX0_stepInSection_55 (fun x55 hq => ?_)
    refine xiln hx hb hl (x := a0) 1 rfl dX0_stepInSection_58 ?_
    refine lv_isub hx hb dX0_stepInSection_59 ?_
    refine lv_iconst (v := 1) hx hb dX0_stepInSection_60 (by decide) ?_
    refine lv_isub hx hb dX0_stepInSection_61 ?_
    refine lv_goto (tgt := 66) hx hb dX0_stepInSection_62 (by decide) ?_
    exact t_X0_stepInSection_66 Z hr hlk hin ((x55 - a0) - 1) h _ _ ls hq hR hS (hl.sub [] rfl)
  refine xiln hx hb hl (x := a0) 1 rfl dX0_stepInSection_11 ?_
  refine xaln hx hb hl (x := (some this)) 0 rfl dX0_stepInSection_12 ?_
  refine xgI Z hR hq fl_X0_31 rfl dX0_stepInSection_13 (fun x13 hq => ?_)
  refine xcLt hx hb hq (tgt := 36) dX0_stepInSection_16 (by decide) (fun hq => ?_) (fun hq => ?_)
  · exact t_X0_stepInSection_36 Z hr hlk hin  h _ _ ls hq hR hS (hl.sub [] rfl)
  refine xiln hx hb hl (x := a0) 1 rfl dX0_stepInSection_19 ?_
  refine xaln hx hb hl (x := (some this)) 0 rfl dX0_stepInSection_20 ?_
  refine xgI Z hR hq fl_X0_34 rfl dX0_stepInSection_21 (fun x21 hq => ?_)
  refine xcGe hx hb hq (tgt := 36) dX0_stepInSection_24 (by decide) (fun hq => ?_) (fun hq => ?_)
  · exact t_X0_stepInSection_36 Z hr hlk hin  h _ _ ls hq hR hS (hl.sub [] rfl)
  refine xiln hx hb hl (x := a0) 1 rfl dX0_stepInSection_27 ?_
  refine xaln hx hb hl (x := (some this)) 0 rfl dX0_stepInSection_28 ?_
  refine xgI Z hR hq fl_X0_31 rfl dX0_stepInSection_29 (fun x29 hq => ?_)
  refine lv_isub hx hb dX0_stepInSection_32 ?_
  refine lv_goto (tgt := 37) hx hb dX0_stepInSection_33 (by decide) ?_
  exact t_X0_stepInSection_37 Z hr hlk hin (a0 - x29) h _ _ ls hq hR hS (hl.sub [] rfl)
end
