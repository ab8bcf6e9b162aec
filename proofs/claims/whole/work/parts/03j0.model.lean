theorem fl_X8_9 : FL RX8 9 9 1 := ⟨_, TX8, 34, "FreightPathsModel", rfl, by decide, by decide +kernel, Or.inl rfl⟩
theorem fl_X8_13 : FL RX8 13 9 2 := ⟨_, TX8, 34, "FreightPathsModel", rfl, by decide, by decide +kernel, Or.inl rfl⟩
theorem fl_X8_17 : FL RX8 17 9 3 := ⟨_, TX8, 34, "FreightPathsModel", rfl, by decide, by decide +kernel, Or.inl rfl⟩
theorem fl_X8_20 : FL RX8 20 9 4 := ⟨_, TX8, 34, "FreightPathsModel", rfl, by decide, by decide +kernel, Or.inl rfl⟩
theorem fl_X8_24 : FL RX8 24 9 6 := ⟨_, TX8, 34, "FreightPathsModel", rfl, by decide, by decide +kernel, Or.inl rfl⟩
theorem fl_X8_27 : FL RX8 27 9 7 := ⟨_, TX8, 34, "FreightPathsModel", rfl, by decide, by decide +kernel, Or.inl rfl⟩
theorem fl_X8_30 : FL RX8 30 9 8 := ⟨_, TX8, 34, "FreightPathsModel", rfl, by decide, by decide +kernel, Or.inl rfl⟩
theorem fl_X8_33 : FL RX8 33 9 10 := ⟨_, TX8, 34, "FreightPathsModel", rfl, by decide, by decide +kernel, Or.inl rfl⟩
theorem fl_X8_36 : FL RX8 36 9 11 := ⟨_, TX8, 34, "FreightPathsModel", rfl, by decide, by decide +kernel, Or.inl rfl⟩
theorem fl_X8_39 : FL RX8 39 9 12 := ⟨_, TX8, 34, "FreightPathsModel", rfl, by decide, by decide +kernel, Or.inl rfl⟩
theorem fl_X8_42 : FL RX8 42 9 13 := ⟨_, TX8, 34, "FreightPathsModel", rfl, by decide, by decide +kernel, Or.inl rfl⟩
theorem fl_X8_45 : FL RX8 45 9 14 := ⟨_, TX8, 34, "FreightPathsModel", rfl, by decide, by decide +kernel, Or.inl rfl⟩
theorem fl_X8_48 : FL RX8 48 9 15 := ⟨_, TX8, 34, "FreightPathsModel", rfl, by decide, by decide +kernel, Or.inl rfl⟩
theorem fl_X8_51 : FL RX8 51 9 16 := ⟨_, TX8, 34, "FreightPathsModel", rfl, by decide, by decide +kernel, Or.inl rfl⟩
theorem fl_X8_54 : FL RX8 54 9 17 := ⟨_, TX8, 34, "FreightPathsModel", rfl, by decide, by decide +kernel, Or.inl rfl⟩
theorem fl_X8_57 : FL RX8 57 9 18 := ⟨_, TX8, 34, "FreightPathsModel", rfl, by decide, by decide +kernel, Or.inl rfl⟩
theorem fl_X8_60 : FL RX8 60 9 19 := ⟨_, TX8, 34, "FreightPathsModel", rfl, by decide, by decide +kernel, Or.inl rfl⟩
theorem fl_X8_63 : FL RX8 63 9 20 := ⟨_, TX8, 34, "FreightPathsModel", rfl, by decide, by decide +kernel, Or.inl rfl⟩
theorem fl_X8_66 : FL RX8 66 9 21 := ⟨_, TX8, 34, "FreightPathsModel", rfl, by decide, by decide +kernel, Or.inl rfl⟩
theorem fl_X8_69 : FL RX8 69 9 22 := ⟨_, TX8, 34, "FreightPathsModel", rfl, by decide, by decide +kernel, Or.inl rfl⟩
theorem fl_X8_72 : FL RX8 72 9 23 := ⟨_, TX8, 34, "FreightPathsModel", rfl, by decide, by decide +kernel, Or.inl rfl⟩
theorem fl_X8_75 : FL RX8 75 9 24 := ⟨_, TX8, 34, "FreightPathsModel", rfl, by decide, by decide +kernel, Or.inl rfl⟩
theorem fl_X8_78 : FL RX8 78 9 25 := ⟨_, TX8, 34, "FreightPathsModel", rfl, by decide, by decide +kernel, Or.inl rfl⟩
theorem fl_X8_81 : FL RX8 81 9 26 := ⟨_, TX8, 34, "FreightPathsModel", rfl, by decide, by decide +kernel, Or.inl rfl⟩
theorem fl_X8_84 : FL RX8 84 9 27 := ⟨_, TX8, 34, "FreightPathsModel", rfl, by decide, by decide +kernel, Or.inl rfl⟩
theorem fl_X8_87 : FL RX8 87 9 28 := ⟨_, TX8, 34, "FreightPathsModel", rfl, by decide, by decide +kernel, Or.inl rfl⟩
theorem fl_X8_90 : FL RX8 90 9 29 := ⟨_, TX8, 34, "FreightPathsModel", rfl, by decide, by decide +kernel, Or.inl rfl⟩
theorem fl_X8_93 : FL RX8 93 9 30 := ⟨_, TX8, 34, "FreightPathsModel", rfl, by decide, by decide +kernel, Or.inl rfl⟩
theorem fl_X8_96 : FL RX8 96 9 31 := ⟨_, TX8, 34, "FreightPathsModel", rfl, by decide, by decide +kernel, Or.inl rfl⟩
theorem fl_X8_99 : FL RX8 99 9 32 := ⟨_, TX8, 34, "FreightPathsModel", rfl, by decide, by decide +kernel, Or.inl rfl⟩
theorem fl_X8_102 : FL RX8 102 9 33 := ⟨_, TX8, 34, "FreightPathsModel", rfl, by decide, by decide +kernel, Or.inl rfl⟩
theorem fl_X8_105 : FL RX8 105 9 0 := ⟨_, TX8, 34, "FreightPathsModel", rfl, by decide, by decide +kernel, Or.inl rfl⟩
theorem fl_X8_108 : FL RX8 108 9 9 := ⟨_, TX8, 34, "FreightPathsModel", rfl, by decide, by decide +kernel, Or.inl rfl⟩
theorem fl_X8_115 : FL RX8 115 9 5 := ⟨_, TX8, 34, "FreightPathsModel", rfl, by decide, by decide +kernel, Or.inl rfl⟩
theorem if_X8_9_0 : iF RX8 9 0 := fun _ _ _ z => by cases z; exact ⟨rfl, rfl⟩
theorem if_X8_9_1 : iF RX8 9 1 := fun _ _ _ z => by cases z; exact ⟨rfl, rfl⟩
theorem if_X8_9_2 : iF RX8 9 2 := fun _ _ _ z => by cases z; exact ⟨rfl, rfl⟩
theorem if_X8_9_3 : iF RX8 9 3 := fun _ _ _ z => by cases z; exact ⟨rfl, rfl⟩
theorem nf_9_4 : nF 9 4 := fun _ _ _ z => by cases z; rfl
theorem nf_9_5 : nF 9 5 := fun _ _ _ z => by cases z; rfl
theorem if_X8_9_6 : iF RX8 9 6 := fun _ _ _ z => by cases z; exact ⟨rfl, rfl⟩
theorem if_X8_9_7 : iF RX8 9 7 := fun _ _ _ z => by cases z; exact ⟨rfl, rfl⟩
theorem if_X8_9_8 : iF RX8 9 8 := fun _ _ _ z => by cases z; exact ⟨rfl, rfl⟩
theorem nf_9_9 : nF 9 9 := fun _ _ _ z => by cases z; rfl
theorem if_X8_9_10 : iF RX8 9 10 := fun _ _ _ z => by cases z; exact ⟨rfl, rfl⟩
theorem if_X8_9_11 : iF RX8 9 11 := fun _ _ _ z => by cases z; exact ⟨rfl, rfl⟩
theorem if_X8_9_12 : iF RX8 9 12 := fun _ _ _ z => by cases z; exact ⟨rfl, rfl⟩
theorem if_X8_9_13 : iF RX8 9 13 := fun _ _ _ z => by cases z; exact ⟨rfl, rfl⟩
theorem if_X8_9_14 : iF RX8 9 14 := fun _ _ _ z => by cases z; exact ⟨rfl, rfl⟩
theorem if_X8_9_15 : iF RX8 9 15 := fun _ _ _ z => by cases z; exact ⟨rfl, rfl⟩
theorem if_X8_9_16 : iF RX8 9 16 := fun _ _ _ z => by cases z; exact ⟨rfl, rfl⟩
theorem if_X8_9_17 : iF RX8 9 17 := fun _ _ _ z => by cases z; exact ⟨rfl, rfl⟩
theorem if_X8_9_18 : iF RX8 9 18 := fun _ _ _ z => by cases z; exact ⟨rfl, rfl⟩
theorem if_X8_9_19 : iF RX8 9 19 := fun _ _ _ z => by cases z; exact ⟨rfl, rfl⟩
theorem if_X8_9_20 : iF RX8 9 20 := fun _ _ _ z => by cases z; exact ⟨rfl, rfl⟩
theorem if_X8_9_21 : iF RX8 9 21 := fun _ _ _ z => by cases z; exact ⟨rfl, rfl⟩
theorem if_X8_9_22 : iF RX8 9 22 := fun _ _ _ z => by cases z; exact ⟨rfl, rfl⟩
theorem if_X8_9_23 : iF RX8 9 23 := fun _ _ _ z => by cases z; exact ⟨rfl, rfl⟩
theorem if_X8_9_24 : iF RX8 9 24 := fun _ _ _ z => by cases z; exact ⟨rfl, rfl⟩
theorem if_X8_9_25 : iF RX8 9 25 := fun _ _ _ z => by cases z; exact ⟨rfl, rfl⟩
theorem if_X8_9_26 : iF RX8 9 26 := fun _ _ _ z => by cases z; exact ⟨rfl, rfl⟩
theorem if_X8_9_27 : iF RX8 9 27 := fun _ _ _ z => by cases z; exact ⟨rfl, rfl⟩
theorem if_X8_9_28 : iF RX8 9 28 := fun _ _ _ z => by cases z; exact ⟨rfl, rfl⟩
theorem if_X8_9_29 : iF RX8 9 29 := fun _ _ _ z => by cases z; exact ⟨rfl, rfl⟩
theorem if_X8_9_30 : iF RX8 9 30 := fun _ _ _ z => by cases z; exact ⟨rfl, rfl⟩
theorem if_X8_9_31 : iF RX8 9 31 := fun _ _ _ z => by cases z; exact ⟨rfl, rfl⟩
theorem if_X8_9_32 : iF RX8 9 32 := fun _ _ _ z => by cases z; exact ⟨rfl, rfl⟩
theorem if_X8_9_33 : iF RX8 9 33 := fun _ _ _ z => by cases z; exact ⟨rfl, rfl⟩
theorem lk_X8_1 : Cond.methodLink RX8 1 objectInit ∈ GT := by decide +kernel
theorem me_X8_in : Cond.static yX8_in ∈ GT ∧ Cond.initialized RX8 ∈ GT ∧ Cond.code yX8_in cX8_in 3 (some .boolean) ∈ GT := ⟨by decide +kernel, by decide +kernel, by decide +kernel⟩
theorem cl_X8_111 : SL RX8 111 yX8_in cX8_in 3 (some .boolean) 3 := ⟨⟨by decide +kernel, me_X8_in⟩, by decide, by decide, by decide +kernel⟩
theorem me_X8_isBid : Cond.instanceMethod yX8_isBid ∈ GT ∧ Cond.selects RX8 yX8_isBid yX8_isBid ∈ GT ∧ Cond.initialized RX8 ∈ GT ∧ Cond.code yX8_isBid cX8_isBid 2 (some .boolean) ∈ GT := ⟨by decide +kernel, by decide +kernel, by decide +kernel, by decide +kernel⟩
theorem cl_X8_118 : VL RX8 118 9 yX8_isBid cX8_isBid 2 (some .boolean) 1 := ⟨⟨TX8, 34, rfl⟩, ⟨by decide +kernel, me_X8_isBid⟩, by decide, by decide, by decide +kernel⟩
section
variable {p : Program} {l : Launch} {e : Env} {s : State} {m : MethodId} {args : Array Value} {below : List Frame} {meth : Method} {c : Code} {G : GG}
abbrev rm_X8_init : Room := { frames := 1, cells := 30, slots := 3030, locals := 20 }
def fb_X8_init_324  (k324 : Option Nat × Int32 × Hp → Option (Unit × Hp)) (l0 : Option Nat) (l2 : Int32) (h : Hp) : Option (Unit × Hp) :=
(if 16 ≤ l2 then
rtV h
else
gR h l0 9 18 (fun x331 =>
stI h x331 l2 (-1) (fun h =>
k324 (l0, (l2 + 1), h))))
set_option maxHeartbeats 4000000 in
set_option maxRecDepth 100000 in
theorem tb_X8_init_324 (Z : ZZ p s m args c cX8_init RX8 3 G) (hr : meth.sig.returnType = none) (hlk : meth.locks = false) (hin : meth.name = "<init>") {v : Unit} {h1 : Hp} {k324 : Option Nat × Int32 × Hp → Option (Unit × Hp)} (hk324 : ∀ u : Option Nat × Int32 × Hp, k324 u = some (v, h1) → ∀ (H : Heap) (locs : List Loc) (ls : Array Slot), Rep G u.2.2 H → va_S (AA G) s.heap H locs → LV ls 3 [(0, va_rf u.1), (2, .int u.2.1)] → W p l e rm_X8_init s m args below meth c H locs 30 3030 (MQ below (Qx G none h1) args s 30 3030 (AA G)) (F0 m 324 ls [])) : ∀ (l0 : Option Nat) (l2 : Int32) (h : Hp) (H : Heap) (locs : List Loc) (ls : Array Slot), fb_X8_init_324 k324 l0 l2 h = some (v, h1) → Rep G h H → va_S (AA G) s.heap H locs → LV ls 3 [(0, va_rf l0), (2, .int l2)] → W p l e rm_X8_init s m args below meth c H locs 30 3030 (MQ below (Qx G none h1) args s 30 3030 (AA G)) (F0 m 324 ls []) := by
  intro l0 l2 h H locs ls hq hR hS hl
  have hx := Z.1
  have hb := Z.2.1
  unfold fb_X8_init_324 at hq
  refine xiln hx hb hl (x := l2) 1 rfl dX8_init_324 ?_
  refine lv_bipush (v := 16) hx hb dX8_init_325 (by decide) ?_
  refine xcGe hx hb hq (tgt := 343) dX8_init_327 (by decide) (fun hq => ?_) (fun hq => ?_)
  · exact xrV hx hb hr hlk hR hS hq (by decide) (by decide) dX8_init_343
  refine xaln hx hb hl (x := l0) 0 rfl dX8_init_330 ?_
  refine xgR Z hR hq fl_X8_57 rfl dX8_init_331 (fun x331 hq => ?_)
  refine xiln hx hb hl (x := l2) 1 rfl dX8_init_334 ?_
  refine lv_iconst (v := (-1)) hx hb dX8_init_335 (by decide) ?_
  refine xsI Z hR hS hq dX8_init_336 (fun h H locs hq hR hS => ?_)
  refine xinc hx hb hl (x := l2) (v := (l2 + 1)) (lv' := [(2, .int (l2 + 1)), (0, va_rf l0)]) 1 rfl (by rw [show Int32.ofInt (1) = (1 : Int32) from by decide]) (by decide) dX8_init_337 rfl (fun ls hl => ?_)
  refine lv_goto (tgt := 324) hx hb dX8_init_340 (by decide) ?_
  exact hk324 (l0, (l2 + 1), h) hq H locs ls hR hS (hl.sub [1, 0] rfl)
def f_X8_init_324  (l0 : Option Nat) (l2 : Int32) (h : Hp) : Option (Unit × Hp) :=
  lp (fun (k324 : Option Nat × Int32 × Hp → Option (Unit × Hp)) (u : Option Nat × Int32 × Hp) => fb_X8_init_324 k324 u.1 u.2.1 u.2.2) FU (l0, l2, h)
theorem t_X8_init_324 (Z : ZZ p s m args c cX8_init RX8 3 G) (hr : meth.sig.returnType = none) (hlk : meth.locks = false) (hin : meth.name = "<init>") {v : Unit} {h1 : Hp} : ∀ (l0 : Option Nat) (l2 : Int32) (h : Hp) (H : Heap) (locs : List Loc) (ls : Array Slot), f_X8_init_324 l0 l2 h = some (v, h1) → Rep G h H → va_S (AA G) s.heap H locs → LV ls 3 [(0, va_rf l0), (2, .int l2)] → W p l e rm_X8_init s m args below meth c H locs 30 3030 (MQ below (Qx G none h1) args s 30 3030 (AA G)) (F0 m 324 ls []) := by
  intro l0 l2 h H locs ls hq hR hS hl
  exact lp_ind (P := fun u : Option Nat × Int32 × Hp => ∀ (H : Heap) (locs : List Loc) (ls : Array Slot), Rep G u.2.2 H → va_S (AA G) s.heap H locs → LV ls 3 [(0, va_rf u.1), (2, .int u.2.1)] → W p l e rm_X8_init s m args below meth c H locs 30 3030 (MQ below (Qx G none h1) args s 30 3030 (AA G)) (F0 m 324 ls [])) (fun k hk u hq H locs ls hR hS hl => tb_X8_init_324 Z hr hlk hin hk u.1 u.2.1 u.2.2 H locs ls hq hR hS hl) FU (l0, l2, h) hq H locs ls hR hS hl
def fb_X8_init_282  (k282 : Option Nat × Int32 × Hp → Option (Unit × Hp)) (l0 : Option Nat) (l2 : Int32) (h : Hp) : Option (Unit × Hp) :=
(if 8 ≤ l2 then
f_X8_init_324 l0 0 h
else
gR h l0 9 2 (fun x289 =>
stI h x289 (2 * l2) 5 (fun h =>
gR h l0 9 2 (fun x298 =>
stI h x298 ((2 * l2) + 1) 8 (fun h =>
gR h l0 9 3 (fun x310 =>
stI h x310 l2 2 (fun h =>
k282 (l0, (l2 + 1), h))))))))
set_option maxHeartbeats 4000000 in
set_option maxRecDepth 100000 in
theorem tb_X8_init_282 (Z : ZZ p s m args c cX8_init RX8 3 G) (hr : meth.sig.returnType = none) (hlk : meth.locks = false) (hin : meth.name = "<init>") {v : Unit} {h1 : Hp} {k282 : Option Nat × Int32 × Hp → Option (Unit × Hp)} (hk282 : ∀ u : Option Nat × Int32 × Hp, k282 u = some (v, h1) → ∀ (H : Heap) (locs : List Loc) (ls : Array Slot), Rep G u.2.2 H → va_S (AA G) s.heap H locs → LV ls 3 [(0, va_rf u.1), (2, .int u.2.1)] → W p l e rm_X8_init s m args below meth c H locs 30 3030 (MQ below (Qx G none h1) args s 30 3030 (AA G)) (F0 m 282 ls [])) : ∀ (l0 : Option Nat) (l2 : Int32) (h : Hp) (H : Heap) (locs : List Loc) (ls : Array Slot), fb_X8_init_282 k282 l0 l2 h = some (v, h1) → Rep G h H → va_S (AA G) s.heap H locs → LV ls 3 [(0, va_rf l0), (2, .int l2)] → W p l e rm_X8_init s m args below meth c H locs 30 3030 (MQ below (Qx G none h1) args s 30 3030 (AA G)) (F0 m 282 ls []) := by
  intro l0 l2 h H locs ls hq hR hS hl
  have hx := Z.1
  have hb := Z.2.1
  unfold fb_X8_init_282 at hq
  refine xiln hx hb hl (x := l2) 1 rfl dX8_init_282 ?_
  refine lv_bipush (v := 8) hx hb dX8_init_283 (by decide) ?_
  refine xcGe hx hb hq (tgt := 322) dX8_init_285 (by decide) (fun hq => ?_) (fun hq => ?_)
  · refine lv_iconst (v := 0) hx hb dX8_init_322 (by decide) ?_
    refine xisn hx hb hl (x := 0) (lv' := [(2, .int 0), (0, va_rf l0)]) (by decide) dX8_init_323 rfl (fun ls hl => ?_)
    exact t_X8_init_324 Z hr hlk hin l0 0 h H locs ls hq hR hS (hl.sub [1, 0] rfl)
  refine xaln hx hb hl (x := l0) 0 rfl dX8_init_288 ?_
  refine xgR Z hR hq fl_X8_13 rfl dX8_init_289 (fun x289 hq => ?_)
  refine lv_iconst (v := 2) hx hb dX8_init_292 (by decide) ?_
  refine xiln hx hb hl (x := l2) 1 rfl dX8_init_293 ?_
  refine lv_imul hx hb dX8_init_294 ?_
  refine lv_iconst (v := 5) hx hb dX8_init_295 (by decide) ?_
  refine xsI Z hR hS hq dX8_init_296 (fun h H locs hq hR hS => ?_)
  refine xaln hx hb hl (x := l0) 0 rfl dX8_init_297 ?_
  refine xgR Z hR hq fl_X8_13 rfl dX8_init_298 (fun x298 hq => ?_)
  refine lv_iconst (v := 2) hx hb dX8_init_301 (by decide) ?_
  refine xiln hx hb hl (x := l2) 1 rfl dX8_init_302 ?_
  refine lv_imul hx hb dX8_init_303 ?_
  refine lv_iconst (v := 1) hx hb dX8_init_304 (by decide) ?_
  refine lv_iadd hx hb dX8_init_305 ?_
  refine lv_bipush (v := 8) hx hb dX8_init_306 (by decide) ?_
  refine xsI Z hR hS hq dX8_init_308 (fun h H locs hq hR hS => ?_)
  refine xaln hx hb hl (x := l0) 0 rfl dX8_init_309 ?_
  refine xgR Z hR hq fl_X8_17 rfl dX8_init_310 (fun x310 hq => ?_)
  refine xiln hx hb hl (x := l2) 1 rfl dX8_init_313 ?_
  refine lv_iconst (v := 2) hx hb dX8_init_314 (by decide) ?_
  refine xsI Z hR hS hq dX8_init_315 (fun h H locs hq hR hS => ?_)
  refine xinc hx hb hl (x := l2) (v := (l2 + 1)) (lv' := [(2, .int (l2 + 1)), (0, va_rf l0)]) 1 rfl (by rw [show Int32.ofInt (1) = (1 : Int32) from by decide]) (by decide) dX8_init_316 rfl (fun ls hl => ?_)
  refine lv_goto (tgt := 282) hx hb dX8_init_319 (by decide) ?_
  exact hk282 (l0, (l2 + 1), h) hq H locs ls hR hS (hl.sub [1, 0] rfl)
def f_X8_init_282  (l0 : Option Nat) (l2 : Int32) (h : Hp) : Option (Unit × Hp) :=
  lp (fun (k282 : Option Nat × Int32 × Hp → Option (Unit × Hp)) (u : Option Nat × Int32 × Hp) => fb_X8_init_282 k282 u.1 u.2.1 u.2.2) FU (l0, l2, h)
theorem t_X8_init_282 (Z : ZZ p s m args c cX8_init RX8 3 G) (hr : meth.sig.returnType = none) (hlk : meth.locks = false) (hin : meth.name = "<init>") {v : Unit} {h1 : Hp} : ∀ (l0 : Option Nat) (l2 : Int32) (h : Hp) (H : Heap) (locs : List Loc) (ls : Array Slot), f_X8_init_282 l0 l2 h = some (v, h1) → Rep G h H → va_S (AA G) s.heap H locs → LV ls 3 [(0, va_rf l0), (2, .int l2)] → W p l e rm_X8_init s m args below meth c H locs 30 3030 (MQ below (Qx G none h1) args s 30 3030 (AA G)) (F0 m 282 ls []) := by
  intro l0 l2 h H locs ls hq hR hS hl
  exact lp_ind (P := fun u : Option Nat × Int32 × Hp => ∀ (H : Heap) (locs : List Loc) (ls : Array Slot), Rep G u.2.2 H → va_S (AA G) s.heap H locs → LV ls 3 [(0, va_rf u.1), (2, .int u.2.1)] → W p l e rm_X8_init s m args below meth c H locs 30 3030 (MQ below (Qx G none h1) args s 30 3030 (AA G)) (F0 m 282 ls [])) (fun k hk u hq H locs ls hR hS hl => tb_X8_init_282 Z hr hlk hin hk u.1 u.2.1 u.2.2 H locs ls hq hR hS hl) FU (l0, l2, h) hq H locs ls hR hS hl
def f_X8_init_277  (s0 : Option Nat) (s1 : Int32) (l0 : Option Nat) (h : Hp) : Option (Unit × Hp) :=
pI h s0 9 0 s1 (fun h =>
f_X8_init_282 l0 0 h)
set_option maxHeartbeats 4000000 in
set_option maxRecDepth 100000 in
theorem t_X8_init_277 (Z : ZZ p s m args c cX8_init RX8 3 G) (hr : meth.sig.returnType = none) (hlk : meth.locks = false) (hin : meth.name = "<init>") {v : Unit} {h1 : Hp} : ∀ (s0 : Option Nat) (s1 : Int32) (l0 : Option Nat) (h : Hp) (H : Heap) (locs : List Loc) (ls : Array Slot), f_X8_init_277 s0 s1 l0 h = some (v, h1) → Rep G h H → va_S (AA G) s.heap H locs → LV ls 3 [(0, va_rf l0)] → W p l e rm_X8_init s m args below meth c H locs 30 3030 (MQ below (Qx G none h1) args s 30 3030 (AA G)) (F0 m 277 ls [.int s1, va_rf s0]) := by
  intro s0 s1 l0 h H locs ls hq hR hS hl
  have hx := Z.1
  have hb := Z.2.1
  unfold f_X8_init_277 at hq
  refine xpI Z hR hS hq fl_X8_105 rfl (Or.inr ⟨if_X8_9_0, hin⟩) dX8_init_277 (fun h H locs hq hR hS => ?_)
  refine lv_iconst (v := 0) hx hb dX8_init_280 (by decide) ?_
  refine xisn hx hb hl (x := 0) (lv' := [(2, .int 0), (0, va_rf l0)]) (by decide) dX8_init_281 rfl (fun ls hl => ?_)
  exact t_X8_init_282 Z hr hlk hin l0 0 h H locs ls hq hR hS (hl.sub [1, 0] rfl)
def f_X8_init (this : Nat) (a0 : Int32) (h : Hp) : Option (Unit × Hp) :=
nwZ h 8 (fun n7 h =>
pR h (some this) 9 1 (some n7) (fun h =>
nwI h 16 (fun n15 h =>
pR h (some this) 9 2 (some n15) (fun h =>
nwI h 8 (fun n23 h =>
pR h (some this) 9 3 (some n23) (fun h =>
pI h (some this) 9 4 1 (fun h =>
nwI h 10 (fun n36 h =>
pR h (some this) 9 6 (some n36) (fun h =>
nwI h 10 (fun n44 h =>
pR h (some this) 9 7 (some n44) (fun h =>
nwI h 10 (fun n52 h =>
pR h (some this) 9 8 (some n52) (fun h =>
nwI h 16 (fun n60 h =>
pR h (some this) 9 10 (some n60) (fun h =>
nwI h 16 (fun n68 h =>
pR h (some this) 9 11 (some n68) (fun h =>
nwI h 16 (fun n76 h =>
pR h (some this) 9 12 (some n76) (fun h =>
nwI h 16 (fun n84 h =>
pR h (some this) 9 13 (some n84) (fun h =>
nwI h 16 (fun n92 h =>
pR h (some this) 9 14 (some n92) (fun h =>
nwI h 16 (fun n100 h =>
pR h (some this) 9 15 (some n100) (fun h =>
nwI h 16 (fun n108 h =>
pR h (some this) 9 16 (some n108) (fun h =>
nwI h 16 (fun n116 h =>
pR h (some this) 9 17 (some n116) (fun h =>
nwI h 16 (fun n124 h =>
pR h (some this) 9 18 (some n124) (fun h =>
nwZ h 16 (fun n132 h =>
pR h (some this) 9 19 (some n132) (fun h =>
nwI h 128 (fun n141 h =>
pR h (some this) 9 20 (some n141) (fun h =>
nwI h 128 (fun n150 h =>
pR h (some this) 9 21 (some n150) (fun h =>
nwZ h 1920 (fun n159 h =>
pR h (some this) 9 22 (some n159) (fun h =>
nwI h 8 (fun n167 h =>
pR h (some this) 9 23 (some n167) (fun h =>
nwI h 16 (fun n175 h =>
pR h (some this) 9 24 (some n175) (fun h =>
nwZ h 16 (fun n183 h =>
pR h (some this) 9 25 (some n183) (fun h =>
nwI h 16 (fun n191 h =>
pR h (some this) 9 26 (some n191) (fun h =>
nwI h 16 (fun n199 h =>
pR h (some this) 9 27 (some n199) (fun h =>
nwI h 16 (fun n207 h =>
pR h (some this) 9 28 (some n207) (fun h =>
nwI h 128 (fun n216 h =>
pR h (some this) 9 29 (some n216) (fun h =>
nwI h 128 (fun n225 h =>
pR h (some this) 9 30 (some n225) (fun h =>
nwI h 16 (fun n233 h =>
pR h (some this) 9 31 (some n233) (fun h =>
nwI h 16 (fun n241 h =>
pR h (some this) 9 32 (some n241) (fun h =>
nwI h 256 (fun n250 h =>
pR h (some this) 9 33 (some n250) (fun h =>
(if 2 ≤ a0 then
(if a0 ≤ 8 then
f_X8_init_277 (some this) a0 (some this) h
else
f_X8_init_277 (some this) 8 (some this) h)
else
f_X8_init_277 (some this) 2 (some this) h))))))))))))))))))))))))))))))))))))))))))))))))))))))))))))))
set_option maxHeartbeats 4000000 in
set_option maxRecDepth 100000 in
theorem c_X8_init (l : Launch) {G : GG} (this : Nat) (a0 : Int32) (h : Hp) (v : Unit) (h1 : Hp) (hq : f_X8_init this a0 h = some (v, h1)) : Met l yX8_init (Cond.code yX8_init cX8_init 3 none :: GT) rm_X8_init (va_Pc [.ref this, .int a0] (Cn G h)) (Qx G none h1) 30 3030 (AA G) := by
  refine xMet (cc := cX8_init) (by decide) (Nat.le_of_ble_eq_true rfl) (List.forall_mem_cons.mpr ⟨rfl, (List.forall_mem_cons.mpr ⟨rfl, (fun _ z => by cases z)⟩)⟩) ?_
  intro p e s m below meth c ls Z hr hlk hin hR hS hl
  have hx := Z.1
  have hb := Z.2.1
  have hl : LV ls 3 [(0, va_rf (some this)), (1, .int a0)] := hl
  unfold f_X8_init at hq
  refine xaln hx hb hl (x := (some this)) 0 rfl dX8_init_0 ?_
  refine xoi Z hl lk_X8_1 (by decide) (by decide) dX8_init_1 ?_
  refine xaln hx hb hl (x := (some this)) 0 rfl dX8_init_4 ?_
  refine lv_bipush (v := 8) hx hb dX8_init_5 (by decide) ?_
  refine xnZ Z hR hS hq ac_Z (by decide) (by decide) (by decide) (by decide) (by decide) dX8_init_7 (fun n7 h H hq hR hS => ?_)
  refine xpR Z hR hS hq fl_X8_9 rfl (Or.inr ⟨if_X8_9_1, hin⟩) dX8_init_9 (fun h H locs hq hR hS => ?_)
  refine xaln hx hb hl (x := (some this)) 0 rfl dX8_init_12 ?_
  refine lv_bipush (v := 16) hx hb dX8_init_13 (by decide) ?_
  refine xnI Z hR hS hq ac_I (by decide) (by decide) (by decide) (by decide) (by decide) dX8_init_15 (fun n15 h H hq hR hS => ?_)
  refine xpR Z hR hS hq fl_X8_13 rfl (Or.inr ⟨if_X8_9_2, hin⟩) dX8_init_17 (fun h H locs hq hR hS => ?_)
  refine xaln hx hb hl (x := (some this)) 0 rfl dX8_init_20 ?_
  refine lv_bipush (v := 8) hx hb dX8_init_21 (by decide) ?_
  refine xnI Z hR hS hq ac_I (by decide) (by decide) (by decide) (by decide) (by decide) dX8_init_23 (fun n23 h H hq hR hS => ?_)
  refine xpR Z hR hS hq fl_X8_17 rfl (Or.inr ⟨if_X8_9_3, hin⟩) dX8_init_25 (fun h H locs hq hR hS => ?_)
  refine xaln hx hb hl (x := (some this)) 0 rfl dX8_init_28 ?_
  refine lv_iconst (v := 1) hx hb dX8_init_29 (by decide) ?_
  refine xpI Z hR hS hq fl_X8_20 rfl (Or.inl nf_9_4) dX8_init_30 (fun h H locs hq hR hS => ?_)
  refine xaln hx hb hl (x := (some this)) 0 rfl dX8_init_33 ?_
  refine lv_bipush (v := 10) hx hb dX8_init_34 (by decide) ?_
  refine xnI Z hR hS hq ac_I (by decide) (by decide) (by decide) (by decide) (by decide) dX8_init_36 (fun n36 h H hq hR hS => ?_)
  refine xpR Z hR hS hq fl_X8_24 rfl (Or.inr ⟨if_X8_9_6, hin⟩) dX8_init_38 (fun h H locs hq hR hS => ?_)
  refine xaln hx hb hl (x := (some this)) 0 rfl dX8_init_41 ?_
  refine lv_bipush (v := 10) hx hb dX8_init_42 (by decide) ?_
  refine xnI Z hR hS hq ac_I (by decide) (by decide) (by decide) (by decide) (by decide) dX8_init_44 (fun n44 h H hq hR hS => ?_)
  refine xpR Z hR hS hq fl_X8_27 rfl (Or.inr ⟨if_X8_9_7, hin⟩) dX8_init_46 (fun h H locs hq hR hS => ?_)
  refine xaln hx hb hl (x := (some this)) 0 rfl dX8_init_49 ?_
  refine lv_bipush (v := 10) hx hb dX8_init_50 (by decide) ?_
  refine xnI Z hR hS hq ac_I (by decide) (by decide) (by decide) (by decide) (by decide) dX8_init_52 (fun n52 h H hq hR hS => ?_)
  refine xpR Z hR hS hq fl_X8_30 rfl (Or.inr ⟨if_X8_9_8, hin⟩) dX8_init_54 (fun h H locs hq hR hS => ?_)
  refine xaln hx hb hl (x := (some this)) 0 rfl dX8_init_57 ?_
  refine lv_bipush (v := 16) hx hb dX8_init_58 (by decide) ?_
  refine xnI Z hR hS hq ac_I (by decide) (by decide) (by decide) (by decide) (by decide) dX8_init_60 (fun n60 h H hq hR hS => ?_)
  refine xpR Z hR hS hq fl_X8_33 rfl (Or.inr ⟨if_X8_9_10, hin⟩) dX8_init_62 (fun h H locs hq hR hS => ?_)
  refine xaln hx hb hl (x := (some this)) 0 rfl dX8_init_65 ?_
  refine lv_bipush (v := 16) hx hb dX8_init_66 (by decide) ?_
  refine xnI Z hR hS hq ac_I (by decide) (by decide) (by decide) (by decide) (by decide) dX8_init_68 (fun n68 h H hq hR hS => ?_)
  refine xpR Z hR hS hq fl_X8_36 rfl (Or.inr ⟨if_X8_9_11, hin⟩) dX8_init_70 (fun h H locs hq hR hS => ?_)
  refine xaln hx hb hl (x := (some this)) 0 rfl dX8_init_73 ?_
  refine lv_bipush (v := 16) hx hb dX8_init_74 (by decide) ?_
  refine xnI Z hR hS hq ac_I (by decide) (by decide) (by decide) (by decide) (by decide) dX8_init_76 (fun n76 h H hq hR hS => ?_)
  refine xpR Z hR hS hq fl_X8_39 rfl (Or.inr ⟨if_X8_9_12, hin⟩) dX8_init_78 (fun h H locs hq hR hS => ?_)
  refine xaln hx hb hl (x := (some this)) 0 rfl dX8_init_81 ?_
  refine lv_bipush (v := 16) hx hb dX8_init_82 (by decide) ?_
  refine xnI Z hR hS hq ac_I (by decide) (by decide) (by decide) (by decide) (by decide) dX8_init_84 (fun n84 h H hq hR hS => ?_)
  refine xpR Z hR hS hq fl_X8_42 rfl (Or.inr ⟨if_X8_9_13, hin⟩) dX8_init_86 (fun h H locs hq hR hS => ?_)
  refine xaln hx hb hl (x := (some this)) 0 rfl dX8_init_89 ?_
  refine lv_bipush (v := 16) hx hb dX8_init_90 (by decide) ?_
  refine xnI Z hR hS hq ac_I (by decide) (by decide) (by decide) (by decide) (by decide) dX8_init_92 (fun n92 h H hq hR hS => ?_)
  refine xpR Z hR hS hq fl_X8_45 rfl (Or.inr ⟨if_X8_9_14, hin⟩) dX8_init_94 (fun h H locs hq hR hS => ?_)
  refine xaln hx hb hl (x := (some this)) 0 rfl dX8_init_97 ?_
  refine lv_bipush (v := 16) hx hb dX8_init_98 (by decide) ?_
  refine xnI Z hR hS hq ac_I (by decide) (by decide) (by decide) (by decide) (by decide) dX8_init_100 (fun n100 h H hq hR hS => ?_)
  refine xpR Z hR hS hq fl_X8_48 rfl (Or.inr ⟨if_X8_9_15, hin⟩) dX8_init_102 (fun h H locs hq hR hS => ?_)
  refine xaln hx hb hl (x := (some this)) 0 rfl dX8_init_105 ?_
  refine lv_bipush (v := 16) hx hb dX8_init_106 (by decide) ?_
  refine xnI Z hR hS hq ac_I (by decide) (by decide) (by decide) (by decide) (by decide) dX8_init_108 (fun n108 h H hq hR hS => ?_)
  refine xpR Z hR hS hq fl_X8_51 rfl (Or.inr ⟨if_X8_9_16, hin⟩) dX8_init_110 (fun h H locs hq hR hS => ?_)
  refine xaln hx hb hl (x := (some this)) 0 rfl dX8_init_113 ?_
  refine lv_bipush (v := 16) hx hb dX8_init_114 (by decide) ?_
  refine xnI Z hR hS hq ac_I (by decide) (by decide) (by decide) (by decide) (by decide) dX8_init_116 (fun n116 h H hq hR hS => ?_)
  refine xpR Z hR hS hq fl_X8_54 rfl (Or.inr ⟨if_X8_9_17, hin⟩) dX8_init_118 (fun h H locs hq hR hS => ?_)
  refine xaln hx hb hl (x := (some this)) 0 rfl dX8_init_121 ?_
  refine lv_bipush (v := 16) hx hb dX8_init_122 (by decide) ?_
  refine xnI Z hR hS hq ac_I (by decide) (by decide) (by decide) (by decide) (by decide) dX8_init_124 (fun n124 h H hq hR hS => ?_)
  refine xpR Z hR hS hq fl_X8_57 rfl (Or.inr ⟨if_X8_9_18, hin⟩) dX8_init_126 (fun h H locs hq hR hS => ?_)
  refine xaln hx hb hl (x := (some this)) 0 rfl dX8_init_129 ?_
  refine lv_bipush (v := 16) hx hb dX8_init_130 (by decide) ?_
  refine xnZ Z hR hS hq ac_Z (by decide) (by decide) (by decide) (by decide) (by decide) dX8_init_132 (fun n132 h H hq hR hS => ?_)
  refine xpR Z hR hS hq fl_X8_60 rfl (Or.inr ⟨if_X8_9_19, hin⟩) dX8_init_134 (fun h H locs hq hR hS => ?_)
  refine xaln hx hb hl (x := (some this)) 0 rfl dX8_init_137 ?_
  refine lv_sipush (v := 128) hx hb dX8_init_138 (by decide) ?_
  refine xnI Z hR hS hq ac_I (by decide) (by decide) (by decide) (by decide) (by decide) dX8_init_141 (fun n141 h H hq hR hS => ?_)
  refine xpR Z hR hS hq fl_X8_63 rfl (Or.inr ⟨if_X8_9_20, hin⟩) dX8_init_143 (fun h H locs hq hR hS => ?_)
  refine xaln hx hb hl (x := (some this)) 0 rfl dX8_init_146 ?_
  refine lv_sipush (v := 128) hx hb dX8_init_147 (by decide) ?_
  refine xnI Z hR hS hq ac_I (by decide) (by decide) (by decide) (by decide) (by decide) dX8_init_150 (fun n150 h H hq hR hS => ?_)
  refine xpR Z hR hS hq fl_X8_66 rfl (Or.inr ⟨if_X8_9_21, hin⟩) dX8_init_152 (fun h H locs hq hR hS => ?_)
  refine xaln hx hb hl (x := (some this)) 0 rfl dX8_init_155 ?_
  refine lv_sipush (v := 1920) hx hb dX8_init_156 (by decide) ?_
  refine xnZ Z hR hS hq ac_Z (by decide) (by decide) (by decide) (by decide) (by decide) dX8_init_159 (fun n159 h H hq hR hS => ?_)
  refine xpR Z hR hS hq fl_X8_69 rfl (Or.inr ⟨if_X8_9_22, hin⟩) dX8_init_161 (fun h H locs hq hR hS => ?_)
  refine xaln hx hb hl (x := (some this)) 0 rfl dX8_init_164 ?_
  refine lv_bipush (v := 8) hx hb dX8_init_165 (by decide) ?_
  refine xnI Z hR hS hq ac_I (by decide) (by decide) (by decide) (by decide) (by decide) dX8_init_167 (fun n167 h H hq hR hS => ?_)
  refine xpR Z hR hS hq fl_X8_72 rfl (Or.inr ⟨if_X8_9_23, hin⟩) dX8_init_169 (fun h H locs hq hR hS => ?_)
  refine xaln hx hb hl (x := (some this)) 0 rfl dX8_init_172 ?_
  refine lv_bipush (v := 16) hx hb dX8_init_173 (by decide) ?_
  refine xnI Z hR hS hq ac_I (by decide) (by decide) (by decide) (by decide) (by decide) dX8_init_175 (fun n175 h H hq hR hS => ?_)
  refine xpR Z hR hS hq fl_X8_75 rfl (Or.inr ⟨if_X8_9_24, hin⟩) dX8_init_177 (fun h H locs hq hR hS => ?_)
  refine xaln hx hb hl (x := (some this)) 0 rfl dX8_init_180 ?_
  refine lv_bipush (v := 16) hx hb dX8_init_181 (by decide) ?_
  refine xnZ Z hR hS hq ac_Z (by decide) (by decide) (by decide) (by decide) (by decide) dX8_init_183 (fun n183 h H hq hR hS => ?_)
  refine xpR Z hR hS hq fl_X8_78 rfl (Or.inr ⟨if_X8_9_25, hin⟩) dX8_init_185 (fun h H locs hq hR hS => ?_)
  refine xaln hx hb hl (x := (some this)) 0 rfl dX8_init_188 ?_
  refine lv_bipush (v := 16) hx hb dX8_init_189 (by decide) ?_
  refine xnI Z hR hS hq ac_I (by decide) (by decide) (by decide) (by decide) (by decide) dX8_init_191 (fun n191 h H hq hR hS => ?_)
  refine xpR Z hR hS hq fl_X8_81 rfl (Or.inr ⟨if_X8_9_26, hin⟩) dX8_init_193 (fun h H locs hq hR hS => ?_)
  refine xaln hx hb hl (x := (some this)) 0 rfl dX8_init_196 ?_
  refine lv_bipush (v := 16) hx hb dX8_init_197 (by decide) ?_
  refine xnI Z hR hS hq ac_I (by decide) (by decide) (by decide) (by decide) (by decide) dX8_init_199 (fun n199 h H hq hR hS => ?_)
  refine xpR Z hR hS hq fl_X8_84 rfl (Or.inr ⟨if_X8_9_27, hin⟩) dX8_init_201 (fun h H locs hq hR hS => ?_)
  refine xaln hx hb hl (x := (some this)) 0 rfl dX8_init_204 ?_
  refine lv_bipush (v := 16) hx hb dX8_init_205 (by decide) ?_
  refine xnI Z hR hS hq ac_I (by decide) (by decide) (by decide) (by decide) (by decide) dX8_init_207 (fun n207 h H hq hR hS => ?_)
  refine xpR Z hR hS hq fl_X8_87 rfl (Or.inr ⟨if_X8_9_28, hin⟩) dX8_init_209 (fun h H locs hq hR hS => ?_)
  refine xaln hx hb hl (x := (some this)) 0 rfl dX8_init_212 ?_
  refine lv_sipush (v := 128) hx hb dX8_init_213 (by decide) ?_
  refine xnI Z hR hS hq ac_I (by decide) (by decide) (by decide) (by decide) (by decide) dX8_init_216 (fun n216 h H hq hR hS => ?_)
  refine xpR Z hR hS hq fl_X8_90 rfl (Or.inr ⟨if_X8_9_29, hin⟩) dX8_init_218 (fun h H locs hq hR hS => ?_)
  refine xaln hx hb hl (x := (some this)) 0 rfl dX8_init_221 ?_
  refine lv_sipush (v := 128) hx hb dX8_init_222 (by decide) ?_
  refine xnI Z hR hS hq ac_I (by decide) (by decide) (by decide) (by decide) (by decide) dX8_init_225 (fun n225 h H hq hR hS => ?_)
  refine xpR Z hR hS hq fl_X8_93 rfl (Or.inr ⟨if_X8_9_30, hin⟩) dX8_init_227 (fun h H locs hq hR hS => ?_)
  refine xaln hx hb hl (x := (some this)) 0 rfl dX8_init_230 ?_
  refine lv_bipush (v := 16) hx hb dX8_init_231 (by decide) ?_
  refine xnI Z hR hS hq ac_I (by decide) (by decide) (by decide) (by decide) (by decide) dX8_init_233 (fun n233 h H hq hR hS => ?_)
  refine xpR Z hR hS hq fl_X8_96 rfl (Or.inr ⟨if_X8_9_31, hin⟩) dX8_init_235 (fun h H locs hq hR hS => ?_)
  refine xaln hx hb hl (x := (some this)) 0 rfl dX8_init_238 ?_
  refine lv_bipush (v := 16) hx hb dX8_init_239 (by decide) ?_
  refine xnI Z hR hS hq ac_I (by decide) (by decide) (by decide) (by decide) (by decide) dX8_init_241 (fun n241 h H hq hR hS => ?_)
  refine xpR Z hR hS hq fl_X8_99 rfl (Or.inr ⟨if_X8_9_32, hin⟩) dX8_init_243 (fun h H locs hq hR hS => ?_)
  refine xaln hx hb hl (x := (some this)) 0 rfl dX8_init_246 ?_
  refine lv_sipush (v := 256) hx hb dX8_init_247 (by decide) ?_
  refine xnI Z hR hS hq ac_I (by decide) (by decide) (by decide) (by decide) (by decide) dX8_init_250 (fun n250 h H hq hR hS => ?_)
  refine xpR Z hR hS hq fl_X8_102 rfl (Or.inr ⟨if_X8_9_33, hin⟩) dX8_init_252 (fun h H locs hq hR hS => ?_)
  refine xaln hx hb hl (x := (some this)) 0 rfl dX8_init_255 ?_
  refine xiln hx hb hl (x := a0) 1 rfl dX8_init_256 ?_
  refine lv_iconst (v := 2) hx hb dX8_init_257 (by decide) ?_
  refine xcGe hx hb hq (tgt := 265) dX8_init_258 (by decide) (fun hq => ?_) (fun hq => ?_)
  · refine xiln hx hb hl (x := a0) 1 rfl dX8_init_265 ?_
    refine lv_bipush (v := 8) hx hb dX8_init_266 (by decide) ?_
    refine xcLe hx hb hq (tgt := 276) dX8_init_268 (by decide) (fun hq => ?_) (fun hq => ?_)
    · refine xiln hx hb hl (x := a0) 1 rfl dX8_init_276 ?_
      exact t_X8_init_277 Z hr hlk hin (some this) a0 (some this) h _ _ ls hq hR hS (hl.sub [0] rfl)
    refine lv_bipush (v := 8) hx hb dX8_init_271 (by decide) ?_
    refine lv_goto (tgt := 277) hx hb dX8_init_273 (by decide) ?_
    exact t_X8_init_277 Z hr hlk hin (some this) 8 (some this) h _ _ ls hq hR hS (hl.sub [0] rfl)
  refine lv_iconst (v := 2) hx hb dX8_init_261 (by decide) ?_
  refine lv_goto (tgt := 277) hx hb dX8_init_262 (by decide) ?_
  exact t_X8_init_277 Z hr hlk hin (some this) 2 (some this) h _ _ ls hq hR hS (hl.sub [0] rfl)
abbrev rm_X8_in : Room := { frames := 0, cells := 0, slots := 0, locals := 0 }
def f_X8_in_15  (s0 : Int32) (h : Hp) : Option (Int32 × Hp) :=
rtZ s0 h
set_option maxHeartbeats 4000000 in
set_option maxRecDepth 100000 in
theorem t_X8_in_15 (Z : ZZ p s m args c cX8_in RX8 3 G) (hr : meth.sig.returnType = (some .boolean)) (hlk : meth.locks = false) (hin : meth.name = "in") {v : Int32} {h1 : Hp} : ∀ (s0 : Int32) (h : Hp) (H : Heap) (locs : List Loc) (ls : Array Slot), f_X8_in_15 s0 h = some (v, h1) → Rep G h H → va_S (AA G) s.heap H locs → LV ls 3 [] → W p l e rm_X8_in s m args below meth c H locs 0 0 (MQ below (Qx G (some (.int v)) h1) args s 0 0 (AA G)) (F0 m 15 ls [.int s0]) := by
  intro s0 h H locs ls hq hR hS hl
  have hx := Z.1
  have hb := Z.2.1
  unfold f_X8_in_15 at hq
  exact xrZ hx hb hr hlk hR hS hq (by decide) (by decide) dX8_in_15
def f_X8_in_14   (h : Hp) : Option (Int32 × Hp) :=
f_X8_in_15 0 h
set_option maxHeartbeats 4000000 in
set_option maxRecDepth 100000 in
theorem t_X8_in_14 (Z : ZZ p s m args c cX8_in RX8 3 G) (hr : meth.sig.returnType = (some .boolean)) (hlk : meth.locks = false) (hin : meth.name = "in") {v : Int32} {h1 : Hp} : ∀  (h : Hp) (H : Heap) (locs : List Loc) (ls : Array Slot), f_X8_in_14  h = some (v, h1) → Rep G h H → va_S (AA G) s.heap H locs → LV ls 3 [] → W p l e rm_X8_in s m args below meth c H locs 0 0 (MQ below (Qx G (some (.int v)) h1) args s 0 0 (AA G)) (F0 m 14 ls []) := by
  intro  h H locs ls hq hR hS hl
  have hx := Z.1
  have hb := Z.2.1
  unfold f_X8_in_14 at hq
  refine lv_iconst (v := 0) hx hb dX8_in_14 (by decide) ?_
  exact t_X8_in_15 Z hr hlk hin 0 h H locs ls hq hR hS (hl.sub [] rfl)
def f_X8_in (a0 : Int32) (a1 : Int32) (a2 : Int32) (h : Hp) : Option (Int32 × Hp) :=
(if a0 < a1 then
f_X8_in_14  h
else
(if a2 < a0 then
f_X8_in_14  h
else
f_X8_in_15 1 h))
set_option maxHeartbeats 4000000 in
set_option maxRecDepth 100000 in
theorem c_X8_in (l : Launch) {G : GG} (a0 : Int32) (a1 : Int32) (a2 : Int32) (h : Hp) (v : Int32) (h1 : Hp) (hq : f_X8_in a0 a1 a2 h = some (v, h1)) : Met l yX8_in (Cond.code yX8_in cX8_in 3 (some .boolean) :: GT) rm_X8_in (va_Pc [.int a0, .int a1, .int a2] (Cn G h)) (Qx G (some (.int v)) h1) 0 0 (AA G) := by
  refine xMet (cc := cX8_in) (by decide) (Nat.le_of_ble_eq_true rfl) (List.forall_mem_cons.mpr ⟨rfl, (List.forall_mem_cons.mpr ⟨rfl, (List.forall_mem_cons.mpr ⟨rfl, (fun _ z => by cases z)⟩)⟩)⟩) ?_
  intro p e s m below meth c ls Z hr hlk hin hR hS hl
  have hx := Z.1
  have hb := Z.2.1
  have hl : LV ls 3 [(0, .int a0), (1, .int a1), (2, .int a2)] := hl
  unfold f_X8_in at hq
  refine xiln hx hb hl (x := a0) 0 rfl dX8_in_0 ?_
  refine xiln hx hb hl (x := a1) 1 rfl dX8_in_1 ?_
  refine xcLt hx hb hq (tgt := 14) dX8_in_2 (by decide) (fun hq => ?_) (fun hq => ?_)
  · exact t_X8_in_14 Z hr hlk hin  h _ _ ls hq hR hS (hl.sub [] rfl)
  refine xiln hx hb hl (x := a0) 0 rfl dX8_in_5 ?_
  refine xiln hx hb hl (x := a2) 2 rfl dX8_in_6 ?_
  refine xcGt hx hb hq (tgt := 14) dX8_in_7 (by decide) (fun hq => ?_) (fun hq => ?_)
  · exact t_X8_in_14 Z hr hlk hin  h _ _ ls hq hR hS (hl.sub [] rfl)
  refine lv_iconst (v := 1) hx hb dX8_in_10 (by decide) ?_
  refine lv_goto (tgt := 15) hx hb dX8_in_11 (by decide) ?_
  exact t_X8_in_15 Z hr hlk hin 1 h _ _ ls hq hR hS (hl.sub [] rfl)
abbrev rm_X8_isBid : Room := { frames := 1, cells := 0, slots := 0, locals := 22 }
def f_X8_isBid (this : Nat) (a0 : Int32) (h : Hp) : Option (Int32 × Hp) :=
gI h (some this) 9 9 (fun x3 =>
bd (f_X8_in a0 0 (x3 - 1) h) (fun x8 h =>
rtZ x8 h))
set_option maxHeartbeats 4000000 in
set_option maxRecDepth 100000 in
theorem c_X8_isBid (l : Launch) {G : GG} (this : Nat) (a0 : Int32) (h : Hp) (v : Int32) (h1 : Hp) (hq : f_X8_isBid this a0 h = some (v, h1)) : Met l yX8_isBid (Cond.code yX8_isBid cX8_isBid 2 (some .boolean) :: GT) rm_X8_isBid (va_Pc [.ref this, .int a0] (Cn G h)) (Qx G (some (.int v)) h1) 0 0 (AA G) := by
  refine xMet (cc := cX8_isBid) (by decide) (Nat.le_of_ble_eq_true rfl) (List.forall_mem_cons.mpr ⟨rfl, (List.forall_mem_cons.mpr ⟨rfl, (fun _ z => by cases z)⟩)⟩) ?_
  intro p e s m below meth c ls Z hr hlk hin hR hS hl
  have hx := Z.1
  have hb := Z.2.1
  have hl : LV ls 2 [(0, va_rf (some this)), (1, .int a0)] := hl
  unfold f_X8_isBid at hq
  refine xiln hx hb hl (x := a0) 1 rfl dX8_isBid_0 ?_
  refine lv_iconst (v := 0) hx hb dX8_isBid_1 (by decide) ?_
  refine xaln hx hb hl (x := (some this)) 0 rfl dX8_isBid_2 ?_
  refine xgI Z hR hq fl_X8_108 rfl dX8_isBid_3 (fun x3 hq => ?_)
  refine lv_iconst (v := 1) hx hb dX8_isBid_6 (by decide) ?_
  refine lv_isub hx hb dX8_isBid_7 ?_
  refine xcS Z hR hS hl (rest := []) (As := [.int a0, .int 0, .int (x3 - 1)]) hq cl_X8_111 (fun x h1 hc => c_X8_in l a0 0 (x3 - 1) h x h1 hc) ⟨⟨rfl, rfl⟩, (by decide), (by decide)⟩ rfl rfl (by first | decide | (simp only [List.map_cons, List.map_nil, rf_cat, ct_int, ct_ref, List.sum_cons, List.sum_nil] <;> decide)) dX8_isBid_8 (by decide) (fun x8 h H locs hq hR hS => ?_)
  exact xrZ hx hb hr hlk hR hS hq (by decide) (by decide) dX8_isBid_11
abbrev rm_X8_section : Room := { frames := 1, cells := 0, slots := 0, locals := 22 }
def f_X8_section_65   (h : Hp) : Option (Int32 × Hp) :=
rtZ 0 h
set_option maxHeartbeats 4000000 in
set_option maxRecDepth 100000 in
theorem t_X8_section_65 (Z : ZZ p s m args c cX8_section RX8 6 G) (hr : meth.sig.returnType = (some .boolean)) (hlk : meth.locks = false) (hin : meth.name = "section") {v : Int32} {h1 : Hp} : ∀  (h : Hp) (H : Heap) (locs : List Loc) (ls : Array Slot), f_X8_section_65  h = some (v, h1) → Rep G h H → va_S (AA G) s.heap H locs → LV ls 6 [] → W p l e rm_X8_section s m args below meth c H locs 0 0 (MQ below (Qx G (some (.int v)) h1) args s 0 0 (AA G)) (F0 m 65 ls []) := by
  intro  h H locs ls hq hR hS hl
  have hx := Z.1
  have hb := Z.2.1
  unfold f_X8_section_65 at hq
  refine lv_iconst (v := 0) hx hb dX8_section_65 (by decide) ?_
  exact xrZ hx hb hr hlk hR hS hq (by decide) (by decide) dX8_section_66
def fb_X8_section_3  (k3 : Option Nat × Int32 × Int32 × Int32 × Int32 × Int32 × Hp → Option (Int32 × Hp)) (l0 : Option Nat) (l1 : Int32) (l2 : Int32) (l3 : Int32) (l4 : Int32) (l5 : Int32) (h : Hp) : Option (Int32 × Hp) :=
gI h l0 9 9 (fun x6 =>
(if x6 ≤ l5 then
gI h l0 9 0 (fun x33 =>
bd (f_X8_in l1 0 (x33 - 2) h) (fun x38 h =>
(if x38 = 0 then
f_X8_section_65  h
else
bd (f_X8_in l3 1 30 h) (fun x48 h =>
(if x48 = 0 then
f_X8_section_65  h
else
bd (f_X8_in l4 1 30 h) (fun x59 h =>
(if x59 = 0 then
f_X8_section_65  h
else
gR h l0 9 1 (fun x68 =>
stZ h x68 l1 l2 (fun h =>
gR h l0 9 2 (fun x75 =>
stI h x75 (2 * l1) l3 (fun h =>
gR h l0 9 2 (fun x84 =>
stI h x84 ((2 * l1) + 1) l4 (fun h =>
rtZ 1 h)))))))))))))
else
gR h l0 9 19 (fun x13 =>
ldZ h x13 l5 (fun x18 =>
(if x18 = 0 then
k3 (l0, l1, l2, l3, l4, (l5 + 1), h)
else
rtZ 0 h)))))
set_option maxHeartbeats 4000000 in
set_option maxRecDepth 100000 in
theorem tb_X8_section_3 (Z : ZZ p s m args c cX8_section RX8 6 G) (hr : meth.sig.returnType = (some .boolean)) (hlk : meth.locks = false) (hin : meth.name = "section") {v : Int32} {h1 : Hp} {k3 : Option Nat × Int32 × Int32 × Int32 × Int32 × Int32 × Hp → Option (Int32 × Hp)} (hk3 : ∀ u : Option Nat × Int32 × Int32 × Int32 × Int32 × Int32 × Hp, k3 u = some (v, h1) → ∀ (H : Heap) (locs : List Loc) (ls : Array Slot), Rep G u.2.2.2.2.2.2 H → va_S (AA G) s.heap H locs → LV ls 6 [(0, va_rf u.1), (1, .int u.2.1), (2, .int u.2.2.1), (3, .int u.2.2.2.1), (4, .int u.2.2.2.2.1), (5, .int u.2.2.2.2.2.1)] → W p l e rm_X8_section s m args below meth c H locs 0 0 (MQ below (Qx G (some (.int v)) h1) args s 0 0 (AA G)) (F0 m 3 ls [])) : ∀ (l0 : Option Nat) (l1 : Int32) (l2 : Int32) (l3 : Int32) (l4 : Int32) (l5 : Int32) (h : Hp) (H : Heap) (locs : List Loc) (ls : Array Slot), fb_X8_section_3 k3 l0 l1 l2 l3 l4 l5 h = some (v, h1) → Rep G h H → va_S (AA G) s.heap H locs → LV ls 6 [(0, va_rf l0), (1, .int l1), (2, .int l2), (3, .int l3), (4, .int l4), (5, .int l5)] → W p l e rm_X8_section s m args below meth c H locs 0 0 (MQ below (Qx G (some (.int v)) h1) args s 0 0 (AA G)) (F0 m 3 ls []) := by
  intro l0 l1 l2 l3 l4 l5 h H locs ls hq hR hS hl
  have hx := Z.1
  have hb := Z.2.1
  unfold fb_X8_section_3 at hq
  refine xil hx hb hl (x := l5) 5 rfl dX8_section_3 ?_
  refine xaln hx hb hl (x := l0) 0 rfl dX8_section_5 ?_
  refine xgI Z hR hq fl_X8_108 rfl dX8_section_6 (fun x6 hq => ?_)
  refine xcGe hx hb hq (tgt := 30) dX8_section_9 (by decide) (fun hq => ?_) (fun hq => ?_)
  · refine xiln hx hb hl (x := l1) 1 rfl dX8_section_30 ?_
    refine lv_iconst (v := 0) hx hb dX8_section_31 (by decide) ?_
    refine xaln hx hb hl (x := l0) 0 rfl dX8_section_32 ?_
    refine xgI Z hR hq fl_X8_105 rfl dX8_section_33 (fun x33 hq => ?_)
    refine lv_iconst (v := 2) hx hb dX8_section_36 (by decide) ?_
    refine lv_isub hx hb dX8_section_37 ?_
    refine xcS Z hR hS hl (rest := []) (As := [.int l1, .int 0, .int (x33 - 2)]) hq cl_X8_111 (fun x h1 hc => c_X8_in l l1 0 (x33 - 2) h x h1 hc) ⟨⟨rfl, rfl⟩, (by decide), (by decide)⟩ rfl rfl (by first | decide | (simp only [List.map_cons, List.map_nil, rf_cat, ct_int, ct_ref, List.sum_cons, List.sum_nil] <;> decide)) dX8_section_38 (by decide) (fun x38 h H locs hq hR hS => ?_)
    refine xzEq hx hb hq (tgt := 65) dX8_section_41 (by decide) (fun hq => ?_) (fun hq => ?_)
    · exact t_X8_section_65 Z hr hlk hin  h H locs ls hq hR hS (hl.sub [] rfl)
    refine xiln hx hb hl (x := l3) 3 rfl dX8_section_44 ?_
    refine lv_iconst (v := 1) hx hb dX8_section_45 (by decide) ?_
    refine lv_bipush (v := 30) hx hb dX8_section_46 (by decide) ?_
    refine xcS Z hR hS hl (rest := []) (As := [.int l3, .int 1, .int 30]) hq cl_X8_111 (fun x h1 hc => c_X8_in l l3 1 30 h x h1 hc) ⟨⟨rfl, rfl⟩, (by decide), (by decide)⟩ rfl rfl (by first | decide | (simp only [List.map_cons, List.map_nil, rf_cat, ct_int, ct_ref, List.sum_cons, List.sum_nil] <;> decide)) dX8_section_48 (by decide) (fun x48 h H locs hq hR hS => ?_)
    refine xzEq hx hb hq (tgt := 65) dX8_section_51 (by decide) (fun hq => ?_) (fun hq => ?_)
    · exact t_X8_section_65 Z hr hlk hin  h H locs ls hq hR hS (hl.sub [] rfl)
    refine xil hx hb hl (x := l4) 4 rfl dX8_section_54 ?_
    refine lv_iconst (v := 1) hx hb dX8_section_56 (by decide) ?_
    refine lv_bipush (v := 30) hx hb dX8_section_57 (by decide) ?_
    refine xcS Z hR hS hl (rest := []) (As := [.int l4, .int 1, .int 30]) hq cl_X8_111 (fun x h1 hc => c_X8_in l l4 1 30 h x h1 hc) ⟨⟨rfl, rfl⟩, (by decide), (by decide)⟩ rfl rfl (by first | decide | (simp only [List.map_cons, List.map_nil, rf_cat, ct_int, ct_ref, List.sum_cons, List.sum_nil] <;> decide)) dX8_section_59 (by decide) (fun x59 h H locs hq hR hS => ?_)
    refine xzNe hx hb hq (tgt := 67) dX8_section_62 (by decide) (fun hq => ?_) (fun hq => ?_)
    · refine xaln hx hb hl (x := l0) 0 rfl dX8_section_67 ?_
      refine xgR Z hR hq fl_X8_9 rfl dX8_section_68 (fun x68 hq => ?_)
      refine xiln hx hb hl (x := l1) 1 rfl dX8_section_71 ?_
      refine xiln hx hb hl (x := l2) 2 rfl dX8_section_72 ?_
      refine xsZ Z hR hS hq dX8_section_73 (fun h H locs hq hR hS => ?_)
      refine xaln hx hb hl (x := l0) 0 rfl dX8_section_74 ?_
      refine xgR Z hR hq fl_X8_13 rfl dX8_section_75 (fun x75 hq => ?_)
      refine lv_iconst (v := 2) hx hb dX8_section_78 (by decide) ?_
      refine xiln hx hb hl (x := l1) 1 rfl dX8_section_79 ?_
      refine lv_imul hx hb dX8_section_80 ?_
      refine xiln hx hb hl (x := l3) 3 rfl dX8_section_81 ?_
      refine xsI Z hR hS hq dX8_section_82 (fun h H locs hq hR hS => ?_)
      refine xaln hx hb hl (x := l0) 0 rfl dX8_section_83 ?_
      refine xgR Z hR hq fl_X8_13 rfl dX8_section_84 (fun x84 hq => ?_)
      refine lv_iconst (v := 2) hx hb dX8_section_87 (by decide) ?_
      refine xiln hx hb hl (x := l1) 1 rfl dX8_section_88 ?_
      refine lv_imul hx hb dX8_section_89 ?_
      refine lv_iconst (v := 1) hx hb dX8_section_90 (by decide) ?_
      refine lv_iadd hx hb dX8_section_91 ?_
      refine xil hx hb hl (x := l4) 4 rfl dX8_section_92 ?_
      refine xsI Z hR hS hq dX8_section_94 (fun h H locs hq hR hS => ?_)
      refine lv_iconst (v := 1) hx hb dX8_section_95 (by decide) ?_
      exact xrZ hx hb hr hlk hR hS hq (by decide) (by decide) dX8_section_96
    exact t_X8_section_65 Z hr hlk hin  h H locs ls hq hR hS (hl.sub [] rfl)
  refine xaln hx hb hl (x := l0) 0 rfl dX8_section_12 ?_
  refine xgR Z hR hq fl_X8_60 rfl dX8_section_13 (fun x13 hq => ?_)
  refine xil hx hb hl (x := l5) 5 rfl dX8_section_16 ?_
  refine xaZ Z hR hq dX8_section_18 (fun x18 hq => ?_)
  refine xzEq hx hb hq (tgt := 24) dX8_section_19 (by decide) (fun hq => ?_) (fun hq => ?_)
  · refine xinc hx hb hl (x := l5) (v := (l5 + 1)) (lv' := [(5, .int (l5 + 1)), (0, va_rf l0), (1, .int l1), (2, .int l2), (3, .int l3), (4, .int l4)]) 5 rfl (by rw [show Int32.ofInt (1) = (1 : Int32) from by decide]) (by decide) dX8_section_24 rfl (fun ls hl => ?_)
    refine lv_goto (tgt := 3) hx hb dX8_section_27 (by decide) ?_
    exact hk3 (l0, l1, l2, l3, l4, (l5 + 1), h) hq H locs ls hR hS (hl.sub [1, 2, 3, 4, 5, 0] rfl)
  refine lv_iconst (v := 0) hx hb dX8_section_22 (by decide) ?_
  exact xrZ hx hb hr hlk hR hS hq (by decide) (by decide) dX8_section_23
def f_X8_section_3  (l0 : Option Nat) (l1 : Int32) (l2 : Int32) (l3 : Int32) (l4 : Int32) (l5 : Int32) (h : Hp) : Option (Int32 × Hp) :=
  lp (fun (k3 : Option Nat × Int32 × Int32 × Int32 × Int32 × Int32 × Hp → Option (Int32 × Hp)) (u : Option Nat × Int32 × Int32 × Int32 × Int32 × Int32 × Hp) => fb_X8_section_3 k3 u.1 u.2.1 u.2.2.1 u.2.2.2.1 u.2.2.2.2.1 u.2.2.2.2.2.1 u.2.2.2.2.2.2) FU (l0, l1, l2, l3, l4, l5, h)
theorem t_X8_section_3 (Z : ZZ p s m args c cX8_section RX8 6 G) (hr : meth.sig.returnType = (some .boolean)) (hlk : meth.locks = false) (hin : meth.name = "section") {v : Int32} {h1 : Hp} : ∀ (l0 : Option Nat) (l1 : Int32) (l2 : Int32) (l3 : Int32) (l4 : Int32) (l5 : Int32) (h : Hp) (H : Heap) (locs : List Loc) (ls : Array Slot), f_X8_section_3 l0 l1 l2 l3 l4 l5 h = some (v, h1) → Rep G h H → va_S (AA G) s.heap H locs → LV ls 6 [(0, va_rf l0), (1, .int l1), (2, .int l2), (3, .int l3), (4, .int l4), (5, .int l5)] → W p l e rm_X8_section s m args below meth c H locs 0 0 (MQ below (Qx G (some (.int v)) h1) args s 0 0 (AA G)) (F0 m 3 ls []) := by
  intro l0 l1 l2 l3 l4 l5 h H locs ls hq hR hS hl
  exact lp_ind (P := fun u : Option Nat × Int32 × Int32 × Int32 × Int32 × Int32 × Hp => ∀ (H : Heap) (locs : List Loc) (ls : Array Slot), Rep G u.2.2.2.2.2.2 H → va_S (AA G) s.heap H locs → LV ls 6 [(0, va_rf u.1), (1, .int u.2.1), (2, .int u.2.2.1), (3, .int u.2.2.2.1), (4, .int u.2.2.2.2.1), (5, .int u.2.2.2.2.2.1)] → W p l e rm_X8_section s m args below meth c H locs 0 0 (MQ below (Qx G (some (.int v)) h1) args s 0 0 (AA G)) (F0 m 3 ls [])) (fun k hk u hq H locs ls hR hS hl => tb_X8_section_3 Z hr hlk hin hk u.1 u.2.1 u.2.2.1 u.2.2.2.1 u.2.2.2.2.1 u.2.2.2.2.2.1 u.2.2.2.2.2.2 H locs ls hq hR hS hl) FU (l0, l1, l2, l3, l4, l5, h) hq H locs ls hR hS hl
def f_X8_section (this : Nat) (a0 : Int32) (a1 : Int32) (a2 : Int32) (a3 : Int32) (h : Hp) : Option (Int32 × Hp) :=
f_X8_section_3 (some this) a0 a1 a2 a3 0 h
set_option maxHeartbeats 4000000 in
set_option maxRecDepth 100000 in
theorem c_X8_section (l : Launch) {G : GG} (this : Nat) (a0 : Int32) (a1 : Int32) (a2 : Int32) (a3 : Int32) (h : Hp) (v : Int32) (h1 : Hp) (hq : f_X8_section this a0 a1 a2 a3 h = some (v, h1)) : Met l yX8_section (Cond.code yX8_section cX8_section 6 (some .boolean) :: GT) rm_X8_section (va_Pc [.ref this, .int a0, .int a1, .int a2, .int a3] (Cn G h)) (Qx G (some (.int v)) h1) 0 0 (AA G) := by
  refine xMet (cc := cX8_section) (by decide) (Nat.le_of_ble_eq_true rfl) (List.forall_mem_cons.mpr ⟨rfl, (List.forall_mem_cons.mpr ⟨rfl, (List.forall_mem_cons.mpr ⟨rfl, (List.forall_mem_cons.mpr ⟨rfl, (List.forall_mem_cons.mpr ⟨rfl, (fun _ z => by cases z)⟩)⟩)⟩)⟩)⟩) ?_
  intro p e s m below meth c ls Z hr hlk hin hR hS hl
  have hx := Z.1
  have hb := Z.2.1
  have hl : LV ls 6 [(0, va_rf (some this)), (1, .int a0), (2, .int a1), (3, .int a2), (4, .int a3)] := hl
  unfold f_X8_section at hq
  refine lv_iconst (v := 0) hx hb dX8_section_0 (by decide) ?_
  refine xis hx hb hl (x := 0) (lv' := [(5, .int 0), (0, va_rf (some this)), (1, .int a0), (2, .int a1), (3, .int a2), (4, .int a3)]) (by decide) dX8_section_1 rfl (fun ls hl => ?_)
  exact t_X8_section_3 Z hr hlk hin (some this) a0 a1 a2 a3 0 h _ _ ls hq hR hS (hl.sub [1, 2, 3, 4, 5, 0] rfl)
abbrev rm_X8_tracks : Room := { frames := 1, cells := 0, slots := 0, locals := 22 }
def f_X8_tracks_24   (h : Hp) : Option (Int32 × Hp) :=
rtZ 0 h
set_option maxHeartbeats 4000000 in
set_option maxRecDepth 100000 in
theorem t_X8_tracks_24 (Z : ZZ p s m args c cX8_tracks RX8 3 G) (hr : meth.sig.returnType = (some .boolean)) (hlk : meth.locks = false) (hin : meth.name = "tracks") {v : Int32} {h1 : Hp} : ∀  (h : Hp) (H : Heap) (locs : List Loc) (ls : Array Slot), f_X8_tracks_24  h = some (v, h1) → Rep G h H → va_S (AA G) s.heap H locs → LV ls 3 [] → W p l e rm_X8_tracks s m args below meth c H locs 0 0 (MQ below (Qx G (some (.int v)) h1) args s 0 0 (AA G)) (F0 m 24 ls []) := by
  intro  h H locs ls hq hR hS hl
  have hx := Z.1
  have hb := Z.2.1
  unfold f_X8_tracks_24 at hq
  refine lv_iconst (v := 0) hx hb dX8_tracks_24 (by decide) ?_
  exact xrZ hx hb hr hlk hR hS hq (by decide) (by decide) dX8_tracks_25
def f_X8_tracks (this : Nat) (a0 : Int32) (a1 : Int32) (h : Hp) : Option (Int32 × Hp) :=
gI h (some this) 9 0 (fun x3 =>
bd (f_X8_in a0 0 (x3 - 1) h) (fun x8 h =>
(if x8 = 0 then
f_X8_tracks_24  h
else
bd (f_X8_in a1 0 9 h) (fun x18 h =>
(if x18 = 0 then
f_X8_tracks_24  h
else
gR h (some this) 9 3 (fun x27 =>
stI h x27 a0 a1 (fun h =>
rtZ 1 h)))))))
set_option maxHeartbeats 4000000 in
set_option maxRecDepth 100000 in
theorem c_X8_tracks (l : Launch) {G : GG} (this : Nat) (a0 : Int32) (a1 : Int32) (h : Hp) (v : Int32) (h1 : Hp) (hq : f_X8_tracks this a0 a1 h = some (v, h1)) : Met l yX8_tracks (Cond.code yX8_tracks cX8_tracks 3 (some .boolean) :: GT) rm_X8_tracks (va_Pc [.ref this, .int a0, .int a1] (Cn G h)) (Qx G (some (.int v)) h1) 0 0 (AA G) := by
  refine xMet (cc := cX8_tracks) (by decide) (Nat.le_of_ble_eq_true rfl) (List.forall_mem_cons.mpr ⟨rfl, (List.forall_mem_cons.mpr ⟨rfl, (List.forall_mem_cons.mpr ⟨rfl, (fun _ z => by cases z)⟩)⟩)⟩) ?_
  intro p e s m below meth c ls Z hr hlk hin hR hS hl
  have hx := Z.1
  have hb := Z.2.1
  have hl : LV ls 3 [(0, va_rf (some this)), (1, .int a0), (2, .int a1)] := hl
  unfold f_X8_tracks at hq
  refine xiln hx hb hl (x := a0) 1 rfl dX8_tracks_0 ?_
  refine lv_iconst (v := 0) hx hb dX8_tracks_1 (by decide) ?_
  refine xaln hx hb hl (x := (some this)) 0 rfl dX8_tracks_2 ?_
  refine xgI Z hR hq fl_X8_105 rfl dX8_tracks_3 (fun x3 hq => ?_)
  refine lv_iconst (v := 1) hx hb dX8_tracks_6 (by decide) ?_
  refine lv_isub hx hb dX8_tracks_7 ?_
  refine xcS Z hR hS hl (rest := []) (As := [.int a0, .int 0, .int (x3 - 1)]) hq cl_X8_111 (fun x h1 hc => c_X8_in l a0 0 (x3 - 1) h x h1 hc) ⟨⟨rfl, rfl⟩, (by decide), (by decide)⟩ rfl rfl (by first | decide | (simp only [List.map_cons, List.map_nil, rf_cat, ct_int, ct_ref, List.sum_cons, List.sum_nil] <;> decide)) dX8_tracks_8 (by decide) (fun x8 h H locs hq hR hS => ?_)
  refine xzEq hx hb hq (tgt := 24) dX8_tracks_11 (by decide) (fun hq => ?_) (fun hq => ?_)
  · exact t_X8_tracks_24 Z hr hlk hin  h _ _ ls hq hR hS (hl.sub [] rfl)
  refine xiln hx hb hl (x := a1) 2 rfl dX8_tracks_14 ?_
  refine lv_iconst (v := 0) hx hb dX8_tracks_15 (by decide) ?_
  refine lv_bipush (v := 9) hx hb dX8_tracks_16 (by decide) ?_
  refine xcS Z hR hS hl (rest := []) (As := [.int a1, .int 0, .int 9]) hq cl_X8_111 (fun x h1 hc => c_X8_in l a1 0 9 h x h1 hc) ⟨⟨rfl, rfl⟩, (by decide), (by decide)⟩ rfl rfl (by first | decide | (simp only [List.map_cons, List.map_nil, rf_cat, ct_int, ct_ref, List.sum_cons, List.sum_nil] <;> decide)) dX8_tracks_18 (by decide) (fun x18 h H locs hq hR hS => ?_)
  refine xzNe hx hb hq (tgt := 26) dX8_tracks_21 (by decide) (fun hq => ?_) (fun hq => ?_)
  · refine xaln hx hb hl (x := (some this)) 0 rfl dX8_tracks_26 ?_
    refine xgR Z hR hq fl_X8_17 rfl dX8_tracks_27 (fun x27 hq => ?_)
    refine xiln hx hb hl (x := a0) 1 rfl dX8_tracks_30 ?_
    refine xiln hx hb hl (x := a1) 2 rfl dX8_tracks_31 ?_
    refine xsI Z hR hS hq dX8_tracks_32 (fun h H locs hq hR hS => ?_)
    refine lv_iconst (v := 1) hx hb dX8_tracks_33 (by decide) ?_
    exact xrZ hx hb hr hlk hR hS hq (by decide) (by decide) dX8_tracks_34
  exact t_X8_tracks_24 Z hr hlk hin  h _ _ ls hq hR hS (hl.sub [] rfl)
abbrev rm_X8_headway : Room := { frames := 1, cells := 0, slots := 0, locals := 22 }
def f_X8_headway (this : Nat) (a0 : Int32) (h : Hp) : Option (Int32 × Hp) :=
bd (f_X8_in a0 0 9 h) (fun x4 h =>
(if x4 = 0 then
rtZ 0 h
else
pI h (some this) 9 4 a0 (fun h =>
rtZ 1 h)))
set_option maxHeartbeats 4000000 in
set_option maxRecDepth 100000 in
theorem c_X8_headway (l : Launch) {G : GG} (this : Nat) (a0 : Int32) (h : Hp) (v : Int32) (h1 : Hp) (hq : f_X8_headway this a0 h = some (v, h1)) : Met l yX8_headway (Cond.code yX8_headway cX8_headway 2 (some .boolean) :: GT) rm_X8_headway (va_Pc [.ref this, .int a0] (Cn G h)) (Qx G (some (.int v)) h1) 0 0 (AA G) := by
  refine xMet (cc := cX8_headway) (by decide) (Nat.le_of_ble_eq_true rfl) (List.forall_mem_cons.mpr ⟨rfl, (List.forall_mem_cons.mpr ⟨rfl, (fun _ z => by cases z)⟩)⟩) ?_
  intro p e s m below meth c ls Z hr hlk hin hR hS hl
  have hx := Z.1
  have hb := Z.2.1
  have hl : LV ls 2 [(0, va_rf (some this)), (1, .int a0)] := hl
  unfold f_X8_headway at hq
  refine xiln hx hb hl (x := a0) 1 rfl dX8_headway_0 ?_
  refine lv_iconst (v := 0) hx hb dX8_headway_1 (by decide) ?_
  refine lv_bipush (v := 9) hx hb dX8_headway_2 (by decide) ?_
  refine xcS Z hR hS hl (rest := []) (As := [.int a0, .int 0, .int 9]) hq cl_X8_111 (fun x h1 hc => c_X8_in l a0 0 9 h x h1 hc) ⟨⟨rfl, rfl⟩, (by decide), (by decide)⟩ rfl rfl (by first | decide | (simp only [List.map_cons, List.map_nil, rf_cat, ct_int, ct_ref, List.sum_cons, List.sum_nil] <;> decide)) dX8_headway_4 (by decide) (fun x4 h H locs hq hR hS => ?_)
  refine xzNe hx hb hq (tgt := 12) dX8_headway_7 (by decide) (fun hq => ?_) (fun hq => ?_)
  · refine xaln hx hb hl (x := (some this)) 0 rfl dX8_headway_12 ?_
    refine xiln hx hb hl (x := a0) 1 rfl dX8_headway_13 ?_
    refine xpI Z hR hS hq fl_X8_20 rfl (Or.inl nf_9_4) dX8_headway_14 (fun h H locs hq hR hS => ?_)
    refine lv_iconst (v := 1) hx hb dX8_headway_17 (by decide) ?_
    exact xrZ hx hb hr hlk hR hS hq (by decide) (by decide) dX8_headway_18
  refine lv_iconst (v := 0) hx hb dX8_headway_10 (by decide) ?_
  exact xrZ hx hb hr hlk hR hS hq (by decide) (by decide) dX8_headway_11
abbrev rm_X8_works : Room := { frames := 1, cells := 0, slots := 0, locals := 22 }
def f_X8_works_47   (h : Hp) : Option (Int32 × Hp) :=
rtZ 0 h
set_option maxHeartbeats 4000000 in
set_option maxRecDepth 100000 in
theorem t_X8_works_47 (Z : ZZ p s m args c cX8_works RX8 4 G) (hr : meth.sig.returnType = (some .boolean)) (hlk : meth.locks = false) (hin : meth.name = "works") {v : Int32} {h1 : Hp} : ∀  (h : Hp) (H : Heap) (locs : List Loc) (ls : Array Slot), f_X8_works_47  h = some (v, h1) → Rep G h H → va_S (AA G) s.heap H locs → LV ls 4 [] → W p l e rm_X8_works s m args below meth c H locs 0 0 (MQ below (Qx G (some (.int v)) h1) args s 0 0 (AA G)) (F0 m 47 ls []) := by
  intro  h H locs ls hq hR hS hl
  have hx := Z.1
  have hb := Z.2.1
  unfold f_X8_works_47 at hq
  refine lv_iconst (v := 0) hx hb dX8_works_47 (by decide) ?_
  exact xrZ hx hb hr hlk hR hS hq (by decide) (by decide) dX8_works_48
def f_X8_works (this : Nat) (a0 : Int32) (a1 : Int32) (a2 : Int32) (h : Hp) : Option (Int32 × Hp) :=
gI h (some this) 9 0 (fun x3 =>
bd (f_X8_in a0 0 (x3 - 2) h) (fun x8 h =>
(if x8 = 0 then
f_X8_works_47  h
else
bd (f_X8_in a1 0 480 h) (fun x19 h =>
(if x19 = 0 then
f_X8_works_47  h
else
bd (f_X8_in a2 (a1 + 1) 480 h) (fun x32 h =>
(if x32 = 0 then
f_X8_works_47  h
else
gI h (some this) 9 5 (fun x39 =>
(if x39 = 10 then
f_X8_works_47  h
else
gR h (some this) 9 6 (fun x50 =>
gI h (some this) 9 5 (fun x54 =>
stI h x50 x54 a0 (fun h =>
gR h (some this) 9 7 (fun x60 =>
gI h (some this) 9 5 (fun x64 =>
stI h x60 x64 a1 (fun h =>
gR h (some this) 9 8 (fun x70 =>
gI h (some this) 9 5 (fun x74 =>
stI h x70 x74 a2 (fun h =>
gI h (some this) 9 5 (fun x81 =>
pI h (some this) 9 5 (x81 + 1) (fun h =>
rtZ 1 h))))))))))))))))))))
set_option maxHeartbeats 4000000 in
set_option maxRecDepth 100000 in
theorem c_X8_works (l : Launch) {G : GG} (this : Nat) (a0 : Int32) (a1 : Int32) (a2 : Int32) (h : Hp) (v : Int32) (h1 : Hp) (hq : f_X8_works this a0 a1 a2 h = some (v, h1)) : Met l yX8_works (Cond.code yX8_works cX8_works 4 (some .boolean) :: GT) rm_X8_works (va_Pc [.ref this, .int a0, .int a1, .int a2] (Cn G h)) (Qx G (some (.int v)) h1) 0 0 (AA G) := by
  refine xMet (cc := cX8_works) (by decide) (Nat.le_of_ble_eq_true rfl) (List.forall_mem_cons.mpr ⟨rfl, (List.forall_mem_cons.mpr ⟨rfl, (List.forall_mem_cons.mpr ⟨rfl, (List.forall_mem_cons.mpr ⟨rfl, (fun _ z => by cases z)⟩)⟩)⟩)⟩) ?_
  intro p e s m below meth c ls Z hr hlk hin hR hS hl
  have hx := Z.1
  have hb := Z.2.1
  have hl : LV ls 4 [(0, va_rf (some this)), (1, .int a0), (2, .int a1), (3, .int a2)] := hl
  unfold f_X8_works at hq
  refine xiln hx hb hl (x := a0) 1 rfl dX8_works_0 ?_
  refine lv_iconst (v := 0) hx hb dX8_works_1 (by decide) ?_
  refine xaln hx hb hl (x := (some this)) 0 rfl dX8_works_2 ?_
  refine xgI Z hR hq fl_X8_105 rfl dX8_works_3 (fun x3 hq => ?_)
  refine lv_iconst (v := 2) hx hb dX8_works_6 (by decide) ?_
  refine lv_isub hx hb dX8_works_7 ?_
  refine xcS Z hR hS hl (rest := []) (As := [.int a0, .int 0, .int (x3 - 2)]) hq cl_X8_111 (fun x h1 hc => c_X8_in l a0 0 (x3 - 2) h x h1 hc) ⟨⟨rfl, rfl⟩, (by decide), (by decide)⟩ rfl rfl (by first | decide | (simp only [List.map_cons, List.map_nil, rf_cat, ct_int, ct_ref, List.sum_cons, List.sum_nil] <;> decide)) dX8_works_8 (by decide) (fun x8 h H locs hq hR hS => ?_)
  refine xzEq hx hb hq (tgt := 47) dX8_works_11 (by decide) (fun hq => ?_) (fun hq => ?_)
  · exact t_X8_works_47 Z hr hlk hin  h _ _ ls hq hR hS (hl.sub [] rfl)
  refine xiln hx hb hl (x := a1) 2 rfl dX8_works_14 ?_
  refine lv_iconst (v := 0) hx hb dX8_works_15 (by decide) ?_
  refine lv_sipush (v := 480) hx hb dX8_works_16 (by decide) ?_
  refine xcS Z hR hS hl (rest := []) (As := [.int a1, .int 0, .int 480]) hq cl_X8_111 (fun x h1 hc => c_X8_in l a1 0 480 h x h1 hc) ⟨⟨rfl, rfl⟩, (by decide), (by decide)⟩ rfl rfl (by first | decide | (simp only [List.map_cons, List.map_nil, rf_cat, ct_int, ct_ref, List.sum_cons, List.sum_nil] <;> decide)) dX8_works_19 (by decide) (fun x19 h H locs hq hR hS => ?_)
  refine xzEq hx hb hq (tgt := 47) dX8_works_22 (by decide) (fun hq => ?_) (fun hq => ?_)
  · exact t_X8_works_47 Z hr hlk hin  h _ _ ls hq hR hS (hl.sub [] rfl)
  refine xiln hx hb hl (x := a2) 3 rfl dX8_works_25 ?_
  refine xiln hx hb hl (x := a1) 2 rfl dX8_works_26 ?_
  refine lv_iconst (v := 1) hx hb dX8_works_27 (by decide) ?_
  refine lv_iadd hx hb dX8_works_28 ?_
  refine lv_sipush (v := 480) hx hb dX8_works_29 (by decide) ?_
  refine xcS Z hR hS hl (rest := []) (As := [.int a2, .int (a1 + 1), .int 480]) hq cl_X8_111 (fun x h1 hc => c_X8_in l a2 (a1 + 1) 480 h x h1 hc) ⟨⟨rfl, rfl⟩, (by decide), (by decide)⟩ rfl rfl (by first | decide | (simp only [List.map_cons, List.map_nil, rf_cat, ct_int, ct_ref, List.sum_cons, List.sum_nil] <;> decide)) dX8_works_32 (by decide) (fun x32 h H locs hq hR hS => ?_)
  refine xzEq hx hb hq (tgt := 47) dX8_works_35 (by decide) (fun hq => ?_) (fun hq => ?_)
  · exact t_X8_works_47 Z hr hlk hin  h _ _ ls hq hR hS (hl.sub [] rfl)
  refine xaln hx hb hl (x := (some this)) 0 rfl dX8_works_38 ?_
  refine xgI Z hR hq fl_X8_115 rfl dX8_works_39 (fun x39 hq => ?_)
  refine lv_bipush (v := 10) hx hb dX8_works_42 (by decide) ?_
  refine xcNe hx hb hq (tgt := 49) dX8_works_44 (by decide) (fun hq => ?_) (fun hq => ?_)
  · refine xaln hx hb hl (x := (some this)) 0 rfl dX8_works_49 ?_
    refine xgR Z hR hq fl_X8_24 rfl dX8_works_50 (fun x50 hq => ?_)
    refine xaln hx hb hl (x := (some this)) 0 rfl dX8_works_53 ?_
    refine xgI Z hR hq fl_X8_115 rfl dX8_works_54 (fun x54 hq => ?_)
    refine xiln hx hb hl (x := a0) 1 rfl dX8_works_57 ?_
    refine xsI Z hR hS hq dX8_works_58 (fun h H locs hq hR hS => ?_)
    refine xaln hx hb hl (x := (some this)) 0 rfl dX8_works_59 ?_
    refine xgR Z hR hq fl_X8_27 rfl dX8_works_60 (fun x60 hq => ?_)
    refine xaln hx hb hl (x := (some this)) 0 rfl dX8_works_63 ?_
    refine xgI Z hR hq fl_X8_115 rfl dX8_works_64 (fun x64 hq => ?_)
    refine xiln hx hb hl (x := a1) 2 rfl dX8_works_67 ?_
    refine xsI Z hR hS hq dX8_works_68 (fun h H locs hq hR hS => ?_)
    refine xaln hx hb hl (x := (some this)) 0 rfl dX8_works_69 ?_
    refine xgR Z hR hq fl_X8_30 rfl dX8_works_70 (fun x70 hq => ?_)
    refine xaln hx hb hl (x := (some this)) 0 rfl dX8_works_73 ?_
    refine xgI Z hR hq fl_X8_115 rfl dX8_works_74 (fun x74 hq => ?_)
    refine xiln hx hb hl (x := a2) 3 rfl dX8_works_77 ?_
    refine xsI Z hR hS hq dX8_works_78 (fun h H locs hq hR hS => ?_)
    refine xaln hx hb hl (x := (some this)) 0 rfl dX8_works_79 ?_
    refine lv_dup hx hb dX8_works_80 (rf_cat (some this)) ?_
    refine xgI Z hR hq fl_X8_115 rfl dX8_works_81 (fun x81 hq => ?_)
    refine lv_iconst (v := 1) hx hb dX8_works_84 (by decide) ?_
    refine lv_iadd hx hb dX8_works_85 ?_
    refine xpI Z hR hS hq fl_X8_115 rfl (Or.inl nf_9_5) dX8_works_86 (fun h H locs hq hR hS => ?_)
    refine lv_iconst (v := 1) hx hb dX8_works_89 (by decide) ?_
    exact xrZ hx hb hr hlk hR hS hq (by decide) (by decide) dX8_works_90
  exact t_X8_works_47 Z hr hlk hin  h _ _ ls hq hR hS (hl.sub [] rfl)
abbrev rm_X8_bid : Room := { frames := 1, cells := 0, slots := 0, locals := 22 }
def f_X8_bid_88   (h : Hp) : Option (Int32 × Hp) :=
rtI (-1) h
set_option maxHeartbeats 4000000 in
set_option maxRecDepth 100000 in
theorem t_X8_bid_88 (Z : ZZ p s m args c cX8_bid RX8 9 G) (hr : meth.sig.returnType = (some .int)) (hlk : meth.locks = false) (hin : meth.name = "bid") {v : Int32} {h1 : Hp} : ∀  (h : Hp) (H : Heap) (locs : List Loc) (ls : Array Slot), f_X8_bid_88  h = some (v, h1) → Rep G h H → va_S (AA G) s.heap H locs → LV ls 9 [] → W p l e rm_X8_bid s m args below meth c H locs 0 0 (MQ below (Qx G (some (.int v)) h1) args s 0 0 (AA G)) (F0 m 88 ls []) := by
  intro  h H locs ls hq hR hS hl
  have hx := Z.1
  have hb := Z.2.1
  unfold f_X8_bid_88 at hq
  refine lv_iconst (v := (-1)) hx hb dX8_bid_88 (by decide) ?_
  exact xrI hx hb hr hlk hR hS hq (by decide) (by decide) dX8_bid_89
def f_X8_bid_143   (h : Hp) : Option (Int32 × Hp) :=
rtI (-1) h
set_option maxHeartbeats 4000000 in
set_option maxRecDepth 100000 in
theorem t_X8_bid_143 (Z : ZZ p s m args c cX8_bid RX8 9 G) (hr : meth.sig.returnType = (some .int)) (hlk : meth.locks = false) (hin : meth.name = "bid") {v : Int32} {h1 : Hp} : ∀  (h : Hp) (H : Heap) (locs : List Loc) (ls : Array Slot), f_X8_bid_143  h = some (v, h1) → Rep G h H → va_S (AA G) s.heap H locs → LV ls 9 [] → W p l e rm_X8_bid s m args below meth c H locs 0 0 (MQ below (Qx G (some (.int v)) h1) args s 0 0 (AA G)) (F0 m 143 ls []) := by
  intro  h H locs ls hq hR hS hl
  have hx := Z.1
  have hb := Z.2.1
  unfold f_X8_bid_143 at hq
  refine lv_iconst (v := (-1)) hx hb dX8_bid_143 (by decide) ?_
  exact xrI hx hb hr hlk hR hS hq (by decide) (by decide) dX8_bid_144
def f_X8_bid (this : Nat) (a0 : Int32) (a1 : Int32) (a2 : Int32) (a3 : Int32) (h : Hp) : Option (Int32 × Hp) :=
(if a0 < 0 then
f_X8_bid_88  h
else
(if a1 < 0 then
f_X8_bid_88  h
else
(if (a0 - a0 / 10 * 10) = 0 then
(if 6 ≤ (a0 / 10000) then
f_X8_bid_88  h
else
gI h (some this) 9 0 (fun x60 =>
(if x60 ≤ ((a0 / 1000) - (a0 / 1000) / 10 * 10) then
f_X8_bid_88  h
else
gI h (some this) 9 0 (fun x69 =>
(if x69 ≤ ((a0 / 100) - (a0 / 100) / 10 * 10) then
f_X8_bid_88  h
else
(if ((a0 / 1000) - (a0 / 1000) / 10 * 10) = ((a0 / 100) - (a0 / 100) / 10 * 10) then
f_X8_bid_88  h
else
(if ((a0 / 10) - (a0 / 10) / 10 * 10) ≤ 1 then
(if 240 ≤ (a1 / 1000) then
f_X8_bid_143  h
else
(if 240 ≤ (a1 - a1 / 1000 * 1000) then
f_X8_bid_143  h
else
bd (f_X8_in a2 0 1000 h) (fun x117 h =>
(if x117 = 0 then
f_X8_bid_143  h
else
bd (f_X8_in a3 0 99 h) (fun x128 h =>
(if x128 = 0 then
f_X8_bid_143  h
else
gI h (some this) 9 9 (fun x135 =>
(if x135 = 16 then
f_X8_bid_143  h
else
gR h (some this) 9 10 (fun x146 =>
gI h (some this) 9 9 (fun x150 =>
stI h x146 x150 (a0 / 10000) (fun h =>
gR h (some this) 9 11 (fun x157 =>
gI h (some this) 9 9 (fun x161 =>
stI h x157 x161 ((a0 / 1000) - (a0 / 1000) / 10 * 10) (fun h =>
gR h (some this) 9 12 (fun x168 =>
gI h (some this) 9 9 (fun x172 =>
stI h x168 x172 ((a0 / 100) - (a0 / 100) / 10 * 10) (fun h =>
gR h (some this) 9 13 (fun x179 =>
gI h (some this) 9 9 (fun x183 =>
stI h x179 x183 ((a0 / 10) - (a0 / 10) / 10 * 10) (fun h =>
gR h (some this) 9 14 (fun x190 =>
gI h (some this) 9 9 (fun x194 =>
stI h x190 x194 (a1 / 1000) (fun h =>
gR h (some this) 9 15 (fun x204 =>
gI h (some this) 9 9 (fun x208 =>
stI h x204 x208 (a1 - a1 / 1000 * 1000) (fun h =>
gR h (some this) 9 16 (fun x218 =>
gI h (some this) 9 9 (fun x222 =>
stI h x218 x222 a2 (fun h =>
gR h (some this) 9 17 (fun x228 =>
gI h (some this) 9 9 (fun x232 =>
stI h x228 x232 a3 (fun h =>
gI h (some this) 9 9 (fun x240 =>
pI h (some this) 9 9 (x240 + 1) (fun h =>
gI h (some this) 9 9 (fun x249 =>
rtI (x249 - 1) h)))))))))))))))))))))))))))))))))))
else
f_X8_bid_88  h)))))))
else
f_X8_bid_88  h)))
set_option maxHeartbeats 4000000 in
set_option maxRecDepth 100000 in
theorem c_X8_bid (l : Launch) {G : GG} (this : Nat) (a0 : Int32) (a1 : Int32) (a2 : Int32) (a3 : Int32) (h : Hp) (v : Int32) (h1 : Hp) (hq : f_X8_bid this a0 a1 a2 a3 h = some (v, h1)) : Met l yX8_bid (Cond.code yX8_bid cX8_bid 9 (some .int) :: GT) rm_X8_bid (va_Pc [.ref this, .int a0, .int a1, .int a2, .int a3] (Cn G h)) (Qx G (some (.int v)) h1) 0 0 (AA G) := by
  refine xMet (cc := cX8_bid) (by decide) (Nat.le_of_ble_eq_true rfl) (List.forall_mem_cons.mpr ⟨rfl, (List.forall_mem_cons.mpr ⟨rfl, (List.forall_mem_cons.mpr ⟨rfl, (List.forall_mem_cons.mpr ⟨rfl, (List.forall_mem_cons.mpr ⟨rfl, (fun _ z => by cases z)⟩)⟩)⟩)⟩)⟩) ?_
  intro p e s m below meth c ls Z hr hlk hin hR hS hl
  have hx := Z.1
  have hb := Z.2.1
  have hl : LV ls 9 [(0, va_rf (some this)), (1, .int a0), (2, .int a1), (3, .int a2), (4, .int a3)] := hl
  unfold f_X8_bid at hq
  refine xiln hx hb hl (x := a0) 1 rfl dX8_bid_0 ?_
  refine lv_sipush (v := 10000) hx hb dX8_bid_1 (by decide) ?_
  refine lv_idiv hx hb dX8_bid_4 (by decide) ?_
  refine xis hx hb hl (x := (a0 / 10000)) (lv' := [(5, .int (a0 / 10000)), (0, va_rf (some this)), (1, .int a0), (2, .int a1), (3, .int a2), (4, .int a3)]) (by decide) dX8_bid_5 rfl (fun ls hl => ?_)
  refine xiln hx hb hl (x := a0) 2 rfl dX8_bid_7 ?_
  refine lv_sipush (v := 1000) hx hb dX8_bid_8 (by decide) ?_
  refine lv_idiv hx hb dX8_bid_11 (by decide) ?_
  refine lv_bipush (v := 10) hx hb dX8_bid_12 (by decide) ?_
  refine lv_irem hx hb dX8_bid_14 (by decide) ?_
  refine xis hx hb hl (x := ((a0 / 1000) - (a0 / 1000) / 10 * 10)) (lv' := [(6, .int ((a0 / 1000) - (a0 / 1000) / 10 * 10)), (5, .int (a0 / 10000)), (0, va_rf (some this)), (1, .int a0), (2, .int a1), (3, .int a2), (4, .int a3)]) (by decide) dX8_bid_15 rfl (fun ls hl => ?_)
  refine xiln hx hb hl (x := a0) 3 rfl dX8_bid_17 ?_
  refine lv_bipush (v := 100) hx hb dX8_bid_18 (by decide) ?_
  refine lv_idiv hx hb dX8_bid_20 (by decide) ?_
  refine lv_bipush (v := 10) hx hb dX8_bid_21 (by decide) ?_
  refine lv_irem hx hb dX8_bid_23 (by decide) ?_
  refine xis hx hb hl (x := ((a0 / 100) - (a0 / 100) / 10 * 10)) (lv' := [(7, .int ((a0 / 100) - (a0 / 100) / 10 * 10)), (6, .int ((a0 / 1000) - (a0 / 1000) / 10 * 10)), (5, .int (a0 / 10000)), (0, va_rf (some this)), (1, .int a0), (2, .int a1), (3, .int a2), (4, .int a3)]) (by decide) dX8_bid_24 rfl (fun ls hl => ?_)
  refine xiln hx hb hl (x := a0) 4 rfl dX8_bid_26 ?_
  refine lv_bipush (v := 10) hx hb dX8_bid_27 (by decide) ?_
  refine lv_idiv hx hb dX8_bid_29 (by decide) ?_
  refine lv_bipush (v := 10) hx hb dX8_bid_30 (by decide) ?_
  refine lv_irem hx hb dX8_bid_32 (by decide) ?_
  refine xis hx hb hl (x := ((a0 / 10) - (a0 / 10) / 10 * 10)) (lv' := [(8, .int ((a0 / 10) - (a0 / 10) / 10 * 10)), (7, .int ((a0 / 100) - (a0 / 100) / 10 * 10)), (6, .int ((a0 / 1000) - (a0 / 1000) / 10 * 10)), (5, .int (a0 / 10000)), (0, va_rf (some this)), (1, .int a0), (2, .int a1), (3, .int a2), (4, .int a3)]) (by decide) dX8_bid_33 rfl (fun ls hl => ?_)
  refine xiln hx hb hl (x := a0) 5 rfl dX8_bid_35 ?_
  refine xzLt hx hb hq (tgt := 88) dX8_bid_36 (by decide) (fun hq => ?_) (fun hq => ?_)
  · exact t_X8_bid_88 Z hr hlk hin  h _ _ ls hq hR hS (hl.sub [] rfl)
  refine xiln hx hb hl (x := a1) 6 rfl dX8_bid_39 ?_
  refine xzLt hx hb hq (tgt := 88) dX8_bid_40 (by decide) (fun hq => ?_) (fun hq => ?_)
  · exact t_X8_bid_88 Z hr hlk hin  h _ _ ls hq hR hS (hl.sub [] rfl)
  refine xiln hx hb hl (x := a0) 5 rfl dX8_bid_43 ?_
  refine lv_bipush (v := 10) hx hb dX8_bid_44 (by decide) ?_
  refine lv_irem hx hb dX8_bid_46 (by decide) ?_
  refine xzNe hx hb hq (tgt := 88) dX8_bid_47 (by decide) (fun hq => ?_) (fun hq => ?_)
  · exact t_X8_bid_88 Z hr hlk hin  h _ _ ls hq hR hS (hl.sub [] rfl)
  refine xil hx hb hl (x := (a0 / 10000)) 3 rfl dX8_bid_50 ?_
  refine lv_bipush (v := 6) hx hb dX8_bid_52 (by decide) ?_
  refine xcGe hx hb hq (tgt := 88) dX8_bid_54 (by decide) (fun hq => ?_) (fun hq => ?_)
  · exact t_X8_bid_88 Z hr hlk hin  h _ _ ls hq hR hS (hl.sub [] rfl)
  refine xil hx hb hl (x := ((a0 / 1000) - (a0 / 1000) / 10 * 10)) 2 rfl dX8_bid_57 ?_
  refine xaln hx hb hl (x := (some this)) 4 rfl dX8_bid_59 ?_
  refine xgI Z hR hq fl_X8_105 rfl dX8_bid_60 (fun x60 hq => ?_)
  refine xcGe hx hb hq (tgt := 88) dX8_bid_63 (by decide) (fun hq => ?_) (fun hq => ?_)
  · exact t_X8_bid_88 Z hr hlk hin  h _ _ ls hq hR hS (hl.sub [] rfl)
  refine xil hx hb hl (x := ((a0 / 100) - (a0 / 100) / 10 * 10)) 1 rfl dX8_bid_66 ?_
  refine xaln hx hb hl (x := (some this)) 4 rfl dX8_bid_68 ?_
  refine xgI Z hR hq fl_X8_105 rfl dX8_bid_69 (fun x69 hq => ?_)
  refine xcGe hx hb hq (tgt := 88) dX8_bid_72 (by decide) (fun hq => ?_) (fun hq => ?_)
  · exact t_X8_bid_88 Z hr hlk hin  h _ _ ls hq hR hS (hl.sub [] rfl)
  refine xil hx hb hl (x := ((a0 / 1000) - (a0 / 1000) / 10 * 10)) 2 rfl dX8_bid_75 ?_
  refine xil hx hb hl (x := ((a0 / 100) - (a0 / 100) / 10 * 10)) 1 rfl dX8_bid_77 ?_
  refine xcEq hx hb hq (tgt := 88) dX8_bid_79 (by decide) (fun hq => ?_) (fun hq => ?_)
  · exact t_X8_bid_88 Z hr hlk hin  h _ _ ls hq hR hS (hl.sub [] rfl)
  refine xil hx hb hl (x := ((a0 / 10) - (a0 / 10) / 10 * 10)) 0 rfl dX8_bid_82 ?_
  refine lv_iconst (v := 1) hx hb dX8_bid_84 (by decide) ?_
  refine xcLe hx hb hq (tgt := 90) dX8_bid_85 (by decide) (fun hq => ?_) (fun hq => ?_)
  · refine xiln hx hb hl (x := a1) 6 rfl dX8_bid_90 ?_
    refine lv_sipush (v := 1000) hx hb dX8_bid_91 (by decide) ?_
    refine lv_idiv hx hb dX8_bid_94 (by decide) ?_
    refine lv_sipush (v := 240) hx hb dX8_bid_95 (by decide) ?_
    refine xcGe hx hb hq (tgt := 143) dX8_bid_98 (by decide) (fun hq => ?_) (fun hq => ?_)
    · exact t_X8_bid_143 Z hr hlk hin  h _ _ ls hq hR hS (hl.sub [] rfl)
    refine xiln hx hb hl (x := a1) 6 rfl dX8_bid_101 ?_
    refine lv_sipush (v := 1000) hx hb dX8_bid_102 (by decide) ?_
    refine lv_irem hx hb dX8_bid_105 (by decide) ?_
    refine lv_sipush (v := 240) hx hb dX8_bid_106 (by decide) ?_
    refine xcGe hx hb hq (tgt := 143) dX8_bid_109 (by decide) (fun hq => ?_) (fun hq => ?_)
    · exact t_X8_bid_143 Z hr hlk hin  h _ _ ls hq hR hS (hl.sub [] rfl)
    refine xiln hx hb hl (x := a2) 7 rfl dX8_bid_112 ?_
    refine lv_iconst (v := 0) hx hb dX8_bid_113 (by decide) ?_
    refine lv_sipush (v := 1000) hx hb dX8_bid_114 (by decide) ?_
    refine xcS Z hR hS hl (rest := []) (As := [.int a2, .int 0, .int 1000]) hq cl_X8_111 (fun x h1 hc => c_X8_in l a2 0 1000 h x h1 hc) ⟨⟨rfl, rfl⟩, (by decide), (by decide)⟩ rfl rfl (by first | decide | (simp only [List.map_cons, List.map_nil, rf_cat, ct_int, ct_ref, List.sum_cons, List.sum_nil] <;> decide)) dX8_bid_117 (by decide) (fun x117 h H locs hq hR hS => ?_)
    refine xzEq hx hb hq (tgt := 143) dX8_bid_120 (by decide) (fun hq => ?_) (fun hq => ?_)
    · exact t_X8_bid_143 Z hr hlk hin  h _ _ ls hq hR hS (hl.sub [] rfl)
    refine xil hx hb hl (x := a3) 8 rfl dX8_bid_123 ?_
    refine lv_iconst (v := 0) hx hb dX8_bid_125 (by decide) ?_
    refine lv_bipush (v := 99) hx hb dX8_bid_126 (by decide) ?_
    refine xcS Z hR hS hl (rest := []) (As := [.int a3, .int 0, .int 99]) hq cl_X8_111 (fun x h1 hc => c_X8_in l a3 0 99 h x h1 hc) ⟨⟨rfl, rfl⟩, (by decide), (by decide)⟩ rfl rfl (by first | decide | (simp only [List.map_cons, List.map_nil, rf_cat, ct_int, ct_ref, List.sum_cons, List.sum_nil] <;> decide)) dX8_bid_128 (by decide) (fun x128 h H locs hq hR hS => ?_)
    refine xzEq hx hb hq (tgt := 143) dX8_bid_131 (by decide) (fun hq => ?_) (fun hq => ?_)
    · exact t_X8_bid_143 Z hr hlk hin  h _ _ ls hq hR hS (hl.sub [] rfl)
    refine xaln hx hb hl (x := (some this)) 4 rfl dX8_bid_134 ?_
    refine xgI Z hR hq fl_X8_108 rfl dX8_bid_135 (fun x135 hq => ?_)
    refine lv_bipush (v := 16) hx hb dX8_bid_138 (by decide) ?_
    refine xcNe hx hb hq (tgt := 145) dX8_bid_140 (by decide) (fun hq => ?_) (fun hq => ?_)
    · refine xaln hx hb hl (x := (some this)) 4 rfl dX8_bid_145 ?_
      refine xgR Z hR hq fl_X8_33 rfl dX8_bid_146 (fun x146 hq => ?_)
      refine xaln hx hb hl (x := (some this)) 4 rfl dX8_bid_149 ?_
      refine xgI Z hR hq fl_X8_108 rfl dX8_bid_150 (fun x150 hq => ?_)
      refine xil hx hb hl (x := (a0 / 10000)) 3 rfl dX8_bid_153 ?_
      refine xsI Z hR hS hq dX8_bid_155 (fun h H locs hq hR hS => ?_)
      refine xaln hx hb hl (x := (some this)) 4 rfl dX8_bid_156 ?_
      refine xgR Z hR hq fl_X8_36 rfl dX8_bid_157 (fun x157 hq => ?_)
      refine xaln hx hb hl (x := (some this)) 4 rfl dX8_bid_160 ?_
      refine xgI Z hR hq fl_X8_108 rfl dX8_bid_161 (fun x161 hq => ?_)
      refine xil hx hb hl (x := ((a0 / 1000) - (a0 / 1000) / 10 * 10)) 2 rfl dX8_bid_164 ?_
      refine xsI Z hR hS hq dX8_bid_166 (fun h H locs hq hR hS => ?_)
      refine xaln hx hb hl (x := (some this)) 4 rfl dX8_bid_167 ?_
      refine xgR Z hR hq fl_X8_39 rfl dX8_bid_168 (fun x168 hq => ?_)
      refine xaln hx hb hl (x := (some this)) 4 rfl dX8_bid_171 ?_
      refine xgI Z hR hq fl_X8_108 rfl dX8_bid_172 (fun x172 hq => ?_)
      refine xil hx hb hl (x := ((a0 / 100) - (a0 / 100) / 10 * 10)) 1 rfl dX8_bid_175 ?_
      refine xsI Z hR hS hq dX8_bid_177 (fun h H locs hq hR hS => ?_)
      refine xaln hx hb hl (x := (some this)) 4 rfl dX8_bid_178 ?_
      refine xgR Z hR hq fl_X8_42 rfl dX8_bid_179 (fun x179 hq => ?_)
      refine xaln hx hb hl (x := (some this)) 4 rfl dX8_bid_182 ?_
      refine xgI Z hR hq fl_X8_108 rfl dX8_bid_183 (fun x183 hq => ?_)
      refine xil hx hb hl (x := ((a0 / 10) - (a0 / 10) / 10 * 10)) 0 rfl dX8_bid_186 ?_
      refine xsI Z hR hS hq dX8_bid_188 (fun h H locs hq hR hS => ?_)
      refine xaln hx hb hl (x := (some this)) 4 rfl dX8_bid_189 ?_
      refine xgR Z hR hq fl_X8_45 rfl dX8_bid_190 (fun x190 hq => ?_)
      refine xaln hx hb hl (x := (some this)) 4 rfl dX8_bid_193 ?_
      refine xgI Z hR hq fl_X8_108 rfl dX8_bid_194 (fun x194 hq => ?_)
      refine xiln hx hb hl (x := a1) 6 rfl dX8_bid_197 ?_
      refine lv_sipush (v := 1000) hx hb dX8_bid_198 (by decide) ?_
      refine lv_idiv hx hb dX8_bid_201 (by decide) ?_
      refine xsI Z hR hS hq dX8_bid_202 (fun h H locs hq hR hS => ?_)
      refine xaln hx hb hl (x := (some this)) 4 rfl dX8_bid_203 ?_
      refine xgR Z hR hq fl_X8_48 rfl dX8_bid_204 (fun x204 hq => ?_)
      refine xaln hx hb hl (x := (some this)) 4 rfl dX8_bid_207 ?_
      refine xgI Z hR hq fl_X8_108 rfl dX8_bid_208 (fun x208 hq => ?_)
      refine xiln hx hb hl (x := a1) 6 rfl dX8_bid_211 ?_
      refine lv_sipush (v := 1000) hx hb dX8_bid_212 (by decide) ?_
      refine lv_irem hx hb dX8_bid_215 (by decide) ?_
      refine xsI Z hR hS hq dX8_bid_216 (fun h H locs hq hR hS => ?_)
      refine xaln hx hb hl (x := (some this)) 4 rfl dX8_bid_217 ?_
      refine xgR Z hR hq fl_X8_51 rfl dX8_bid_218 (fun x218 hq => ?_)
      refine xaln hx hb hl (x := (some this)) 4 rfl dX8_bid_221 ?_
      refine xgI Z hR hq fl_X8_108 rfl dX8_bid_222 (fun x222 hq => ?_)
      refine xiln hx hb hl (x := a2) 7 rfl dX8_bid_225 ?_
      refine xsI Z hR hS hq dX8_bid_226 (fun h H locs hq hR hS => ?_)
      refine xaln hx hb hl (x := (some this)) 4 rfl dX8_bid_227 ?_
      refine xgR Z hR hq fl_X8_54 rfl dX8_bid_228 (fun x228 hq => ?_)
      refine xaln hx hb hl (x := (some this)) 4 rfl dX8_bid_231 ?_
      refine xgI Z hR hq fl_X8_108 rfl dX8_bid_232 (fun x232 hq => ?_)
      refine xil hx hb hl (x := a3) 8 rfl dX8_bid_235 ?_
      refine xsI Z hR hS hq dX8_bid_237 (fun h H locs hq hR hS => ?_)
      refine xaln hx hb hl (x := (some this)) 4 rfl dX8_bid_238 ?_
      refine lv_dup hx hb dX8_bid_239 (rf_cat (some this)) ?_
      refine xgI Z hR hq fl_X8_108 rfl dX8_bid_240 (fun x240 hq => ?_)
      refine lv_iconst (v := 1) hx hb dX8_bid_243 (by decide) ?_
      refine lv_iadd hx hb dX8_bid_244 ?_
      refine xpI Z hR hS hq fl_X8_108 rfl (Or.inl nf_9_9) dX8_bid_245 (fun h H locs hq hR hS => ?_)
      refine xaln hx hb hl (x := (some this)) 4 rfl dX8_bid_248 ?_
      refine xgI Z hR hq fl_X8_108 rfl dX8_bid_249 (fun x249 hq => ?_)
      refine lv_iconst (v := 1) hx hb dX8_bid_252 (by decide) ?_
      refine lv_isub hx hb dX8_bid_253 ?_
      exact xrI hx hb hr hlk hR hS hq (by decide) (by decide) dX8_bid_254
    exact t_X8_bid_143 Z hr hlk hin  h _ _ ls hq hR hS (hl.sub [] rfl)
  exact t_X8_bid_88 Z hr hlk hin  h _ _ ls hq hR hS (hl.sub [] rfl)
abbrev rm_X8_link : Room := { frames := 2, cells := 0, slots := 0, locals := 43 }
def f_X8_link_41   (h : Hp) : Option (Int32 × Hp) :=
rtZ 0 h
set_option maxHeartbeats 4000000 in
set_option maxRecDepth 100000 in
theorem t_X8_link_41 (Z : ZZ p s m args c cX8_link RX8 3 G) (hr : meth.sig.returnType = (some .boolean)) (hlk : meth.locks = false) (hin : meth.name = "link") {v : Int32} {h1 : Hp} : ∀  (h : Hp) (H : Heap) (locs : List Loc) (ls : Array Slot), f_X8_link_41  h = some (v, h1) → Rep G h H → va_S (AA G) s.heap H locs → LV ls 3 [] → W p l e rm_X8_link s m args below meth c H locs 0 0 (MQ below (Qx G (some (.int v)) h1) args s 0 0 (AA G)) (F0 m 41 ls []) := by
  intro  h H locs ls hq hR hS hl
  have hx := Z.1
  have hb := Z.2.1
  unfold f_X8_link_41 at hq
  refine lv_iconst (v := 0) hx hb dX8_link_41 (by decide) ?_
  exact xrZ hx hb hr hlk hR hS hq (by decide) (by decide) dX8_link_42
def f_X8_link (this : Nat) (a0 : Int32) (a1 : Int32) (h : Hp) : Option (Int32 × Hp) :=
rcv h (some this) 9 (fun b2 => bd (f_X8_isBid b2 a0 h) (fun x2 h =>
(if x2 = 0 then
f_X8_link_41  h
else
rcv h (some this) 9 (fun b10 => bd (f_X8_isBid b10 a1 h) (fun x10 h =>
(if x10 = 0 then
f_X8_link_41  h
else
(if a0 = a1 then
f_X8_link_41  h
else
gR h (some this) 9 18 (fun x22 =>
ldI h x22 a0 (fun x26 =>
(if x26 = (-1) then
gR h (some this) 9 18 (fun x32 =>
ldI h x32 a1 (fun x36 =>
(if x36 = (-1) then
gR h (some this) 9 18 (fun x44 =>
stI h x44 a0 a1 (fun h =>
gR h (some this) 9 18 (fun x51 =>
stI h x51 a1 a0 (fun h =>
rtZ 1 h))))
else
f_X8_link_41  h)))
else
f_X8_link_41  h))))))))))
set_option maxHeartbeats 4000000 in
set_option maxRecDepth 100000 in
theorem c_X8_link (l : Launch) {G : GG} (this : Nat) (a0 : Int32) (a1 : Int32) (h : Hp) (v : Int32) (h1 : Hp) (hq : f_X8_link this a0 a1 h = some (v, h1)) : Met l yX8_link (Cond.code yX8_link cX8_link 3 (some .boolean) :: GT) rm_X8_link (va_Pc [.ref this, .int a0, .int a1] (Cn G h)) (Qx G (some (.int v)) h1) 0 0 (AA G) := by
  refine xMet (cc := cX8_link) (by decide) (Nat.le_of_ble_eq_true rfl) (List.forall_mem_cons.mpr ⟨rfl, (List.forall_mem_cons.mpr ⟨rfl, (List.forall_mem_cons.mpr ⟨rfl, (fun _ z => by cases z)⟩)⟩)⟩) ?_
  intro p e s m below meth c ls Z hr hlk hin hR hS hl
  have hx := Z.1
  have hb := Z.2.1
  have hl : LV ls 3 [(0, va_rf (some this)), (1, .int a0), (2, .int a1)] := hl
  unfold f_X8_link at hq
  refine xaln hx hb hl (x := (some this)) 0 rfl dX8_link_0 ?_
  refine xiln hx hb hl (x := a0) 1 rfl dX8_link_1 ?_
  refine xcV Z hR hS hl (rest := []) (As := [.int a0]) hq cl_X8_118 (fun b x h1 hc => c_X8_isBid l b a0 h x h1 hc) ⟨⟨rfl, rfl⟩, (by decide), (by decide)⟩ rfl rfl (by first | decide | (simp only [List.map_cons, List.map_nil, rf_cat, ct_int, ct_ref, List.sum_cons, List.sum_nil] <;> decide)) dX8_link_2 (by decide) (fun x2 h H locs hq hR hS => ?_)
  refine xzEq hx hb hq (tgt := 41) dX8_link_5 (by decide) (fun hq => ?_) (fun hq => ?_)
  · exact t_X8_link_41 Z hr hlk hin  h _ _ ls hq hR hS (hl.sub [] rfl)
  refine xaln hx hb hl (x := (some this)) 0 rfl dX8_link_8 ?_
  refine xiln hx hb hl (x := a1) 2 rfl dX8_link_9 ?_
  refine xcV Z hR hS hl (rest := []) (As := [.int a1]) hq cl_X8_118 (fun b x h1 hc => c_X8_isBid l b a1 h x h1 hc) ⟨⟨rfl, rfl⟩, (by decide), (by decide)⟩ rfl rfl (by first | decide | (simp only [List.map_cons, List.map_nil, rf_cat, ct_int, ct_ref, List.sum_cons, List.sum_nil] <;> decide)) dX8_link_10 (by decide) (fun x10 h H locs hq hR hS => ?_)
  refine xzEq hx hb hq (tgt := 41) dX8_link_13 (by decide) (fun hq => ?_) (fun hq => ?_)
  · exact t_X8_link_41 Z hr hlk hin  h _ _ ls hq hR hS (hl.sub [] rfl)
  refine xiln hx hb hl (x := a0) 1 rfl dX8_link_16 ?_
  refine xiln hx hb hl (x := a1) 2 rfl dX8_link_17 ?_
  refine xcEq hx hb hq (tgt := 41) dX8_link_18 (by decide) (fun hq => ?_) (fun hq => ?_)
  · exact t_X8_link_41 Z hr hlk hin  h _ _ ls hq hR hS (hl.sub [] rfl)
  refine xaln hx hb hl (x := (some this)) 0 rfl dX8_link_21 ?_
  refine xgR Z hR hq fl_X8_57 rfl dX8_link_22 (fun x22 hq => ?_)
  refine xiln hx hb hl (x := a0) 1 rfl dX8_link_25 ?_
  refine xaI Z hR hq dX8_link_26 (fun x26 hq => ?_)
  refine lv_iconst (v := (-1)) hx hb dX8_link_27 (by decide) ?_
  refine xcNe hx hb hq (tgt := 41) dX8_link_28 (by decide) (fun hq => ?_) (fun hq => ?_)
  · exact t_X8_link_41 Z hr hlk hin  h _ _ ls hq hR hS (hl.sub [] rfl)
  refine xaln hx hb hl (x := (some this)) 0 rfl dX8_link_31 ?_
  refine xgR Z hR hq fl_X8_57 rfl dX8_link_32 (fun x32 hq => ?_)
  refine xiln hx hb hl (x := a1) 2 rfl dX8_link_35 ?_
  refine xaI Z hR hq dX8_link_36 (fun x36 hq => ?_)
  refine lv_iconst (v := (-1)) hx hb dX8_link_37 (by decide) ?_
  refine xcEq hx hb hq (tgt := 43) dX8_link_38 (by decide) (fun hq => ?_) (fun hq => ?_)
  · refine xaln hx hb hl (x := (some this)) 0 rfl dX8_link_43 ?_
    refine xgR Z hR hq fl_X8_57 rfl dX8_link_44 (fun x44 hq => ?_)
    refine xiln hx hb hl (x := a0) 1 rfl dX8_link_47 ?_
    refine xiln hx hb hl (x := a1) 2 rfl dX8_link_48 ?_
    refine xsI Z hR hS hq dX8_link_49 (fun h H locs hq hR hS => ?_)
    refine xaln hx hb hl (x := (some this)) 0 rfl dX8_link_50 ?_
    refine xgR Z hR hq fl_X8_57 rfl dX8_link_51 (fun x51 hq => ?_)
    refine xiln hx hb hl (x := a1) 2 rfl dX8_link_54 ?_
    refine xiln hx hb hl (x := a0) 1 rfl dX8_link_55 ?_
    refine xsI Z hR hS hq dX8_link_56 (fun h H locs hq hR hS => ?_)
    refine lv_iconst (v := 1) hx hb dX8_link_57 (by decide) ?_
    exact xrZ hx hb hr hlk hR hS hq (by decide) (by decide) dX8_link_58
  exact t_X8_link_41 Z hr hlk hin  h _ _ ls hq hR hS (hl.sub [] rfl)
abbrev rm_X8_legs : Room := { frames := 0, cells := 0, slots := 0, locals := 0 }
def f_X8_legs_44  (s0 : Int32) (h : Hp) : Option (Int32 × Hp) :=
rtI s0 h
set_option maxHeartbeats 4000000 in
set_option maxRecDepth 100000 in
theorem t_X8_legs_44 (Z : ZZ p s m args c cX8_legs RX8 2 G) (hr : meth.sig.returnType = (some .int)) (hlk : meth.locks = false) (hin : meth.name = "legs") {v : Int32} {h1 : Hp} : ∀ (s0 : Int32) (h : Hp) (H : Heap) (locs : List Loc) (ls : Array Slot), f_X8_legs_44 s0 h = some (v, h1) → Rep G h H → va_S (AA G) s.heap H locs → LV ls 2 [] → W p l e rm_X8_legs s m args below meth c H locs 0 0 (MQ below (Qx G (some (.int v)) h1) args s 0 0 (AA G)) (F0 m 44 ls [.int s0]) := by
  intro s0 h H locs ls hq hR hS hl
  have hx := Z.1
  have hb := Z.2.1
  unfold f_X8_legs_44 at hq
  exact xrI hx hb hr hlk hR hS hq (by decide) (by decide) dX8_legs_44
def f_X8_legs (this : Nat) (a0 : Int32) (h : Hp) : Option (Int32 × Hp) :=
gR h (some this) 9 11 (fun x1 =>
ldI h x1 a0 (fun x5 =>
gR h (some this) 9 12 (fun x7 =>
ldI h x7 a0 (fun x11 =>
(if x11 ≤ x5 then
gR h (some this) 9 11 (fun x32 =>
ldI h x32 a0 (fun x36 =>
gR h (some this) 9 12 (fun x38 =>
ldI h x38 a0 (fun x42 =>
f_X8_legs_44 (x36 - x42) h))))
else
gR h (some this) 9 12 (fun x16 =>
ldI h x16 a0 (fun x20 =>
gR h (some this) 9 11 (fun x22 =>
ldI h x22 a0 (fun x26 =>
f_X8_legs_44 (x20 - x26) h)))))))))
set_option maxHeartbeats 4000000 in
set_option maxRecDepth 100000 in
theorem c_X8_legs (l : Launch) {G : GG} (this : Nat) (a0 : Int32) (h : Hp) (v : Int32) (h1 : Hp) (hq : f_X8_legs this a0 h = some (v, h1)) : Met l yX8_legs (Cond.code yX8_legs cX8_legs 2 (some .int) :: GT) rm_X8_legs (va_Pc [.ref this, .int a0] (Cn G h)) (Qx G (some (.int v)) h1) 0 0 (AA G) := by
  refine xMet (cc := cX8_legs) (by decide) (Nat.le_of_ble_eq_true rfl) (List.forall_mem_cons.mpr ⟨rfl, (List.forall_mem_cons.mpr ⟨rfl, (fun _ z => by cases z)⟩)⟩) ?_
  intro p e s m below meth c ls Z hr hlk hin hR hS hl
  have hx := Z.1
  have hb := Z.2.1
  have hl : LV ls 2 [(0, va_rf (some this)), (1, .int a0)] := hl
  unfold f_X8_legs at hq
  refine xaln hx hb hl (x := (some this)) 0 rfl dX8_legs_0 ?_
  refine xgR Z hR hq fl_X8_36 rfl dX8_legs_1 (fun x1 hq => ?_)
  refine xiln hx hb hl (x := a0) 1 rfl dX8_legs_4 ?_
  refine xaI Z hR hq dX8_legs_5 (fun x5 hq => ?_)
  refine xaln hx hb hl (x := (some this)) 0 rfl dX8_legs_6 ?_
  refine xgR Z hR hq fl_X8_39 rfl dX8_legs_7 (fun x7 hq => ?_)
  refine xiln hx hb hl (x := a0) 1 rfl dX8_legs_10 ?_
  refine xaI Z hR hq dX8_legs_11 (fun x11 hq => ?_)
  refine xcGe hx hb hq (tgt := 31) dX8_legs_12 (by decide) (fun hq => ?_) (fun hq => ?_)
  · refine xaln hx hb hl (x := (some this)) 0 rfl dX8_legs_31 ?_
    refine xgR Z hR hq fl_X8_36 rfl dX8_legs_32 (fun x32 hq => ?_)
    refine xiln hx hb hl (x := a0) 1 rfl dX8_legs_35 ?_
    refine xaI Z hR hq dX8_legs_36 (fun x36 hq => ?_)
    refine xaln hx hb hl (x := (some this)) 0 rfl dX8_legs_37 ?_
    refine xgR Z hR hq fl_X8_39 rfl dX8_legs_38 (fun x38 hq => ?_)
    refine xiln hx hb hl (x := a0) 1 rfl dX8_legs_41 ?_
    refine xaI Z hR hq dX8_legs_42 (fun x42 hq => ?_)
    refine lv_isub hx hb dX8_legs_43 ?_
    exact t_X8_legs_44 Z hr hlk hin (x36 - x42) h _ _ ls hq hR hS (hl.sub [] rfl)
  refine xaln hx hb hl (x := (some this)) 0 rfl dX8_legs_15 ?_
  refine xgR Z hR hq fl_X8_39 rfl dX8_legs_16 (fun x16 hq => ?_)
  refine xiln hx hb hl (x := a0) 1 rfl dX8_legs_19 ?_
  refine xaI Z hR hq dX8_legs_20 (fun x20 hq => ?_)
  refine xaln hx hb hl (x := (some this)) 0 rfl dX8_legs_21 ?_
  refine xgR Z hR hq fl_X8_36 rfl dX8_legs_22 (fun x22 hq => ?_)
  refine xiln hx hb hl (x := a0) 1 rfl dX8_legs_25 ?_
  refine xaI Z hR hq dX8_legs_26 (fun x26 hq => ?_)
  refine lv_isub hx hb dX8_legs_27 ?_
  refine lv_goto (tgt := 44) hx hb dX8_legs_28 (by decide) ?_
  exact t_X8_legs_44 Z hr hlk hin (x20 - x26) h _ _ ls hq hR hS (hl.sub [] rfl)
abbrev rm_X8_stationOf : Room := { frames := 0, cells := 0, slots := 0, locals := 0 }
def f_X8_stationOf_34  (s0 : Int32) (h : Hp) : Option (Int32 × Hp) :=
rtI s0 h
set_option maxHeartbeats 4000000 in
set_option maxRecDepth 100000 in
theorem t_X8_stationOf_34 (Z : ZZ p s m args c cX8_stationOf RX8 3 G) (hr : meth.sig.returnType = (some .int)) (hlk : meth.locks = false) (hin : meth.name = "stationOf") {v : Int32} {h1 : Hp} : ∀ (s0 : Int32) (h : Hp) (H : Heap) (locs : List Loc) (ls : Array Slot), f_X8_stationOf_34 s0 h = some (v, h1) → Rep G h H → va_S (AA G) s.heap H locs → LV ls 3 [] → W p l e rm_X8_stationOf s m args below meth c H locs 0 0 (MQ below (Qx G (some (.int v)) h1) args s 0 0 (AA G)) (F0 m 34 ls [.int s0]) := by
  intro s0 h H locs ls hq hR hS hl
  have hx := Z.1
  have hb := Z.2.1
  unfold f_X8_stationOf_34 at hq
  exact xrI hx hb hr hlk hR hS hq (by decide) (by decide) dX8_stationOf_34
def f_X8_stationOf (this : Nat) (a0 : Int32) (a1 : Int32) (h : Hp) : Option (Int32 × Hp) :=
gR h (some this) 9 11 (fun x1 =>
ldI h x1 a0 (fun x5 =>
gR h (some this) 9 12 (fun x7 =>
ldI h x7 a0 (fun x11 =>
(if x11 ≤ x5 then
gR h (some this) 9 11 (fun x27 =>
ldI h x27 a0 (fun x31 =>
f_X8_stationOf_34 (x31 - a1) h))
else
gR h (some this) 9 11 (fun x16 =>
ldI h x16 a0 (fun x20 =>
f_X8_stationOf_34 (x20 + a1) h)))))))
set_option maxHeartbeats 4000000 in
set_option maxRecDepth 100000 in
theorem c_X8_stationOf (l : Launch) {G : GG} (this : Nat) (a0 : Int32) (a1 : Int32) (h : Hp) (v : Int32) (h1 : Hp) (hq : f_X8_stationOf this a0 a1 h = some (v, h1)) : Met l yX8_stationOf (Cond.code yX8_stationOf cX8_stationOf 3 (some .int) :: GT) rm_X8_stationOf (va_Pc [.ref this, .int a0, .int a1] (Cn G h)) (Qx G (some (.int v)) h1) 0 0 (AA G) := by
  refine xMet (cc := cX8_stationOf) (by decide) (Nat.le_of_ble_eq_true rfl) (List.forall_mem_cons.mpr ⟨rfl, (List.forall_mem_cons.mpr ⟨rfl, (List.forall_mem_cons.mpr ⟨rfl, (fun _ z => by cases z)⟩)⟩)⟩) ?_
  intro p e s m below meth c ls Z hr hlk hin hR hS hl
  have hx := Z.1
  have hb := Z.2.1
  have hl : LV ls 3 [(0, va_rf (some this)), (1, .int a0), (2, .int a1)] := hl
  unfold f_X8_stationOf at hq
  refine xaln hx hb hl (x := (some this)) 0 rfl dX8_stationOf_0 ?_
  refine xgR Z hR hq fl_X8_36 rfl dX8_stationOf_1 (fun x1 hq => ?_)
  refine xiln hx hb hl (x := a0) 1 rfl dX8_stationOf_4 ?_
  refine xaI Z hR hq dX8_stationOf_5 (fun x5 hq => ?_)
  refine xaln hx hb hl (x := (some this)) 0 rfl dX8_stationOf_6 ?_
  refine xgR Z hR hq fl_X8_39 rfl dX8_stationOf_7 (fun x7 hq => ?_)
  refine xiln hx hb hl (x := a0) 1 rfl dX8_stationOf_10 ?_
  refine xaI Z hR hq dX8_stationOf_11 (fun x11 hq => ?_)
  refine xcGe hx hb hq (tgt := 26) dX8_stationOf_12 (by decide) (fun hq => ?_) (fun hq => ?_)
  · refine xaln hx hb hl (x := (some this)) 0 rfl dX8_stationOf_26 ?_
    refine xgR Z hR hq fl_X8_36 rfl dX8_stationOf_27 (fun x27 hq => ?_)
    refine xiln hx hb hl (x := a0) 1 rfl dX8_stationOf_30 ?_
    refine xaI Z hR hq dX8_stationOf_31 (fun x31 hq => ?_)
    refine xiln hx hb hl (x := a1) 2 rfl dX8_stationOf_32 ?_
    refine lv_isub hx hb dX8_stationOf_33 ?_
    exact t_X8_stationOf_34 Z hr hlk hin (x31 - a1) h _ _ ls hq hR hS (hl.sub [] rfl)
  refine xaln hx hb hl (x := (some this)) 0 rfl dX8_stationOf_15 ?_
  refine xgR Z hR hq fl_X8_36 rfl dX8_stationOf_16 (fun x16 hq => ?_)
  refine xiln hx hb hl (x := a0) 1 rfl dX8_stationOf_19 ?_
  refine xaI Z hR hq dX8_stationOf_20 (fun x20 hq => ?_)
  refine xiln hx hb hl (x := a1) 2 rfl dX8_stationOf_21 ?_
  refine lv_iadd hx hb dX8_stationOf_22 ?_
  refine lv_goto (tgt := 34) hx hb dX8_stationOf_23 (by decide) ?_
  exact t_X8_stationOf_34 Z hr hlk hin (x20 + a1) h _ _ ls hq hR hS (hl.sub [] rfl)
abbrev rm_X8_sectionOf : Room := { frames := 0, cells := 0, slots := 0, locals := 0 }
def f_X8_sectionOf_36  (s0 : Int32) (h : Hp) : Option (Int32 × Hp) :=
rtI s0 h
set_option maxHeartbeats 4000000 in
set_option maxRecDepth 100000 in
theorem t_X8_sectionOf_36 (Z : ZZ p s m args c cX8_sectionOf RX8 3 G) (hr : meth.sig.returnType = (some .int)) (hlk : meth.locks = false) (hin : meth.name = "sectionOf") {v : Int32} {h1 : Hp} : ∀ (s0 : Int32) (h : Hp) (H : Heap) (locs : List Loc) (ls : Array Slot), f_X8_sectionOf_36 s0 h = some (v, h1) → Rep G h H → va_S (AA G) s.heap H locs → LV ls 3 [] → W p l e rm_X8_sectionOf s m args below meth c H locs 0 0 (MQ below (Qx G (some (.int v)) h1) args s 0 0 (AA G)) (F0 m 36 ls [.int s0]) := by
  intro s0 h H locs ls hq hR hS hl
  have hx := Z.1
  have hb := Z.2.1
  unfold f_X8_sectionOf_36 at hq
  exact xrI hx hb hr hlk hR hS hq (by decide) (by decide) dX8_sectionOf_36
def f_X8_sectionOf (this : Nat) (a0 : Int32) (a1 : Int32) (h : Hp) : Option (Int32 × Hp) :=
gR h (some this) 9 11 (fun x1 =>
ldI h x1 a0 (fun x5 =>
gR h (some this) 9 12 (fun x7 =>
ldI h x7 a0 (fun x11 =>
(if x11 ≤ x5 then
gR h (some this) 9 11 (fun x27 =>
ldI h x27 a0 (fun x31 =>
f_X8_sectionOf_36 ((x31 - a1) - 1) h))
else
gR h (some this) 9 11 (fun x16 =>
ldI h x16 a0 (fun x20 =>
f_X8_sectionOf_36 (x20 + a1) h)))))))
set_option maxHeartbeats 4000000 in
set_option maxRecDepth 100000 in
theorem c_X8_sectionOf (l : Launch) {G : GG} (this : Nat) (a0 : Int32) (a1 : Int32) (h : Hp) (v : Int32) (h1 : Hp) (hq : f_X8_sectionOf this a0 a1 h = some (v, h1)) : Met l yX8_sectionOf (Cond.code yX8_sectionOf cX8_sectionOf 3 (some .int) :: GT) rm_X8_sectionOf (va_Pc [.ref this, .int a0, .int a1] (Cn G h)) (Qx G (some (.int v)) h1) 0 0 (AA G) := by
  refine xMet (cc := cX8_sectionOf) (by decide) (Nat.le_of_ble_eq_true rfl) (List.forall_mem_cons.mpr ⟨rfl, (List.forall_mem_cons.mpr ⟨rfl, (List.forall_mem_cons.mpr ⟨rfl, (fun _ z => by cases z)⟩)⟩)⟩) ?_
  intro p e s m below meth c ls Z hr hlk hin hR hS hl
  have hx := Z.1
  have hb := Z.2.1
  have hl : LV ls 3 [(0, va_rf (some this)), (1, .int a0), (2, .int a1)] := hl
  unfold f_X8_sectionOf at hq
  refine xaln hx hb hl (x := (some this)) 0 rfl dX8_sectionOf_0 ?_
  refine xgR Z hR hq fl_X8_36 rfl dX8_sectionOf_1 (fun x1 hq => ?_)
  refine xiln hx hb hl (x := a0) 1 rfl dX8_sectionOf_4 ?_
  refine xaI Z hR hq dX8_sectionOf_5 (fun x5 hq => ?_)
  refine xaln hx hb hl (x := (some this)) 0 rfl dX8_sectionOf_6 ?_
  refine xgR Z hR hq fl_X8_39 rfl dX8_sectionOf_7 (fun x7 hq => ?_)
  refine xiln hx hb hl (x := a0) 1 rfl dX8_sectionOf_10 ?_
  refine xaI Z hR hq dX8_sectionOf_11 (fun x11 hq => ?_)
  refine xcGe hx hb hq (tgt := 26) dX8_sectionOf_12 (by decide) (fun hq => ?_) (fun hq => ?_)
  · refine xaln hx hb hl (x := (some this)) 0 rfl dX8_sectionOf_26 ?_
    refine xgR Z hR hq fl_X8_36 rfl dX8_sectionOf_27 (fun x27 hq => ?_)
    refine xiln hx hb hl (x := a0) 1 rfl dX8_sectionOf_30 ?_
    refine xaI Z hR hq dX8_sectionOf_31 (fun x31 hq => ?_)
    refine xiln hx hb hl (x := a1) 2 rfl dX8_sectionOf_32 ?_
    refine lv_isub hx hb dX8_sectionOf_33 ?_
    refine lv_iconst (v := 1) hx hb dX8_sectionOf_34 (by decide) ?_
    refine lv_isub hx hb dX8_sectionOf_35 ?_
    exact t_X8_sectionOf_36 Z hr hlk hin ((x31 - a1) - 1) h _ _ ls hq hR hS (hl.sub [] rfl)
  refine xaln hx hb hl (x := (some this)) 0 rfl dX8_sectionOf_15 ?_
  refine xgR Z hR hq fl_X8_36 rfl dX8_sectionOf_16 (fun x16 hq => ?_)
  refine xiln hx hb hl (x := a0) 1 rfl dX8_sectionOf_19 ?_
  refine xaI Z hR hq dX8_sectionOf_20 (fun x20 hq => ?_)
  refine xiln hx hb hl (x := a1) 2 rfl dX8_sectionOf_21 ?_
  refine lv_iadd hx hb dX8_sectionOf_22 ?_
  refine lv_goto (tgt := 36) hx hb dX8_sectionOf_23 (by decide) ?_
  exact t_X8_sectionOf_36 Z hr hlk hin (x20 + a1) h _ _ ls hq hR hS (hl.sub [] rfl)
end
