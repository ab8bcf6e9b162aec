/-! what the lists need: arrays of references, their copies, the class object, the nest mate's constructor -/
section OL
variable {α : Type}
def isB (h : Hp) (r : Option Nat) : Bool := match r with
  | none => true
  | some a => match h.2 a with
    | some (.inr (.inr (.inr x))) => x.1 == 1
    | _ => false
theorem isB_some {h : Hp} {a : Nat} (hb : isB h (some a) = true) : ∃ I F, h.2 a = some (eO 1 I F) := by
  unfold isB at hb
  simp only at hb
  split at hb
  · rename_i x hx
    refine ⟨x.2.1, x.2.2, ?_⟩
    rw [hx, ← show x.1 = 1 from by simpa using hb]
  · cases hb
def stR (h : Hp) (r : Option Nat) (i : Int32) (x : Option Nat) (K : Hp → Option α) : Option α := arR h r (fun a n f => if (0 ≤ i.toInt ∧ i.toInt < n) ∧ x ≠ none ∧ isB h x = true then K (hput h a (eR n (va_up f i.toNatClampNeg x))) else none)
def nwR (h : Hp) (n : Int32) (K : Nat → Hp → Option α) : Option α := if 0 ≤ n.toInt ∧ n.toInt ≤ 100 then K h.1 (hnew h (eR n.toNatClampNeg (fun _ => none))) else none
def acp (h : Hp) (r : Option Nat) (sp : Int32) (q : Option Nat) (dp n : Int32) (K : Hp → Option α) : Option α := arR h r (fun _ n0 f => arR h q (fun b n1 g =>
  if (0 ≤ sp.toInt ∧ 0 ≤ dp.toInt ∧ 0 ≤ n.toInt ∧ sp.toInt + n.toInt ≤ n0 ∧ dp.toInt + n.toInt ≤ n1 ∧ 0 < n1 ∧ 0 < n0) ∧ (List.range n.toNatClampNeg).all (fun i => isB h (f (sp.toNatClampNeg + i))) = true then K (hput h b (eR n1 (va_cpy f g sp.toNatClampNeg dp.toNatClampNeg n.toNatClampNeg))) else none))
def gcl (h : Hp) (r : Option Nat) (K : Option α) : Option α := arR h r (fun _ n _ => if 0 < n then K else none)
end OL
theorem clampZ {z : Int32} (hz : 0 ≤ z.toInt) : z.toInt = (z.toNatClampNeg : Int) := by
  show z.toInt = ((z.toInt.toNat : Nat) : Int)
  omega
theorem negZ {z : Int32} (hz : 0 ≤ z.toInt) : ¬ z < 0 := by
  intro h
  have := Int32.lt_iff_toInt_lt.mp h
  simp at this
  omega
theorem cp_ok : Cond.native arraycopyName ∈ GT ∧ Cond.static arraycopyName ∈ GT ∧ Cond.initialized "java/lang/System" ∈ GT := ⟨by decide +kernel, by decide +kernel, by decide +kernel⟩
abbrev gcName : MethodName := ⟨"java/lang/Object", "getClass", "()Ljava/lang/Class;"⟩
theorem gc_ok : Cond.methodLink RJ7 86 gcName ∈ GT ∧ Cond.selects "[Ljava/lang/Object;" gcName gcName ∈ GT ∧ Cond.instanceMethod gcName ∈ GT ∧ Cond.native gcName ∈ GT ∧ Cond.classLink RJ7 110 "[Ljava/lang/Object;" ∈ GT := ⟨by decide +kernel, by decide +kernel, by decide +kernel, by decide +kernel, by decide +kernel⟩
theorem rAt_R {G : GG} {a n : Nat} {f : Nat → Option Nat} {H : Heap} (h : H[a]? = some (vp_cell G.2.2.2.2 (n, .inr (.inr (.inr (.inr f)))))) : rAt G a (eR n f) H :=
  ⟨fun _ => h, _, h, rfl, rfl, by rw [vp_cell_q, arrV_size] <;> rfl⟩
section RE
variable {p : Program} {l : Launch} {e : Env} {R : Room} {s : State} {m : MethodId} {args : Array Value} {below : List Frame} {meth : Method} {c : Code} {H : Heap} {locs : List Loc} {cells slots : Nat} {Q : State → Prop}
variable {cc : ByteArray} {pc nL : Nat} {ls : Array Slot} {rest : List Value} {own : String} {G : GG} {h : Hp} {α : Type} {y : α} {lv lv' : List (Nat × Value)}
theorem anyB (Z : ZZ p s m args c cc own nL G) (hR : Rep G h H) {a : Nat} (hb : isB h (some a) = true) : va_Any "java/lang/Object" s H a := by
  obtain ⟨I, F, he⟩ := isB_some hb
  obtain ⟨cell, h1, h2, h3⟩ := recv_ok Z hR he (C := RX0) (T := TX0) (N := 14) rfl
  obtain ⟨hx, hb, hml, hown, hts, hK, hZ, hN, hrest⟩ := Z
  obtain ⟨kC, hkC, -⟩ := Vm.findClass_spec h3
  obtain ⟨c0, t0, f1, f2, f3⟩ := Cond.castable_spec (va_Nw.use (A := args) rfl hN.1)
  refine ⟨cell, h1, h2, ⟨kC, hkC⟩, fun comp hc => ?_⟩
  cases h3.symm.trans f1
  cases hc.symm.trans f2
  exact f3
theorem xsR (Z : ZZ p s m args c cc own nL G) (hR : Rep G h H) (hS : va_S (AA G) s.heap H locs) {r x : Option Nat} {i : Int32} {K : Hp → Option α} (hq : stR h r i x K = some y) (hd : decode cc pc = .ok (.aastore, 1))
    (kk : ∀ (h : Hp) (H1 : Heap) (locs1 : List Loc), K h = some y → Rep G h H1 → va_S (AA G) s.heap H1 locs1 → W p l e R s m args below meth c H1 locs1 cells slots Q (F0 m (pc + 1) ls rest)) : W p l e R s m args below meth c H locs cells slots Q (F0 m pc ls (va_rf x :: .int i :: va_rf r :: rest)) := by
  obtain ⟨a, n, f, rfl, he, hq⟩ := arR_inv hq
  obtain ⟨⟨hin, hne, hbx⟩, hq⟩ := ite_inv hq
  have hin2 := vp_in_of2 hin
  have hlt : i.toNatClampNeg < n := Nat.not_le.mp fun q => hin2 (Or.inr q)
  have h0 : ¬ i < 0 := fun q => hin2 (Or.inl q)
  have hwo : G.1.1 ≤ a := (hR.2.2 a _ he).2.R (by omega)
  cases x with
  | none => exact absurd rfl hne
  | some v =>
    obtain ⟨cellV, g1, g3, ⟨kC, hkC⟩, hasg⟩ := anyB Z hR hbx
    obtain ⟨hx, hb, hml, hown, hts, hK, hZ, hN, hrest⟩ := Z
    obtain ⟨kA, comp, k1, k2, k3, -⟩ := (hK.2 2 _ rfl).2
    obtain ⟨kE, hkE, -⟩ := Vm.findClass_spec k3
    refine W.aast hx hb ((hR.2.2 a _ he).1.1 (by show 0 < n; omega)) (fun q h => by cases h) (fun h => by cases h) k1 k2 rfl hkE ⟨h0, by show _ < (arrV _ _ _).slots.size; rw [arrV_size]; exact hlt⟩ g1 (fun q h => by rw [h] at g3; cases g3) hkC (hasg _ k3) rfl rfl hd fun H1 e z oq => ?_
    refine kk _ H1 _ hq (hR.put hwo z oq ?_) (hS.put z oq hwo)
    refine rAt_R ?_
    rw [e]
    show some ((vp_cell _ _).setSlot _ _) = _
    rw [vp_cell_q, vp_cell_q, arrV_store]
    congr 2
    funext q
    by_cases hq : q = i.toNatClampNeg
    · subst hq
      simp [updV, va_up, va_rf]
    · simp [updV, va_up, hq]
theorem xnR (Z : ZZ p s m args c cc own nL G) (hR : Rep G h H) (hS : va_S (AA G) s.heap H locs) {idx : Nat} {n : Int32} {K : Nat → Hp → Option α} (hq : nwR h n K = some y) (hk : Cond.classLink own idx "java/lang/Object" ∈ GT) (hcells : cells + 1 ≤ R.cells) (hslots : slots + 100 ≤ R.slots) (hd : decode cc pc = .ok (.anewarray idx, 3))
    (kk : ∀ (a : Nat) (h : Hp) (H1 : Heap), K a h = some y → Rep G h H1 → va_S (AA G) s.heap H1 locs → W p l e R s m args below meth c H1 locs (cells + 1) (slots + 100) Q (F0 m (pc + 3) ls (va_rf (some a) :: rest))) : W p l e R s m args below meth c H locs cells slots Q (F0 m pc ls (.int n :: rest)) := by
  obtain ⟨hx, hb, hml, hown, hts, hK, hZ, hN, hrest⟩ := Z
  obtain ⟨⟨h0, h1⟩, hq⟩ := ite_inv hq
  have hcl := clampZ h0
  refine W.anew hx hb hown (hts _ hk) (va_AO.use hN.2.1) rfl hd rfl (negZ h0) (by omega) hcells (by omega) fun cA kA comp f1 f2 f3 f4 => ?_
  have hcA : cA = G.2.2.2.2 := by
    obtain ⟨_, _, _, _, _, z⟩ := (hK.2 2 _ rfl).2
    exact Option.some.inj (f1.symm.trans z)
  subst hcA
  generalize hH1 : H.push ({ cls := G.2.2.2.2, slots := Array.replicate n.toNatClampNeg .null, vm := .none } : Cell) = H1
  have z1 : H1.size = H.size + 1 := by rw [← hH1, Array.size_push]
  have e1 : H1[H.size]? = some (arrV G.2.2.2.2 n.toNatClampNeg (fun _ => .null)) := by rw [← hH1, Array.getElem?_push_size, ← arrV_new]
  have o1 : ∀ q : Nat, q < H.size → H1[q]? = H[q]? := fun q hq => by rw [← hH1, Array.getElem?_push, if_neg (Nat.ne_of_lt hq)]
  refine W.widen (k := cells + 1) (n := slots + 100) (Nat.le_refl _) (by omega) ?_
  have k2 := kk h.1 _ H1 hq (hR.new z1 o1 (rAt_R (by rw [vp_cell_q]; exact e1))) (hS_new hS z1 o1)
  rw [← hR.1] at k2
  exact k2
theorem xgc (Z : ZZ p s m args c cc RJ7 nL G) (hR : Rep G h H) (hl : LV ls nL lv) {r : Option Nat} {K : Option α} (hq : gcl h r K = some y) (hf : 1 ≤ R.frames) (hlo : (rest.map fun v => v.category).sum + 14 ≤ R.locals) (hd : decode cc pc = .ok (.invokevirtual 86, 3))
    (kk : K = some y → W p l e R s m args below meth c H locs cells slots Q (F0 m (pc + 3) ls (va_rf (some G.1.2.2) :: rest))) : W p l e R s m args below meth c H locs cells slots Q (F0 m pc ls (va_rf r :: rest)) := by
  obtain ⟨a, n, f, rfl, he, hq⟩ := arR_inv hq
  obtain ⟨hn0, hq⟩ := ite_inv hq
  obtain ⟨hx, hb, hml, hown, hts, hK, hZ, hN, hrest⟩ := Z
  obtain ⟨g1, g2, g3, g4, g5⟩ := gc_ok
  exact va_getC hx hb (by rw [hml]; exact hl.sz.symm) hown (hts _ g1) (va_Dc.use hN.2.2.2.1) (hts _ g2) (hts _ g3) (hts _ g4) hN.2.2.2.2 ⟨_, (hR.2.2 a _ he).1.1 hn0, rfl, by
    show s.vm.findClass "[Ljava/lang/Object;" = some G.2.2.2.2
    obtain ⟨_, _, _, _, _, z⟩ := (hK.2 2 _ rfl).2
    exact z⟩ hf hlo hd (kk hq)
theorem xlm (Z : ZZ p s m args c cc RJ7 nL G) (hd : decode cc pc = .ok (.ldc 110, 2))
    (kk : W p l e R s m args below meth c H locs cells slots Q (F0 m (pc + 2) ls (va_rf (some G.1.2.2) :: rest))) : W p l e R s m args below meth c H locs cells slots Q (F0 m pc ls rest) := by
  obtain ⟨hx, hb, hml, hown, hts, hK, hZ, hN, hrest⟩ := Z
  exact va_ldcM hx hb hown (hts _ gc_ok.2.2.2.2) hN.2.2.2.2 hd kk
theorem xcp (Z : ZZ p s m args c cc own nL G) (hR : Rep G h H) (hS : va_S (AA G) s.heap H locs) (hl : LV ls nL lv) {idx : Nat} {r q : Option Nat} {sp dp n : Int32} {K : Hp → Option α} (hq : acp h r sp q dp n K = some y) (hk : Cond.methodLink own idx arraycopyName ∈ GT) (hf : 1 ≤ R.frames) (hlo : (rest.map fun v => v.category).sum + (nativeFrameWords "java/lang/System" "arraycopy" 5 + 11) ≤ R.locals) (hd : decode cc pc = .ok (.invokestatic idx, 3))
    (kk : ∀ (h : Hp) (H1 : Heap) (locs1 : List Loc), K h = some y → Rep G h H1 → va_S (AA G) s.heap H1 locs1 → W p l e R s m args below meth c H1 locs1 cells slots Q (F0 m (pc + 3) ls rest)) : W p l e R s m args below meth c H locs cells slots Q (F0 m pc ls (.int n :: .int dp :: va_rf q :: .int sp :: va_rf r :: rest)) := by
  obtain ⟨a0, n0, f, rfl, he0, hq⟩ := arR_inv hq
  obtain ⟨a, n1, g, rfl, he1, hq⟩ := arR_inv hq
  obtain ⟨⟨⟨i1, i2, i3, i4, i5, i6, i7⟩, hall⟩, hq⟩ := ite_inv hq
  have c1 := clampZ i1
  have c2 := clampZ i2
  have c3 := clampZ i3
  have h1 := negZ i1
  have h2 := negZ i2
  have h3 := negZ i3
  have h4 : sp.toNatClampNeg + n.toNatClampNeg ≤ n0 := by omega
  have h5 : dp.toNatClampNeg + n.toNatClampNeg ≤ n1 := by omega
  have hwo : G.1.1 ≤ a := (hR.2.2 a _ he1).2.R i6
  have hel : ∀ i : Nat, i < n.toNatClampNeg → ∀ y : Nat, f (sp.toNatClampNeg + i) = some y → va_Any "java/lang/Object" s H y := by
    intro i hi y hy
    have := List.all_eq_true.mp hall i (List.mem_range.mpr hi)
    rw [hy] at this
    exact anyB Z hR this
  obtain ⟨hx, hb, hml, hown, hts, hK, hZ, hN, hrest⟩ := Z
  have hc0 : H[a0]? = some (vp_cell G.2.2.2.2 (n0, .inr (.inr (.inr (.inr f))))) := (hR.2.2 a0 _ he0).1.1 i7
  have hc1 : H[a]? = some (vp_cell G.2.2.2.2 (n1, .inr (.inr (.inr (.inr g))))) := (hR.2.2 a _ he1).1.1 i6
  intro T hT X
  obtain ⟨-, k0, hk0, cm0, hkk0⟩ := (hK.2 2 _ rfl).1 n0 (fun j => va_rf (f j))
  obtain ⟨-, k1, hk1, cm1, hkk1⟩ := (hK.2 2 _ rfl).1 n1 (fun j => va_rf (g j))
  obtain ⟨vm', X', step⟩ := X.arraycopy hx hown (hts _ hk) (hts _ cp_ok.1) (hts _ cp_ok.2.1) (hts _ cp_ok.2.2) (src := a0) (dst := a) (cs := vp_cell G.2.2.2.2 (n0, .inr (.inr (.inr (.inr f))))) (cd := vp_cell G.2.2.2.2 (n1, .inr (.inr (.inr (.inr g))))) (srcPos := sp) (destPos := dp) (n := n) (by rw [hT]; exact hc0) (by rw [hT]; exact hc1)
    (fun _ h => by cases h) (fun _ h => by cases h) (fun h => by cases h) (fun h => by cases h) hk0 hk1 hkk0 hkk1 rfl h1 h2 h3
    (by show ¬ _ > ((arrV G.2.2.2.2 n0 (fun j => va_rf (f j))).slots.size : Int); rw [arrV_size]; omega)
    (by show ¬ _ > ((arrV G.2.2.2.2 n1 (fun j => va_rf (g j))).slots.size : Int); rw [arrV_size]; omega)
    (fun vm₁ hal i hi => by
      have e : (vp_cell G.2.2.2.2 (n0, .inr (.inr (.inr (.inr f))))).slots.getD (sp.toNatClampNeg + i) .null = va_rf (f (sp.toNatClampNeg + i)) := by
        show (arrV G.2.2.2.2 n0 (fun j => va_rf (f j))).slots.getD _ _ = _
        rw [Array.getD_eq_getD_getElem?, arrV_read _ _ (by omega)]
        rfl
      rw [e]
      cases hy : f (sp.toNatClampNeg + i) with
      | none => exact ⟨rfl, trivial⟩
      | some y =>
        obtain ⟨cellV, g1, g2, ⟨kC, hkC⟩, hasg⟩ := hel i hi y hy
        obtain ⟨kA, comp, r1, r2, r3, -⟩ := (hK.2 2 _ rfl).2
        cases hk1.symm.trans r1
        cases hkk1.symm.trans r2
        obtain ⟨kE, hkE, -⟩ := Vm.findClass_spec r3
        obtain ⟨kC', hkC', -⟩ := hal.2.2 _ _ hkC
        obtain ⟨kE', hkE', -⟩ := hal.2.2 _ _ hkE
        refine ⟨rfl, cellV, (show T.heap[y]? = some cellV by rw [hT]; exact g1), (fun q h => by rw [h] at g2; cases g2), ⟨kC', hkC'⟩, ?_, ?_⟩
        · exact ⟨kE', hkE'⟩
        · show vm₁.assignable _ _ = true
          rw [hal.assignable]
          exact hasg _ r3)
    (g := F0 m pc ls (.int n :: .int dp :: .ref a :: .int sp :: .ref a0 :: rest)) rfl (by rw [hml]; exact hl.sz) (rest := rest) rfl (by rw [hb]; exact hd) hf (by show 2 * 0 + _ + _ ≤ _; omega)
  have e1 : copied (vp_cell G.2.2.2.2 (n0, .inr (.inr (.inr (.inr f))))) (vp_cell G.2.2.2.2 (n1, .inr (.inr (.inr (.inr g))))) sp dp n = vp_cell G.2.2.2.2 (n1, .inr (.inr (.inr (.inr (va_cpy f g sp.toNatClampNeg dp.toNatClampNeg n.toNatClampNeg))))) := by
    rw [vp_cell_q, vp_cell_q, vp_cell_q]
    exact va_copied (fun z => va_rf z) G.2.2.2.2 G.2.2.2.2 f g h4
  rw [e1] at X' step
  have hlt : a < H.size := (Array.getElem?_eq_some_iff.mp hc1).1
  have hheap : ((T.setVm vm').setCell a (vp_cell G.2.2.2.2 (n1, .inr (.inr (.inr (.inr (va_cpy f g sp.toNatClampNeg dp.toNatClampNeg n.toNatClampNeg))))))).heap = H.setIfInBounds a (vp_cell G.2.2.2.2 (n1, .inr (.inr (.inr (.inr (va_cpy f g sp.toNatClampNeg dp.toNatClampNeg n.toNatClampNeg)))))) := by rw [← hT]; rfl
  have oq : ∀ q : Nat, q ≠ a → (H.setIfInBounds a (vp_cell G.2.2.2.2 (n1, .inr (.inr (.inr (.inr (va_cpy f g sp.toNatClampNeg dp.toNatClampNeg n.toNatClampNeg)))))))[q]? = H[q]? := fun q hq => by simp [Array.getElem?_setIfInBounds, Ne.symm hq]
  obtain ⟨t, a1, b1⟩ := kk _ _ _ hq (hR.put hwo (by simp) oq (rAt_R (by simp [Array.getElem?_setIfInBounds, hlt]))) ⟨by simp; exact hS.1, fun q g1 g2 => by
      rw [oq q (fun e => g2 (by rw [e]; exact hwo))]
      exact hS.2.1 q g1 g2, fun q hq => by
      rcases List.mem_append.mp hq with h | h
      · exact hS.2.2 q h
      · obtain ⟨z, -, hz⟩ := List.mem_map.mp h
        rw [← hz]
        exact hwo⟩ _ hheap X'
  exact ⟨t, step t a1, b1⟩
theorem xcN (Z : ZZ p s m args c cc RX7 nL G) (hR : Rep G h H) (hS : va_S (AA G) s.heap H locs) (hl : LV ls nL lv) {maxL n mc ms b : Nat} {bytes : ByteArray} {rm : Room} {f : Option (Unit × Hp)} {K : Unit → Hp → Option α} {As st : List Value}
    (hq : bd f K = some y) (hv : (Cond.instanceMethod yX1_init ∈ GT ∧ Cond.initialized RX1 ∈ GT ∧ Cond.code yX1_init bytes maxL none ∈ GT) ∧ (parseMethodDescriptor yX1_init.desc).map (fun d => d.parameters.length) = some n) (hM : ∀ (x : Unit) (h1 : Hp), f = some (x, h1) → Met l yX1_init (Cond.code yX1_init bytes maxL none :: GT) rm (va_Pc (.ref b :: As) (Cn G h)) (Qx G none h1) mc ms (AA G))
    (hrm : (rm.cells = mc ∧ rm.slots = ms) ∧ rm.frames + 1 ≤ R.frames ∧ 8 + (maxL + 11) + rm.locals ≤ R.locals) (hn : As.length = n) (hst : st = As.reverse ++ .ref b :: rest) (hw : (rest.map fun v => v.category).sum ≤ 8) (hd : decode cc pc = .ok (.invokespecial 25, 3)) (hf : cells + mc ≤ R.cells ∧ slots + ms ≤ R.slots)
    (kk : ∀ (x : Unit) (h1 : Hp) (H1 : Heap) (locs1 : List Loc), K x h1 = some y → Rep G h1 H1 → va_S (AA G) s.heap H1 locs1 → W p l e R s m args below meth c H1 locs1 (cells + mc) (slots + ms) Q (F0 m (pc + 3) ls rest)) : W p l e R s m args below meth c H locs cells slots Q (F0 m pc ls st) := by
  obtain ⟨x, h1, hc, hq⟩ := bd_inv hq
  obtain ⟨⟨k2, k4, k5⟩, k6⟩ := hv
  obtain ⟨hx, hb, hml, hown, hts, hK, hZ, hN, hrest⟩ := id Z
  subst hst
  refine xrun (va_runIN (As := As) (rest := rest) (b := b) (host := "FreightPaths") ⟨hx, hb, hml, hown, hts⟩ (hM x h1 hc) ⟨va_cnB n hts (tbl_code k5) rfl hrm.1.1 hrm.1.2 hN.2.2.1 (hts _ k4) ⟨by decide, by decide, k6⟩ hrm.2, rfl, hts _ k2⟩ ⟨Cn_blind G h _, fun U hU hW => ⟨rfl, pre_ok Z hR hS U hU hW⟩⟩ rfl hn hl.sz rfl (lv_room hw) hd hf) hS (fun H1 locs1 hR1 hS1 => kk x h1 H1 locs1 hq hR1 hS1)
end RE
theorem ct_ok : Cond.constant RJ8 200 (2147483639) ∈ GT := by decide +kernel
theorem xMetF {l : Launch} {cc : ByteArray} {G : GG} {h : Hp} {yy : MethodName} {maxL mc ms : Nat} {ret : Option FieldType} {rm : Room} {av : List Value} {v : Option Value} {h1 : Hp} (hy : plainFor yy = true) (hsl : av.length ≤ maxL) (hcat : ∀ v ∈ av, v.category = 1)
    (body : ∀ (p : Program) (e : Env) (s : State) (m : MethodId) (below : List Frame) (meth : Method) (c : Code) (ls : Array Slot), ZZ p s m av.toArray c cc yy.cls maxL G → meth.sig.returnType = ret → meth.locks = false → meth.name = yy.name → Rep G h s.heap → va_S (AA G) s.heap s.heap [] → LV ls maxL (ar1 0 av) →
      W p l e rm s m av.toArray below meth c s.heap [] 0 0 (MQ below (Qx G v h1) av.toArray s mc ms (AA G)) (F0 m 0 ls [])) : Met l yy (Cond.code yy cc maxL ret :: GT) rm (va_Pc av (Cn G h)) (Qx G v h1) mc ms (AA G) := by
  refine va_MetF (cc := cc) (maxL := maxL) (ret := ret) hy rfl ?_
  intro p e s m args below meth c s₁ B hml hv
  obtain ⟨rfl, hR, hK, hZ, hN⟩ := hv
  have hts := atoms_spec (ws := Cond.code yy cc maxL ret :: GT) B.pre
  obtain ⟨w1, w2, w3⟩ := ar1_eq av 0 hcat
  have hl := lv_entry av (n := maxL) (by rw [w2]; exact hsl)
  rw [w1] at hl
  rw [lg_entry_eq]
  generalize (lg_sl av ++ List.replicate (maxL - (lg_sl av).length) Slot.unset).toArray = ls at hl ⊢
  exact body p e s m below meth c ls ⟨B.exec, B.bytes, hml, findClass_of_methodNamed B.named, fun w hw => hts w (List.mem_cons_of_mem _ hw), hK, hZ, hN, by rw [hR.1]; exact hR.2.1⟩ B.returns B.notSynchronized (name_of_methodNamed B.named B.method).1 hR va_S.rf ⟨hl, w3⟩
