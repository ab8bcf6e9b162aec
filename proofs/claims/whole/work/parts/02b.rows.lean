/-! the machine's steps over the heap of values -/
/-- the words that hold in every state of the run -/
def GT : List Cond := lw_tbl.filter goodWord
theorem tbl_good : GoodIn GT GT := fun w hw => ⟨hw, good_of_word (List.mem_filter.mp hw).2⟩
theorem tbl_code {y : MethodName} {bytes : ByteArray} {maxL : Nat} {ret : Option FieldType} (h : Cond.code y bytes maxL ret ∈ GT) : GoodIn GT (Cond.code y bytes maxL ret :: GT) := by
  intro w hw
  rcases List.mem_cons.mp hw with e | e
  · rw [e]; exact tbl_good _ h
  · exact tbl_good w e
def FL (own : String) (idx ci k : Nat) : Prop := ∃ (C : String) (T : u_T) (N : Nat) (ref : String), vwCl[ci]? = some (C, T, N) ∧ k < N ∧ Cond.fieldLink own idx ref (T k).2.1 (T k).2.2.1 ∈ GT ∧ (ref = (T k).1 ∨ Cond.sameField ref (T k).1 (T k).2.1 (T k).2.2.1 ∈ GT)
def VL (own : String) (idx ci : Nat) (y : MethodName) (bytes : ByteArray) (maxL : Nat) (ret : Option FieldType) (n : Nat) : Prop :=
  (∃ (T : u_T) (N : Nat), vwCl[ci]? = some (y.cls, T, N)) ∧ (Cond.methodLink own idx y ∈ GT ∧ Cond.instanceMethod y ∈ GT ∧ Cond.selects y.cls y y ∈ GT ∧ Cond.initialized y.cls ∈ GT ∧ Cond.code y bytes maxL ret ∈ GT) ∧ y.cls ≠ "java/lang/invoke/MethodHandle" ∧ y.cls ≠ "java/lang/invoke/VarHandle" ∧ (parseMethodDescriptor y.desc).map (fun d => d.parameters.length) = some n
def SL (own : String) (idx : Nat) (y : MethodName) (bytes : ByteArray) (maxL : Nat) (ret : Option FieldType) (n : Nat) : Prop :=
  (Cond.methodLink own idx y ∈ GT ∧ Cond.static y ∈ GT ∧ Cond.initialized y.cls ∈ GT ∧ Cond.code y bytes maxL ret ∈ GT) ∧ y.cls ≠ "java/lang/invoke/MethodHandle" ∧ y.cls ≠ "java/lang/invoke/VarHandle" ∧ (parseMethodDescriptor y.desc).map (fun d => d.parameters.length) = some n
def IL (own : String) (idx : Nat) (y : MethodName) (bytes : ByteArray) (maxL : Nat) (n : Nat) : Prop :=
  (Cond.methodLink own idx y ∈ GT ∧ Cond.instanceMethod y ∈ GT ∧ Cond.initialized y.cls ∈ GT ∧ Cond.code y bytes maxL none ∈ GT) ∧ y.name = "<init>" ∧ y.cls ≠ "java/lang/invoke/MethodHandle" ∧ y.cls ≠ "java/lang/invoke/VarHandle" ∧ (parseMethodDescriptor y.desc).map (fun d => d.parameters.length) = some n
def NL (own : String) (idx : Nat) (C : String) (ci N : Nat) : Prop := (∃ T : u_T, vwCl[ci]? = some (C, T, N)) ∧ Cond.classLink own idx C ∈ GT ∧ Cond.instantiable C N ∈ GT ∧ Cond.initialized C ∈ GT
/-- of each class that the heap holds: its words, its types, its names -/
theorem cls_ok : ∀ (ci : Nat) (C : String) (T : u_T) (N : Nat), vwCl[ci]? = some (C, T, N) → (∀ w ∈ u_ws C T N, w ∈ GT) ∧ (∀ k, k < N → parseFieldDescriptor (T k).2.2.1 = some (tyC ci k)) ∧ (∀ a, a < N → ∀ b, b < N → a ≠ b → (T a).2.1 ≠ (T b).2.1)
  | 0, _, _, _, h => by cases h; exact ⟨by decide +kernel, tyJx4a65c_ok, nmJx4a65c⟩
  | 1, _, _, _, h => by cases h; exact ⟨by decide +kernel, tyX0_ok, nmX0⟩
  | 2, _, _, _, h => by cases h; exact ⟨by decide +kernel, tyX1_ok, nmX1⟩
  | 3, _, _, _, h => by cases h; exact ⟨by decide +kernel, tyX2_ok, nmX2⟩
  | 4, _, _, _, h => by cases h; exact ⟨by decide +kernel, tyX3_ok, nmX3⟩
  | 5, _, _, _, h => by cases h; exact ⟨by decide +kernel, tyX4_ok, nmX4⟩
  | 6, _, _, _, h => by cases h; exact ⟨by decide +kernel, tyX5_ok, nmX5⟩
  | 7, _, _, _, h => by cases h; exact ⟨by decide +kernel, tyX6_ok, nmX6⟩
  | 8, _, _, _, h => by cases h; exact ⟨by decide +kernel, tyX7_ok, nmX7⟩
  | 9, _, _, _, h => by cases h; exact ⟨by decide +kernel, tyX8_ok, nmX8⟩
  | n + 10, _, _, _, h => by cases h
theorem isR_ok {ci k : Nat} (h : isR ci k = true) (r : Option Nat) : narrow (tyC ci k) (va_rf r) = va_rf r ∧ fits (tyC ci k) (va_rf r) = true := by
  unfold isR at h
  cases ht : tyC ci k <;> rw [ht] at h <;> first | (cases h; done) | (cases r <;> exact ⟨rfl, rfl⟩)
theorem tyC_dv (ci k : Nat) : defaultValue (tyC ci k) = fv ci (fun _ => 0) (fun _ => none) k := by
  unfold fv isR tyC
  split
  · unfold tyJx4a65c; split <;> rfl
  · unfold tyX0; split <;> rfl
  · unfold tyX1; split <;> rfl
  · unfold tyX2; split <;> rfl
  · unfold tyX3; split <;> rfl
  · unfold tyX4; split <;> rfl
  · unfold tyX5; split <;> rfl
  · unfold tyX6; split <;> rfl
  · unfold tyX7; split <;> rfl
  · unfold tyX8; split <;> rfl
/-- the words that are no word of GT: castable, arrays over Object, the nest mate's constructor, getClass; the class object of Object[] is at mi -/
def NN (mi : Nat) (U : State) : Prop := va_Nw (.castable "FreightPaths$Bid" "java/lang/Object") U ∧ va_AO "java/lang/Object" U ∧ va_Nw (.methodLinkNest "FreightPaths" 25 yX1_init "FreightPaths") U ∧ va_Dc U ∧ va_Mi "[Ljava/lang/Object;" mi U
theorem NN.moved {mi : Nat} {u U : State} (hW : u.WarmedH U.vm) (h : NN mi u) : NN mi U := ⟨va_Nw.warmC hW h.1, h.2.1.moved hW.alike, va_Nw.warmM hW h.2.2.1, h.2.2.2.1.moved hW.alike, h.2.2.2.2.moved hW.alike⟩
theorem NN.same {mi : Nat} {u U : State} (hv : u.vm = U.vm) (h : NN mi u) : NN mi U := ⟨va_Nw.same rfl hv h.1, h.2.1.moved (by rw [hv]; exact Vm.Alike.refl _), va_Nw.same rfl hv h.2.2.1, h.2.2.2.1.moved (by rw [hv]; exact Vm.Alike.refl _), h.2.2.2.2.moved (by rw [hv]; exact Vm.Alike.refl _)⟩
def ZZ (p : Program) (s : State) (m : MethodId) (args : Array Value) (c : Code) (cc : ByteArray) (own : String) (nL : Nat) (G : GG) : Prop :=
  p.tables.exec = Jvm.exec ∧ c.code = cc ∧ c.maxLocals = nL ∧ s.vm.findClass own = some m.cls ∧ (∀ w ∈ GT, w.before args s = true) ∧ KK G s ∧ SZ G s s.heap ∧ NN G.1.2.2 s ∧ G.1.1 ≤ s.heap.size
def Cn (G : GG) (h : Hp) (U : State) : Prop := Rep G h U.heap ∧ KK G U ∧ SZ G U U.heap ∧ NN G.1.2.2 U
def Qx (G : GG) (v : Option Value) (h : Hp) : Array Value → State → Outcome → State → Prop := fun _ st oc t => (oc = .returned v ∧ Rep G h t.heap) ∧ va_F (AA G) st t
theorem Cn_blind (G : GG) (h : Hp) (av : List Value) : FrameBlind (va_Pc av (Cn G h)) := by
  intro a U g mk q
  obtain ⟨q0, q1, q2, q3, q4⟩ := q
  exact ⟨q0, q1, va_K.moved (u := U) (U := U.calling g mk a) (Vm.Alike.refl U.vm) q2, va_Z.moved (u := U) (U := U.calling g mk a) (Vm.Alike.refl U.vm) q3, NN.same (u := U) (U := U.calling g mk a) rfl q4⟩
section RW
variable {p : Program} {l : Launch} {e : Env} {R : Room} {s : State} {m : MethodId} {args : Array Value} {below : List Frame} {meth : Method} {c : Code} {H : Heap} {locs : List Loc} {cells slots : Nat} {Q : State → Prop}
variable {cc : ByteArray} {pc nL : Nat} {ls : Array Slot} {rest : List Value} {own : String} {G : GG} {h : Hp} {α : Type} {y : α}
theorem xg_raw (Z : ZZ p s m args c cc own nL G) (hR : Rep G h H) {ci k idx a : Nat} {I : Nat → Int32} {F : Nat → Option Nat} (he : h.2 a = some (eO ci I F)) (hf : FL own idx ci k) (hd : decode cc pc = .ok (.getfield idx, 3))
    (kk : W p l e R s m args below meth c H locs cells slots Q (F0 m (pc + 3) ls (fv ci I F k :: rest))) : W p l e R s m args below meth c H locs cells slots Q (F0 m pc ls (.ref a :: rest)) := by
  obtain ⟨hx, hb, hml, hown, hts, hK, -, -, -⟩ := Z
  obtain ⟨C, T, N, ref, hc, hk, hl, hs⟩ := hf
  obtain ⟨r, h1, cell, q1, q2, q3, q4⟩ := (hR.2.2 a _ he).1
  have hr : r = (C, T, N) := Option.some.inj (h1.symm.trans hc)
  subst hr
  obtain ⟨hS, hfc, kC, hkC, hkind⟩ := hK.1 ci _ hc
  obtain ⟨cf, kf, fi, f, hi, hsl⟩ := hS k hk
  have hsame : ∀ x, s.fieldFound? (T k).1 (T k).2.1 (T k).2.2.1 = some x → s.fieldFound? ref (T k).2.1 (T k).2.2.1 = some x := by
    rcases hs with hs | hs
    · rw [hs]; exact fun _ z => z
    · exact u_same (hts _ hs)
  refine W.getf hx hb hown (hts _ hl) (hsame _ hi) (u_facts hfc hkC (u_lays hts (cls_ok ci C T N hc).1 hk) hi).1 q1 (by rw [q3]; exact fun h => by cases h) (v := fv ci I F k) ?_ rfl rfl hd kk
  rw [hsl, q4 k hk]
theorem xgI (Z : ZZ p s m args c cc own nL G) (hR : Rep G h H) {ci k idx : Nat} {r : Option Nat} {K : Int32 → Option α} (hq : gI h r ci k K = some y) (hf : FL own idx ci k) (hi : isR ci k = false) (hd : decode cc pc = .ok (.getfield idx, 3))
    (kk : ∀ x : Int32, K x = some y → W p l e R s m args below meth c H locs cells slots Q (F0 m (pc + 3) ls (.int x :: rest))) : W p l e R s m args below meth c H locs cells slots Q (F0 m pc ls (va_rf r :: rest)) := by
  obtain ⟨a, I, F, rfl, he, hq⟩ := obj_inv hq
  refine xg_raw Z hR he hf hd ?_
  rw [show fv ci I F k = .int (I k) by simp [fv, hi]]
  exact kk _ hq
theorem xgR (Z : ZZ p s m args c cc own nL G) (hR : Rep G h H) {ci k idx : Nat} {r : Option Nat} {K : Option Nat → Option α} (hq : gR h r ci k K = some y) (hf : FL own idx ci k) (hi : isR ci k = true) (hd : decode cc pc = .ok (.getfield idx, 3))
    (kk : ∀ x : Option Nat, K x = some y → W p l e R s m args below meth c H locs cells slots Q (F0 m (pc + 3) ls (va_rf x :: rest))) : W p l e R s m args below meth c H locs cells slots Q (F0 m pc ls (va_rf r :: rest)) := by
  obtain ⟨a, I, F, rfl, he, hq⟩ := obj_inv hq
  refine xg_raw Z hR he hf hd ?_
  rw [show fv ci I F k = va_rf (F k) by simp [fv, hi]]
  exact kk _ hq
theorem xp_raw (Z : ZZ p s m args c cc own nL G) (hR : Rep G h H) (hS : va_S (AA G) s.heap H locs) {ci k idx a : Nat} {I I' : Nat → Int32} {F F' : Nat → Option Nat} (he : h.2 a = some (eO ci I F)) (hf : FL own idx ci k) (hfin : ∀ (C : String) (T : u_T) (N : Nat), vwCl[ci]? = some (C, T, N) → (T k).2.2.2 = false ∨ ((T k).2.2.2 = true ∧ (T k).1 = own ∧ meth.name = "<init>")) (hd : decode cc pc = .ok (.putfield idx, 3))
    {v : Value} (hn : narrow (tyC ci k) v = v) (hfit : fits (tyC ci k) v = true) (hv : ∀ j, updV (fv ci I F) k v j = fv ci I' F' j)
    (kk : ∀ (H1 : Heap) (locs1 : List Loc), Rep G (hput h a (eO ci I' F')) H1 → va_S (AA G) s.heap H1 locs1 → W p l e R s m args below meth c H1 locs1 cells slots Q (F0 m (pc + 3) ls rest)) : W p l e R s m args below meth c H locs cells slots Q (F0 m pc ls (v :: .ref a :: rest)) := by
  obtain ⟨hx, hb, hml, hown, hts, hK, -, -, -⟩ := Z
  obtain ⟨C, T, N, ref, hc, hk, hl, hs⟩ := hf
  obtain ⟨hin, hty, hnm⟩ := cls_ok ci C T N hc
  have hwo : G.1.1 ≤ a := (hR.2.2 a _ he).2.O
  obtain ⟨r, h1, cell, q1, q2, q3, q4⟩ := (hR.2.2 a _ he).1
  have hr : r = (C, T, N) := Option.some.inj (h1.symm.trans hc)
  subst hr
  have hap := va_apart (own := own) hts hin (tyC ci) hty hnm hK hc
  obtain ⟨hSl, hfc, kC, hkC, hkind⟩ := hK.1 ci _ hc
  obtain ⟨cf, kf, fi, f, hi, hsl⟩ := hSl k hk
  have hsame : ∀ x, s.fieldFound? (T k).1 (T k).2.1 (T k).2.2.1 = some x → s.fieldFound? ref (T k).2.1 (T k).2.2.1 = some x := by
    rcases hs with hs | hs
    · rw [hs]; exact fun _ z => z
    · exact u_same (hts _ hs)
  have hlay := hts _ (hin _ (u_in_lay hk))
  unfold u_lay at hlay
  have hst := (u_facts hfc hkC (u_lays hts hin hk) hi).1
  have fin : ∀ H' : Heap, H'[a]? = some (cell.setSlot f.slot v) → H'.size = H.size → (∀ q : Nat, q ≠ a → H'[q]? = H[q]?) → W p l e R s m args below meth c H' (locs ++ [⟨a, f.slot⟩]) cells slots Q (F0 m (pc + 3) ls rest) := by
    intro H' e1 e2 e3
    rw [hsl] at e1 ⊢
    exact kk H' _ (hR.put hwo e2 e3 ⟨_, hc, t_OB.to (V := updV (fv ci I F) k v) ⟨_, e1, q2, q3, t_set q4 hap hk v⟩ (fun j _ => hv j)⟩) (hS.put e2 e3 hwo)
  rcases hfin C T N hc with hfin | ⟨hfin, hdecl, hin2⟩
  · rw [if_neg (by rw [hfin]; decide)] at hlay
    have h6 := u_store hfc hkC hkind hlay hi (hty k hk) hn hfit
    exact W.putK hx hb (f := f) ⟨hown, hts _ hl, ⟨_, _, _, hsame _ hi⟩, hst⟩ (by rw [q2]; exact h6) q1 q3 (by rw [hsl]; exact k2_hasslot (q4 k hk)) rfl rfl hd fin
  · rw [if_pos hfin] at hlay
    have hcf : m.cls = cf := by
      obtain ⟨_, _, c', _, _, _, -, -, hf', -, -, -, hown2, -⟩ := Cond.laysFinal_spec hlay
      have e1 : c' = cf := by have := hi.symm.trans hf'; simp at this; exact this.1.symm
      rw [hdecl] at hown2
      rw [← e1]; exact Option.some.inj (hown.symm.trans hown2)
    have h6 := u_fits hfc hkC hkind (Or.inr hlay) hi (hty k hk) hn hfit
    exact W.putFinK hx hb hown (hts _ hl) (hsame _ hi) hst hcf hin2 (by rw [q2]; exact h6) q1 q3 (by rw [hsl]; exact k2_hasslot (q4 k hk)) rfl rfl hd fin
def nF (ci k : Nat) : Prop := ∀ (C : String) (T : u_T) (N : Nat), vwCl[ci]? = some (C, T, N) → (T k).2.2.2 = false
def iF (own : String) (ci k : Nat) : Prop := ∀ (C : String) (T : u_T) (N : Nat), vwCl[ci]? = some (C, T, N) → (T k).2.2.2 = true ∧ (T k).1 = own
theorem xpI (Z : ZZ p s m args c cc own nL G) (hR : Rep G h H) (hS : va_S (AA G) s.heap H locs) {ci k idx : Nat} {r : Option Nat} {x : Int32} {K : Hp → Option α} (hq : pI h r ci k x K = some y) (hf : FL own idx ci k) (hi : tyC ci k = .int) (hfin : nF ci k ∨ (iF own ci k ∧ meth.name = "<init>")) (hd : decode cc pc = .ok (.putfield idx, 3))
    (kk : ∀ (h : Hp) (H1 : Heap) (locs1 : List Loc), K h = some y → Rep G h H1 → va_S (AA G) s.heap H1 locs1 → W p l e R s m args below meth c H1 locs1 cells slots Q (F0 m (pc + 3) ls rest)) : W p l e R s m args below meth c H locs cells slots Q (F0 m pc ls (.int x :: va_rf r :: rest)) := by
  obtain ⟨a, I, F, rfl, he, hq⟩ := obj_inv hq
  exact xp_raw Z hR hS he hf (fun C T N hc => hfin.elim (fun z => Or.inl (z C T N hc)) (fun z => Or.inr ⟨(z.1 C T N hc).1, (z.1 C T N hc).2, z.2⟩)) hd (by rw [hi]; rfl) (by rw [hi]; rfl) (fv_upd (by unfold isR; rw [hi]; rfl) I F x) (fun H1 locs1 hR hS => kk _ H1 locs1 hq hR hS)
theorem xpZ (Z : ZZ p s m args c cc own nL G) (hR : Rep G h H) (hS : va_S (AA G) s.heap H locs) {ci k idx : Nat} {r : Option Nat} {x : Int32} {K : Hp → Option α} (hq : pZ h r ci k x K = some y) (hf : FL own idx ci k) (hi : tyC ci k = .boolean) (hfin : nF ci k ∨ (iF own ci k ∧ meth.name = "<init>")) (hd : decode cc pc = .ok (.putfield idx, 3))
    (kk : ∀ (h : Hp) (H1 : Heap) (locs1 : List Loc), K h = some y → Rep G h H1 → va_S (AA G) s.heap H1 locs1 → W p l e R s m args below meth c H1 locs1 cells slots Q (F0 m (pc + 3) ls rest)) : W p l e R s m args below meth c H locs cells slots Q (F0 m pc ls (.int x :: va_rf r :: rest)) := by
  obtain ⟨a, I, F, rfl, he, hq⟩ := obj_inv hq
  obtain ⟨hx, hq⟩ := ite_inv hq
  exact xp_raw Z hR hS he hf (fun C T N hc => hfin.elim (fun z => Or.inl (z C T N hc)) (fun z => Or.inr ⟨(z.1 C T N hc).1, (z.1 C T N hc).2, z.2⟩)) hd (by rw [hi]; rcases hx with rfl | rfl <;> decide) (by rw [hi]; rcases hx with rfl | rfl <;> decide) (fv_upd (by unfold isR; rw [hi]; rfl) I F x) (fun H1 locs1 hR hS => kk _ H1 locs1 hq hR hS)
theorem xpR (Z : ZZ p s m args c cc own nL G) (hR : Rep G h H) (hS : va_S (AA G) s.heap H locs) {ci k idx : Nat} {r x : Option Nat} {K : Hp → Option α} (hq : pR h r ci k x K = some y) (hf : FL own idx ci k) (hi : isR ci k = true) (hfin : nF ci k ∨ (iF own ci k ∧ meth.name = "<init>")) (hd : decode cc pc = .ok (.putfield idx, 3))
    (kk : ∀ (h : Hp) (H1 : Heap) (locs1 : List Loc), K h = some y → Rep G h H1 → va_S (AA G) s.heap H1 locs1 → W p l e R s m args below meth c H1 locs1 cells slots Q (F0 m (pc + 3) ls rest)) : W p l e R s m args below meth c H locs cells slots Q (F0 m pc ls (va_rf x :: va_rf r :: rest)) := by
  obtain ⟨a, I, F, rfl, he, hq⟩ := obj_inv hq
  exact xp_raw Z hR hS he hf (fun C T N hc => hfin.elim (fun z => Or.inl (z C T N hc)) (fun z => Or.inr ⟨(z.1 C T N hc).1, (z.1 C T N hc).2, z.2⟩)) hd (isR_ok hi x).1 (isR_ok hi x).2 (fv_updR hi I F x) (fun H1 locs1 hR hS => kk _ H1 locs1 hq hR hS)
theorem KKi (hK : KK G s) : ArrOfT s G.2.2.1 .int := (hK.2 0 _ rfl).1
theorem KKz (hK : KK G s) : ArrOfT s G.2.2.2.1 .boolean := (hK.2 1 _ rfl).1
theorem KKo (hK : KK G s) : ArrOfT s G.2.2.2.2 (.object "java/lang/Object") := (hK.2 2 _ rfl).1
theorem xaI (Z : ZZ p s m args c cc own nL G) (hR : Rep G h H) {r : Option Nat} {i : Int32} {K : Int32 → Option α} (hq : ldI h r i K = some y) (hd : decode cc pc = .ok (.iaload, 1))
    (kk : ∀ x : Int32, K x = some y → W p l e R s m args below meth c H locs cells slots Q (F0 m (pc + 1) ls (.int x :: rest))) : W p l e R s m args below meth c H locs cells slots Q (F0 m pc ls (.int i :: va_rf r :: rest)) := by
  obtain ⟨hx, hb, hml, hown, hts, hK, -, -, -⟩ := Z
  obtain ⟨a, n, f, rfl, he, hq⟩ := arI_inv hq
  obtain ⟨hin, hq⟩ := ite_inv hq
  have hin := vp_in_of2 hin
  have hlt : i.toNatClampNeg < n := Nat.not_le.mp fun q => hin (Or.inr q)
  exact W.iald (v := .int (f i.toNatClampNeg)) hx hb (hR.2.2 a _ he).1 ((KKi hK) n (fun j => .int (f j))) (fun q => by cases q) (by show ¬ (i < 0 ∨ (arrV _ _ _).slots.size ≤ _); rw [arrV_size]; exact hin) (by show (arrV _ _ _).slots[_]? = _; rw [arrV_read _ _ hlt]) rfl rfl hd (kk _ hq)
theorem xaZ (Z : ZZ p s m args c cc own nL G) (hR : Rep G h H) {r : Option Nat} {i : Int32} {K : Int32 → Option α} (hq : ldZ h r i K = some y) (hd : decode cc pc = .ok (.baload, 1))
    (kk : ∀ x : Int32, K x = some y → W p l e R s m args below meth c H locs cells slots Q (F0 m (pc + 1) ls (.int x :: rest))) : W p l e R s m args below meth c H locs cells slots Q (F0 m pc ls (.int i :: va_rf r :: rest)) := by
  obtain ⟨hx, hb, hml, hown, hts, hK, -, -, -⟩ := Z
  obtain ⟨a, n, f, rfl, he, hq⟩ := arZ_inv hq
  obtain ⟨hin, hq⟩ := ite_inv hq
  have hin := vp_in_of2 hin
  have hlt : i.toNatClampNeg < n := Nat.not_le.mp fun q => hin (Or.inr q)
  exact W.zald (v := .int (f i.toNatClampNeg)) hx hb (hR.2.2 a _ he).1 ((KKz hK) n (fun j => .int (f j))) (fun q => by cases q) (by show ¬ (i < 0 ∨ (arrV _ _ _).slots.size ≤ _); rw [arrV_size]; exact hin) (by show (arrV _ _ _).slots[_]? = _; rw [arrV_read _ _ hlt]) rfl rfl hd (kk _ hq)
theorem xaR (Z : ZZ p s m args c cc own nL G) (hR : Rep G h H) {r : Option Nat} {i : Int32} {K : Option Nat → Option α} (hq : ldR h r i K = some y) (hd : decode cc pc = .ok (.aaload, 1))
    (kk : ∀ x : Option Nat, K x = some y → W p l e R s m args below meth c H locs cells slots Q (F0 m (pc + 1) ls (va_rf x :: rest))) : W p l e R s m args below meth c H locs cells slots Q (F0 m pc ls (.int i :: va_rf r :: rest)) := by
  obtain ⟨hx, hb, hml, hown, hts, hK, -, -, -⟩ := Z
  obtain ⟨a, n, f, rfl, he, hq⟩ := arR_inv hq
  obtain ⟨hin, hq⟩ := ite_inv hq
  have hin := vp_in_of2 hin
  have hlt : i.toNatClampNeg < n := Nat.not_le.mp fun q => hin (Or.inr q)
  exact W.aald (v := va_rf (f i.toNatClampNeg)) (ty := .object "java/lang/Object") hx hb ((hR.2.2 a _ he).1.1 (by show 0 < n; omega)) ((KKo hK) n (fun j => va_rf (f j))) rfl (fun q => by cases q) (by show ¬ (i < 0 ∨ (arrV _ _ _).slots.size ≤ _); rw [arrV_size]; exact hin) (by show (arrV _ _ _).slots[_]? = _; rw [arrV_read _ _ hlt]) rfl rfl hd (kk _ hq)
theorem xsI (Z : ZZ p s m args c cc own nL G) (hR : Rep G h H) (hS : va_S (AA G) s.heap H locs) {r : Option Nat} {i x : Int32} {K : Hp → Option α} (hq : stI h r i x K = some y) (hd : decode cc pc = .ok (.iastore, 1))
    (kk : ∀ (h : Hp) (H1 : Heap) (locs1 : List Loc), K h = some y → Rep G h H1 → va_S (AA G) s.heap H1 locs1 → W p l e R s m args below meth c H1 locs1 cells slots Q (F0 m (pc + 1) ls rest)) : W p l e R s m args below meth c H locs cells slots Q (F0 m pc ls (.int x :: .int i :: va_rf r :: rest)) := by
  obtain ⟨hx, hb, hml, hown, hts, hK, -, -, -⟩ := Z
  obtain ⟨a, n, f, rfl, he, hq⟩ := arI_inv hq
  obtain ⟨hin, hq⟩ := ite_inv hq
  have hin := vp_in_of2 hin
  have hwo : G.1.1 ≤ a := (hR.2.2 a _ he).2.I
  refine W.iast hx hb (hR.2.2 a _ he).1 ((KKi hK) n (fun j => .int (f j))) (fun q => by cases q) (by show ¬ (i < 0 ∨ (arrV _ _ _).slots.size ≤ _); rw [arrV_size]; exact hin) rfl rfl hd fun H1 e z oq => ?_
  refine kk _ H1 _ hq (hR.put hwo z oq ?_) (hS.put z oq hwo)
  show H1[a]? = some (vp_cell _ _)
  rw [e]
  show some ((vp_cell _ _).setSlot _ _) = _
  rw [vp_cell_i, vp_cell_i, arrV_store]
  congr 2
  funext q
  by_cases hq : q = i.toNatClampNeg
  · subst hq
    simp [updV, upd]
  · simp [updV, upd, hq]
theorem xsZ (Z : ZZ p s m args c cc own nL G) (hR : Rep G h H) (hS : va_S (AA G) s.heap H locs) {r : Option Nat} {i x : Int32} {K : Hp → Option α} (hq : stZ h r i x K = some y) (hd : decode cc pc = .ok (.bastore, 1))
    (kk : ∀ (h : Hp) (H1 : Heap) (locs1 : List Loc), K h = some y → Rep G h H1 → va_S (AA G) s.heap H1 locs1 → W p l e R s m args below meth c H1 locs1 cells slots Q (F0 m (pc + 1) ls rest)) : W p l e R s m args below meth c H locs cells slots Q (F0 m pc ls (.int x :: .int i :: va_rf r :: rest)) := by
  obtain ⟨hx, hb, hml, hown, hts, hK, -, -, -⟩ := Z
  obtain ⟨a, n, f, rfl, he, hq⟩ := arZ_inv hq
  obtain ⟨⟨hin, hbo⟩, hq⟩ := ite_inv hq
  have hin := vp_in_of2 hin
  have hwo : G.1.1 ≤ a := (hR.2.2 a _ he).2.Z
  have hnx : narrow .boolean (.int x) = .int x := by rcases hbo with rfl | rfl <;> decide
  refine W.zast hx hb (hR.2.2 a _ he).1 ((KKz hK) n (fun j => .int (f j))) (fun q => by cases q) (by show ¬ (i < 0 ∨ (arrV _ _ _).slots.size ≤ _); rw [arrV_size]; exact hin) rfl rfl hd fun H1 e z oq => ?_
  refine kk _ H1 _ hq (hR.put hwo z oq ?_) (hS.put z oq hwo)
  show H1[a]? = some (vp_cell _ _)
  rw [e]
  show some ((vp_cell _ _).setSlot _ _) = _
  rw [vp_cell_i, vp_cell_i, arrV_store]
  congr 2
  funext q
  by_cases hq : q = i.toNatClampNeg
  · subst hq
    simp [updV, upd, hnx]
  · simp [updV, upd, hq]
theorem xlI (Z : ZZ p s m args c cc own nL G) (hR : Rep G h H) {r : Option Nat} {K : Int32 → Option α} (hq : alI h r K = some y) (hd : decode cc pc = .ok (.arraylength, 1))
    (kk : ∀ x : Int32, K x = some y → W p l e R s m args below meth c H locs cells slots Q (F0 m (pc + 1) ls (.int x :: rest))) : W p l e R s m args below meth c H locs cells slots Q (F0 m pc ls (va_rf r :: rest)) := by
  obtain ⟨hx, hb, hml, hown, hts, hK, -, -, -⟩ := Z
  obtain ⟨a, n, f, rfl, he, hq⟩ := arI_inv hq
  exact W.alen (n := Int32.ofNat n) hx hb (hR.2.2 a _ he).1 ((KKi hK) n (fun j => .int (f j))) (by show (vp_cell _ _).slots.size.toInt32 = _; rw [vp_cell_i, arrV_size] <;> rfl) rfl rfl hd (kk _ hq)
theorem xlR (Z : ZZ p s m args c cc own nL G) (hR : Rep G h H) {r : Option Nat} {K : Int32 → Option α} (hq : alR h r K = some y) (hd : decode cc pc = .ok (.arraylength, 1))
    (kk : ∀ x : Int32, K x = some y → W p l e R s m args below meth c H locs cells slots Q (F0 m (pc + 1) ls (.int x :: rest))) : W p l e R s m args below meth c H locs cells slots Q (F0 m pc ls (va_rf r :: rest)) := by
  obtain ⟨hx, hb, hml, hown, hts, hK, -, -, -⟩ := Z
  obtain ⟨a, n, f, rfl, he, hq⟩ := arR_inv hq
  obtain ⟨-, cell, g1, g2, g3, g4⟩ := (hR.2.2 a _ he).1
  obtain ⟨-, k0, hk0, cm0, hkk0⟩ := (KKo hK) n (fun j => va_rf (f j))
  refine W.alen (n := Int32.ofNat n) (ty := .object "java/lang/Object") hx hb g1 ⟨fun k hk => (by rw [hk] at g3; cases g3), k0, (by rw [g2]; exact hk0), cm0, hkk0⟩ g4 rfl rfl hd (kk _ hq)
theorem hS_new {H1 : Heap} (hS : va_S (AA G) s.heap H locs) (z1 : H1.size = H.size + 1) (o1 : ∀ q : Nat, q < H.size → H1[q]? = H[q]?) : va_S (AA G) s.heap H1 locs :=
  ⟨Nat.le_trans hS.1 (by omega), fun x h1 h2 => (o1 x (Nat.lt_of_lt_of_le h1 hS.1)).trans (hS.2.1 x h1 h2), hS.2.2⟩
theorem xnO (Z : ZZ p s m args c cc own nL G) (hR : Rep G h H) (hS : va_S (AA G) s.heap H locs) {ci idx N : Nat} {C : String} {K : Nat → Hp → Option α} (hq : nwO h ci K = some y) (hn : NL own idx C ci N) (hcells : cells + 1 ≤ R.cells) (hslots : slots + N ≤ R.slots) (hd : decode cc pc = .ok (.new idx, 3))
    (kk : ∀ (a : Nat) (h : Hp) (H1 : Heap), K a h = some y → Rep G h H1 → va_S (AA G) s.heap H1 locs → W p l e R s m args below meth c H1 locs (cells + 1) (slots + N) Q (F0 m (pc + 3) ls (.ref a :: rest))) : W p l e R s m args below meth c H locs cells slots Q (F0 m pc ls rest) := by
  obtain ⟨hx, hb, hml, hown, hts, hK, -, -, -⟩ := Z
  obtain ⟨⟨T, hc⟩, hcl, hinst, hini⟩ := hn
  obtain ⟨hin, hty, hnm⟩ := cls_ok ci C T N hc
  have hKn := hK.1 ci _ hc
  refine W.newcK hx hb hown (hts _ hcl) (hts _ hinst) (hts _ hini) rfl hd hcells hslots hKn.2.1 rfl fun H1 kC hkC e1 z1 o1 => ?_
  rw [hR.1]
  refine kk h.1 _ H1 hq (hR.new z1 o1 ⟨_, hc, (u_born (tyC ci) hts hin hKn hkC e1 hty).to (fun k _ => ?_)⟩) (hS_new hS z1 o1)
  exact tyC_dv ci k
theorem xnI (Z : ZZ p s m args c cc own nL G) (hR : Rep G h H) (hS : va_S (AA G) s.heap H locs) {n : Int32} {N : Nat} {K : Nat → Hp → Option α} (hq : nwI h N K = some y) (harr : Cond.arrayClass .int ∈ GT) (hn : ¬ n < 0) (hN : n.toNatClampNeg = N) (hbytes : N * componentBytes .int ≤ 536870912) (hcells : cells + 1 ≤ R.cells) (hslots : slots + N ≤ R.slots) (hd : decode cc pc = .ok (.newarray .int, 2))
    (kk : ∀ (a : Nat) (h : Hp) (H1 : Heap), K a h = some y → Rep G h H1 → va_S (AA G) s.heap H1 locs → W p l e R s m args below meth c H1 locs (cells + 1) (slots + N) Q (F0 m (pc + 2) ls (.ref a :: rest))) : W p l e R s m args below meth c H locs cells slots Q (F0 m pc ls (.int n :: rest)) := by
  obtain ⟨hx, hb, hml, hown, hts, hK, -, -, -⟩ := Z
  refine va_newaK (atype := .int) hx hb (hts _ harr) rfl hd rfl hn hN hbytes hcells hslots rfl fun H1 cA e1 z1 o1 hAr hNm => ?_
  have hcA : cA = G.2.2.1 := Option.some.inj (hNm.symm.trans (hK.2 0 _ rfl).2)
  subst hcA
  rw [hR.1]
  refine kk h.1 _ H1 hq (hR.new z1 o1 ?_) (hS_new hS z1 o1)
  show H1[H.size]? = some (vp_cell _ _)
  rw [vp_cell_i]
  exact e1
theorem xnZ (Z : ZZ p s m args c cc own nL G) (hR : Rep G h H) (hS : va_S (AA G) s.heap H locs) {n : Int32} {N : Nat} {K : Nat → Hp → Option α} (hq : nwZ h N K = some y) (harr : Cond.arrayClass .boolean ∈ GT) (hn : ¬ n < 0) (hN : n.toNatClampNeg = N) (hbytes : N * componentBytes .boolean ≤ 536870912) (hcells : cells + 1 ≤ R.cells) (hslots : slots + N ≤ R.slots) (hd : decode cc pc = .ok (.newarray .boolean, 2))
    (kk : ∀ (a : Nat) (h : Hp) (H1 : Heap), K a h = some y → Rep G h H1 → va_S (AA G) s.heap H1 locs → W p l e R s m args below meth c H1 locs (cells + 1) (slots + N) Q (F0 m (pc + 2) ls (.ref a :: rest))) : W p l e R s m args below meth c H locs cells slots Q (F0 m pc ls (.int n :: rest)) := by
  obtain ⟨hx, hb, hml, hown, hts, hK, -, -, -⟩ := Z
  refine va_newaK (atype := .boolean) hx hb (hts _ harr) rfl hd rfl hn hN hbytes hcells hslots rfl fun H1 cA e1 z1 o1 hAr hNm => ?_
  have hcA : cA = G.2.2.2.1 := Option.some.inj (hNm.symm.trans (hK.2 1 _ rfl).2)
  subst hcA
  rw [hR.1]
  refine kk h.1 _ H1 hq (hR.new z1 o1 ?_) (hS_new hS z1 o1)
  show H1[H.size]? = some (vp_cell _ _)
  rw [vp_cell_i]
  exact e1
end RW
