/-- what is owed of the values: the law's function answers 1 on every script -/
def h00 (B E : Nat) : Hp := (B, fun a => if a = E then some (eR 0 (fun _ => none)) else none)
def LawPure : Prop := ∀ (E : Nat × Nat) (B L : Nat) (xs : Nat → Int32), L ≤ 2561 → E.1 < B → ∃ h1 : Hp, f_L_law E L xs (h00 B E.1) = some (1, h1)
theorem inC (ci : Nat) (C : String) (T : u_T) (N : Nat) (h : vwCl[ci]? = some (C, T, N)) : ∀ w ∈ u_ws C T N, w ∈ lw_tbl := fun w hw => (List.mem_filter.mp ((cls_ok ci C T N h).1 w hw)).1
set_option maxHeartbeats 4000000 in
set_option maxRecDepth 100000 in
theorem whole_start_open (HP : LawPure) {p : Program} {e : Env} {s : State} {m : MethodId} {below : List Frame} {meth : Method} {c : Code} (l : Launch) {b L : Nat} {xs : Nat → Int32} (hL : L ≤ 2561) (C0 : lw_At p s m meth c b L xs) : W p l e room_1 s m #[Value.ref b] below meth c s.heap [] 0 0 (lw_Z below #[Value.ref b] s) (entryFrame m ([Value.ref b] : List Value).toArray 4) := by
  obtain ⟨hx, hb, hr, hml, hown, hts, hX, hbl, hlocks, hgv⟩ := id C0
  have hs := flat_of_before _ hgv
  -- the classes
  have kn : ∀ (ci : Nat) (C : String) (T : u_T) (N : Nat), vwCl[ci]? = some (C, T, N) → Cond.instantiable C N ∈ lw_tbl → ∃ (cC : ClassId) (iS : Nat → Nat), u_Kn s C T N cC iS := fun ci C T N h hi => u_known hts (inC ci C T N h) (hts _ hi)
  have kall : ∀ k : Nat, ∃ (cC : ClassId) (iS : Nat → Nat), ∀ q : vw_C, vwCl[k]? = some q → u_Kn s q.1 q.2.1 q.2.2 cC iS := by
    intro k
    match k with
    | 0 => obtain ⟨a, i, h⟩ := kn 0 _ _ _ rfl (by decide +kernel); exact ⟨a, i, fun q hq => by cases hq; exact h⟩
    | 1 => obtain ⟨a, i, h⟩ := kn 1 _ _ _ rfl (by decide +kernel); exact ⟨a, i, fun q hq => by cases hq; exact h⟩
    | 2 => obtain ⟨a, i, h⟩ := kn 2 _ _ _ rfl (by decide +kernel); exact ⟨a, i, fun q hq => by cases hq; exact h⟩
    | 3 => obtain ⟨a, i, h⟩ := kn 3 _ _ _ rfl (by decide +kernel); exact ⟨a, i, fun q hq => by cases hq; exact h⟩
    | 4 => obtain ⟨a, i, h⟩ := kn 4 _ _ _ rfl (by decide +kernel); exact ⟨a, i, fun q hq => by cases hq; exact h⟩
    | 5 => obtain ⟨a, i, h⟩ := kn 5 _ _ _ rfl (by decide +kernel); exact ⟨a, i, fun q hq => by cases hq; exact h⟩
    | 6 => obtain ⟨a, i, h⟩ := kn 6 _ _ _ rfl (by decide +kernel); exact ⟨a, i, fun q hq => by cases hq; exact h⟩
    | 7 => obtain ⟨a, i, h⟩ := kn 7 _ _ _ rfl (by decide +kernel); exact ⟨a, i, fun q hq => by cases hq; exact h⟩
    | 8 => obtain ⟨a, i, h⟩ := kn 8 _ _ _ rfl (by decide +kernel); exact ⟨a, i, fun q hq => by cases hq; exact h⟩
    | 9 => obtain ⟨a, i, h⟩ := kn 9 _ _ _ rfl (by decide +kernel); exact ⟨a, i, fun q hq => by cases hq; exact h⟩
    | n + 10 => exact ⟨0, fun _ => 0, fun q hq => by cases hq⟩
  -- the arrays' classes
  obtain ⟨cI, kI, mI, i1, i2, i3⟩ := Cond.arrayClass_spec (hts (Cond.arrayClass .int) (by decide +kernel))
  obtain ⟨cZ, kZ, mZ, z1, z2, z3⟩ := Cond.arrayClass_spec (hts (Cond.arrayClass .boolean) (by decide +kernel))
  have hAO := hts (Cond.arrayOver (.object "java/lang/Object")) (by decide +kernel)
  obtain ⟨comp, cO, kO, o1, -, o3, o4, o5⟩ := Cond.arrayOver_spec hAO
  -- the empty array of the lists
  have hex : (Cond.exactly (.static "java/util/ArrayList" "DEFAULTCAPACITY_EMPTY_ELEMENTDATA" "[Ljava/lang/Object;") "[Ljava/lang/Object;").before #[Value.ref b] s = true := hs _ (by decide +kernel)
  obtain ⟨E0, cE, cellE, kE, e1, e2, e3, e4, e5, e6, -⟩ := Cond.exactly_spec hex
  have hln := va_eqt (hs (Cond.eq (.length (.static "java/util/ArrayList" "DEFAULTCAPACITY_EMPTY_ELEMENTDATA" "[Ljava/lang/Object;")) (.int 0)) (by decide +kernel))
  obtain ⟨E1, cell2, f1, f2, f3⟩ := Term.length_spec hln
  cases e1.symm.trans f1
  obtain ⟨f4, -, -, -⟩ := State.arrayAt?_spec f2
  cases e3.symm.trans f4
  have hE : E0 < s.heap.size := (Array.getElem?_eq_some_iff.mp e3).1
  obtain ⟨mi, hmi⟩ := va_Mi.of (hs (Cond.isRef (.mirror "[Ljava/lang/Object;")) (by decide +kernel))
  have hcE : cE = cO := Option.some.inj (e2.symm.trans o5)
  generalize hGd : ((s.heap.size, E0, mi), ((fun k => Classical.choose (kall k)), (fun k => Classical.choose (Classical.choose_spec (kall k)))), cI, cZ, cO) = G
  have g1 : G.1.1 = s.heap.size := by rw [← hGd]
  have g2 : G.1.2.1 = E0 := by rw [← hGd]
  have g3 : G.1.2.2 = mi := by rw [← hGd]
  have hK : KK G s := by
    rw [← hGd]
    refine ⟨fun k q hq => Classical.choose_spec (Classical.choose_spec (kall k)) q hq, fun k q hq => ?_⟩
    match k, hq with
    | 0, hq => cases hq; exact ⟨fun n z => ⟨fun k h => (by cases h), kI, i2, mI, i3⟩, i1⟩
    | 1, hq => cases hq; exact ⟨fun n z => ⟨fun k h => (by cases h), kZ, z2, mZ, z3⟩, z1⟩
    | 2, hq => cases hq; exact ⟨fun n z => ⟨fun k h => (by cases h), kO, o3, comp, o4⟩, kO, comp, o3, o4, o1, o5⟩
    | n + 3, hq => cases hq
  have hA : ∀ a : Nat, a < s.heap.size → ¬ AA G a := fun a h => by unfold AA; omega
  have hZ : SZ G s s.heap := by
    unfold SZ
    rw [g2]
    exact va_Zof (hts _ (by decide +kernel)) (hts _ (by decide +kernel)) e1 hA
  have hN : NN G.1.2.2 s := by
    rw [g3]
    exact ⟨va_Nw.of rfl (hts _ (by decide +kernel)), va_AO.of hAO, va_Nw.of rfl (hts _ (by decide +kernel)), va_Dc.of (hts _ (by decide +kernel)), hmi⟩
  have hR : Rep G (h00 s.heap.size E0) s.heap := by
    refine ⟨rfl, by rw [g1]; exact Nat.le_refl _, fun a e he => ?_⟩
    simp only [h00] at he
    by_cases ha : a = E0
    · rw [if_pos ha] at he
      cases he
      subst ha
      refine ⟨⟨fun z => absurd z (Nat.lt_irrefl 0), cellE, e3, ?_, e5, ?_⟩, Or.inr ⟨_, rfl⟩⟩
      · rw [e6, hcE, ← hGd]
      · exact (Value.int.inj f3).symm
    · rw [if_neg ha] at he
      cases he
  obtain ⟨h1, hq⟩ := HP G.1.2 s.heap.size L xs hL (by rw [g2]; exact hE)
  rw [g2] at hq
  have hl := lv_entry ([.ref b]) (n := 4) (Nat.le_of_ble_eq_true rfl)
  rw [lg_entry_eq]
  generalize (lg_sl ([.ref b]) ++ List.replicate (4 - (lg_sl ([.ref b])).length) Slot.unset).toArray = ls at hl ⊢
  have hl : LV ls 4 [(0, .ref b)] := ⟨hl, fun q hq => by rcases List.mem_cons.mp hq with z | z; rw [z]; rfl; cases z⟩
  exact t_L_law ⟨hx, hb, hml, hown, fun w hw => hts w (List.mem_filter.mp hw).1, hK, hZ, hN, by omega⟩ hr hlocks hX hbl g1 _ _ _ ls hq hR va_S.rf hl
