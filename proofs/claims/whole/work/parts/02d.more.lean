theorem ac_I : Cond.arrayClass .int ∈ GT := by decide +kernel
theorem ac_Z : Cond.arrayClass .boolean ∈ GT := by decide +kernel
theorem mx_ok : Cond.static Lib.Math.max.name ∈ GT ∧ Cond.initialized "java/lang/Math" ∈ GT ∧ Cond.code Lib.Math.max.name Lib.Math.max.code 2 (some .int) ∈ GT := ⟨by decide +kernel, by decide +kernel, by decide +kernel⟩
theorem mn_ok : Cond.static Lib.Math.min.name ∈ GT ∧ Cond.code Lib.Math.min.name Lib.Math.min.code 2 (some .int) ∈ GT := ⟨by decide +kernel, by decide +kernel⟩
theorem ob_ok : Cond.instanceMethod objectInit ∈ GT ∧ Cond.code objectInit ⟨#[0xb1]⟩ 1 none ∈ GT := ⟨by decide +kernel, by decide +kernel⟩
theorem gs_ok : Cond.fieldLink RJx4a65c 39 "java/util/ArrayList" "DEFAULTCAPACITY_EMPTY_ELEMENTDATA" "[Ljava/lang/Object;" ∈ GT := by decide +kernel
theorem sw_out {x : Int32} : ∀ (n : Nat), n < 1000 → (∀ j, j < n → ¬ x = Int32.ofNat j) → x.toInt < 0 ∨ (n : Int) - 1 < x.toInt := by
  intro n hn h
  rcases Int.lt_or_le x.toInt 0 with h0 | h0
  · exact Or.inl h0
  · right
    refine Int.not_le.mp (fun h1 => ?_)
    have h2 : x = Int32.ofNat x.toInt.toNat := by
      apply Int32.toInt_inj.mp
      have h3 : (Int32.ofNat x.toInt.toNat).toInt = (x.toInt.toNat : Int) := nI_toInt (by omega)
      rw [h3]
      omega
    exact h x.toInt.toNat (by omega) h2
section RD
variable {p : Program} {l : Launch} {e : Env} {R : Room} {s : State} {m : MethodId} {args : Array Value} {below : List Frame} {meth : Method} {c : Code} {H : Heap} {locs : List Loc} {cells slots : Nat} {Q : State → Prop}
variable {cc : ByteArray} {pc nL : Nat} {ls : Array Slot} {rest : List Value} {own : String} {G : GG} {h : Hp} {α : Type} {y : α} {lv lv' : List (Nat × Value)}
theorem xoi (Z : ZZ p s m args c cc own nL G) (hl : LV ls nL lv) {idx a : Nat} (hk : Cond.methodLink own idx objectInit ∈ GT) (h1 : 1 ≤ R.frames) (h2 : 20 ≤ R.locals) (hd : decode cc pc = .ok (.invokespecial idx, 3))
    (kk : W p l e R s m args below meth c H locs cells slots Q (F0 m (pc + 3) ls [])) : W p l e R s m args below meth c H locs cells slots Q (F0 m pc ls [va_rf (some a)]) := by
  obtain ⟨hx, hb, hml, hown, hts, hrest⟩ := Z
  refine W.objInit hx hb hown (hts _ hk) (hts _ ob_ok.1) (hts _ ob_ok.2) rfl (by rw [hml]; exact hl.sz) (a := a) (rest := []) rfl hd h1 ?_ kk
  show 2 * 0 + 0 + 12 ≤ R.locals
  omega
theorem xmx (Z : ZZ p s m args c cc own nL G) (hl : LV ls nL lv) {idx : Nat} (hk : Cond.methodLink own idx Lib.Math.max.name ∈ GT) (h1 : 1 ≤ R.frames) (h2 : (rest.map fun v => v.category).sum + 13 ≤ R.locals) (h3 : cells ≤ R.cells) (h4 : slots ≤ R.slots) {x z : Int32} (hd : decode cc pc = .ok (.invokestatic idx, 3))
    (kk : W p l e R s m args below meth c H locs cells slots Q (F0 m (pc + 3) ls (.int (if x < z then z else x) :: rest))) : W p l e R s m args below meth c H locs cells slots Q (F0 m pc ls (.int z :: .int x :: rest)) := by
  obtain ⟨hx, hb, hml, hown, hts, hrest⟩ := Z
  exact va_mmax hx hb (by rw [hml]; exact hl.sz.symm) hown (hts _ hk) (hts _ mx_ok.1) (hts _ mx_ok.2.1) (hts _ mx_ok.2.2) h1 h2 h3 h4 hd kk
theorem xmn (Z : ZZ p s m args c cc own nL G) (hl : LV ls nL lv) {idx : Nat} (hk : Cond.methodLink own idx Lib.Math.min.name ∈ GT) (h1 : 1 ≤ R.frames) (h2 : (rest.map fun v => v.category).sum + 13 ≤ R.locals) (h3 : cells ≤ R.cells) (h4 : slots ≤ R.slots) {x z : Int32} (hd : decode cc pc = .ok (.invokestatic idx, 3))
    (kk : W p l e R s m args below meth c H locs cells slots Q (F0 m (pc + 3) ls (.int (if z < x then z else x) :: rest))) : W p l e R s m args below meth c H locs cells slots Q (F0 m pc ls (.int z :: .int x :: rest)) := by
  obtain ⟨hx, hb, hml, hown, hts, hrest⟩ := Z
  exact va_mmin hx hb (by rw [hml]; exact hl.sz.symm) hown (hts _ hk) (hts _ mn_ok.1) (hts _ mx_ok.2.1) (hts _ mn_ok.2) h1 h2 h3 h4 hd kk
theorem xgs (Z : ZZ p s m args c cc RJx4a65c nL G) (hS : va_S (AA G) s.heap H locs) (hd : decode cc pc = .ok (.getstatic 39, 3))
    (kk : W p l e R s m args below meth c H locs cells slots Q (F0 m (pc + 3) ls (va_rf (some G.1.2.1) :: rest))) : W p l e R s m args below meth c H locs cells slots Q (F0 m pc ls rest) := by
  obtain ⟨hx, hb, hml, hown, hts, hK, hZ, hrest⟩ := Z
  exact va_gets hx hb hZ hS hown (hts _ gs_ok) (fun _ z => z) hd kk
end RD
theorem ct_int (x : Int32) : (Value.int x).category = 1 := rfl
theorem ct_ref (x : Nat) : (Value.ref x).category = 1 := rfl
