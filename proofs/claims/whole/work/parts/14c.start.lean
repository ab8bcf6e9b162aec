/-! the start: both new, and the law on every script -/
def stN (z : Int) : Int := if z < 2 then 2 else if 8 < z then 8 else z
theorem stN_rng (z : Int) : 2 ≤ stN z ∧ stN z ≤ 8 := by
  unfold stN
  split
  · omega
  · split <;> omega
theorem clN_st {z : Int} (hz : I32 z) : clN (iI z) = iI (stN z) := by
  unfold I32 at hz
  unfold clN stN
  rw [iL8, iL2, jlt (by omega) (by omega) (by omega) (by omega)]
  by_cases c1 : z < 8
  · rw [if_pos c1, jlt (by omega) (by omega) (by omega) (by omega)]
    by_cases c2 : 2 < z
    · rw [if_pos c2, if_neg (by omega), if_neg (by omega)]
    · rw [if_neg c2]
      by_cases c3 : z < 2
      · rw [if_pos c3]
      · rw [if_neg c3, if_neg (by omega), show z = 2 by omega]
  · rw [if_neg c1, jlt (by omega) (by omega) (by omega) (by omega), if_pos (by omega), if_neg (by omega)]
    by_cases c3 : 8 < z
    · rw [if_pos c3]
    · rw [if_neg c3, show z = 8 by omega]
theorem va_none {F : Nat → Option Nat} {k j : Nat} {v : Option Nat} (h : j ≠ k) (hF : F j = none) : va_up F k v j = none := by rw [va_up_ne _ _ h]; exact hF
theorem F_8 (x : Nat) : (va_up (va_up (va_up (va_up (va_up (va_up (fun _ => none) 0 (some (x + 1))) 1 (some (x + 9))) 2 (some (x + 12))) 3 (some (x + 18))) 4 (some (x + 22))) 5 (some (x + 23))) = (fun k => match k with | 0 => some (x + 1) | 1 => some (x + 9) | 2 => some (x + 12) | 3 => some (x + 18) | 4 => some (x + 22) | 5 => some (x + 23) | _ => none) := by
  funext k
  match k with
  | 0 => rfl
  | 1 => rfl
  | 2 => rfl
  | 3 => rfl
  | 4 => rfl
  | 5 => rfl
  | k + 6 =>
    exact va_none (by omega) (va_none (by omega) (va_none (by omega) (va_none (by omega) (va_none (by omega) (va_none (by omega) (rfl))))))
theorem F_4 (x : Nat) : (va_up (va_up (va_up (va_up (va_up (va_up (va_up (fun _ => none) 1 (some (x + 1 + 1))) 2 (some (x + 1 + 2))) 3 (some (x + 1 + 3))) 4 (some (x + 1 + 4))) 5 (some (x + 1 + 5))) 6 (some (x + 1 + 6))) 7 (some (x + 1 + 7))) = (fun k => if 1 ≤ k ∧ k ≤ 7 then some (x + (1 + k)) else none) := by
  funext k
  match k with
  | 0 => rfl
  | 1 => rfl
  | 2 => rfl
  | 3 => rfl
  | 4 => rfl
  | 5 => rfl
  | 6 => rfl
  | 7 => rfl
  | k + 8 =>
    rw [show (va_up (va_up (va_up (va_up (va_up (va_up (va_up (fun _ => none) 1 (some (x + 1 + 1))) 2 (some (x + 1 + 2))) 3 (some (x + 1 + 3))) 4 (some (x + 1 + 4))) 5 (some (x + 1 + 5))) 6 (some (x + 1 + 6))) 7 (some (x + 1 + 7))) (k + 8) = none from va_none (by omega) (va_none (by omega) (va_none (by omega) (va_none (by omega) (va_none (by omega) (va_none (by omega) (va_none (by omega) (rfl)))))))]
    symm
    rw [if_neg (by omega)]
theorem F_2 (x : Nat) : (va_up (va_up (fun _ => none) 0 (some (x + 9 + 1))) 1 (some (x + 9 + 2))) = (fun k => if k ≤ 1 then some (x + (10 + k)) else none) := by
  funext k
  match k with
  | 0 => rfl
  | 1 => rfl
  | k + 2 =>
    rw [show (va_up (va_up (fun _ => none) 0 (some (x + 9 + 1))) 1 (some (x + 9 + 2))) (k + 2) = none from va_none (by omega) (va_none (by omega) (rfl))]
    symm
    rw [if_neg (by omega)]
theorem F_0 (e : Nat) : (va_up (fun _ => none) 1 (some e)) = (fun k => if k = 1 then some e else none) := by
  funext k
  match k with
  | 0 => rfl
  | 1 => rfl
  | k + 2 =>
    rw [show (va_up (fun _ => none) 1 (some e)) (k + 2) = none from va_none (by omega) (rfl)]
    symm
    rw [if_neg (by omega)]
theorem F_5 (x : Nat) : (va_up (va_up (va_up (va_up (va_up (va_up (va_up (fun _ => none) 2 (some (x + 12 + 1))) 3 (some (x + 12 + 2))) 4 (some (x + 12 + 3))) 5 (some (x + 12 + 4))) 6 (some (x + 12 + 5))) 0 (some (x + 1))) 1 (some (x + 9))) = (fun k => if k = 0 then some (x + 1) else if k = 1 then some (x + 9) else if k ≤ 6 then some (x + (11 + k)) else none) := by
  funext k
  match k with
  | 0 => rfl
  | 1 => rfl
  | 2 => rfl
  | 3 => rfl
  | 4 => rfl
  | 5 => rfl
  | 6 => rfl
  | k + 7 =>
    rw [show (va_up (va_up (va_up (va_up (va_up (va_up (va_up (fun _ => none) 2 (some (x + 12 + 1))) 3 (some (x + 12 + 2))) 4 (some (x + 12 + 3))) 5 (some (x + 12 + 4))) 6 (some (x + 12 + 5))) 0 (some (x + 1))) 1 (some (x + 9))) (k + 7) = none from va_none (by omega) (va_none (by omega) (va_none (by omega) (va_none (by omega) (va_none (by omega) (va_none (by omega) (va_none (by omega) (rfl)))))))]
    symm
    rw [if_neg (by omega), if_neg (by omega), if_neg (by omega)]
theorem F_6 (x : Nat) : (va_up (va_up (va_up (va_up (va_up (fun _ => none) 2 (some (x + 18 + 1))) 3 (some (x + 18 + 2))) 4 (some (x + 18 + 3))) 0 (some (x + 9))) 1 (some (x + 12))) = (fun k => if k = 0 then some (x + 9) else if k = 1 then some (x + 12) else if k ≤ 4 then some (x + (17 + k)) else none) := by
  funext k
  match k with
  | 0 => rfl
  | 1 => rfl
  | 2 => rfl
  | 3 => rfl
  | 4 => rfl
  | k + 5 =>
    rw [show (va_up (va_up (va_up (va_up (va_up (fun _ => none) 2 (some (x + 18 + 1))) 3 (some (x + 18 + 2))) 4 (some (x + 18 + 3))) 0 (some (x + 9))) 1 (some (x + 12))) (k + 5) = none from va_none (by omega) (va_none (by omega) (va_none (by omega) (va_none (by omega) (va_none (by omega) (rfl)))))]
    symm
    rw [if_neg (by omega), if_neg (by omega), if_neg (by omega)]
theorem F_3 (x : Nat) : (va_up (va_up (fun _ => none) 0 (some (x + 1))) 1 (some (x + 9))) = (fun k => if k = 0 then some (x + 1) else if k = 1 then some (x + 9) else none) := by
  funext k
  match k with
  | 0 => rfl
  | 1 => rfl
  | k + 2 =>
    rw [show (va_up (va_up (fun _ => none) 0 (some (x + 1))) 1 (some (x + 9))) (k + 2) = none from va_none (by omega) (va_none (by omega) (rfl))]
    symm
    rw [if_neg (by omega), if_neg (by omega)]
theorem F_7 (x : Nat) : (va_up (va_up (va_up (va_up (va_up (va_up (va_up (va_up (va_up (va_up (fun _ => none) 3 (some (x + 23 + 1))) 4 (some (x + 23 + 2))) 5 (some (x + 23 + 3))) 6 (some (x + 23 + 4))) 7 (some (x + 23 + 5))) 8 (some (x + 23 + 6))) 9 (some (x + 23 + 7))) 10 (some (x + 23 + 8))) 0 (some (x + 1))) 1 (some (x + 9))) = (fun k => if k = 0 then some (x + 1) else if k = 1 then some (x + 9) else if 3 ≤ k ∧ k ≤ 10 then some (x + (21 + k)) else none) := by
  funext k
  match k with
  | 0 => rfl
  | 1 => rfl
  | 2 => rfl
  | 3 => rfl
  | 4 => rfl
  | 5 => rfl
  | 6 => rfl
  | 7 => rfl
  | 8 => rfl
  | 9 => rfl
  | 10 => rfl
  | k + 11 =>
    rw [show (va_up (va_up (va_up (va_up (va_up (va_up (va_up (va_up (va_up (va_up (fun _ => none) 3 (some (x + 23 + 1))) 4 (some (x + 23 + 2))) 5 (some (x + 23 + 3))) 6 (some (x + 23 + 4))) 7 (some (x + 23 + 5))) 8 (some (x + 23 + 6))) 9 (some (x + 23 + 7))) 10 (some (x + 23 + 8))) 0 (some (x + 1))) 1 (some (x + 9))) (k + 11) = none from va_none (by omega) (va_none (by omega) (va_none (by omega) (va_none (by omega) (va_none (by omega) (va_none (by omega) (va_none (by omega) (va_none (by omega) (va_none (by omega) (va_none (by omega) (rfl))))))))))]
    symm
    rw [if_neg (by omega), if_neg (by omega), if_neg (by omega)]
theorem sg0_z {st : Int} {f i : Nat} (h : f ≠ 0 ∧ f ≠ 4 ∧ f ≠ 2 ∧ f ≠ 3 ∧ f ≠ 18) : sg0 st f i = 0 := by
  unfold sg0
  rw [if_neg (by omega), if_neg (by omega), if_neg (by omega), if_neg (by omega), if_neg (by omega)]
theorem aI_z {n : Nat} {g : Nat → Int} (h : ∀ i, i < n → g i = 0) : eI n (fun _ => 0) = aI n g := by
  unfold aI
  congr 2
  funext i
  by_cases c : i < n
  · rw [if_pos c, h i c]; rfl
  · rw [if_neg c]
theorem aZ_z {n : Nat} {g : Nat → Int} (h : ∀ i, i < n → g i = 0) : eZ n (fun _ => 0) = aZ n g := by
  unfold aZ
  congr 3
  funext i
  by_cases c : i < n
  · rw [if_pos c, h i c]; rfl
  · rw [if_neg c]
theorem aI_g {n : Nat} {v : Int} {g : Nat → Int} (h : ∀ i, i < n → g i = v) : eI n (gj v n) = aI n g := by
  unfold aI gj
  congr 2
  funext i
  by_cases c : i < n
  · rw [if_pos c, if_pos c, h i c]
  · rw [if_neg c, if_neg c]
def A0 (E : Nat × Nat) (B : Nat) : CA := ⟨(B, 0, E.1, E.1, fun _ => 0), fun k hk => absurd hk (Nat.not_lt_zero _), fun _ k _ hk => absurd hk (Nat.not_lt_zero _)⟩
theorem X7_cells (E : Nat × Nat) (B : Nat) {a : Int32} {st : Int} (ha : clN a = iI st) : ∀ c, c < 32 → (C_X7 E a B)[c]? = some (cc (A0 E B) (sg0 st) c) := fun c hc => by
  match c, hc with
  | 0, _ =>
    show some (eO 8 (fun _ => 0) _) = some (eO 8 (fun _ => 0) _)
    rw [F_8]
    rfl
  | 1, _ =>
    show some (eO 4 (upd (upd (fun _ => 0) 9 1) 0 (clN a)) _) = some (eO 4 (fun k => if k = 0 then iI (sg0 st 0 0) else if k = 8 then iI (sg0 st 5 0) else if k = 9 then iI (sg0 st 4 0) else 0) _)
    rw [F_4, ha]
    have e : upd (upd (fun _ => (0 : Int32)) 9 1) 0 (iI st) = fun k => if k = 0 then iI (sg0 st 0 0) else if k = 8 then iI (sg0 st 5 0) else if k = 9 then iI (sg0 st 4 0) else 0 := by
      funext k
      unfold upd
      by_cases c0 : k = 0
      · rw [if_pos c0, if_pos c0]; rfl
      · rw [if_neg c0, if_neg c0]
        by_cases c8 : k = 8
        · rw [if_pos c8, if_neg (by omega)]; rfl
        · rw [if_neg c8]
          by_cases c9 : k = 9
          · rw [if_pos c9, if_pos c9]; rfl
          · rw [if_neg c9, if_neg c9]
    rw [e]
    rfl
  | 2, _ => exact congrArg some (aZ_z (fun i _ => sg0_z (f := 1) (by omega)))
  | 3, _ => exact congrArg some (aI_g (v := 5) (n := 8) (fun i hi => by unfold sg0; rw [if_neg (by omega), if_neg (by omega), if_pos (by omega), if_pos (by omega)]))
  | 4, _ => exact congrArg some (aI_g (v := 8) (n := 8) (fun i hi => by unfold sg0; rw [if_neg (by omega), if_neg (by omega), if_pos (by omega), if_neg (by omega)]))
  | 5, _ => exact congrArg some (aI_g (v := 2) (n := 8) (fun i hi => by unfold sg0; rw [if_neg (by omega), if_neg (by omega), if_neg (by omega), if_pos (by omega)]))
  | 6, _ => exact congrArg some (aI_z (fun i _ => sg0_z (f := 6) (by omega)))
  | 7, _ => exact congrArg some (aI_z (fun i _ => sg0_z (f := 7) (by omega)))
  | 8, _ => exact congrArg some (aI_z (fun i _ => sg0_z (f := 8) (by omega)))
  | 9, _ =>
    show some (eO 2 (fun _ => 0) _) = some (eO 2 (fun _ => 0) _)
    rw [F_2]
    rfl
  | 10, _ =>
    have e2 : cc (A0 E B) (sg0 st) 10 = uO 0 0 E.1 := cfx_10 (A0 E B) (sg0 st)
    rw [e2]
    show some (eO 0 (upd (fun _ => 0) 0 0) _) = some (eO 0 _ _)
    rw [F_0]
    have e : upd (fun _ => (0 : Int32)) 0 0 = fun k => if k = 0 then iI 0 else if k = 2 then iI 0 else 0 := by
      funext k
      unfold upd
      have ez : iI 0 = (0 : Int32) := iI_0.symm
      rw [ez]
      by_cases c0 : k = 0
      · rw [if_pos c0, if_pos c0]
      · rw [if_neg c0, if_neg c0]
        split <;> rfl
    rw [e]
  | 11, _ =>
    have e2 : cc (A0 E B) (sg0 st) 11 = uO 0 0 E.1 := cfx_11 (A0 E B) (sg0 st)
    rw [e2]
    show some (eO 0 (upd (fun _ => 0) 0 0) _) = some (eO 0 _ _)
    rw [F_0]
    have e : upd (fun _ => (0 : Int32)) 0 0 = fun k => if k = 0 then iI 0 else if k = 2 then iI 0 else 0 := by
      funext k
      unfold upd
      have ez : iI 0 = (0 : Int32) := iI_0.symm
      rw [ez]
      by_cases c0 : k = 0
      · rw [if_pos c0, if_pos c0]
      · rw [if_neg c0, if_neg c0]
        split <;> rfl
    rw [e]
  | 12, _ =>
    show some (eO 5 (fun _ => 0) _) = some (eO 5 (fun _ => 0) _)
    rw [F_5]
    rfl
  | 13, _ => exact congrArg some (aZ_z (fun i _ => sg0_z (f := 42) (by omega)))
  | 14, _ => exact congrArg some (aZ_z (fun i _ => sg0_z (f := 43) (by omega)))
  | 15, _ => exact congrArg some (aI_z (fun i _ => sg0_z (f := 44) (by omega)))
  | 16, _ => exact congrArg some (aI_z (fun i _ => sg0_z (f := 45) (by omega)))
  | 17, _ => exact congrArg some (aI_z (fun i _ => sg0_z (f := 46) (by omega)))
  | 18, _ =>
    show some (eO 6 (fun _ => 0) _) = some (eO 6 (fun k => if k = 5 then iI (sg0 st 50 0) else if k = 6 then iI (sg0 st 51 0) else 0) _)
    have e : (fun _ : Nat => (0 : Int32)) = fun k => if k = 5 then iI (sg0 st 50 0) else if k = 6 then iI (sg0 st 51 0) else 0 := by
      funext k
      rw [sg0_z (f := 50) (by omega), sg0_z (f := 51) (by omega)]
      have ez : iI 0 = (0 : Int32) := iI_0.symm
      rw [ez]
      (repeat' split) <;> rfl
    rw [F_6, ← e]
    rfl
  | 19, _ => exact congrArg some (aZ_z (fun i _ => sg0_z (f := 47) (by omega)))
  | 20, _ => exact congrArg some (aI_z (fun i _ => sg0_z (f := 48) (by omega)))
  | 21, _ => exact congrArg some (aI_z (fun i _ => sg0_z (f := 49) (by omega)))
  | 22, _ =>
    show some (eO 3 (fun _ => 0) _) = some (eO 3 (fun k => if k = 2 then iI (sg0 st 52 0) else if k = 3 then iI (sg0 st 53 0) else if k = 4 then iI (sg0 st 54 0) else 0) _)
    have e : (fun _ : Nat => (0 : Int32)) = fun k => if k = 2 then iI (sg0 st 52 0) else if k = 3 then iI (sg0 st 53 0) else if k = 4 then iI (sg0 st 54 0) else 0 := by
      funext k
      rw [sg0_z (f := 52) (by omega), sg0_z (f := 53) (by omega), sg0_z (f := 54) (by omega)]
      have ez : iI 0 = (0 : Int32) := iI_0.symm
      rw [ez]
      (repeat' split) <;> rfl
    rw [F_3, ← e]
    rfl
  | 23, _ =>
    show some (eO 7 (fun _ => 0) _) = some (eO 7 (fun k => if k = 2 then iI (sg0 st 55 0) else 0) _)
    have e : (fun _ : Nat => (0 : Int32)) = fun k => if k = 2 then iI (sg0 st 55 0) else 0 := by
      funext k
      rw [sg0_z (f := 55) (by omega)]
      have ez : iI 0 = (0 : Int32) := iI_0.symm
      rw [ez]
      (repeat' split) <;> rfl
    rw [F_7, ← e]
    rfl
  | 24, _ => exact congrArg some (aI_z (fun i _ => sg0_z (f := 56) (by omega)))
  | 25, _ => exact congrArg some (aI_z (fun i _ => sg0_z (f := 57) (by omega)))
  | 26, _ => exact congrArg some (aI_z (fun i _ => sg0_z (f := 58) (by omega)))
  | 27, _ => exact congrArg some (aI_z (fun i _ => sg0_z (f := 59) (by omega)))
  | 28, _ => exact congrArg some (aI_z (fun i _ => sg0_z (f := 60) (by omega)))
  | 29, _ => exact congrArg some (aI_z (fun i _ => sg0_z (f := 61) (by omega)))
  | 30, _ => exact congrArg some (aI_z (fun i _ => sg0_z (f := 62) (by omega)))
  | 31, _ => exact congrArg some (aI_z (fun i _ => sg0_z (f := 63) (by omega)))
  | _ + 32, hc => omega
theorem sg0_WB {st : Int} (h : 2 ≤ st ∧ st ≤ 8) : WB (sg0 st) := by
  refine ⟨WF.of (fun f i hi => ?_), fun b hb => ?_⟩
  · match f, hi with
    | 0, hi => cases (show i = 0 from hi); exact h
    | 1, _ => rw [sg0_z (by omega)]; exact Or.inl rfl
    | 2, hi =>
      have hi' : i < 16 := hi
      have e : sg0 st 2 i = if i % 2 = 0 then 5 else 8 := by unfold sg0; rw [if_neg (by omega), if_neg (by omega), if_pos ⟨rfl, hi'⟩]
      rw [e]
      show 1 ≤ (if i % 2 = 0 then (5 : Int) else 8) ∧ (if i % 2 = 0 then (5 : Int) else 8) ≤ 30
      split <;> omega
    | 3, hi =>
      have hi' : i < 8 := hi
      have e : sg0 st 3 i = 2 := by unfold sg0; rw [if_neg (by omega), if_neg (by omega), if_neg (by omega), if_pos ⟨rfl, hi'⟩]
      rw [e]; exact ⟨by omega, by omega⟩
    | 4, hi => cases (show i = 0 from hi); exact ⟨by show (0 : Int) ≤ 1; decide, by show (1 : Int) ≤ 9; decide⟩
    | 5, _ => rw [sg0_z (by omega)]; exact ⟨by omega, by omega⟩
    | 6, _ => rw [sg0_z (by omega)]; exact ⟨by omega, by omega⟩
    | 7, _ => rw [sg0_z (by omega)]; exact ⟨by omega, by omega⟩
    | 8, _ => rw [sg0_z (by omega)]; exact ⟨by omega, by omega⟩
    | 9, _ => rw [sg0_z (by omega)]; exact ⟨by omega, by omega⟩
    | 10, _ => rw [sg0_z (by omega)]; exact ⟨by omega, by omega⟩
    | 11, _ => rw [sg0_z (by omega)]; exact ⟨by omega, by omega⟩
    | 12, _ => rw [sg0_z (by omega)]; exact ⟨by omega, by omega⟩
    | 13, _ => rw [sg0_z (by omega)]; exact ⟨by omega, by omega⟩
    | 14, _ => rw [sg0_z (by omega)]; exact ⟨by omega, by omega⟩
    | 15, _ => rw [sg0_z (by omega)]; exact ⟨by omega, by omega⟩
    | 16, _ => rw [sg0_z (by omega)]; exact ⟨by omega, by omega⟩
    | 17, _ => rw [sg0_z (by omega)]; exact ⟨by omega, by omega⟩
    | 18, hi =>
      have hi' : i < 16 := hi
      have e : sg0 st 18 i = -1 := by unfold sg0; rw [if_neg (by omega), if_neg (by omega), if_neg (by omega), if_neg (by omega), if_pos ⟨rfl, hi'⟩]
      rw [e]; exact ⟨by omega, by omega⟩
    | 19, _ => rw [sg0_z (by omega)]; exact Or.inl rfl
    | 20, _ => rw [sg0_z (by omega)]; exact ⟨by omega, by omega⟩
    | 21, _ => rw [sg0_z (by omega)]; exact ⟨by omega, by omega⟩
    | _ + 22, _ => exact trivial
  · rw [sg0_z (by omega)] at hb; omega
theorem sg0_FR {st : Int} : FR (sg0 st) := fun b _ h2 => ⟨by unfold sg0; rw [if_neg (by omega), if_neg (by omega), if_neg (by omega), if_neg (by omega), if_pos ⟨rfl, h2⟩], sg0_z (by omega), fun i _ => sg0_z (by omega)⟩
theorem C_X7_len (E : Nat × Nat) (a : Int32) (x : Nat) : (C_X7 E a x).length = 32 := rfl
theorem C_X8_len (x : Nat) : (C_X8 x).length = 31 := rfl
set_option maxHeartbeats 4000000 in
theorem start_WW (E : Nat × Nat) {B : Nat} (hB : E.1 < B) {z : Int} (hz : I32 z) : WW E (MH (lH (lH (h00 B E.1) B (C_X7 E (iI z) B)) (B + 32) (C_X8 (B + 32))) (B + 32) (sg0 (stN z))) (A0 E B) (sg0 (stN z)) (B + 32) (sg0 (stN z)) := by
  obtain ⟨G, eG⟩ : ∃ G, lH (lH (h00 B E.1) B (C_X7 E (iI z) B)) (B + 32) (C_X8 (B + 32)) = G := ⟨_, rfl⟩
  have hst := stN_rng z
  have g1 : G.1 = B + 63 := by rw [← eG]; rfl
  have gc : ∀ c, c < 32 → G.2 (B + c) = some (cc (A0 E B) (sg0 (stN z)) c) := fun c hc => by
    rw [← eG, lH_out _ _ _ (Or.inl (by omega)), lH_at _ _ _ (by rw [C_X7_len]; exact hc)]
    exact X7_cells E B (clN_st hz) c hc
  have gE : G.2 E.1 = some (eR 0 (fun _ => none)) := by
    rw [← eG, lH_out _ _ _ (Or.inl (by omega)), lH_out _ _ _ (Or.inl hB)]
    show (if E.1 = E.1 then _ else _) = _
    rw [if_pos rfl]
  have gF : FRH G := fun q hq => by
    rw [g1] at hq
    rw [← eG, lH_out _ _ _ (Or.inr (by rw [C_X8_len]; omega)), lH_out _ _ _ (Or.inr (by rw [C_X7_len]; omega))]
    show (if q = E.1 then _ else _) = _
    rw [if_neg (by omega)]
  rw [eG]
  have hcn : cn (A0 E B) E.1 = none := by
    cases hc : cn (A0 E B) E.1 with
    | none => rfl
    | some c =>
      obtain ⟨z1, z2⟩ := ca_cn _ hc
      have z3 : c < 32 := by have : (A0 E B).n = 0 := rfl; omega
      unfold ca at z1
      rw [if_pos z3] at z1
      have : (A0 E B).x = B := rfl
      omega
  have hw := sg0_WB hst
  have hLa : G.2 (A0 E B).la = some (eR 0 (fun i => if i < (A0 E B).n then some ((A0 E B).b i) else none)) := by
    show G.2 E.1 = _
    rw [gE]
    congr 5
  have hLb : G.2 (A0 E B).lb = some (eR 0 (fun i => if i < (A0 E B).n then some ((A0 E B).b (ordF (sg0 (stN z) 17) (A0 E B).n i)) else none)) := by
    show G.2 E.1 = _
    rw [gE]
    congr 5
  have h9 : sg0 (stN z) 9 0 = 0 := sg0_z (by omega)
  refine WW.mk2 (CH_self (fun c hc => ?_)) ⟨⟨⟨hw, ⟨Nat.zero_le _, hcn, hcn, ⟨0, Nat.le_refl _, hLa⟩, 0, Nat.le_refl _, hLb⟩, h9⟩, fun b i h1 => ?_, fun w h1 => ?_, fun j => ?_⟩, EQ.rfl' _, hw, fun b h1 => ?_, ⟨fun b h1 => ?_, sg0_FR⟩, Or.inl (sg0_z (by omega))⟩ ⟨fun h => absurd h (Nat.lt_irrefl _), ⟨0, ⟨Nat.le_refl _, by omega, fun _ => rfl⟩, fun _ => rfl, hLa⟩, 0, ⟨Nat.le_refl _, by omega, fun _ => rfl⟩, fun _ => rfl, hLb⟩ gF (by rw [g1]; omega) ⟨Nat.le_refl _, fun k hk => absurd hk (Nat.not_lt_zero _), Or.inl (show E.1 < B + 32 by omega), Or.inl (show E.1 < B + 32 by omega)⟩
  · have hc' : c < 32 := by have : (A0 E B).n = 0 := rfl; omega
    have e : ca (A0 E B) c = B + c := by unfold ca; rw [if_pos hc']; rfl
    rw [e]
    exact gc c hc'
  · rw [h9] at h1; omega
  · rw [sg0_z (by omega)] at h1; omega
  · rw [sg0_z (by omega)]; omega
  · rw [h9] at h1; omega
  · rw [h9] at h1; omega
theorem lawPure : LawPure := by
  intro E B L xs hL hB
  obtain ⟨z, ez, hz⟩ := i32 (cellv L xs 0)
  have hz' := hz
  unfold I32 at hz'
  have hW := start_WW E hB hz
  unfold f_L_law
  have e0 : h00 B E.1 = lH (h00 B E.1) B [] := lH_nil rfl
  rw [e0, L_nwO]
  unfold vl
  rw [ez]
  show ∃ h1, bd (f_X7_init E B (iI z) (lH (h00 B E.1) B [eO 8 (fun _ => 0) (fun _ => none)])) _ = _
  rw [i_X7, bd_s, L_nwO, ← lH_app, C_X7_len]
  show ∃ h1, bd (f_X8_init (B + 32) (iI z) (lH (lH (h00 B E.1) B (C_X7 E (iI z) B)) (B + 32) [eO 9 (fun _ => 0) (fun _ => none)])) (fun _ h => f_L_law_28 E L xs (some B) (some (B + 32)) 1 h) = _
  rw [i_X8]
  have hcl : (if (2 : Int32) ≤ iI z then (if iI z ≤ 8 then f_X8_init_277 (some (B + 32)) (iI z) (some (B + 32)) (lH (lH (h00 B E.1) B (C_X7 E (iI z) B)) (B + 32) (C_X8 (B + 32))) else f_X8_init_277 (some (B + 32)) 8 (some (B + 32)) (lH (lH (h00 B E.1) B (C_X7 E (iI z) B)) (B + 32) (C_X8 (B + 32)))) else f_X8_init_277 (some (B + 32)) 2 (some (B + 32)) (lH (lH (h00 B E.1) B (C_X7 E (iI z) B)) (B + 32) (C_X8 (B + 32)))) = some ((), MH (lH (lH (h00 B E.1) B (C_X7 E (iI z) B)) (B + 32) (C_X8 (B + 32))) (B + 32) (sg0 (stN z))) := by
    have hX : ∀ st, f_X8_init_277 (some (B + 32)) (iI st) (some (B + 32)) (lH (lH (h00 B E.1) B (C_X7 E (iI z) B)) (B + 32) (C_X8 (B + 32))) = some ((), MH (lH (lH (h00 B E.1) B (C_X7 E (iI z) B)) (B + 32) (C_X8 (B + 32))) (B + 32) (sg0 st)) := fun st => by
      have := s_init277 (H := lH (lH (h00 B E.1) B (C_X7 E (iI z) B)) (B + 32) (C_X8 (B + 32))) (m := B + 32) st
      rw [X8_cells] at this
      exact this
    rw [iL2, iL8, jle (by omega) (by omega) (by omega) (by omega), jle (by omega) (by omega) (by omega) (by omega)]
    unfold stN
    by_cases c1 : z < 2
    · rw [if_neg (by omega), if_pos c1]; exact hX 2
    · rw [if_pos (by omega), if_neg c1]
      by_cases c2 : 8 < z
      · rw [if_neg (by omega), if_pos c2]; exact hX 8
      · rw [if_pos (by omega), if_neg c2]; exact hX z
  rw [hcl, bd_s]
  unfold f_L_law_28
  rw [iI_1]
  obtain ⟨t, t1, t2⟩ := lp_rel (B := fun k28 w => fb_L_law_28 E L xs k28 w.1 w.2.1 w.2.2.1 w.2.2.2) (T := Hp × CA × Sg × Sg) (fun k t => (some B, some (B + 32), iI (5 * (k : Int) + 1), t.1)) (fun k t => WW E t.1 t.2.1 t.2.2.1 (B + 32) t.2.2.2 ∧ t.2.1.x = B) ((L - 1) / 5) (fun t => some (iI 1, t.1))
    (fun k t hk hI => by
      obtain ⟨H2, A', κ', σ', ⟨w1, w2⟩, w3⟩ := law_turn (xs := xs) hI.1 hL (show 5 * k + 6 ≤ L by omega)
      refine ⟨(H2, A', κ', σ'), ⟨w1, by rw [← hI.2]; exact w2⟩, fun k28 => ?_⟩
      have := w3 k28
      rw [hI.2] at this
      exact this)
    (fun t k hI => by
      show fb_L_law_28 E L xs k (some B) (some (B + 32)) (iI (5 * (((L - 1) / 5 : Nat) : Int) + 1)) t.1 = _
      unfold fb_L_law_28
      rw [iI_ofNat, iL5, iI_sub, jlt (by omega) (by omega) (by omega) (by omega), if_pos (by omega), iI_1]
      rfl) ((L - 1) / 5) 0 FU (MH (lH (lH (h00 B E.1) B (C_X7 E (iI z) B)) (B + 32) (C_X8 (B + 32))) (B + 32) (sg0 (stN z)), A0 E B, sg0 (stN z), sg0 (stN z)) (by omega) (by rw [FU_eq]; omega) ⟨hW, rfl⟩
  exact ⟨t.1, t2⟩
