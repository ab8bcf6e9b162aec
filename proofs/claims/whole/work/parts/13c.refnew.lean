/-! the reference, new -/
section
variable {α : Type} {h : Hp} {x : Nat} {l : List AE}
theorem L_pIc {ci k : Nat} {v : Int32} {I : Nat → Int32} {F : Nat → Option Nat} {rest : List AE} (K : Hp → Option α) : pI (lH h x (eO ci I F :: rest)) (some x) ci k v K = K (lH h x (eO ci (upd I k v) F :: rest)) := L0_pI rfl K
theorem L_arI {ci k n : Nat} {I : Nat → Int32} {F : Nat → Option Nat} {rest : List AE} (K : Hp → Option α) : nwI (lH h x (eO ci I F :: rest)) n (fun a h => pR h (some x) ci k (some a) K) = K (lH h x (eO ci I (va_up F k (some (x + (rest.length + 1)))) :: (rest ++ [eI n (fun _ => 0)]))) := (L_nwI _).trans (L0_pR rfl K)
theorem L_arZ {ci k n : Nat} {I : Nat → Int32} {F : Nat → Option Nat} {rest : List AE} (K : Hp → Option α) : nwZ (lH h x (eO ci I F :: rest)) n (fun a h => pR h (some x) ci k (some a) K) = K (lH h x (eO ci I (va_up F k (some (x + (rest.length + 1)))) :: (rest ++ [eZ n (fun _ => 0)]))) := (L_nwZ _).trans (L0_pR rfl K)
end
def C_X8 (y : Nat) : List AE := [eO 9 (upd (fun _ => 0) 4 1) (va_up (va_up (va_up (va_up (va_up (va_up (va_up (va_up (va_up (va_up (va_up (va_up (va_up (va_up (va_up (va_up (va_up (va_up (va_up (va_up (va_up (va_up (va_up (va_up (va_up (va_up (va_up (va_up (va_up (va_up (fun _ => none) 1 (some (y + 1))) 2 (some (y + 2))) 3 (some (y + 3))) 6 (some (y + 4))) 7 (some (y + 5))) 8 (some (y + 6))) 10 (some (y + 7))) 11 (some (y + 8))) 12 (some (y + 9))) 13 (some (y + 10))) 14 (some (y + 11))) 15 (some (y + 12))) 16 (some (y + 13))) 17 (some (y + 14))) 18 (some (y + 15))) 19 (some (y + 16))) 20 (some (y + 17))) 21 (some (y + 18))) 22 (some (y + 19))) 23 (some (y + 20))) 24 (some (y + 21))) 25 (some (y + 22))) 26 (some (y + 23))) 27 (some (y + 24))) 28 (some (y + 25))) 29 (some (y + 26))) 30 (some (y + 27))) 31 (some (y + 28))) 32 (some (y + 29))) 33 (some (y + 30))), eZ 8 (fun _ => 0), eI 16 (fun _ => 0), eI 8 (fun _ => 0), eI 10 (fun _ => 0), eI 10 (fun _ => 0), eI 10 (fun _ => 0), eI 16 (fun _ => 0), eI 16 (fun _ => 0), eI 16 (fun _ => 0), eI 16 (fun _ => 0), eI 16 (fun _ => 0), eI 16 (fun _ => 0), eI 16 (fun _ => 0), eI 16 (fun _ => 0), eI 16 (fun _ => 0), eZ 16 (fun _ => 0), eI 128 (fun _ => 0), eI 128 (fun _ => 0), eZ 1920 (fun _ => 0), eI 8 (fun _ => 0), eI 16 (fun _ => 0), eZ 16 (fun _ => 0), eI 16 (fun _ => 0), eI 16 (fun _ => 0), eI 16 (fun _ => 0), eI 128 (fun _ => 0), eI 128 (fun _ => 0), eI 16 (fun _ => 0), eI 16 (fun _ => 0), eI 256 (fun _ => 0)]
theorem i_X8 (a0 : Int32) (h : Hp) (y : Nat) : f_X8_init y a0 (lH h y [eO 9 (fun _ => 0) (fun _ => none)]) = (if 2 ≤ a0 then (if a0 ≤ 8 then f_X8_init_277 (some y) a0 (some y) (lH h y (C_X8 y)) else f_X8_init_277 (some y) 8 (some y) (lH h y (C_X8 y))) else f_X8_init_277 (some y) 2 (some y) (lH h y (C_X8 y))) := by
  unfold f_X8_init
  refine (L_arZ _).trans ?_
  refine (L_arI _).trans ?_
  refine (L_arI _).trans ?_
  refine (L_pIc _).trans ?_
  refine (L_arI _).trans ?_
  refine (L_arI _).trans ?_
  refine (L_arI _).trans ?_
  refine (L_arI _).trans ?_
  refine (L_arI _).trans ?_
  refine (L_arI _).trans ?_
  refine (L_arI _).trans ?_
  refine (L_arI _).trans ?_
  refine (L_arI _).trans ?_
  refine (L_arI _).trans ?_
  refine (L_arI _).trans ?_
  refine (L_arI _).trans ?_
  refine (L_arZ _).trans ?_
  refine (L_arI _).trans ?_
  refine (L_arI _).trans ?_
  refine (L_arZ _).trans ?_
  refine (L_arI _).trans ?_
  refine (L_arI _).trans ?_
  refine (L_arZ _).trans ?_
  refine (L_arI _).trans ?_
  refine (L_arI _).trans ?_
  refine (L_arI _).trans ?_
  refine (L_arI _).trans ?_
  refine (L_arI _).trans ?_
  refine (L_arI _).trans ?_
  refine (L_arI _).trans ?_
  refine (L_arI _).trans ?_
  rfl
theorem MH_self {H : Hp} {m : Nat} {σ : Sg} (h : ∀ o, o < 31 → H.2 (m + o) = some (mcell m (mI σ) (fun f i => iI (σ f i)) o)) : MH H m σ = H := by
  refine Prod.ext rfl ?_
  funext q
  show (if m ≤ q ∧ q < m + 31 then some (mcell m (mI σ) (fun f i => iI (σ f i)) (q - m)) else H.2 q) = H.2 q
  by_cases c : m ≤ q ∧ q < m + 31
  · obtain ⟨o, rfl⟩ : ∃ o, q = m + o := ⟨q - m, by omega⟩
    rw [if_pos c, show m + o - m = o by omega, h o (by omega)]
  · rw [if_neg c]
theorem MH_cell {H : Hp} {m : Nat} {σ : Sg} (hS : MH H m σ = H) {o : Nat} (ho : o < 31) : H.2 (m + o) = some (mcell m (mI σ) (fun f i => iI (σ f i)) o) := by
  have : (MH H m σ).2 (m + o) = some (mcell m (mI σ) (fun f i => iI (σ f i)) o) := by
    show (if m ≤ m + o ∧ m + o < m + 31 then some (mcell m (mI σ) (fun f i => iI (σ f i)) (m + o - m)) else H.2 (m + o)) = _
    rw [if_pos (by omega), show m + o - m = o by omega]
  rw [hS] at this
  exact this
def sz4 : Sg := fun f i => if f = 4 ∧ i = 0 then 1 else 0
theorem sz4_0 {f : Nat} (hf : f ≠ 4) (i : Nat) : sz4 f i = 0 := if_neg (fun z => hf z.1)
theorem aIz {f n : Nat} (hf : f ≠ 4) : eI n (fun _ => 0) = eI n (fun i => iI (sz4 f i)) := by
  congr 2
  funext i
  rw [sz4_0 hf]
  rfl
theorem aZz {f n : Nat} (hf : f ≠ 4) : eZ n (fun _ => 0) = eZ n (fun i => iI (sz4 f i)) := by
  congr 3
  funext i
  rw [sz4_0 hf]
  rfl
theorem X8_F (y : Nat) : (va_up (va_up (va_up (va_up (va_up (va_up (va_up (va_up (va_up (va_up (va_up (va_up (va_up (va_up (va_up (va_up (va_up (va_up (va_up (va_up (va_up (va_up (va_up (va_up (va_up (va_up (va_up (va_up (va_up (va_up (fun _ => none) 1 (some (y + 1))) 2 (some (y + 2))) 3 (some (y + 3))) 6 (some (y + 4))) 7 (some (y + 5))) 8 (some (y + 6))) 10 (some (y + 7))) 11 (some (y + 8))) 12 (some (y + 9))) 13 (some (y + 10))) 14 (some (y + 11))) 15 (some (y + 12))) 16 (some (y + 13))) 17 (some (y + 14))) 18 (some (y + 15))) 19 (some (y + 16))) 20 (some (y + 17))) 21 (some (y + 18))) 22 (some (y + 19))) 23 (some (y + 20))) 24 (some (y + 21))) 25 (some (y + 22))) 26 (some (y + 23))) 27 (some (y + 24))) 28 (some (y + 25))) 29 (some (y + 26))) 30 (some (y + 27))) 31 (some (y + 28))) 32 (some (y + 29))) 33 (some (y + 30))) = mF y := by
  funext k
  unfold mF
  by_cases c : k < 34
  · have : ∀ k, k < 34 → ((va_up (va_up (va_up (va_up (va_up (va_up (va_up (va_up (va_up (va_up (va_up (va_up (va_up (va_up (va_up (va_up (va_up (va_up (va_up (va_up (va_up (va_up (va_up (va_up (va_up (va_up (va_up (va_up (va_up (va_up (fun _ => none) 1 (some (y + 1))) 2 (some (y + 2))) 3 (some (y + 3))) 6 (some (y + 4))) 7 (some (y + 5))) 8 (some (y + 6))) 10 (some (y + 7))) 11 (some (y + 8))) 12 (some (y + 9))) 13 (some (y + 10))) 14 (some (y + 11))) 15 (some (y + 12))) 16 (some (y + 13))) 17 (some (y + 14))) 18 (some (y + 15))) 19 (some (y + 16))) 20 (some (y + 17))) 21 (some (y + 18))) 22 (some (y + 19))) 23 (some (y + 20))) 24 (some (y + 21))) 25 (some (y + 22))) 26 (some (y + 23))) 27 (some (y + 24))) 28 (some (y + 25))) 29 (some (y + 26))) 30 (some (y + 27))) 31 (some (y + 28))) 32 (some (y + 29))) 33 (some (y + 30))) k = if mA k then some (y + mo k) else none) := by
      intro k hk
      match k, hk with
      | 0, _ => rfl
      | 1, _ => rfl
      | 2, _ => rfl
      | 3, _ => rfl
      | 4, _ => rfl
      | 5, _ => rfl
      | 6, _ => rfl
      | 7, _ => rfl
      | 8, _ => rfl
      | 9, _ => rfl
      | 10, _ => rfl
      | 11, _ => rfl
      | 12, _ => rfl
      | 13, _ => rfl
      | 14, _ => rfl
      | 15, _ => rfl
      | 16, _ => rfl
      | 17, _ => rfl
      | 18, _ => rfl
      | 19, _ => rfl
      | 20, _ => rfl
      | 21, _ => rfl
      | 22, _ => rfl
      | 23, _ => rfl
      | 24, _ => rfl
      | 25, _ => rfl
      | 26, _ => rfl
      | 27, _ => rfl
      | 28, _ => rfl
      | 29, _ => rfl
      | 30, _ => rfl
      | 31, _ => rfl
      | 32, _ => rfl
      | 33, _ => rfl
      | _ + 34, hk => omega
    exact this k c
  · have e : mA k = false := by simp [mA]; omega
    rw [e]
    unfold va_up
    rw [if_neg (by omega)]
    rw [if_neg (by omega)]
    rw [if_neg (by omega)]
    rw [if_neg (by omega)]
    rw [if_neg (by omega)]
    rw [if_neg (by omega)]
    rw [if_neg (by omega)]
    rw [if_neg (by omega)]
    rw [if_neg (by omega)]
    rw [if_neg (by omega)]
    rw [if_neg (by omega)]
    rw [if_neg (by omega)]
    rw [if_neg (by omega)]
    rw [if_neg (by omega)]
    rw [if_neg (by omega)]
    rw [if_neg (by omega)]
    rw [if_neg (by omega)]
    rw [if_neg (by omega)]
    rw [if_neg (by omega)]
    rw [if_neg (by omega)]
    rw [if_neg (by omega)]
    rw [if_neg (by omega)]
    rw [if_neg (by omega)]
    rw [if_neg (by omega)]
    rw [if_neg (by omega)]
    rw [if_neg (by omega)]
    rw [if_neg (by omega)]
    rw [if_neg (by omega)]
    rw [if_neg (by omega)]
    rw [if_neg (by omega)]
    rfl
theorem X8_I : upd (fun _ => (0 : Int32)) 4 1 = mI sz4 := by
  funext k
  unfold mI upd
  by_cases c : k = 4
  · subst c; rfl
  · rw [if_neg c]
    split
    · rfl
    · rw [sz4_0 c]; rfl
theorem X8_cells (H : Hp) (m : Nat) : MH (lH H m (C_X8 m)) m sz4 = lH H m (C_X8 m) := MH_self (fun o ho => by
  rw [lH_at H m (C_X8 m) ho]
  match o, ho with
  | 0, _ =>
    show some (eO 9 (upd (fun _ => 0) 4 1) _) = some (eO 9 (mI sz4) (mF m))
    rw [X8_F, X8_I]
  | 1, _ => exact congrArg some (aZz (f := 1) (by decide))
  | 2, _ => exact congrArg some (aIz (f := 2) (by decide))
  | 3, _ => exact congrArg some (aIz (f := 3) (by decide))
  | 4, _ => exact congrArg some (aIz (f := 6) (by decide))
  | 5, _ => exact congrArg some (aIz (f := 7) (by decide))
  | 6, _ => exact congrArg some (aIz (f := 8) (by decide))
  | 7, _ => exact congrArg some (aIz (f := 10) (by decide))
  | 8, _ => exact congrArg some (aIz (f := 11) (by decide))
  | 9, _ => exact congrArg some (aIz (f := 12) (by decide))
  | 10, _ => exact congrArg some (aIz (f := 13) (by decide))
  | 11, _ => exact congrArg some (aIz (f := 14) (by decide))
  | 12, _ => exact congrArg some (aIz (f := 15) (by decide))
  | 13, _ => exact congrArg some (aIz (f := 16) (by decide))
  | 14, _ => exact congrArg some (aIz (f := 17) (by decide))
  | 15, _ => exact congrArg some (aIz (f := 18) (by decide))
  | 16, _ => exact congrArg some (aZz (f := 19) (by decide))
  | 17, _ => exact congrArg some (aIz (f := 20) (by decide))
  | 18, _ => exact congrArg some (aIz (f := 21) (by decide))
  | 19, _ => exact congrArg some (aZz (f := 22) (by decide))
  | 20, _ => exact congrArg some (aIz (f := 23) (by decide))
  | 21, _ => exact congrArg some (aIz (f := 24) (by decide))
  | 22, _ => exact congrArg some (aZz (f := 25) (by decide))
  | 23, _ => exact congrArg some (aIz (f := 26) (by decide))
  | 24, _ => exact congrArg some (aIz (f := 27) (by decide))
  | 25, _ => exact congrArg some (aIz (f := 28) (by decide))
  | 26, _ => exact congrArg some (aIz (f := 29) (by decide))
  | 27, _ => exact congrArg some (aIz (f := 30) (by decide))
  | 28, _ => exact congrArg some (aIz (f := 31) (by decide))
  | 29, _ => exact congrArg some (aIz (f := 32) (by decide))
  | 30, _ => exact congrArg some (aIz (f := 33) (by decide))
  | _ + 31, ho => omega)
/-- both, new -/
def sg0 (st : Int) : Sg := fun f i => if f = 0 ∧ i = 0 then st else if f = 4 ∧ i = 0 then 1 else if f = 2 ∧ i < 16 then (if i % 2 = 0 then 5 else 8) else if f = 3 ∧ i < 8 then 2 else if f = 18 ∧ i < 16 then -1 else 0
section
variable {H : Hp} {m : Nat}
theorem s_init277 (st : Int) : f_X8_init_277 (some m) (iI st) (some m) (MH H m sz4) = some ((), MH H m (sg0 st)) := by
  unfold f_X8_init_277 f_X8_init_282
  simp (disch := omega) only [rcv_M, mR0, mS0, mR1, mL1, mS1, mR2, mL2, mS2, mR3, mL3, mS3, mR4, mS4, mR5, mS5, mR6, mL6, mS6, mR7, mL7, mS7, mR8, mL8, mS8, mR9, mS9, mR10, mL10, mS10, mR11, mL11, mS11, mR12, mL12, mS12, mR13, mL13, mS13, mR14, mL14, mS14, mR15, mL15, mS15, mR16, mL16, mS16, mR17, mL17, mS17, mR18, mL18, mS18, mR19, mL19, mS19, mR20, mL20, mS20, mR21, mL21, mS21, mR22, mL22, mS22, mR23, mL23, mS23, mR24, mL24, mS24, mR25, mL25, mS25, mR26, mL26, mS26, mR27, mL27, mS27, mR28, mL28, mS28, mR29, mL29, mS29, mR30, mL30, mS30, mR31, mL31, mS31, mR32, mL32, mS32, mR33, mL33, mS33]
  rw [iI_0]
  obtain ⟨τ, t1, t2⟩ := lp_rel (B := fun k282 w => fb_X8_init_282 k282 w.1 w.2.1 w.2.2) (fun j (τ : Sg) => (some m, iI (j : Int), MH H m τ)) (fun j τ => ∀ f i, τ f i = if f = 2 ∧ i < 2 * j then (if i % 2 = 0 then 5 else 8) else if f = 3 ∧ i < j then 2 else sg sz4 0 0 st f i) 8 (fun τ => f_X8_init_324 (some m) (iI 0) (MH H m τ))
    (fun j τ hj hI => by
      refine ⟨sg (sg (sg τ 2 (2 * (j : Int)).toNat 5) 2 (2 * (j : Int) + 1).toNat 8) 3 j 2, fun f i => ?_, fun k => ?_⟩
      · have e1 : (2 * (j : Int)).toNat = 2 * j := by omega
        have e2 : (2 * (j : Int) + 1).toNat = 2 * j + 1 := by omega
        rw [e1, e2]
        show (if f = 3 ∧ i = j then (2 : Int) else if f = 2 ∧ i = 2 * j + 1 then 8 else if f = 2 ∧ i = 2 * j then 5 else τ f i) = _
        rw [hI f i]
        by_cases c2 : f = 2
        · subst c2
          by_cases q1 : i = 2 * j + 1
          · rw [if_neg (show ¬ (2 = 3 ∧ i = j) by omega), if_pos (show 2 = 2 ∧ i = 2 * j + 1 from ⟨rfl, q1⟩), if_pos (show 2 = 2 ∧ i < 2 * (j + 1) from ⟨rfl, by omega⟩), if_neg (show ¬ i % 2 = 0 by omega)]
          · by_cases q2 : i = 2 * j
            · rw [if_neg (show ¬ (2 = 3 ∧ i = j) by omega), if_neg (show ¬ (2 = 2 ∧ i = 2 * j + 1) by omega), if_pos (show 2 = 2 ∧ i = 2 * j from ⟨rfl, q2⟩), if_pos (show 2 = 2 ∧ i < 2 * (j + 1) from ⟨rfl, by omega⟩), if_pos (show i % 2 = 0 by omega)]
            · rw [if_neg (by omega), if_neg (by omega), if_neg (by omega)]
              by_cases q3 : i < 2 * j
              · rw [if_pos (show 2 = 2 ∧ i < 2 * j from ⟨rfl, q3⟩), if_pos (show 2 = 2 ∧ i < 2 * (j + 1) from ⟨rfl, by omega⟩)]
              · rw [if_neg (show ¬ (2 = 2 ∧ i < 2 * j) by omega), if_neg (show ¬ (2 = 2 ∧ i < 2 * (j + 1)) by omega), if_neg (show ¬ (2 = 3 ∧ i < j) by omega), if_neg (show ¬ (2 = 3 ∧ i < j + 1) by omega)]
        · by_cases c3 : f = 3
          · subst c3
            by_cases q1 : i = j
            · rw [if_pos (show 3 = 3 ∧ i = j from ⟨rfl, q1⟩), if_neg (show ¬ (3 = 2 ∧ i < 2 * (j + 1)) by omega), if_pos (show 3 = 3 ∧ i < j + 1 from ⟨rfl, by omega⟩)]
            · rw [if_neg (show ¬ (3 = 3 ∧ i = j) by omega), if_neg (show ¬ (3 = 2 ∧ i = 2 * j + 1) by omega), if_neg (show ¬ (3 = 2 ∧ i = 2 * j) by omega), if_neg (show ¬ (3 = 2 ∧ i < 2 * j) by omega), if_neg (show ¬ (3 = 2 ∧ i < 2 * (j + 1)) by omega)]
              by_cases q3 : i < j
              · rw [if_pos (show 3 = 3 ∧ i < j from ⟨rfl, q3⟩), if_pos (show 3 = 3 ∧ i < j + 1 from ⟨rfl, by omega⟩)]
              · rw [if_neg (show ¬ (3 = 3 ∧ i < j) by omega), if_neg (show ¬ (3 = 3 ∧ i < j + 1) by omega)]
          · rw [if_neg (show ¬ (f = 3 ∧ i = j) by omega), if_neg (show ¬ (f = 2 ∧ i = 2 * j + 1) by omega), if_neg (show ¬ (f = 2 ∧ i = 2 * j) by omega), if_neg (show ¬ (f = 2 ∧ i < 2 * j) by omega), if_neg (show ¬ (f = 3 ∧ i < j) by omega), if_neg (show ¬ (f = 2 ∧ i < 2 * (j + 1)) by omega), if_neg (show ¬ (f = 3 ∧ i < j + 1) by omega)]
      · show fb_X8_init_282 k (some m) (iI (j : Int)) (MH H m τ) = _
        unfold fb_X8_init_282
        simp (disch := omega) only [rcv_M, mR0, mS0, mR1, mL1, mS1, mR2, mL2, mS2, mR3, mL3, mS3, mR4, mS4, mR5, mS5, mR6, mL6, mS6, mR7, mL7, mS7, mR8, mL8, mS8, mR9, mS9, mR10, mL10, mS10, mR11, mL11, mS11, mR12, mL12, mS12, mR13, mL13, mS13, mR14, mL14, mS14, mR15, mL15, mS15, mR16, mL16, mS16, mR17, mL17, mS17, mR18, mL18, mS18, mR19, mL19, mS19, mR20, mL20, mS20, mR21, mL21, mS21, mR22, mL22, mS22, mR23, mL23, mS23, mR24, mL24, mS24, mR25, mL25, mS25, mR26, mL26, mS26, mR27, mL27, mS27, mR28, mL28, mS28, mR29, mL29, mS29, mR30, mL30, mS30, mR31, mL31, mS31, mR32, mL32, mS32, mR33, mL33, mS33, iI_0, iI_1, iI_neg, iL2, iL3, iL4, iL5, iL6, iL7, iL8, iL9, iL10, iL11, iL12, iL13, iL14, iL15, iL16, iL17, iL30, iL31, iL60, iL99, iL100, iL240, iL480, iL1000, iL1920, iL10000, iI_add, iI_sub, iI_mul, iI_div, iI_le, iI_lt, iI_eq, bd_s, Int.toNat_natCast, Int.natCast_succ]
        rw [if_neg (by omega)])
    (fun τ k hI => by
      show fb_X8_init_282 k (some m) (iI ((8 : Nat) : Int)) (MH H m τ) = _
      unfold fb_X8_init_282
      rw [if_pos (by decide), iI_0]) 8 0 FU (sg sz4 0 0 st) (by omega) (by rw [FU_eq]; omega) (fun f i => by rw [if_neg (by omega), if_neg (by omega)])
  have t2' : lp (fun k282 w => fb_X8_init_282 k282 w.1 w.2.1 w.2.2) FU (some m, iI 0, MH H m (sg sz4 0 0 st)) = f_X8_init_324 (some m) (iI 0) (MH H m τ) := t2
  rw [t2']
  unfold f_X8_init_324
  obtain ⟨υ, u1, u2⟩ := lp_rel (B := fun k324 w => fb_X8_init_324 k324 w.1 w.2.1 w.2.2) (fun j (τ : Sg) => (some m, iI (j : Int), MH H m τ)) (fun j υ => ∀ f i, υ f i = if f = 18 ∧ i < j then -1 else τ f i) 16 (fun τ => some ((), MH H m τ))
    (fun j υ hj hI => by
      refine ⟨sg υ 18 j (-1), fun f i => ?_, fun k => ?_⟩
      · show (if f = 18 ∧ i = j then (-1 : Int) else υ f i) = _
        rw [hI f i]
        by_cases q : f = 18 ∧ i = j
        · rw [if_pos q, if_pos (by omega)]
        · rw [if_neg q]
          by_cases q2 : f = 18 ∧ i < j
          · rw [if_pos q2, if_pos (by omega)]
          · rw [if_neg q2, if_neg (by omega)]
      · show fb_X8_init_324 k (some m) (iI (j : Int)) (MH H m υ) = _
        unfold fb_X8_init_324
        simp (disch := omega) only [rcv_M, mR0, mS0, mR1, mL1, mS1, mR2, mL2, mS2, mR3, mL3, mS3, mR4, mS4, mR5, mS5, mR6, mL6, mS6, mR7, mL7, mS7, mR8, mL8, mS8, mR9, mS9, mR10, mL10, mS10, mR11, mL11, mS11, mR12, mL12, mS12, mR13, mL13, mS13, mR14, mL14, mS14, mR15, mL15, mS15, mR16, mL16, mS16, mR17, mL17, mS17, mR18, mL18, mS18, mR19, mL19, mS19, mR20, mL20, mS20, mR21, mL21, mS21, mR22, mL22, mS22, mR23, mL23, mS23, mR24, mL24, mS24, mR25, mL25, mS25, mR26, mL26, mS26, mR27, mL27, mS27, mR28, mL28, mS28, mR29, mL29, mS29, mR30, mL30, mS30, mR31, mL31, mS31, mR32, mL32, mS32, mR33, mL33, mS33, iI_0, iI_1, iI_neg, iL2, iL3, iL4, iL5, iL6, iL7, iL8, iL9, iL10, iL11, iL12, iL13, iL14, iL15, iL16, iL17, iL30, iL31, iL60, iL99, iL100, iL240, iL480, iL1000, iL1920, iL10000, iI_add, iI_sub, iI_mul, iI_div, iI_le, iI_lt, iI_eq, bd_s, Int.toNat_natCast, Int.natCast_succ]
        rw [if_neg (by omega)])
    (fun υ k hI => by
      show fb_X8_init_324 k (some m) (iI ((16 : Nat) : Int)) (MH H m υ) = _
      unfold fb_X8_init_324
      rw [if_pos (by decide)]
      rfl) 16 0 FU τ (by omega) (by rw [FU_eq]; omega) (fun f i => by rw [if_neg (by omega)])
  have : υ = sg0 st := by
    funext f i
    rw [u1, t1]
    unfold sg0 sg sz4
    by_cases c18 : f = 18
    · subst c18
      by_cases q : i < 16
      · rw [if_pos ⟨rfl, q⟩]; simp [q]
      · rw [if_neg (by omega)]; simp [q]
    · rw [if_neg (fun z => c18 z.1)]
      by_cases c2 : f = 2
      · subst c2; simp
      · by_cases c3 : f = 3
        · subst c3; simp
        · simp [c2, c3, c18]
  rw [this] at u2
  exact u2
end
