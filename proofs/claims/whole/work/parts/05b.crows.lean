section
variable {α : Type} {h : Hp} {A : CA} {κ : Sg}
theorem iL239 : (239 : Int32) = iI 239 := by decide
theorem cV0 (K : Nat → Option α) : rcv (CH h A κ) (some (A.x)) 8 K = K (A.x) := obj_C (c := 0) (by omega) rfl (fun a _ _ => K a)
theorem cR0_0 (K : Option Nat → Option α) : gR (CH h A κ) (some (A.x)) 8 0 K = K (some (A.x + 1)) := obj_C (c := 0) (by omega) rfl (fun _ _ F => K (F 0))
theorem cR0_1 (K : Option Nat → Option α) : gR (CH h A κ) (some (A.x)) 8 1 K = K (some (A.x + 9)) := obj_C (c := 0) (by omega) rfl (fun _ _ F => K (F 1))
theorem cR0_2 (K : Option Nat → Option α) : gR (CH h A κ) (some (A.x)) 8 2 K = K (some (A.x + 12)) := obj_C (c := 0) (by omega) rfl (fun _ _ F => K (F 2))
theorem cR0_3 (K : Option Nat → Option α) : gR (CH h A κ) (some (A.x)) 8 3 K = K (some (A.x + 18)) := obj_C (c := 0) (by omega) rfl (fun _ _ F => K (F 3))
theorem cR0_4 (K : Option Nat → Option α) : gR (CH h A κ) (some (A.x)) 8 4 K = K (some (A.x + 22)) := obj_C (c := 0) (by omega) rfl (fun _ _ F => K (F 4))
theorem cR0_5 (K : Option Nat → Option α) : gR (CH h A κ) (some (A.x)) 8 5 K = K (some (A.x + 23)) := obj_C (c := 0) (by omega) rfl (fun _ _ F => K (F 5))
theorem cV1 (K : Nat → Option α) : rcv (CH h A κ) (some (A.x + 1)) 4 K = K (A.x + 1) := obj_C (c := 1) (by omega) rfl (fun a _ _ => K a)
theorem cR1_1 (K : Option Nat → Option α) : gR (CH h A κ) (some (A.x + 1)) 4 1 K = K (some (A.x + 2)) := obj_C (c := 1) (by omega) rfl (fun _ _ F => K (F 1))
theorem cR1_2 (K : Option Nat → Option α) : gR (CH h A κ) (some (A.x + 1)) 4 2 K = K (some (A.x + 3)) := obj_C (c := 1) (by omega) rfl (fun _ _ F => K (F 2))
theorem cR1_3 (K : Option Nat → Option α) : gR (CH h A κ) (some (A.x + 1)) 4 3 K = K (some (A.x + 4)) := obj_C (c := 1) (by omega) rfl (fun _ _ F => K (F 3))
theorem cR1_4 (K : Option Nat → Option α) : gR (CH h A κ) (some (A.x + 1)) 4 4 K = K (some (A.x + 5)) := obj_C (c := 1) (by omega) rfl (fun _ _ F => K (F 4))
theorem cR1_5 (K : Option Nat → Option α) : gR (CH h A κ) (some (A.x + 1)) 4 5 K = K (some (A.x + 6)) := obj_C (c := 1) (by omega) rfl (fun _ _ F => K (F 5))
theorem cR1_6 (K : Option Nat → Option α) : gR (CH h A κ) (some (A.x + 1)) 4 6 K = K (some (A.x + 7)) := obj_C (c := 1) (by omega) rfl (fun _ _ F => K (F 6))
theorem cR1_7 (K : Option Nat → Option α) : gR (CH h A κ) (some (A.x + 1)) 4 7 K = K (some (A.x + 8)) := obj_C (c := 1) (by omega) rfl (fun _ _ F => K (F 7))
theorem cI1_0 (K : Int32 → Option α) : gI (CH h A κ) (some (A.x + 1)) 4 0 K = K (iI (κ 0 0)) := obj_C (c := 1) (by omega) rfl (fun _ I _ => K (I 0))
theorem cI1_8 (K : Int32 → Option α) : gI (CH h A κ) (some (A.x + 1)) 4 8 K = K (iI (κ 5 0)) := obj_C (c := 1) (by omega) rfl (fun _ I _ => K (I 8))
theorem cP1_8 (v : Int) (K : Hp → Option α) : pI (CH h A κ) (some (A.x + 1)) 4 8 (iI v) K = K (CH h A (sg κ 5 0 v)) := pI_C (c := 1) (I := fun κ k => if k = 0 then iI (κ 0 0) else if k = 8 then iI (κ 5 0) else if k = 9 then iI (κ 4 0) else 0) (by omega) (fun _ => rfl) rfl v (by funext i; by_cases hi : i = 8; (subst hi; simp [upd, sg]); simp [upd, sg, hi]) K
theorem cI1_9 (K : Int32 → Option α) : gI (CH h A κ) (some (A.x + 1)) 4 9 K = K (iI (κ 4 0)) := obj_C (c := 1) (by omega) rfl (fun _ I _ => K (I 9))
theorem cP1_9 (v : Int) (K : Hp → Option α) : pI (CH h A κ) (some (A.x + 1)) 4 9 (iI v) K = K (CH h A (sg κ 4 0 v)) := pI_C (c := 1) (I := fun κ k => if k = 0 then iI (κ 0 0) else if k = 8 then iI (κ 5 0) else if k = 9 then iI (κ 4 0) else 0) (by omega) (fun _ => rfl) rfl v (by funext i; by_cases hi : i = 9; (subst hi; simp [upd, sg]); simp [upd, sg, hi]) K
theorem cV9 (K : Nat → Option α) : rcv (CH h A κ) (some (A.x + 9)) 2 K = K (A.x + 9) := obj_C (c := 9) (by omega) rfl (fun a _ _ => K a)
theorem cR9_0 (K : Option Nat → Option α) : gR (CH h A κ) (some (A.x + 9)) 2 0 K = K (some (A.x + 10)) := obj_C (c := 9) (by omega) rfl (fun _ _ F => K (F 0))
theorem cR9_1 (K : Option Nat → Option α) : gR (CH h A κ) (some (A.x + 9)) 2 1 K = K (some (A.x + 11)) := obj_C (c := 9) (by omega) rfl (fun _ _ F => K (F 1))
theorem cV10 (K : Nat → Option α) : rcv (CH h A κ) (some (A.x + 10)) 0 K = K (A.x + 10) := obj_C (c := 10) (by omega) rfl (fun a _ _ => K a)
theorem cV11 (K : Nat → Option α) : rcv (CH h A κ) (some (A.x + 11)) 0 K = K (A.x + 11) := obj_C (c := 11) (by omega) rfl (fun a _ _ => K a)
theorem cV12 (K : Nat → Option α) : rcv (CH h A κ) (some (A.x + 12)) 5 K = K (A.x + 12) := obj_C (c := 12) (by omega) rfl (fun a _ _ => K a)
theorem cR12_0 (K : Option Nat → Option α) : gR (CH h A κ) (some (A.x + 12)) 5 0 K = K (some (A.x + 1)) := obj_C (c := 12) (by omega) rfl (fun _ _ F => K (F 0))
theorem cR12_1 (K : Option Nat → Option α) : gR (CH h A κ) (some (A.x + 12)) 5 1 K = K (some (A.x + 9)) := obj_C (c := 12) (by omega) rfl (fun _ _ F => K (F 1))
theorem cR12_2 (K : Option Nat → Option α) : gR (CH h A κ) (some (A.x + 12)) 5 2 K = K (some (A.x + 13)) := obj_C (c := 12) (by omega) rfl (fun _ _ F => K (F 2))
theorem cR12_3 (K : Option Nat → Option α) : gR (CH h A κ) (some (A.x + 12)) 5 3 K = K (some (A.x + 14)) := obj_C (c := 12) (by omega) rfl (fun _ _ F => K (F 3))
theorem cR12_4 (K : Option Nat → Option α) : gR (CH h A κ) (some (A.x + 12)) 5 4 K = K (some (A.x + 15)) := obj_C (c := 12) (by omega) rfl (fun _ _ F => K (F 4))
theorem cR12_5 (K : Option Nat → Option α) : gR (CH h A κ) (some (A.x + 12)) 5 5 K = K (some (A.x + 16)) := obj_C (c := 12) (by omega) rfl (fun _ _ F => K (F 5))
theorem cR12_6 (K : Option Nat → Option α) : gR (CH h A κ) (some (A.x + 12)) 5 6 K = K (some (A.x + 17)) := obj_C (c := 12) (by omega) rfl (fun _ _ F => K (F 6))
theorem cV18 (K : Nat → Option α) : rcv (CH h A κ) (some (A.x + 18)) 6 K = K (A.x + 18) := obj_C (c := 18) (by omega) rfl (fun a _ _ => K a)
theorem cR18_0 (K : Option Nat → Option α) : gR (CH h A κ) (some (A.x + 18)) 6 0 K = K (some (A.x + 9)) := obj_C (c := 18) (by omega) rfl (fun _ _ F => K (F 0))
theorem cR18_1 (K : Option Nat → Option α) : gR (CH h A κ) (some (A.x + 18)) 6 1 K = K (some (A.x + 12)) := obj_C (c := 18) (by omega) rfl (fun _ _ F => K (F 1))
theorem cR18_2 (K : Option Nat → Option α) : gR (CH h A κ) (some (A.x + 18)) 6 2 K = K (some (A.x + 19)) := obj_C (c := 18) (by omega) rfl (fun _ _ F => K (F 2))
theorem cR18_3 (K : Option Nat → Option α) : gR (CH h A κ) (some (A.x + 18)) 6 3 K = K (some (A.x + 20)) := obj_C (c := 18) (by omega) rfl (fun _ _ F => K (F 3))
theorem cR18_4 (K : Option Nat → Option α) : gR (CH h A κ) (some (A.x + 18)) 6 4 K = K (some (A.x + 21)) := obj_C (c := 18) (by omega) rfl (fun _ _ F => K (F 4))
theorem cI18_5 (K : Int32 → Option α) : gI (CH h A κ) (some (A.x + 18)) 6 5 K = K (iI (κ 50 0)) := obj_C (c := 18) (by omega) rfl (fun _ I _ => K (I 5))
theorem cP18_5 (v : Int) (K : Hp → Option α) : pI (CH h A κ) (some (A.x + 18)) 6 5 (iI v) K = K (CH h A (sg κ 50 0 v)) := pI_C (c := 18) (I := fun κ k => if k = 5 then iI (κ 50 0) else if k = 6 then iI (κ 51 0) else 0) (by omega) (fun _ => rfl) rfl v (by funext i; by_cases hi : i = 5; (subst hi; simp [upd, sg]); simp [upd, sg, hi]) K
theorem cI18_6 (K : Int32 → Option α) : gI (CH h A κ) (some (A.x + 18)) 6 6 K = K (iI (κ 51 0)) := obj_C (c := 18) (by omega) rfl (fun _ I _ => K (I 6))
theorem cP18_6 (v : Int) (K : Hp → Option α) : pI (CH h A κ) (some (A.x + 18)) 6 6 (iI v) K = K (CH h A (sg κ 51 0 v)) := pI_C (c := 18) (I := fun κ k => if k = 5 then iI (κ 50 0) else if k = 6 then iI (κ 51 0) else 0) (by omega) (fun _ => rfl) rfl v (by funext i; by_cases hi : i = 6; (subst hi; simp [upd, sg]); simp [upd, sg, hi]) K
theorem cV22 (K : Nat → Option α) : rcv (CH h A κ) (some (A.x + 22)) 3 K = K (A.x + 22) := obj_C (c := 22) (by omega) rfl (fun a _ _ => K a)
theorem cR22_0 (K : Option Nat → Option α) : gR (CH h A κ) (some (A.x + 22)) 3 0 K = K (some (A.x + 1)) := obj_C (c := 22) (by omega) rfl (fun _ _ F => K (F 0))
theorem cR22_1 (K : Option Nat → Option α) : gR (CH h A κ) (some (A.x + 22)) 3 1 K = K (some (A.x + 9)) := obj_C (c := 22) (by omega) rfl (fun _ _ F => K (F 1))
theorem cI22_2 (K : Int32 → Option α) : gI (CH h A κ) (some (A.x + 22)) 3 2 K = K (iI (κ 52 0)) := obj_C (c := 22) (by omega) rfl (fun _ I _ => K (I 2))
theorem cP22_2 (v : Int) (K : Hp → Option α) : pI (CH h A κ) (some (A.x + 22)) 3 2 (iI v) K = K (CH h A (sg κ 52 0 v)) := pI_C (c := 22) (I := fun κ k => if k = 2 then iI (κ 52 0) else if k = 3 then iI (κ 53 0) else if k = 4 then iI (κ 54 0) else 0) (by omega) (fun _ => rfl) rfl v (by funext i; by_cases hi : i = 2; (subst hi; simp [upd, sg]); simp [upd, sg, hi]) K
theorem cI22_3 (K : Int32 → Option α) : gI (CH h A κ) (some (A.x + 22)) 3 3 K = K (iI (κ 53 0)) := obj_C (c := 22) (by omega) rfl (fun _ I _ => K (I 3))
theorem cP22_3 (v : Int) (K : Hp → Option α) : pI (CH h A κ) (some (A.x + 22)) 3 3 (iI v) K = K (CH h A (sg κ 53 0 v)) := pI_C (c := 22) (I := fun κ k => if k = 2 then iI (κ 52 0) else if k = 3 then iI (κ 53 0) else if k = 4 then iI (κ 54 0) else 0) (by omega) (fun _ => rfl) rfl v (by funext i; by_cases hi : i = 3; (subst hi; simp [upd, sg]); simp [upd, sg, hi]) K
theorem cI22_4 (K : Int32 → Option α) : gI (CH h A κ) (some (A.x + 22)) 3 4 K = K (iI (κ 54 0)) := obj_C (c := 22) (by omega) rfl (fun _ I _ => K (I 4))
theorem cP22_4 (v : Int) (K : Hp → Option α) : pI (CH h A κ) (some (A.x + 22)) 3 4 (iI v) K = K (CH h A (sg κ 54 0 v)) := pI_C (c := 22) (I := fun κ k => if k = 2 then iI (κ 52 0) else if k = 3 then iI (κ 53 0) else if k = 4 then iI (κ 54 0) else 0) (by omega) (fun _ => rfl) rfl v (by funext i; by_cases hi : i = 4; (subst hi; simp [upd, sg]); simp [upd, sg, hi]) K
theorem cV23 (K : Nat → Option α) : rcv (CH h A κ) (some (A.x + 23)) 7 K = K (A.x + 23) := obj_C (c := 23) (by omega) rfl (fun a _ _ => K a)
theorem cR23_0 (K : Option Nat → Option α) : gR (CH h A κ) (some (A.x + 23)) 7 0 K = K (some (A.x + 1)) := obj_C (c := 23) (by omega) rfl (fun _ _ F => K (F 0))
theorem cR23_1 (K : Option Nat → Option α) : gR (CH h A κ) (some (A.x + 23)) 7 1 K = K (some (A.x + 9)) := obj_C (c := 23) (by omega) rfl (fun _ _ F => K (F 1))
theorem cR23_3 (K : Option Nat → Option α) : gR (CH h A κ) (some (A.x + 23)) 7 3 K = K (some (A.x + 24)) := obj_C (c := 23) (by omega) rfl (fun _ _ F => K (F 3))
theorem cR23_4 (K : Option Nat → Option α) : gR (CH h A κ) (some (A.x + 23)) 7 4 K = K (some (A.x + 25)) := obj_C (c := 23) (by omega) rfl (fun _ _ F => K (F 4))
theorem cR23_5 (K : Option Nat → Option α) : gR (CH h A κ) (some (A.x + 23)) 7 5 K = K (some (A.x + 26)) := obj_C (c := 23) (by omega) rfl (fun _ _ F => K (F 5))
theorem cR23_6 (K : Option Nat → Option α) : gR (CH h A κ) (some (A.x + 23)) 7 6 K = K (some (A.x + 27)) := obj_C (c := 23) (by omega) rfl (fun _ _ F => K (F 6))
theorem cR23_7 (K : Option Nat → Option α) : gR (CH h A κ) (some (A.x + 23)) 7 7 K = K (some (A.x + 28)) := obj_C (c := 23) (by omega) rfl (fun _ _ F => K (F 7))
theorem cR23_8 (K : Option Nat → Option α) : gR (CH h A κ) (some (A.x + 23)) 7 8 K = K (some (A.x + 29)) := obj_C (c := 23) (by omega) rfl (fun _ _ F => K (F 8))
theorem cR23_9 (K : Option Nat → Option α) : gR (CH h A κ) (some (A.x + 23)) 7 9 K = K (some (A.x + 30)) := obj_C (c := 23) (by omega) rfl (fun _ _ F => K (F 9))
theorem cR23_10 (K : Option Nat → Option α) : gR (CH h A κ) (some (A.x + 23)) 7 10 K = K (some (A.x + 31)) := obj_C (c := 23) (by omega) rfl (fun _ _ F => K (F 10))
theorem cI23_2 (K : Int32 → Option α) : gI (CH h A κ) (some (A.x + 23)) 7 2 K = K (iI (κ 55 0)) := obj_C (c := 23) (by omega) rfl (fun _ I _ => K (I 2))
theorem cP23_2 (v : Int) (K : Hp → Option α) (hv : v = 0 ∨ v = 1) : pZ (CH h A κ) (some (A.x + 23)) 7 2 (iI v) K = K (CH h A (sg κ 55 0 v)) := pZ_C (c := 23) (I := fun κ k => if k = 2 then iI (κ 55 0) else 0) (by omega) (fun _ => rfl) rfl v hv (by funext i; by_cases hi : i = 2; (subst hi; simp [upd, sg]); simp [upd, sg, hi]) K
theorem cR10_1 (K : Option Nat → Option α) : gR (CH h A κ) (some (A.x + 10)) 0 1 K = K (some A.la) := obj_C (c := 10) (by omega) rfl (fun _ _ F => K (F 1))
theorem cI10_2 (K : Int32 → Option α) : gI (CH h A κ) (some (A.x + 10)) 0 2 K = K (iI A.n) := obj_C (c := 10) (by omega) rfl (fun _ I _ => K (I 2))
theorem cR11_1 (K : Option Nat → Option α) : gR (CH h A κ) (some (A.x + 11)) 0 1 K = K (some A.lb) := obj_C (c := 11) (by omega) rfl (fun _ _ F => K (F 1))
theorem cI11_2 (K : Int32 → Option α) : gI (CH h A κ) (some (A.x + 11)) 0 2 K = K (iI A.n) := obj_C (c := 11) (by omega) rfl (fun _ I _ => K (I 2))
theorem cL2 {z : Int} (z0 : 0 ≤ z) (z1 : z < 8) (K : Int32 → Option α) : ldZ (CH h A κ) (some (A.x + 2)) (iI z) K = K (iI (κ 1 (z.toNat))) := ldZ_C (c := 2) (len := 8) (f := 1) (fun i => i) (by omega) (by omega) rfl z0 z1 K
theorem cS2 {z : Int} (z0 : 0 ≤ z) (z1 : z < 8) (v : Int) (K : Hp → Option α) (hv : v = 0 ∨ v = 1) : stZ (CH h A κ) (some (A.x + 2)) (iI z) (iI v) K = K (CH h A (sg κ 1 (z.toNat) v)) := stZ_C (c := 2) (len := 8) (f := 1) (fun i => i) (by omega) (by omega) (fun _ => rfl) (fun i hi => rfl) (fun i j _ _ e => by omega) z0 z1 v hv K
theorem cL3 {z : Int} (z0 : 0 ≤ z) (z1 : z < 8) (K : Int32 → Option α) : ldI (CH h A κ) (some (A.x + 3)) (iI z) K = K (iI (κ 2 (2 * z.toNat))) := ldI_C (c := 3) (len := 8) (f := 2) (fun i => 2 * i) (by omega) (by omega) rfl z0 z1 K
theorem cS3 {z : Int} (z0 : 0 ≤ z) (z1 : z < 8) (v : Int) (K : Hp → Option α) : stI (CH h A κ) (some (A.x + 3)) (iI z) (iI v) K = K (CH h A (sg κ 2 (2 * z.toNat) v)) := stI_C (c := 3) (len := 8) (f := 2) (fun i => 2 * i) (by omega) (by omega) (fun _ => rfl) (fun i hi => by simp [own]) (fun i j _ _ e => by omega) z0 z1 v K
theorem cL4 {z : Int} (z0 : 0 ≤ z) (z1 : z < 8) (K : Int32 → Option α) : ldI (CH h A κ) (some (A.x + 4)) (iI z) K = K (iI (κ 2 (2 * z.toNat + 1))) := ldI_C (c := 4) (len := 8) (f := 2) (fun i => 2 * i + 1) (by omega) (by omega) rfl z0 z1 K
theorem cS4 {z : Int} (z0 : 0 ≤ z) (z1 : z < 8) (v : Int) (K : Hp → Option α) : stI (CH h A κ) (some (A.x + 4)) (iI z) (iI v) K = K (CH h A (sg κ 2 (2 * z.toNat + 1) v)) := stI_C (c := 4) (len := 8) (f := 2) (fun i => 2 * i + 1) (by omega) (by omega) (fun _ => rfl) (fun i hi => by simp [own]) (fun i j _ _ e => by omega) z0 z1 v K
theorem cL5 {z : Int} (z0 : 0 ≤ z) (z1 : z < 8) (K : Int32 → Option α) : ldI (CH h A κ) (some (A.x + 5)) (iI z) K = K (iI (κ 3 (z.toNat))) := ldI_C (c := 5) (len := 8) (f := 3) (fun i => i) (by omega) (by omega) rfl z0 z1 K
theorem cS5 {z : Int} (z0 : 0 ≤ z) (z1 : z < 8) (v : Int) (K : Hp → Option α) : stI (CH h A κ) (some (A.x + 5)) (iI z) (iI v) K = K (CH h A (sg κ 3 (z.toNat) v)) := stI_C (c := 5) (len := 8) (f := 3) (fun i => i) (by omega) (by omega) (fun _ => rfl) (fun i hi => rfl) (fun i j _ _ e => by omega) z0 z1 v K
theorem cL6 {z : Int} (z0 : 0 ≤ z) (z1 : z < 10) (K : Int32 → Option α) : ldI (CH h A κ) (some (A.x + 6)) (iI z) K = K (iI (κ 6 (z.toNat))) := ldI_C (c := 6) (len := 10) (f := 6) (fun i => i) (by omega) (by omega) rfl z0 z1 K
theorem cS6 {z : Int} (z0 : 0 ≤ z) (z1 : z < 10) (v : Int) (K : Hp → Option α) : stI (CH h A κ) (some (A.x + 6)) (iI z) (iI v) K = K (CH h A (sg κ 6 (z.toNat) v)) := stI_C (c := 6) (len := 10) (f := 6) (fun i => i) (by omega) (by omega) (fun _ => rfl) (fun i hi => rfl) (fun i j _ _ e => by omega) z0 z1 v K
theorem cL7 {z : Int} (z0 : 0 ≤ z) (z1 : z < 10) (K : Int32 → Option α) : ldI (CH h A κ) (some (A.x + 7)) (iI z) K = K (iI (κ 7 (z.toNat))) := ldI_C (c := 7) (len := 10) (f := 7) (fun i => i) (by omega) (by omega) rfl z0 z1 K
theorem cS7 {z : Int} (z0 : 0 ≤ z) (z1 : z < 10) (v : Int) (K : Hp → Option α) : stI (CH h A κ) (some (A.x + 7)) (iI z) (iI v) K = K (CH h A (sg κ 7 (z.toNat) v)) := stI_C (c := 7) (len := 10) (f := 7) (fun i => i) (by omega) (by omega) (fun _ => rfl) (fun i hi => rfl) (fun i j _ _ e => by omega) z0 z1 v K
theorem cL8 {z : Int} (z0 : 0 ≤ z) (z1 : z < 10) (K : Int32 → Option α) : ldI (CH h A κ) (some (A.x + 8)) (iI z) K = K (iI (κ 8 (z.toNat))) := ldI_C (c := 8) (len := 10) (f := 8) (fun i => i) (by omega) (by omega) rfl z0 z1 K
theorem cS8 {z : Int} (z0 : 0 ≤ z) (z1 : z < 10) (v : Int) (K : Hp → Option α) : stI (CH h A κ) (some (A.x + 8)) (iI z) (iI v) K = K (CH h A (sg κ 8 (z.toNat) v)) := stI_C (c := 8) (len := 10) (f := 8) (fun i => i) (by omega) (by omega) (fun _ => rfl) (fun i hi => rfl) (fun i j _ _ e => by omega) z0 z1 v K
theorem cL13 {z : Int} (z0 : 0 ≤ z) (z1 : z < 1920) (K : Int32 → Option α) : ldZ (CH h A κ) (some (A.x + 13)) (iI z) K = K (iI (κ 42 (z.toNat))) := ldZ_C (c := 13) (len := 1920) (f := 42) (fun i => i) (by omega) (by omega) rfl z0 z1 K
theorem cS13 {z : Int} (z0 : 0 ≤ z) (z1 : z < 1920) (v : Int) (K : Hp → Option α) (hv : v = 0 ∨ v = 1) : stZ (CH h A κ) (some (A.x + 13)) (iI z) (iI v) K = K (CH h A (sg κ 42 (z.toNat) v)) := stZ_C (c := 13) (len := 1920) (f := 42) (fun i => i) (by omega) (by omega) (fun _ => rfl) (fun i hi => rfl) (fun i j _ _ e => by omega) z0 z1 v hv K
theorem cL14 {z : Int} (z0 : 0 ≤ z) (z1 : z < 240) (K : Int32 → Option α) : ldZ (CH h A κ) (some (A.x + 14)) (iI z) K = K (iI (κ 43 (z.toNat))) := ldZ_C (c := 14) (len := 240) (f := 43) (fun i => i) (by omega) (by omega) rfl z0 z1 K
theorem cS14 {z : Int} (z0 : 0 ≤ z) (z1 : z < 240) (v : Int) (K : Hp → Option α) (hv : v = 0 ∨ v = 1) : stZ (CH h A κ) (some (A.x + 14)) (iI z) (iI v) K = K (CH h A (sg κ 43 (z.toNat) v)) := stZ_C (c := 14) (len := 240) (f := 43) (fun i => i) (by omega) (by omega) (fun _ => rfl) (fun i hi => rfl) (fun i j _ _ e => by omega) z0 z1 v hv K
theorem cL15 {z : Int} (z0 : 0 ≤ z) (z1 : z < 240) (K : Int32 → Option α) : ldI (CH h A κ) (some (A.x + 15)) (iI z) K = K (iI (κ 44 (z.toNat))) := ldI_C (c := 15) (len := 240) (f := 44) (fun i => i) (by omega) (by omega) rfl z0 z1 K
theorem cS15 {z : Int} (z0 : 0 ≤ z) (z1 : z < 240) (v : Int) (K : Hp → Option α) : stI (CH h A κ) (some (A.x + 15)) (iI z) (iI v) K = K (CH h A (sg κ 44 (z.toNat) v)) := stI_C (c := 15) (len := 240) (f := 44) (fun i => i) (by omega) (by omega) (fun _ => rfl) (fun i hi => rfl) (fun i j _ _ e => by omega) z0 z1 v K
theorem cL16 {z : Int} (z0 : 0 ≤ z) (z1 : z < 8) (K : Int32 → Option α) : ldI (CH h A κ) (some (A.x + 16)) (iI z) K = K (iI (κ 45 (z.toNat))) := ldI_C (c := 16) (len := 8) (f := 45) (fun i => i) (by omega) (by omega) rfl z0 z1 K
theorem cS16 {z : Int} (z0 : 0 ≤ z) (z1 : z < 8) (v : Int) (K : Hp → Option α) : stI (CH h A κ) (some (A.x + 16)) (iI z) (iI v) K = K (CH h A (sg κ 45 (z.toNat) v)) := stI_C (c := 16) (len := 8) (f := 45) (fun i => i) (by omega) (by omega) (fun _ => rfl) (fun i hi => rfl) (fun i j _ _ e => by omega) z0 z1 v K
theorem cL17 {z : Int} (z0 : 0 ≤ z) (z1 : z < 8) (K : Int32 → Option α) : ldI (CH h A κ) (some (A.x + 17)) (iI z) K = K (iI (κ 46 (z.toNat))) := ldI_C (c := 17) (len := 8) (f := 46) (fun i => i) (by omega) (by omega) rfl z0 z1 K
theorem cS17 {z : Int} (z0 : 0 ≤ z) (z1 : z < 8) (v : Int) (K : Hp → Option α) : stI (CH h A κ) (some (A.x + 17)) (iI z) (iI v) K = K (CH h A (sg κ 46 (z.toNat) v)) := stI_C (c := 17) (len := 8) (f := 46) (fun i => i) (by omega) (by omega) (fun _ => rfl) (fun i hi => rfl) (fun i j _ _ e => by omega) z0 z1 v K
theorem cL19 {z : Int} (z0 : 0 ≤ z) (z1 : z < 16) (K : Int32 → Option α) : ldZ (CH h A κ) (some (A.x + 19)) (iI z) K = K (iI (κ 47 (z.toNat))) := ldZ_C (c := 19) (len := 16) (f := 47) (fun i => i) (by omega) (by omega) rfl z0 z1 K
theorem cS19 {z : Int} (z0 : 0 ≤ z) (z1 : z < 16) (v : Int) (K : Hp → Option α) (hv : v = 0 ∨ v = 1) : stZ (CH h A κ) (some (A.x + 19)) (iI z) (iI v) K = K (CH h A (sg κ 47 (z.toNat) v)) := stZ_C (c := 19) (len := 16) (f := 47) (fun i => i) (by omega) (by omega) (fun _ => rfl) (fun i hi => rfl) (fun i j _ _ e => by omega) z0 z1 v hv K
theorem cL20 {z : Int} (z0 : 0 ≤ z) (z1 : z < 5) (K : Int32 → Option α) : ldI (CH h A κ) (some (A.x + 20)) (iI z) K = K (iI (κ 48 (z.toNat))) := ldI_C (c := 20) (len := 5) (f := 48) (fun i => i) (by omega) (by omega) rfl z0 z1 K
theorem cS20 {z : Int} (z0 : 0 ≤ z) (z1 : z < 5) (v : Int) (K : Hp → Option α) : stI (CH h A κ) (some (A.x + 20)) (iI z) (iI v) K = K (CH h A (sg κ 48 (z.toNat) v)) := stI_C (c := 20) (len := 5) (f := 48) (fun i => i) (by omega) (by omega) (fun _ => rfl) (fun i hi => rfl) (fun i j _ _ e => by omega) z0 z1 v K
theorem cL21 {z : Int} (z0 : 0 ≤ z) (z1 : z < 5) (K : Int32 → Option α) : ldI (CH h A κ) (some (A.x + 21)) (iI z) K = K (iI (κ 49 (z.toNat))) := ldI_C (c := 21) (len := 5) (f := 49) (fun i => i) (by omega) (by omega) rfl z0 z1 K
theorem cS21 {z : Int} (z0 : 0 ≤ z) (z1 : z < 5) (v : Int) (K : Hp → Option α) : stI (CH h A κ) (some (A.x + 21)) (iI z) (iI v) K = K (CH h A (sg κ 49 (z.toNat) v)) := stI_C (c := 21) (len := 5) (f := 49) (fun i => i) (by omega) (by omega) (fun _ => rfl) (fun i hi => rfl) (fun i j _ _ e => by omega) z0 z1 v K
theorem cL24 {z : Int} (z0 : 0 ≤ z) (z1 : z < 16) (K : Int32 → Option α) : ldI (CH h A κ) (some (A.x + 24)) (iI z) K = K (iI (κ 56 (z.toNat))) := ldI_C (c := 24) (len := 16) (f := 56) (fun i => i) (by omega) (by omega) rfl z0 z1 K
theorem cS24 {z : Int} (z0 : 0 ≤ z) (z1 : z < 16) (v : Int) (K : Hp → Option α) : stI (CH h A κ) (some (A.x + 24)) (iI z) (iI v) K = K (CH h A (sg κ 56 (z.toNat) v)) := stI_C (c := 24) (len := 16) (f := 56) (fun i => i) (by omega) (by omega) (fun _ => rfl) (fun i hi => rfl) (fun i j _ _ e => by omega) z0 z1 v K
theorem cL25 {z : Int} (z0 : 0 ≤ z) (z1 : z < 16) (K : Int32 → Option α) : ldI (CH h A κ) (some (A.x + 25)) (iI z) K = K (iI (κ 57 (z.toNat))) := ldI_C (c := 25) (len := 16) (f := 57) (fun i => i) (by omega) (by omega) rfl z0 z1 K
theorem cS25 {z : Int} (z0 : 0 ≤ z) (z1 : z < 16) (v : Int) (K : Hp → Option α) : stI (CH h A κ) (some (A.x + 25)) (iI z) (iI v) K = K (CH h A (sg κ 57 (z.toNat) v)) := stI_C (c := 25) (len := 16) (f := 57) (fun i => i) (by omega) (by omega) (fun _ => rfl) (fun i hi => rfl) (fun i j _ _ e => by omega) z0 z1 v K
theorem cL26 {z : Int} (z0 : 0 ≤ z) (z1 : z < 16) (K : Int32 → Option α) : ldI (CH h A κ) (some (A.x + 26)) (iI z) K = K (iI (κ 58 (z.toNat))) := ldI_C (c := 26) (len := 16) (f := 58) (fun i => i) (by omega) (by omega) rfl z0 z1 K
theorem cS26 {z : Int} (z0 : 0 ≤ z) (z1 : z < 16) (v : Int) (K : Hp → Option α) : stI (CH h A κ) (some (A.x + 26)) (iI z) (iI v) K = K (CH h A (sg κ 58 (z.toNat) v)) := stI_C (c := 26) (len := 16) (f := 58) (fun i => i) (by omega) (by omega) (fun _ => rfl) (fun i hi => rfl) (fun i j _ _ e => by omega) z0 z1 v K
theorem cL27 {z : Int} (z0 : 0 ≤ z) (z1 : z < 16) (K : Int32 → Option α) : ldI (CH h A κ) (some (A.x + 27)) (iI z) K = K (iI (κ 59 (z.toNat))) := ldI_C (c := 27) (len := 16) (f := 59) (fun i => i) (by omega) (by omega) rfl z0 z1 K
theorem cS27 {z : Int} (z0 : 0 ≤ z) (z1 : z < 16) (v : Int) (K : Hp → Option α) : stI (CH h A κ) (some (A.x + 27)) (iI z) (iI v) K = K (CH h A (sg κ 59 (z.toNat) v)) := stI_C (c := 27) (len := 16) (f := 59) (fun i => i) (by omega) (by omega) (fun _ => rfl) (fun i hi => rfl) (fun i j _ _ e => by omega) z0 z1 v K
theorem cL28 {z : Int} (z0 : 0 ≤ z) (z1 : z < 16) (K : Int32 → Option α) : ldI (CH h A κ) (some (A.x + 28)) (iI z) K = K (iI (κ 60 (z.toNat))) := ldI_C (c := 28) (len := 16) (f := 60) (fun i => i) (by omega) (by omega) rfl z0 z1 K
theorem cS28 {z : Int} (z0 : 0 ≤ z) (z1 : z < 16) (v : Int) (K : Hp → Option α) : stI (CH h A κ) (some (A.x + 28)) (iI z) (iI v) K = K (CH h A (sg κ 60 (z.toNat) v)) := stI_C (c := 28) (len := 16) (f := 60) (fun i => i) (by omega) (by omega) (fun _ => rfl) (fun i hi => rfl) (fun i j _ _ e => by omega) z0 z1 v K
theorem cL29 {z : Int} (z0 : 0 ≤ z) (z1 : z < 256) (K : Int32 → Option α) : ldI (CH h A κ) (some (A.x + 29)) (iI z) K = K (iI (κ 61 (z.toNat))) := ldI_C (c := 29) (len := 256) (f := 61) (fun i => i) (by omega) (by omega) rfl z0 z1 K
theorem cS29 {z : Int} (z0 : 0 ≤ z) (z1 : z < 256) (v : Int) (K : Hp → Option α) : stI (CH h A κ) (some (A.x + 29)) (iI z) (iI v) K = K (CH h A (sg κ 61 (z.toNat) v)) := stI_C (c := 29) (len := 256) (f := 61) (fun i => i) (by omega) (by omega) (fun _ => rfl) (fun i hi => rfl) (fun i j _ _ e => by omega) z0 z1 v K
theorem cL30 {z : Int} (z0 : 0 ≤ z) (z1 : z < 16) (K : Int32 → Option α) : ldI (CH h A κ) (some (A.x + 30)) (iI z) K = K (iI (κ 62 (z.toNat))) := ldI_C (c := 30) (len := 16) (f := 62) (fun i => i) (by omega) (by omega) rfl z0 z1 K
theorem cS30 {z : Int} (z0 : 0 ≤ z) (z1 : z < 16) (v : Int) (K : Hp → Option α) : stI (CH h A κ) (some (A.x + 30)) (iI z) (iI v) K = K (CH h A (sg κ 62 (z.toNat) v)) := stI_C (c := 30) (len := 16) (f := 62) (fun i => i) (by omega) (by omega) (fun _ => rfl) (fun i hi => rfl) (fun i j _ _ e => by omega) z0 z1 v K
theorem cL31 {z : Int} (z0 : 0 ≤ z) (z1 : z < 16) (K : Int32 → Option α) : ldI (CH h A κ) (some (A.x + 31)) (iI z) K = K (iI (κ 63 (z.toNat))) := ldI_C (c := 31) (len := 16) (f := 63) (fun i => i) (by omega) (by omega) rfl z0 z1 K
theorem cS31 {z : Int} (z0 : 0 ≤ z) (z1 : z < 16) (v : Int) (K : Hp → Option α) : stI (CH h A κ) (some (A.x + 31)) (iI z) (iI v) K = K (CH h A (sg κ 63 (z.toNat) v)) := stI_C (c := 31) (len := 16) (f := 63) (fun i => i) (by omega) (by omega) (fun _ => rfl) (fun i hi => rfl) (fun i j _ _ e => by omega) z0 z1 v K
theorem obj_B {k : Nat} (hk : k < A.n) (K : Nat → (Nat → Int32) → (Nat → Option Nat) → Option α) : obj (CH h A κ) (some (A.b k)) 1 K = K (A.b k) (fun f => if f = 0 then iI k else if f ≤ 10 then iI (κ (9 + f) k) else 0) (fun f => if 11 ≤ f ∧ f ≤ 13 then some (A.b k + (f - 10)) else none) := by
  have := obj_C (h := h) (A := A) (κ := κ) (c := 32 + 4 * k + 0) (by omega) (cc_bid A κ k 0 (by omega)) K
  rw [ca_bid A k 0 (by omega)] at this
  exact this
theorem bV {k : Nat} (hk : k < A.n) (K : Nat → Option α) : rcv (CH h A κ) (some (A.b k)) 1 K = K (A.b k) := obj_B hk (fun a _ _ => K a)
theorem bK {k : Nat} (hk : k < A.n) (K : Option α) : ckc (CH h A κ) (some (A.b k)) 1 K = K := obj_B hk (fun _ _ _ => K)
theorem bI0 {k : Nat} (hk : k < A.n) (K : Int32 → Option α) : gI (CH h A κ) (some (A.b k)) 1 0 K = K (iI k) := obj_B hk (fun _ I _ => K (I 0))
theorem bI1 {k : Nat} (hk : k < A.n) (K : Int32 → Option α) : gI (CH h A κ) (some (A.b k)) 1 1 K = K (iI (κ 10 k)) := obj_B hk (fun _ I _ => K (I 1))
theorem bI2 {k : Nat} (hk : k < A.n) (K : Int32 → Option α) : gI (CH h A κ) (some (A.b k)) 1 2 K = K (iI (κ 11 k)) := obj_B hk (fun _ I _ => K (I 2))
theorem bI3 {k : Nat} (hk : k < A.n) (K : Int32 → Option α) : gI (CH h A κ) (some (A.b k)) 1 3 K = K (iI (κ 12 k)) := obj_B hk (fun _ I _ => K (I 3))
theorem bI4 {k : Nat} (hk : k < A.n) (K : Int32 → Option α) : gI (CH h A κ) (some (A.b k)) 1 4 K = K (iI (κ 13 k)) := obj_B hk (fun _ I _ => K (I 4))
theorem bI5 {k : Nat} (hk : k < A.n) (K : Int32 → Option α) : gI (CH h A κ) (some (A.b k)) 1 5 K = K (iI (κ 14 k)) := obj_B hk (fun _ I _ => K (I 5))
theorem bI6 {k : Nat} (hk : k < A.n) (K : Int32 → Option α) : gI (CH h A κ) (some (A.b k)) 1 6 K = K (iI (κ 15 k)) := obj_B hk (fun _ I _ => K (I 6))
theorem bI7 {k : Nat} (hk : k < A.n) (K : Int32 → Option α) : gI (CH h A κ) (some (A.b k)) 1 7 K = K (iI (κ 16 k)) := obj_B hk (fun _ I _ => K (I 7))
theorem bI8 {k : Nat} (hk : k < A.n) (K : Int32 → Option α) : gI (CH h A κ) (some (A.b k)) 1 8 K = K (iI (κ 17 k)) := obj_B hk (fun _ I _ => K (I 8))
theorem bI9 {k : Nat} (hk : k < A.n) (K : Int32 → Option α) : gI (CH h A κ) (some (A.b k)) 1 9 K = K (iI (κ 18 k)) := obj_B hk (fun _ I _ => K (I 9))
theorem bI10 {k : Nat} (hk : k < A.n) (K : Int32 → Option α) : gI (CH h A κ) (some (A.b k)) 1 10 K = K (iI (κ 19 k)) := obj_B hk (fun _ I _ => K (I 10))
theorem bR11 {k : Nat} (hk : k < A.n) (K : Option Nat → Option α) : gR (CH h A κ) (some (A.b k)) 1 11 K = K (some (A.b k + 1)) := obj_B hk (fun _ _ F => K (F 11))
theorem bR12 {k : Nat} (hk : k < A.n) (K : Option Nat → Option α) : gR (CH h A κ) (some (A.b k)) 1 12 K = K (some (A.b k + 2)) := obj_B hk (fun _ _ F => K (F 12))
theorem bR13 {k : Nat} (hk : k < A.n) (K : Option Nat → Option α) : gR (CH h A κ) (some (A.b k)) 1 13 K = K (some (A.b k + 3)) := obj_B hk (fun _ _ F => K (F 13))
theorem bP9 {k : Nat} (hk : k < A.n) (v : Int) (K : Hp → Option α) : pI (CH h A κ) (some (A.b k)) 1 9 (iI v) K = K (CH h A (sg κ 18 k v)) := by
  have := pI_C (h := h) (A := A) (κ := κ) (c := 32 + 4 * k + 0) (k := 9) (f := 18) (j := k) (I := fun κ f => if f = 0 then iI k else if f ≤ 10 then iI (κ (9 + f) k) else 0) (by omega) (fun κ => cc_bid A κ k 0 (by omega)) rfl v (by funext i; by_cases hi : i = 9; (subst hi; simp [upd, sg]); (have h2 : 9 + i ≠ 18 := by omega); simp [upd, sg, hi, h2]) K
  rw [ca_bid A k 0 (by omega)] at this
  exact this
theorem bP10 {k : Nat} (hk : k < A.n) (v : Int) (K : Hp → Option α) (hv : v = 0 ∨ v = 1) : pZ (CH h A κ) (some (A.b k)) 1 10 (iI v) K = K (CH h A (sg κ 19 k v)) := by
  have := pZ_C (h := h) (A := A) (κ := κ) (c := 32 + 4 * k + 0) (k := 10) (f := 19) (j := k) (I := fun κ f => if f = 0 then iI k else if f ≤ 10 then iI (κ (9 + f) k) else 0) (by omega) (fun κ => cc_bid A κ k 0 (by omega)) rfl v hv (by funext i; by_cases hi : i = 10; (subst hi; simp [upd, sg]); (have h2 : 9 + i ≠ 19 := by omega); simp [upd, sg, hi, h2]) K
  rw [ca_bid A k 0 (by omega)] at this
  exact this
theorem bL1 {k : Nat} (hk : k < A.n) {z : Int} (z0 : 0 ≤ z) (z1 : z < 8) (K : Int32 → Option α) : ldI (CH h A κ) (some (A.b k + 1)) (iI z) K = K (iI (lv κ k z)) := by
  have := ldI_C (h := h) (A := A) (κ := κ) (c := 32 + 4 * k + 1) (len := 8) (f := 20) (fun i => 8 * k + i) (by omega) (by omega) (cc_bid A κ k 1 (by omega)) z0 z1 K
  rw [ca_bid A k 1 (by omega)] at this
  rw [this, lv, show (8 * (k : Int) + z).toNat = 8 * k + z.toNat by omega]
theorem bS1 {k : Nat} (hk : k < A.n) {z : Int} (z0 : 0 ≤ z) (z1 : z < 8) (v : Int) (K : Hp → Option α) : stI (CH h A κ) (some (A.b k + 1)) (iI z) (iI v) K = K (CH h A (sg κ 20 (8 * (k : Int) + z).toNat v)) := by
  have := stI_C (h := h) (A := A) (κ := κ) (c := 32 + 4 * k + 1) (len := 8) (f := 20) (fun i => 8 * k + i) (by omega) (by omega) (fun κ => cc_bid A κ k 1 (by omega)) (fun i hi => by show 32 + 4 * ((8 * k + i) / 8) + 1 = _; omega) (fun i j _ _ e => by omega) z0 z1 v K
  rw [ca_bid A k 1 (by omega)] at this
  rw [this, show (8 * (k : Int) + z).toNat = 8 * k + z.toNat by omega]
theorem bL2 {k : Nat} (hk : k < A.n) {z : Int} (z0 : 0 ≤ z) (z1 : z < 8) (K : Int32 → Option α) : ldI (CH h A κ) (some (A.b k + 2)) (iI z) K = K (iI (cv κ k z)) := by
  have := ldI_C (h := h) (A := A) (κ := κ) (c := 32 + 4 * k + 2) (len := 8) (f := 41) (fun i => 8 * k + i) (by omega) (by omega) (cc_bid A κ k 2 (by omega)) z0 z1 K
  rw [ca_bid A k 2 (by omega)] at this
  rw [this, cv, show (8 * (k : Int) + z).toNat = 8 * k + z.toNat by omega]
theorem bS2 {k : Nat} (hk : k < A.n) {z : Int} (z0 : 0 ≤ z) (z1 : z < 8) (v : Int) (K : Hp → Option α) : stI (CH h A κ) (some (A.b k + 2)) (iI z) (iI v) K = K (CH h A (sg κ 41 (8 * (k : Int) + z).toNat v)) := by
  have := stI_C (h := h) (A := A) (κ := κ) (c := 32 + 4 * k + 2) (len := 8) (f := 41) (fun i => 8 * k + i) (by omega) (by omega) (fun κ => cc_bid A κ k 2 (by omega)) (fun i hi => by show 32 + 4 * ((8 * k + i) / 8) + 2 = _; omega) (fun i j _ _ e => by omega) z0 z1 v K
  rw [ca_bid A k 2 (by omega)] at this
  rw [this, show (8 * (k : Int) + z).toNat = 8 * k + z.toNat by omega]
theorem bL3 {k : Nat} (hk : k < A.n) {z : Int} (z0 : 0 ≤ z) (z1 : z < 8) (K : Int32 → Option α) : ldI (CH h A κ) (some (A.b k + 3)) (iI z) K = K (iI (dl κ k z)) := by
  have := ldI_C (h := h) (A := A) (κ := κ) (c := 32 + 4 * k + 3) (len := 8) (f := 21) (fun i => 8 * k + i) (by omega) (by omega) (cc_bid A κ k 3 (by omega)) z0 z1 K
  rw [ca_bid A k 3 (by omega)] at this
  rw [this, dl, show (8 * (k : Int) + z).toNat = 8 * k + z.toNat by omega]
theorem bS3 {k : Nat} (hk : k < A.n) {z : Int} (z0 : 0 ≤ z) (z1 : z < 8) (v : Int) (K : Hp → Option α) : stI (CH h A κ) (some (A.b k + 3)) (iI z) (iI v) K = K (CH h A (sg κ 21 (8 * (k : Int) + z).toNat v)) := by
  have := stI_C (h := h) (A := A) (κ := κ) (c := 32 + 4 * k + 3) (len := 8) (f := 21) (fun i => 8 * k + i) (by omega) (by omega) (fun κ => cc_bid A κ k 3 (by omega)) (fun i hi => by show 32 + 4 * ((8 * k + i) / 8) + 3 = _; omega) (fun i j _ _ e => by omega) z0 z1 v K
  rw [ca_bid A k 3 (by omega)] at this
  rw [this, show (8 * (k : Int) + z).toNat = 8 * k + z.toNat by omega]
end
