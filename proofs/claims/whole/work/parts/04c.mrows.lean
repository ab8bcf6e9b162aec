theorem iL2 : (2 : Int32) = iI 2 := by decide
theorem iL3 : (3 : Int32) = iI 3 := by decide
theorem iL4 : (4 : Int32) = iI 4 := by decide
theorem iL5 : (5 : Int32) = iI 5 := by decide
theorem iL6 : (6 : Int32) = iI 6 := by decide
theorem iL7 : (7 : Int32) = iI 7 := by decide
theorem iL8 : (8 : Int32) = iI 8 := by decide
theorem iL9 : (9 : Int32) = iI 9 := by decide
theorem iL10 : (10 : Int32) = iI 10 := by decide
theorem iL11 : (11 : Int32) = iI 11 := by decide
theorem iL12 : (12 : Int32) = iI 12 := by decide
theorem iL13 : (13 : Int32) = iI 13 := by decide
theorem iL14 : (14 : Int32) = iI 14 := by decide
theorem iL15 : (15 : Int32) = iI 15 := by decide
theorem iL16 : (16 : Int32) = iI 16 := by decide
theorem iL17 : (17 : Int32) = iI 17 := by decide
theorem iL30 : (30 : Int32) = iI 30 := by decide
theorem iL31 : (31 : Int32) = iI 31 := by decide
theorem iL60 : (60 : Int32) = iI 60 := by decide
theorem iL99 : (99 : Int32) = iI 99 := by decide
theorem iL100 : (100 : Int32) = iI 100 := by decide
theorem iL240 : (240 : Int32) = iI 240 := by decide
theorem iL480 : (480 : Int32) = iI 480 := by decide
theorem iL1000 : (1000 : Int32) = iI 1000 := by decide
theorem iL1920 : (1920 : Int32) = iI 1920 := by decide
theorem iL10000 : (10000 : Int32) = iI 10000 := by decide
section
variable {α : Type} {h : Hp} {m : Nat} {σ : Sg}
theorem mR0 (K : Int32 → Option α) : gI (MH h m σ) (some m) 9 0 K = K (iI (σ 0 0)) := gI_M rfl K
theorem mS0 (x : Int) (K : Hp → Option α) : pI (MH h m σ) (some m) 9 0 (iI x) K = K (MH h m (sg σ 0 0 x)) := pI_M rfl x K
theorem mR1 (K : Option Nat → Option α) : gR (MH h m σ) (some m) 9 1 K = K (some (m + mo 1)) := gR_M rfl K
theorem mL1 {z : Int} (z0 : 0 ≤ z) (z1 : z < 8) (K : Int32 → Option α) : ldZ (MH h m σ) (some (m + mo 1)) (iI z) K = K (iI (σ 1 z.toNat)) := ldZ_M (k := 1) rfl rfl z0 (show z < (mlen 1 : Int) from z1) K
theorem mS1 {z : Int} (z0 : 0 ≤ z) (z1 : z < 8) (x : Int) (K : Hp → Option α) (hx : x = 0 ∨ x = 1) : stZ (MH h m σ) (some (m + mo 1)) (iI z) (iI x) K = K (MH h m (sg σ 1 z.toNat x)) := stZ_M (k := 1) rfl rfl z0 (show z < (mlen 1 : Int) from z1) hx K
theorem mR2 (K : Option Nat → Option α) : gR (MH h m σ) (some m) 9 2 K = K (some (m + mo 2)) := gR_M rfl K
theorem mL2 {z : Int} (z0 : 0 ≤ z) (z1 : z < 16) (K : Int32 → Option α) : ldI (MH h m σ) (some (m + mo 2)) (iI z) K = K (iI (σ 2 z.toNat)) := ldI_M (k := 2) rfl rfl z0 (show z < (mlen 2 : Int) from z1) K
theorem mS2 {z : Int} (z0 : 0 ≤ z) (z1 : z < 16) (x : Int) (K : Hp → Option α) : stI (MH h m σ) (some (m + mo 2)) (iI z) (iI x) K = K (MH h m (sg σ 2 z.toNat x)) := stI_M (k := 2) rfl rfl z0 (show z < (mlen 2 : Int) from z1) x K
theorem mR3 (K : Option Nat → Option α) : gR (MH h m σ) (some m) 9 3 K = K (some (m + mo 3)) := gR_M rfl K
theorem mL3 {z : Int} (z0 : 0 ≤ z) (z1 : z < 8) (K : Int32 → Option α) : ldI (MH h m σ) (some (m + mo 3)) (iI z) K = K (iI (σ 3 z.toNat)) := ldI_M (k := 3) rfl rfl z0 (show z < (mlen 3 : Int) from z1) K
theorem mS3 {z : Int} (z0 : 0 ≤ z) (z1 : z < 8) (x : Int) (K : Hp → Option α) : stI (MH h m σ) (some (m + mo 3)) (iI z) (iI x) K = K (MH h m (sg σ 3 z.toNat x)) := stI_M (k := 3) rfl rfl z0 (show z < (mlen 3 : Int) from z1) x K
theorem mR4 (K : Int32 → Option α) : gI (MH h m σ) (some m) 9 4 K = K (iI (σ 4 0)) := gI_M rfl K
theorem mS4 (x : Int) (K : Hp → Option α) : pI (MH h m σ) (some m) 9 4 (iI x) K = K (MH h m (sg σ 4 0 x)) := pI_M rfl x K
theorem mR5 (K : Int32 → Option α) : gI (MH h m σ) (some m) 9 5 K = K (iI (σ 5 0)) := gI_M rfl K
theorem mS5 (x : Int) (K : Hp → Option α) : pI (MH h m σ) (some m) 9 5 (iI x) K = K (MH h m (sg σ 5 0 x)) := pI_M rfl x K
theorem mR6 (K : Option Nat → Option α) : gR (MH h m σ) (some m) 9 6 K = K (some (m + mo 6)) := gR_M rfl K
theorem mL6 {z : Int} (z0 : 0 ≤ z) (z1 : z < 10) (K : Int32 → Option α) : ldI (MH h m σ) (some (m + mo 6)) (iI z) K = K (iI (σ 6 z.toNat)) := ldI_M (k := 6) rfl rfl z0 (show z < (mlen 6 : Int) from z1) K
theorem mS6 {z : Int} (z0 : 0 ≤ z) (z1 : z < 10) (x : Int) (K : Hp → Option α) : stI (MH h m σ) (some (m + mo 6)) (iI z) (iI x) K = K (MH h m (sg σ 6 z.toNat x)) := stI_M (k := 6) rfl rfl z0 (show z < (mlen 6 : Int) from z1) x K
theorem mR7 (K : Option Nat → Option α) : gR (MH h m σ) (some m) 9 7 K = K (some (m + mo 7)) := gR_M rfl K
theorem mL7 {z : Int} (z0 : 0 ≤ z) (z1 : z < 10) (K : Int32 → Option α) : ldI (MH h m σ) (some (m + mo 7)) (iI z) K = K (iI (σ 7 z.toNat)) := ldI_M (k := 7) rfl rfl z0 (show z < (mlen 7 : Int) from z1) K
theorem mS7 {z : Int} (z0 : 0 ≤ z) (z1 : z < 10) (x : Int) (K : Hp → Option α) : stI (MH h m σ) (some (m + mo 7)) (iI z) (iI x) K = K (MH h m (sg σ 7 z.toNat x)) := stI_M (k := 7) rfl rfl z0 (show z < (mlen 7 : Int) from z1) x K
theorem mR8 (K : Option Nat → Option α) : gR (MH h m σ) (some m) 9 8 K = K (some (m + mo 8)) := gR_M rfl K
theorem mL8 {z : Int} (z0 : 0 ≤ z) (z1 : z < 10) (K : Int32 → Option α) : ldI (MH h m σ) (some (m + mo 8)) (iI z) K = K (iI (σ 8 z.toNat)) := ldI_M (k := 8) rfl rfl z0 (show z < (mlen 8 : Int) from z1) K
theorem mS8 {z : Int} (z0 : 0 ≤ z) (z1 : z < 10) (x : Int) (K : Hp → Option α) : stI (MH h m σ) (some (m + mo 8)) (iI z) (iI x) K = K (MH h m (sg σ 8 z.toNat x)) := stI_M (k := 8) rfl rfl z0 (show z < (mlen 8 : Int) from z1) x K
theorem mR9 (K : Int32 → Option α) : gI (MH h m σ) (some m) 9 9 K = K (iI (σ 9 0)) := gI_M rfl K
theorem mS9 (x : Int) (K : Hp → Option α) : pI (MH h m σ) (some m) 9 9 (iI x) K = K (MH h m (sg σ 9 0 x)) := pI_M rfl x K
theorem mR10 (K : Option Nat → Option α) : gR (MH h m σ) (some m) 9 10 K = K (some (m + mo 10)) := gR_M rfl K
theorem mL10 {z : Int} (z0 : 0 ≤ z) (z1 : z < 16) (K : Int32 → Option α) : ldI (MH h m σ) (some (m + mo 10)) (iI z) K = K (iI (σ 10 z.toNat)) := ldI_M (k := 10) rfl rfl z0 (show z < (mlen 10 : Int) from z1) K
theorem mS10 {z : Int} (z0 : 0 ≤ z) (z1 : z < 16) (x : Int) (K : Hp → Option α) : stI (MH h m σ) (some (m + mo 10)) (iI z) (iI x) K = K (MH h m (sg σ 10 z.toNat x)) := stI_M (k := 10) rfl rfl z0 (show z < (mlen 10 : Int) from z1) x K
theorem mR11 (K : Option Nat → Option α) : gR (MH h m σ) (some m) 9 11 K = K (some (m + mo 11)) := gR_M rfl K
theorem mL11 {z : Int} (z0 : 0 ≤ z) (z1 : z < 16) (K : Int32 → Option α) : ldI (MH h m σ) (some (m + mo 11)) (iI z) K = K (iI (σ 11 z.toNat)) := ldI_M (k := 11) rfl rfl z0 (show z < (mlen 11 : Int) from z1) K
theorem mS11 {z : Int} (z0 : 0 ≤ z) (z1 : z < 16) (x : Int) (K : Hp → Option α) : stI (MH h m σ) (some (m + mo 11)) (iI z) (iI x) K = K (MH h m (sg σ 11 z.toNat x)) := stI_M (k := 11) rfl rfl z0 (show z < (mlen 11 : Int) from z1) x K
theorem mR12 (K : Option Nat → Option α) : gR (MH h m σ) (some m) 9 12 K = K (some (m + mo 12)) := gR_M rfl K
theorem mL12 {z : Int} (z0 : 0 ≤ z) (z1 : z < 16) (K : Int32 → Option α) : ldI (MH h m σ) (some (m + mo 12)) (iI z) K = K (iI (σ 12 z.toNat)) := ldI_M (k := 12) rfl rfl z0 (show z < (mlen 12 : Int) from z1) K
theorem mS12 {z : Int} (z0 : 0 ≤ z) (z1 : z < 16) (x : Int) (K : Hp → Option α) : stI (MH h m σ) (some (m + mo 12)) (iI z) (iI x) K = K (MH h m (sg σ 12 z.toNat x)) := stI_M (k := 12) rfl rfl z0 (show z < (mlen 12 : Int) from z1) x K
theorem mR13 (K : Option Nat → Option α) : gR (MH h m σ) (some m) 9 13 K = K (some (m + mo 13)) := gR_M rfl K
theorem mL13 {z : Int} (z0 : 0 ≤ z) (z1 : z < 16) (K : Int32 → Option α) : ldI (MH h m σ) (some (m + mo 13)) (iI z) K = K (iI (σ 13 z.toNat)) := ldI_M (k := 13) rfl rfl z0 (show z < (mlen 13 : Int) from z1) K
theorem mS13 {z : Int} (z0 : 0 ≤ z) (z1 : z < 16) (x : Int) (K : Hp → Option α) : stI (MH h m σ) (some (m + mo 13)) (iI z) (iI x) K = K (MH h m (sg σ 13 z.toNat x)) := stI_M (k := 13) rfl rfl z0 (show z < (mlen 13 : Int) from z1) x K
theorem mR14 (K : Option Nat → Option α) : gR (MH h m σ) (some m) 9 14 K = K (some (m + mo 14)) := gR_M rfl K
theorem mL14 {z : Int} (z0 : 0 ≤ z) (z1 : z < 16) (K : Int32 → Option α) : ldI (MH h m σ) (some (m + mo 14)) (iI z) K = K (iI (σ 14 z.toNat)) := ldI_M (k := 14) rfl rfl z0 (show z < (mlen 14 : Int) from z1) K
theorem mS14 {z : Int} (z0 : 0 ≤ z) (z1 : z < 16) (x : Int) (K : Hp → Option α) : stI (MH h m σ) (some (m + mo 14)) (iI z) (iI x) K = K (MH h m (sg σ 14 z.toNat x)) := stI_M (k := 14) rfl rfl z0 (show z < (mlen 14 : Int) from z1) x K
theorem mR15 (K : Option Nat → Option α) : gR (MH h m σ) (some m) 9 15 K = K (some (m + mo 15)) := gR_M rfl K
theorem mL15 {z : Int} (z0 : 0 ≤ z) (z1 : z < 16) (K : Int32 → Option α) : ldI (MH h m σ) (some (m + mo 15)) (iI z) K = K (iI (σ 15 z.toNat)) := ldI_M (k := 15) rfl rfl z0 (show z < (mlen 15 : Int) from z1) K
theorem mS15 {z : Int} (z0 : 0 ≤ z) (z1 : z < 16) (x : Int) (K : Hp → Option α) : stI (MH h m σ) (some (m + mo 15)) (iI z) (iI x) K = K (MH h m (sg σ 15 z.toNat x)) := stI_M (k := 15) rfl rfl z0 (show z < (mlen 15 : Int) from z1) x K
theorem mR16 (K : Option Nat → Option α) : gR (MH h m σ) (some m) 9 16 K = K (some (m + mo 16)) := gR_M rfl K
theorem mL16 {z : Int} (z0 : 0 ≤ z) (z1 : z < 16) (K : Int32 → Option α) : ldI (MH h m σ) (some (m + mo 16)) (iI z) K = K (iI (σ 16 z.toNat)) := ldI_M (k := 16) rfl rfl z0 (show z < (mlen 16 : Int) from z1) K
theorem mS16 {z : Int} (z0 : 0 ≤ z) (z1 : z < 16) (x : Int) (K : Hp → Option α) : stI (MH h m σ) (some (m + mo 16)) (iI z) (iI x) K = K (MH h m (sg σ 16 z.toNat x)) := stI_M (k := 16) rfl rfl z0 (show z < (mlen 16 : Int) from z1) x K
theorem mR17 (K : Option Nat → Option α) : gR (MH h m σ) (some m) 9 17 K = K (some (m + mo 17)) := gR_M rfl K
theorem mL17 {z : Int} (z0 : 0 ≤ z) (z1 : z < 16) (K : Int32 → Option α) : ldI (MH h m σ) (some (m + mo 17)) (iI z) K = K (iI (σ 17 z.toNat)) := ldI_M (k := 17) rfl rfl z0 (show z < (mlen 17 : Int) from z1) K
theorem mS17 {z : Int} (z0 : 0 ≤ z) (z1 : z < 16) (x : Int) (K : Hp → Option α) : stI (MH h m σ) (some (m + mo 17)) (iI z) (iI x) K = K (MH h m (sg σ 17 z.toNat x)) := stI_M (k := 17) rfl rfl z0 (show z < (mlen 17 : Int) from z1) x K
theorem mR18 (K : Option Nat → Option α) : gR (MH h m σ) (some m) 9 18 K = K (some (m + mo 18)) := gR_M rfl K
theorem mL18 {z : Int} (z0 : 0 ≤ z) (z1 : z < 16) (K : Int32 → Option α) : ldI (MH h m σ) (some (m + mo 18)) (iI z) K = K (iI (σ 18 z.toNat)) := ldI_M (k := 18) rfl rfl z0 (show z < (mlen 18 : Int) from z1) K
theorem mS18 {z : Int} (z0 : 0 ≤ z) (z1 : z < 16) (x : Int) (K : Hp → Option α) : stI (MH h m σ) (some (m + mo 18)) (iI z) (iI x) K = K (MH h m (sg σ 18 z.toNat x)) := stI_M (k := 18) rfl rfl z0 (show z < (mlen 18 : Int) from z1) x K
theorem mR19 (K : Option Nat → Option α) : gR (MH h m σ) (some m) 9 19 K = K (some (m + mo 19)) := gR_M rfl K
theorem mL19 {z : Int} (z0 : 0 ≤ z) (z1 : z < 16) (K : Int32 → Option α) : ldZ (MH h m σ) (some (m + mo 19)) (iI z) K = K (iI (σ 19 z.toNat)) := ldZ_M (k := 19) rfl rfl z0 (show z < (mlen 19 : Int) from z1) K
theorem mS19 {z : Int} (z0 : 0 ≤ z) (z1 : z < 16) (x : Int) (K : Hp → Option α) (hx : x = 0 ∨ x = 1) : stZ (MH h m σ) (some (m + mo 19)) (iI z) (iI x) K = K (MH h m (sg σ 19 z.toNat x)) := stZ_M (k := 19) rfl rfl z0 (show z < (mlen 19 : Int) from z1) hx K
theorem mR20 (K : Option Nat → Option α) : gR (MH h m σ) (some m) 9 20 K = K (some (m + mo 20)) := gR_M rfl K
theorem mL20 {z : Int} (z0 : 0 ≤ z) (z1 : z < 128) (K : Int32 → Option α) : ldI (MH h m σ) (some (m + mo 20)) (iI z) K = K (iI (σ 20 z.toNat)) := ldI_M (k := 20) rfl rfl z0 (show z < (mlen 20 : Int) from z1) K
theorem mS20 {z : Int} (z0 : 0 ≤ z) (z1 : z < 128) (x : Int) (K : Hp → Option α) : stI (MH h m σ) (some (m + mo 20)) (iI z) (iI x) K = K (MH h m (sg σ 20 z.toNat x)) := stI_M (k := 20) rfl rfl z0 (show z < (mlen 20 : Int) from z1) x K
theorem mR21 (K : Option Nat → Option α) : gR (MH h m σ) (some m) 9 21 K = K (some (m + mo 21)) := gR_M rfl K
theorem mL21 {z : Int} (z0 : 0 ≤ z) (z1 : z < 128) (K : Int32 → Option α) : ldI (MH h m σ) (some (m + mo 21)) (iI z) K = K (iI (σ 21 z.toNat)) := ldI_M (k := 21) rfl rfl z0 (show z < (mlen 21 : Int) from z1) K
theorem mS21 {z : Int} (z0 : 0 ≤ z) (z1 : z < 128) (x : Int) (K : Hp → Option α) : stI (MH h m σ) (some (m + mo 21)) (iI z) (iI x) K = K (MH h m (sg σ 21 z.toNat x)) := stI_M (k := 21) rfl rfl z0 (show z < (mlen 21 : Int) from z1) x K
theorem mR22 (K : Option Nat → Option α) : gR (MH h m σ) (some m) 9 22 K = K (some (m + mo 22)) := gR_M rfl K
theorem mL22 {z : Int} (z0 : 0 ≤ z) (z1 : z < 1920) (K : Int32 → Option α) : ldZ (MH h m σ) (some (m + mo 22)) (iI z) K = K (iI (σ 22 z.toNat)) := ldZ_M (k := 22) rfl rfl z0 (show z < (mlen 22 : Int) from z1) K
theorem mS22 {z : Int} (z0 : 0 ≤ z) (z1 : z < 1920) (x : Int) (K : Hp → Option α) (hx : x = 0 ∨ x = 1) : stZ (MH h m σ) (some (m + mo 22)) (iI z) (iI x) K = K (MH h m (sg σ 22 z.toNat x)) := stZ_M (k := 22) rfl rfl z0 (show z < (mlen 22 : Int) from z1) hx K
theorem mR23 (K : Option Nat → Option α) : gR (MH h m σ) (some m) 9 23 K = K (some (m + mo 23)) := gR_M rfl K
theorem mL23 {z : Int} (z0 : 0 ≤ z) (z1 : z < 8) (K : Int32 → Option α) : ldI (MH h m σ) (some (m + mo 23)) (iI z) K = K (iI (σ 23 z.toNat)) := ldI_M (k := 23) rfl rfl z0 (show z < (mlen 23 : Int) from z1) K
theorem mS23 {z : Int} (z0 : 0 ≤ z) (z1 : z < 8) (x : Int) (K : Hp → Option α) : stI (MH h m σ) (some (m + mo 23)) (iI z) (iI x) K = K (MH h m (sg σ 23 z.toNat x)) := stI_M (k := 23) rfl rfl z0 (show z < (mlen 23 : Int) from z1) x K
theorem mR24 (K : Option Nat → Option α) : gR (MH h m σ) (some m) 9 24 K = K (some (m + mo 24)) := gR_M rfl K
theorem mL24 {z : Int} (z0 : 0 ≤ z) (z1 : z < 16) (K : Int32 → Option α) : ldI (MH h m σ) (some (m + mo 24)) (iI z) K = K (iI (σ 24 z.toNat)) := ldI_M (k := 24) rfl rfl z0 (show z < (mlen 24 : Int) from z1) K
theorem mS24 {z : Int} (z0 : 0 ≤ z) (z1 : z < 16) (x : Int) (K : Hp → Option α) : stI (MH h m σ) (some (m + mo 24)) (iI z) (iI x) K = K (MH h m (sg σ 24 z.toNat x)) := stI_M (k := 24) rfl rfl z0 (show z < (mlen 24 : Int) from z1) x K
theorem mR25 (K : Option Nat → Option α) : gR (MH h m σ) (some m) 9 25 K = K (some (m + mo 25)) := gR_M rfl K
theorem mL25 {z : Int} (z0 : 0 ≤ z) (z1 : z < 16) (K : Int32 → Option α) : ldZ (MH h m σ) (some (m + mo 25)) (iI z) K = K (iI (σ 25 z.toNat)) := ldZ_M (k := 25) rfl rfl z0 (show z < (mlen 25 : Int) from z1) K
theorem mS25 {z : Int} (z0 : 0 ≤ z) (z1 : z < 16) (x : Int) (K : Hp → Option α) (hx : x = 0 ∨ x = 1) : stZ (MH h m σ) (some (m + mo 25)) (iI z) (iI x) K = K (MH h m (sg σ 25 z.toNat x)) := stZ_M (k := 25) rfl rfl z0 (show z < (mlen 25 : Int) from z1) hx K
theorem mR26 (K : Option Nat → Option α) : gR (MH h m σ) (some m) 9 26 K = K (some (m + mo 26)) := gR_M rfl K
theorem mL26 {z : Int} (z0 : 0 ≤ z) (z1 : z < 16) (K : Int32 → Option α) : ldI (MH h m σ) (some (m + mo 26)) (iI z) K = K (iI (σ 26 z.toNat)) := ldI_M (k := 26) rfl rfl z0 (show z < (mlen 26 : Int) from z1) K
theorem mS26 {z : Int} (z0 : 0 ≤ z) (z1 : z < 16) (x : Int) (K : Hp → Option α) : stI (MH h m σ) (some (m + mo 26)) (iI z) (iI x) K = K (MH h m (sg σ 26 z.toNat x)) := stI_M (k := 26) rfl rfl z0 (show z < (mlen 26 : Int) from z1) x K
theorem mR27 (K : Option Nat → Option α) : gR (MH h m σ) (some m) 9 27 K = K (some (m + mo 27)) := gR_M rfl K
theorem mL27 {z : Int} (z0 : 0 ≤ z) (z1 : z < 16) (K : Int32 → Option α) : ldI (MH h m σ) (some (m + mo 27)) (iI z) K = K (iI (σ 27 z.toNat)) := ldI_M (k := 27) rfl rfl z0 (show z < (mlen 27 : Int) from z1) K
theorem mS27 {z : Int} (z0 : 0 ≤ z) (z1 : z < 16) (x : Int) (K : Hp → Option α) : stI (MH h m σ) (some (m + mo 27)) (iI z) (iI x) K = K (MH h m (sg σ 27 z.toNat x)) := stI_M (k := 27) rfl rfl z0 (show z < (mlen 27 : Int) from z1) x K
theorem mR28 (K : Option Nat → Option α) : gR (MH h m σ) (some m) 9 28 K = K (some (m + mo 28)) := gR_M rfl K
theorem mL28 {z : Int} (z0 : 0 ≤ z) (z1 : z < 16) (K : Int32 → Option α) : ldI (MH h m σ) (some (m + mo 28)) (iI z) K = K (iI (σ 28 z.toNat)) := ldI_M (k := 28) rfl rfl z0 (show z < (mlen 28 : Int) from z1) K
theorem mS28 {z : Int} (z0 : 0 ≤ z) (z1 : z < 16) (x : Int) (K : Hp → Option α) : stI (MH h m σ) (some (m + mo 28)) (iI z) (iI x) K = K (MH h m (sg σ 28 z.toNat x)) := stI_M (k := 28) rfl rfl z0 (show z < (mlen 28 : Int) from z1) x K
theorem mR29 (K : Option Nat → Option α) : gR (MH h m σ) (some m) 9 29 K = K (some (m + mo 29)) := gR_M rfl K
theorem mL29 {z : Int} (z0 : 0 ≤ z) (z1 : z < 128) (K : Int32 → Option α) : ldI (MH h m σ) (some (m + mo 29)) (iI z) K = K (iI (σ 29 z.toNat)) := ldI_M (k := 29) rfl rfl z0 (show z < (mlen 29 : Int) from z1) K
theorem mS29 {z : Int} (z0 : 0 ≤ z) (z1 : z < 128) (x : Int) (K : Hp → Option α) : stI (MH h m σ) (some (m + mo 29)) (iI z) (iI x) K = K (MH h m (sg σ 29 z.toNat x)) := stI_M (k := 29) rfl rfl z0 (show z < (mlen 29 : Int) from z1) x K
theorem mR30 (K : Option Nat → Option α) : gR (MH h m σ) (some m) 9 30 K = K (some (m + mo 30)) := gR_M rfl K
theorem mL30 {z : Int} (z0 : 0 ≤ z) (z1 : z < 128) (K : Int32 → Option α) : ldI (MH h m σ) (some (m + mo 30)) (iI z) K = K (iI (σ 30 z.toNat)) := ldI_M (k := 30) rfl rfl z0 (show z < (mlen 30 : Int) from z1) K
theorem mS30 {z : Int} (z0 : 0 ≤ z) (z1 : z < 128) (x : Int) (K : Hp → Option α) : stI (MH h m σ) (some (m + mo 30)) (iI z) (iI x) K = K (MH h m (sg σ 30 z.toNat x)) := stI_M (k := 30) rfl rfl z0 (show z < (mlen 30 : Int) from z1) x K
theorem mR31 (K : Option Nat → Option α) : gR (MH h m σ) (some m) 9 31 K = K (some (m + mo 31)) := gR_M rfl K
theorem mL31 {z : Int} (z0 : 0 ≤ z) (z1 : z < 16) (K : Int32 → Option α) : ldI (MH h m σ) (some (m + mo 31)) (iI z) K = K (iI (σ 31 z.toNat)) := ldI_M (k := 31) rfl rfl z0 (show z < (mlen 31 : Int) from z1) K
theorem mS31 {z : Int} (z0 : 0 ≤ z) (z1 : z < 16) (x : Int) (K : Hp → Option α) : stI (MH h m σ) (some (m + mo 31)) (iI z) (iI x) K = K (MH h m (sg σ 31 z.toNat x)) := stI_M (k := 31) rfl rfl z0 (show z < (mlen 31 : Int) from z1) x K
theorem mR32 (K : Option Nat → Option α) : gR (MH h m σ) (some m) 9 32 K = K (some (m + mo 32)) := gR_M rfl K
theorem mL32 {z : Int} (z0 : 0 ≤ z) (z1 : z < 16) (K : Int32 → Option α) : ldI (MH h m σ) (some (m + mo 32)) (iI z) K = K (iI (σ 32 z.toNat)) := ldI_M (k := 32) rfl rfl z0 (show z < (mlen 32 : Int) from z1) K
theorem mS32 {z : Int} (z0 : 0 ≤ z) (z1 : z < 16) (x : Int) (K : Hp → Option α) : stI (MH h m σ) (some (m + mo 32)) (iI z) (iI x) K = K (MH h m (sg σ 32 z.toNat x)) := stI_M (k := 32) rfl rfl z0 (show z < (mlen 32 : Int) from z1) x K
theorem mR33 (K : Option Nat → Option α) : gR (MH h m σ) (some m) 9 33 K = K (some (m + mo 33)) := gR_M rfl K
theorem mL33 {z : Int} (z0 : 0 ≤ z) (z1 : z < 256) (K : Int32 → Option α) : ldI (MH h m σ) (some (m + mo 33)) (iI z) K = K (iI (σ 33 z.toNat)) := ldI_M (k := 33) rfl rfl z0 (show z < (mlen 33 : Int) from z1) K
theorem mS33 {z : Int} (z0 : 0 ≤ z) (z1 : z < 256) (x : Int) (K : Hp → Option α) : stI (MH h m σ) (some (m + mo 33)) (iI z) (iI x) K = K (MH h m (sg σ 33 z.toNat x)) := stI_M (k := 33) rfl rfl z0 (show z < (mlen 33 : Int) from z1) x K
end
