def toO (ρ : Sg) (n b : Nat) : Int := sumI (fun l => ρ 33 (16 * b + l)) n
def ranS (σ : Sg) (b : Nat) (w : Int) : Int := if (RUN σ) 28 b = -1 then -1 else if w = 0 then (RUN σ) 28 b else if w = 1 then (RUN σ) 28 b - lv σ b (lgs σ b) else if w = 2 then (RUN σ) 31 b else if w = 3 then (RUN σ) 32 b else if w = 4 then toO (RUN σ) (σ 9 0).toNat b else (RUN σ) 31 b + (RUN σ) 32 b + toO (RUN σ) (σ 9 0).toNat b - ((RUN σ) 28 b - lv σ b (lgs σ b))
theorem sumI_congr {f g : Nat → Int} : ∀ {n : Nat}, (∀ j, j < n → f j = g j) → sumI f n = sumI g n
  | 0, _ => rfl
  | n + 1, h => by
    unfold sumI
    rw [sumI_congr (fun j hj => h j (by omega)), h n (by omega)]
theorem RUN_RW {σ : Sg} (hw : WF σ) : RW σ (RUN σ) := by
  have h9 := hw.2.2.2.1
  exact rrun_ok hw (n := (σ 9 0).toNat) (by omega) (fun k hk => ordF_lt _ _ k hk) 480 (by omega)
section
variable {h : Hp} {m : Nat} {σ : Sg}
theorem s_ran (hw : WB σ) (b w : Int) (hb : I32 b) (hww : I32 w) : ∃ τ, cor τ = cor σ ∧ f_X8_ran m (iI b) (iI w) (MH h m σ) = some (iI (if (0 ≤ b ∧ b < σ 9 0) ∧ σ 19 b.toNat ≠ 0 ∧ (0 ≤ w ∧ w ≤ 5) then ranS σ b.toNat w else -1), MH h m τ) := by
  unfold I32 at hb hww
  have h9 := hw.1.2.2.2.1
  unfold f_X8_ran f_X8_ran_26
  rw [rcv_M, s_isBid hw.1 b hb, bd_s]
  by_cases c1 : 0 ≤ b ∧ b < σ 9 0
  · rw [if_neg (by rw [iI_0, iI_b2]; exact fun z => z c1)]
    obtain ⟨B, rfl⟩ : ∃ B : Nat, b = B := ⟨b.toNat, by omega⟩
    have hB : B < 16 := by omega
    have hg := (hw.1.bid hB).2.2.2.2.2.2.2.2.2
    rw [mR19, mL19 (by omega) (by omega), Int.toNat_natCast, iI_0, jeq (by omega) (by omega) (by omega) (by omega)]
    by_cases c2 : σ 19 B = 0
    · rw [if_pos c2]
      exact ⟨σ, rfl, by rw [if_neg (fun z => z.2.1 c2)]; rfl⟩
    · rw [if_neg c2, iL5, s_in w 0 5 _ (by omega) (by omega) (by omega), bd_s]
      by_cases c3 : 0 ≤ w ∧ w ≤ 5
      · rw [if_neg (by rw [iI_b2]; exact fun z => z c3), if_pos ⟨c1, c2, c3⟩, rcv_M]
        obtain ⟨n, hn⟩ : ∃ n : Nat, (n : Int) = σ 9 0 := ⟨(σ 9 0).toNat, by omega⟩
        obtain ⟨τ, t1, t2, t3⟩ := s_runs (h := h) (m := m) hw n hn
        have hwt : WB τ := WB_eq t1 hw
        have e9 : τ 9 0 = σ 9 0 := cor_eq t1 (by omega) 0
        have hlg := lgs_rng hwt.1 hB
        have hlt : lgs τ B = lgs σ B := by
          have hh : ∀ σ : Sg, lgs σ B = lgs (cor σ) B := fun _ => rfl
          rw [hh τ, t1, ← hh σ]
        have hlv : lv τ B (lgs τ B) = lv σ B (lgs σ B) := by
          have hh : ∀ σ : Sg, lv σ B (lgs σ B) = lv (cor σ) B (lgs (cor σ) B) := fun _ => rfl
          rw [hh τ, t1, ← hh σ]
        obtain ⟨r1, r2, r3, r4, r5, r6, r7⟩ := t2 B (by omega)
        obtain ⟨-, -, w3, -⟩ := RUN_RW hw.1 B (by omega)
        have hlvr := lv_rng hwt.1 hB (i := lgs τ B) (by omega) (by omega)
        refine ⟨τ, t1, ?_⟩
        unfold ranS
        rw [t3, bd_s, mR28, mL28 (by omega) (by omega), Int.toNat_natCast, r3, iI_m1, jeq (by omega) (by omega) (by omega) (by omega)]
        by_cases c4 : RUN σ 28 B = -1
        · rw [if_pos c4, if_pos c4]
          rfl
        · rw [if_neg c4, if_neg c4, mR28, mL28 (by omega) (by omega), Int.toNat_natCast, mR20, rcv_M, s_legs hwt.1 B hB, bd_s, iL8, iI_mul, iI_add, mL20 (by omega) (by omega), r3, iI_sub, show τ 20 (8 * (B : Int) + lgs τ B).toNat = lv τ B (lgs τ B) from rfl, hlv]
          generalize hL : RUN σ 28 B - lv σ B (lgs σ B) = L
          unfold f_X8_ran_73
          refine (lp_count (B := fun k2 u => fb_X8_ran_73 k2 u.1 u.2.1 u.2.2.1 u.2.2.2.1 u.2.2.2.2.1 u.2.2.2.2.2.1 u.2.2.2.2.2.2) (fun (l : Nat) => (some m, iI (B : Int), iI w, iI L, iI (sumI (fun l => RUN σ 33 (16 * B + l)) l), iI (l : Int), MH h m τ)) n _ (fun l hl k => ?_) (fun k => ?_) n 0 FU (by omega) (by rw [FU_eq]; omega))
          · show fb_X8_ran_73 k (some m) (iI (B : Int)) (iI w) (iI L) (iI (sumI (fun l => RUN σ 33 (16 * B + l)) l)) (iI (l : Int)) (MH h m τ) = k (some m, iI (B : Int), iI w, iI L, iI (sumI (fun l => RUN σ 33 (16 * B + l)) l + RUN σ 33 (16 * B + l)), iI ((l : Int) + 1), MH h m τ)
            unfold fb_X8_ran_73
            rw [mR9, jle (by omega) (by omega) (by omega) (by omega), if_neg (by omega), mR33, iL16, iI_mul, iI_add, mL33 (by omega) (by omega), show (16 * (B : Int) + (l : Int)).toNat = 16 * B + l by omega, r7 l hl, iI_1, iI_add, iI_add]
          · show fb_X8_ran_73 k (some m) (iI (B : Int)) (iI w) (iI L) (iI (sumI (fun l => RUN σ 33 (16 * B + l)) n)) (iI (n : Int)) (MH h m τ) = _
            unfold fb_X8_ran_73
            rw [show toO (RUN σ) (σ 9 0).toNat B = sumI (fun l => RUN σ 33 (16 * B + l)) n by rw [← hn]; rfl]
            simp (disch := omega) only [rcv_M, mR0, mS0, mR1, mL1, mS1, mR2, mL2, mS2, mR3, mL3, mS3, mR4, mS4, mR5, mS5, mR6, mL6, mS6, mR7, mL7, mS7, mR8, mL8, mS8, mR9, mS9, mR10, mL10, mS10, mR11, mL11, mS11, mR12, mL12, mS12, mR13, mL13, mS13, mR14, mL14, mS14, mR15, mL15, mS15, mR16, mL16, mS16, mR17, mL17, mS17, mR18, mL18, mS18, mR19, mL19, mS19, mR20, mL20, mS20, mR21, mL21, mS21, mR22, mL22, mS22, mR23, mL23, mS23, mR24, mL24, mS24, mR25, mL25, mS25, mR26, mL26, mS26, mR27, mL27, mS27, mR28, mL28, mS28, mR29, mL29, mS29, mR30, mL30, mS30, mR31, mL31, mS31, mR32, mL32, mS32, mR33, mL33, mS33, iI_0, iI_1, iI_neg, iL2, iL3, iL4, iL5, iL6, iL7, iL8, iL9, iL10, iL11, iL12, iL13, iL14, iL15, iL16, iL17, iL30, iL31, iL60, iL99, iL100, iL240, iL480, iL1000, iL1920, iL10000, iI_add, iI_sub, iI_mul, iI_div, iI_le, iI_lt, iI_eq, bd_s, Int.toNat_natCast, r3, r4, r5]
            rw [if_pos (by omega)]
            by_cases w0 : w = 0
            · rw [if_pos w0, if_pos w0]; rfl
            rw [if_neg w0, if_neg w0]
            by_cases w0 : w = 1
            · rw [if_pos w0, if_pos w0]; rfl
            rw [if_neg w0, if_neg w0]
            by_cases w0 : w = 2
            · rw [if_pos w0, if_pos w0]; rfl
            rw [if_neg w0, if_neg w0]
            by_cases w0 : w = 3
            · rw [if_pos w0, if_pos w0]; rfl
            rw [if_neg w0, if_neg w0]
            by_cases w0 : w = 4
            · rw [if_pos w0, if_pos w0]; rfl
            rw [if_neg w0, if_neg w0]
            rfl
      · rw [if_pos (by rw [iI_b2]; exact c3)]
        exact ⟨σ, rfl, by rw [if_neg (fun z => c3 z.2.2)]; rfl⟩
  · rw [if_pos (by rw [iI_0, iI_b2]; exact c1)]
    exact ⟨σ, rfl, by rw [if_neg (fun z => c1 z.1)]; rfl⟩
theorem s_blame (hw : WB σ) (a b : Int) (ha : I32 a) (hb : I32 b) : ∃ τ, cor τ = cor σ ∧ f_X8_blame m (iI a) (iI b) (MH h m σ) = some (iI (if (0 ≤ a ∧ a < σ 9 0) ∧ (0 ≤ b ∧ b < σ 9 0) then (RUN σ) 33 (16 * a + b).toNat else -1), MH h m τ) := by
  unfold I32 at hb ha
  have h9 := hw.1.2.2.2.1
  unfold f_X8_blame f_X8_blame_16
  rw [rcv_M, s_isBid hw.1 a ha, bd_s]
  by_cases c1 : 0 ≤ a ∧ a < σ 9 0
  · rw [if_neg (by rw [iI_0, iI_b2]; exact fun z => z c1), rcv_M, s_isBid hw.1 b hb, bd_s]
    by_cases c2 : 0 ≤ b ∧ b < σ 9 0
    · rw [if_neg (by rw [iI_0, iI_b2]; exact fun z => z c2), rcv_M]
      obtain ⟨n, hn⟩ : ∃ n : Nat, (n : Int) = σ 9 0 := ⟨(σ 9 0).toNat, by omega⟩
      obtain ⟨A, rfl⟩ : ∃ B : Nat, a = B := ⟨a.toNat, by omega⟩
      obtain ⟨B, rfl⟩ : ∃ B : Nat, b = B := ⟨b.toNat, by omega⟩
      obtain ⟨τ, t1, t2, t3⟩ := s_runs (h := h) (m := m) hw n hn
      obtain ⟨r1, r2, r3, r4, r5, r6, r7⟩ := t2 A (by omega)
      refine ⟨τ, t1, ?_⟩
      rw [t3, bd_s, mR33, iL16, iI_mul, iI_add, mL33 (by omega) (by omega), show (16 * (A : Int) + (B : Int)).toNat = 16 * A + B by omega, r7 B (by omega), if_pos ⟨c1, c2⟩]
      rfl
    · rw [if_pos (by rw [iI_0, iI_b2]; exact c2)]
      exact ⟨σ, rfl, by rw [if_neg (fun z => c2 z.2)]; rfl⟩
  · rw [if_pos (by rw [iI_0, iI_b2]; exact c1)]
    exact ⟨σ, rfl, by rw [if_neg (fun z => c1 z.1)]; rfl⟩
def balT (σ : Sg) (w : Int) (a b : Nat) : Int := (if σ 10 a = w then (RUN σ) 33 (16 * a + b) else 0) - (if σ 10 b = w then (RUN σ) 33 (16 * a + b) else 0)
def balS (σ : Sg) (w : Int) : Int := sumI (fun a => sumI (balT σ w a) (σ 9 0).toNat) (σ 9 0).toNat
theorem s_balance (hw : WB σ) (w : Int) (hww : I32 w) : ∃ τ, cor τ = cor σ ∧ f_X8_balance m (iI w) (MH h m σ) = some (iI (if 0 ≤ w ∧ w ≤ 5 then balS σ w else 0), MH h m τ) := by
  unfold I32 at hww
  have h9 := hw.1.2.2.2.1
  unfold f_X8_balance
  rw [iI_0, iL5, s_in w 0 5 _ (by omega) (by omega) (by omega), bd_s]
  by_cases c1 : 0 ≤ w ∧ w ≤ 5
  · rw [if_neg (by rw [iI_b2]; exact fun z => z c1), if_pos c1, rcv_M]
    obtain ⟨n, hn⟩ : ∃ n : Nat, (n : Int) = σ 9 0 := ⟨(σ 9 0).toNat, by omega⟩
    have hn2 : (σ 9 0).toNat = n := by omega
    obtain ⟨τ, t1, t2, t3⟩ := s_runs (h := h) (m := m) hw n hn
    have e9 : τ 9 0 = σ 9 0 := cor_eq t1 (by omega) 0
    have e10 : ∀ j, τ 10 j = σ 10 j := fun j => cor_eq t1 (by omega) j
    refine ⟨τ, t1, ?_⟩
    rw [t3, bd_s]
    unfold f_X8_balance_19 balS
    rw [hn2]
    refine (lp_count (B := fun k2 u => fb_X8_balance_19 k2 u.1 u.2.1 u.2.2.1 u.2.2.2.1 u.2.2.2.2) (fun (a : Nat) => (some m, iI w, iI (sumI (fun a => sumI (balT σ w a) n) a), iI (a : Int), MH h m τ)) n _ (fun a ha k19 => ?_) (fun k => ?_) n 0 FU (by omega) (by rw [FU_eq]; omega))
    · show fb_X8_balance_19 k19 (some m) (iI w) (iI (sumI (fun a => sumI (balT σ w a) n) a)) (iI (a : Int)) (MH h m τ) = k19 (some m, iI w, iI (sumI (fun a => sumI (balT σ w a) n) a + sumI (balT σ w a) n), iI ((a : Int) + 1), MH h m τ)
      generalize sumI (fun a => sumI (balT σ w a) n) a = S
      have h10a := (hw.1.bid (b := a) (by omega)).1
      unfold fb_X8_balance_19
      rw [mR9, jle (by omega) (by omega) (by omega) (by omega), if_neg (by omega)]
      unfold f_X8_balance_30
      have hin := lp_count (B := fun k2 u => fb_X8_balance_30 k19 k2 u.1 u.2.1 u.2.2.1 u.2.2.2.1 u.2.2.2.2.1 u.2.2.2.2.2) (fun (b : Nat) => (some m, iI w, iI (S + sumI (balT σ w a) b), iI (a : Int), iI (b : Int), MH h m τ)) n (k19 (some m, iI w, iI (S + sumI (balT σ w a) n), iI ((a : Int) + 1), MH h m τ)) (fun b hb k => by
          show fb_X8_balance_30 k19 k (some m) (iI w) (iI (S + sumI (balT σ w a) b)) (iI (a : Int)) (iI (b : Int)) (MH h m τ) = k (some m, iI w, iI (S + (sumI (balT σ w a) b + balT σ w a b)), iI (a : Int), iI ((b : Int) + 1), MH h m τ)
          generalize sumI (balT σ w a) b = Q
          have h10b := (hw.1.bid (b := b) (by omega)).1
          have r7 := (t2 a ha).2.2.2.2.2.2 b hb
          have e16 : (16 * (a : Int) + (b : Int)).toNat = 16 * a + b := by omega
          unfold fb_X8_balance_30 f_X8_balance_83 f_X8_balance_109
          simp (disch := omega) only [rcv_M, mR0, mS0, mR1, mL1, mS1, mR2, mL2, mS2, mR3, mL3, mS3, mR4, mS4, mR5, mS5, mR6, mL6, mS6, mR7, mL7, mS7, mR8, mL8, mS8, mR9, mS9, mR10, mL10, mS10, mR11, mL11, mS11, mR12, mL12, mS12, mR13, mL13, mS13, mR14, mL14, mS14, mR15, mL15, mS15, mR16, mL16, mS16, mR17, mL17, mS17, mR18, mL18, mS18, mR19, mL19, mS19, mR20, mL20, mS20, mR21, mL21, mS21, mR22, mL22, mS22, mR23, mL23, mS23, mR24, mL24, mS24, mR25, mL25, mS25, mR26, mL26, mS26, mR27, mL27, mS27, mR28, mL28, mS28, mR29, mL29, mS29, mR30, mL30, mS30, mR31, mL31, mS31, mR32, mL32, mS32, mR33, mL33, mS33, iI_0, iI_1, iI_neg, iL2, iL3, iL4, iL5, iL6, iL7, iL8, iL9, iL10, iL11, iL12, iL13, iL14, iL15, iL16, iL17, iL30, iL31, iL60, iL99, iL100, iL240, iL480, iL1000, iL1920, iL10000, iI_add, iI_sub, iI_mul, iI_div, iI_le, iI_lt, iI_eq, bd_s, Int.toNat_natCast, e16, r7, e9, e10]
          rw [if_neg (by omega)]
          unfold balT
          by_cases d1 : σ 10 a = σ 10 b
          · rw [if_pos d1, d1]
            congr 5
            omega
          · rw [if_neg d1]
            by_cases d2 : σ 10 a = w
            · rw [if_pos d2, if_pos d2, if_neg (by omega), if_neg (by omega)]
              congr 5
              omega
            · rw [if_neg d2, if_neg d2]
              by_cases d3 : σ 10 b = w
              · rw [if_pos d3, if_pos d3]
                congr 5
                omega
              · rw [if_neg d3, if_neg d3]
                congr 5
                omega) (fun k => by
          show fb_X8_balance_30 k19 k (some m) (iI w) (iI (S + sumI (balT σ w a) n)) (iI (a : Int)) (iI (n : Int)) (MH h m τ) = _
          unfold fb_X8_balance_30
          rw [mR9, jle (by omega) (by omega) (by omega) (by omega), if_pos (by omega), iI_1, iI_add]) n 0 FU (by omega) (by rw [FU_eq]; omega)
      rw [show sumI (balT σ w a) 0 = 0 from rfl, Int.add_zero] at hin
      exact hin
    · show fb_X8_balance_19 k (some m) (iI w) (iI (sumI (fun a => sumI (balT σ w a) n) n)) (iI (n : Int)) (MH h m τ) = _
      unfold fb_X8_balance_19
      rw [mR9, jle (by omega) (by omega) (by omega) (by omega), if_pos (by omega)]
      rfl
  · rw [if_pos (by rw [iI_b2]; exact c1), if_neg c1]
    exact ⟨σ, rfl, rfl⟩
end
