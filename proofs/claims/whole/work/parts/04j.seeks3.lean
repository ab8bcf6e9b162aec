def dn (c : Nat → Bool) : Nat → Nat
  | 0 => 0
  | t + 1 => if c (t + 1) then t + 1 else dn c t
theorem dn_ok {c : Nat → Bool} : ∀ {l : Nat}, (∃ u, u ≤ l ∧ c u = true) → c (dn c l) = true ∧ dn c l ≤ l
  | 0, ⟨u, h1, h2⟩ => by
    have e : u = 0 := by omega
    rw [e] at h2
    exact ⟨h2, Nat.le_refl _⟩
  | t + 1, ⟨u, h1, h2⟩ => by
    unfold dn
    by_cases hc : c (t + 1) = true
    · rw [if_pos hc]; exact ⟨hc, Nat.le_refl _⟩
    · rw [if_neg hc]
      have : u ≠ t + 1 := fun e => hc (by rw [← e]; exact h2)
      have := dn_ok (l := t) ⟨u, by omega, h2⟩
      exact ⟨this.1, by omega⟩
theorem rdy_ex {σ : Sg} {b i : Nat} : ∀ {t : Nat}, rdy σ b (i + 1) t = true → ∃ u, u ≤ t ∧ cmg σ b (i + 1) u = true
  | 0, h => ⟨0, Nat.le_refl _, h⟩
  | t + 1, h => by
    rw [rdy_ps] at h
    cases hc : cmg σ b (i + 1) (t + 1) with
    | true => exact ⟨t + 1, Nat.le_refl _, hc⟩
    | false =>
      rw [hc] at h
      have h2 : rdy σ b (i + 1) t = true := by
        cases hr : rdy σ b (i + 1) t with
        | true => rfl
        | false => rw [hr] at h; cases h
      obtain ⟨u, h3, h4⟩ := rdy_ex h2
      exact ⟨u, by omega, h4⟩
theorem cmg_inv {σ : Sg} {b i t : Nat} (h : cmg σ b (i + 1) t = true) : lng σ b i ≤ t ∧ rdy σ b i (t - lng σ b i).toNat = true ∧ canL σ b i (t - lng σ b i) = true := by
  unfold cmg at h
  simp only [Bool.and_eq_true, decide_eq_true_eq] at h
  exact ⟨h.1, h.2.1, h.2.2⟩
/-- where the bid is found to come to its end -/
def fnd (σ : Sg) (b : Nat) : Option Nat := srch (cmg σ b (lgs σ b).toNat) 0 ((σ 15 b).toNat + 1)
/-- the minutes of leaving, from step i on back, if it comes to step i in minute e -/
def bkF (σ : Sg) (b : Nat) : Nat → Nat → (Nat → Int) → (Nat → Int)
  | 0, _, F => F
  | i + 1, e, F => bkF σ b i (if i = 0 then (e - lng σ b i).toNat else dn (cmg σ b i) (e - lng σ b i).toNat) (fun j => if j = i then (e - lng σ b i) else F j)
section
variable {h : Hp} {m : Nat} {σ : Sg}
theorem CR_full (σ : Sg) (b n i u : Nat) (hi : 1 ≤ i) (hin : i ≤ n) (hi2 : i < 8) (hu : u < 240) : CR σ b n 0 (240 * i + u) = b2 (cmg σ b i u = true) := by
  unfold CR
  rw [if_pos (by omega), show (240 * i + u) / 240 = i by omega, show (240 * i + u) % 240 = u by omega, if_neg (by omega), if_pos hin]
theorem s_268 (b i n : Nat) (hi : 1 ≤ i) (hin : i ≤ n) (hn : n < 8) (F : Nat → Int) (k240 : Option Nat × Int32 × Int32 × Int32 × Hp → Option (Int32 × Hp)) : ∀ (l N : Nat), l < N → l < 240 → (∃ u, u ≤ l ∧ cmg σ b i u = true) →
    lp (fun k268 u => fb_X8_seeks_268 k240 k268 u.1 u.2.1 u.2.2.1 u.2.2.2.1 u.2.2.2.2) N (some m, iI b, iI (l : Int), iI (i : Int), MH h m (sF (sF σ 22 (CR σ b n 0)) 23 F)) = k240 (some m, iI b, iI (dn (cmg σ b i) l : Int), iI ((i : Int) - 1), MH h m (sF (sF σ 22 (CR σ b n 0)) 23 F)) := by
  intro l
  induction l with
  | zero =>
    intro N hN hl hu
    obtain ⟨N, rfl⟩ : ∃ k, N = k + 1 := ⟨N - 1, by omega⟩
    obtain ⟨u, u1, u2⟩ := hu
    have e : u = 0 := by omega
    rw [e] at u2
    rw [lp_succ]
    show fb_X8_seeks_268 k240 _ (some m) (iI b) (iI ((0 : Nat) : Int)) (iI (i : Int)) _ = _
    have e22 : sF (sF σ 22 (CR σ b n 0)) 23 F 22 (240 * (i : Int) + ((0 : Nat) : Int)).toNat = b2 (cmg σ b i 0 = true) := by
      rw [show (240 * (i : Int) + ((0 : Nat) : Int)).toNat = 240 * i + 0 by omega]
      exact CR_full σ b n i 0 hi hin (by omega) (by omega)
    unfold fb_X8_seeks_268 f_X8_seeks_295
    simp (disch := omega) only [rcv_M, mR0, mS0, mR1, mL1, mS1, mR2, mL2, mS2, mR3, mL3, mS3, mR4, mS4, mR5, mS5, mR6, mL6, mS6, mR7, mL7, mS7, mR8, mL8, mS8, mR9, mS9, mR10, mL10, mS10, mR11, mL11, mS11, mR12, mL12, mS12, mR13, mL13, mS13, mR14, mL14, mS14, mR15, mL15, mS15, mR16, mL16, mS16, mR17, mL17, mS17, mR18, mL18, mS18, mR19, mL19, mS19, mR20, mL20, mS20, mR21, mL21, mS21, mR22, mL22, mS22, mR23, mL23, mS23, mR24, mL24, mS24, mR25, mL25, mS25, mR26, mL26, mS26, mR27, mL27, mS27, mR28, mL28, mS28, mR29, mL29, mS29, mR30, mL30, mS30, mR31, mL31, mS31, mR32, mL32, mS32, mR33, mL33, mS33, iI_0, iI_1, iI_neg, iL2, iL3, iL4, iL5, iL6, iL7, iL8, iL9, iL10, iL11, iL12, iL13, iL14, iL15, iL16, iL17, iL30, iL31, iL60, iL99, iL100, iL240, iL480, iL1000, iL1920, iL10000, iI_add, iI_sub, iI_mul, iI_div, iI_le, iI_lt, iI_eq, bd_s, e22, iI_b2]
    rw [if_neg (by omega), u2, if_neg (by simp)]
    rfl
  | succ l ih =>
    intro N hN hl hu
    obtain ⟨N, rfl⟩ : ∃ k, N = k + 1 := ⟨N - 1, by omega⟩
    rw [lp_succ]
    have ihN := fun z => ih N (by omega) (by omega) z
    generalize lp (fun k268 u => fb_X8_seeks_268 k240 k268 u.1 u.2.1 u.2.2.1 u.2.2.2.1 u.2.2.2.2) N = kk at ihN ⊢
    show fb_X8_seeks_268 k240 _ (some m) (iI b) (iI ((l + 1 : Nat) : Int)) (iI (i : Int)) _ = _
    have e22 : sF (sF σ 22 (CR σ b n 0)) 23 F 22 (240 * (i : Int) + ((l + 1 : Nat) : Int)).toNat = b2 (cmg σ b i (l + 1) = true) := by
      rw [show (240 * (i : Int) + ((l + 1 : Nat) : Int)).toNat = 240 * i + (l + 1) by omega]
      exact CR_full σ b n i (l + 1) hi hin (by omega) (by omega)
    unfold fb_X8_seeks_268 f_X8_seeks_295
    simp (disch := omega) only [rcv_M, mR0, mS0, mR1, mL1, mS1, mR2, mL2, mS2, mR3, mL3, mS3, mR4, mS4, mR5, mS5, mR6, mL6, mS6, mR7, mL7, mS7, mR8, mL8, mS8, mR9, mS9, mR10, mL10, mS10, mR11, mL11, mS11, mR12, mL12, mS12, mR13, mL13, mS13, mR14, mL14, mS14, mR15, mL15, mS15, mR16, mL16, mS16, mR17, mL17, mS17, mR18, mL18, mS18, mR19, mL19, mS19, mR20, mL20, mS20, mR21, mL21, mS21, mR22, mL22, mS22, mR23, mL23, mS23, mR24, mL24, mS24, mR25, mL25, mS25, mR26, mL26, mS26, mR27, mL27, mS27, mR28, mL28, mS28, mR29, mL29, mS29, mR30, mL30, mS30, mR31, mL31, mS31, mR32, mL32, mS32, mR33, mL33, mS33, iI_0, iI_1, iI_neg, iL2, iL3, iL4, iL5, iL6, iL7, iL8, iL9, iL10, iL11, iL12, iL13, iL14, iL15, iL16, iL17, iL30, iL31, iL60, iL99, iL100, iL240, iL480, iL1000, iL1920, iL10000, iI_add, iI_sub, iI_mul, iI_div, iI_le, iI_lt, iI_eq, bd_s, e22, iI_b2]
    rw [if_neg (by omega)]
    cases hc : cmg σ b i (l + 1) with
    | true =>
      rw [if_neg (by simp)]
      unfold dn
      rw [if_pos hc]
      rfl
    | false =>
      rw [if_pos (by simp)]
      obtain ⟨u, u1, u2⟩ := hu
      have hne : u ≠ l + 1 := fun e => by rw [e, hc] at u2; cases u2
      rw [show (((l + 1 : Nat) : Int) + -1) = (l : Int) by omega]
      rw [ihN ⟨u, by omega, u2⟩]
      show _ = k240 (some m, iI b, iI ((dn (cmg σ b i) (l + 1) : Nat) : Int), _)
      rw [show dn (cmg σ b i) (l + 1) = dn (cmg σ b i) l by rw [dn, if_neg (by rw [hc]; simp)]]
set_option maxHeartbeats 4000000 in
theorem s_240 (hw : WF σ) (b n : Nat) (hb : b < 16) (hn : (n : Int) = lgs σ b) : ∀ (i N e : Nat) (F : Nat → Int), i ≤ n → i < N → e < 240 → (1 ≤ i → cmg σ b i e = true) →
    lp (fun k240 u => fb_X8_seeks_240 k240 u.1 u.2.1 u.2.2.1 u.2.2.2.1 u.2.2.2.2) N (some m, iI b, iI (e : Int), iI ((i : Int) - 1), MH h m (sF (sF σ 22 (CR σ b n 0)) 23 F)) = some (iI 1, MH h m (sF (sF σ 22 (CR σ b n 0)) 23 (bkF σ b i e F))) := by
  have hlg := lgs_rng hw hb
  intro i
  induction i with
  | zero =>
    intro N e F hi hN he hc
    obtain ⟨N, rfl⟩ : ∃ k, N = k + 1 := ⟨N - 1, by omega⟩
    rw [lp_succ]
    show fb_X8_seeks_240 _ (some m) (iI b) (iI (e : Int)) (iI (((0 : Nat) : Int) - 1)) _ = _
    unfold fb_X8_seeks_240
    simp (disch := omega) only [rcv_M, mR0, mS0, mR1, mL1, mS1, mR2, mL2, mS2, mR3, mL3, mS3, mR4, mS4, mR5, mS5, mR6, mL6, mS6, mR7, mL7, mS7, mR8, mL8, mS8, mR9, mS9, mR10, mL10, mS10, mR11, mL11, mS11, mR12, mL12, mS12, mR13, mL13, mS13, mR14, mL14, mS14, mR15, mL15, mS15, mR16, mL16, mS16, mR17, mL17, mS17, mR18, mL18, mS18, mR19, mL19, mS19, mR20, mL20, mS20, mR21, mL21, mS21, mR22, mL22, mS22, mR23, mL23, mS23, mR24, mL24, mS24, mR25, mL25, mS25, mR26, mL26, mS26, mR27, mL27, mS27, mR28, mL28, mS28, mR29, mL29, mS29, mR30, mL30, mS30, mR31, mL31, mS31, mR32, mL32, mS32, mR33, mL33, mS33, iI_0, iI_1, iI_neg, iL2, iL3, iL4, iL5, iL6, iL7, iL8, iL9, iL10, iL11, iL12, iL13, iL14, iL15, iL16, iL17, iL30, iL31, iL60, iL99, iL100, iL240, iL480, iL1000, iL1920, iL10000, iI_add, iI_sub, iI_mul, iI_div, iI_le, iI_lt, iI_eq, bd_s, rt1]
    rw [if_pos (by omega)]
    rfl
  | succ i ih =>
    intro N e F hi hN he hc
    obtain ⟨N, rfl⟩ : ∃ k, N = k + 1 := ⟨N - 1, by omega⟩
    obtain ⟨c1, c2, c3⟩ := cmg_inv (hc (by omega))
    have hln := lng_rng hw hb (i := i) (by omega) (by omega)
    have hw2 : WF (sF (sF σ 22 (CR σ b n 0)) 23 F) := hw
    have eL := s_longOf (h := h) (m := m) hw2 b hb i (by omega) (show (i : Int) < lgs σ b by omega)
    rw [show lng (sF (sF σ 22 (CR σ b n 0)) 23 F) b i = lng σ b i from rfl] at eL
    rw [lp_succ]
    show fb_X8_seeks_240 _ (some m) (iI b) (iI (e : Int)) (iI (((i + 1 : Nat) : Int) - 1)) _ = _
    rw [show (((i + 1 : Nat) : Int) - 1) = (i : Int) by omega]
    unfold fb_X8_seeks_240
    simp (disch := omega) only [rcv_M, mR0, mS0, mR1, mL1, mS1, mR2, mL2, mS2, mR3, mL3, mS3, mR4, mS4, mR5, mS5, mR6, mL6, mS6, mR7, mL7, mS7, mR8, mL8, mS8, mR9, mS9, mR10, mL10, mS10, mR11, mL11, mS11, mR12, mL12, mS12, mR13, mL13, mS13, mR14, mL14, mS14, mR15, mL15, mS15, mR16, mL16, mS16, mR17, mL17, mS17, mR18, mL18, mS18, mR19, mL19, mS19, mR20, mL20, mS20, mR21, mL21, mS21, mR22, mL22, mS22, mR23, mL23, mS23, mR24, mL24, mS24, mR25, mL25, mS25, mR26, mL26, mS26, mR27, mL27, mS27, mR28, mL28, mS28, mR29, mL29, mS29, mR30, mL30, mS30, mR31, mL31, mS31, mR32, mL32, mS32, mR33, mL33, mS33, iI_0, iI_1, iI_neg, iL2, iL3, iL4, iL5, iL6, iL7, iL8, iL9, iL10, iL11, iL12, iL13, iL14, iL15, iL16, iL17, iL30, iL31, iL60, iL99, iL100, iL240, iL480, iL1000, iL1920, iL10000, iI_add, iI_sub, iI_mul, iI_div, iI_le, iI_lt, iI_eq, bd_s, eL, sg_sF, Int.toNat_natCast]
    rw [if_neg (by omega)]
    obtain ⟨l, hl⟩ : ∃ l : Nat, (l : Int) = e - lng σ b i := ⟨((e : Int) - lng σ b i).toNat, by omega⟩
    have hl2 : ((e : Int) - lng σ b i).toNat = l := by omega
    rw [hl2] at c2
    unfold bkF
    rw [hl2, ← hl]
    unfold f_X8_seeks_268
    by_cases h0 : i = 0
    · rw [if_pos h0]
      subst h0
      rw [FU_eq, lp_succ]
      show fb_X8_seeks_268 _ _ (some m) (iI b) (iI (l : Int)) (iI ((0 : Nat) : Int)) _ = _
      unfold fb_X8_seeks_268 f_X8_seeks_295
      simp (disch := omega) only [iI_0, iI_1, iI_neg, iL2, iL3, iL4, iL5, iL6, iL7, iL8, iL9, iL10, iL11, iL12, iL13, iL14, iL15, iL16, iL17, iL30, iL31, iL60, iL99, iL100, iL240, iL480, iL1000, iL1920, iL10000, iI_add, iI_sub, iI_mul, iI_div, iI_le, iI_lt, iI_eq, bd_s]
      rw [if_pos (by omega)]
      exact ih N l _ (by omega) (by omega) (by omega) (fun z => by omega)
    · rw [if_neg h0]
      obtain ⟨i', rfl⟩ : ∃ i', i = i' + 1 := ⟨i - 1, by omega⟩
      have hex := rdy_ex c2
      rw [s_268 b (i' + 1) n (by omega) (by omega) (by omega) _ _ l FU (by rw [FU_eq]; omega) (by omega) hex]
      have hdn := dn_ok hex
      exact ih N _ _ (by omega) (by omega) (by omega) (fun _ => hdn.1)
set_option maxHeartbeats 4000000 in
theorem s_seeks (hw : WF σ) (b n : Nat) (hb : b < 16) (hn : (n : Int) = lgs σ b) (hn1 : 1 ≤ n) : f_X8_seeks m (iI b) (MH h m σ) = (match fnd σ b with
    | none => some (iI 0, MH h m (sF σ 22 (CR σ b n 0)))
    | some e => some (iI 1, MH h m (sF (sF σ 22 (CR σ b n 0)) 23 (bkF σ b n e (fun j => if j = n then (e : Int) else σ 23 j))))) := by
  have hlg := lgs_rng hw hb
  have h15 := (hw.bid hb).2.2.2.2.2.1
  unfold f_X8_seeks
  simp (disch := omega) only [rcv_M, mR0, mS0, mR1, mL1, mS1, mR2, mL2, mS2, mR3, mL3, mS3, mR4, mS4, mR5, mS5, mR6, mL6, mS6, mR7, mL7, mS7, mR8, mL8, mS8, mR9, mS9, mR10, mL10, mS10, mR11, mL11, mS11, mR12, mL12, mS12, mR13, mL13, mS13, mR14, mL14, mS14, mR15, mL15, mS15, mR16, mL16, mS16, mR17, mL17, mS17, mR18, mL18, mS18, mR19, mL19, mS19, mR20, mL20, mS20, mR21, mL21, mS21, mR22, mL22, mS22, mR23, mL23, mS23, mR24, mL24, mS24, mR25, mL25, mS25, mR26, mL26, mS26, mR27, mL27, mS27, mR28, mL28, mS28, mR29, mL29, mS29, mR30, mL30, mS30, mR31, mL31, mS31, mR32, mL32, mS32, mR33, mL33, mS33, iI_0, iI_1, iI_neg, iL2, iL3, iL4, iL5, iL6, iL7, iL8, iL9, iL10, iL11, iL12, iL13, iL14, iL15, iL16, iL17, iL30, iL31, iL60, iL99, iL100, iL240, iL480, iL1000, iL1920, iL10000, iI_add, iI_sub, iI_mul, iI_div, iI_le, iI_lt, iI_eq, bd_s, s_legs hw]
  rw [← hn]
  -- the end
  have hend : f_X8_seeks_185 (some m) (iI b) (iI (n : Int)) (iI 0) (MH h m (sF σ 22 (CR σ b n 0))) = (match fnd σ b with
      | none => some (iI 0, MH h m (sF σ 22 (CR σ b n 0)))
      | some e => some (iI 1, MH h m (sF (sF σ 22 (CR σ b n 0)) 23 (bkF σ b n e (fun j => if j = n then (e : Int) else σ 23 j))))) := by
    unfold f_X8_seeks_185
    have e15 : sF σ 22 (CR σ b n 0) 15 b = σ 15 b := rfl
    have := lp_search (B := fun k185 u => fb_X8_seeks_185 k185 u.1 u.2.1 u.2.2.1 u.2.2.2.1 u.2.2.2.2) (fun e => (some m, iI b, iI (n : Int), iI (e : Int), MH h m (sF σ 22 (CR σ b n 0)))) ((σ 15 b).toNat + 1) (cmg σ b n) (fun e => f_X8_seeks_216 (some m) (iI b) (iI (n : Int)) (iI (e : Int)) (MH h m (sF σ 22 (CR σ b n 0)))) (some (iI 0, MH h m (sF σ 22 (CR σ b n 0))))
      (fun e he k => by
        show fb_X8_seeks_185 k (some m) (iI b) (iI (n : Int)) (iI (e : Int)) (MH h m (sF σ 22 (CR σ b n 0))) = _
        have e22 : sF σ 22 (CR σ b n 0) 22 (240 * (n : Int) + (e : Int)).toNat = b2 (cmg σ b n e = true) := by
          rw [sF_at, show (240 * (n : Int) + (e : Int)).toNat = 240 * n + e by omega]
          exact CR_full σ b n n e hn1 (Nat.le_refl _) (by omega) (by omega)
        unfold fb_X8_seeks_185
        simp (disch := omega) only [rcv_M, mR0, mS0, mR1, mL1, mS1, mR2, mL2, mS2, mR3, mL3, mS3, mR4, mS4, mR5, mS5, mR6, mL6, mS6, mR7, mL7, mS7, mR8, mL8, mS8, mR9, mS9, mR10, mL10, mS10, mR11, mL11, mS11, mR12, mL12, mS12, mR13, mL13, mS13, mR14, mL14, mS14, mR15, mL15, mS15, mR16, mL16, mS16, mR17, mL17, mS17, mR18, mL18, mS18, mR19, mL19, mS19, mR20, mL20, mS20, mR21, mL21, mS21, mR22, mL22, mS22, mR23, mL23, mS23, mR24, mL24, mS24, mR25, mL25, mS25, mR26, mL26, mS26, mR27, mL27, mS27, mR28, mL28, mS28, mR29, mL29, mS29, mR30, mL30, mS30, mR31, mL31, mS31, mR32, mL32, mS32, mR33, mL33, mS33, iI_0, iI_1, iI_neg, iL2, iL3, iL4, iL5, iL6, iL7, iL8, iL9, iL10, iL11, iL12, iL13, iL14, iL15, iL16, iL17, iL30, iL31, iL60, iL99, iL100, iL240, iL480, iL1000, iL1920, iL10000, iI_add, iI_sub, iI_mul, iI_div, iI_le, iI_lt, iI_eq, bd_s, Int.toNat_natCast, e15, e22, iI_b2, Int.natCast_succ]
        rw [if_neg (by omega)]
        cases cmg σ b n e <;> simp)
      (fun k => by
        show fb_X8_seeks_185 k (some m) (iI b) (iI (n : Int)) (iI (((σ 15 b).toNat + 1 : Nat) : Int)) (MH h m (sF σ 22 (CR σ b n 0))) = _
        unfold fb_X8_seeks_185 f_X8_seeks_216
        simp (disch := omega) only [rcv_M, mR0, mS0, mR1, mL1, mS1, mR2, mL2, mS2, mR3, mL3, mS3, mR4, mS4, mR5, mS5, mR6, mL6, mS6, mR7, mL7, mS7, mR8, mL8, mS8, mR9, mS9, mR10, mL10, mS10, mR11, mL11, mS11, mR12, mL12, mS12, mR13, mL13, mS13, mR14, mL14, mS14, mR15, mL15, mS15, mR16, mL16, mS16, mR17, mL17, mS17, mR18, mL18, mS18, mR19, mL19, mS19, mR20, mL20, mS20, mR21, mL21, mS21, mR22, mL22, mS22, mR23, mL23, mS23, mR24, mL24, mS24, mR25, mL25, mS25, mR26, mL26, mS26, mR27, mL27, mS27, mR28, mL28, mS28, mR29, mL29, mS29, mR30, mL30, mS30, mR31, mL31, mS31, mR32, mL32, mS32, mR33, mL33, mS33, iI_0, iI_1, iI_neg, iL2, iL3, iL4, iL5, iL6, iL7, iL8, iL9, iL10, iL11, iL12, iL13, iL14, iL15, iL16, iL17, iL30, iL31, iL60, iL99, iL100, iL240, iL480, iL1000, iL1920, iL10000, iI_add, iI_sub, iI_mul, iI_div, iI_le, iI_lt, iI_eq, bd_s, Int.toNat_natCast, e15, rt0]
        rw [if_pos (by omega), if_neg (by omega)]) ((σ 15 b).toNat + 1) 0 FU (by omega) (by rw [FU_eq]; omega)
    refine this.trans ?_
    unfold fnd
    rw [show (lgs σ b).toNat = n by omega]
    cases hs : srch (cmg σ b n) 0 ((σ 15 b).toNat + 1) with
    | none => rfl
    | some e =>
      obtain ⟨-, q2, q3, -⟩ := srch_some.mp hs
      unfold f_X8_seeks_216
      have e23 : ∀ j, sF σ 22 (CR σ b n 0) 23 j = σ 23 j := fun j => rfl
      have eF : sg (sF σ 22 (CR σ b n 0)) 23 n (e : Int) = sF (sF σ 22 (CR σ b n 0)) 23 (fun j => if j = n then (e : Int) else σ 23 j) := by
        conv => lhs; rw [← sF_self (sF σ 22 (CR σ b n 0)) 23]
        rw [sg_sF]
        rfl
      simp (disch := omega) only [rcv_M, mR0, mS0, mR1, mL1, mS1, mR2, mL2, mS2, mR3, mL3, mS3, mR4, mS4, mR5, mS5, mR6, mL6, mS6, mR7, mL7, mS7, mR8, mL8, mS8, mR9, mS9, mR10, mL10, mS10, mR11, mL11, mS11, mR12, mL12, mS12, mR13, mL13, mS13, mR14, mL14, mS14, mR15, mL15, mS15, mR16, mL16, mS16, mR17, mL17, mS17, mR18, mL18, mS18, mR19, mL19, mS19, mR20, mL20, mS20, mR21, mL21, mS21, mR22, mL22, mS22, mR23, mL23, mS23, mR24, mL24, mS24, mR25, mL25, mS25, mR26, mL26, mS26, mR27, mL27, mS27, mR28, mL28, mS28, mR29, mL29, mS29, mR30, mL30, mS30, mR31, mL31, mS31, mR32, mL32, mS32, mR33, mL33, mS33, iI_0, iI_1, iI_neg, iL2, iL3, iL4, iL5, iL6, iL7, iL8, iL9, iL10, iL11, iL12, iL13, iL14, iL15, iL16, iL17, iL30, iL31, iL60, iL99, iL100, iL240, iL480, iL1000, iL1920, iL10000, iI_add, iI_sub, iI_mul, iI_div, iI_le, iI_lt, iI_eq, bd_s, Int.toNat_natCast, e15, eF]
      rw [if_pos (by omega)]
      unfold f_X8_seeks_240
      exact s_240 hw b n hb hn n FU e _ (Nat.le_refl _) (by rw [FU_eq]; omega) (by omega) (fun _ => q3)
  -- the steps
  have hsteps : f_X8_seeks_30 (some m) (iI b) (iI (n : Int)) (iI 0) (MH h m (sF σ 22 (CR σ b 0 0))) = f_X8_seeks_185 (some m) (iI b) (iI (n : Int)) (iI 0) (MH h m (sF σ 22 (CR σ b n 0))) := by
    unfold f_X8_seeks_30
    refine lp_count (B := fun k30 u => fb_X8_seeks_30 k30 u.1 u.2.1 u.2.2.1 u.2.2.2.1 u.2.2.2.2) (fun i => (some m, iI b, iI (n : Int), iI (i : Int), MH h m (sF σ 22 (CR σ b i 0)))) n _ (fun i hi k => ?_) (fun k => ?_) n 0 FU (by omega) (by rw [FU_eq]; omega)
    · show fb_X8_seeks_30 k (some m) (iI b) (iI (n : Int)) (iI (i : Int)) (MH h m (sF σ 22 (CR σ b i 0))) = _
      unfold fb_X8_seeks_30
      simp (disch := omega) only [iI_0, iI_1, iI_neg, iL2, iL3, iL4, iL5, iL6, iL7, iL8, iL9, iL10, iL11, iL12, iL13, iL14, iL15, iL16, iL17, iL30, iL31, iL60, iL99, iL100, iL240, iL480, iL1000, iL1920, iL10000, iI_add, iI_sub, iI_mul, iI_div, iI_le, iI_lt, iI_eq, bd_s]
      rw [if_neg (by omega), s_seeks41 hw b i hb (by omega) n hn]
      rfl
    · show fb_X8_seeks_30 k (some m) (iI b) (iI (n : Int)) (iI (n : Int)) (MH h m (sF σ 22 (CR σ b n 0))) = _
      unfold fb_X8_seeks_30
      simp (disch := omega) only [iI_0, iI_1, iI_neg, iL2, iL3, iL4, iL5, iL6, iL7, iL8, iL9, iL10, iL11, iL12, iL13, iL14, iL15, iL16, iL17, iL30, iL31, iL60, iL99, iL100, iL240, iL480, iL1000, iL1920, iL10000, iI_add, iI_sub, iI_mul, iI_div, iI_le, iI_lt, iI_eq, bd_s]
      rw [if_pos (by omega)]
  rw [← hend, ← hsteps]
  -- the clearing
  unfold f_X8_seeks_8
  rw [CR_0]
  have e0 : (some m, iI (b : Int), iI (n : Int), iI 0, MH h m σ) = (fun k : Nat => (some m, iI (b : Int), iI (n : Int), iI (k : Int), MH h m (sF σ 22 (fun j => if j < k then 0 else σ 22 j)))) 0 := by
    show _ = (some m, iI (b : Int), iI (n : Int), iI ((0 : Nat) : Int), MH h m (sF σ 22 (fun j => if j < 0 then 0 else σ 22 j)))
    rw [show (fun j => if j < 0 then (0 : Int) else σ 22 j) = fun j => σ 22 j by funext j; simp, sF_self]
    rfl
  rw [e0]
  refine lp_count (B := fun k8 u => fb_X8_seeks_8 k8 u.1 u.2.1 u.2.2.1 u.2.2.2.1 u.2.2.2.2) (fun k : Nat => (some m, iI (b : Int), iI (n : Int), iI (k : Int), MH h m (sF σ 22 (fun j => if j < k then 0 else σ 22 j)))) 1920 _ (fun i hi k => ?_) (fun k => ?_) 1920 0 FU (by omega) (by rw [FU_eq]; omega)
  · show fb_X8_seeks_8 k (some m) (iI b) (iI (n : Int)) (iI (i : Int)) (MH h m (sF σ 22 (fun j => if j < i then 0 else σ 22 j))) = k (some m, iI (b : Int), iI (n : Int), iI ((i + 1 : Nat) : Int), MH h m (sF σ 22 (fun j => if j < i + 1 then 0 else σ 22 j)))
    unfold fb_X8_seeks_8
    simp (disch := first | omega | exact Or.inl rfl) only [rcv_M, mR0, mS0, mR1, mL1, mS1, mR2, mL2, mS2, mR3, mL3, mS3, mR4, mS4, mR5, mS5, mR6, mL6, mS6, mR7, mL7, mS7, mR8, mL8, mS8, mR9, mS9, mR10, mL10, mS10, mR11, mL11, mS11, mR12, mL12, mS12, mR13, mL13, mS13, mR14, mL14, mS14, mR15, mL15, mS15, mR16, mL16, mS16, mR17, mL17, mS17, mR18, mL18, mS18, mR19, mL19, mS19, mR20, mL20, mS20, mR21, mL21, mS21, mR22, mL22, mS22, mR23, mL23, mS23, mR24, mL24, mS24, mR25, mL25, mS25, mR26, mL26, mS26, mR27, mL27, mS27, mR28, mL28, mS28, mR29, mL29, mS29, mR30, mL30, mS30, mR31, mL31, mS31, mR32, mL32, mS32, mR33, mL33, mS33, iI_0, iI_1, iI_neg, iL2, iL3, iL4, iL5, iL6, iL7, iL8, iL9, iL10, iL11, iL12, iL13, iL14, iL15, iL16, iL17, iL30, iL31, iL60, iL99, iL100, iL240, iL480, iL1000, iL1920, iL10000, iI_add, iI_sub, iI_mul, iI_div, iI_le, iI_lt, iI_eq, bd_s, sg_sF, Int.toNat_natCast, Int.natCast_succ]
    rw [if_neg (by omega)]
    rw [show (fun j => if j = i then (0 : Int) else if j < i then 0 else σ 22 j) = fun j => if j < i + 1 then 0 else σ 22 j by
      funext j
      by_cases c1 : j = i
      · rw [if_pos c1, if_pos (by omega)]
      · rw [if_neg c1]
        by_cases c2 : j < i
        · rw [if_pos c2, if_pos (by omega)]
        · rw [if_neg c2, if_neg (by omega)]]
  · show fb_X8_seeks_8 k (some m) (iI b) (iI (n : Int)) (iI ((1920 : Nat) : Int)) _ = _
    unfold fb_X8_seeks_8
    simp (disch := omega) only [iI_0, iI_1, iI_neg, iL2, iL3, iL4, iL5, iL6, iL7, iL8, iL9, iL10, iL11, iL12, iL13, iL14, iL15, iL16, iL17, iL30, iL31, iL60, iL99, iL100, iL240, iL480, iL1000, iL1920, iL10000, iI_add, iI_sub, iI_mul, iI_div, iI_le, iI_lt, iI_eq, bd_s]
    rw [if_pos (by omega)]
end
