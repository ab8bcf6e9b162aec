def WB (σ : Sg) : Prop := WF σ ∧ ∀ b : Nat, (b : Int) < σ 9 0 → σ 11 b ≠ σ 12 b ∧ σ 11 b < σ 0 0 ∧ σ 12 b < σ 0 0
theorem WB.lgs {σ : Sg} (hw : WB σ) {b : Nat} (hb : (b : Int) < σ 9 0) : 1 ≤ lgs σ b := by
  obtain ⟨h1, -⟩ := hw.2 b hb
  unfold _root_.Jvm.Pilot.CFreightPathsLaw_law_r8975_db95ec.lgs
  split <;> omega
theorem bkF_base {σ : Sg} {b : Nat} : ∀ {i e j : Nat} {F F' : Nat → Int}, (j < i ∨ F j = F' j) → bkF σ b i e F j = bkF σ b i e F' j
  | 0, e, j, F, F', h => by
    rcases h with h | h
    · exact absurd h (Nat.not_lt_zero _)
    · exact h
  | i + 1, e, j, F, F', h => by
    unfold bkF
    apply bkF_base
    by_cases hj : j = i
    · right; rw [if_pos hj, if_pos hj]
    · rcases h with h | h
      · left; omega
      · right; rw [if_neg hj, if_neg hj]; exact h
/-- the path of a bid that comes to its end in minute e -/
def pt (σ : Sg) (b e : Nat) (j : Nat) : Int := bkF σ b (lgs σ b).toNat e (fun i => if i = (lgs σ b).toNat then (e : Int) else 0) j
theorem bkF_rng {σ : Sg} {b : Nat} (hw : WF σ) (hb : b < 16) : ∀ {i e : Nat} {F : Nat → Int}, (i : Int) ≤ lgs σ b → e < 240 → (1 ≤ i → cmg σ b i e = true) → (∀ j, 0 ≤ F j ∧ F j ≤ 239) → ∀ j, 0 ≤ bkF σ b i e F j ∧ bkF σ b i e F j ≤ 239
  | 0, e, F, _, _, _, h, j => h j
  | i + 1, e, F, hi, he, hc, h, j => by
    obtain ⟨c1, c2, c3⟩ := cmg_inv (hc (by omega))
    have hln := lng_rng hw hb (i := i) (by omega) (by omega)
    unfold bkF
    have hF : ∀ j, 0 ≤ (if j = i then ((e : Int) - lng σ b i) else F j) ∧ (if j = i then ((e : Int) - lng σ b i) else F j) ≤ 239 := by
      intro j
      have := h j
      split <;> omega
    by_cases h0 : i = 0
    · rw [if_pos h0]
      exact bkF_rng hw hb (by omega) (by omega) (fun z => by omega) hF j
    · rw [if_neg h0]
      obtain ⟨i', rfl⟩ : ∃ i', i = i' + 1 := ⟨i - 1, by omega⟩
      have hd := dn_ok (rdy_ex c2)
      exact bkF_rng hw hb (by omega) (by omega) (fun _ => hd.1) hF j
theorem fnd_ok {σ : Sg} {b e : Nat} (hw : WF σ) (hb : b < 16) (h : fnd σ b = some e) : cmg σ b (lgs σ b).toNat e = true ∧ e < 240 ∧ (e : Int) ≤ σ 15 b := by
  have h15 := (hw.bid hb).2.2.2.2.2.1
  obtain ⟨h1, h2, h3, h4⟩ := srch_some.mp h
  exact ⟨h3, by omega, by omega⟩
theorem pt_rng {σ : Sg} {b e : Nat} (hw : WF σ) (hb : b < 16) (h : fnd σ b = some e) (j : Nat) : 0 ≤ pt σ b e j ∧ pt σ b e j ≤ 239 := by
  obtain ⟨h1, h2, -⟩ := fnd_ok hw hb h
  have hlg := lgs_rng hw hb
  refine bkF_rng hw hb (by omega) h2 (fun _ => h1) (fun j => ?_) j
  split <;> omega
/-- the bid has the path -/
def giv (σ : Sg) (b e : Nat) : Sg := fun f i => if f = 19 ∧ i = b then 1 else if f = 20 ∧ (8 * b ≤ i ∧ i ≤ 8 * b + (lgs σ b).toNat) then pt σ b e (i - 8 * b) else σ f i
section
variable {h : Hp} {m : Nat} {σ : Sg}
theorem pt_end (hw : WF σ) {b n e : Nat} (hb : b < 16) (hn : (n : Int) = lgs σ b) : pt σ b e n = e := by
  have : ∀ (i e' : Nat) (F : Nat → Int), i ≤ n → bkF σ b i e' F n = F n := by
    intro i
    induction i with
    | zero => intros; rfl
    | succ i ih =>
      intro e' F hi
      unfold bkF
      rw [ih _ _ (by omega), if_neg (by omega)]
  unfold pt
  rw [show (lgs σ b).toNat = n by omega, this n e _ (Nat.le_refl _), if_pos rfl]
theorem s_find (hw : WB σ) (b : Int) (hb : I32 b) : ∃ f22 f23, f_X8_find m (iI b) (MH h m σ) = some (iI (if 0 ≤ b ∧ b < σ 9 0 then (match fnd σ b.toNat with | some e => (e : Int) | none => -1) else -1), MH h m (sF (sF σ 22 f22) 23 f23)) := by
  unfold I32 at hb
  have h9 := hw.1.2.2.2.1
  unfold f_X8_find f_X8_find_29 f_X8_find_30
  by_cases c1 : 0 ≤ b ∧ b < σ 9 0
  · obtain ⟨B, rfl⟩ : ∃ B : Nat, b = B := ⟨b.toNat, by omega⟩
    have hB : B < 16 := by omega
    have hlg := lgs_rng hw.1 hB
    have hl1 := hw.lgs (b := B) c1.2
    obtain ⟨n, hn⟩ : ∃ n : Nat, (n : Int) = lgs σ B := ⟨(lgs σ B).toNat, by omega⟩
    simp (disch := omega) only [rcv_M, mR0, mS0, mR1, mL1, mS1, mR2, mL2, mS2, mR3, mL3, mS3, mR4, mS4, mR5, mS5, mR6, mL6, mS6, mR7, mL7, mS7, mR8, mL8, mS8, mR9, mS9, mR10, mL10, mS10, mR11, mL11, mS11, mR12, mL12, mS12, mR13, mL13, mS13, mR14, mL14, mS14, mR15, mL15, mS15, mR16, mL16, mS16, mR17, mL17, mS17, mR18, mL18, mS18, mR19, mL19, mS19, mR20, mL20, mS20, mR21, mL21, mS21, mR22, mL22, mS22, mR23, mL23, mS23, mR24, mL24, mS24, mR25, mL25, mS25, mR26, mL26, mS26, mR27, mL27, mS27, mR28, mL28, mS28, mR29, mL29, mS29, mR30, mL30, mS30, mR31, mL31, mS31, mR32, mL32, mS32, mR33, mL33, mS33, iI_0, iI_1, iI_neg, iL2, iL3, iL4, iL5, iL6, iL7, iL8, iL9, iL10, iL11, iL12, iL13, iL14, iL15, iL16, iL17, iL30, iL31, iL60, iL99, iL100, iL240, iL480, iL1000, iL1920, iL10000, iI_add, iI_sub, iI_mul, iI_div, iI_le, iI_lt, iI_eq, bd_s, s_isBid hw.1, iI_b2, c1, and_self, not_true_eq_false, not_false_eq_true, if_true, if_false, and_true, true_and, s_seeks hw.1 B n hB hn (by omega), Int.toNat_natCast]
    cases hf : fnd σ B with
    | none =>
      refine ⟨CR σ B n 0, σ 23, ?_⟩
      simp only [bd_s, if_true]
      rw [show sF (sF σ 22 (CR σ B n 0)) 23 (σ 23) = sF σ 22 (CR σ B n 0) from sF_self (sF σ 22 (CR σ B n 0)) 23]
      rfl
    | some e =>
      have hfo := fnd_ok hw.1 hB hf
      refine ⟨CR σ B n 0, bkF σ B n e (fun j => if j = n then (e : Int) else σ 23 j), ?_⟩
      simp only [bd_s]
      rw [if_neg (show ¬ iI 1 = iI 0 by decide)]
      have hw2 : WF (sF (sF σ 22 (CR σ B n 0)) 23 (bkF σ B n e (fun j => if j = n then (e : Int) else σ 23 j))) := hw.1
      simp (disch := omega) only [rcv_M, mR0, mS0, mR1, mL1, mS1, mR2, mL2, mS2, mR3, mL3, mS3, mR4, mS4, mR5, mS5, mR6, mL6, mS6, mR7, mL7, mS7, mR8, mL8, mS8, mR9, mS9, mR10, mL10, mS10, mR11, mL11, mS11, mR12, mL12, mS12, mR13, mL13, mS13, mR14, mL14, mS14, mR15, mL15, mS15, mR16, mL16, mS16, mR17, mL17, mS17, mR18, mL18, mS18, mR19, mL19, mS19, mR20, mL20, mS20, mR21, mL21, mS21, mR22, mL22, mS22, mR23, mL23, mS23, mR24, mL24, mS24, mR25, mL25, mS25, mR26, mL26, mS26, mR27, mL27, mS27, mR28, mL28, mS28, mR29, mL29, mS29, mR30, mL30, mS30, mR31, mL31, mS31, mR32, mL32, mS32, mR33, mL33, mS33, s_legs hw2, bd_s]
      rw [show lgs (sF (sF σ 22 (CR σ B n 0)) 23 (bkF σ B n e (fun j => if j = n then (e : Int) else σ 23 j))) B = (n : Int) from hn.symm]
      rw [mL23 (by omega) (by omega), sF_at, Int.toNat_natCast]
      have e1 : bkF σ B n e (fun j => if j = n then (e : Int) else σ 23 j) n = e := by
        rw [bkF_base (F' := fun i => if i = (lgs σ B).toNat then (e : Int) else 0) (Or.inr (by rw [if_pos rfl, if_pos (by omega)]))]
        have := pt_end hw.1 (e := e) hB hn
        unfold pt at this
        rw [show (lgs σ B).toNat = n by omega] at this ⊢
        exact this
      rw [e1]
      rfl
  · refine ⟨σ 22, σ 23, ?_⟩
    simp (disch := omega) only [rcv_M, mR0, mS0, mR1, mL1, mS1, mR2, mL2, mS2, mR3, mL3, mS3, mR4, mS4, mR5, mS5, mR6, mL6, mS6, mR7, mL7, mS7, mR8, mL8, mS8, mR9, mS9, mR10, mL10, mS10, mR11, mL11, mS11, mR12, mL12, mS12, mR13, mL13, mS13, mR14, mL14, mS14, mR15, mL15, mS15, mR16, mL16, mS16, mR17, mL17, mS17, mR18, mL18, mS18, mR19, mL19, mS19, mR20, mL20, mS20, mR21, mL21, mS21, mR22, mL22, mS22, mR23, mL23, mS23, mR24, mL24, mS24, mR25, mL25, mS25, mR26, mL26, mS26, mR27, mL27, mS27, mR28, mL28, mS28, mR29, mL29, mS29, mR30, mL30, mS30, mR31, mL31, mS31, mR32, mL32, mS32, mR33, mL33, mS33, iI_0, iI_1, iI_neg, iL2, iL3, iL4, iL5, iL6, iL7, iL8, iL9, iL10, iL11, iL12, iL13, iL14, iL15, iL16, iL17, iL30, iL31, iL60, iL99, iL100, iL240, iL480, iL1000, iL1920, iL10000, iI_add, iI_sub, iI_mul, iI_div, iI_le, iI_lt, iI_eq, bd_s, s_isBid hw.1, iI_b2, c1, and_self, not_true_eq_false, not_false_eq_true, if_true, if_false, and_true, true_and]
    rw [show sF (sF σ 22 (σ 22)) 23 (σ 23) = σ by rw [show sF σ 22 (σ 22) = σ from sF_self σ 22]; exact sF_self σ 23]
    rfl
set_option maxHeartbeats 4000000 in
theorem s_give (hw : WB σ) (b : Nat) (hb : (b : Int) < σ 9 0) : ∃ f22 f23, f_X8_give m (iI b) (MH h m σ) = (match fnd σ b with
    | none => some (iI 0, MH h m (sF (sF σ 22 f22) 23 f23))
    | some e => some (iI 1, MH h m (sF (sF (giv σ b e) 22 f22) 23 f23))) := by
  have h9 := hw.1.2.2.2.1
  have hB : b < 16 := by omega
  have hlg := lgs_rng hw.1 hB
  have hl1 := hw.lgs hb
  obtain ⟨n, hn⟩ : ∃ n : Nat, (n : Int) = lgs σ b := ⟨(lgs σ b).toNat, by omega⟩
  have hn2 : (lgs σ b).toNat = n := by omega
  have c1 : 0 ≤ (b : Int) ∧ (b : Int) < σ 9 0 := ⟨by omega, hb⟩
  unfold f_X8_give f_X8_give_16
  simp (disch := omega) only [rcv_M, mR0, mS0, mR1, mL1, mS1, mR2, mL2, mS2, mR3, mL3, mS3, mR4, mS4, mR5, mS5, mR6, mL6, mS6, mR7, mL7, mS7, mR8, mL8, mS8, mR9, mS9, mR10, mL10, mS10, mR11, mL11, mS11, mR12, mL12, mS12, mR13, mL13, mS13, mR14, mL14, mS14, mR15, mL15, mS15, mR16, mL16, mS16, mR17, mL17, mS17, mR18, mL18, mS18, mR19, mL19, mS19, mR20, mL20, mS20, mR21, mL21, mS21, mR22, mL22, mS22, mR23, mL23, mS23, mR24, mL24, mS24, mR25, mL25, mS25, mR26, mL26, mS26, mR27, mL27, mS27, mR28, mL28, mS28, mR29, mL29, mS29, mR30, mL30, mS30, mR31, mL31, mS31, mR32, mL32, mS32, mR33, mL33, mS33, iI_0, iI_1, iI_neg, iL2, iL3, iL4, iL5, iL6, iL7, iL8, iL9, iL10, iL11, iL12, iL13, iL14, iL15, iL16, iL17, iL30, iL31, iL60, iL99, iL100, iL240, iL480, iL1000, iL1920, iL10000, iI_add, iI_sub, iI_mul, iI_div, iI_le, iI_lt, iI_eq, bd_s, s_isBid hw.1, iI_b2, c1, and_self, not_true_eq_false, not_false_eq_true, if_true, if_false, and_true, true_and, s_seeks hw.1 b n hB hn (by omega), Int.toNat_natCast]
  cases hf : fnd σ b with
  | none =>
    refine ⟨CR σ b n 0, σ 23, ?_⟩
    simp only [bd_s, if_true]
    rw [rt0]
    rw [show sF (sF σ 22 (CR σ b n 0)) 23 (σ 23) = sF σ 22 (CR σ b n 0) from sF_self (sF σ 22 (CR σ b n 0)) 23]
  | some e =>
    refine ⟨CR σ b n 0, bkF σ b n e (fun j => if j = n then (e : Int) else σ 23 j), ?_⟩
    simp only [bd_s]
    rw [if_neg (show ¬ iI 1 = iI 0 by decide)]
    generalize hF : bkF σ b n e (fun j => if j = n then (e : Int) else σ 23 j) = F
    have hFp : ∀ j, j ≤ n → F j = pt σ b e j := by
      intro j hj
      rw [← hF]
      unfold pt
      rw [hn2]
      apply bkF_base
      by_cases hjn : j = n
      · right; rw [if_pos hjn, if_pos hjn]
      · left; omega
    rw [mR19, mS19 (by omega) (by omega) 1 _ (Or.inr rfl), Int.toNat_natCast]
    generalize hX : sg (sF (sF σ 22 (CR σ b n 0)) 23 F) 19 b 1 = X
    have hX20 : (fun i => X 20 i) = σ 20 := by rw [← hX]; rfl
    have hX23 : ∀ j, X 23 j = F j := by intro j; rw [← hX]; rfl
    have hwX : WF X := by
      rw [← hX]
      obtain ⟨q1, q2, q3, q4, q5, q6, q7, q8, q9, q10⟩ := hw.1
      refine ⟨q1, q2, q3, q4, q5, q6, q7, q8, fun c hc => ?_, q10⟩
      obtain ⟨r1, r2, r3, r4, r5, r6, r7, r8, r9, r10⟩ := q9 c hc
      refine ⟨r1, r2, r3, r4, r5, r6, r7, r8, r9, ?_⟩
      show (if 19 = 19 ∧ c = b then (1 : Int) else σ 19 c) = 0 ∨ (if 19 = 19 ∧ c = b then (1 : Int) else σ 19 c) = 1
      split
      · exact Or.inr rfl
      · exact r10
    have hlX : lgs X b = n := by rw [hn, ← hX]; rfl
    unfold f_X8_give_27
    have e0 : (some m, iI (b : Int), iI 0, MH h m X) = (fun i : Nat => (some m, iI (b : Int), iI (i : Int), MH h m (sF X 20 (fun j => if 8 * b ≤ j ∧ j < 8 * b + i then F (j - 8 * b) else σ 20 j)))) 0 := by
      show _ = (some m, iI (b : Int), iI ((0 : Nat) : Int), MH h m (sF X 20 (fun j => if 8 * b ≤ j ∧ j < 8 * b + 0 then F (j - 8 * b) else σ 20 j)))
      rw [show (fun j => if 8 * b ≤ j ∧ j < 8 * b + 0 then F (j - 8 * b) else σ 20 j) = fun j => X 20 j by
        rw [hX20]; funext j; rw [if_neg (by omega)], sF_self]
      rfl
    rw [e0]
    refine (lp_count (B := fun k27 u => fb_X8_give_27 k27 u.1 u.2.1 u.2.2.1 u.2.2.2) (fun i : Nat => (some m, iI (b : Int), iI (i : Int), MH h m (sF X 20 (fun j => if 8 * b ≤ j ∧ j < 8 * b + i then F (j - 8 * b) else σ 20 j)))) (n + 1) (some (iI 1, MH h m (sF X 20 (fun j => if 8 * b ≤ j ∧ j < 8 * b + (n + 1) then F (j - 8 * b) else σ 20 j)))) (fun i hi k => ?_) (fun k => ?_) (n + 1) 0 FU (by omega) (by rw [FU_eq]; omega)).trans ?_
    · show fb_X8_give_27 k (some m) (iI (b : Int)) (iI (i : Int)) (MH h m (sF X 20 (fun j => if 8 * b ≤ j ∧ j < 8 * b + i then F (j - 8 * b) else σ 20 j))) = k (some m, iI (b : Int), iI ((i + 1 : Nat) : Int), MH h m (sF X 20 (fun j => if 8 * b ≤ j ∧ j < 8 * b + (i + 1) then F (j - 8 * b) else σ 20 j)))
      generalize hY : (fun j => if 8 * b ≤ j ∧ j < 8 * b + i then F (j - 8 * b) else σ 20 j) = Y
      have e23 : sF X 20 Y 23 i = F i := hX23 i
      have hwY : WF (sF X 20 Y) := by
        obtain ⟨q1, q2, q3, q4, q5, q6, q7, q8, q9, q10⟩ := hwX
        refine ⟨q1, q2, q3, q4, q5, q6, q7, q8, q9, fun c hc => ⟨?_, (q10 c hc).2⟩⟩
        show 0 ≤ Y c ∧ Y c ≤ 239
        rw [← hY]
        have h20 := (hw.1.2.2.2.2.2.2.2.2.2 c hc).1
        show 0 ≤ (if 8 * b ≤ c ∧ c < 8 * b + i then F (c - 8 * b) else σ 20 c) ∧ (if 8 * b ≤ c ∧ c < 8 * b + i then F (c - 8 * b) else σ 20 c) ≤ 239
        split
        · rw [hFp _ (by omega)]
          exact pt_rng hw.1 hB hf _
        · exact h20
      have eL := s_legs (h := h) (m := m) hwY b hB
      rw [show lgs (sF X 20 Y) b = n from hlX] at eL
      unfold fb_X8_give_27
      simp (disch := omega) only [rcv_M, mR0, mS0, mR1, mL1, mS1, mR2, mL2, mS2, mR3, mL3, mS3, mR4, mS4, mR5, mS5, mR6, mL6, mS6, mR7, mL7, mS7, mR8, mL8, mS8, mR9, mS9, mR10, mL10, mS10, mR11, mL11, mS11, mR12, mL12, mS12, mR13, mL13, mS13, mR14, mL14, mS14, mR15, mL15, mS15, mR16, mL16, mS16, mR17, mL17, mS17, mR18, mL18, mS18, mR19, mL19, mS19, mR20, mL20, mS20, mR21, mL21, mS21, mR22, mL22, mS22, mR23, mL23, mS23, mR24, mL24, mS24, mR25, mL25, mS25, mR26, mL26, mS26, mR27, mL27, mS27, mR28, mL28, mS28, mR29, mL29, mS29, mR30, mL30, mS30, mR31, mL31, mS31, mR32, mL32, mS32, mR33, mL33, mS33, iI_0, iI_1, iI_neg, iL2, iL3, iL4, iL5, iL6, iL7, iL8, iL9, iL10, iL11, iL12, iL13, iL14, iL15, iL16, iL17, iL30, iL31, iL60, iL99, iL100, iL240, iL480, iL1000, iL1920, iL10000, iI_add, iI_sub, iI_mul, iI_div, iI_le, iI_lt, iI_eq, bd_s, eL, Int.toNat_natCast, e23, sg_sF, Int.natCast_succ]
      rw [if_neg (by omega)]
      rw [show (fun j => if j = (8 * (b : Int) + (i : Int)).toNat then F i else Y j) = fun j => if 8 * b ≤ j ∧ j < 8 * b + (i + 1) then F (j - 8 * b) else σ 20 j by
        funext j
        rw [show (8 * (b : Int) + (i : Int)).toNat = 8 * b + i by omega, ← hY]
        show (if j = 8 * b + i then F i else if 8 * b ≤ j ∧ j < 8 * b + i then F (j - 8 * b) else σ 20 j) = _
        by_cases c2 : j = 8 * b + i
        · rw [if_pos c2, if_pos (by omega), c2, show 8 * b + i - 8 * b = i by omega]
        · rw [if_neg c2]
          by_cases c3 : 8 * b ≤ j ∧ j < 8 * b + i
          · rw [if_pos c3, if_pos (by omega)]
          · rw [if_neg c3, if_neg (by omega)]]
    · show fb_X8_give_27 k (some m) (iI (b : Int)) (iI ((n + 1 : Nat) : Int)) (MH h m (sF X 20 (fun j => if 8 * b ≤ j ∧ j < 8 * b + (n + 1) then F (j - 8 * b) else σ 20 j))) = _
      generalize hY : (fun j => if 8 * b ≤ j ∧ j < 8 * b + (n + 1) then F (j - 8 * b) else σ 20 j) = Y
      have hwY : WF (sF X 20 Y) := by
        obtain ⟨q1, q2, q3, q4, q5, q6, q7, q8, q9, q10⟩ := hwX
        refine ⟨q1, q2, q3, q4, q5, q6, q7, q8, q9, fun c hc => ⟨?_, (q10 c hc).2⟩⟩
        show 0 ≤ Y c ∧ Y c ≤ 239
        rw [← hY]
        have h20 := (hw.1.2.2.2.2.2.2.2.2.2 c hc).1
        show 0 ≤ (if 8 * b ≤ c ∧ c < 8 * b + (n + 1) then F (c - 8 * b) else σ 20 c) ∧ (if 8 * b ≤ c ∧ c < 8 * b + (n + 1) then F (c - 8 * b) else σ 20 c) ≤ 239
        split
        · rw [hFp _ (by omega)]
          exact pt_rng hw.1 hB hf _
        · exact h20
      have eL := s_legs (h := h) (m := m) hwY b hB
      rw [show lgs (sF X 20 Y) b = n from hlX] at eL
      unfold fb_X8_give_27
      simp (disch := omega) only [rcv_M, mR0, mS0, mR1, mL1, mS1, mR2, mL2, mS2, mR3, mL3, mS3, mR4, mS4, mR5, mS5, mR6, mL6, mS6, mR7, mL7, mS7, mR8, mL8, mS8, mR9, mS9, mR10, mL10, mS10, mR11, mL11, mS11, mR12, mL12, mS12, mR13, mL13, mS13, mR14, mL14, mS14, mR15, mL15, mS15, mR16, mL16, mS16, mR17, mL17, mS17, mR18, mL18, mS18, mR19, mL19, mS19, mR20, mL20, mS20, mR21, mL21, mS21, mR22, mL22, mS22, mR23, mL23, mS23, mR24, mL24, mS24, mR25, mL25, mS25, mR26, mL26, mS26, mR27, mL27, mS27, mR28, mL28, mS28, mR29, mL29, mS29, mR30, mL30, mS30, mR31, mL31, mS31, mR32, mL32, mS32, mR33, mL33, mS33, iI_0, iI_1, iI_neg, iL2, iL3, iL4, iL5, iL6, iL7, iL8, iL9, iL10, iL11, iL12, iL13, iL14, iL15, iL16, iL17, iL30, iL31, iL60, iL99, iL100, iL240, iL480, iL1000, iL1920, iL10000, iI_add, iI_sub, iI_mul, iI_div, iI_le, iI_lt, iI_eq, bd_s, eL, rt1]
      rw [if_pos (by omega)]
    · congr 3
      rw [← hX]
      funext f i
      unfold sF sg giv
      rw [hn2]
      by_cases d0 : f = 20
      · subst d0
        simp only [if_true, if_neg (show ¬ 20 = 23 by decide), if_neg (show ¬ 20 = 22 by decide), if_neg (show ¬ (20 = 19 ∧ i = b) from fun z => absurd z.1 (by decide)), true_and]
        by_cases d1 : 8 * b ≤ i ∧ i < 8 * b + (n + 1)
        · rw [if_pos d1, if_pos (by omega), hFp _ (by omega)]
        · rw [if_neg d1, if_neg (by omega)]
      · rw [if_neg d0]
        by_cases d1 : f = 19 ∧ i = b
        · rw [if_pos d1, if_pos d1, if_neg (by omega), if_neg (by omega)]
        · rw [if_neg d1, if_neg d1]
          rw [if_neg (show ¬ (f = 20 ∧ _) from fun z => d0 z.1)]
end
