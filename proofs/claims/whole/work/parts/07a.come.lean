/-! a bid takes its path; it comes with its partner -/
def tkI (κ : Sg) (b j : Nat) : Sg := fun f i => if f = 20 ∧ 8 * b ≤ i ∧ i < 8 * b + j then κ 45 (i - 8 * b) else if f = 41 ∧ 8 * b ≤ i ∧ i < 8 * b + j then κ 46 (i - 8 * b) else κ f i
def tkS (κ : Sg) (b : Nat) : Sg := sg (tkI κ b 8) 19 b 1
/-- the class's state, as its methods need it -/
def R45 (κ : Sg) : Prop := ∀ j : Nat, 0 ≤ κ 45 j ∧ κ 45 j ≤ 239
def KI (h : Hp) (A : CA) (κ : Sg) (ρ : Nat → Nat) : Prop := KO h A κ ρ ∧ CM κ ∧ WK κ ∧ R45 κ
theorem tkI_k {κ : Sg} {b j f i : Nat} (h1 : f ≠ 20) (h2 : f ≠ 41) : tkI κ b j f i = κ f i := by
  unfold tkI
  rw [if_neg (fun z => h1 z.1), if_neg (fun z => h2 z.1)]
theorem tkS_k {κ : Sg} {b f i : Nat} (h0 : f ≠ 19) (h1 : f ≠ 20) (h2 : f ≠ 41) : tkS κ b f i = κ f i := by
  unfold tkS
  rw [sg_f _ _ _ _ h0, tkI_k h1 h2]
theorem tkS_19 {κ : Sg} {b c : Nat} : tkS κ b 19 c = if c = b then 1 else κ 19 c := by
  unfold tkS
  by_cases h : c = b
  · subst h; rw [sg_eq, if_pos rfl]
  · rw [sg_i _ _ _ h, if_neg h, tkI_k (by decide) (by decide)]
section
variable {h : Hp} {A : CA} {κ : Sg} {ρ : Nat → Nat}
theorem k_takePath {b : Nat} (hb : b < A.n) (hb2 : b < 16) : f_X0_takePath (A.b b) (some (A.x + 16)) (some (A.x + 17)) (CH h A κ) = some ((), CH h A (tkS κ b)) := by
  unfold f_X0_takePath f_X0_takePath_2
  rw [iI_0]
  have h0 : κ = tkI κ b 0 := by
    funext f i
    unfold tkI
    rw [if_neg (by omega), if_neg (by omega)]
  have := lp_count (B := fun k2 u => fb_X0_takePath_2 k2 u.1 u.2.1 u.2.2.1 u.2.2.2.1 u.2.2.2.2) (fun j => (some (A.b b), some (A.x + 16), some (A.x + 17), iI (j : Int), CH h A (tkI κ b j))) 8 (some ((), CH h A (tkS κ b)))
    (fun j hj k => by
      show fb_X0_takePath_2 k (some (A.b b)) (some (A.x + 16)) (some (A.x + 17)) (iI (j : Int)) (CH h A (tkI κ b j)) = k (some (A.b b), some (A.x + 16), some (A.x + 17), iI ((j + 1 : Nat) : Int), CH h A (tkI κ b (j + 1)))
      have e1 : sg (sg (tkI κ b j) 20 (8 * (b : Int) + (j : Int)).toNat (κ 45 j)) 41 (8 * (b : Int) + (j : Int)).toNat (κ 46 j) = tkI κ b (j + 1) := by
        rw [show (8 * (b : Int) + (j : Int)).toNat = 8 * b + j by omega]
        funext f i
        unfold sg tkI
        by_cases hi : i = 8 * b + j
        · subst hi
          rw [show 8 * b + j - 8 * b = j by omega]
          (repeat' split) <;> first | rfl | omega
        · (repeat' split) <;> first | rfl | omega
      have e2 : tkI κ b j 45 j = κ 45 j := tkI_k (by decide) (by decide)
      have e3 : sg (tkI κ b j) 20 (8 * (b : Int) + (j : Int)).toNat (κ 45 j) 46 j = κ 46 j := by
        rw [sg_f _ _ _ _ (by decide)]
        exact tkI_k (by decide) (by decide)
      unfold fb_X0_takePath_2
      simp (disch := omega) only [iL239, cV0, cR0_0, cR0_1, cR0_2, cR0_3, cR0_4, cR0_5, cV1, cR1_1, cR1_2, cR1_3, cR1_4, cR1_5, cR1_6, cR1_7, cI1_0, cI1_8, cP1_8, cI1_9, cP1_9, cV9, cR9_0, cR9_1, cV10, cV11, cV12, cR12_0, cR12_1, cR12_2, cR12_3, cR12_4, cR12_5, cR12_6, cV18, cR18_0, cR18_1, cR18_2, cR18_3, cR18_4, cI18_5, cP18_5, cI18_6, cP18_6, cV22, cR22_0, cR22_1, cI22_2, cP22_2, cI22_3, cP22_3, cI22_4, cP22_4, cV23, cR23_0, cR23_1, cR23_3, cR23_4, cR23_5, cR23_6, cR23_7, cR23_8, cR23_9, cR23_10, cI23_2, cP23_2, cR10_1, cI10_2, cR11_1, cI11_2, cL2, cS2, cL3, cS3, cL4, cS4, cL5, cS5, cL6, cS6, cL7, cS7, cL8, cS8, cL13, cS13, cL14, cS14, cL15, cS15, cL16, cS16, cL17, cS17, cL19, cS19, cL20, cS20, cL21, cS21, cL24, cS24, cL25, cS25, cL26, cS26, cL27, cS27, cL28, cS28, cL29, cS29, cL30, cS30, cL31, cS31, bV, bK, bI0, bI1, bI2, bI3, bI4, bI5, bI6, bI7, bI8, bI9, bI10, bR11, bR12, bR13, bP9, bP10, bL1, bS1, bL2, bS2, bL3, bS3, iI_0, iI_1, iI_neg, iL2, iL3, iL4, iL5, iL6, iL7, iL8, iL9, iL10, iL11, iL12, iL13, iL14, iL15, iL16, iL17, iL30, iL31, iL60, iL99, iL100, iL240, iL480, iL1000, iL1920, iL10000, iI_add, iI_sub, iI_mul, iI_div, iI_le, iI_lt, iI_eq, bd_s, Int.toNat_natCast, e2, e3, e1, Int.natCast_succ]
      rw [if_neg (by omega)])
    (fun k => by
      show fb_X0_takePath_2 k (some (A.b b)) (some (A.x + 16)) (some (A.x + 17)) (iI ((8 : Nat) : Int)) (CH h A (tkI κ b 8)) = _
      unfold fb_X0_takePath_2
      simp (disch := omega) only [iL239, cV0, cR0_0, cR0_1, cR0_2, cR0_3, cR0_4, cR0_5, cV1, cR1_1, cR1_2, cR1_3, cR1_4, cR1_5, cR1_6, cR1_7, cI1_0, cI1_8, cP1_8, cI1_9, cP1_9, cV9, cR9_0, cR9_1, cV10, cV11, cV12, cR12_0, cR12_1, cR12_2, cR12_3, cR12_4, cR12_5, cR12_6, cV18, cR18_0, cR18_1, cR18_2, cR18_3, cR18_4, cI18_5, cP18_5, cI18_6, cP18_6, cV22, cR22_0, cR22_1, cI22_2, cP22_2, cI22_3, cP22_3, cI22_4, cP22_4, cV23, cR23_0, cR23_1, cR23_3, cR23_4, cR23_5, cR23_6, cR23_7, cR23_8, cR23_9, cR23_10, cI23_2, cP23_2, cR10_1, cI10_2, cR11_1, cI11_2, cL2, cS2, cL3, cS3, cL4, cS4, cL5, cS5, cL6, cS6, cL7, cS7, cL8, cS8, cL13, cS13, cL14, cS14, cL15, cS15, cL16, cS16, cL17, cS17, cL19, cS19, cL20, cS20, cL21, cS21, cL24, cS24, cL25, cS25, cL26, cS26, cL27, cS27, cL28, cS28, cL29, cS29, cL30, cS30, cL31, cS31, bV, bK, bI0, bI1, bI2, bI3, bI4, bI5, bI6, bI7, bI8, bI9, bI10, bR11, bR12, bR13, bP9, bP10, bL1, bS1, bL2, bS2, bL3, bS3, iI_0, iI_1, iI_neg, iL2, iL3, iL4, iL5, iL6, iL7, iL8, iL9, iL10, iL11, iL12, iL13, iL14, iL15, iL16, iL17, iL30, iL31, iL60, iL99, iL100, iL240, iL480, iL1000, iL1920, iL10000, iI_add, iI_sub, iI_mul, iI_div, iI_le, iI_lt, iI_eq, bd_s]
      rw [if_pos (by omega)]
      rfl) 8 0 FU (by omega) (by rw [FU_eq]; omega)
  rw [← h0] at this
  exact this
/-- the search has found e for b in state κ, and left υ -/
def FD (κ υ : Sg) (b e : Nat) : Prop := (∀ j, υ 45 j = bkF κ b (lgs κ b).toNat e (κ 45) j) ∧ ∀ j : Nat, (j : Int) < lgs κ b → υ 46 (j + 1) = υ 45 j + lng κ b j
theorem KI.find (hk : KI h A κ ρ) {b : Nat} (hb : b < A.n) : ∃ υ, Ex [42, 43, 44, 45, 46] κ υ ∧ KI h A υ ρ ∧ (∀ e, fnd κ b = some e → FD κ υ b e) ∧ f_X4_endFor (A.x + 12) (some (A.b b)) (CH h A κ) = some (iI (match fnd κ b with | some e => (e : Int) | none => -1), CH h A υ) := by
  obtain ⟨hko, hc, hwk, hr⟩ := hk
  have h16 := hko.n16
  obtain ⟨υ, u1, u2⟩ := k_endFor hko hc hwk hb
  have hcor := u1.cor (by decide)
  have hko2 := hko.ex u1 (by decide)
  have hc2 : CM υ := by
    intro o j h1 h2 h3 h4
    rw [cor_eq hcor (f := 9) (by omega)] at h1
    rw [cor_eq hcor (f := 19) (by omega)] at h2
    have e1 : ∀ σ : Sg, lgs σ o = lgs (cor σ) o := fun _ => rfl
    have e2 : ∀ σ : Sg, cmT σ o j = cmT (cor σ) o j := fun _ => rfl
    rw [e1 υ, hcor, ← e1 κ] at h4
    rw [e2 υ, hcor, ← e2 κ]
    exact (u1 41 _ (by decide)).trans (hc o j h1 h2 h3 h4)
  have hwk2 : WK υ := by
    intro w hw
    rw [cor_eq hcor (f := 5) (by omega)] at hw
    rw [cor_eq hcor (f := 7) (by omega), cor_eq hcor (f := 8) (by omega)]
    exact hwk w hw
  cases hf : fnd κ b with
  | none =>
    rw [hf] at u2
    obtain ⟨⟨u3, u4⟩, u5⟩ := u2
    refine ⟨υ, u1, ⟨hko2, hc2, hwk2, ?_⟩, fun e he => (by cases he), u5⟩
    intro j
    rw [u3]
    exact hr j
  | some e =>
    rw [hf] at u2
    obtain ⟨⟨u3, u4, -⟩, u5⟩ := u2
    refine ⟨υ, u1, ⟨hko2, hc2, hwk2, ?_⟩, fun e' he => (by cases he; exact ⟨u3, u4⟩), u5⟩
    intro j
    obtain ⟨f1, f2, f3⟩ := fnd_ok hko.1.1 (by omega) hf
    have hlg := lgs_rng hko.1.1 (b := b) (by omega)
    rw [u3 j]
    exact bkF_rng hko.1.1 (by omega) (by omega) f2 (fun _ => f1) hr j
/-- having found it, the bid takes it -/
theorem KI.take {υ : Sg} (hk : KI h A κ ρ) (hu : KI h A υ ρ) (hx : Ex [42, 43, 44, 45, 46] κ υ) {b e : Nat} (hb : b < A.n) (hf : fnd κ b = some e) (hd : FD κ υ b e) : KI h A (tkS υ b) ρ ∧ EQ (tkS υ b) (giv κ b e) := by
  have h16 := hk.1.n16
  have hcor := hx.cor (by decide)
  have hlg := lgs_rng hk.1.1.1 (b := b) (by omega)
  have elg : ∀ c, lgs (tkS υ b) c = lgs κ c := fun c => by
    have e1 : ∀ σ : Sg, lgs σ c = lgs (cor σ) c := fun _ => rfl
    have e2 : lgs (tkS υ b) c = lgs υ c := by
      unfold lgs
      rw [tkS_k (by decide) (by decide) (by decide), tkS_k (by decide) (by decide) (by decide)]
    rw [e2, e1 υ, hcor, ← e1 κ]
  have eln : ∀ c (i : Int), lng (tkS υ b) c i = lng κ c i := fun c i => by
    have e1 : ∀ σ : Sg, lng σ c i = lng (cor σ) c i := fun _ => rfl
    have e2 : lng (tkS υ b) c i = lng υ c i := by
      unfold lng sec
      rw [tkS_k (by decide) (by decide) (by decide), tkS_k (by decide) (by decide) (by decide), tkS_k (by decide) (by decide) (by decide), tkS_k (by decide) (by decide) (by decide)]
    rw [e2, e1 υ, hcor, ← e1 κ]
  have e20 : ∀ c (i : Int), c < 16 → 0 ≤ i → i < 8 → lv (tkS υ b) c i = if c = b then υ 45 i.toNat else lv υ c i := fun c i hc i0 i1 => by
    unfold lv tkS
    rw [sg_f _ _ _ _ (by decide)]
    unfold tkI
    by_cases q : c = b
    · subst q
      rw [if_pos (by omega), if_pos rfl]
      congr 1
      omega
    · rw [if_neg q, if_neg (by omega), if_neg (by omega)]
  have e41 : ∀ c (i : Int), c < 16 → 0 ≤ i → i < 8 → cv (tkS υ b) c i = if c = b then υ 46 i.toNat else cv υ c i := fun c i hc i0 i1 => by
    unfold cv tkS
    rw [sg_f _ _ _ _ (by decide)]
    unfold tkI
    by_cases q : c = b
    · subst q
      rw [if_neg (by omega), if_pos (by omega), if_pos rfl]
      congr 1
      omega
    · rw [if_neg q, if_neg (by omega), if_neg (by omega)]
  have hko : KO h A (tkS υ b) ρ := by
    obtain ⟨hw, hl, hn⟩ := hu.1
    refine ⟨⟨?_, ?_⟩, hl, ?_⟩
    · obtain ⟨q1, q2, q3, q4, q5, q6, q7, q8, q9, q10⟩ := hw.1
      have kk : ∀ f i, f ≠ 19 → f ≠ 20 → f ≠ 41 → tkS υ b f i = υ f i := fun f i z1 z2 z3 => tkS_k z1 z2 z3
      refine ⟨?_, ?_, ?_, ?_, fun i => ?_, fun i hi => ?_, fun i hi => ?_, fun i hi => ?_, fun c hc => ?_, fun i hi => ⟨?_, ?_⟩⟩
      · rw [kk _ _ (by decide) (by decide) (by decide)]; exact q1
      · rw [kk _ _ (by decide) (by decide) (by decide)]; exact q2
      · rw [kk _ _ (by decide) (by decide) (by decide)]; exact q3
      · rw [kk _ _ (by decide) (by decide) (by decide)]; exact q4
      · rw [kk _ _ (by decide) (by decide) (by decide)]; exact q5 i
      · rw [kk _ _ (by decide) (by decide) (by decide)]; exact q6 i hi
      · rw [kk _ _ (by decide) (by decide) (by decide)]; exact q7 i hi
      · rw [kk 6 _ (by decide) (by decide) (by decide), kk 7 _ (by decide) (by decide) (by decide), kk 8 _ (by decide) (by decide) (by decide)]; exact q8 i hi
      · obtain ⟨r1, r2, r3, r4, r5, r6, r7, r8, r9, r10⟩ := q9 c hc
        rw [kk 10 _ (by decide) (by decide) (by decide), kk 11 _ (by decide) (by decide) (by decide), kk 12 _ (by decide) (by decide) (by decide), kk 13 _ (by decide) (by decide) (by decide), kk 14 _ (by decide) (by decide) (by decide), kk 15 _ (by decide) (by decide) (by decide), kk 16 _ (by decide) (by decide) (by decide), kk 17 _ (by decide) (by decide) (by decide), kk 18 _ (by decide) (by decide) (by decide), tkS_19]
        refine ⟨r1, r2, r3, r4, r5, r6, r7, r8, r9, ?_⟩
        split
        · exact Or.inr rfl
        · exact r10
      · unfold tkS
        rw [sg_f _ _ _ _ (by decide)]
        unfold tkI
        by_cases c : 8 * b ≤ i ∧ i < 8 * b + 8
        · rw [if_pos ⟨rfl, c⟩]; exact hu.2.2.2 _
        · rw [if_neg (fun z => c z.2), if_neg (by omega)]; exact (q10 i hi).1
      · rw [kk _ _ (by decide) (by decide) (by decide)]; exact (q10 i hi).2
    · intro c hc
      rw [tkS_k (by decide) (by decide) (by decide)] at hc
      rw [tkS_k (by decide) (by decide) (by decide), tkS_k (by decide) (by decide) (by decide), tkS_k (by decide) (by decide) (by decide)]
      exact hw.2 c hc
    · rw [tkS_k (by decide) (by decide) (by decide)]; exact hn
  have hpt : ∀ i : Int, 0 ≤ i → i < lgs κ b → υ 45 i.toNat = pt κ b e i.toNat := fun i i0 i1 => by
    rw [hd.1]
    unfold pt
    exact bkF_base (Or.inl (by omega))
  refine ⟨⟨hko, ?_, ?_, ?_⟩, ⟨fun f i h1 h2 => ?_, fun c i h1 h2 h3 h4 => ?_⟩⟩
  · intro c i h1 h2 h3 h4
    rw [hko.2.2] at h1
    have hlc := lgs_rng hk.1.1.1 (b := c) (by omega)
    rw [elg] at h4
    unfold cmT
    rw [eln, e41 c i (by omega) (by omega) (by omega), e20 c (i - 1) (by omega) (by omega) (by omega)]
    by_cases q : c = b
    · subst q
      rw [if_pos rfl, if_pos rfl]
      have := hd.2 (i - 1).toNat (by omega)
      rw [show (i - 1).toNat + 1 = i.toNat by omega] at this
      rw [this]
      congr 2
      omega
    · rw [if_neg q, if_neg q]
      rw [tkS_19, if_neg q] at h2
      have hcm := hu.2.1 c i (by rw [hu.1.2.2]; exact h1) h2 h3 (by
        have e1 : ∀ σ : Sg, lgs σ c = lgs (cor σ) c := fun _ => rfl
        rw [e1 υ, hcor, ← e1 κ]; exact h4)
      rw [hcm]
      unfold cmT
      have e1 : ∀ σ : Sg, lng σ c (i - 1) = lng (cor σ) c (i - 1) := fun _ => rfl
      rw [e1 υ, hcor, ← e1 κ]
  · intro w hw
    rw [tkS_k (by decide) (by decide) (by decide)] at hw
    rw [tkS_k (by decide) (by decide) (by decide), tkS_k (by decide) (by decide) (by decide)]
    exact hu.2.2.1 w hw
  · intro j
    rw [tkS_k (by decide) (by decide) (by decide)]
    exact hu.2.2.2 j
  · by_cases q : f = 19
    · subst q
      rw [tkS_19, giv_19, hx 19 i (by decide)]
    · rw [tkS_k q h2 (by omega), giv_k _ _ _ _ (by omega), hx f i (fun z => by simp at z; omega)]
  · rw [hko.2.2] at h1
    rw [elg] at h4
    have hlc := lgs_rng hk.1.1.1 (b := c) (by omega)
    rw [e20 c i (by omega) h3 (by omega), lv_giv hk.1.1.1 (by omega) (by omega) h3 h4]
    by_cases q : c = b
    · subst q
      rw [if_pos rfl, if_pos rfl]
      exact hpt i h3 h4
    · rw [if_neg q, if_neg q]
      exact hx 20 _ (by decide)
end
