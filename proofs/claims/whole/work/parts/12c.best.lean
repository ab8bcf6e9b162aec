/-! the best order, in both -/
theorem goL_EQ {lk : Nat → Nat} {n : Nat} : ∀ (l : List Nat) (x y : Sg × (Nat → Bool)), EQ x.1 y.1 → x.2 = y.2 → WB x.1 → WB y.1 → LK x.1 → x.1 9 0 = n → (∀ b, b ∈ l → b < n) → EQ (l.foldl (gs lk) x).1 (l.foldl (gs lk) y).1 ∧ (l.foldl (gs lk) x).2 = (l.foldl (gs lk) y).2
  | [], x, y, h, e, _, _, _, _, _ => ⟨h, e⟩
  | b :: l, x, y, h, e, wx, wy, hl, h9, hb => by
    have hbn := hb b (List.mem_cons_self ..)
    show EQ (l.foldl (gs lk) (gs lk x b)).1 (l.foldl (gs lk) (gs lk y b)).1 ∧ (l.foldl (gs lk) (gs lk x b)).2 = (l.foldl (gs lk) (gs lk y b)).2
    have e9 := h.1 9 0 (by omega) (by omega)
    by_cases c : x.2 b = true
    · have e1 : gs lk x b = x := by unfold gs; rw [if_pos c]
      have e2 : gs lk y b = y := by unfold gs; rw [if_pos (by rw [← e]; exact c)]
      rw [e1, e2]
      exact goL_EQ l x y h e wx wy hl h9 (fun b hb' => hb b (List.mem_cons_of_mem _ hb'))
    · have e1 : gs lk x b = (comeS x.1 b, cU lk x.2 b) := by unfold gs; rw [if_neg c]
      have e2 : gs lk y b = (comeS y.1 b, cU lk y.2 b) := by unfold gs; rw [if_neg (by rw [← e]; exact c)]
      obtain ⟨w1, w2⟩ := comeS_WB wx hl (b := b) (by omega)
      obtain ⟨w3, -⟩ := comeS_WB wy (h.WF hl) (b := b) (by omega)
      rw [e1, e2]
      refine goL_EQ l _ _ (h.comeS wx wy hl b (by omega)) (by show cU lk x.2 b = cU lk y.2 b; rw [e]) w1 w3 ?_ ?_ (fun b hb' => hb b (List.mem_cons_of_mem _ hb'))
      · intro c hc
        have hc' : (c : Int) < comeS x.1 b 9 0 := hc
        rw [w2 9 0 (by omega)] at hc'
        show comeS x.1 b 18 c = -1 ∨ (0 ≤ comeS x.1 b 18 c ∧ comeS x.1 b 18 c < comeS x.1 b 9 0)
        rw [w2 18 c (by omega), w2 9 0 (by omega)]
        exact hl c hc'
      · show comeS x.1 b 9 0 = n
        rw [w2 9 0 (by omega)]; exact h9
theorem HD_at {lk : Nat → Nat} {n : Nat} : ∀ (l : List Nat) (x : Sg × (Nat → Bool)), HD lk n x.2 l → ∀ j, j < l.length → ((l.take j).foldl (gs lk) x).2 (l.getD j 0) = false
  | [], _, _, j, hj => absurd hj (Nat.not_lt_zero _)
  | b :: l, x, h, 0, _ => h.1.2
  | b :: l, x, h, j + 1, hj => by
    have e1 : gs lk x b = (comeS x.1 b, cU lk x.2 b) := by unfold gs; rw [if_neg (by rw [h.1.2]; simp)]
    show ((l.take j).foldl (gs lk) (gs lk x b)).2 (l.getD j 0) = false
    exact HD_at l (gs lk x b) (by rw [e1]; exact h.2) j (by simpa using hj)
section
variable {h : Hp} {A : CA} {κ σ : Sg} {h' : Hp} {m : Nat} {ρ : Nat → Nat} {lk : Nat → Nat}
theorem clr_sumW (hn : κ 9 0 = A.n) : sumW (clrS κ) = 0 := by
  unfold sumW
  have e9 : clrS κ 9 0 = κ 9 0 := rfl
  rw [e9, hn, Int.toNat_natCast, sumI_congr (g := fun _ => 0) (fun j hj => by
    unfold wrt
    have : clrS κ 19 j = 0 := by
      unfold clrS
      rw [if_pos ⟨rfl, by omega⟩]
    rw [if_pos this])]
  have z : ∀ n, sumI (fun _ => 0) n = 0 := fun n => by
    induction n with
    | zero => rfl
    | succ n ih => rw [sumI_s, ih]; rfl
  exact z _
theorem GX0 (hw : WB κ) (hn : κ 9 0 = A.n) : GX κ A.n lk (goL lk κ []) := by
  refine ⟨clrS_WB hw, fun f i hf => ?_, fun i hi _ => ?_, fun i hi _ => rfl⟩
  · show clrS κ f i = κ f i
    unfold clrS
    rw [if_neg (by omega)]
  · show clrS κ 19 i = 0
    unfold clrS
    rw [if_pos ⟨rfl, by omega⟩]
theorem k_byBest (hk : KI h A κ ρ) (hl : LSy κ) (h1 : 1 ≤ A.n) (hn5 : A.n ≤ 5) (hlk : ∀ b, b < A.n → lk b = lkN κ b) : ∃ υ, KI h A υ ρ ∧ EQ υ (goL lk κ (fm (fun l => sumW (goL lk κ l).1) (-1, []) (dfL lk A.n 7 (fun _ => false))).2).1 ∧ Ex LD κ υ ∧ f_X5_comeByBestOrder (A.x + 18) (CH h A κ) = some ((), CH h A υ) := by
  have hw := hk.1.1
  have hn := hk.1.2.2
  have hl0 := hk.1.2.1
  have h16 := hk.1.n16
  have hg0 := GX0 (A := A) (lk := lk) hw hn
  obtain ⟨τ0, a1, a2, a3, a4, a5⟩ := k_startAnew hk
  -- before the tries
  have x1 : Ex [50, 51] τ0 (sg (sg τ0 51 0 (-1)) 50 0 0) := ((Ex.refl _ _).sg (by decide) _ _).sg (by decide) _ _
  have k1 := a1.ex x1 (by decide)
  have xx1 : Ex LD κ (sg (sg τ0 51 0 (-1)) 50 0 0) := (a3.mono (by decide)).trans (x1.mono (by decide))
  have hD : DI h A κ ρ lk [] (sg (sg τ0 51 0 (-1)) 50 0 0) (-1, []) := by
    refine ⟨k1, (EQ.ex x1 (by decide)).trans a2, xx1, fun i hi => ?_, fun j hj => absurd hj (Nat.not_lt_zero _), ⟨rfl, rfl, fun j hj => absurd hj (Nat.not_lt_zero _)⟩, ⟨by decide, by decide⟩, by decide, fun b hb => by cases hb⟩
    rw [x1 47 _ (by decide), a4 i (by omega)]
    rfl
  have hsum : rch κ A.n (goL lk κ []) = sumI (fun i => κ 16 i) A.n := by
    show sumW (clrS κ) + sumI (fun i => if false = true then 0 else κ 16 i) A.n = _
    rw [clr_sumW hn, Int.zero_add]
    rfl
  have hsr := sumI_rng (f := fun i => κ 16 i) (c := 1000) (by omega) (n := A.n) (fun j hj => (hw.1.bid (b := j) (by omega)).2.2.2.2.2.2.1)
  have hunc : unc A.n (goL lk κ []).2 ≤ A.n := (cntI_rng (fun i => !(goL lk κ []).2 i) A.n).2
  obtain ⟨τ2, t1, t2⟩ := k_try hw hl hn hn5 hlk 7 [] _ _ hD hg0 (fun b hb => by cases hb) (by show (0 : Int) + _ ≤ _; omega) (by omega) (by rw [hsum]; omega)
  have emap : (dfL lk A.n 7 (goL lk κ []).2).map (fun s => [] ++ s) = dfL lk A.n 7 (fun _ => false) := by
    show (dfL lk A.n 7 (fun _ => false)).map (fun s => s) = _
    exact List.map_id' _
  rw [emap] at t1
  obtain ⟨a, ea⟩ : ∃ a, fm (fun l => sumW (goL lk κ l).1) (-1, []) (dfL lk A.n 7 (fun _ => false)) = a := ⟨_, rfl⟩
  rw [ea] at t1 ⊢
  obtain ⟨b1, b2', b3, b4, b5, ⟨b6, b7, b8⟩, b9⟩ := t1
  have hHD : HD lk A.n (fun _ => false) a.2 := by
    rcases fm_mem (fun l => sumW (goL lk κ l).1) (dfL lk A.n 7 (fun _ => false)) (-1, []) with z | z
    · rw [ea] at z; rw [z]; exact trivial
    · rw [ea] at z; exact dfL_HD lk A.n 7 _ _ z.1
  -- and now in the best order
  obtain ⟨τ3, c1, c2, c3, c4, c5⟩ := k_startAnew b1
  have hSB : SB τ2 κ := by
    refine ⟨fun f i y1 y2 y3 => b3 f i (by simp; omega), fun i hi => ?_⟩
    rw [b1.1.2.2] at hi
    rw [b2'.1 19 i (by omega) (by omega)]
    show clrS κ 19 i = κ 19 i
    unfold clrS
    rw [if_neg (by omega)]
  have hE3 : EQ τ3 (clrS κ) := c2.trans (EQ.clr hSB)
  have h50 : τ3 50 0 = a.2.length := by rw [c3 50 _ (by decide)]; exact b7
  have h49 : ∀ j, j < a.2.length → τ3 49 j = (a.2.getD j 0 : Int) := fun j hj => by rw [c3 49 _ (by decide)]; exact b8 j hj
  have hgx : ∀ j, j ≤ a.2.length → GX κ A.n lk (goL lk κ (a.2.take j)) := fun j => by
    induction j with
    | zero => intro _; rw [List.take_zero]; exact hg0
    | succ j ih =>
      intro hj
      have hb : a.2.getD j 0 < A.n := HD_mem hHD _ (by rw [List.getD_eq_getElem?_getD, List.getElem?_eq_getElem (show j < a.2.length by omega)]; exact List.getElem_mem _)
      have e : a.2.take (j + 1) = a.2.take j ++ [a.2.getD j 0] := by
        rw [List.take_add_one, List.getD_eq_getElem?_getD, List.getElem?_eq_getElem (show j < a.2.length by omega)]
        rfl
      rw [e, goL_app]
      exact ((ih (by omega)).step hl hn.symm hlk hb (HD_at a.2 (goL lk κ []) hHD j (by omega))).1
  obtain ⟨υ, u1, u2⟩ := lp_rel (B := fun k67 w => fb_X5_comeByBestOrder_67 k67 w.1 w.2.1 w.2.2) (fun j (υ : Sg) => (some (A.x + 18), iI (j : Int), CH h A υ)) (fun j υ => KI h A υ ρ ∧ EQ υ (goL lk κ (a.2.take j)).1 ∧ Ex LC τ3 υ) a.2.length (fun υ => some ((), CH h A υ))
    (fun j υ hj hI => by
      obtain ⟨i1, i2, i3⟩ := hI
      have hb : a.2.getD j 0 < A.n := HD_mem hHD _ (by rw [List.getD_eq_getElem?_getD, List.getElem?_eq_getElem hj]; exact List.getElem_mem _)
      have hc := HD_at a.2 (goL lk κ []) hHD j hj
      have hx := hgx j (by omega)
      have xx : Ex LD κ υ := (b3.trans (c3.mono (by decide))).trans (i3.mono (by decide))
      have hls : LSy υ := hl.of (xx 9 _ (by decide)) (fun i => xx 18 i (by decide))
      have hg : υ 19 (a.2.getD j 0) = 0 := by
        rw [i2.1 19 _ (by omega) (by omega)]
        exact hx.2.2.1 _ hb hc
      obtain ⟨υ2, w1, w2, w3, w4, w5⟩ := k_come i1 hls hb hg
      have e : a.2.take (j + 1) = a.2.take j ++ [a.2.getD j 0] := by
        rw [List.take_add_one, List.getD_eq_getElem?_getD, List.getElem?_eq_getElem hj]
        rfl
      obtain ⟨-, g2⟩ := hx.step hl hn.symm hlk hb hc
      have e50 : υ 50 0 = a.2.length := by rw [i3 50 _ (by decide)]; exact h50
      have e49 : υ 49 j = (a.2.getD j 0 : Int) := by rw [i3 49 _ (by decide)]; exact h49 j hj
      have h5 := b9.2.1
      refine ⟨υ2, ⟨w1, ?_, i3.trans w3⟩, fun k => ?_⟩
      · rw [e, goL_app]
        show EQ υ2 (gs lk (goL lk κ (a.2.take j)) (a.2.getD j 0)).1
        rw [g2]
        exact w2.trans (i2.comeS i1.1.1 hx.1 hls.lk _ (by rw [i1.1.2.2]; omega))
      · have eat : atR A ((a.2.getD j 0 : Nat) : Int) = some (A.b (a.2.getD j 0)) := by unfold atR; rw [if_pos (by omega)]; rfl
        show fb_X5_comeByBestOrder_67 k (some (A.x + 18)) (iI (j : Int)) (CH h A υ) = _
        unfold fb_X5_comeByBestOrder_67 f_X5_comeByBestOrder_99
        generalize hbb : a.2.getD j 0 = bb at *
        simp (disch := omega) only [iL239, cV0, cR0_0, cR0_1, cR0_2, cR0_3, cR0_4, cR0_5, cV1, cR1_1, cR1_2, cR1_3, cR1_4, cR1_5, cR1_6, cR1_7, cI1_0, cI1_8, cP1_8, cI1_9, cP1_9, cV9, cR9_0, cR9_1, cV10, cV11, cV12, cR12_0, cR12_1, cR12_2, cR12_3, cR12_4, cR12_5, cR12_6, cV18, cR18_0, cR18_1, cR18_2, cR18_3, cR18_4, cI18_5, cP18_5, cI18_6, cP18_6, cV22, cR22_0, cR22_1, cI22_2, cP22_2, cI22_3, cP22_3, cI22_4, cP22_4, cV23, cR23_0, cR23_1, cR23_3, cR23_4, cR23_5, cR23_6, cR23_7, cR23_8, cR23_9, cR23_10, cI23_2, cP23_2, cR10_1, cI10_2, cR11_1, cI11_2, cL2, cS2, cL3, cS3, cL4, cS4, cL5, cS5, cL6, cS6, cL7, cS7, cL8, cS8, cL13, cS13, cL14, cS14, cL15, cS15, cL16, cS16, cL17, cS17, cL19, cS19, cL20, cS20, cL21, cS21, cL24, cS24, cL25, cS25, cL26, cS26, cL27, cS27, cL28, cS28, cL29, cS29, cL30, cS30, cL31, cS31, bV, bK, bI0, bI1, bI2, bI3, bI4, bI5, bI6, bI7, bI8, bI9, bI10, bR11, bR12, bR13, bP9, bP10, bL1, bS1, bL2, bS2, bL3, bS3, iI_0, iI_1, iI_neg, iL2, iL3, iL4, iL5, iL6, iL7, iL8, iL9, iL10, iL11, iL12, iL13, iL14, iL15, iL16, iL17, iL30, iL31, iL60, iL99, iL100, iL240, iL480, iL1000, iL1920, iL10000, iI_add, iI_sub, iI_mul, iI_div, iI_le, iI_lt, iI_eq, bd_s, Int.toNat_natCast, e50, e49, k_at i1.1.2.1, eat, w5, Int.natCast_succ]
        rw [if_neg (by omega), if_neg (by simp)])
    (fun υ k hI => by
      have e50 : υ 50 0 = a.2.length := by rw [hI.2.2 50 _ (by decide)]; exact h50
      have h5 := b9.2.1
      show fb_X5_comeByBestOrder_67 k (some (A.x + 18)) (iI (a.2.length : Int)) (CH h A υ) = _
      unfold fb_X5_comeByBestOrder_67
      simp (disch := omega) only [iL239, cV0, cR0_0, cR0_1, cR0_2, cR0_3, cR0_4, cR0_5, cV1, cR1_1, cR1_2, cR1_3, cR1_4, cR1_5, cR1_6, cR1_7, cI1_0, cI1_8, cP1_8, cI1_9, cP1_9, cV9, cR9_0, cR9_1, cV10, cV11, cV12, cR12_0, cR12_1, cR12_2, cR12_3, cR12_4, cR12_5, cR12_6, cV18, cR18_0, cR18_1, cR18_2, cR18_3, cR18_4, cI18_5, cP18_5, cI18_6, cP18_6, cV22, cR22_0, cR22_1, cI22_2, cP22_2, cI22_3, cP22_3, cI22_4, cP22_4, cV23, cR23_0, cR23_1, cR23_3, cR23_4, cR23_5, cR23_6, cR23_7, cR23_8, cR23_9, cR23_10, cI23_2, cP23_2, cR10_1, cI10_2, cR11_1, cI11_2, cL2, cS2, cL3, cS3, cL4, cS4, cL5, cS5, cL6, cS6, cL7, cS7, cL8, cS8, cL13, cS13, cL14, cS14, cL15, cS15, cL16, cS16, cL17, cS17, cL19, cS19, cL20, cS20, cL21, cS21, cL24, cS24, cL25, cS25, cL26, cS26, cL27, cS27, cL28, cS28, cL29, cS29, cL30, cS30, cL31, cS31, bV, bK, bI0, bI1, bI2, bI3, bI4, bI5, bI6, bI7, bI8, bI9, bI10, bR11, bR12, bR13, bP9, bP10, bL1, bS1, bL2, bS2, bL3, bS3, iI_0, iI_1, iI_neg, iL2, iL3, iL4, iL5, iL6, iL7, iL8, iL9, iL10, iL11, iL12, iL13, iL14, iL15, iL16, iL17, iL30, iL31, iL60, iL99, iL100, iL240, iL480, iL1000, iL1920, iL10000, iI_add, iI_sub, iI_mul, iI_div, iI_le, iI_lt, iI_eq, bd_s, e50]
      rw [if_pos (by omega)]
      rfl) a.2.length 0 FU τ3 (by omega) (by have := b9.2.1; rw [FU_eq]; omega) ⟨c1, by rw [List.take_zero]; exact hE3, Ex.refl _ _⟩
  obtain ⟨u3, u4, u5⟩ := u1
  rw [List.take_length] at u4
  refine ⟨υ, u3, u4, (b3.trans (c3.mono (by decide))).trans (u5.mono (by decide)), ?_⟩
  unfold f_X5_comeByBestOrder f_X5_comeByBestOrder_18
  rw [cV18, a5, bd_s, iI_m1, iI_0]
  simp (disch := omega) only [iL239, cV0, cR0_0, cR0_1, cR0_2, cR0_3, cR0_4, cR0_5, cV1, cR1_1, cR1_2, cR1_3, cR1_4, cR1_5, cR1_6, cR1_7, cI1_0, cI1_8, cP1_8, cI1_9, cP1_9, cV9, cR9_0, cR9_1, cV10, cV11, cV12, cR12_0, cR12_1, cR12_2, cR12_3, cR12_4, cR12_5, cR12_6, cV18, cR18_0, cR18_1, cR18_2, cR18_3, cR18_4, cI18_5, cP18_5, cI18_6, cP18_6, cV22, cR22_0, cR22_1, cI22_2, cP22_2, cI22_3, cP22_3, cI22_4, cP22_4, cV23, cR23_0, cR23_1, cR23_3, cR23_4, cR23_5, cR23_6, cR23_7, cR23_8, cR23_9, cR23_10, cI23_2, cP23_2, cR10_1, cI10_2, cR11_1, cI11_2, cL2, cS2, cL3, cS3, cL4, cS4, cL5, cS5, cL6, cS6, cL7, cS7, cL8, cS8, cL13, cS13, cL14, cS14, cL15, cS15, cL16, cS16, cL17, cS17, cL19, cS19, cL20, cS20, cL21, cS21, cL24, cS24, cL25, cS25, cL26, cS26, cL27, cS27, cL28, cS28, cL29, cS29, cL30, cS30, cL31, cS31, bV, bK, bI0, bI1, bI2, bI3, bI4, bI5, bI6, bI7, bI8, bI9, bI10, bR11, bR12, bR13, bP9, bP10, bL1, bS1, bL2, bS2, bL3, bS3]
  have hloop := lp_count (B := fun k18 w => fb_X5_comeByBestOrder_18 k18 w.1 w.2.1 w.2.2.1 w.2.2.2) (fun i => (some (A.x + 18), iI (sumI (fun i => κ 16 i) i), iI (i : Int), CH h A (sg (sg τ0 51 0 (-1)) 50 0 0))) A.n (some ((), CH h A υ))
    (fun i hi k => by
      have e16 : sg (sg τ0 51 0 (-1)) 50 0 0 16 i = κ 16 i := xx1 16 i (by decide)
      show fb_X5_comeByBestOrder_18 k (some (A.x + 18)) (iI (sumI (fun i => κ 16 i) i)) (iI (i : Int)) (CH h A (sg (sg τ0 51 0 (-1)) 50 0 0)) = _
      unfold fb_X5_comeByBestOrder_18
      simp (disch := omega) only [iL239, cV0, cR0_0, cR0_1, cR0_2, cR0_3, cR0_4, cR0_5, cV1, cR1_1, cR1_2, cR1_3, cR1_4, cR1_5, cR1_6, cR1_7, cI1_0, cI1_8, cP1_8, cI1_9, cP1_9, cV9, cR9_0, cR9_1, cV10, cV11, cV12, cR12_0, cR12_1, cR12_2, cR12_3, cR12_4, cR12_5, cR12_6, cV18, cR18_0, cR18_1, cR18_2, cR18_3, cR18_4, cI18_5, cP18_5, cI18_6, cP18_6, cV22, cR22_0, cR22_1, cI22_2, cP22_2, cI22_3, cP22_3, cI22_4, cP22_4, cV23, cR23_0, cR23_1, cR23_3, cR23_4, cR23_5, cR23_6, cR23_7, cR23_8, cR23_9, cR23_10, cI23_2, cP23_2, cR10_1, cI10_2, cR11_1, cI11_2, cL2, cS2, cL3, cS3, cL4, cS4, cL5, cS5, cL6, cS6, cL7, cS7, cL8, cS8, cL13, cS13, cL14, cS14, cL15, cS15, cL16, cS16, cL17, cS17, cL19, cS19, cL20, cS20, cL21, cS21, cL24, cS24, cL25, cS25, cL26, cS26, cL27, cS27, cL28, cS28, cL29, cS29, cL30, cS30, cL31, cS31, bV, bK, bI0, bI1, bI2, bI3, bI4, bI5, bI6, bI7, bI8, bI9, bI10, bR11, bR12, bR13, bP9, bP10, bL1, bS1, bL2, bS2, bL3, bS3, iI_0, iI_1, iI_neg, iL2, iL3, iL4, iL5, iL6, iL7, iL8, iL9, iL10, iL11, iL12, iL13, iL14, iL15, iL16, iL17, iL30, iL31, iL60, iL99, iL100, iL240, iL480, iL1000, iL1920, iL10000, iI_add, iI_sub, iI_mul, iI_div, iI_le, iI_lt, iI_eq, bd_s, k_size, k_get hl0, e16, Int.natCast_succ]
      rw [if_neg (by omega)]
      rfl)
    (fun k => by
      show fb_X5_comeByBestOrder_18 k (some (A.x + 18)) (iI (sumI (fun i => κ 16 i) A.n)) (iI (A.n : Int)) (CH h A (sg (sg τ0 51 0 (-1)) 50 0 0)) = _
      unfold fb_X5_comeByBestOrder_18 f_X5_comeByBestOrder_67
      simp (disch := omega) only [iL239, cV0, cR0_0, cR0_1, cR0_2, cR0_3, cR0_4, cR0_5, cV1, cR1_1, cR1_2, cR1_3, cR1_4, cR1_5, cR1_6, cR1_7, cI1_0, cI1_8, cP1_8, cI1_9, cP1_9, cV9, cR9_0, cR9_1, cV10, cV11, cV12, cR12_0, cR12_1, cR12_2, cR12_3, cR12_4, cR12_5, cR12_6, cV18, cR18_0, cR18_1, cR18_2, cR18_3, cR18_4, cI18_5, cP18_5, cI18_6, cP18_6, cV22, cR22_0, cR22_1, cI22_2, cP22_2, cI22_3, cP22_3, cI22_4, cP22_4, cV23, cR23_0, cR23_1, cR23_3, cR23_4, cR23_5, cR23_6, cR23_7, cR23_8, cR23_9, cR23_10, cI23_2, cP23_2, cR10_1, cI10_2, cR11_1, cI11_2, cL2, cS2, cL3, cS3, cL4, cS4, cL5, cS5, cL6, cS6, cL7, cS7, cL8, cS8, cL13, cS13, cL14, cS14, cL15, cS15, cL16, cS16, cL17, cS17, cL19, cS19, cL20, cS20, cL21, cS21, cL24, cS24, cL25, cS25, cL26, cS26, cL27, cS27, cL28, cS28, cL29, cS29, cL30, cS30, cL31, cS31, bV, bK, bI0, bI1, bI2, bI3, bI4, bI5, bI6, bI7, bI8, bI9, bI10, bR11, bR12, bR13, bP9, bP10, bL1, bS1, bL2, bS2, bL3, bS3, iI_0, iI_1, iI_neg, iL2, iL3, iL4, iL5, iL6, iL7, iL8, iL9, iL10, iL11, iL12, iL13, iL14, iL15, iL16, iL17, iL30, iL31, iL60, iL99, iL100, iL240, iL480, iL1000, iL1920, iL10000, iI_add, iI_sub, iI_mul, iI_div, iI_le, iI_lt, iI_eq, bd_s, k_size]
      rw [if_pos (by omega)]
      have t2' : f_X5_tryOrders 7 (some (A.x + 18)) (iI 0) (iI (sumI (fun i => κ 16 i) A.n)) (CH h A (sg (sg τ0 51 0 (-1)) 50 0 0)) = some ((), CH h A τ2) := by rw [← hsum]; exact t2
      rw [t2', bd_s, cV18, c5, bd_s]
      exact u2) A.n 0 FU (by omega) (by rw [FU_eq]; omega)
  exact hloop
theorem o_best (hr : RLx h A κ σ) : OP h A κ σ h' m (f_X7_best A.x) (f_X8_best m) := by
  obtain ⟨n1, n2⟩ := hr.n
  have hn := hr.1.1.2.2
  unfold OP
  by_cases c : 1 ≤ σ 9 0 ∧ σ 9 0 ≤ 5
  · have hlk0 : ∀ b, b < A.n → gtL (ltL (lkN κ) A.n) b = lkN κ b := fun b hb => gtL_ltL hb
    have hlsk : LSy κ := hr.2.2.2.1.eq hr.2.1
    have e18 : ∀ i, κ 18 i = σ 18 i := fun i => hr.e (by omega) (by omega) i
    have hlkσ : ∀ b, b < A.n → gtL (ltL (lkN κ) A.n) b = lkN σ b := fun b hb => by rw [gtL_ltL hb]; unfold lkN; rw [e18]
    obtain ⟨lk, elk⟩ : ∃ lk, gtL (ltL (lkN κ) A.n) = lk := ⟨_, rfl⟩
    have hchk := chk (lk := lkN κ) (n := A.n) (by omega) (by omega) (fun b hb => lkN_ok hlsk hn.symm hb)
    rw [elk] at hlk0 hlkσ hchk
    obtain ⟨υ, τr, r1, r2, r3, r4⟩ := s_best (h := h') (m := m) hr.2.2.1 hr.2.2.2.1.lk (n := A.n) (by omega) (by omega) n1.symm
    obtain ⟨τ, k1, k2, k3, k4⟩ := k_byBest hr.1 hlsk (by omega) (by omega) hlk0
    -- the two ways to the best
    have hSBk : SB κ σ := hr.2.1.SB
    have hclr : EQ (clrS κ) (clrS σ) := EQ.clr hSBk
    have hclk : LK (clrS κ) := hlsk.lk
    have hgo : ∀ l, (∀ b, b ∈ l → b < A.n) → EQ (goL lk κ l).1 (goL lk σ l).1 := fun l hlb => (goL_EQ (lk := lk) (n := A.n) l (clrS κ, fun _ => false) (clrS σ, fun _ => false) hclr rfl (clrS_WB hr.1.1.1) (clrS_WB hr.2.2.1) hclk hn hlb).1
    have hW : ∀ l, l ∈ dfL lk A.n 7 (fun _ => false) → (fun l => sumW (goL lk κ l).1) l = (fun l => sumW (goL lk σ l).1) l := fun l hl => (hgo l (HD_mem (dfL_HD lk A.n 7 _ l hl))).sumW
    have hf1 := fm_congr (dfL lk A.n 7 (fun _ => false)) (-1, []) hW
    have hfB : ∀ p, p < fc A.n → ∀ k, k < A.n → oB A.n p k < A.n := fun p hp k hk => (oOK_at (by omega) hp hk).1
    have hX : ∀ p, p < fc A.n → goF σ (oB A.n p) A.n = goL lk σ (rdL lk (fun _ => false) ((List.range A.n).map (oB A.n p))) := fun p hp => by
      rw [goF_goL n1.symm hr.2.2.2.1 (hfB p hp) hlkσ A.n (Nat.le_refl _)]
      exact gs_rd lk _ (clrS σ, fun _ => false)
    have hbf := bsP_fm (V := Vp σ A.n) (X := fun p => rdL lk (fun _ => false) ((List.range A.n).map (oB A.n p))) (W := fun l => sumW (goL lk σ l).1) (N := fc A.n) (fun p hp => by show sumW (goF σ (oB A.n p) A.n).1 = _; rw [hX p hp]) (fun p hp => (Vp_rng hr.2.2.1 hr.2.2.2.1.lk n1.symm (by omega) hp).1) (fc A.n) (Nat.le_refl _)
    have hF := fc_rng A.n (by omega)
    obtain ⟨q1, q2⟩ := hbf
    obtain ⟨q2, q3, q4⟩ := q2 (by omega)
    have hpm : (List.range (fc A.n)).map (fun p => rdL lk (fun _ => false) ((List.range A.n).map (oB A.n p))) = pmL lk A.n := rfl
    rw [hpm, ← fm_dd, hchk, ← hf1] at q1 q2
    obtain ⟨a, ea⟩ : ∃ a, fm (fun l => sumW (goL lk κ l).1) (-1, []) (dfL lk A.n 7 (fun _ => false)) = a := ⟨_, rfl⟩
    rw [ea] at q1 q2 k2
    have hmem : a.2 ∈ dfL lk A.n 7 (fun _ => false) ∧ a.1 = sumW (goL lk κ a.2).1 := by
      rcases fm_mem (fun l => sumW (goL lk κ l).1) (dfL lk A.n 7 (fun _ => false)) (-1, []) with z | z
      · rw [ea] at z
        rw [z] at q1
        have : (bsP (Vp σ A.n) (fc A.n)).1 = -1 := q1
        omega
      · rw [ea] at z; exact z
    have hab : ∀ b, b ∈ a.2 → b < A.n := HD_mem (dfL_HD lk A.n 7 _ _ hmem.1)
    -- the states
    have hlkυ := r2.lk hr.2.2.2.1.lk
    have hfb := hfB _ q3
    have e9υ : υ 9 0 = A.n := by rw [← r2.1 9 0 (by omega) (by omega) (by omega)]; exact n1
    obtain ⟨g1, g2⟩ := goF_WB r1 hlkυ (f := oB A.n (bsP (Vp σ A.n) (fc A.n)).2) (n := A.n) (fun k hk => by have := hfb k hk; omega) A.n (Nat.le_refl _)
    have hE1 : EQ (goF σ (oB A.n (bsP (Vp σ A.n) (fc A.n)).2) A.n).1 (goF υ (oB A.n (bsP (Vp σ A.n) (fc A.n)).2) A.n).1 := (EQ.goF r2 hr.2.2.1 r1 hr.2.2.2.1.lk (fun k hk => by have := hfb k hk; omega) A.n (Nat.le_refl _)).1
    rw [hX _ q3] at hE1
    have q2' : rdL lk (fun _ => false) ((List.range A.n).map (oB A.n (bsP (Vp σ A.n) (fc A.n)).2)) = a.2 := q2
    rw [q2'] at hE1
    have hE2 : EQ τ τr := k2.trans ((hgo a.2 hab).trans (hE1.trans (EQ.of_cor r3.symm)))
    have x1 : Ex [55] τ (sg τ 55 0 0) := (Ex.refl _ _).sg (by decide) _ _
    have hk2 := k1.ex x1 (by decide)
    have hE : EQ (sg τ 55 0 0) τr := (EQ.ex x1 (by decide)).trans hE2
    rw [r4]
    refine ⟨_, sg τ 55 0 0, τr, ⟨?_, hE, WB_eq r3 g1, ?_, ?_, Or.inl rfl⟩, ?_, rfl⟩
    · rw [show (sg τ 55 0 0) 17 = κ 17 from funext (fun i => by rw [sg_f _ _ _ _ (by decide), k3 17 _ (by decide)])]
      exact hk2
    · exact hr.2.2.2.1.of (by rw [cor_eq r3 (by omega), g2 _ _ (by omega), e9υ, n1]) (fun i => by rw [cor_eq r3 (by omega), g2 _ _ (by omega), r2.1 18 i (by omega) (by omega) (by omega)])
    · exact (AR.goR r1 hlkυ (r2.fr hr.2.2.2.2.1.2) (fun k hk => by have := hfb k hk; omega) A.n (Nat.le_refl _)).corR r3
    · have hsw : sumW (sg τ 55 0 0) = (bsP (Vp σ A.n) (fc A.n)).1 := by
        rw [q1, hmem.2, ← k2.sumW]
        exact (EQ.ex x1 (by decide)).sumW
      unfold f_X7_best f_X7_best_22
      simp (disch := omega) only [iL239, cV0, cR0_0, cR0_1, cR0_2, cR0_3, cR0_4, cR0_5, cV1, cR1_1, cR1_2, cR1_3, cR1_4, cR1_5, cR1_6, cR1_7, cI1_0, cI1_8, cP1_8, cI1_9, cP1_9, cV9, cR9_0, cR9_1, cV10, cV11, cV12, cR12_0, cR12_1, cR12_2, cR12_3, cR12_4, cR12_5, cR12_6, cV18, cR18_0, cR18_1, cR18_2, cR18_3, cR18_4, cI18_5, cP18_5, cI18_6, cP18_6, cV22, cR22_0, cR22_1, cI22_2, cP22_2, cI22_3, cP22_3, cI22_4, cP22_4, cV23, cR23_0, cR23_1, cR23_3, cR23_4, cR23_5, cR23_6, cR23_7, cR23_8, cR23_9, cR23_10, cI23_2, cP23_2, cR10_1, cI10_2, cR11_1, cI11_2, cL2, cS2, cL3, cS3, cL4, cS4, cL5, cS5, cL6, cS6, cL7, cS7, cL8, cS8, cL13, cS13, cL14, cS14, cL15, cS15, cL16, cS16, cL17, cS17, cL19, cS19, cL20, cS20, cL21, cS21, cL24, cS24, cL25, cS25, cL26, cS26, cL27, cS27, cL28, cS28, cL29, cS29, cL30, cS30, cL31, cS31, bV, bK, bI0, bI1, bI2, bI3, bI4, bI5, bI6, bI7, bI8, bI9, bI10, bR11, bR12, bR13, bP9, bP10, bL1, bS1, bL2, bS2, bL3, bS3, iI_0, iI_1, iI_neg, iL2, iL3, iL4, iL5, iL6, iL7, iL8, iL9, iL10, iL11, iL12, iL13, iL14, iL15, iL16, iL17, iL30, iL31, iL60, iL99, iL100, iL240, iL480, iL1000, iL1920, iL10000, iI_add, iI_sub, iI_mul, iI_div, iI_le, iI_lt, iI_eq, bd_s, k_size, k4, k_forget, k_worthsGiven hk2.1, hsw]
      rw [if_neg (by omega), if_pos (by omega)]
      rfl
  · rw [s_bestN hr.2.2.1.1 c]
    refine ⟨_, κ, σ, hr, ?_, rfl⟩
    unfold f_X7_best f_X7_best_22
    simp (disch := omega) only [iL239, cV0, cR0_0, cR0_1, cR0_2, cR0_3, cR0_4, cR0_5, cV1, cR1_1, cR1_2, cR1_3, cR1_4, cR1_5, cR1_6, cR1_7, cI1_0, cI1_8, cP1_8, cI1_9, cP1_9, cV9, cR9_0, cR9_1, cV10, cV11, cV12, cR12_0, cR12_1, cR12_2, cR12_3, cR12_4, cR12_5, cR12_6, cV18, cR18_0, cR18_1, cR18_2, cR18_3, cR18_4, cI18_5, cP18_5, cI18_6, cP18_6, cV22, cR22_0, cR22_1, cI22_2, cP22_2, cI22_3, cP22_3, cI22_4, cP22_4, cV23, cR23_0, cR23_1, cR23_3, cR23_4, cR23_5, cR23_6, cR23_7, cR23_8, cR23_9, cR23_10, cI23_2, cP23_2, cR10_1, cI10_2, cR11_1, cI11_2, cL2, cS2, cL3, cS3, cL4, cS4, cL5, cS5, cL6, cS6, cL7, cS7, cL8, cS8, cL13, cS13, cL14, cS14, cL15, cS15, cL16, cS16, cL17, cS17, cL19, cS19, cL20, cS20, cL21, cS21, cL24, cS24, cL25, cS25, cL26, cS26, cL27, cS27, cL28, cS28, cL29, cS29, cL30, cS30, cL31, cS31, bV, bK, bI0, bI1, bI2, bI3, bI4, bI5, bI6, bI7, bI8, bI9, bI10, bR11, bR12, bR13, bP9, bP10, bL1, bS1, bL2, bS2, bL3, bS3, iI_0, iI_1, iI_neg, iL2, iL3, iL4, iL5, iL6, iL7, iL8, iL9, iL10, iL11, iL12, iL13, iL14, iL15, iL16, iL17, iL30, iL31, iL60, iL99, iL100, iL240, iL480, iL1000, iL1920, iL10000, iI_add, iI_sub, iI_mul, iI_div, iI_le, iI_lt, iI_eq, bd_s, k_size]
    by_cases c1 : (A.n : Int) < 1
    · rw [if_pos c1]; rfl
    · rw [if_neg c1, if_neg (by omega)]; rfl
end
