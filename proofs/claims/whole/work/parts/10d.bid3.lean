/-! bid -/
def wtP (w s : Int) : Prop := 0 ≤ w ∧ w / 10000 < 6 ∧ w / 10 - w / 10 / 10 * 10 ≤ 1 ∧ w - w / 10 * 10 = 0 ∧ w / 1000 - w / 1000 / 10 * 10 < s ∧ w / 100 - w / 100 / 10 * 10 < s ∧ ¬ (w / 1000 - w / 1000 / 10 * 10 = w / 100 - w / 100 / 10 * 10)
def wnP (t : Int) : Prop := 0 ≤ t ∧ t / 1000 < 240 ∧ t - t / 1000 * 1000 < 240
theorem k_isWhat (w s : Int) (h : Hp) (hw : I32 w) (hs : 0 ≤ s ∧ s ≤ 8) : (wtP w s → f_X0_isWhat (iI w) (iI s) h = some (iI 1, h)) ∧ (¬ wtP w s → f_X0_isWhat (iI w) (iI s) h = some (iI 0, h)) := by
  unfold I32 at hw
  unfold f_X0_isWhat f_X0_isWhat_32 f_X0_isWhat_70 f_X0_isWhat_71 wtP
  by_cases c0 : w < 0
  · have e : iI w < (0 : Int32) := by rw [iI_0, iI_lt (by omega) (by omega) (by omega) (by omega)]; exact c0
    rw [if_pos e, iI_0, rt0]
    exact ⟨fun z => by omega, fun _ => rfl⟩
  · simp (disch := omega) only [iI_0, iI_1, iI_neg, iL2, iL3, iL4, iL5, iL6, iL7, iL8, iL9, iL10, iL11, iL12, iL13, iL14, iL15, iL16, iL17, iL30, iL31, iL60, iL99, iL100, iL240, iL480, iL1000, iL1920, iL10000, iI_add, iI_sub, iI_mul, iI_div, iI_le, iI_lt, iI_eq, bd_s, rt0, rt1]
    rw [if_neg c0]
    constructor
    · rintro ⟨z1, z2, z3, z4, z5, z6, z7⟩
      rw [if_neg (by omega), if_neg (by omega), if_pos z4, if_neg (by omega), if_neg (by omega), if_neg z7]
    · intro z
      (repeat' split) <;> first | rfl | (exfalso; apply z; refine ⟨?_, ?_, ?_, ?_, ?_, ?_, ?_⟩ <;> first | assumption | omega)
theorem k_isWhen (t : Int) (h : Hp) (ht : I32 t) : (wnP t → f_X0_isWhen (iI t) h = some (iI 1, h)) ∧ (¬ wnP t → f_X0_isWhen (iI t) h = some (iI 0, h)) := by
  unfold I32 at ht
  unfold f_X0_isWhen f_X0_isWhen_30 f_X0_isWhen_31 wnP
  by_cases c0 : t < 0
  · have e : iI t < (0 : Int32) := by rw [iI_0, iI_lt (by omega) (by omega) (by omega) (by omega)]; exact c0
    rw [if_pos e, iI_0, rt0]
    exact ⟨fun z => by omega, fun _ => rfl⟩
  · simp (disch := omega) only [iI_0, iI_1, iI_neg, iL2, iL3, iL4, iL5, iL6, iL7, iL8, iL9, iL10, iL11, iL12, iL13, iL14, iL15, iL16, iL17, iL30, iL31, iL60, iL99, iL100, iL240, iL480, iL1000, iL1920, iL10000, iI_add, iI_sub, iI_mul, iI_div, iI_le, iI_lt, iI_eq, bd_s, rt0, rt1]
    rw [if_neg c0]
    constructor
    · rintro ⟨z1, z2, z3⟩
      rw [if_neg (by omega), if_neg (by omega)]
    · intro z
      (repeat' split) <;> first | rfl | (exfalso; apply z; refine ⟨?_, ?_, ?_⟩ <;> first | assumption | omega)
section
variable {H : Hp} {A : CA} {κ σ : Sg} {E : Nat × Nat}
theorem o_bidN (hr : RLx H A κ σ) {w t wo rk : Int} (hw : I32 w) (ht : I32 t) (hwo : I32 wo) (hrk : I32 rk) (hno : ¬ okB σ w t wo rk) : f_X7_bid E A.x (iI w) (iI t) (iI wo) (iI rk) (CH H A κ) = some (iI (-1), CH H A κ) := by
  obtain ⟨n1, n2⟩ := hr.n
  have e0 := hr.e (f := 0) (by omega) (by omega) 0
  have h0 := hr.2.2.1.1.1
  have hwh := k_isWhat w (σ 0 0) (CH H A κ) hw (by omega)
  have hwn := k_isWhen t (CH H A κ) ht
  unfold I32 at hwo hrk
  unfold f_X7_bid f_X7_bid_34 f_X7_bid_57
  simp (disch := omega) only [iL239, cV0, cR0_0, cR0_1, cR0_2, cR0_3, cR0_4, cR0_5, cV1, cR1_1, cR1_2, cR1_3, cR1_4, cR1_5, cR1_6, cR1_7, cI1_0, cI1_8, cP1_8, cI1_9, cP1_9, cV9, cR9_0, cR9_1, cV10, cV11, cV12, cR12_0, cR12_1, cR12_2, cR12_3, cR12_4, cR12_5, cR12_6, cV18, cR18_0, cR18_1, cR18_2, cR18_3, cR18_4, cI18_5, cP18_5, cI18_6, cP18_6, cV22, cR22_0, cR22_1, cI22_2, cP22_2, cI22_3, cP22_3, cI22_4, cP22_4, cV23, cR23_0, cR23_1, cR23_3, cR23_4, cR23_5, cR23_6, cR23_7, cR23_8, cR23_9, cR23_10, cI23_2, cP23_2, cR10_1, cI10_2, cR11_1, cI11_2, cL2, cS2, cL3, cS3, cL4, cS4, cL5, cS5, cL6, cS6, cL7, cS7, cL8, cS8, cL13, cS13, cL14, cS14, cL15, cS15, cL16, cS16, cL17, cS17, cL19, cS19, cL20, cS20, cL21, cS21, cL24, cS24, cL25, cS25, cL26, cS26, cL27, cS27, cL28, cS28, cL29, cS29, cL30, cS30, cL31, cS31, bV, bK, bI0, bI1, bI2, bI3, bI4, bI5, bI6, bI7, bI8, bI9, bI10, bR11, bR12, bR13, bP9, bP10, bL1, bS1, bL2, bS2, bL3, bS3, iI_0, iI_1, iI_neg, iL2, iL3, iL4, iL5, iL6, iL7, iL8, iL9, iL10, iL11, iL12, iL13, iL14, iL15, iL16, iL17, iL30, iL31, iL60, iL99, iL100, iL240, iL480, iL1000, iL1920, iL10000, iI_add, iI_sub, iI_mul, iI_div, iI_le, iI_lt, iI_eq, bd_s, k_size, k_isWithin, iI_b2, e0]
  by_cases c1 : (16 : Int) ≤ A.n
  · rw [if_pos c1]; rfl
  · rw [if_neg c1]
    by_cases c2 : 0 ≤ wo ∧ wo ≤ 1000
    · rw [if_neg (fun z => z c2)]
      by_cases c3 : 0 ≤ rk ∧ rk ≤ 99
      · rw [if_neg (fun z => z c3)]
        by_cases c4 : wtP w (σ 0 0)
        · rw [hwh.1 c4, bd_s, if_neg (by decide)]
          by_cases c5 : wnP t
          · exfalso
            apply hno
            unfold wtP at c4
            unfold wnP at c5
            unfold okB
            omega
          · rw [hwn.2 c5, bd_s, if_pos rfl]; rfl
        · rw [hwh.2 c4, bd_s, if_pos rfl]; rfl
      · rw [if_pos c3]; rfl
    · rw [if_pos c2]; rfl
set_option maxHeartbeats 4000000 in
theorem o_bidC (hS : CH H A κ = H) (hr : RLx H A κ σ) (hE : LE H A E (ordF (κ 17) A.n)) (hF : FRH H) {w t wo rk : Int} (hw : I32 w) (ht : I32 t) (hwo : I32 wo) (hrk : I32 rk) (ok : okB σ w t wo rk) :
    ∃ (H' : Hp) (A' : CA) (κ' : Sg), f_X7_bid E A.x (iI w) (iI t) (iI wo) (iI rk) H = some (iI (σ 9 0), H') ∧ CH H' A' κ' = H' ∧ RLx H' A' κ' (bidS σ w t wo rk) ∧ LE H' A' E (ordF (κ' 17) A'.n) ∧ FRH H' ∧ A'.x = A.x ∧ A'.n = A.n + 1 ∧ (∀ k, k < A.n → A'.b k = A.b k) ∧ A'.b A.n = H.1 ∧ (A'.la = A.la ∨ H.1 ≤ A'.la) ∧ (A'.lb = A.lb ∨ H.1 ≤ A'.lb) ∧ ∀ q, q < H.1 → cn A q = none → q ≠ A.la → q ≠ A.lb → H'.2 q = H.2 q := by
  obtain ⟨n1, n2⟩ := hr.n
  have hn := hr.1.1.2.2
  have e0 := hr.e (f := 0) (by omega) (by omega) 0
  have h0 := hr.2.2.1.1.1
  have hwk := hr.1.1.1.1
  have hok := ok
  unfold okB at hok
  have hn15 : A.n ≤ 15 := by omega
  have rI1 := hw
  have rI2 := ht
  unfold I32 at rI1 rI2 hwo hrk
  obtain ⟨l16, cla, clb, -, -⟩ := hr.1.1.2.1
  obtain ⟨hne, ⟨ca1, ca2, ca3, ca4⟩, cb1, cb2, cb3, cb4⟩ := hE
  have hla := hF.lt ca4
  have hlb := hF.lt cb4
  have hcell : ∀ c, c < 32 + 4 * A.n → ca A c < H.1 := fun c hc => hF.lt (CH_cell hS hc)
  have hxl : A.x + 32 ≤ H.1 := by have := hcell 31 (by omega); have e : ca A 31 = A.x + 31 := rfl; omega
  have hbl : ∀ k, k < A.n → A.b k + 4 ≤ H.1 := fun k hk => by
    have := hcell (32 + 4 * k + 3) (by omega)
    rw [ca_bid A k 3 (by omega)] at this
    omega
  -- the bid is made
  generalize hI : bI (A.n : Int) w t wo rk = I
  generalize hFR : bFR H.1 = G
  have hl1 : LH (bB H I G 3) A (ordF (κ 17) A.n) := ⟨l16, cla, clb, ⟨ca1, ca2.1, by rw [bB_old _ _ _ hla]; exact ca4⟩, cb1, cb2.1, by rw [bB_old _ _ _ hlb]; exact cb4⟩
  have hS1 := bB_self hS hF I G 3
  have hb0 := b_init hS hF (A.n : Int) w t wo rk (by omega) (by omega)
  rw [hI, hFR] at hb0
  have hplc := b_place (E := E) (n := (A.n : Int)) (w := w) (t := t) (wo := wo) (rk := rk) hS hF (by rw [hI, hFR]; exact hl1) (fun k hk => ordF_lt _ _ _ hk) hwk (by omega) A.n FU (Nat.le_refl _) (by rw [FU_eq]; omega)
  rw [hI, hFR] at hplc
  obtain ⟨p, hp⟩ : ∃ p, p = plc (κ 17) (ordF (κ 17) A.n) rk A.n := ⟨_, rfl⟩
  have hpn : p ≤ A.n := by rw [hp]; exact plc_le _ _ _ _
  rw [← hp] at hplc
  have hc1 : ∀ c, c < 32 + 4 * A.n → (bB H I G 3).2 (ca A c) = some (cc A κ c) := fun c hc => by rw [bB_old _ _ _ (hcell c hc)]; exact CH_cell hS hc
  have isb : ∀ k, k < A.n → isB (bB H I G 3) (some (A.b k)) = true := fun k hk => by
    have := hc1 (32 + 4 * k + 0) (by omega)
    rw [ca_bid A k 0 (by omega), cc_bid A κ k 0 (by omega)] at this
    unfold isB
    simp only [Nat.add_zero] at this
    simp only [this]
    rfl
  have isa : isB (bB H I G 3) (some H.1) = true := by
    unfold isB
    simp only [bB_at]
    rfl
  -- by rank
  obtain ⟨H2, ⟨lb', c2, d1, d2, d3, d4, d5, d6⟩, d7⟩ := l_addAt (H := bB H I G 3) (E := E) (q := A.x + 11) (l := A.lb) (c := cb1) (sz := A.n) (p := p) (a := H.1) (mc := A.n) (F := fun i => if i < A.n then some (A.b (ordF (κ 17) A.n i)) else none) (by
      have := hc1 11 (by omega)
      rw [show cc A κ 11 = cfx A κ 11 from rfl, cfx_11] at this
      exact this) (by rw [bB_old _ _ _ hlb]; exact cb4) (fun i hi => if_neg (by omega)) (fun i hi => by rw [if_pos hi]; exact isb _ (ordF_lt _ _ _ hi)) isa hn15 cb2.1 cb2.2.1 cb3 hpn (show A.x + 11 < H.1 + 1 + 3 by omega) (show A.lb < H.1 + 1 + 3 by omega) (fun z => cn_fix clb (c := 11) (by omega) z.symm) (by
      show (if H.1 + 1 + 3 = H.1 then _ else if H.1 < H.1 + 1 + 3 ∧ H.1 + 1 + 3 ≤ H.1 + 3 then _ else H.2 (H.1 + 1 + 3)) = _
      rw [if_neg (by omega), if_neg (by omega)]
      exact hF _ (by omega))
  have b1 : (bB H I G 3).1 = H.1 + 4 := rfl
  rw [b1] at d1 d5
  have hlb1 : lb' = A.lb ∨ H.1 + 4 ≤ lb' := by rcases d5 with z | z <;> omega
  have hlbx : ∀ c, c < 32 + 4 * A.n → ca A c ≠ lb' := fun c hc z => by
    rcases hlb1 with y | y
    · exact cn_fix clb hc (by rw [z, y])
    · have := hcell c hc; omega
  have hc2 : ∀ c, c < 32 + 4 * A.n → c ≠ 11 → H2.2 (ca A c) = some (cc A κ c) := fun c hc h11 => by
    rw [d6 _ (fun z => h11 (by
      have e1 := cn_ca A hc
      have e2 := cn_ca A (c := 11) (by omega)
      rw [z] at e1
      rw [show ca A 11 = A.x + 11 from rfl] at e2
      rw [e1] at e2
      exact Option.some.inj e2)) (hlbx c hc)]
    exact hc1 c hc
  -- by number
  have hla2 : H2.2 A.la = some (eR ca1 (fun i => if i < A.n then some (A.b i) else none)) := by
    rw [d6 _ (fun z => cn_fix cla (c := 11) (by omega) z) (fun z => ?_), bB_old _ _ _ hla]
    · exact ca4
    · rcases hlb1 with y | y
      · by_cases q : 0 < A.n
        · exact hne q (by rw [z, y])
        · -- no bid yet: the array by rank is new
          have e := cb2.2.2 (by omega)
          rcases d5 with y2 | y2 <;> omega
      · omega
  have k12 : ∀ b I' F', (bB H I G 3).2 b = some (eO 1 I' F') → H2.2 b = some (eO 1 I' F') := fun b I' F' e => by
    rw [d6 b (fun z => ?_) (fun z => ?_)]
    · exact e
    · rw [z] at e
      have := hc1 11 (by omega)
      rw [show ca A 11 = A.x + 11 from rfl, e] at this
      rw [show cc A κ 11 = cfx A κ 11 from rfl, cfx_11] at this
      cases this
    · rcases hlb1 with y | y
      · rw [z, y, bB_old _ _ _ hlb, cb4] at e; cases e
      · rw [z] at e
        have e3 : (bB H I G 3).2 lb' = none := by
          show (if lb' = H.1 then _ else if H.1 < lb' ∧ lb' ≤ H.1 + 3 then _ else H.2 lb') = _
          rw [if_neg (by omega), if_neg (by omega)]
          exact hF _ (by omega)
        rw [e3] at e
        cases e
  have hlbe : lb' < H2.1 := by rcases d5 with z | z <;> omega
  have fr2 : ∀ q, H2.1 ≤ q → H2.2 q = none := fun q hq => by
    rw [d6 q (by omega) (by omega)]
    show (if q = H.1 then _ else if H.1 < q ∧ q ≤ H.1 + 3 then _ else H.2 q) = _
    rw [if_neg (by omega), if_neg (by omega)]
    exact hF _ (by omega)
  obtain ⟨H3, ⟨la', c3, f1, f2, f3, f4, f5, f6⟩, f7⟩ := l_add (H := H2) (E := E) (q := A.x + 10) (l := A.la) (c := ca1) (sz := A.n) (a := H.1) (mc := A.n) (F := fun i => if i < A.n then some (A.b i) else none) (by
      have := hc2 10 (by omega) (by omega)
      rw [show cc A κ 10 = cfx A κ 10 from rfl, cfx_10] at this
      exact this) hla2 (fun i hi => if_neg (by omega)) (fun i hi => by rw [if_pos hi]; exact isB_keep k12 (isb i hi)) (isB_keep k12 isa) hn15 ca2.1 ca2.2.1 ca3 (by omega) (by omega) (fun z => cn_fix cla (c := 10) (by omega) z.symm) (fr2 _ (Nat.le_refl _))
  have hla1 : la' = A.la ∨ H.1 + 4 ≤ la' := by rcases f5 with z | z <;> omega
  have hlax : ∀ c, c < 32 + 4 * A.n → ca A c ≠ la' := fun c hc z => by
    rcases hla1 with y | y
    · exact cn_fix cla hc (by rw [z, y])
    · have := hcell c hc; omega
  have hc3 : ∀ c, c < 32 + 4 * A.n → c ≠ 10 → c ≠ 11 → H3.2 (ca A c) = some (cc A κ c) := fun c hc h10 h11 => by
    rw [f6 _ (fun z => h10 (by
      have e1 := cn_ca A hc
      have e2 := cn_ca A (c := 10) (by omega)
      rw [z] at e1
      rw [show ca A 10 = A.x + 10 from rfl] at e2
      rw [e1] at e2
      exact Option.some.inj e2)) (hlax c hc)]
    exact hc2 c hc h11
  have hlbla : lb' ≠ la' := fun z => by
    rcases f5 with ⟨y, y2⟩ | ⟨y, y2⟩
    · rcases d5 with ⟨x1, x2⟩ | ⟨x1, x2⟩
      · by_cases q : 0 < A.n
        · exact hne q (by omega)
        · have e := cb2.2.2 (by omega)
          omega
      · omega
    · omega
  have hc3b : H3.2 (A.x + 11) = some (uO ((A.n : Int) + 1) ((A.n : Int) + 1) lb') := by
    rw [f6 _ (show A.x + 11 ≠ A.x + 10 by omega) (show A.x + 11 ≠ la' from hlax 11 (by omega))]
    exact d2
  have hlb3 : H3.2 lb' = some (eR c2 (insF (fun i => if i < A.n then some (A.b (ordF (κ 17) A.n i)) else none) p H.1 A.n)) := by
    rw [f6 _ (fun z => hlbx 10 (by omega) z.symm) hlbla]
    exact d3
  have hnew : ∀ r, r < 4 → H3.2 (H.1 + r) = (bB H I G 3).2 (H.1 + r) := fun r hr4 => by
    rw [f6 _ (by omega) (by rcases hla1 with y | y <;> omega), d6 _ (by omega) (by rcases hlb1 with y | y <;> omega)]
  have fr3 : FRH H3 := fun q hq => by
    rw [f6 q (by omega) (by rcases f5 with z | z <;> omega)]
    exact fr2 q (by omega)
  -- the new places
  obtain ⟨A', ax, an, ala, alb, ab⟩ : ∃ A' : CA, A'.x = A.x ∧ A'.n = A.n + 1 ∧ A'.la = la' ∧ A'.lb = lb' ∧ ∀ k, A'.b k = if k < A.n then A.b k else H.1 :=
    ⟨⟨(A.x, A.n + 1, la', lb', fun k => if k < A.n then A.b k else H.1), fun k hk => by
      show A.x + 32 ≤ if k < A.n then A.b k else H.1
      split
      · rename_i z; exact A.p1 k z
      · exact hxl, fun j k hjk hk => by
      show (if j < A.n then A.b j else H.1) + 4 ≤ if k < A.n then A.b k else H.1
      have hk' : k < A.n + 1 := hk
      by_cases z : k < A.n
      · rw [if_pos z, if_pos (by omega)]; exact A.p2 j k hjk z
      · rw [if_neg z, if_pos (by omega)]; exact hbl j (by omega)⟩, rfl, rfl, rfl, rfl, fun _ => rfl⟩
  have hbn : A'.b A.n = H.1 := by rw [ab, if_neg (by omega)]
  have hbk : ∀ k, k < A.n → A'.b k = A.b k := fun k hk => by rw [ab, if_pos hk]
  have hcn : ∀ q, ((q < H.1 ∧ cn A q = none) ∨ H.1 + 4 ≤ q) → cn A' q = none := fun q hq => by
    cases hcq : cn A' q with
    | none => rfl
    | some c =>
      obtain ⟨z1, z2⟩ := ca_cn A' hcq
      by_cases z3 : c < 32
      · have e : ca A' c = ca A c := by unfold ca; rw [if_pos z3, if_pos z3, ax]
        rw [e] at z1
        have := hcell c (by omega)
        rcases hq with y | y
        · exact absurd z1.symm (cn_fix y.2 (by omega))
        · omega
      · by_cases z4 : (c - 32) / 4 < A.n
        · have e : ca A' c = ca A c := by unfold ca; rw [if_neg z3, if_neg z3, hbk _ z4]
          rw [e] at z1
          have := hcell c (by omega)
          rcases hq with y | y
          · exact absurd z1.symm (cn_fix y.2 (by omega))
          · omega
        · have e : (c - 32) / 4 = A.n := by omega
          unfold ca at z1
          rw [if_neg z3, e, hbn] at z1
          omega
  have hcnla : cn A' la' = none := hcn la' (by rcases hla1 with y | y; exact Or.inl ⟨by omega, by rw [y]; exact cla⟩; exact Or.inr y)
  have hcnlb : cn A' lb' = none := hcn lb' (by rcases hlb1 with y | y; exact Or.inl ⟨by omega, by rw [y]; exact clb⟩; exact Or.inr y)
  have hfr := hr.2.2.2.2.1.2 A.n (by omega) (by omega)
  have n0 : (κ 9 0).toNat = A.n := by omega
  have q18 : kB κ w t wo rk 18 A.n = -1 := by rw [kB_k (by omega) (by omega) (by omega), hr.e (by omega) (by omega)]; exact hfr.1
  have q19 : kB κ w t wo rk 19 A.n = 0 := by rw [kB_k (by omega) (by omega) (by omega), hr.e (by omega) (by omega)]; exact hfr.2.1
  have hself : CH H3 A' (kB κ w t wo rk) = H3 := CH_self (fun c hc => by
    by_cases z3 : c < 32
    · have e : ca A' c = ca A c := by unfold ca; rw [if_pos z3, if_pos z3, ax]
      have e2 : cc A' (kB κ w t wo rk) c = cfx A' (kB κ w t wo rk) c := if_pos z3
      rw [e, e2]
      by_cases z10 : c = 10
      · subst z10
        rw [cfx_10, an, ala]
        exact f2
      · by_cases z11 : c = 11
        · subst z11
          rw [cfx_11, an, alb]
          exact hc3b
        · rw [hc3 c (by omega) z10 z11, cfx_km A A' ax (κ := κ) (by
            funext f i
            unfold km
            by_cases z : f ≤ 8 ∨ 42 ≤ f
            · rw [if_pos z, if_pos z]; exact kB_k (by omega) (by omega) (by omega)
            · rw [if_neg z, if_neg z]) c z3 z10 z11]
          exact congrArg some (if_pos z3)
    · obtain ⟨k, r, hkr, hr4⟩ : ∃ k r, c = 32 + 4 * k + r ∧ r < 4 := ⟨(c - 32) / 4, (c - 32) % 4, by omega, by omega⟩
      subst hkr
      rw [ca_bid A' k r hr4, cc_bid A' _ k r hr4]
      by_cases z4 : k < A.n
      · have h1 := hc3 (32 + 4 * k + r) (by omega) (by omega) (by omega)
        rw [ca_bid A k r hr4, cc_bid A κ k r hr4] at h1
        rw [hbk k z4, h1]
        congr 1
        have : r = 0 ∨ r = 1 ∨ r = 2 ∨ r = 3 := by omega
        rcases this with rfl | rfl | rfl | rfl
        · simp only [cbd, hbk k z4]
          congr 4
          funext f
          by_cases y0 : f = 0
          · rw [if_pos y0, if_pos y0]
          · rw [if_neg y0, if_neg y0]
            by_cases y1 : f ≤ 10
            · rw [if_pos y1, if_pos y1, kB_k (by omega) (by omega) (by omega)]
            · rw [if_neg y1, if_neg y1]
        · exact aI_congr (fun i hi => (kB_r (Or.inl rfl) (by omega)).symm)
        · exact aI_congr (fun i hi => (kB_r (Or.inr rfl) (by omega)).symm)
        · exact aI_congr (fun i hi => (kB_k (by omega) (by omega) (by omega)).symm)
      · have ek : k = A.n := by omega
        subst ek
        rw [hbn, hnew r hr4]
        have : r = 0 ∨ r = 1 ∨ r = 2 ∨ r = 3 := by omega
        have zz : ∀ f i : Nat, (f = 20 ∨ f = 41) → i < 8 → kB κ w t wo rk f (8 * A.n + i) = 0 := fun f i y1 y2 => by
          unfold kB
          rw [if_pos ⟨y1, by omega, by omega⟩]
        have zo : ∀ r, 0 < r → r < 4 → (bB H I G 3).2 (H.1 + r) = some (eI 8 (fun _ => 0)) := fun r y1 y2 => by
          show (if H.1 + r = H.1 then _ else if H.1 < H.1 + r ∧ H.1 + r ≤ H.1 + 3 then _ else H.2 (H.1 + r)) = _
          rw [if_neg (by omega), if_pos (by omega)]
        have za : ∀ g : Nat → Int, (∀ i, i < 8 → g i = 0) → eI 8 (fun _ => 0) = aI 8 g := fun g hg => by
          unfold aI
          congr 2
          funext i
          by_cases y : i < 8
          · rw [if_pos y, hg i y]; rfl
          · rw [if_neg y]
        rcases this with rfl | rfl | rfl | rfl
        · have e1 : (bB H I G 3).2 (H.1 + 0) = some (eO 1 I G) := bB_at I G 3
          rw [e1, ← hI, ← hFR]
          simp only [cbd, hbn]
          congr 4
          funext f
          show bI (A.n : Int) w t wo rk f = if f = 0 then iI A.n else if f ≤ 10 then iI (kB κ w t wo rk (9 + f) A.n) else 0
          by_cases y1 : f ≤ 10
          · have ekb : ∀ g, 10 ≤ g → g ≤ 17 → kB κ w t wo rk g A.n = bidS κ w t wo rk g A.n := fun g y2 y3 => by unfold kB; rw [if_neg (by omega)]
            have y2 : f = 0 ∨ f = 1 ∨ f = 2 ∨ f = 3 ∨ f = 4 ∨ f = 5 ∨ f = 6 ∨ f = 7 ∨ f = 8 ∨ f = 9 ∨ f = 10 := by omega
            rcases y2 with rfl | rfl | rfl | rfl | rfl | rfl | rfl | rfl | rfl | rfl | rfl
            · rfl
            · show _ = iI (kB κ w t wo rk 10 A.n); rw [ekb 10 (by omega) (by omega)]; simp [bidS, sg, n0, bI]
            · show _ = iI (kB κ w t wo rk 11 A.n); rw [ekb 11 (by omega) (by omega)]; simp [bidS, sg, n0, bI]
            · show _ = iI (kB κ w t wo rk 12 A.n); rw [ekb 12 (by omega) (by omega)]; simp [bidS, sg, n0, bI]
            · show _ = iI (kB κ w t wo rk 13 A.n); rw [ekb 13 (by omega) (by omega)]; simp [bidS, sg, n0, bI]
            · show _ = iI (kB κ w t wo rk 14 A.n); rw [ekb 14 (by omega) (by omega)]; simp [bidS, sg, n0, bI]
            · show _ = iI (kB κ w t wo rk 15 A.n); rw [ekb 15 (by omega) (by omega)]; simp [bidS, sg, n0, bI]
            · show _ = iI (kB κ w t wo rk 16 A.n); rw [ekb 16 (by omega) (by omega)]; simp [bidS, sg, n0, bI]
            · show _ = iI (kB κ w t wo rk 17 A.n); rw [ekb 17 (by omega) (by omega)]; simp [bidS, sg, n0, bI]
            · show _ = iI (kB κ w t wo rk 18 A.n); rw [q18]; rfl
            · show _ = iI (kB κ w t wo rk 19 A.n); rw [q19]; rfl
          · rw [if_neg (by omega), if_neg y1]
            unfold bI
            rw [if_neg (by omega), if_neg (by omega), if_neg (by omega), if_neg (by omega), if_neg (by omega), if_neg (by omega), if_neg (by omega), if_neg (by omega), if_neg (by omega), if_neg (by omega)]
        · rw [zo 1 (by omega) (by omega)]
          exact congrArg some (za _ (fun i hi => zz 20 i (Or.inl rfl) hi))
        · rw [zo 2 (by omega) (by omega)]
          exact congrArg some (za _ (fun i hi => zz 41 i (Or.inr rfl) hi))
        · rw [zo 3 (by omega) (by omega)]
          refine congrArg some (za _ (fun i hi => ?_))
          rw [kB_k (by omega) (by omega) (by omega), hr.e (by omega) (by omega)]
          exact hfr.2.2 i hi)
  have hEQ := kB_EQ hr.2.1 hr.2.2.1.1 hr.2.2.2.2.1.2 ok
  have hEQ2 : EQ (sg (kB κ w t wo rk) 55 0 0) (bidS σ w t wo rk) := hEQ.sgL (f := 55) (by omega) 0 0
  have k17 : ∀ j, j < A.n → (sg (kB κ w t wo rk) 55 0 0) 17 j = κ 17 j := fun j hj => by
    rw [sg_f _ _ _ _ (by decide)]
    exact kB_k (by omega) (by omega) (by omega)
  have k17n : (sg (kB κ w t wo rk) 55 0 0) 17 A.n = rk := by
    rw [sg_f _ _ _ _ (by decide)]
    unfold kB
    rw [if_neg (by omega)]
    simp [bidS, sg, n0]
  have hord : ordF ((sg (kB κ w t wo rk) 55 0 0) 17) A.n = ordF (κ 17) A.n := ordF_congr k17
  have hpl2 : plc ((sg (kB κ w t wo rk) 55 0 0) 17) (ordF (κ 17) A.n) rk A.n = p := by
    rw [hp]
    exact plc_congr (fun j hj => k17 _ (ordF_lt _ _ _ hj))
  have hord1 : ∀ i, i < A.n + 1 → insF (fun i => if i < A.n then some (A.b (ordF (κ 17) A.n i)) else none) p H.1 A.n i = some (A'.b (ordF ((sg (kB κ w t wo rk) 55 0 0) 17) (A.n + 1) i)) := fun i hi => by
    have e : ordF ((sg (kB κ w t wo rk) 55 0 0) 17) (A.n + 1) i = if i < p then ordF (κ 17) A.n i else if i = p then A.n else ordF (κ 17) A.n (i - 1) := by
      rw [← hpl2]
      show (if i < plc _ (ordF _ A.n) _ A.n then ordF _ A.n i else if i = plc _ (ordF _ A.n) _ A.n then A.n else ordF _ A.n (i - 1)) = _
      rw [hord, k17n]
    rw [e]
    unfold insF
    by_cases y1 : i < p
    · rw [if_pos y1, if_pos y1]
      dsimp only
      rw [if_pos (by omega), hbk _ (ordF_lt _ _ _ (by omega))]
    · rw [if_neg y1, if_neg y1]
      by_cases y2 : i = p
      · rw [if_pos y2, if_pos y2, hbn]
      · rw [if_neg y2, if_neg y2, if_pos (by omega)]
        dsimp only
        rw [if_pos (by omega), hbk _ (ordF_lt _ _ _ (by omega))]
  have hbase : ∀ q, cn A' q = none → (CH H3 A' (sg (kB κ w t wo rk) 55 0 0)).2 q = H3.2 q := fun q hq => by simp only [CH, hq]
  have hLa : (CH H3 A' (sg (kB κ w t wo rk) 55 0 0)).2 A'.la = some (eR c3 (fun i => if i < A'.n then some (A'.b i) else none)) := by
    rw [ala, hbase _ hcnla, f3]
    congr 5
    funext i
    rw [an]
    unfold insF
    by_cases y1 : i < A.n
    · rw [if_pos y1]
      dsimp only
      rw [if_pos y1, if_pos (by omega), hbk i y1]
    · rw [if_neg y1]
      by_cases y2 : i = A.n
      · rw [if_pos y2, if_pos (by omega), y2, hbn]
      · rw [if_neg y2, if_neg (by omega), if_neg (by omega)]
  have hLb : (CH H3 A' (sg (kB κ w t wo rk) 55 0 0)).2 A'.lb = some (eR c2 (fun i => if i < A'.n then some (A'.b (ordF ((sg (kB κ w t wo rk) 55 0 0) 17) A'.n i)) else none)) := by
    rw [alb, hbase _ hcnlb, hlb3]
    congr 5
    funext i
    rw [an]
    by_cases y1 : i < A.n + 1
    · rw [hord1 i y1, if_pos y1]
    · rw [if_neg y1]
      unfold insF
      rw [if_neg (by omega), if_neg (by omega), if_neg (by omega)]
  have hcell3 : ∀ c, c < 32 + 4 * A'.n → ca A' c < H3.1 := fun c hc => fr3.lt (CH_cell hself hc)
  refine ⟨CH H3 A' (sg (kB κ w t wo rk) 55 0 0), A', sg (kB κ w t wo rk) 55 0 0, ?_, CH_self (fun c hc => CH_at _ _ _ hc), ⟨⟨⟨WB.eq hEQ2 (bidS_WB hr.2.2.1 ok) (fun i hi => ?_), ⟨by omega, by rw [ala]; exact hcnla, by rw [alb]; exact hcnlb, ⟨c3, by omega, hLa⟩, c2, by omega, hLb⟩, ?_⟩, ?_, ?_, fun j => ?_⟩, hEQ2, bidS_WB hr.2.2.1 ok, bidS_LS hr.2.2.1.1 hr.2.2.2.1 hr.2.2.2.2.1.2 ok, bidS_AR hr.2.2.1.1 hr.2.2.2.2.1 ok, Or.inl rfl⟩, ⟨fun _ => by rw [ala, alb]; exact fun z => hlbla z.symm, ⟨c3, by omega, fun z => by omega, hLa⟩, c2, by omega, fun z => by omega, hLb⟩, fun q hq => ?_, ax, an, hbk, hbn, by rw [ala]; omega, by rw [alb]; omega, fun q y1 y2 y3 y4 => ?_⟩
  · -- what the class does
    have hwh := (k_isWhat w (σ 0 0) (CH H A κ) hw (by omega)).1 (by unfold wtP; omega)
    have hwn := (k_isWhen t (CH H A κ) ht).1 (by unfold wnP; omega)
    have hnw : ∀ (K : Nat → Hp → Option (Int32 × Hp)), nwO (CH H A κ) 1 K = K H.1 (CH (bB H (fun _ => 0) (fun _ => none) 0) A κ) := fun K => by rw [hS]; exact b_nwO hS hF K
    have hadd : f_X1_add E (A.x + 9) (some H.1) (CH (bB H I G 3) A κ) = some ((), H3) := by
      unfold f_X1_add f_X1_add_8
      simp (disch := omega) only [iL239, cV0, cR0_0, cR0_1, cR0_2, cR0_3, cR0_4, cR0_5, cV1, cR1_1, cR1_2, cR1_3, cR1_4, cR1_5, cR1_6, cR1_7, cI1_0, cI1_8, cP1_8, cI1_9, cP1_9, cV9, cR9_0, cR9_1, cV10, cV11, cV12, cR12_0, cR12_1, cR12_2, cR12_3, cR12_4, cR12_5, cR12_6, cV18, cR18_0, cR18_1, cR18_2, cR18_3, cR18_4, cI18_5, cP18_5, cI18_6, cP18_6, cV22, cR22_0, cR22_1, cI22_2, cP22_2, cI22_3, cP22_3, cI22_4, cP22_4, cV23, cR23_0, cR23_1, cR23_3, cR23_4, cR23_5, cR23_6, cR23_7, cR23_8, cR23_9, cR23_10, cI23_2, cP23_2, cR10_1, cI10_2, cR11_1, cI11_2, cL2, cS2, cL3, cS3, cL4, cS4, cL5, cS5, cL6, cS6, cL7, cS7, cL8, cS8, cL13, cS13, cL14, cS14, cL15, cS15, cL16, cS16, cL17, cS17, cL19, cS19, cL20, cS20, cL21, cS21, cL24, cS24, cL25, cS25, cL26, cS26, cL27, cS27, cL28, cS28, cL29, cS29, cL30, cS30, cL31, cS31, bV, bK, bI0, bI1, bI2, bI3, bI4, bI5, bI6, bI7, bI8, bI9, bI10, bR11, bR12, bR13, bP9, bP10, bL1, bS1, bL2, bS2, bL3, bS3, k_rsize, bd_s]
      rw [hplc]
      unfold f_X1_add_41
      simp (disch := omega) only [iL239, cV0, cR0_0, cR0_1, cR0_2, cR0_3, cR0_4, cR0_5, cV1, cR1_1, cR1_2, cR1_3, cR1_4, cR1_5, cR1_6, cR1_7, cI1_0, cI1_8, cP1_8, cI1_9, cP1_9, cV9, cR9_0, cR9_1, cV10, cV11, cV12, cR12_0, cR12_1, cR12_2, cR12_3, cR12_4, cR12_5, cR12_6, cV18, cR18_0, cR18_1, cR18_2, cR18_3, cR18_4, cI18_5, cP18_5, cI18_6, cP18_6, cV22, cR22_0, cR22_1, cI22_2, cP22_2, cI22_3, cP22_3, cI22_4, cP22_4, cV23, cR23_0, cR23_1, cR23_3, cR23_4, cR23_5, cR23_6, cR23_7, cR23_8, cR23_9, cR23_10, cI23_2, cP23_2, cR10_1, cI10_2, cR11_1, cI11_2, cL2, cS2, cL3, cS3, cL4, cS4, cL5, cS5, cL6, cS6, cL7, cS7, cL8, cS8, cL13, cS13, cL14, cS14, cL15, cS15, cL16, cS16, cL17, cS17, cL19, cS19, cL20, cS20, cL21, cS21, cL24, cS24, cL25, cS25, cL26, cS26, cL27, cS27, cL28, cS28, cL29, cS29, cL30, cS30, cL31, cS31, bV, bK, bI0, bI1, bI2, bI3, bI4, bI5, bI6, bI7, bI8, bI9, bI10, bR11, bR12, bR13, bP9, bP10, bL1, bS1, bL2, bS2, bL3, bS3]
      rw [hS1, d7, bd_s]
      have h9 : H2.2 (A.x + 9) = some (cc A κ 9) := hc2 9 (by omega) (by omega)
      have h10 : H2.2 (A.x + 10) = some (uO A.n A.n A.la) := by
        have := hc2 10 (by omega) (by omega)
        rw [show cc A κ 10 = cfx A κ 10 from rfl, cfx_10] at this
        exact this
      have eg : ∀ (K : Option Nat → Option (Unit × Hp)), gR H2 (some (A.x + 9)) 2 0 K = K (some (A.x + 10)) := fun K => by
        unfold gR
        rw [obj_at h9]
        rfl
      rw [eg, uO_rc h10, f7, bd_s]
      rfl
    have htail : ∀ Hx, Hx = CH H3 A' (kB κ w t wo rk) → (gR Hx (some A.x) 8 5 (fun x90 => rcv Hx x90 7 (fun b93 => bd (f_X6_forget b93 Hx) (fun u93 h => gI h (some H.1) 1 0 (fun x98 => rtI x98 h))))) = some (iI (σ 9 0), CH H3 A' (sg (kB κ w t wo rk) 55 0 0)) := fun Hx e => by
      subst e
      rw [← ax, ← hbn]
      simp (disch := omega) only [iL239, cV0, cR0_0, cR0_1, cR0_2, cR0_3, cR0_4, cR0_5, cV1, cR1_1, cR1_2, cR1_3, cR1_4, cR1_5, cR1_6, cR1_7, cI1_0, cI1_8, cP1_8, cI1_9, cP1_9, cV9, cR9_0, cR9_1, cV10, cV11, cV12, cR12_0, cR12_1, cR12_2, cR12_3, cR12_4, cR12_5, cR12_6, cV18, cR18_0, cR18_1, cR18_2, cR18_3, cR18_4, cI18_5, cP18_5, cI18_6, cP18_6, cV22, cR22_0, cR22_1, cI22_2, cP22_2, cI22_3, cP22_3, cI22_4, cP22_4, cV23, cR23_0, cR23_1, cR23_3, cR23_4, cR23_5, cR23_6, cR23_7, cR23_8, cR23_9, cR23_10, cI23_2, cP23_2, cR10_1, cI10_2, cR11_1, cI11_2, cL2, cS2, cL3, cS3, cL4, cS4, cL5, cS5, cL6, cS6, cL7, cS7, cL8, cS8, cL13, cS13, cL14, cS14, cL15, cS15, cL16, cS16, cL17, cS17, cL19, cS19, cL20, cS20, cL21, cS21, cL24, cS24, cL25, cS25, cL26, cS26, cL27, cS27, cL28, cS28, cL29, cS29, cL30, cS30, cL31, cS31, bV, bK, bI0, bI1, bI2, bI3, bI4, bI5, bI6, bI7, bI8, bI9, bI10, bR11, bR12, bR13, bP9, bP10, bL1, bS1, bL2, bS2, bL3, bS3, k_forget, bd_s]
      rw [n1]
      rfl
    have key : f_X7_bid E A.x (iI w) (iI t) (iI wo) (iI rk) (CH H A κ) = some (iI (σ 9 0), CH H3 A' (sg (kB κ w t wo rk) 55 0 0)) := by
      unfold f_X7_bid
      simp (disch := omega) only [iL239, cV0, cR0_0, cR0_1, cR0_2, cR0_3, cR0_4, cR0_5, cV1, cR1_1, cR1_2, cR1_3, cR1_4, cR1_5, cR1_6, cR1_7, cI1_0, cI1_8, cP1_8, cI1_9, cP1_9, cV9, cR9_0, cR9_1, cV10, cV11, cV12, cR12_0, cR12_1, cR12_2, cR12_3, cR12_4, cR12_5, cR12_6, cV18, cR18_0, cR18_1, cR18_2, cR18_3, cR18_4, cI18_5, cP18_5, cI18_6, cP18_6, cV22, cR22_0, cR22_1, cI22_2, cP22_2, cI22_3, cP22_3, cI22_4, cP22_4, cV23, cR23_0, cR23_1, cR23_3, cR23_4, cR23_5, cR23_6, cR23_7, cR23_8, cR23_9, cR23_10, cI23_2, cP23_2, cR10_1, cI10_2, cR11_1, cI11_2, cL2, cS2, cL3, cS3, cL4, cS4, cL5, cS5, cL6, cS6, cL7, cS7, cL8, cS8, cL13, cS13, cL14, cS14, cL15, cS15, cL16, cS16, cL17, cS17, cL19, cS19, cL20, cS20, cL21, cS21, cL24, cS24, cL25, cS25, cL26, cS26, cL27, cS27, cL28, cS28, cL29, cS29, cL30, cS30, cL31, cS31, bV, bK, bI0, bI1, bI2, bI3, bI4, bI5, bI6, bI7, bI8, bI9, bI10, bR11, bR12, bR13, bP9, bP10, bL1, bS1, bL2, bS2, bL3, bS3, iI_0, iI_1, iI_neg, iL2, iL3, iL4, iL5, iL6, iL7, iL8, iL9, iL10, iL11, iL12, iL13, iL14, iL15, iL16, iL17, iL30, iL31, iL60, iL99, iL100, iL240, iL480, iL1000, iL1920, iL10000, iI_add, iI_sub, iI_mul, iI_div, iI_le, iI_lt, iI_eq, bd_s, k_size, k_isWithin, iI_b2, e0, hwh, hwn]
      rw [if_neg (by omega), if_neg (fun z => z ⟨by omega, by omega⟩), if_neg (fun z => z ⟨by omega, by omega⟩), if_neg (by omega), if_neg (by omega), hnw]
      simp (disch := omega) only [iL239, cV0, cR0_0, cR0_1, cR0_2, cR0_3, cR0_4, cR0_5, cV1, cR1_1, cR1_2, cR1_3, cR1_4, cR1_5, cR1_6, cR1_7, cI1_0, cI1_8, cP1_8, cI1_9, cP1_9, cV9, cR9_0, cR9_1, cV10, cV11, cV12, cR12_0, cR12_1, cR12_2, cR12_3, cR12_4, cR12_5, cR12_6, cV18, cR18_0, cR18_1, cR18_2, cR18_3, cR18_4, cI18_5, cP18_5, cI18_6, cP18_6, cV22, cR22_0, cR22_1, cI22_2, cP22_2, cI22_3, cP22_3, cI22_4, cP22_4, cV23, cR23_0, cR23_1, cR23_3, cR23_4, cR23_5, cR23_6, cR23_7, cR23_8, cR23_9, cR23_10, cI23_2, cP23_2, cR10_1, cI10_2, cR11_1, cI11_2, cL2, cS2, cL3, cS3, cL4, cS4, cL5, cS5, cL6, cS6, cL7, cS7, cL8, cS8, cL13, cS13, cL14, cS14, cL15, cS15, cL16, cS16, cL17, cS17, cL19, cS19, cL20, cS20, cL21, cS21, cL24, cS24, cL25, cS25, cL26, cS26, cL27, cS27, cL28, cS28, cL29, cS29, cL30, cS30, cL31, cS31, bV, bK, bI0, bI1, bI2, bI3, bI4, bI5, bI6, bI7, bI8, bI9, bI10, bR11, bR12, bR13, bP9, bP10, bL1, bS1, bL2, bS2, bL3, bS3, k_size, bd_s, hb0, hadd]
      exact htail H3 hself.symm
    rw [hS] at key
    exact key
  · rw [sg_f _ _ _ _ (by decide)]
    by_cases y : i < 8 * A.n
    · rw [kB_r (Or.inl rfl) (by omega)]; exact hr.k20 i hi
    · unfold kB
      by_cases y2 : i < 8 * A.n + 8
      · rw [if_pos ⟨Or.inl rfl, by omega, by omega⟩]; omega
      · rw [if_neg (by omega), bidS_k (by omega) (by omega)]; exact hr.k20 i hi
  · rw [an, sg_f _ _ _ _ (by decide)]
    unfold kB
    rw [if_neg (by omega), bidS_9, hn]
    omega
  · exact (kB_CM hwk (by rw [n0, hr.e (by omega) (by omega)]; exact hfr.2.1) hr.1.2.1).of (fun f i hf => sg_f _ _ _ _ (by omega))
  · intro w' hw'
    rw [sg_f _ _ _ _ (by decide), kB_k (by omega) (by omega) (by omega)] at hw'
    rw [sg_f _ _ _ _ (by decide), sg_f _ _ _ _ (by decide), kB_k (by omega) (by omega) (by omega), kB_k (by omega) (by omega) (by omega)]
    exact hr.1.2.2.1 w' hw'
  · rw [sg_f _ _ _ _ (by decide), kB_k (by omega) (by omega) (by omega)]
    exact hr.1.2.2.2 j
  · have hq' : H3.1 ≤ q := hq
    have : cn A' q = none := by
      cases hcq : cn A' q with
      | none => rfl
      | some c =>
        obtain ⟨z1, z2⟩ := ca_cn A' hcq
        have := hcell3 c z2
        omega
    rw [hbase q this]
    exact fr3 q hq'
  · rw [hbase q (hcn q (Or.inl ⟨y1, y2⟩)), f6 q (cn_fix y2 (c := 10) (by omega)) (by rcases hla1 with z | z <;> omega), d6 q (cn_fix y2 (c := 11) (by omega)) (by rcases hlb1 with z | z <;> omega), bB_old _ _ _ y1]
end
