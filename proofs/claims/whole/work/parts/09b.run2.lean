/-! a train leaves, or its minute is put down -/
section
variable {h : Hp} {A : CA} {κ σ : Sg} {ρ' : Nat → Nat}
theorem cA29 {α : Type} (K : Int32 → Option α) : alI (CH h A κ) (some (A.x + 29)) K = K (iI 256) := by
  have := arI_C (h := h) (A := A) (κ := κ) (c := 29) (by omega) rfl (fun _ n _ => K (Int32.ofNat n))
  exact this
theorem cA30 {α : Type} (K : Int32 → Option α) : alI (CH h A κ) (some (A.x + 30)) K = K (iI 16) := by
  have := arI_C (h := h) (A := A) (κ := κ) (c := 30) (by omega) rfl (fun _ n _ => K (Int32.ofNat n))
  exact this
set_option maxHeartbeats 4000000 in
theorem k_46 (hk : KI h A κ ρ') {τ ρ : Sg} {t : Int} (ht : 0 ≤ t ∧ t ≤ 479) (hI : CI A.n κ τ ρ t) {b : Nat} (hb : b < A.n) (hg : κ 19 b ≠ 0) (h26 : ρ 26 b < lgs κ b) (h27 : ρ 27 b ≤ t) (hlv : lv κ b (ρ 26 b) ≤ t) {s w : Int} (hs : s = sec κ b (ρ 26 b)) (hww : w = 0 ∨ w = 1) (hq : slt κ b s = s * 2 + w) :
    ∃ τ', CI A.n κ τ' (rstep κ ρ b t) t ∧ f_X6_leaveOrPutDown_46 (iI (s * 2)) (iI w) (some (A.x + 23)) (some (A.b b)) (iI t) (iI (b : Int)) (iI s) (CH h A τ) = some ((), CH h A τ') := by
  have hI0 := hI
  obtain ⟨i1, i2, i3, i4, i5⟩ := hI
  have h16 := hk.1.n16
  have hn := hk.1.2.2
  have hw := hk.1.1.1
  have hko := hk.1.ex i1 (by decide)
  have hwt := hko.1.1
  have hb9 : (b : Int) < κ 9 0 := by omega
  obtain ⟨r26, r27, r28, r29⟩ := i2 b hb9
  have hsr := sec_rng hw (b := b) (by omega) r26.1 h26
  have hst := stn_rng hw (b := b) (by omega) r26.1 r26.2
  have hln := lng_rng hw (b := b) (by omega) r26.1 h26
  have hlg := lgs_rng hw (b := b) (by omega)
  have hbh := bhd_rng hw
  obtain ⟨c56, c57, c59, c60, c61⟩ := i3 b hb
  obtain ⟨c58, cfu, cwi⟩ := i4 b hb
  have h29 := (r29 (stn κ b (ρ 26 b)).toNat (by omega)).1
  rw [show 8 * b + (stn κ b (ρ 26 b)).toNat = (8 * (b : Int) + stn κ b (ρ 26 b)).toNat by omega] at h29
  obtain ⟨hH1, hH2, hH3, hH4⟩ := CI_hl (by omega) hw hI0 hb h26 hs hq
  have hrw := rstep_RW hw i2 b hb9 t ht
  have ecor := i1.cor (by decide)
  have ecl : clsd τ s t = clsd κ s t := by
    have e1 : ∀ σ : Sg, clsd σ s t = clsd (cor σ) s t := fun _ => rfl
    rw [e1 τ, ecor, ← e1 κ]
  have eln : lng τ b (ρ 26 b) = lng κ b (ρ 26 b) := by
    have e1 : ∀ σ : Sg, lng σ b (ρ 26 b) = lng (cor σ) b (ρ 26 b) := fun _ => rfl
    rw [e1 τ, ecor, ← e1 κ]
  have elg : lgs τ b = lgs κ b := by
    have e1 : ∀ σ : Sg, lgs σ b = lgs (cor σ) b := fun _ => rfl
    rw [e1 τ, ecor, ← e1 κ]
  have ebh : bhd τ = bhd κ := by
    have e1 : ∀ σ : Sg, bhd σ = bhd (cor σ) := fun _ => rfl
    rw [e1 τ, ecor, ← e1 κ]
  have hqr : 0 ≤ s * 2 + w ∧ s * 2 + w < 16 := by omega
  have hne : ¬ ρ 26 b = lgs κ b := by omega
  -- the reference's step
  have er : rstep κ ρ b t = (if ρ 29 (8 * b + stn κ b (ρ 26 b)).toNat ≤ 0 then
        if clsd κ s t = true then sg ρ 32 b (ρ 32 b + 1)
        else match hlR κ ρ b s t with
          | some o => sg ρ 33 (16 * b + o) (ρ 33 (16 * b + o) + 1)
          | none => sg (sg (sg ρ 30 (8 * b + ρ 26 b).toNat t) 27 b (t + lng κ b (ρ 26 b))) 26 b (ρ 26 b + 1)
      else sg (sg ρ 29 (8 * b + stn κ b (ρ 26 b)).toNat (ρ 29 (8 * b + stn κ b (ρ 26 b)).toNat - 1)) 31 b (ρ 31 b + 1)) := by
    unfold rstep
    rw [if_pos h27, if_neg hne, if_pos hlv, ← hs]
    generalize hlR κ ρ b s t = oo
    cases oo <;> rfl
  rw [er] at hrw ⊢
  unfold f_X6_leaveOrPutDown_46
  simp (disch := omega) only [iL239, cV0, cR0_0, cR0_1, cR0_2, cR0_3, cR0_4, cR0_5, cV1, cR1_1, cR1_2, cR1_3, cR1_4, cR1_5, cR1_6, cR1_7, cI1_0, cI1_8, cP1_8, cI1_9, cP1_9, cV9, cR9_0, cR9_1, cV10, cV11, cV12, cR12_0, cR12_1, cR12_2, cR12_3, cR12_4, cR12_5, cR12_6, cV18, cR18_0, cR18_1, cR18_2, cR18_3, cR18_4, cI18_5, cP18_5, cI18_6, cP18_6, cV22, cR22_0, cR22_1, cI22_2, cP22_2, cI22_3, cP22_3, cI22_4, cP22_4, cV23, cR23_0, cR23_1, cR23_3, cR23_4, cR23_5, cR23_6, cR23_7, cR23_8, cR23_9, cR23_10, cI23_2, cP23_2, cR10_1, cI10_2, cR11_1, cI11_2, cL2, cS2, cL3, cS3, cL4, cS4, cL5, cS5, cL6, cS6, cL7, cS7, cL8, cS8, cL13, cS13, cL14, cS14, cL15, cS15, cL16, cS16, cL17, cS17, cL19, cS19, cL20, cS20, cL21, cS21, cL24, cS24, cL25, cS25, cL26, cS26, cL27, cS27, cL28, cS28, cL29, cS29, cL30, cS30, cL31, cS31, bV, bK, bI0, bI1, bI2, bI3, bI4, bI5, bI6, bI7, bI8, bI9, bI10, bR11, bR12, bR13, bP9, bP10, bL1, bS1, bL2, bS2, bL3, bS3, iI_0, iI_1, iI_neg, iL2, iL3, iL4, iL5, iL6, iL7, iL8, iL9, iL10, iL11, iL12, iL13, iL14, iL15, iL16, iL17, iL30, iL31, iL60, iL99, iL100, iL240, iL480, iL1000, iL1920, iL10000, iI_add, iI_sub, iI_mul, iI_div, iI_le, iI_lt, iI_eq, bd_s, Int.toNat_natCast, c58]
  by_cases cA : ρ 29 (8 * b + stn κ b (ρ 26 b)).toNat ≤ 0
  · rw [if_pos cA] at hrw ⊢
    rw [if_pos cA]
    simp (disch := omega) only [iL239, cV0, cR0_0, cR0_1, cR0_2, cR0_3, cR0_4, cR0_5, cV1, cR1_1, cR1_2, cR1_3, cR1_4, cR1_5, cR1_6, cR1_7, cI1_0, cI1_8, cP1_8, cI1_9, cP1_9, cV9, cR9_0, cR9_1, cV10, cV11, cV12, cR12_0, cR12_1, cR12_2, cR12_3, cR12_4, cR12_5, cR12_6, cV18, cR18_0, cR18_1, cR18_2, cR18_3, cR18_4, cI18_5, cP18_5, cI18_6, cP18_6, cV22, cR22_0, cR22_1, cI22_2, cP22_2, cI22_3, cP22_3, cI22_4, cP22_4, cV23, cR23_0, cR23_1, cR23_3, cR23_4, cR23_5, cR23_6, cR23_7, cR23_8, cR23_9, cR23_10, cI23_2, cP23_2, cR10_1, cI10_2, cR11_1, cI11_2, cL2, cS2, cL3, cS3, cL4, cS4, cL5, cS5, cL6, cS6, cL7, cS7, cL8, cS8, cL13, cS13, cL14, cS14, cL15, cS15, cL16, cS16, cL17, cS17, cL19, cS19, cL20, cS20, cL21, cS21, cL24, cS24, cL25, cS25, cL26, cS26, cL27, cS27, cL28, cS28, cL29, cS29, cL30, cS30, cL31, cS31, bV, bK, bI0, bI1, bI2, bI3, bI4, bI5, bI6, bI7, bI8, bI9, bI10, bR11, bR12, bR13, bP9, bP10, bL1, bS1, bL2, bS2, bL3, bS3, iI_0, iI_1, iI_neg, iL2, iL3, iL4, iL5, iL6, iL7, iL8, iL9, iL10, iL11, iL12, iL13, iL14, iL15, iL16, iL17, iL30, iL31, iL60, iL99, iL100, iL240, iL480, iL1000, iL1920, iL10000, iI_add, iI_sub, iI_mul, iI_div, iI_le, iI_lt, iI_eq, bd_s, k_isClosed hwt, ecl, iI_b2, Int.toNat_natCast]
    by_cases cB : clsd κ s t = true
    · rw [if_pos cB] at hrw ⊢
      rw [if_neg (fun z => z cB)]
      refine ⟨sg τ 60 b (τ 60 b + 1), ⟨i1.sg (by decide) _ _, hrw, fun c hc => ?_, fun c hc => i4 c hc, i5⟩, rfl⟩
      obtain ⟨d1, d2, d3, d4, d5⟩ := i3 c hc
      refine ⟨d1, d2, d3, ?_, d5⟩
      by_cases e : c = b
      · subst e; rw [sg_eq, sg_eq, d4]
      · rw [sg_i _ _ _ e, sg_i _ _ _ e, d4]
    · rw [if_neg cB] at hrw ⊢
      rw [if_pos cB]
      by_cases cC : τ 62 (s * 2 + w).toNat = -1 ∨ τ 63 (s * 2 + w).toNat < t
      · obtain ⟨e1, e2⟩ := hH2 cC
        rw [e1] at hrw ⊢
        simp only at hrw ⊢
        have hgo : ∃ τ', CI A.n κ τ' (sg (sg (sg ρ 30 (8 * (b : Int) + ρ 26 b).toNat t) 27 b (t + lng κ b (ρ 26 b))) 26 b (ρ 26 b + 1)) t ∧ f_X6_leaveOrPutDown_153 (some (A.x + 23)) (some (A.b b)) (iI t) (iI (b : Int)) (iI (s * 2 + w)) (CH h A τ) = some ((), CH h A τ') := by
          refine ⟨sg (sg (sg (sg (sg τ 62 (s * 2 + w).toNat b) 63 (s * 2 + w).toNat (t + lng κ b (ρ 26 b) - 1 + bhd κ)) 56 b (ρ 26 b + 1)) 57 b (t + lng κ b (ρ 26 b))) 58 b (dl κ b (stn κ b (ρ 26 b + 1))), ⟨((((i1.sg (by decide) _ _).sg (by decide) _ _).sg (by decide) _ _).sg (by decide) _ _).sg (by decide) _ _, hrw, fun c hc => ?_, fun c hc => ?_, ?_⟩, ?_⟩
          · obtain ⟨d1, d2, d3, d4, d5⟩ := i3 c hc
            refine ⟨?_, ?_, d3, d4, d5⟩
            · by_cases e : c = b
              · subst e; simp [sg]
              · simp [sg, e]; exact d1
            · by_cases e : c = b
              · subst e; simp [sg]
              · simp [sg, e]; exact d2
          · obtain ⟨f1, f2, f3⟩ := i4 c hc
            by_cases e : c = b
            · subst e
              have e26 : sg (sg (sg ρ 30 (8 * (c : Int) + ρ 26 c).toNat t) 27 c (t + lng κ c (ρ 26 c))) 26 c (ρ 26 c + 1) 26 c = ρ 26 c + 1 := sg_eq _ _ _ _
              have e29 : ∀ j, sg (sg (sg ρ 30 (8 * (c : Int) + ρ 26 c).toNat t) 27 c (t + lng κ c (ρ 26 c))) 26 c (ρ 26 c + 1) 29 j = ρ 29 j := fun j => rfl
              have e30 : ∀ j, sg (sg (sg ρ 30 (8 * (c : Int) + ρ 26 c).toNat t) 27 c (t + lng κ c (ρ 26 c))) 26 c (ρ 26 c + 1) 30 j = if j = (8 * (c : Int) + ρ 26 c).toNat then t else ρ 30 j := fun j => by
                rw [sg_f _ _ _ _ (by decide), sg_f _ _ _ _ (by decide)]
                by_cases z : j = (8 * (c : Int) + ρ 26 c).toNat
                · rw [z, sg_eq, if_pos rfl]
                · rw [sg_i _ _ _ z, if_neg z]
              unfold CIb
              rw [e26]
              refine ⟨?_, fun i z1 z2 => ?_, fun i z1 z2 => ⟨fun z3 => ?_, fun z3 => ?_⟩⟩
              · rw [sg_eq, e29]
                exact (f2 _ (by omega) (by omega)).symm
              · rw [e29]; exact f2 i (by omega) z2
              · rw [e30]
                by_cases z : i = ρ 26 c
                · rw [if_pos (by rw [z])]; omega
                · rw [if_neg (by omega)]; exact (f3 i z1 z2).1 (by omega)
              · rw [e30, if_neg (by omega)]
                exact (f3 i z1 z2).2 (by omega)
            · have hrc := (i2 c (by omega)).1
              have hlc := lgs_rng hw (b := c) (by omega)
              have e26 : sg (sg (sg ρ 30 (8 * (b : Int) + ρ 26 b).toNat t) 27 b (t + lng κ b (ρ 26 b))) 26 b (ρ 26 b + 1) 26 c = ρ 26 c := sg_i _ _ _ e
              have e30 : ∀ i : Int, 0 ≤ i → i < 8 → sg (sg (sg ρ 30 (8 * (b : Int) + ρ 26 b).toNat t) 27 b (t + lng κ b (ρ 26 b))) 26 b (ρ 26 b + 1) 30 (8 * (c : Int) + i).toNat = ρ 30 (8 * (c : Int) + i).toNat := fun i z1 z2 => by
                rw [sg_f _ _ _ _ (by decide), sg_f _ _ _ _ (by decide), sg_i _ _ _ (by omega)]
              unfold CIb
              rw [e26]
              refine ⟨?_, f2, fun i z1 z2 => ?_⟩
              · rw [sg_i _ _ _ e]; exact f1
              · rw [e30 i z1 z2]; exact f3 i z1 z2
          · -- the slots
            intro s' q' s0 s1 hq'
            have lb : legO κ b s = ρ 26 b := by rw [hs]; exact legO_sec r26.1 h26
            have mem' : ∀ o : Nat, o < A.n → (MBR κ (sg (sg (sg ρ 30 (8 * (b : Int) + ρ 26 b).toNat t) 27 b (t + lng κ b (ρ 26 b))) 26 b (ρ 26 b + 1)) o s' ↔ (MBR κ ρ o s' ∨ (o = b ∧ s' = s))) := fun o ho => by
              unfold MBR
              by_cases e : o = b
              · subst e
                rw [sg_eq]
                constructor
                · rintro ⟨z1, z2, z3⟩
                  by_cases z : legO κ o s' < ρ 26 o
                  · exact Or.inl ⟨z1, z2, z⟩
                  · right
                    refine ⟨rfl, ?_⟩
                    have := (legO_some z2).2.2
                    rw [show legO κ o s' = ρ 26 o by omega] at this
                    rw [← this, hs]
                · rintro (⟨z1, z2, z3⟩ | ⟨-, z⟩)
                  · exact ⟨z1, z2, by omega⟩
                  · rw [z, lb]
                    exact ⟨hg, by omega, by omega⟩
              · rw [sg_i _ _ _ e]
                constructor
                · exact fun z => Or.inl z
                · rintro (z | z)
                  · exact z
                  · exact absurd z.1 e
            have wi' : ∀ o : Nat, o < A.n → legO κ o s' ≠ -1 → ¬ (o = b ∧ s' = s) → wi κ (sg (sg (sg ρ 30 (8 * (b : Int) + ρ 26 b).toNat t) 27 b (t + lng κ b (ρ 26 b))) 26 b (ρ 26 b + 1)) o s' = wi κ ρ o s' := fun o ho z1 z2 => by
              obtain ⟨l1, l2, l3⟩ := legO_some z1
              have hlo := lgs_rng hw (b := o) (by omega)
              unfold wi
              rw [sg_f _ _ _ _ (by decide), sg_f _ _ _ _ (by decide), sg_i]
              intro z3
              have e1 : o = b := by omega
              subst e1
              refine z2 ⟨rfl, ?_⟩
              rw [← l3, hs, show legO κ o s' = ρ 26 o by omega]
            have wib : wi κ (sg (sg (sg ρ 30 (8 * (b : Int) + ρ 26 b).toNat t) 27 b (t + lng κ b (ρ 26 b))) 26 b (ρ 26 b + 1)) b s = t := by
              unfold wi
              rw [lb, sg_f _ _ _ _ (by decide), sg_f _ _ _ _ (by decide), sg_eq]
            have t62 : ∀ j, sg (sg (sg (sg (sg τ 62 (s * 2 + w).toNat b) 63 (s * 2 + w).toNat (t + lng κ b (ρ 26 b) - 1 + bhd κ)) 56 b (ρ 26 b + 1)) 57 b (t + lng κ b (ρ 26 b))) 58 b (dl κ b (stn κ b (ρ 26 b + 1))) 62 j = if j = (s * 2 + w).toNat then (b : Int) else τ 62 j := fun j => by
              rw [sg_f _ _ _ _ (by decide), sg_f _ _ _ _ (by decide), sg_f _ _ _ _ (by decide), sg_f _ _ _ _ (by decide)]
              by_cases z : j = (s * 2 + w).toNat
              · rw [z, sg_eq, if_pos rfl]
              · rw [sg_i _ _ _ z, if_neg z]
            have t63 : ∀ j, sg (sg (sg (sg (sg τ 62 (s * 2 + w).toNat b) 63 (s * 2 + w).toNat (t + lng κ b (ρ 26 b) - 1 + bhd κ)) 56 b (ρ 26 b + 1)) 57 b (t + lng κ b (ρ 26 b))) 58 b (dl κ b (stn κ b (ρ 26 b + 1))) 63 j = if j = (s * 2 + w).toNat then t + lng κ b (ρ 26 b) - 1 + bhd κ else τ 63 j := fun j => by
              rw [sg_f _ _ _ _ (by decide), sg_f _ _ _ _ (by decide), sg_f _ _ _ _ (by decide)]
              by_cases z : j = (s * 2 + w).toNat
              · rw [z, sg_eq, if_pos rfl]
              · rw [sg_i _ _ _ z, if_neg z, sg_f _ _ _ _ (by decide)]
            rw [t62, t63]
            by_cases cq : q' = s * 2 + w
            · have es : s' = s := by omega
              subst es
              rw [if_pos (by rw [cq]), if_pos (by rw [cq])]
              refine Or.inr ⟨b, hb, rfl, by rw [hq, cq], (mem' b hb).2 (Or.inr ⟨rfl, rfl⟩), ?_, fun o ho z1 z2 z3 => ?_⟩
              · unfold eN
                rw [wib, lb]
              · rcases (mem' o ho).1 z2 with z | z
                · have := e2 o ho (by rw [z1, cq]) z
                  rw [wib]
                  unfold eN at this ⊢
                  rw [wi' o ho z.2.1 (fun y => z3 y.1)]
                  exact this
                · exact absurd z.1 z3
            · rw [if_neg (by omega), if_neg (by omega)]
              have nb : ∀ o : Nat, o < A.n → slt κ o s' = q' → ¬ (o = b ∧ s' = s) := fun o ho z1 z2 => by
                rw [z2.1, z2.2, hq] at z1
                exact cq z1.symm
              rcases i5 s' q' s0 s1 hq' with ⟨a1, a2, a3⟩ | ⟨H, a1, a2, a3, a4, a5, a6⟩
              · refine Or.inl ⟨a1, a2, fun o ho z1 z2 => ?_⟩
                rcases (mem' o ho).1 z2 with z | z
                · exact a3 o ho z1 z
                · exact nb o ho z1 z
              · refine Or.inr ⟨H, a1, a2, a3, (mem' H a1).2 (Or.inl a4), ?_, fun o ho z1 z2 z3 => ?_⟩
                · rw [a5]
                  unfold eN
                  rw [wi' H a1 a4.2.1 (nb H a1 a3)]
                · rcases (mem' o ho).1 z2 with z | z
                  · have := a6 o ho z1 z z3
                    unfold eN at this ⊢
                    rw [wi' o ho z.2.1 (nb o ho z1), wi' H a1 a4.2.1 (nb H a1 a3)]
                    exact this
                  · exact absurd z (nb o ho z1)
          · have hk1 : ∀ υ : Sg, Ex LR κ υ → WF υ ∧ lgs υ b = lgs κ b ∧ lng υ b (ρ 26 b) = lng κ b (ρ 26 b) ∧ bhd υ = bhd κ ∧ stn υ b (ρ 26 b + 1) = stn κ b (ρ 26 b + 1) ∧ (∀ i, dl υ b i = dl κ b i) := fun υ hυ => by
              have ec := hυ.cor (by decide)
              have e1 : ∀ σ : Sg, lgs σ b = lgs (cor σ) b := fun _ => rfl
              have e2 : ∀ σ : Sg, lng σ b (ρ 26 b) = lng (cor σ) b (ρ 26 b) := fun _ => rfl
              have e3 : ∀ σ : Sg, bhd σ = bhd (cor σ) := fun _ => rfl
              have e4 : ∀ σ : Sg, stn σ b (ρ 26 b + 1) = stn (cor σ) b (ρ 26 b + 1) := fun _ => rfl
              refine ⟨(hk.1.ex hυ (by decide)).1.1, by rw [e1 υ, ec, ← e1 κ], by rw [e2 υ, ec, ← e2 κ], by rw [e3 υ, ec, ← e3 κ], by rw [e4 υ, ec, ← e4 κ], fun i => hυ 21 _ (by decide)⟩
            have hst1 := stn_rng hw (b := b) (i := ρ 26 b + 1) (by omega) (by omega) (by omega)
            have x1 := i1.sg (f := 62) (by decide) (s * 2 + w).toNat b
            have x2 := x1.sg (f := 63) (by decide) (s * 2 + w).toNat (t + lng κ b (ρ 26 b) - 1 + bhd κ)
            have x3 := x2.sg (f := 56) (by decide) b (ρ 26 b + 1)
            have x4 := x3.sg (f := 57) (by decide) b (t + lng κ b (ρ 26 b))
            have q1 := hk1 τ i1
            have q2 := hk1 _ x1
            have q4 := hk1 _ x4
            have e56 : sg (sg τ 62 (s * 2 + w).toNat b) 63 (s * 2 + w).toNat (t + lng κ b (ρ 26 b) - 1 + bhd κ) 56 b = ρ 26 b := by rw [sg_f _ _ _ _ (by decide), sg_f _ _ _ _ (by decide), c56]
            have e56b : sg (sg (sg (sg τ 62 (s * 2 + w).toNat b) 63 (s * 2 + w).toNat (t + lng κ b (ρ 26 b) - 1 + bhd κ)) 56 b (ρ 26 b + 1)) 57 b (t + lng κ b (ρ 26 b)) 56 b = ρ 26 b + 1 := by rw [sg_f _ _ _ _ (by decide), sg_eq]
            unfold f_X6_leaveOrPutDown_153 f_X6_leaveOrPutDown_239
            simp (disch := omega) only [iL239, cV0, cR0_0, cR0_1, cR0_2, cR0_3, cR0_4, cR0_5, cV1, cR1_1, cR1_2, cR1_3, cR1_4, cR1_5, cR1_6, cR1_7, cI1_0, cI1_8, cP1_8, cI1_9, cP1_9, cV9, cR9_0, cR9_1, cV10, cV11, cV12, cR12_0, cR12_1, cR12_2, cR12_3, cR12_4, cR12_5, cR12_6, cV18, cR18_0, cR18_1, cR18_2, cR18_3, cR18_4, cI18_5, cP18_5, cI18_6, cP18_6, cV22, cR22_0, cR22_1, cI22_2, cP22_2, cI22_3, cP22_3, cI22_4, cP22_4, cV23, cR23_0, cR23_1, cR23_3, cR23_4, cR23_5, cR23_6, cR23_7, cR23_8, cR23_9, cR23_10, cI23_2, cP23_2, cR10_1, cI10_2, cR11_1, cI11_2, cL2, cS2, cL3, cS3, cL4, cS4, cL5, cS5, cL6, cS6, cL7, cS7, cL8, cS8, cL13, cS13, cL14, cS14, cL15, cS15, cL16, cS16, cL17, cS17, cL19, cS19, cL20, cS20, cL21, cS21, cL24, cS24, cL25, cS25, cL26, cS26, cL27, cS27, cL28, cS28, cL29, cS29, cL30, cS30, cL31, cS31, bV, bK, bI0, bI1, bI2, bI3, bI4, bI5, bI6, bI7, bI8, bI9, bI10, bR11, bR12, bR13, bP9, bP10, bL1, bS1, bL2, bS2, bL3, bS3, iI_0, iI_1, iI_neg, iL2, iL3, iL4, iL5, iL6, iL7, iL8, iL9, iL10, iL11, iL12, iL13, iL14, iL15, iL16, iL17, iL30, iL31, iL60, iL99, iL100, iL240, iL480, iL1000, iL1920, iL10000, iI_add, iI_sub, iI_mul, iI_div, iI_le, iI_lt, iI_eq, bd_s, Int.toNat_natCast, c56]
            rw [k_lengthOf q1.1 b hb (by omega) (ρ 26 b) r26.1 (by rw [q1.2.1]; exact h26), q1.2.2.1]
            simp (disch := omega) only [iL239, cV0, cR0_0, cR0_1, cR0_2, cR0_3, cR0_4, cR0_5, cV1, cR1_1, cR1_2, cR1_3, cR1_4, cR1_5, cR1_6, cR1_7, cI1_0, cI1_8, cP1_8, cI1_9, cP1_9, cV9, cR9_0, cR9_1, cV10, cV11, cV12, cR12_0, cR12_1, cR12_2, cR12_3, cR12_4, cR12_5, cR12_6, cV18, cR18_0, cR18_1, cR18_2, cR18_3, cR18_4, cI18_5, cP18_5, cI18_6, cP18_6, cV22, cR22_0, cR22_1, cI22_2, cP22_2, cI22_3, cP22_3, cI22_4, cP22_4, cV23, cR23_0, cR23_1, cR23_3, cR23_4, cR23_5, cR23_6, cR23_7, cR23_8, cR23_9, cR23_10, cI23_2, cP23_2, cR10_1, cI10_2, cR11_1, cI11_2, cL2, cS2, cL3, cS3, cL4, cS4, cL5, cS5, cL6, cS6, cL7, cS7, cL8, cS8, cL13, cS13, cL14, cS14, cL15, cS15, cL16, cS16, cL17, cS17, cL19, cS19, cL20, cS20, cL21, cS21, cL24, cS24, cL25, cS25, cL26, cS26, cL27, cS27, cL28, cS28, cL29, cS29, cL30, cS30, cL31, cS31, bV, bK, bI0, bI1, bI2, bI3, bI4, bI5, bI6, bI7, bI8, bI9, bI10, bR11, bR12, bR13, bP9, bP10, bL1, bS1, bL2, bS2, bL3, bS3, iI_0, iI_1, iI_neg, iL2, iL3, iL4, iL5, iL6, iL7, iL8, iL9, iL10, iL11, iL12, iL13, iL14, iL15, iL16, iL17, iL30, iL31, iL60, iL99, iL100, iL240, iL480, iL1000, iL1920, iL10000, iI_add, iI_sub, iI_mul, iI_div, iI_le, iI_lt, iI_eq, bd_s, Int.toNat_natCast]
            rw [k_holdBehind q2.1, q2.2.2.2.1]
            simp (disch := omega) only [iL239, cV0, cR0_0, cR0_1, cR0_2, cR0_3, cR0_4, cR0_5, cV1, cR1_1, cR1_2, cR1_3, cR1_4, cR1_5, cR1_6, cR1_7, cI1_0, cI1_8, cP1_8, cI1_9, cP1_9, cV9, cR9_0, cR9_1, cV10, cV11, cV12, cR12_0, cR12_1, cR12_2, cR12_3, cR12_4, cR12_5, cR12_6, cV18, cR18_0, cR18_1, cR18_2, cR18_3, cR18_4, cI18_5, cP18_5, cI18_6, cP18_6, cV22, cR22_0, cR22_1, cI22_2, cP22_2, cI22_3, cP22_3, cI22_4, cP22_4, cV23, cR23_0, cR23_1, cR23_3, cR23_4, cR23_5, cR23_6, cR23_7, cR23_8, cR23_9, cR23_10, cI23_2, cP23_2, cR10_1, cI10_2, cR11_1, cI11_2, cL2, cS2, cL3, cS3, cL4, cS4, cL5, cS5, cL6, cS6, cL7, cS7, cL8, cS8, cL13, cS13, cL14, cS14, cL15, cS15, cL16, cS16, cL17, cS17, cL19, cS19, cL20, cS20, cL21, cS21, cL24, cS24, cL25, cS25, cL26, cS26, cL27, cS27, cL28, cS28, cL29, cS29, cL30, cS30, cL31, cS31, bV, bK, bI0, bI1, bI2, bI3, bI4, bI5, bI6, bI7, bI8, bI9, bI10, bR11, bR12, bR13, bP9, bP10, bL1, bS1, bL2, bS2, bL3, bS3, iI_0, iI_1, iI_neg, iL2, iL3, iL4, iL5, iL6, iL7, iL8, iL9, iL10, iL11, iL12, iL13, iL14, iL15, iL16, iL17, iL30, iL31, iL60, iL99, iL100, iL240, iL480, iL1000, iL1920, iL10000, iI_add, iI_sub, iI_mul, iI_div, iI_le, iI_lt, iI_eq, bd_s, Int.toNat_natCast, e56, e56b]
            rw [k_stationAt q4.1 b hb (by omega), q4.2.2.2.2.1]
            simp (disch := omega) only [iL239, cV0, cR0_0, cR0_1, cR0_2, cR0_3, cR0_4, cR0_5, cV1, cR1_1, cR1_2, cR1_3, cR1_4, cR1_5, cR1_6, cR1_7, cI1_0, cI1_8, cP1_8, cI1_9, cP1_9, cV9, cR9_0, cR9_1, cV10, cV11, cV12, cR12_0, cR12_1, cR12_2, cR12_3, cR12_4, cR12_5, cR12_6, cV18, cR18_0, cR18_1, cR18_2, cR18_3, cR18_4, cI18_5, cP18_5, cI18_6, cP18_6, cV22, cR22_0, cR22_1, cI22_2, cP22_2, cI22_3, cP22_3, cI22_4, cP22_4, cV23, cR23_0, cR23_1, cR23_3, cR23_4, cR23_5, cR23_6, cR23_7, cR23_8, cR23_9, cR23_10, cI23_2, cP23_2, cR10_1, cI10_2, cR11_1, cI11_2, cL2, cS2, cL3, cS3, cL4, cS4, cL5, cS5, cL6, cS6, cL7, cS7, cL8, cS8, cL13, cS13, cL14, cS14, cL15, cS15, cL16, cS16, cL17, cS17, cL19, cS19, cL20, cS20, cL21, cS21, cL24, cS24, cL25, cS25, cL26, cS26, cL27, cS27, cL28, cS28, cL29, cS29, cL30, cS30, cL31, cS31, bV, bK, bI0, bI1, bI2, bI3, bI4, bI5, bI6, bI7, bI8, bI9, bI10, bR11, bR12, bR13, bP9, bP10, bL1, bS1, bL2, bS2, bL3, bS3, iI_0, iI_1, iI_neg, iL2, iL3, iL4, iL5, iL6, iL7, iL8, iL9, iL10, iL11, iL12, iL13, iL14, iL15, iL16, iL17, iL30, iL31, iL60, iL99, iL100, iL240, iL480, iL1000, iL1920, iL10000, iI_add, iI_sub, iI_mul, iI_div, iI_le, iI_lt, iI_eq, bd_s, Int.toNat_natCast, q4.2.2.2.2.2]
            rfl
        obtain ⟨τ', g1, g2⟩ := hgo
        refine ⟨τ', g1, ?_⟩
        by_cases cD : τ 63 (s * 2 + w).toNat < t
        · rw [if_pos cD]; exact g2
        · have cE : τ 62 (s * 2 + w).toNat = -1 := by
            rcases cC with z | z
            · exact z
            · exact absurd z cD
          rw [if_neg cD, if_pos cE]; exact g2
      · obtain ⟨H, eH⟩ : ∃ H : Nat, τ 62 (s * 2 + w).toNat = H := ⟨(τ 62 (s * 2 + w).toNat).toNat, by omega⟩
        obtain ⟨e1, e2⟩ := hH1 H eH (by omega)
        rw [e1] at hrw ⊢
        simp only at hrw ⊢
        rw [if_neg (by omega), if_neg (by omega)]
        simp only [eH]
        have e61 : ((b : Int) * 16 + (H : Int)).toNat = 16 * b + H := by omega
        rw [e61, c61 H e2]
        refine ⟨sg τ 61 (16 * b + H) (ρ 33 (16 * b + H) + 1), ⟨i1.sg (by decide) _ _, hrw, fun c hc => ?_, fun c hc => i4 c hc, i5⟩, rfl⟩
        obtain ⟨d1, d2, d3, d4, d5⟩ := i3 c hc
        refine ⟨d1, d2, d3, d4, fun o ho => ?_⟩
        by_cases e : 16 * c + o = 16 * b + H
        · rw [e, sg_eq, sg_eq]
        · rw [sg_i _ _ _ e, sg_i _ _ _ e]; exact d5 o ho
  · rw [if_neg cA] at hrw ⊢
    rw [if_neg cA]
    have e59 : sg τ 58 b (ρ 29 (8 * (b : Int) + stn κ b (ρ 26 b)).toNat - 1) 59 b = ρ 31 b := by rw [sg_f _ _ _ _ (by decide), c59]
    simp only [e59]
    refine ⟨sg (sg τ 58 b (ρ 29 (8 * (b : Int) + stn κ b (ρ 26 b)).toNat - 1)) 59 b (ρ 31 b + 1), ⟨(i1.sg (by decide) _ _).sg (by decide) _ _, hrw, fun c hc => ?_, fun c hc => ?_, i5⟩, rfl⟩
    · obtain ⟨d1, d2, d3, d4, d5⟩ := i3 c hc
      refine ⟨d1, d2, ?_, d4, d5⟩
      by_cases e : c = b
      · subst e; rw [sg_eq, sg_eq]
      · rw [sg_i _ _ _ e, sg_i _ _ _ e, sg_f _ _ _ _ (by decide), sg_f _ _ _ _ (by decide), d3]
    · obtain ⟨f1, f2, f3⟩ := i4 c hc
      have hrc := (i2 c (by omega)).1
      by_cases e : c = b
      · subst e
        refine ⟨?_, fun i z1 z2 => ?_, f3⟩
        · show sg (sg τ 58 c _) 59 c _ 58 c = sg (sg ρ 29 _ _) 31 c _ 29 (8 * (c : Int) + stn κ c (ρ 26 c)).toNat
          rw [sg_f _ _ _ _ (by decide), sg_eq, sg_f _ _ _ _ (by decide), sg_eq]
        · have z1' : ρ 26 c < i := z1
          show sg (sg ρ 29 _ _) 31 c _ 29 (8 * (c : Int) + stn κ c i).toNat = _
          have hsi := stn_rng hw (b := c) (i := i) (by omega) (by omega) z2
          rw [sg_f _ _ _ _ (by decide), sg_i]
          · exact f2 i z1' z2
          · intro z
            have : stn κ c i = stn κ c (ρ 26 c) := by omega
            have := stn_inj this
            omega
      · have hsc := stn_rng hw (b := c) (i := ρ 26 c) (by omega) hrc.1 hrc.2
        refine ⟨?_, fun i z1 z2 => ?_, f3⟩
        · show sg (sg τ 58 b _) 59 b _ 58 c = sg (sg ρ 29 _ _) 31 b _ 29 (8 * (c : Int) + stn κ c (ρ 26 c)).toNat
          rw [sg_f _ _ _ _ (by decide), sg_i _ _ _ e, sg_f _ _ _ _ (by decide), sg_i _ _ _ (by omega)]
          exact f1
        · have z1' : ρ 26 c < i := z1
          have hsi := stn_rng hw (b := c) (i := i) (by omega) (by omega) z2
          show sg (sg ρ 29 _ _) 31 b _ 29 (8 * (c : Int) + stn κ c i).toNat = _
          rw [sg_f _ _ _ _ (by decide), sg_i _ _ _ (by omega)]
          exact f2 i z1' z2
end
