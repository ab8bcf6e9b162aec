/-! a list takes a bid -/
def uO (mc sz : Int) (l : Nat) : AE := eO 0 (fun k => if k = 0 then iI mc else if k = 2 then iI sz else 0) (fun k => if k = 1 then some l else none)
theorem obj_at {α : Type} {H : Hp} {q ci : Nat} {I : Nat → Int32} {F : Nat → Option Nat} (h : H.2 q = some (eO ci I F)) (K : Nat → (Nat → Int32) → (Nat → Option Nat) → Option α) : obj H (some q) ci K = K q I F := by
  simp only [obj, h]
  simp
theorem arR_at {α : Type} {H : Hp} {l c : Nat} {F : Nat → Option Nat} (h : H.2 l = some (eR c F)) (K : Nat → Nat → (Nat → Option Nat) → Option α) : arR H (some l) K = K l c F := by
  simp only [arR, h]
theorem hput_at (H : Hp) (q : Nat) (e : AE) : (hput H q e).2 q = some e := va_up_self _ _ _
theorem hput_ne (H : Hp) {q q' : Nat} (e : AE) (h : q' ≠ q) : (hput H q e).2 q' = H.2 q' := va_up_ne _ _ h
theorem hnew_at (H : Hp) (e : AE) : (hnew H e).2 H.1 = some e := va_up_self _ _ _
theorem hnew_ne (H : Hp) {q' : Nat} (e : AE) (h : q' ≠ H.1) : (hnew H e).2 q' = H.2 q' := va_up_ne _ _ h
theorem isB_keep {H H1 : Hp} (hk : ∀ b I F, H.2 b = some (eO 1 I F) → H1.2 b = some (eO 1 I F)) {r : Option Nat} (h : isB H r = true) : isB H1 r = true := by
  cases r with
  | none => rfl
  | some a =>
    obtain ⟨I, F, e⟩ := isB_some h
    unfold isB
    simp only [hk a I F e]
    rfl
theorem uO_pI0 {α : Type} {H : Hp} {q l : Nat} {mc sz : Int} (h : H.2 q = some (uO mc sz l)) (x : Int) (K : Hp → Option α) : pI H (some q) 0 0 (iI x) K = K (hput H q (uO x sz l)) := by
  have e : upd (fun k : Nat => if k = 0 then iI mc else if k = 2 then iI sz else 0) 0 (iI x) = fun k => if k = 0 then iI x else if k = 2 then iI sz else 0 := by
    funext k
    by_cases hk : k = 0
    · subst hk; simp [upd]
    · simp [upd, hk]
  unfold pI
  rw [obj_at h, e]
  rfl
theorem uO_pI2 {α : Type} {H : Hp} {q l : Nat} {mc sz : Int} (h : H.2 q = some (uO mc sz l)) (x : Int) (K : Hp → Option α) : pI H (some q) 0 2 (iI x) K = K (hput H q (uO mc x l)) := by
  have e : upd (fun k : Nat => if k = 0 then iI mc else if k = 2 then iI sz else 0) 2 (iI x) = fun k => if k = 0 then iI mc else if k = 2 then iI x else 0 := by
    funext k
    by_cases hk : k = 2
    · subst hk; simp [upd]
    · simp [upd, hk]
  unfold pI
  rw [obj_at h, e]
  rfl
theorem uO_pR {α : Type} {H : Hp} {q l l' : Nat} {mc sz : Int} (h : H.2 q = some (uO mc sz l)) (K : Hp → Option α) : pR H (some q) 0 1 (some l') K = K (hput H q (uO mc sz l')) := by
  have e : va_up (fun k : Nat => if k = 1 then some l else none) 1 (some l') = fun k => if k = 1 then some l' else none := by
    funext k
    by_cases hk : k = 1
    · subst hk; simp [va_up]
    · simp [va_up, hk]
  unfold pR
  rw [obj_at h, e]
  rfl
theorem uO_g0 {α : Type} {H : Hp} {q l : Nat} {mc sz : Int} (h : H.2 q = some (uO mc sz l)) (K : Int32 → Option α) : gI H (some q) 0 0 K = K (iI mc) := by unfold gI; rw [obj_at h]; rfl
theorem uO_g2 {α : Type} {H : Hp} {q l : Nat} {mc sz : Int} (h : H.2 q = some (uO mc sz l)) (K : Int32 → Option α) : gI H (some q) 0 2 K = K (iI sz) := by unfold gI; rw [obj_at h]; rfl
theorem uO_gR {α : Type} {H : Hp} {q l : Nat} {mc sz : Int} (h : H.2 q = some (uO mc sz l)) (K : Option Nat → Option α) : gR H (some q) 0 1 K = K (some l) := by unfold gR; rw [obj_at h]; rfl
theorem uO_rc {α : Type} {H : Hp} {q l : Nat} {mc sz : Int} (h : H.2 q = some (uO mc sz l)) (K : Nat → Option α) : rcv H (some q) 0 K = K q := by unfold rcv; rw [obj_at h]
theorem sh1 : ∀ c, c < 41 → (Int32.ofNat c) >>> ((1 : Int32) &&& 31) = Int32.ofNat (c / 2) := by decide
/-- the list's array grows -/
theorem l_grow {H : Hp} {E : Nat × Nat} {q l c : Nat} {mc : Int} {F : Nat → Option Nat} (hq : H.2 q = some (uO mc c l)) (hl : H.2 l = some (eR c F)) (hn : ∀ i, c ≤ i → F i = none) (hB : ∀ i, i < c → isB H (F i) = true) (hc : c ≤ 15) (h0 : c = 0 → l = E.1) (q1 : q < H.1) (l1 : l < H.1) (hql : q ≠ l) (hf : H.2 H.1 = none) :
    ∃ H' c', f_Jx4a65c_grow_d5877 E q H = some (some H.1, H') ∧ H'.1 = H.1 + 1 ∧ H'.2 q = some (uO mc c H.1) ∧ H'.2 H.1 = some (eR c' F) ∧ (c < c' ∧ c' ≤ 30) ∧ ∀ q', q' ≠ q → q' ≠ H.1 → H'.2 q' = H.2 q' := by
  have hfn : (fun _ => none) = (fun i : Nat => (none : Option Nat)) := rfl
  have e1 : (iI (c : Int) + 1) = iI ((c : Int) + 1) := by rw [iI_1, iI_add]
  have eal : ∀ (K : Int32 → Option (Option Nat × Hp)), alR H (some l) K = K (iI c) := fun K => by
    unfold alR
    rw [arR_at hl, iI_ofNat]
  unfold f_Jx4a65c_grow_d5877 f_Jx4a65c_grow_92f84
  rw [uO_g2 hq, uO_rc hq, uO_gR hq, eal, e1, iI_0]
  by_cases c0 : c = 0
  · subst c0
    have hF : F = fun _ => none := funext (fun i => hn i (Nat.zero_le _))
    rw [if_neg (by decide), uO_gR hq, if_pos (by rw [h0 rfl])]
    have e10 : (if (10 : Int32) < iI (((0 : Nat) : Int) + 1) then iI (((0 : Nat) : Int) + 1) else 10) = iI 10 := by decide
    unfold nwR
    rw [e10, iI_toInt (by omega) (by omega), if_pos (by omega), iI_clamp (by omega) (by omega)]
    dsimp only
    have hq2 : (hnew H (eR (10 : Int).toNat (fun _ => none))).2 q = some (uO mc ((0 : Nat) : Int) l) := by rw [hnew_ne _ _ (by omega)]; exact hq
    rw [uO_pR hq2]
    refine ⟨hput (hnew H (eR (10 : Int).toNat (fun _ => none))) q (uO mc ((0 : Nat) : Int) H.1), 10, rfl, rfl, hput_at _ _ _, ?_, by omega, fun q' z1 z2 => ?_⟩
    · rw [hput_ne _ _ (by omega), hnew_at, hF]
      rfl
    · rw [hput_ne _ _ z1, hnew_ne _ _ z2]
  · have hlt : iI 0 < iI (c : Int) := by rw [iI_lt (by omega) (by omega) (by omega) (by omega)]; omega
    rw [if_pos hlt]
    unfold f_Jx4a65c_grow_92f84_20 f_J8_newLength_cabcc f_J7_copyOf_1904c f_J7_copyOf_6403c
    have es : iI (c : Int) >>> ((1 : Int32) &&& 31) = iI ((c / 2 : Nat) : Int) := by
      rw [← iI_ofNat, sh1 c (by omega), iI_ofNat]
    have em : iI (c : Int) + (if iI ((c : Int) + 1) - iI (c : Int) < iI (c : Int) >>> ((1 : Int32) &&& 31) then iI (c : Int) >>> ((1 : Int32) &&& 31) else iI ((c : Int) + 1) - iI (c : Int)) = iI ((c : Int) + (if 1 < c / 2 then c / 2 else 1 : Nat)) := by
      rw [es, iI_sub, show (c : Int) + 1 - c = 1 by omega, jlt (by omega) (by omega) (by omega) (by omega)]
      by_cases d : 1 < c / 2
      · rw [if_pos (by omega), if_pos d, iI_add]
      · rw [if_neg (by omega), if_neg d, iI_add]; rfl
    obtain ⟨nc, hnc, hnr⟩ : ∃ nc : Nat, (nc : Int) = (c : Int) + (if 1 < c / 2 then c / 2 else 1 : Nat) ∧ (c < nc ∧ nc ≤ 22) := by
      refine ⟨c + (if 1 < c / 2 then c / 2 else 1), by simp, ?_⟩
      split <;> omega
    rw [em, ← hnc]
    have h1 : ¬ (iI (nc : Int) ≤ (0 : Int32)) := by rw [iI_0, iI_le (by omega) (by omega) (by omega) (by omega)]; omega
    have h2 : ¬ ((2147483639 : Int32) < iI (nc : Int)) := by
      rw [show (2147483639 : Int32) = iI 2147483639 by decide, iI_lt (by omega) (by omega) (by omega) (by omega)]; omega
    rw [if_neg h1, if_neg h2]
    unfold rtI
    rw [bd_s, uO_gR hq]
    unfold gcl
    rw [arR_at hl, if_pos (by omega), if_pos rfl]
    unfold nwR
    rw [iI_toInt (by omega) (by omega), if_pos (by omega), iI_clamp (by omega) (by omega), Int.toNat_natCast]
    dsimp only
    have hl2 : (hnew H (eR nc (fun _ => none))).2 l = some (eR c F) := by rw [hnew_ne _ _ (by omega)]; exact hl
    have hk2 : ∀ b I F, H.2 b = some (eO 1 I F) → (hnew H (eR nc (fun _ => none))).2 b = some (eO 1 I F) := fun b I F e => by
      rw [hnew_ne _ _ (fun z => by rw [z, hf] at e; cases e)]; exact e
    unfold alR
    rw [arR_at hl2]
    dsimp only
    rw [iI_ofNat, jlt (by omega) (by omega) (by omega) (by omega), if_neg (by omega)]
    unfold acp
    rw [arR_at hl2, arR_at (hnew_at H _), iI_0, iI_toInt (by omega) (by omega), iI_toInt (by omega) (by omega), if_pos ⟨⟨by omega, by omega, by omega, by omega, by omega, by omega, by omega⟩, by
      rw [List.all_eq_true]
      intro i hi
      rw [iI_clamp (by omega) (by omega), List.mem_range] at hi
      rw [iI_clamp (by omega) (by omega)]
      refine isB_keep hk2 ?_
      rw [show (0 : Int).toNat + i = i by simp]
      exact hB i (by omega)⟩]
    have hcp : va_cpy F (fun _ => none) (iI 0).toNatClampNeg (iI 0).toNatClampNeg (iI (c : Int)).toNatClampNeg = F := by
      funext i
      rw [iI_clamp (by omega) (by omega), iI_clamp (by omega) (by omega)]
      unfold va_cpy
      by_cases d : i < c
      · rw [if_pos (by simp; omega)]; simp
      · rw [if_neg (by simp; omega), hn i (by omega)]
    rw [hcp]
    unfold rtR
    simp only [bd_s]
    have hq3 : (hput (hnew H (eR nc (fun _ => none))) H.1 (eR nc F)).2 q = some (uO mc (c : Int) l) := by rw [hput_ne _ _ (by omega), hnew_ne _ _ (by omega)]; exact hq
    rw [uO_pR hq3]
    simp only [bd_s]
    refine ⟨hput (hput (hnew H (eR nc (fun _ => none))) H.1 (eR nc F)) q (uO mc (c : Int) H.1), nc, rfl, rfl, hput_at _ _ _, ?_, by omega, fun q' z1 z2 => ?_⟩
    · rw [hput_ne _ _ (by omega), hput_at]
    · rw [hput_ne _ _ z1, hput_ne _ _ z2, hnew_ne _ _ z2]
def insF (F : Nat → Option Nat) (p a sz : Nat) : Nat → Option Nat := fun i => if i < p then F i else if i = p then some a else if i ≤ sz then F (i - 1) else none
/-- what a list is after it took a bid -/
def LA (H H' : Hp) (q l : Nat) (mc : Int) (sz : Nat) (F : Nat → Option Nat) (p a c : Nat) : Prop := ∃ l' c', (H.1 ≤ H'.1 ∧ H'.1 ≤ H.1 + 1) ∧ H'.2 q = some (uO (mc + 1) ((sz : Int) + 1) l') ∧ H'.2 l' = some (eR c' (insF F p a sz)) ∧ (sz + 1 ≤ c' ∧ c' ≤ 30) ∧ ((l' = l ∧ H'.1 = H.1 ∧ sz ≠ c) ∨ (l' = H.1 ∧ H'.1 = H.1 + 1)) ∧ ∀ q', q' ≠ q → q' ≠ l' → H'.2 q' = H.2 q'
theorem l_addAt {H : Hp} {E : Nat × Nat} {q l c sz p a : Nat} {mc : Int} {F : Nat → Option Nat} (hq : H.2 q = some (uO mc sz l)) (hl : H.2 l = some (eR c F)) (hn : ∀ i, sz ≤ i → F i = none) (hB : ∀ i, i < sz → isB H (F i) = true) (hx : isB H (some a) = true) (hsz : sz ≤ 15) (hc : sz ≤ c) (hc2 : c ≤ 30) (h0 : c = 0 → l = E.1) (hp : p ≤ sz) (q1 : q < H.1) (l1 : l < H.1) (hql : q ≠ l) (hf : H.2 H.1 = none) :
    ∃ H', LA H H' q l mc sz F p a c ∧ f_Jx4a65c_add_7a177 E q (iI (p : Int)) (some a) H = some ((), H') := by
  -- the tail, over any heap in which there is room
  have tail : ∀ (H2 : Hp) (l' c' : Nat), H2.2 q = some (uO (mc + 1) sz l') → H2.2 l' = some (eR c' F) → (sz + 1 ≤ c' ∧ c' ≤ 30) → q ≠ l' → (∀ b I F, H.2 b = some (eO 1 I F) → H2.2 b = some (eO 1 I F)) →
      ∃ H', f_Jx4a65c_add_7a177_38 E (some q) (iI (p : Int)) (some a) (iI (sz : Int)) (some l') H2 = some ((), H') ∧ H'.1 = H2.1 ∧ H'.2 q = some (uO (mc + 1) ((sz : Int) + 1) l') ∧ H'.2 l' = some (eR c' (insF F p a sz)) ∧ ∀ q', q' ≠ q → q' ≠ l' → H'.2 q' = H2.2 q' := by
    intro H2 l' c' g1 g2 g3 g4 g5
    unfold f_Jx4a65c_add_7a177_38 acp
    rw [arR_at g2, arR_at g2, iI_1, iI_add, iI_sub, iI_toInt (by omega) (by omega), iI_toInt (by omega) (by omega), iI_toInt (by omega) (by omega), if_pos ⟨⟨by omega, by omega, by omega, by omega, by omega, by omega, by omega⟩, by
      rw [List.all_eq_true]
      intro i hi
      rw [iI_clamp (by omega) (by omega), List.mem_range] at hi
      rw [iI_clamp (by omega) (by omega)]
      refine isB_keep g5 (hB _ (by omega))⟩]
    rw [iI_clamp (by omega) (by omega), iI_clamp (by omega) (by omega), iI_clamp (by omega) (by omega)]
    unfold stR
    dsimp only
    rw [arR_at (hput_at H2 l' _), iI_toInt (by omega) (by omega), if_pos ⟨by omega, by simp, isB_keep (H := H) (fun b I F e => by
      rw [hput_ne _ _ (fun z => by have := g5 b I F e; rw [z, g2] at this; cases this)]
      exact g5 b I F e) hx⟩, iI_clamp (by omega) (by omega), Int.toNat_natCast]
    have hq3 : (hput (hput H2 l' (eR c' (va_cpy F F p ((p : Int) + 1).toNat ((sz : Int) - p).toNat))) l' (eR c' (va_up (va_cpy F F p ((p : Int) + 1).toNat ((sz : Int) - p).toNat) p (some a)))).2 q = some (uO (mc + 1) sz l') := by
      rw [hput_ne _ _ g4, hput_ne _ _ g4]; exact g1
    rw [iI_add, uO_pI2 hq3]
    refine ⟨_, rfl, rfl, hput_at _ _ _, ?_, fun q' z1 z2 => ?_⟩
    · rw [hput_ne _ _ (fun z => g4 z.symm), hput_at]
      congr 5
      funext i
      unfold va_up va_cpy insF
      by_cases d1 : i = p
      · rw [if_pos d1, if_neg (by omega), if_pos d1]
      · rw [if_neg d1]
        by_cases d2 : i < p
        · rw [if_neg (by omega), if_pos d2]
        · rw [if_neg d2, if_neg d1]
          by_cases d3 : i ≤ sz
          · rw [if_pos (by omega), if_pos d3]
            congr 1
            omega
          · rw [if_neg (by omega), if_neg d3, hn i (by omega)]
    · rw [hput_ne _ _ z1, hput_ne _ _ z2, hput_ne _ _ z2]
  have hq1 : (hput H q (uO (mc + 1) sz l)).2 q = some (uO (mc + 1) sz l) := hput_at _ _ _
  have hl1 : (hput H q (uO (mc + 1) sz l)).2 l = some (eR c F) := by rw [hput_ne _ _ (fun z => hql z.symm)]; exact hl
  have hk1 : ∀ b I F, H.2 b = some (eO 1 I F) → (hput H q (uO (mc + 1) sz l)).2 b = some (eO 1 I F) := fun b I F e => by
    rw [hput_ne _ _ (fun z => by rw [z, hq] at e; cases e)]; exact e
  unfold f_Jx4a65c_add_7a177 f_Jx4a65c_rangeCheckForAdd_d00df
  rw [uO_rc hq, uO_g2 hq, jlt (by omega) (by omega) (by omega) (by omega), if_neg (by omega), iI_0, jle (by omega) (by omega) (by omega) (by omega), if_pos (by omega)]
  unfold rtV
  rw [bd_s, uO_g0 hq, iI_1, iI_add, uO_pI0 hq, uO_g2 hq1, uO_gR hq1]
  unfold alR
  rw [arR_at hl1]
  dsimp only
  rw [iI_ofNat, jeq (by omega) (by omega) (by omega) (by omega)]
  by_cases d : sz = c
  · rw [if_pos (by omega), uO_rc hq1]
    subst d
    obtain ⟨H2, c', g1, g2, g3, g4, g5, g6⟩ := l_grow (E := E) hq1 hl1 hn (fun i hi => isB_keep hk1 (hB i hi)) hsz h0 q1 l1 hql (by rw [hput_ne _ _ (show (hput H q (uO (mc + 1) sz l)).1 ≠ q from fun z => by have : H.1 = q := z; omega)]; exact hf)
    have e1 : (hput H q (uO (mc + 1) sz l)).1 = H.1 := rfl
    rw [e1] at g1 g2 g3 g4 g6
    have hk2 : ∀ b I F, H.2 b = some (eO 1 I F) → H2.2 b = some (eO 1 I F) := fun b I F e => by
      rw [g6 b (fun z => by rw [z, hq] at e; cases e) (fun z => by rw [z, hf] at e; cases e)]
      exact hk1 b I F e
    obtain ⟨H', t1, t2, t3, t4, t5⟩ := tail H2 H.1 c' g3 g4 (by omega) (by omega) hk2
    rw [g1, bd_s, t1]
    refine ⟨H', ⟨H.1, c', by omega, t3, t4, by omega, Or.inr ⟨rfl, by omega⟩, fun q' z1 z2 => ?_⟩, rfl⟩
    rw [t5 q' z1 z2, g6 q' z1 z2, hput_ne _ _ z1]
  · rw [if_neg (by omega)]
    obtain ⟨H', t1, t2, t3, t4, t5⟩ := tail _ l c hq1 hl1 (by omega) hql hk1
    rw [t1]
    have e1 : H'.1 = H.1 := t2
    refine ⟨H', ⟨l, c, by omega, t3, t4, by omega, Or.inl ⟨rfl, e1, d⟩, fun q' z1 z2 => ?_⟩, rfl⟩
    rw [t5 q' z1 z2, hput_ne _ _ z1]
theorem l_add {H : Hp} {E : Nat × Nat} {q l c sz a : Nat} {mc : Int} {F : Nat → Option Nat} (hq : H.2 q = some (uO mc sz l)) (hl : H.2 l = some (eR c F)) (hn : ∀ i, sz ≤ i → F i = none) (hB : ∀ i, i < sz → isB H (F i) = true) (hx : isB H (some a) = true) (hsz : sz ≤ 15) (hc : sz ≤ c) (hc2 : c ≤ 30) (h0 : c = 0 → l = E.1) (q1 : q < H.1) (l1 : l < H.1) (hql : q ≠ l) (hf : H.2 H.1 = none) :
    ∃ H', LA H H' q l mc sz F sz a c ∧ f_Jx4a65c_add_9ea2d E q (some a) H = some (iI 1, H') := by
  have tail : ∀ (H2 : Hp) (l' c' : Nat), H2.2 q = some (uO (mc + 1) sz l') → H2.2 l' = some (eR c' F) → (sz + 1 ≤ c' ∧ c' ≤ 30) → q ≠ l' → (∀ b I F, H.2 b = some (eO 1 I F) → H2.2 b = some (eO 1 I F)) →
      ∃ H', f_Jx4a65c_add_72be8_11 E (some q) (some a) (some l') (iI (sz : Int)) H2 = some ((), H') ∧ H'.1 = H2.1 ∧ H'.2 q = some (uO (mc + 1) ((sz : Int) + 1) l') ∧ H'.2 l' = some (eR c' (insF F sz a sz)) ∧ ∀ q', q' ≠ q → q' ≠ l' → H'.2 q' = H2.2 q' := by
    intro H2 l' c' g1 g2 g3 g4 g5
    unfold f_Jx4a65c_add_72be8_11 stR
    rw [arR_at g2, iI_toInt (by omega) (by omega), if_pos ⟨by omega, by simp, isB_keep g5 hx⟩, iI_clamp (by omega) (by omega), Int.toNat_natCast, iI_1, iI_add]
    dsimp only
    rw [uO_pI2 (show (hput H2 l' (eR c' (va_up F sz (some a)))).2 q = some (uO (mc + 1) sz l') by rw [hput_ne _ _ g4]; exact g1)]
    refine ⟨_, rfl, rfl, hput_at _ _ _, ?_, fun q' z1 z2 => ?_⟩
    · rw [hput_ne _ _ (fun z => g4 z.symm), hput_at]
      congr 5
      funext i
      unfold va_up insF
      by_cases d1 : i = sz
      · rw [if_pos d1, if_neg (by omega), if_pos d1]
      · rw [if_neg d1]
        by_cases d2 : i < sz
        · rw [if_pos d2]
        · rw [if_neg d2, if_neg d1, if_neg (by omega), hn i (by omega)]
    · rw [hput_ne _ _ z1, hput_ne _ _ z2]
  have hq1 : (hput H q (uO (mc + 1) sz l)).2 q = some (uO (mc + 1) sz l) := hput_at _ _ _
  have hl1 : (hput H q (uO (mc + 1) sz l)).2 l = some (eR c F) := by rw [hput_ne _ _ (fun z => hql z.symm)]; exact hl
  have hk1 : ∀ b I F, H.2 b = some (eO 1 I F) → (hput H q (uO (mc + 1) sz l)).2 b = some (eO 1 I F) := fun b I F e => by
    rw [hput_ne _ _ (fun z => by rw [z, hq] at e; cases e)]; exact e
  unfold f_Jx4a65c_add_9ea2d f_Jx4a65c_add_72be8
  have e11 : (1 : Int32) = iI 1 := iI_1
  rw [uO_g0 hq, e11, iI_add, uO_pI0 hq, uO_gR hq1, uO_g2 hq1, uO_rc hq1]
  unfold alR
  rw [arR_at hl1]
  dsimp only
  rw [iI_ofNat, jeq (by omega) (by omega) (by omega) (by omega)]
  by_cases d : sz = c
  · rw [if_pos (by omega), uO_rc hq1]
    subst d
    obtain ⟨H2, c', g1, g2, g3, g4, g5, g6⟩ := l_grow (E := E) hq1 hl1 hn (fun i hi => isB_keep hk1 (hB i hi)) hsz h0 q1 l1 hql (by rw [hput_ne _ _ (show (hput H q (uO (mc + 1) sz l)).1 ≠ q from fun z => by have : H.1 = q := z; omega)]; exact hf)
    have e1 : (hput H q (uO (mc + 1) sz l)).1 = H.1 := rfl
    rw [e1] at g1 g2 g3 g4 g6
    have hk2 : ∀ b I F, H.2 b = some (eO 1 I F) → H2.2 b = some (eO 1 I F) := fun b I F e => by
      rw [g6 b (fun z => by rw [z, hq] at e; cases e) (fun z => by rw [z, hf] at e; cases e)]
      exact hk1 b I F e
    obtain ⟨H', t1, t2, t3, t4, t5⟩ := tail H2 H.1 c' g3 g4 (by omega) (by omega) hk2
    rw [g1, bd_s, t1, bd_s, rt1]
    refine ⟨H', ⟨H.1, c', by omega, t3, t4, by omega, Or.inr ⟨rfl, by omega⟩, fun q' z1 z2 => ?_⟩, rfl⟩
    rw [t5 q' z1 z2, g6 q' z1 z2, hput_ne _ _ z1]
  · rw [if_neg (by omega)]
    obtain ⟨H', t1, t2, t3, t4, t5⟩ := tail _ l c hq1 hl1 (by omega) hql hk1
    rw [t1, bd_s, rt1]
    have e1 : H'.1 = H.1 := t2
    refine ⟨H', ⟨l, c, by omega, t3, t4, by omega, Or.inl ⟨rfl, e1, d⟩, fun q' z1 z2 => ?_⟩, rfl⟩
    rw [t5 q' z1 z2, hput_ne _ _ z1]
