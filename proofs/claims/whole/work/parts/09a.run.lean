/-! the class's run -/
abbrev LR : List Nat := [56, 57, 58, 59, 60, 61, 62, 63]
def MBR (κ ρ : Sg) (o : Nat) (s : Int) : Prop := κ 19 o ≠ 0 ∧ legO κ o s ≠ -1 ∧ legO κ o s < ρ 26 o
def slt (κ : Sg) (o : Nat) (s : Int) : Int := 2 * s + (if κ 1 s.toNat = 0 ∨ κ 11 o < κ 12 o then 0 else 1)
def wi (κ ρ : Sg) (o : Nat) (s : Int) : Int := ρ 30 (8 * o + legO κ o s).toNat
def eN (κ ρ : Sg) (o : Nat) (s : Int) : Int := wi κ ρ o s + lng κ o (legO κ o s) - 1 + bhd κ
def CIb (κ τ ρ : Sg) (t : Int) (b : Nat) : Prop := τ 58 b = ρ 29 (8 * b + stn κ b (ρ 26 b)).toNat ∧ (∀ i : Int, ρ 26 b < i → i ≤ lgs κ b → ρ 29 (8 * b + stn κ b i).toNat = κ 21 (8 * b + stn κ b i).toNat) ∧ ∀ i : Int, 0 ≤ i → i < 8 → (i < ρ 26 b → 0 ≤ ρ 30 (8 * b + i).toNat ∧ ρ 30 (8 * b + i).toNat ≤ t) ∧ (ρ 26 b ≤ i → ρ 30 (8 * b + i).toNat = -1)
def CIs (n : Nat) (κ τ ρ : Sg) : Prop := ∀ s q : Int, 0 ≤ s → s < 8 → (q = 2 * s ∨ q = 2 * s + 1) → (τ 62 q.toNat = -1 ∧ τ 63 q.toNat = -1 ∧ ∀ o : Nat, o < n → slt κ o s = q → ¬ MBR κ ρ o s) ∨ ∃ H : Nat, H < n ∧ τ 62 q.toNat = H ∧ slt κ H s = q ∧ MBR κ ρ H s ∧ τ 63 q.toNat = eN κ ρ H s ∧ ∀ o : Nat, o < n → slt κ o s = q → MBR κ ρ o s → o ≠ H → eN κ ρ o s < wi κ ρ H s
def CI (n : Nat) (κ τ ρ : Sg) (t : Int) : Prop := Ex LR κ τ ∧ RW κ ρ ∧ RC n τ ρ ∧ (∀ b : Nat, b < n → CIb κ τ ρ t b) ∧ CIs n κ τ ρ
theorem legO_sec {κ : Sg} {b : Nat} {i : Int} (h0 : 0 ≤ i) (h1 : i < lgs κ b) : legO κ b (sec κ b i) = i := by
  rw [← spC_legO]
  unfold spC sec
  unfold lgs at h1
  by_cases c : κ 11 b < κ 12 b
  · rw [if_pos c] at h1
    rw [if_pos c, if_pos c, if_pos (by omega)]
    omega
  · rw [if_neg c] at h1
    rw [if_neg c, if_neg c, if_pos (by omega)]
    omega
theorem stn_inj {κ : Sg} {b : Nat} {i j : Int} (h : stn κ b i = stn κ b j) : i = j := by
  unfold stn at h
  split at h <;> omega
theorem slt_eq {κ : Sg} {o b : Nat} {s : Int} : slt κ o s = slt κ b s ↔ (κ 1 s.toNat = 0 ∨ (κ 11 o < κ 12 o) = (κ 11 b < κ 12 b)) := by
  unfold slt
  by_cases c0 : κ 1 s.toNat = 0
  · simp [c0]
  · by_cases c1 : κ 11 o < κ 12 o <;> by_cases c2 : κ 11 b < κ 12 b <;> simp [c0, c1, c2] <;> omega
theorem CI_mono {n : Nat} {κ τ ρ : Sg} {t t' : Int} (h : CI n κ τ ρ t) (ht : t ≤ t') : CI n κ τ ρ t' := by
  obtain ⟨h1, h2, h3, h4, h5⟩ := h
  refine ⟨h1, h2, h3, fun b hb => ?_, h5⟩
  obtain ⟨g1, g2, g3⟩ := h4 b hb
  refine ⟨g1, g2, fun i i0 i1 => ⟨fun z => ?_, (g3 i i0 i1).2⟩⟩
  have := (g3 i i0 i1).1 z
  omega
/-- who holds the slot -/
theorem CI_hl {n : Nat} {κ τ ρ : Sg} {t : Int} (hn : (n : Int) = κ 9 0) (hw : WF κ) (h : CI n κ τ ρ t) {b : Nat} (hb : b < n) (h26 : ρ 26 b < lgs κ b) {s q : Int} (hs : s = sec κ b (ρ 26 b)) (hq : slt κ b s = q) :
    (∀ H : Nat, τ 62 q.toNat = H → t ≤ τ 63 q.toNat → hlR κ ρ b s t = some H ∧ H < n) ∧ ((τ 62 q.toNat = -1 ∨ τ 63 q.toNat < t) → hlR κ ρ b s t = none ∧ ∀ o : Nat, o < n → slt κ o s = q → MBR κ ρ o s → eN κ ρ o s < t) ∧ (-1 ≤ τ 62 q.toNat ∧ τ 62 q.toNat < n) ∧ (-1 ≤ τ 63 q.toNat ∧ τ 63 q.toNat ≤ 1000) := by
  obtain ⟨h1, h2, h3, h4, h5⟩ := h
  have h9 := hw.2.2.2.1
  have hrb := (h2 b (by omega)).1
  have hsr := sec_rng hw (b := b) (by omega) hrb.1 h26
  have hbh := bhd_rng hw
  have hlb : legO κ b s = ρ 26 b := by rw [hs]; exact legO_sec hrb.1 h26
  have hqr : q = 2 * s ∨ q = 2 * s + 1 := by
    rw [← hq]
    unfold slt
    split <;> omega
  have hmem : ∀ o : Nat, o < n → (hlP κ ρ b s t o = true ↔ (o ≠ b ∧ slt κ o s = q ∧ MBR κ ρ o s ∧ t ≤ eN κ ρ o s)) := fun o ho => by
    simp only [hlP, decide_eq_true_eq]
    rw [← hq, slt_eq]
    constructor
    · rintro ⟨c1, c2, c3, c4, c5, c6, c7⟩
      obtain ⟨l1, l2, -⟩ := legO_some c4
      have hlo := lgs_rng hw (b := o) (by omega)
      refine ⟨c1, c3, ⟨c2, c4, ?_⟩, c7⟩
      by_cases z : legO κ o s < ρ 26 o
      · exact z
      · exact absurd (((h4 o ho).2.2 _ l1 (by omega)).2 (by omega)) c5
    · rintro ⟨c1, c2, ⟨c3, c4, c5⟩, c6⟩
      obtain ⟨l1, l2, -⟩ := legO_some c4
      have hlo := lgs_rng hw (b := o) (by omega)
      have hw2 := ((h4 o ho).2.2 _ l1 (by omega)).1 c5
      exact ⟨c1, c3, c2, c4, by omega, hw2.2, c6⟩
  have hnb : ¬ MBR κ ρ b s := fun z => by
    have := z.2.2
    omega
  have hwt : ∀ o : Nat, o < n → MBR κ ρ o s → 0 ≤ wi κ ρ o s ∧ wi κ ρ o s ≤ t ∧ eN κ ρ o s ≤ 1000 := fun o ho z => by
    obtain ⟨l1, l2, -⟩ := legO_some z.2.1
    have hlo := lgs_rng hw (b := o) (by omega)
    have hln := lng_rng hw (b := o) (by omega) l1 l2
    have hw2 := ((h4 o ho).2.2 _ l1 (by omega)).1 z.2.2
    have hr2 := ((h2 o (by omega)).2.2.2 (legO κ o s).toNat (by omega)).2
    rw [show 8 * o + (legO κ o s).toNat = (8 * (o : Int) + legO κ o s).toNat by omega] at hr2
    unfold eN wi
    omega
  rcases h5 s q (by omega) (by omega) hqr with ⟨a1, a2, a3⟩ | ⟨H, a1, a2, a3, a4, a5, a6⟩
  · refine ⟨fun H z1 z2 => by omega, fun _ => ⟨srch_none.2 (fun o _ ho => ?_), fun o ho z1 z2 => absurd z2 (a3 o ho z1)⟩, by omega, by omega⟩
    cases hp : hlP κ ρ b s t o with
    | false => rfl
    | true =>
      obtain ⟨-, z2, z3, -⟩ := (hmem o (by omega)).1 hp
      exact absurd z3 (a3 o (by omega) z2)
  · have hwH := hwt H a1 a4
    have hbn : H ≠ b := fun e => hnb (e ▸ a4)
    refine ⟨fun H' z1 z2 => ?_, fun z => ?_, by omega, by rw [a5]; unfold eN; have := lng_rng hw (b := H) (i := legO κ H s) (by omega) (legO_some a4.2.1).1 (legO_some a4.2.1).2.1; unfold eN at hwH; omega⟩
    · have eH : H' = H := by omega
      subst eH
      refine ⟨srch_some.2 ⟨Nat.zero_le _, by omega, (hmem H' a1).2 ⟨hbn, a3, a4, by omega⟩, fun o _ ho => ?_⟩, a1⟩
      cases hp : hlP κ ρ b s t o with
      | false => rfl
      | true =>
        obtain ⟨y1, y2, y3, y4⟩ := (hmem o (by omega)).1 hp
        have := a6 o (by omega) y2 y3 (by omega)
        omega
    · have hlt : eN κ ρ H s < t := by omega
      have hall : ∀ o : Nat, o < n → slt κ o s = q → MBR κ ρ o s → eN κ ρ o s < t := fun o ho y1 y2 => by
        by_cases e : o = H
        · rw [e]; exact hlt
        · have := a6 o ho y1 y2 e
          omega
      refine ⟨srch_none.2 (fun o _ ho => ?_), hall⟩
      cases hp : hlP κ ρ b s t o with
      | false => rfl
      | true =>
        obtain ⟨y1, y2, y3, y4⟩ := (hmem o (by omega)).1 hp
        have := hall o (by omega) y2 y3
        omega
