/-! the reference's search -/
def sF (σ : Sg) (k : Nat) (f : Nat → Int) : Sg := fun k' i => if k' = k then f i else σ k' i
theorem sg_sF (σ : Sg) (k : Nat) (f : Nat → Int) (i : Nat) (x : Int) : sg (sF σ k f) k i x = sF σ k (fun j => if j = i then x else f j) := by
  funext k' j
  unfold sg sF
  by_cases h : k' = k
  · by_cases h2 : j = i
    · simp [h, h2]
    · simp [h, h2]
  · simp [h]
theorem sF_at (σ : Sg) (k : Nat) (f : Nat → Int) (i : Nat) : sF σ k f k i = f i := by simp [sF]
theorem sF_self (σ : Sg) (k : Nat) : sF σ k (fun i => σ k i) = σ := by
  funext k' i
  by_cases h : k' = k
  · subst h; simp [sF]
  · simp [sF, h]
def rdyF (c s : Nat → Bool) : Nat → Bool
  | 0 => c 0
  | t + 1 => c (t + 1) || (rdyF c s t && s t)
def rdyA (σ : Sg) (b i : Nat) (c : Nat → Bool) (t : Nat) : Bool := if i = 0 then decide (σ 14 b ≤ t) else rdyF c (fun u => canS σ b (stn σ b i) u) t
/-- the bid can come to its step in that minute -/
def cmg (σ : Sg) (b : Nat) : Nat → Nat → Bool
  | 0, _ => false
  | i + 1, t => decide (lng σ b i ≤ t) && (rdyA σ b i (cmg σ b i) (t - lng σ b i).toNat && canL σ b i (t - lng σ b i))
/-- it is at its step in that minute -/
def rdy (σ : Sg) (b i t : Nat) : Bool := rdyA σ b i (cmg σ b i) t
def isP (σ : Sg) (b i : Nat) : Nat → Int
  | 0 => 0
  | t + 1 => b2 (rdy σ b i t = true)
def CR (σ : Sg) (b i t : Nat) (idx : Nat) : Int := if idx < 1920 then (if idx / 240 = 0 then 0 else if idx / 240 ≤ i then b2 (cmg σ b (idx / 240) (idx % 240) = true) else if idx / 240 = i + 1 ∧ ((idx % 240 : Nat) : Int) < t + lng σ b i then b2 (cmg σ b (i + 1) (idx % 240) = true) else 0) else σ 22 idx
theorem cmg_step (σ : Sg) (b i t : Nat) (n : Int) (hn : lng σ b i = n) (h0 : 0 ≤ n) : cmg σ b (i + 1) (t + n.toNat) = (rdy σ b i t && canL σ b i t) := by
  unfold cmg rdy
  rw [hn]
  have e1 : decide (n ≤ ((t + n.toNat : Nat) : Int)) = true := by simp; omega
  have e2 : (((t + n.toNat : Nat) : Int) - n).toNat = t := by omega
  have e3 : (((t + n.toNat : Nat) : Int) - n) = t := by omega
  rw [e1, e2, e3]
  simp
theorem cmg_small (σ : Sg) (b i u : Nat) (hu : (u : Int) < lng σ b i) : cmg σ b (i + 1) u = false := by
  unfold cmg
  have e1 : decide (lng σ b i ≤ (u : Int)) = false := by simp; omega
  rw [e1]
  rfl
theorem CR_step (σ : Sg) (b i t : Nat) (n : Int) (hn : lng σ b i = n) (h0 : 0 < n) (hi : i < 7) (ht : t < 240) : CR σ b i (t + 1) = if (rdy σ b i t = true ∧ t + n < 240) ∧ canL σ b i t = true then (fun j => if j = 240 * (i + 1) + t + n.toNat then 1 else CR σ b i t j) else CR σ b i t := by
  have hc := cmg_step σ b i t n hn (by omega)
  by_cases c : (rdy σ b i t = true ∧ t + n < 240) ∧ canL σ b i t = true
  · rw [if_pos c]
    funext j
    by_cases hj : j = 240 * (i + 1) + t + n.toNat
    · rw [if_pos hj]
      have e1 : j / 240 = i + 1 := by omega
      have e2 : j % 240 = t + n.toNat := by omega
      unfold CR
      rw [if_pos (by omega), e1, e2, if_neg (by omega), if_neg (by omega), if_pos ⟨rfl, by rw [hn]; omega⟩, hc, c.1.1, c.2]
      rfl
    · rw [if_neg hj]
      unfold CR
      rw [hn]
      have e : (j / 240 = i + 1 ∧ ((j % 240 : Nat) : Int) < ((t + 1 : Nat) : Int) + n) ↔ (j / 240 = i + 1 ∧ ((j % 240 : Nat) : Int) < (t : Int) + n) := by
        constructor
        · rintro ⟨z1, z2⟩
          refine ⟨z1, ?_⟩
          have := Nat.div_add_mod j 240
          omega
        · rintro ⟨z1, z2⟩
          exact ⟨z1, by omega⟩
      simp only [e]
  · rw [if_neg c]
    funext j
    unfold CR
    rw [hn]
    by_cases c1 : j < 1920
    · rw [if_pos c1, if_pos c1]
      by_cases c2 : j / 240 = 0
      · rw [if_pos c2, if_pos c2]
      · rw [if_neg c2, if_neg c2]
        by_cases c3 : j / 240 ≤ i
        · rw [if_pos c3, if_pos c3]
        · rw [if_neg c3, if_neg c3]
          by_cases c4 : j / 240 = i + 1 ∧ ((j % 240 : Nat) : Int) < (t : Int) + n
          · rw [if_pos c4, if_pos ⟨c4.1, by omega⟩]
          · rw [if_neg c4]
            by_cases c5 : j / 240 = i + 1 ∧ ((j % 240 : Nat) : Int) < ((t + 1 : Nat) : Int) + n
            · rw [if_pos c5]
              have e2 : j % 240 = t + n.toNat := by omega
              rw [e2, hc]
              refine b2_f (fun z => c ⟨⟨?_, ?_⟩, ?_⟩)
              · cases hr : rdy σ b i t with
                | true => rfl
                | false => rw [hr] at z; cases z
              · have := Nat.mod_lt j (show 0 < 240 by decide)
                omega
              · cases hr : canL σ b i t with
                | true => rfl
                | false => rw [hr] at z; cases hz : rdy σ b i t <;> rw [hz] at z <;> cases z
            · rw [if_neg c5]
    · rw [if_neg c1, if_neg c1]
theorem CR_end (σ : Sg) (b i : Nat) (h0 : 0 < lng σ b i) : CR σ b i 240 = CR σ b (i + 1) 0 := by
  funext j
  unfold CR
  by_cases c1 : j < 1920
  · rw [if_pos c1, if_pos c1]
    by_cases c2 : j / 240 = 0
    · rw [if_pos c2, if_pos c2]
    · rw [if_neg c2, if_neg c2]
      have hm := Nat.mod_lt j (show 0 < 240 by decide)
      by_cases c3 : j / 240 ≤ i
      · rw [if_pos c3, if_pos (by omega)]
      · rw [if_neg c3]
        by_cases c4 : j / 240 = i + 1
        · rw [if_pos ⟨c4, by omega⟩, if_pos (by omega), c4]
        · rw [if_neg (fun z => c4 z.1), if_neg (by omega)]
          by_cases c5 : j / 240 = i + 1 + 1 ∧ ((j % 240 : Nat) : Int) < ((0 : Nat) : Int) + lng σ b (i + 1 : Nat)
          · rw [if_pos c5, cmg_small σ b (i + 1) _ (by simpa using c5.2)]
            rfl
          · rw [if_neg c5]
  · rw [if_neg c1, if_neg c1]
theorem CR_0 (σ : Sg) (b : Nat) : CR σ b 0 0 = fun j => if j < 1920 then 0 else σ 22 j := by
  funext j
  unfold CR
  by_cases c1 : j < 1920
  · rw [if_pos c1, if_pos c1]
    by_cases c2 : j / 240 = 0
    · rw [if_pos c2]
    · rw [if_neg c2, if_neg (by omega)]
      by_cases c5 : j / 240 = 0 + 1 ∧ ((j % 240 : Nat) : Int) < ((0 : Nat) : Int) + lng σ b (0 : Nat)
      · rw [if_pos c5, cmg_small σ b 0 _ (by simpa using c5.2)]
        rfl
      · rw [if_neg c5]
  · rw [if_neg c1, if_neg c1]
