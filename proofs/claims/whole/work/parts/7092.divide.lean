/-! One division by the product, for one at a time; the product cut off above a bound -/
def dqN (s : Nat → Nat) (m d : Nat) : Nat → Nat × Nat
  | 0 => (d, 0)
  | k + 1 => if m.testBit k = true then (if (dqN s m d k).2 = 0 then ((dqN s m d k).1, s k) else ((dqN s m d k).1 * max (dqN s m d k).2 (s k), min (dqN s m d k).2 (s k))) else dqN s m d k
theorem dv_dq {s : Nat → Nat} {m a d : Nat} (hd : 0 < d) : ∀ k, dvS s m (cdiv a d) k = (cdiv a (dqN s m d k).1, (dqN s m d k).2) ∧ 0 < (dqN s m d k).1 := by
  intro k
  induction k with
  | zero => exact ⟨rfl, hd⟩
  | succ k ih =>
    obtain ⟨h1, h2⟩ := ih
    have e1 : dvS s m (cdiv a d) (k + 1) = if m.testBit k = true then (if (dvS s m (cdiv a d) k).2 = 0 then ((dvS s m (cdiv a d) k).1, s k) else (cdiv (dvS s m (cdiv a d) k).1 (max (dvS s m (cdiv a d) k).2 (s k)), min (dvS s m (cdiv a d) k).2 (s k))) else dvS s m (cdiv a d) k := rfl
    have e2 : dqN s m d (k + 1) = if m.testBit k = true then (if (dqN s m d k).2 = 0 then ((dqN s m d k).1, s k) else ((dqN s m d k).1 * max (dqN s m d k).2 (s k), min (dqN s m d k).2 (s k))) else dqN s m d k := rfl
    rw [e1, e2, h1]
    dsimp only
    by_cases hb : m.testBit k = true
    · rw [if_pos hb, if_pos hb]
      by_cases hl : (dqN s m d k).2 = 0
      · rw [if_pos hl, if_pos hl]
        exact ⟨rfl, h2⟩
      · rw [if_neg hl, if_neg hl]
        have hm : 0 < max (dqN s m d k).2 (s k) := by omega
        exact ⟨by rw [cdiv_cdiv h2 hm], Nat.mul_pos h2 hm⟩
    · rw [if_neg hb, if_neg hb]
      exact ⟨rfl, h2⟩
def dqA (spr : Nat → Nat → Nat) (hv : Nat → Nat) (S : Nat) : Nat → Nat
  | 0 => 1
  | v + 1 => (dqN (fun p => spr p v) (S &&& hv v) (dqA spr hv S v) 8).1
theorem dqA_pos {spr : Nat → Nat → Nat} {hv : Nat → Nat} {S : Nat} : ∀ v, 0 < dqA spr hv S v := by
  intro v
  induction v with
  | zero => exact Nat.one_pos
  | succ v ih => exact (dv_dq (a := 0) ih 8).2
theorem est_dq {sz : Nat → Nat} {spr : Nat → Nat → Nat} {hv : Nat → Nat} {S : Nat} : ∀ v, estN sz spr hv S v = cdiv (prd sz S 8) (dqA spr hv S v) := by
  intro v
  induction v with
  | zero =>
    show prd sz S 8 = cdiv (prd sz S 8) 1
    rw [cdiv_one]
  | succ v ih =>
    show (dvS (fun p => spr p v) (S &&& hv v) (estN sz spr hv S v) 8).1 = _
    rw [ih, (dv_dq (dqA_pos v) 8).1]
    rfl
/-- the product cut off: d times x, unless d is above W already -/
def cutM (W d x : Nat) : Nat := if d ≤ W then d * x else d
def sameQ (W d c : Nat) : Prop := d = c ∨ (W < d ∧ W < c)
theorem sameQ_mul {W d c x : Nat} (h : sameQ W d c) (hx : 0 < x) : sameQ W (d * x) (cutM W c x) := by
  unfold cutM
  rcases h with h | ⟨h1, h2⟩
  · subst h
    by_cases hc : d ≤ W
    · rw [if_pos hc]
      exact Or.inl rfl
    · rw [if_neg hc]
      exact Or.inr ⟨Nat.lt_of_lt_of_le (by omega) (Nat.le_mul_of_pos_right d hx), by omega⟩
  · rw [if_neg (by omega)]
    exact Or.inr ⟨Nat.lt_of_lt_of_le h1 (Nat.le_mul_of_pos_right d hx), h2⟩
theorem sameQ_cdiv {W d c a : Nat} (h : sameQ W d c) (ha : a ≤ W) : cdiv a d = cdiv a c := by
  rcases h with h | ⟨h1, h2⟩
  · rw [h]
  · by_cases h0 : a = 0
    · subst h0
      rw [cdiv_zero (by omega), cdiv_zero (by omega)]
    · rw [cdiv_pos (by omega) (by omega), cdiv_pos (by omega) (by omega), Nat.div_eq_of_lt (by omega), Nat.div_eq_of_lt (by omega)]
