/-! HINTS: told pairs, and what comes before through others; the least such sets -/
def HW (np : Nat) (pa bf : Nat → Nat) (hm : Nat) (ht : Nat → Nat → Prop) : Prop := (∀ a b, ht a b → (a < np ∧ pa a = 0) ∧ (b < np ∧ pa b = 0) ∧ (bf b).testBit a = true) ∧ (∀ p q x, (bf p).testBit q = true → (bf q).testBit x = true → (bf p).testBit x = true) ∧ (∀ p, ¬ (bf p).testBit p = true) ∧ (∀ p, ∀ X : Nat → Prop, (∀ a b, ht a b → (b = p ∨ X b) → X a) → ∀ q, (bf p).testBit q = true → X q) ∧ (∀ p, bf p < 256) ∧ hm < 256 ∧ ∀ p, hm.testBit p = true ↔ ∃ k, ht p k ∨ ht k p
theorem bfU_bit {bf : Nat → Nat} {a b p q : Nat} : (bfU bf a b p).testBit q = true ↔ (bf p).testBit q = true ∨ ((p = b ∨ (bf p).testBit b = true) ∧ (q = a ∨ (bf a).testBit q = true)) := by
  unfold bfU
  by_cases h : p = b ∨ (bf p).testBit b = true
  · rw [if_pos h, bit_or, bit_or, bit_p2]
    constructor
    · rintro (h1 | h1 | h1)
      · exact Or.inl h1
      · exact Or.inr ⟨h, Or.inr h1⟩
      · exact Or.inr ⟨h, Or.inl h1.symm⟩
    · rintro (h1 | ⟨-, h1 | h1⟩)
      · exact Or.inl h1
      · exact Or.inr (Or.inr h1.symm)
      · exact Or.inr (Or.inl h1)
  · rw [if_neg h]
    exact ⟨Or.inl, fun h1 => h1.elim id (fun h2 => absurd h2.1 h)⟩
theorem HW_hint {np hm a b : Nat} {pa bf : Nat → Nat} {ht : Nat → Nat → Prop} (h : HW np pa bf hm ht) (ha : a < np ∧ pa a = 0) (hb : b < np ∧ pa b = 0) (hne : a ≠ b) (hno : ¬ (bf a).testBit b = true) (hnp : np ≤ 8) : HW np pa (bfU bf a b) (hm ||| (2 ^ a ||| 2 ^ b)) (fun x y => ht x y ∨ (x = a ∧ y = b)) := by
  obtain ⟨h1, h2, h3, h4, h5, h6, h7⟩ := h
  refine ⟨?_, ?_, ?_, ?_, ?_, ?_, ?_⟩
  · rintro x y (k | ⟨k1, k2⟩)
    · obtain ⟨g1, g2, g3⟩ := h1 x y k
      exact ⟨g1, g2, bfU_bit.mpr (Or.inl g3)⟩
    · subst k1 k2
      exact ⟨ha, hb, bfU_bit.mpr (Or.inr ⟨Or.inl rfl, Or.inl rfl⟩)⟩
  · intro p q x k1 k2
    rw [bfU_bit] at k1 k2 ⊢
    rcases k1 with k1 | ⟨u1, k1⟩
    · rcases k2 with k2 | ⟨u2, k2⟩
      · exact Or.inl (h2 p q x k1 k2)
      · refine Or.inr ⟨Or.inr ?_, k2⟩
        rcases u2 with u2 | u2
        · exact u2 ▸ k1
        · exact h2 p q b k1 u2
    · rcases k1 with k1 | k1
      · subst k1
        rcases k2 with k2 | ⟨u2, k2⟩
        · exact Or.inr ⟨u1, Or.inr k2⟩
        · rcases u2 with u2 | u2
          · exact absurd u2 hne
          · exact absurd u2 hno
      · rcases k2 with k2 | ⟨u2, k2⟩
        · exact Or.inr ⟨u1, Or.inr (h2 a q x k1 k2)⟩
        · rcases u2 with u2 | u2
          · exact absurd (u2 ▸ k1) hno
          · exact absurd (h2 a q b k1 u2) hno
  · intro p k
    rw [bfU_bit] at k
    rcases k with k | ⟨u, k⟩
    · exact h3 p k
    · rcases k with k | k
      · subst k
        rcases u with u | u
        · exact hne u
        · exact hno u
      · rcases u with u | u
        · exact hno (u ▸ k)
        · exact hno (h2 a p b k u)
  · intro p X hX q k
    have hX0 : ∀ x y, ht x y → (y = p ∨ X y) → X x := fun x y k1 k2 => hX x y (Or.inl k1) k2
    rw [bfU_bit] at k
    rcases k with k | ⟨u, k⟩
    · exact h4 p X hX0 q k
    · have hXa : X a := hX a b (Or.inr ⟨rfl, rfl⟩) (u.elim (fun e => Or.inl e.symm) (fun e => Or.inr (h4 p X hX0 b e)))
      rcases k with k | k
      · exact k ▸ hXa
      · exact h4 a X (fun x y k1 k2 => hX x y (Or.inl k1) (Or.inr (k2.elim (fun e => e ▸ hXa) id))) q k
  · intro p
    unfold bfU
    split
    · exact or_lt (k := 8) (h5 p) (or_lt (k := 8) (h5 a) (p2_lt (by omega)))
    · exact h5 p
  · exact or_lt (k := 8) h6 (or_lt (k := 8) (p2_lt (by omega)) (p2_lt (by omega)))
  · intro p
    rw [bit_or, bit_or, bit_p2, bit_p2, h7 p]
    constructor
    · rintro (⟨k, hk⟩ | hk | hk)
      · exact ⟨k, hk.elim (fun x => Or.inl (Or.inl x)) (fun x => Or.inr (Or.inl x))⟩
      · exact ⟨b, Or.inl (Or.inr ⟨hk.symm, rfl⟩)⟩
      · exact ⟨a, Or.inr (Or.inr ⟨rfl, hk.symm⟩)⟩
    · rintro ⟨k, (hk | hk) | (hk | hk)⟩
      · exact Or.inl ⟨k, Or.inl hk⟩
      · exact Or.inr (Or.inl hk.1.symm)
      · exact Or.inl ⟨k, Or.inr hk⟩
      · exact Or.inr (Or.inr hk.2.symm)
theorem HW_acy {np hm : Nat} {pa bf : Nat → Nat} {ht : Nat → Nat → Prop} (h : HW np pa bf hm ht) {rq : Nat} (hr : ∀ p, p < 8 → (rq.testBit p = true ↔ p < np ∧ pa p = 0)) : acy rq bf := by
  obtain ⟨h1, h2, h3, h4, h5, h6, h7⟩ := h
  intro p hp _
  refine ⟨h5 p, fun q hq hb => ⟨?_, h3 q, fun x _ hx => h2 p q x hb hx⟩⟩
  have := h4 p (fun a => ∃ b, ht a b) (fun a b k _ => ⟨b, k⟩) q hb
  obtain ⟨b, k⟩ := this
  exact (hr q hq).mpr (h1 q b k).1
/-! popc of sets, one in another -/
theorem popc_sub {m m' : Nat} : ∀ k, (∀ i, i < k → m.testBit i = true → m'.testBit i = true) → popc m k ≤ popc m' k := by
  intro k
  induction k with
  | zero => intro _; exact Nat.le_refl 0
  | succ k ih =>
    intro h
    have h1 := ih (fun i hi => h i (by omega))
    show popc m k + (m.testBit k).toNat ≤ popc m' k + (m'.testBit k).toNat
    have h2 := h k (by omega)
    cases e : m.testBit k
    · simp only [Bool.toNat_false]
      omega
    · rw [h2 e]
      omega
theorem popc_lt {m m' a : Nat} : ∀ k, (∀ i, i < k → m.testBit i = true → m'.testBit i = true) → a < k → m'.testBit a = true → ¬ m.testBit a = true → popc m k < popc m' k := by
  intro k
  induction k with
  | zero => intro _ h; omega
  | succ k ih =>
    intro h ha h1 h2
    show popc m k + (m.testBit k).toNat < popc m' k + (m'.testBit k).toNat
    by_cases e : a = k
    · subst e
      have h3 := popc_sub a (fun i hi => h i (by omega))
      have h4 : m.testBit a = false := by
        cases e2 : m.testBit a
        · rfl
        · exact absurd e2 h2
      rw [h1, h4]
      simp only [Bool.toNat_false, Bool.toNat_true]
      omega
    · have h3 := ih (fun i hi => h i (by omega)) (by omega) h1 h2
      have h4 := h k (by omega)
      cases e2 : m.testBit k
      · simp only [Bool.toNat_false]
        omega
      · rw [h4 e2]
        omega
/-! the reference's table of hints, and what comes before -/
def QH (ht : Nat → Nat → Prop) (Hn : Nat → Int32) : Prop := ∀ a b, a < 8 → b < 8 → tf (Hn (8 * a + b)) (ht a b)
theorem i8 (a b : Nat) : (8 : Int32) * nI a + nI b = nI (8 * a + b) := by
  rw [show (8 : Int32) * nI a = nI (8 * a) from pk_mul 8 a, nI_add]
theorem q_bit {m p : Nat} (hm : m < 2 ^ 31) (hp : p < 32) : ((nI m >>> (nI p &&& 31)) &&& (1 : Int32)) = (1 : Int32) ↔ m.testBit p = true := by
  have hd := Nat.div_le_self m (2 ^ p)
  rw [m_shr hm hp, pk_andN (n := m / 2 ^ p) (m := (1 : Int32)) (by omega) 1 (by decide), Nat.testBit_eq_decide_div_mod_eq]
  have h2 : m / 2 ^ p % 2 ^ 1 < 2 ^ 31 := by omega
  rw [show (1 : Int32) = nI 1 from rfl, nI_eq h2 (by decide)]
  constructor
  · intro h
    exact decide_eq_true (by omega)
  · intro h
    have := of_decide_eq_true h
    omega
def rnd (ht : Nat → Nat → Prop) (p m a m' : Nat) : Prop := m' < 256 ∧ (∀ q, q < 8 → m.testBit q = true → m'.testBit q = true) ∧ (∀ c, c < a → (∃ b, b < 8 ∧ ht c b ∧ (b = p ∨ m.testBit b = true)) → m'.testBit c = true)
