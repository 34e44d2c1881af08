/-! Sets out of properties -/
noncomputable def mkS (P : Nat → Prop) : Nat → Nat
  | 0 => 0
  | k + 1 => mkS P k ||| @ite Nat (P k) (Classical.propDecidable _) (2 ^ k) 0
theorem mkS_lt (P : Nat → Prop) : ∀ k, mkS P k < 2 ^ k := by
  intro k
  induction k with
  | zero => exact Nat.one_pos
  | succ k ih =>
    have h := p2_lt (show k < k + 1 by omega)
    refine or_lt (Nat.lt_trans ih h) ?_
    split
    · exact h
    · exact Nat.two_pow_pos _
theorem mkS_bit (P : Nat → Prop) (i : Nat) : ∀ k, (mkS P k).testBit i = true ↔ i < k ∧ P i := by
  intro k
  induction k with
  | zero =>
    show (0 : Nat).testBit i = true ↔ _
    rw [Nat.zero_testBit]
    exact ⟨fun h => absurd h Bool.false_ne_true, fun h => by omega⟩
  | succ k ih =>
    show (mkS P k ||| _).testBit i = true ↔ _
    rw [bit_or, ih]
    by_cases hk : P k
    · rw [if_pos hk, bit_p2]
      constructor
      · rintro (h | h)
        · exact ⟨by omega, h.2⟩
        · subst h
          exact ⟨by omega, hk⟩
      · rintro ⟨h1, h2⟩
        by_cases e : k = i
        · exact Or.inr e
        · exact Or.inl ⟨by omega, h2⟩
    · rw [if_neg hk, Nat.zero_testBit]
      constructor
      · rintro (h | h)
        · exact ⟨by omega, h.2⟩
        · exact absurd h Bool.false_ne_true
      · rintro ⟨h1, h2⟩
        refine Or.inl ⟨?_, h2⟩
        have : i ≠ k := fun e => hk (e ▸ h2)
        omega
/-- a set that a loop has built so far -/
def isS (x : Int32) (P : Nat → Prop) (k : Nat) : Prop := ∃ m, m < 256 ∧ x = nI m ∧ ∀ i, i < 8 → (m.testBit i = true ↔ i < k ∧ P i)
theorem isS_0 (P : Nat → Prop) : isS 0 P 0 := ⟨0, by omega, rfl, fun i _ => ⟨fun h => by rw [Nat.zero_testBit] at h; exact absurd h Bool.false_ne_true, fun h => by omega⟩⟩
theorem isS_t {x : Int32} {P : Nat → Prop} {k : Nat} (h : isS x P k) (hk : k < 8) (hp : P k) : isS (x ||| ((1 : Int32) <<< (nI k &&& 31))) P (k + 1) := by
  obtain ⟨m, h1, h2, h3⟩ := h
  subst h2
  rw [m_sh (by omega), m_or]
  refine ⟨m ||| 2 ^ k, or_lt (k := 8) h1 (p2_lt hk), rfl, fun i hi => ?_⟩
  rw [bit_or, bit_p2, h3 i hi]
  constructor
  · rintro (h | h)
    · exact ⟨by omega, h.2⟩
    · subst h
      exact ⟨by omega, hp⟩
  · rintro ⟨g1, g2⟩
    by_cases e : k = i
    · exact Or.inr e
    · exact Or.inl ⟨by omega, g2⟩
theorem isS_f {x : Int32} {P : Nat → Prop} {k : Nat} (h : isS x P k) (hp : ¬ P k) : isS x P (k + 1) := by
  obtain ⟨m, h1, h2, h3⟩ := h
  refine ⟨m, h1, h2, fun i hi => (h3 i hi).trans ⟨fun g => ⟨by omega, g.2⟩, fun g => ⟨?_, g.2⟩⟩⟩
  have : i ≠ k := fun e => hp (e ▸ g.2)
  omega
theorem isS_mk {x : Int32} {P : Nat → Prop} {k : Nat} (h : isS x P k) (hk : k ≤ 8) : x = nI (mkS P k) := by
  obtain ⟨m, h1, h2, h3⟩ := h
  rw [h2]
  congr 1
  have := mkS_lt P k
  have h5 : 2 ^ k ≤ 2 ^ 8 := Nat.pow_le_pow_right (by decide) hk
  exact bit_ext 8 h1 (by omega) (fun i hi => (h3 i hi).trans (mkS_bit P i k).symm)
/-! Variables of a set; which patterns may come next -/
def vO (vm : Nat → Nat) (S : Nat) : Nat → Nat
  | 0 => 0
  | k + 1 => if S.testBit k = true then vO vm S k ||| vm k else vO vm S k
def vmH (vm : Nat → Nat) (np : Nat) (V : Nat → Int32) : Prop := ∀ p, p < np → vm p < 256 ∧ V p = nI (vm p)
theorem vO_lt {vm : Nat → Nat} {S np : Nat} {V : Nat → Int32} (h : vmH vm np V) : ∀ k, k ≤ np → vO vm S k < 256 := by
  intro k
  induction k with
  | zero => intro _; show 0 < 256; omega
  | succ k ih =>
    intro hk
    unfold vO
    split
    · exact or_lt (k := 8) (ih (by omega)) (h k (by omega)).1
    · exact ih (by omega)
theorem vO_bit {vm : Nat → Nat} {S v : Nat} : ∀ k, (vO vm S k).testBit v = true ↔ ∃ p, p < k ∧ S.testBit p = true ∧ (vm p).testBit v = true := by
  intro k
  induction k with
  | zero =>
    show (0 : Nat).testBit v = true ↔ _
    rw [Nat.zero_testBit]
    exact ⟨fun h => absurd h Bool.false_ne_true, fun ⟨p, h, _⟩ => by omega⟩
  | succ k ih =>
    unfold vO
    by_cases hb : S.testBit k = true
    · rw [if_pos hb, bit_or, ih]
      constructor
      · rintro (⟨p, h1, h2⟩ | h)
        · exact ⟨p, by omega, h2⟩
        · exact ⟨k, by omega, hb, h⟩
      · rintro ⟨p, h1, h2, h3⟩
        by_cases e : p = k
        · subst e; exact Or.inr h3
        · exact Or.inl ⟨p, by omega, h2, h3⟩
    · rw [if_neg hb, ih]
      constructor
      · rintro ⟨p, h1, h2⟩
        exact ⟨p, by omega, h2⟩
      · rintro ⟨p, h1, h2, h3⟩
        refine ⟨p, ?_, h2, h3⟩
        have : p ≠ k := fun e => hb (e ▸ h2)
        omega
theorem c_vars {n S np : Nat} {vm : Nat → Nat} {V : Nat → Int32} (hn : 8 < n) (hS : S < 256) (hp : np ≤ 8) (h : vmH vm np V) : f_Planner_variablesOf n (nI S) (nI np) V = some (nI (vO vm S np)) := by
  apply ok_eq
  rw [f_Planner_variablesOf_u]
  refine ok_bn1 (fun x => x = nI (vO vm S np)) ?_ (fun x h => ok_s h)
  refine lpF (σ := Int32) (fun f i x => f_Planner_variablesOf_L0 n (nI S) (nI np) V f x (nI i)) (fun i x => x = nI (vO vm S i)) np _ ?_ ?_ n 0 (0 : Int32) (by omega) (by omega) rfl
  · intro f x h
    rw [f_Planner_variablesOf_L0_s]
    exact ok_t (nI_le (Nat.le_refl np) (by omega)) (ok_s h)
  · intro f i x hi e ih
    subst e
    rw [f_Planner_variablesOf_L0_s]
    refine ok_f (nI_ge hi (by first | omega | decide)) ?_
    have e1 : vO vm S (i + 1) = if S.testBit i = true then vO vm S i ||| vm i else vO vm S i := rfl
    refine ok_b _ (tf_0 (m_in (m := S) (p := i) (by omega) (by omega))) (fun h4 => ?_) (fun h4 => ?_)
    · refine ok_nmE (nI_1 i) (ih _ ?_)
      rw [e1, if_neg h4]
    · refine ok_gd i rfl (by omega) (by omega) ?_
      rw [nI_clamp (by omega : i < 2 ^ 31), (h i hi).2, m_or]
      refine ok_nm (ok_nmE (nI_1 i) (ih _ ?_))
      rw [e1, if_pos (Classical.not_not.mp h4)]
def frP (rq : Nat) (bf : Nat → Nat) (S p : Nat) : Prop := rq.testBit p = true ∧ ¬ S.testBit p = true ∧ ∀ q, q < 8 → (bf p).testBit q = true → S.testBit q = true
def jnP (rq : Nat) (bf vm : Nat → Nat) (np S p : Nat) : Prop := frP rq bf S p ∧ ∃ v, v < 8 ∧ (vm p).testBit v = true ∧ (vO vm S np).testBit v = true
def nxP (rq : Nat) (bf vm : Nat → Nat) (np S p : Nat) : Prop := jnP rq bf vm np S p ∨ ((∀ q, q < np → ¬ jnP rq bf vm np S q) ∧ frP rq bf S p)
noncomputable def nxM (rq : Nat) (bf vm : Nat → Nat) (np S : Nat) : Nat := mkS (nxP rq bf vm np S) np
def bfH (bf : Nat → Nat) (np : Nat) (B : Nat → Int32) : Prop := ∀ p, p < np → bf p < 256 ∧ B p = nI (bf p)
theorem dif_0 {a b : Nat} (ha : a < 256) : dif a b = 0 ↔ ∀ q, q < 8 → a.testBit q = true → b.testBit q = true := by
  have hl := dif_le a b
  rw [bit_none 8 (show dif a b < 2 ^ 8 by omega)]
  constructor
  · intro h q hq hb
    have := h q hq
    rw [bit_dif (by omega)] at this
    exact Classical.not_not.mp (fun hn => this ⟨hb, hn⟩)
  · intro h q hq hb
    rw [bit_dif (by omega)] at hb
    exact hb.2 (h q hq hb.1)
theorem and_0 {a b : Nat} (ha : a < 256) : a &&& b = 0 ↔ ¬ ∃ v, v < 8 ∧ a.testBit v = true ∧ b.testBit v = true := by
  have hl : a &&& b ≤ a := Nat.and_le_left
  rw [bit_none 8 (show a &&& b < 2 ^ 8 by omega)]
  constructor
  · rintro h ⟨v, hv, h1, h2⟩
    exact h v hv ((bit_and a b v).mpr ⟨h1, h2⟩)
  · intro h v hv hb
    exact h ⟨v, hv, (bit_and a b v).mp hb⟩
theorem c_next {n S np rq : Nat} {vm bf : Nat → Nat} {V B : Nat → Int32} (hn : 8 < n) (hS : S < 256) (hp : np ≤ 8) (hr : rq < 256) (h : vmH vm np V) (hB : bfH bf np B) : f_Planner_nextOnes n (nI S) (nI rq) (nI np) V B = some (nI (nxM rq bf vm np S)) := by
  apply ok_eq
  rw [f_Planner_nextOnes_u]
  refine ok_bn1 _ (ok_e (c_vars hn hS hp h)) (fun r e => ?_)
  subst e
  refine ok_bn2 (fun o => isS o.1 (frP rq bf S) np ∧ isS o.2 (jnP rq bf vm np S) np) ?_ (fun a b hab => ?_)
  · refine lpF (σ := Int32 × Int32) (fun f i x => f_Planner_nextOnes_L0 n (nI S) (nI rq) (nI np) V B (nI (vO vm S np)) f x.1 x.2 (nI i)) (fun i x => isS x.1 (frP rq bf S) i ∧ isS x.2 (jnP rq bf vm np S) i) np _ ?_ ?_ n 0 (0, 0) (by omega) (by omega) ⟨isS_0 _, isS_0 _⟩
    · intro f x hx
      rw [f_Planner_nextOnes_L0_s]
      exact ok_t (nI_le (Nat.le_refl np) (by omega)) (ok_s hx)
    · intro f i x hi hx ih
      obtain ⟨x, y⟩ := x
      obtain ⟨h1, h2⟩ := hx
      simp only at h1 h2
      rw [f_Planner_nextOnes_L0_s]
      dsimp only
      refine ok_f (nI_ge hi (by first | omega | decide)) ?_
      have hdl := dif_le rq S
      rw [m_not]
      refine ok_nm (ok_b _ (tf_0 (m_in (m := dif rq S) (p := i) (by omega) (by omega))) (fun h4 => ?_) (fun h4 => ?_))
      · rw [bit_dif (by omega)] at h4
        have n1 : ¬ frP rq bf S i := fun h5 => h4 ⟨h5.1, h5.2.1⟩
        exact ok_nmE (nI_1 i) (ih (x, y) ⟨isS_f h1 n1, isS_f h2 (fun h5 => n1 h5.1)⟩)
      · have h5 := Classical.not_not.mp h4
        rw [bit_dif (by omega)] at h5
        refine ok_gd i rfl (by omega) (by omega) ?_
        rw [nI_clamp (by omega : i < 2 ^ 31), (hB i hi).2, (h i hi).2, m_not, nx_and]
        have hbl := dif_le (bf i) S
        have hb1 := (hB i hi).1
        have hv1 := (h i hi).1
        have hal : vm i &&& vO vm S np ≤ vm i := Nat.and_le_left
        refine ok_b _ ((nI_eq (b := 0) (by omega) (by omega)).trans (dif_0 hb1)) (fun h6 => ?_) (fun h6 => ?_)
        · have fr : frP rq bf S i := ⟨h5.1, h5.2, h6⟩
          refine ok_nm (ok_b _ ((nI_eq (b := 0) (by omega) (by omega)).trans (and_0 hv1)) (fun h7 => ?_) (fun h7 => ?_))
          · exact ok_nmE (nI_1 i) (ih (_, _) ⟨isS_t h1 (by omega) fr, isS_f h2 (fun h8 => h7 h8.2)⟩)
          · exact ok_nm (ok_nmE (nI_1 i) (ih (_, _) ⟨isS_t h1 (by omega) fr, isS_t h2 (by omega) ⟨fr, Classical.not_not.mp h7⟩⟩))
        · have n1 : ¬ frP rq bf S i := fun h8 => h6 h8.2.2
          exact ok_nmE (nI_1 i) (ih (x, y) ⟨isS_f h1 n1, isS_f h2 (fun h8 => n1 h8.1)⟩)
  · obtain ⟨h1, h2⟩ := hab
    have e1 := isS_mk h1 hp
    have e2 := isS_mk h2 hp
    simp only at e1 e2
    subst e1 e2
    have l1 := mkS_lt (jnP rq bf vm np S) np
    have l2 : 2 ^ np ≤ 2 ^ 8 := Nat.pow_le_pow_right (by decide) hp
    have l3 := mkS_lt (frP rq bf S) np
    have l4 := mkS_lt (nxP rq bf vm np S) np
    refine ok_b _ ((nI_eq (b := 0) (by omega) (by omega)).trans (bit_none np l1)) (fun h3 => ok_s ?_) (fun h3 => ok_s ?_)
    · unfold nxM
      congr 1
      refine bit_ext np l3 l4 (fun i hi => ?_)
      rw [mkS_bit, mkS_bit]
      have none : ∀ q, q < np → ¬ jnP rq bf vm np S q := fun q hq hj => h3 q hq ((mkS_bit _ _ _).mpr ⟨hq, hj⟩)
      exact ⟨fun h4 => ⟨h4.1, Or.inr ⟨none, h4.2⟩⟩, fun h4 => ⟨h4.1, h4.2.elim (fun h5 => absurd h5 (none i hi)) (fun h5 => h5.2)⟩⟩
    · unfold nxM
      congr 1
      refine bit_ext np l1 l4 (fun i hi => ?_)
      rw [mkS_bit, mkS_bit]
      refine ⟨fun h4 => ⟨h4.1, Or.inl h4.2⟩, fun h4 => ⟨h4.1, h4.2.elim id (fun h5 => absurd ?_ h3)⟩⟩
      exact fun q hq hb => h5.1 q hq ((mkS_bit _ _ _).mp hb).2
