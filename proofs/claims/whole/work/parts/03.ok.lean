/-! ok x P: the computation x answers, and its answer has P; rows for each combinator; loops -/
def ok {α : Type} (x : Option α) (P : α → Prop) : Prop := ∃ r, x = some r ∧ P r
theorem ok_s {α : Type} {r : α} {P : α → Prop} (h : P r) : ok (some r) P := ⟨r, rfl, h⟩
theorem ok_e {α : Type} {x : Option α} {r : α} (h : x = some r) : ok x (fun y => y = r) := ⟨r, h, rfl⟩
theorem ok_eq {α : Type} {x : Option α} {r : α} (h : ok x (fun y => y = r)) : x = some r := by
  obtain ⟨y, e, hy⟩ := h
  subst hy
  exact e
theorem ok_w {α : Type} {x : Option α} {P Q : α → Prop} (h : ok x P) (hw : ∀ r, P r → Q r) : ok x Q := by
  obtain ⟨r, e, hr⟩ := h
  exact ⟨r, e, hw r hr⟩
theorem ok_nm {α β : Type} {e : α} {k : α → Option β} {P : β → Prop} (h : ok (k e) P) : ok (nm e k) P := h
theorem ok_nmE {α β : Type} {e e' : α} {k : α → Option β} {P : β → Prop} (he : e = e') (h : ok (k e') P) : ok (nm e k) P := by
  subst he
  exact h
theorem gd_nI {α : Type} {j n : Nat} {X : Option α} (hj : j < n) (hn : n < 2 ^ 31) : gd (nI j) n X = X := by
  unfold gd
  exact if_neg (nI_in hj hn)
theorem ok_gd {α : Type} {i : Int32} {n : Nat} {X : Option α} {P : α → Prop} (j : Nat) (hi : i = nI j) (hj : j < n) (hn : n < 2 ^ 31) (h : ok X P) : ok (gd i n X) P := by
  subst hi
  rw [gd_nI hj hn]
  exact h
theorem ok_gz {α : Type} {c : Prop} [Decidable c] {X : Option α} {P : α → Prop} (hc : ¬ c) (h : ok X P) : ok (gz c X) P := by
  unfold gz
  rw [if_neg hc]
  exact h
theorem ok_gb {α : Type} {v : Int32} {X : Option α} {P : α → Prop} (hc : v = 0 ∨ v = 1) (h : ok X P) : ok (gb v X) P := by
  unfold gb
  rw [if_pos hc]
  exact h
theorem ok_if {α : Type} {c : Prop} [Decidable c] {X Y : Option α} {P : α → Prop} (ht : c → ok X P) (hf : ¬ c → ok Y P) : ok (if c then X else Y) P := by
  by_cases hc : c
  · rw [if_pos hc]
    exact ht hc
  · rw [if_neg hc]
    exact hf hc
theorem ok_t {α : Type} {c : Prop} [Decidable c] {X Y : Option α} {P : α → Prop} (hc : c) (h : ok X P) : ok (if c then X else Y) P := by
  rw [if_pos hc]
  exact h
theorem ok_f {α : Type} {c : Prop} [Decidable c] {X Y : Option α} {P : α → Prop} (hc : ¬ c) (h : ok Y P) : ok (if c then X else Y) P := by
  rw [if_neg hc]
  exact h
/-- a branch by the truth of a statement of one's own -/
theorem ok_b {α : Type} {c : Prop} [Decidable c] {X Y : Option α} {P : α → Prop} (d : Prop) (e : c ↔ d) (ht : d → ok X P) (hf : ¬ d → ok Y P) : ok (if c then X else Y) P :=
  ok_if (fun h => ht (e.mp h)) (fun h => hf (fun h2 => h (e.mpr h2)))
theorem lpF {σ ρ : Type} (F : Nat → Nat → σ → Option ρ) (I : Nat → σ → Prop) (N : Nat) (P : ρ → Prop)
    (he : ∀ k s, I N s → ok (F (k + 1) N s) P)
    (hs : ∀ k i s, i < N → I i s → (∀ s', I (i + 1) s' → ok (F k (i + 1) s') P) → ok (F (k + 1) i s) P) :
    ∀ k i s, i ≤ N → N - i < k → I i s → ok (F k i s) P := by
  intro k
  induction k with
  | zero =>
    intro i s h1 h2
    omega
  | succ k ih =>
    intro i s h1 h2 h3
    by_cases h : i = N
    · subst h
      exact he k s h3
    · exact hs k i s (by omega) h3 (fun s' h' => ih (i + 1) s' (by omega) (by omega) h')
/-- the loop without a state of its own -/
theorem lpU {ρ : Type} (F : Nat → Nat → Option ρ) (I : Nat → Prop) (N : Nat) (P : ρ → Prop)
    (he : ∀ k, I N → ok (F (k + 1) N) P)
    (hs : ∀ k i, i < N → I i → (I (i + 1) → ok (F k (i + 1)) P) → ok (F (k + 1) i) P) :
    ∀ k i, i ≤ N → N - i < k → I i → ok (F k i) P := by
  intro k
  induction k with
  | zero =>
    intro i h1 h2
    omega
  | succ k ih =>
    intro i h1 h2 h3
    by_cases h : i = N
    · subst h
      exact he k h3
    · exact hs k i (by omega) h3 (fun h' => ih (i + 1) (by omega) (by omega) h')
theorem lpM {σ ρ : Type} (F : Nat → σ → Option ρ) (I : σ → Prop) (μ : σ → Nat) (P : ρ → Prop)
    (hs : ∀ k s, I s → (∀ s', I s' → μ s' < μ s → ok (F k s') P) → ok (F (k + 1) s) P) :
    ∀ k s, I s → μ s < k → ok (F k s) P := by
  intro k
  induction k with
  | zero =>
    intro s h1 h2
    omega
  | succ k ih =>
    intro s h1 h2
    exact hs k s h1 (fun s' h3 h4 => ih s' h3 (by omega))
theorem ok_bn0 {ρ : Type} {x : Option Unit} {k : Option ρ} {P : ρ → Prop} (Q : Unit → Prop) (h : ok x Q) (hk : Q () → ok (k) P) : ok (bn0 x k) P := by
  obtain ⟨o, e, ho⟩ := h
  subst e
  exact hk ho
theorem ok_bd0 {ρ : Type} {x : Option (ρ ⊕ Unit)} {k : Option ρ} {P : ρ → Prop} (Q : Unit → Prop) (h : ok x (Sum.elim P Q)) (hk : Q () → ok (k) P) : ok (bd0 x k) P := by
  obtain ⟨o, e, ho⟩ := h
  subst e
  cases o with
  | inl r => exact ⟨r, rfl, ho⟩
  | inr o => exact hk ho
theorem ok_bn1 {ρ : Type} {a0 : Type} {x : Option a0} {k : a0 → Option ρ} {P : ρ → Prop} (Q : a0 → Prop) (h : ok x Q) (hk : ∀ (u0 : a0), Q u0 → ok (k u0) P) : ok (bn1 x k) P := by
  obtain ⟨o, e, ho⟩ := h
  subst e
  exact hk o ho
theorem ok_bd1 {ρ : Type} {a0 : Type} {x : Option (ρ ⊕ a0)} {k : a0 → Option ρ} {P : ρ → Prop} (Q : a0 → Prop) (h : ok x (Sum.elim P Q)) (hk : ∀ (u0 : a0), Q u0 → ok (k u0) P) : ok (bd1 x k) P := by
  obtain ⟨o, e, ho⟩ := h
  subst e
  cases o with
  | inl r => exact ⟨r, rfl, ho⟩
  | inr o => exact hk o ho
theorem ok_bn2 {ρ : Type} {a0 a1 : Type} {x : Option (a0 × a1)} {k : a0 → a1 → Option ρ} {P : ρ → Prop} (Q : (a0 × a1) → Prop) (h : ok x Q) (hk : ∀ (u0 : a0) (u1 : a1), Q (u0, u1) → ok (k u0 u1) P) : ok (bn2 x k) P := by
  obtain ⟨o, e, ho⟩ := h
  subst e
  obtain ⟨u0, u1⟩ := o; exact hk u0 u1 ho
theorem ok_bd2 {ρ : Type} {a0 a1 : Type} {x : Option (ρ ⊕ (a0 × a1))} {k : a0 → a1 → Option ρ} {P : ρ → Prop} (Q : (a0 × a1) → Prop) (h : ok x (Sum.elim P Q)) (hk : ∀ (u0 : a0) (u1 : a1), Q (u0, u1) → ok (k u0 u1) P) : ok (bd2 x k) P := by
  obtain ⟨o, e, ho⟩ := h
  subst e
  cases o with
  | inl r => exact ⟨r, rfl, ho⟩
  | inr o => obtain ⟨u0, u1⟩ := o; exact hk u0 u1 ho
theorem ok_bn3 {ρ : Type} {a0 a1 a2 : Type} {x : Option (a0 × a1 × a2)} {k : a0 → a1 → a2 → Option ρ} {P : ρ → Prop} (Q : (a0 × a1 × a2) → Prop) (h : ok x Q) (hk : ∀ (u0 : a0) (u1 : a1) (u2 : a2), Q (u0, u1, u2) → ok (k u0 u1 u2) P) : ok (bn3 x k) P := by
  obtain ⟨o, e, ho⟩ := h
  subst e
  obtain ⟨u0, u1, u2⟩ := o; exact hk u0 u1 u2 ho
theorem ok_bd3 {ρ : Type} {a0 a1 a2 : Type} {x : Option (ρ ⊕ (a0 × a1 × a2))} {k : a0 → a1 → a2 → Option ρ} {P : ρ → Prop} (Q : (a0 × a1 × a2) → Prop) (h : ok x (Sum.elim P Q)) (hk : ∀ (u0 : a0) (u1 : a1) (u2 : a2), Q (u0, u1, u2) → ok (k u0 u1 u2) P) : ok (bd3 x k) P := by
  obtain ⟨o, e, ho⟩ := h
  subst e
  cases o with
  | inl r => exact ⟨r, rfl, ho⟩
  | inr o => obtain ⟨u0, u1, u2⟩ := o; exact hk u0 u1 u2 ho
theorem ok_bn4 {ρ : Type} {a0 a1 a2 a3 : Type} {x : Option (a0 × a1 × a2 × a3)} {k : a0 → a1 → a2 → a3 → Option ρ} {P : ρ → Prop} (Q : (a0 × a1 × a2 × a3) → Prop) (h : ok x Q) (hk : ∀ (u0 : a0) (u1 : a1) (u2 : a2) (u3 : a3), Q (u0, u1, u2, u3) → ok (k u0 u1 u2 u3) P) : ok (bn4 x k) P := by
  obtain ⟨o, e, ho⟩ := h
  subst e
  obtain ⟨u0, u1, u2, u3⟩ := o; exact hk u0 u1 u2 u3 ho
theorem ok_bd4 {ρ : Type} {a0 a1 a2 a3 : Type} {x : Option (ρ ⊕ (a0 × a1 × a2 × a3))} {k : a0 → a1 → a2 → a3 → Option ρ} {P : ρ → Prop} (Q : (a0 × a1 × a2 × a3) → Prop) (h : ok x (Sum.elim P Q)) (hk : ∀ (u0 : a0) (u1 : a1) (u2 : a2) (u3 : a3), Q (u0, u1, u2, u3) → ok (k u0 u1 u2 u3) P) : ok (bd4 x k) P := by
  obtain ⟨o, e, ho⟩ := h
  subst e
  cases o with
  | inl r => exact ⟨r, rfl, ho⟩
  | inr o => obtain ⟨u0, u1, u2, u3⟩ := o; exact hk u0 u1 u2 u3 ho
theorem ok_bn5 {ρ : Type} {a0 a1 a2 a3 a4 : Type} {x : Option (a0 × a1 × a2 × a3 × a4)} {k : a0 → a1 → a2 → a3 → a4 → Option ρ} {P : ρ → Prop} (Q : (a0 × a1 × a2 × a3 × a4) → Prop) (h : ok x Q) (hk : ∀ (u0 : a0) (u1 : a1) (u2 : a2) (u3 : a3) (u4 : a4), Q (u0, u1, u2, u3, u4) → ok (k u0 u1 u2 u3 u4) P) : ok (bn5 x k) P := by
  obtain ⟨o, e, ho⟩ := h
  subst e
  obtain ⟨u0, u1, u2, u3, u4⟩ := o; exact hk u0 u1 u2 u3 u4 ho
theorem ok_bd5 {ρ : Type} {a0 a1 a2 a3 a4 : Type} {x : Option (ρ ⊕ (a0 × a1 × a2 × a3 × a4))} {k : a0 → a1 → a2 → a3 → a4 → Option ρ} {P : ρ → Prop} (Q : (a0 × a1 × a2 × a3 × a4) → Prop) (h : ok x (Sum.elim P Q)) (hk : ∀ (u0 : a0) (u1 : a1) (u2 : a2) (u3 : a3) (u4 : a4), Q (u0, u1, u2, u3, u4) → ok (k u0 u1 u2 u3 u4) P) : ok (bd5 x k) P := by
  obtain ⟨o, e, ho⟩ := h
  subst e
  cases o with
  | inl r => exact ⟨r, rfl, ho⟩
  | inr o => obtain ⟨u0, u1, u2, u3, u4⟩ := o; exact hk u0 u1 u2 u3 u4 ho
theorem ok_bn6 {ρ : Type} {a0 a1 a2 a3 a4 a5 : Type} {x : Option (a0 × a1 × a2 × a3 × a4 × a5)} {k : a0 → a1 → a2 → a3 → a4 → a5 → Option ρ} {P : ρ → Prop} (Q : (a0 × a1 × a2 × a3 × a4 × a5) → Prop) (h : ok x Q) (hk : ∀ (u0 : a0) (u1 : a1) (u2 : a2) (u3 : a3) (u4 : a4) (u5 : a5), Q (u0, u1, u2, u3, u4, u5) → ok (k u0 u1 u2 u3 u4 u5) P) : ok (bn6 x k) P := by
  obtain ⟨o, e, ho⟩ := h
  subst e
  obtain ⟨u0, u1, u2, u3, u4, u5⟩ := o; exact hk u0 u1 u2 u3 u4 u5 ho
theorem ok_bd6 {ρ : Type} {a0 a1 a2 a3 a4 a5 : Type} {x : Option (ρ ⊕ (a0 × a1 × a2 × a3 × a4 × a5))} {k : a0 → a1 → a2 → a3 → a4 → a5 → Option ρ} {P : ρ → Prop} (Q : (a0 × a1 × a2 × a3 × a4 × a5) → Prop) (h : ok x (Sum.elim P Q)) (hk : ∀ (u0 : a0) (u1 : a1) (u2 : a2) (u3 : a3) (u4 : a4) (u5 : a5), Q (u0, u1, u2, u3, u4, u5) → ok (k u0 u1 u2 u3 u4 u5) P) : ok (bd6 x k) P := by
  obtain ⟨o, e, ho⟩ := h
  subst e
  cases o with
  | inl r => exact ⟨r, rfl, ho⟩
  | inr o => obtain ⟨u0, u1, u2, u3, u4, u5⟩ := o; exact hk u0 u1 u2 u3 u4 u5 ho
theorem ok_bn7 {ρ : Type} {a0 a1 a2 a3 a4 a5 a6 : Type} {x : Option (a0 × a1 × a2 × a3 × a4 × a5 × a6)} {k : a0 → a1 → a2 → a3 → a4 → a5 → a6 → Option ρ} {P : ρ → Prop} (Q : (a0 × a1 × a2 × a3 × a4 × a5 × a6) → Prop) (h : ok x Q) (hk : ∀ (u0 : a0) (u1 : a1) (u2 : a2) (u3 : a3) (u4 : a4) (u5 : a5) (u6 : a6), Q (u0, u1, u2, u3, u4, u5, u6) → ok (k u0 u1 u2 u3 u4 u5 u6) P) : ok (bn7 x k) P := by
  obtain ⟨o, e, ho⟩ := h
  subst e
  obtain ⟨u0, u1, u2, u3, u4, u5, u6⟩ := o; exact hk u0 u1 u2 u3 u4 u5 u6 ho
theorem ok_bd7 {ρ : Type} {a0 a1 a2 a3 a4 a5 a6 : Type} {x : Option (ρ ⊕ (a0 × a1 × a2 × a3 × a4 × a5 × a6))} {k : a0 → a1 → a2 → a3 → a4 → a5 → a6 → Option ρ} {P : ρ → Prop} (Q : (a0 × a1 × a2 × a3 × a4 × a5 × a6) → Prop) (h : ok x (Sum.elim P Q)) (hk : ∀ (u0 : a0) (u1 : a1) (u2 : a2) (u3 : a3) (u4 : a4) (u5 : a5) (u6 : a6), Q (u0, u1, u2, u3, u4, u5, u6) → ok (k u0 u1 u2 u3 u4 u5 u6) P) : ok (bd7 x k) P := by
  obtain ⟨o, e, ho⟩ := h
  subst e
  cases o with
  | inl r => exact ⟨r, rfl, ho⟩
  | inr o => obtain ⟨u0, u1, u2, u3, u4, u5, u6⟩ := o; exact hk u0 u1 u2 u3 u4 u5 u6 ho
theorem ok_bn8 {ρ : Type} {a0 a1 a2 a3 a4 a5 a6 a7 : Type} {x : Option (a0 × a1 × a2 × a3 × a4 × a5 × a6 × a7)} {k : a0 → a1 → a2 → a3 → a4 → a5 → a6 → a7 → Option ρ} {P : ρ → Prop} (Q : (a0 × a1 × a2 × a3 × a4 × a5 × a6 × a7) → Prop) (h : ok x Q) (hk : ∀ (u0 : a0) (u1 : a1) (u2 : a2) (u3 : a3) (u4 : a4) (u5 : a5) (u6 : a6) (u7 : a7), Q (u0, u1, u2, u3, u4, u5, u6, u7) → ok (k u0 u1 u2 u3 u4 u5 u6 u7) P) : ok (bn8 x k) P := by
  obtain ⟨o, e, ho⟩ := h
  subst e
  obtain ⟨u0, u1, u2, u3, u4, u5, u6, u7⟩ := o; exact hk u0 u1 u2 u3 u4 u5 u6 u7 ho
theorem ok_bd8 {ρ : Type} {a0 a1 a2 a3 a4 a5 a6 a7 : Type} {x : Option (ρ ⊕ (a0 × a1 × a2 × a3 × a4 × a5 × a6 × a7))} {k : a0 → a1 → a2 → a3 → a4 → a5 → a6 → a7 → Option ρ} {P : ρ → Prop} (Q : (a0 × a1 × a2 × a3 × a4 × a5 × a6 × a7) → Prop) (h : ok x (Sum.elim P Q)) (hk : ∀ (u0 : a0) (u1 : a1) (u2 : a2) (u3 : a3) (u4 : a4) (u5 : a5) (u6 : a6) (u7 : a7), Q (u0, u1, u2, u3, u4, u5, u6, u7) → ok (k u0 u1 u2 u3 u4 u5 u6 u7) P) : ok (bd8 x k) P := by
  obtain ⟨o, e, ho⟩ := h
  subst e
  cases o with
  | inl r => exact ⟨r, rfl, ho⟩
  | inr o => obtain ⟨u0, u1, u2, u3, u4, u5, u6, u7⟩ := o; exact hk u0 u1 u2 u3 u4 u5 u6 u7 ho
theorem ok_bn9 {ρ : Type} {a0 a1 a2 a3 a4 a5 a6 a7 a8 : Type} {x : Option (a0 × a1 × a2 × a3 × a4 × a5 × a6 × a7 × a8)} {k : a0 → a1 → a2 → a3 → a4 → a5 → a6 → a7 → a8 → Option ρ} {P : ρ → Prop} (Q : (a0 × a1 × a2 × a3 × a4 × a5 × a6 × a7 × a8) → Prop) (h : ok x Q) (hk : ∀ (u0 : a0) (u1 : a1) (u2 : a2) (u3 : a3) (u4 : a4) (u5 : a5) (u6 : a6) (u7 : a7) (u8 : a8), Q (u0, u1, u2, u3, u4, u5, u6, u7, u8) → ok (k u0 u1 u2 u3 u4 u5 u6 u7 u8) P) : ok (bn9 x k) P := by
  obtain ⟨o, e, ho⟩ := h
  subst e
  obtain ⟨u0, u1, u2, u3, u4, u5, u6, u7, u8⟩ := o; exact hk u0 u1 u2 u3 u4 u5 u6 u7 u8 ho
theorem ok_bd9 {ρ : Type} {a0 a1 a2 a3 a4 a5 a6 a7 a8 : Type} {x : Option (ρ ⊕ (a0 × a1 × a2 × a3 × a4 × a5 × a6 × a7 × a8))} {k : a0 → a1 → a2 → a3 → a4 → a5 → a6 → a7 → a8 → Option ρ} {P : ρ → Prop} (Q : (a0 × a1 × a2 × a3 × a4 × a5 × a6 × a7 × a8) → Prop) (h : ok x (Sum.elim P Q)) (hk : ∀ (u0 : a0) (u1 : a1) (u2 : a2) (u3 : a3) (u4 : a4) (u5 : a5) (u6 : a6) (u7 : a7) (u8 : a8), Q (u0, u1, u2, u3, u4, u5, u6, u7, u8) → ok (k u0 u1 u2 u3 u4 u5 u6 u7 u8) P) : ok (bd9 x k) P := by
  obtain ⟨o, e, ho⟩ := h
  subst e
  cases o with
  | inl r => exact ⟨r, rfl, ho⟩
  | inr o => obtain ⟨u0, u1, u2, u3, u4, u5, u6, u7, u8⟩ := o; exact hk u0 u1 u2 u3 u4 u5 u6 u7 u8 ho
theorem ok_bn10 {ρ : Type} {a0 a1 a2 a3 a4 a5 a6 a7 a8 a9 : Type} {x : Option (a0 × a1 × a2 × a3 × a4 × a5 × a6 × a7 × a8 × a9)} {k : a0 → a1 → a2 → a3 → a4 → a5 → a6 → a7 → a8 → a9 → Option ρ} {P : ρ → Prop} (Q : (a0 × a1 × a2 × a3 × a4 × a5 × a6 × a7 × a8 × a9) → Prop) (h : ok x Q) (hk : ∀ (u0 : a0) (u1 : a1) (u2 : a2) (u3 : a3) (u4 : a4) (u5 : a5) (u6 : a6) (u7 : a7) (u8 : a8) (u9 : a9), Q (u0, u1, u2, u3, u4, u5, u6, u7, u8, u9) → ok (k u0 u1 u2 u3 u4 u5 u6 u7 u8 u9) P) : ok (bn10 x k) P := by
  obtain ⟨o, e, ho⟩ := h
  subst e
  obtain ⟨u0, u1, u2, u3, u4, u5, u6, u7, u8, u9⟩ := o; exact hk u0 u1 u2 u3 u4 u5 u6 u7 u8 u9 ho
theorem ok_bd10 {ρ : Type} {a0 a1 a2 a3 a4 a5 a6 a7 a8 a9 : Type} {x : Option (ρ ⊕ (a0 × a1 × a2 × a3 × a4 × a5 × a6 × a7 × a8 × a9))} {k : a0 → a1 → a2 → a3 → a4 → a5 → a6 → a7 → a8 → a9 → Option ρ} {P : ρ → Prop} (Q : (a0 × a1 × a2 × a3 × a4 × a5 × a6 × a7 × a8 × a9) → Prop) (h : ok x (Sum.elim P Q)) (hk : ∀ (u0 : a0) (u1 : a1) (u2 : a2) (u3 : a3) (u4 : a4) (u5 : a5) (u6 : a6) (u7 : a7) (u8 : a8) (u9 : a9), Q (u0, u1, u2, u3, u4, u5, u6, u7, u8, u9) → ok (k u0 u1 u2 u3 u4 u5 u6 u7 u8 u9) P) : ok (bd10 x k) P := by
  obtain ⟨o, e, ho⟩ := h
  subst e
  cases o with
  | inl r => exact ⟨r, rfl, ho⟩
  | inr o => obtain ⟨u0, u1, u2, u3, u4, u5, u6, u7, u8, u9⟩ := o; exact hk u0 u1 u2 u3 u4 u5 u6 u7 u8 u9 ho
theorem ok_bn11 {ρ : Type} {a0 a1 a2 a3 a4 a5 a6 a7 a8 a9 a10 : Type} {x : Option (a0 × a1 × a2 × a3 × a4 × a5 × a6 × a7 × a8 × a9 × a10)} {k : a0 → a1 → a2 → a3 → a4 → a5 → a6 → a7 → a8 → a9 → a10 → Option ρ} {P : ρ → Prop} (Q : (a0 × a1 × a2 × a3 × a4 × a5 × a6 × a7 × a8 × a9 × a10) → Prop) (h : ok x Q) (hk : ∀ (u0 : a0) (u1 : a1) (u2 : a2) (u3 : a3) (u4 : a4) (u5 : a5) (u6 : a6) (u7 : a7) (u8 : a8) (u9 : a9) (u10 : a10), Q (u0, u1, u2, u3, u4, u5, u6, u7, u8, u9, u10) → ok (k u0 u1 u2 u3 u4 u5 u6 u7 u8 u9 u10) P) : ok (bn11 x k) P := by
  obtain ⟨o, e, ho⟩ := h
  subst e
  obtain ⟨u0, u1, u2, u3, u4, u5, u6, u7, u8, u9, u10⟩ := o; exact hk u0 u1 u2 u3 u4 u5 u6 u7 u8 u9 u10 ho
theorem ok_bd11 {ρ : Type} {a0 a1 a2 a3 a4 a5 a6 a7 a8 a9 a10 : Type} {x : Option (ρ ⊕ (a0 × a1 × a2 × a3 × a4 × a5 × a6 × a7 × a8 × a9 × a10))} {k : a0 → a1 → a2 → a3 → a4 → a5 → a6 → a7 → a8 → a9 → a10 → Option ρ} {P : ρ → Prop} (Q : (a0 × a1 × a2 × a3 × a4 × a5 × a6 × a7 × a8 × a9 × a10) → Prop) (h : ok x (Sum.elim P Q)) (hk : ∀ (u0 : a0) (u1 : a1) (u2 : a2) (u3 : a3) (u4 : a4) (u5 : a5) (u6 : a6) (u7 : a7) (u8 : a8) (u9 : a9) (u10 : a10), Q (u0, u1, u2, u3, u4, u5, u6, u7, u8, u9, u10) → ok (k u0 u1 u2 u3 u4 u5 u6 u7 u8 u9 u10) P) : ok (bd11 x k) P := by
  obtain ⟨o, e, ho⟩ := h
  subst e
  cases o with
  | inl r => exact ⟨r, rfl, ho⟩
  | inr o => obtain ⟨u0, u1, u2, u3, u4, u5, u6, u7, u8, u9, u10⟩ := o; exact hk u0 u1 u2 u3 u4 u5 u6 u7 u8 u9 u10 ho
theorem ok_bn12 {ρ : Type} {a0 a1 a2 a3 a4 a5 a6 a7 a8 a9 a10 a11 : Type} {x : Option (a0 × a1 × a2 × a3 × a4 × a5 × a6 × a7 × a8 × a9 × a10 × a11)} {k : a0 → a1 → a2 → a3 → a4 → a5 → a6 → a7 → a8 → a9 → a10 → a11 → Option ρ} {P : ρ → Prop} (Q : (a0 × a1 × a2 × a3 × a4 × a5 × a6 × a7 × a8 × a9 × a10 × a11) → Prop) (h : ok x Q) (hk : ∀ (u0 : a0) (u1 : a1) (u2 : a2) (u3 : a3) (u4 : a4) (u5 : a5) (u6 : a6) (u7 : a7) (u8 : a8) (u9 : a9) (u10 : a10) (u11 : a11), Q (u0, u1, u2, u3, u4, u5, u6, u7, u8, u9, u10, u11) → ok (k u0 u1 u2 u3 u4 u5 u6 u7 u8 u9 u10 u11) P) : ok (bn12 x k) P := by
  obtain ⟨o, e, ho⟩ := h
  subst e
  obtain ⟨u0, u1, u2, u3, u4, u5, u6, u7, u8, u9, u10, u11⟩ := o; exact hk u0 u1 u2 u3 u4 u5 u6 u7 u8 u9 u10 u11 ho
theorem ok_bd12 {ρ : Type} {a0 a1 a2 a3 a4 a5 a6 a7 a8 a9 a10 a11 : Type} {x : Option (ρ ⊕ (a0 × a1 × a2 × a3 × a4 × a5 × a6 × a7 × a8 × a9 × a10 × a11))} {k : a0 → a1 → a2 → a3 → a4 → a5 → a6 → a7 → a8 → a9 → a10 → a11 → Option ρ} {P : ρ → Prop} (Q : (a0 × a1 × a2 × a3 × a4 × a5 × a6 × a7 × a8 × a9 × a10 × a11) → Prop) (h : ok x (Sum.elim P Q)) (hk : ∀ (u0 : a0) (u1 : a1) (u2 : a2) (u3 : a3) (u4 : a4) (u5 : a5) (u6 : a6) (u7 : a7) (u8 : a8) (u9 : a9) (u10 : a10) (u11 : a11), Q (u0, u1, u2, u3, u4, u5, u6, u7, u8, u9, u10, u11) → ok (k u0 u1 u2 u3 u4 u5 u6 u7 u8 u9 u10 u11) P) : ok (bd12 x k) P := by
  obtain ⟨o, e, ho⟩ := h
  subst e
  cases o with
  | inl r => exact ⟨r, rfl, ho⟩
  | inr o => obtain ⟨u0, u1, u2, u3, u4, u5, u6, u7, u8, u9, u10, u11⟩ := o; exact hk u0 u1 u2 u3 u4 u5 u6 u7 u8 u9 u10 u11 ho
theorem ok_bn13 {ρ : Type} {a0 a1 a2 a3 a4 a5 a6 a7 a8 a9 a10 a11 a12 : Type} {x : Option (a0 × a1 × a2 × a3 × a4 × a5 × a6 × a7 × a8 × a9 × a10 × a11 × a12)} {k : a0 → a1 → a2 → a3 → a4 → a5 → a6 → a7 → a8 → a9 → a10 → a11 → a12 → Option ρ} {P : ρ → Prop} (Q : (a0 × a1 × a2 × a3 × a4 × a5 × a6 × a7 × a8 × a9 × a10 × a11 × a12) → Prop) (h : ok x Q) (hk : ∀ (u0 : a0) (u1 : a1) (u2 : a2) (u3 : a3) (u4 : a4) (u5 : a5) (u6 : a6) (u7 : a7) (u8 : a8) (u9 : a9) (u10 : a10) (u11 : a11) (u12 : a12), Q (u0, u1, u2, u3, u4, u5, u6, u7, u8, u9, u10, u11, u12) → ok (k u0 u1 u2 u3 u4 u5 u6 u7 u8 u9 u10 u11 u12) P) : ok (bn13 x k) P := by
  obtain ⟨o, e, ho⟩ := h
  subst e
  obtain ⟨u0, u1, u2, u3, u4, u5, u6, u7, u8, u9, u10, u11, u12⟩ := o; exact hk u0 u1 u2 u3 u4 u5 u6 u7 u8 u9 u10 u11 u12 ho
theorem ok_bd13 {ρ : Type} {a0 a1 a2 a3 a4 a5 a6 a7 a8 a9 a10 a11 a12 : Type} {x : Option (ρ ⊕ (a0 × a1 × a2 × a3 × a4 × a5 × a6 × a7 × a8 × a9 × a10 × a11 × a12))} {k : a0 → a1 → a2 → a3 → a4 → a5 → a6 → a7 → a8 → a9 → a10 → a11 → a12 → Option ρ} {P : ρ → Prop} (Q : (a0 × a1 × a2 × a3 × a4 × a5 × a6 × a7 × a8 × a9 × a10 × a11 × a12) → Prop) (h : ok x (Sum.elim P Q)) (hk : ∀ (u0 : a0) (u1 : a1) (u2 : a2) (u3 : a3) (u4 : a4) (u5 : a5) (u6 : a6) (u7 : a7) (u8 : a8) (u9 : a9) (u10 : a10) (u11 : a11) (u12 : a12), Q (u0, u1, u2, u3, u4, u5, u6, u7, u8, u9, u10, u11, u12) → ok (k u0 u1 u2 u3 u4 u5 u6 u7 u8 u9 u10 u11 u12) P) : ok (bd13 x k) P := by
  obtain ⟨o, e, ho⟩ := h
  subst e
  cases o with
  | inl r => exact ⟨r, rfl, ho⟩
  | inr o => obtain ⟨u0, u1, u2, u3, u4, u5, u6, u7, u8, u9, u10, u11, u12⟩ := o; exact hk u0 u1 u2 u3 u4 u5 u6 u7 u8 u9 u10 u11 u12 ho
theorem ok_bn14 {ρ : Type} {a0 a1 a2 a3 a4 a5 a6 a7 a8 a9 a10 a11 a12 a13 : Type} {x : Option (a0 × a1 × a2 × a3 × a4 × a5 × a6 × a7 × a8 × a9 × a10 × a11 × a12 × a13)} {k : a0 → a1 → a2 → a3 → a4 → a5 → a6 → a7 → a8 → a9 → a10 → a11 → a12 → a13 → Option ρ} {P : ρ → Prop} (Q : (a0 × a1 × a2 × a3 × a4 × a5 × a6 × a7 × a8 × a9 × a10 × a11 × a12 × a13) → Prop) (h : ok x Q) (hk : ∀ (u0 : a0) (u1 : a1) (u2 : a2) (u3 : a3) (u4 : a4) (u5 : a5) (u6 : a6) (u7 : a7) (u8 : a8) (u9 : a9) (u10 : a10) (u11 : a11) (u12 : a12) (u13 : a13), Q (u0, u1, u2, u3, u4, u5, u6, u7, u8, u9, u10, u11, u12, u13) → ok (k u0 u1 u2 u3 u4 u5 u6 u7 u8 u9 u10 u11 u12 u13) P) : ok (bn14 x k) P := by
  obtain ⟨o, e, ho⟩ := h
  subst e
  obtain ⟨u0, u1, u2, u3, u4, u5, u6, u7, u8, u9, u10, u11, u12, u13⟩ := o; exact hk u0 u1 u2 u3 u4 u5 u6 u7 u8 u9 u10 u11 u12 u13 ho
theorem ok_bd14 {ρ : Type} {a0 a1 a2 a3 a4 a5 a6 a7 a8 a9 a10 a11 a12 a13 : Type} {x : Option (ρ ⊕ (a0 × a1 × a2 × a3 × a4 × a5 × a6 × a7 × a8 × a9 × a10 × a11 × a12 × a13))} {k : a0 → a1 → a2 → a3 → a4 → a5 → a6 → a7 → a8 → a9 → a10 → a11 → a12 → a13 → Option ρ} {P : ρ → Prop} (Q : (a0 × a1 × a2 × a3 × a4 × a5 × a6 × a7 × a8 × a9 × a10 × a11 × a12 × a13) → Prop) (h : ok x (Sum.elim P Q)) (hk : ∀ (u0 : a0) (u1 : a1) (u2 : a2) (u3 : a3) (u4 : a4) (u5 : a5) (u6 : a6) (u7 : a7) (u8 : a8) (u9 : a9) (u10 : a10) (u11 : a11) (u12 : a12) (u13 : a13), Q (u0, u1, u2, u3, u4, u5, u6, u7, u8, u9, u10, u11, u12, u13) → ok (k u0 u1 u2 u3 u4 u5 u6 u7 u8 u9 u10 u11 u12 u13) P) : ok (bd14 x k) P := by
  obtain ⟨o, e, ho⟩ := h
  subst e
  cases o with
  | inl r => exact ⟨r, rfl, ho⟩
  | inr o => obtain ⟨u0, u1, u2, u3, u4, u5, u6, u7, u8, u9, u10, u11, u12, u13⟩ := o; exact hk u0 u1 u2 u3 u4 u5 u6 u7 u8 u9 u10 u11 u12 u13 ho
theorem ok_bn15 {ρ : Type} {a0 a1 a2 a3 a4 a5 a6 a7 a8 a9 a10 a11 a12 a13 a14 : Type} {x : Option (a0 × a1 × a2 × a3 × a4 × a5 × a6 × a7 × a8 × a9 × a10 × a11 × a12 × a13 × a14)} {k : a0 → a1 → a2 → a3 → a4 → a5 → a6 → a7 → a8 → a9 → a10 → a11 → a12 → a13 → a14 → Option ρ} {P : ρ → Prop} (Q : (a0 × a1 × a2 × a3 × a4 × a5 × a6 × a7 × a8 × a9 × a10 × a11 × a12 × a13 × a14) → Prop) (h : ok x Q) (hk : ∀ (u0 : a0) (u1 : a1) (u2 : a2) (u3 : a3) (u4 : a4) (u5 : a5) (u6 : a6) (u7 : a7) (u8 : a8) (u9 : a9) (u10 : a10) (u11 : a11) (u12 : a12) (u13 : a13) (u14 : a14), Q (u0, u1, u2, u3, u4, u5, u6, u7, u8, u9, u10, u11, u12, u13, u14) → ok (k u0 u1 u2 u3 u4 u5 u6 u7 u8 u9 u10 u11 u12 u13 u14) P) : ok (bn15 x k) P := by
  obtain ⟨o, e, ho⟩ := h
  subst e
  obtain ⟨u0, u1, u2, u3, u4, u5, u6, u7, u8, u9, u10, u11, u12, u13, u14⟩ := o; exact hk u0 u1 u2 u3 u4 u5 u6 u7 u8 u9 u10 u11 u12 u13 u14 ho
theorem ok_bd15 {ρ : Type} {a0 a1 a2 a3 a4 a5 a6 a7 a8 a9 a10 a11 a12 a13 a14 : Type} {x : Option (ρ ⊕ (a0 × a1 × a2 × a3 × a4 × a5 × a6 × a7 × a8 × a9 × a10 × a11 × a12 × a13 × a14))} {k : a0 → a1 → a2 → a3 → a4 → a5 → a6 → a7 → a8 → a9 → a10 → a11 → a12 → a13 → a14 → Option ρ} {P : ρ → Prop} (Q : (a0 × a1 × a2 × a3 × a4 × a5 × a6 × a7 × a8 × a9 × a10 × a11 × a12 × a13 × a14) → Prop) (h : ok x (Sum.elim P Q)) (hk : ∀ (u0 : a0) (u1 : a1) (u2 : a2) (u3 : a3) (u4 : a4) (u5 : a5) (u6 : a6) (u7 : a7) (u8 : a8) (u9 : a9) (u10 : a10) (u11 : a11) (u12 : a12) (u13 : a13) (u14 : a14), Q (u0, u1, u2, u3, u4, u5, u6, u7, u8, u9, u10, u11, u12, u13, u14) → ok (k u0 u1 u2 u3 u4 u5 u6 u7 u8 u9 u10 u11 u12 u13 u14) P) : ok (bd15 x k) P := by
  obtain ⟨o, e, ho⟩ := h
  subst e
  cases o with
  | inl r => exact ⟨r, rfl, ho⟩
  | inr o => obtain ⟨u0, u1, u2, u3, u4, u5, u6, u7, u8, u9, u10, u11, u12, u13, u14⟩ := o; exact hk u0 u1 u2 u3 u4 u5 u6 u7 u8 u9 u10 u11 u12 u13 u14 ho
theorem ok_bn16 {ρ : Type} {a0 a1 a2 a3 a4 a5 a6 a7 a8 a9 a10 a11 a12 a13 a14 a15 : Type} {x : Option (a0 × a1 × a2 × a3 × a4 × a5 × a6 × a7 × a8 × a9 × a10 × a11 × a12 × a13 × a14 × a15)} {k : a0 → a1 → a2 → a3 → a4 → a5 → a6 → a7 → a8 → a9 → a10 → a11 → a12 → a13 → a14 → a15 → Option ρ} {P : ρ → Prop} (Q : (a0 × a1 × a2 × a3 × a4 × a5 × a6 × a7 × a8 × a9 × a10 × a11 × a12 × a13 × a14 × a15) → Prop) (h : ok x Q) (hk : ∀ (u0 : a0) (u1 : a1) (u2 : a2) (u3 : a3) (u4 : a4) (u5 : a5) (u6 : a6) (u7 : a7) (u8 : a8) (u9 : a9) (u10 : a10) (u11 : a11) (u12 : a12) (u13 : a13) (u14 : a14) (u15 : a15), Q (u0, u1, u2, u3, u4, u5, u6, u7, u8, u9, u10, u11, u12, u13, u14, u15) → ok (k u0 u1 u2 u3 u4 u5 u6 u7 u8 u9 u10 u11 u12 u13 u14 u15) P) : ok (bn16 x k) P := by
  obtain ⟨o, e, ho⟩ := h
  subst e
  obtain ⟨u0, u1, u2, u3, u4, u5, u6, u7, u8, u9, u10, u11, u12, u13, u14, u15⟩ := o; exact hk u0 u1 u2 u3 u4 u5 u6 u7 u8 u9 u10 u11 u12 u13 u14 u15 ho
theorem ok_bd16 {ρ : Type} {a0 a1 a2 a3 a4 a5 a6 a7 a8 a9 a10 a11 a12 a13 a14 a15 : Type} {x : Option (ρ ⊕ (a0 × a1 × a2 × a3 × a4 × a5 × a6 × a7 × a8 × a9 × a10 × a11 × a12 × a13 × a14 × a15))} {k : a0 → a1 → a2 → a3 → a4 → a5 → a6 → a7 → a8 → a9 → a10 → a11 → a12 → a13 → a14 → a15 → Option ρ} {P : ρ → Prop} (Q : (a0 × a1 × a2 × a3 × a4 × a5 × a6 × a7 × a8 × a9 × a10 × a11 × a12 × a13 × a14 × a15) → Prop) (h : ok x (Sum.elim P Q)) (hk : ∀ (u0 : a0) (u1 : a1) (u2 : a2) (u3 : a3) (u4 : a4) (u5 : a5) (u6 : a6) (u7 : a7) (u8 : a8) (u9 : a9) (u10 : a10) (u11 : a11) (u12 : a12) (u13 : a13) (u14 : a14) (u15 : a15), Q (u0, u1, u2, u3, u4, u5, u6, u7, u8, u9, u10, u11, u12, u13, u14, u15) → ok (k u0 u1 u2 u3 u4 u5 u6 u7 u8 u9 u10 u11 u12 u13 u14 u15) P) : ok (bd16 x k) P := by
  obtain ⟨o, e, ho⟩ := h
  subst e
  cases o with
  | inl r => exact ⟨r, rfl, ho⟩
  | inr o => obtain ⟨u0, u1, u2, u3, u4, u5, u6, u7, u8, u9, u10, u11, u12, u13, u14, u15⟩ := o; exact hk u0 u1 u2 u3 u4 u5 u6 u7 u8 u9 u10 u11 u12 u13 u14 u15 ho
theorem ok_bn17 {ρ : Type} {a0 a1 a2 a3 a4 a5 a6 a7 a8 a9 a10 a11 a12 a13 a14 a15 a16 : Type} {x : Option (a0 × a1 × a2 × a3 × a4 × a5 × a6 × a7 × a8 × a9 × a10 × a11 × a12 × a13 × a14 × a15 × a16)} {k : a0 → a1 → a2 → a3 → a4 → a5 → a6 → a7 → a8 → a9 → a10 → a11 → a12 → a13 → a14 → a15 → a16 → Option ρ} {P : ρ → Prop} (Q : (a0 × a1 × a2 × a3 × a4 × a5 × a6 × a7 × a8 × a9 × a10 × a11 × a12 × a13 × a14 × a15 × a16) → Prop) (h : ok x Q) (hk : ∀ (u0 : a0) (u1 : a1) (u2 : a2) (u3 : a3) (u4 : a4) (u5 : a5) (u6 : a6) (u7 : a7) (u8 : a8) (u9 : a9) (u10 : a10) (u11 : a11) (u12 : a12) (u13 : a13) (u14 : a14) (u15 : a15) (u16 : a16), Q (u0, u1, u2, u3, u4, u5, u6, u7, u8, u9, u10, u11, u12, u13, u14, u15, u16) → ok (k u0 u1 u2 u3 u4 u5 u6 u7 u8 u9 u10 u11 u12 u13 u14 u15 u16) P) : ok (bn17 x k) P := by
  obtain ⟨o, e, ho⟩ := h
  subst e
  obtain ⟨u0, u1, u2, u3, u4, u5, u6, u7, u8, u9, u10, u11, u12, u13, u14, u15, u16⟩ := o; exact hk u0 u1 u2 u3 u4 u5 u6 u7 u8 u9 u10 u11 u12 u13 u14 u15 u16 ho
theorem ok_bd17 {ρ : Type} {a0 a1 a2 a3 a4 a5 a6 a7 a8 a9 a10 a11 a12 a13 a14 a15 a16 : Type} {x : Option (ρ ⊕ (a0 × a1 × a2 × a3 × a4 × a5 × a6 × a7 × a8 × a9 × a10 × a11 × a12 × a13 × a14 × a15 × a16))} {k : a0 → a1 → a2 → a3 → a4 → a5 → a6 → a7 → a8 → a9 → a10 → a11 → a12 → a13 → a14 → a15 → a16 → Option ρ} {P : ρ → Prop} (Q : (a0 × a1 × a2 × a3 × a4 × a5 × a6 × a7 × a8 × a9 × a10 × a11 × a12 × a13 × a14 × a15 × a16) → Prop) (h : ok x (Sum.elim P Q)) (hk : ∀ (u0 : a0) (u1 : a1) (u2 : a2) (u3 : a3) (u4 : a4) (u5 : a5) (u6 : a6) (u7 : a7) (u8 : a8) (u9 : a9) (u10 : a10) (u11 : a11) (u12 : a12) (u13 : a13) (u14 : a14) (u15 : a15) (u16 : a16), Q (u0, u1, u2, u3, u4, u5, u6, u7, u8, u9, u10, u11, u12, u13, u14, u15, u16) → ok (k u0 u1 u2 u3 u4 u5 u6 u7 u8 u9 u10 u11 u12 u13 u14 u15 u16) P) : ok (bd17 x k) P := by
  obtain ⟨o, e, ho⟩ := h
  subst e
  cases o with
  | inl r => exact ⟨r, rfl, ho⟩
  | inr o => obtain ⟨u0, u1, u2, u3, u4, u5, u6, u7, u8, u9, u10, u11, u12, u13, u14, u15, u16⟩ := o; exact hk u0 u1 u2 u3 u4 u5 u6 u7 u8 u9 u10 u11 u12 u13 u14 u15 u16 ho
theorem ok_bn18 {ρ : Type} {a0 a1 a2 a3 a4 a5 a6 a7 a8 a9 a10 a11 a12 a13 a14 a15 a16 a17 : Type} {x : Option (a0 × a1 × a2 × a3 × a4 × a5 × a6 × a7 × a8 × a9 × a10 × a11 × a12 × a13 × a14 × a15 × a16 × a17)} {k : a0 → a1 → a2 → a3 → a4 → a5 → a6 → a7 → a8 → a9 → a10 → a11 → a12 → a13 → a14 → a15 → a16 → a17 → Option ρ} {P : ρ → Prop} (Q : (a0 × a1 × a2 × a3 × a4 × a5 × a6 × a7 × a8 × a9 × a10 × a11 × a12 × a13 × a14 × a15 × a16 × a17) → Prop) (h : ok x Q) (hk : ∀ (u0 : a0) (u1 : a1) (u2 : a2) (u3 : a3) (u4 : a4) (u5 : a5) (u6 : a6) (u7 : a7) (u8 : a8) (u9 : a9) (u10 : a10) (u11 : a11) (u12 : a12) (u13 : a13) (u14 : a14) (u15 : a15) (u16 : a16) (u17 : a17), Q (u0, u1, u2, u3, u4, u5, u6, u7, u8, u9, u10, u11, u12, u13, u14, u15, u16, u17) → ok (k u0 u1 u2 u3 u4 u5 u6 u7 u8 u9 u10 u11 u12 u13 u14 u15 u16 u17) P) : ok (bn18 x k) P := by
  obtain ⟨o, e, ho⟩ := h
  subst e
  obtain ⟨u0, u1, u2, u3, u4, u5, u6, u7, u8, u9, u10, u11, u12, u13, u14, u15, u16, u17⟩ := o; exact hk u0 u1 u2 u3 u4 u5 u6 u7 u8 u9 u10 u11 u12 u13 u14 u15 u16 u17 ho
theorem ok_bd18 {ρ : Type} {a0 a1 a2 a3 a4 a5 a6 a7 a8 a9 a10 a11 a12 a13 a14 a15 a16 a17 : Type} {x : Option (ρ ⊕ (a0 × a1 × a2 × a3 × a4 × a5 × a6 × a7 × a8 × a9 × a10 × a11 × a12 × a13 × a14 × a15 × a16 × a17))} {k : a0 → a1 → a2 → a3 → a4 → a5 → a6 → a7 → a8 → a9 → a10 → a11 → a12 → a13 → a14 → a15 → a16 → a17 → Option ρ} {P : ρ → Prop} (Q : (a0 × a1 × a2 × a3 × a4 × a5 × a6 × a7 × a8 × a9 × a10 × a11 × a12 × a13 × a14 × a15 × a16 × a17) → Prop) (h : ok x (Sum.elim P Q)) (hk : ∀ (u0 : a0) (u1 : a1) (u2 : a2) (u3 : a3) (u4 : a4) (u5 : a5) (u6 : a6) (u7 : a7) (u8 : a8) (u9 : a9) (u10 : a10) (u11 : a11) (u12 : a12) (u13 : a13) (u14 : a14) (u15 : a15) (u16 : a16) (u17 : a17), Q (u0, u1, u2, u3, u4, u5, u6, u7, u8, u9, u10, u11, u12, u13, u14, u15, u16, u17) → ok (k u0 u1 u2 u3 u4 u5 u6 u7 u8 u9 u10 u11 u12 u13 u14 u15 u16 u17) P) : ok (bd18 x k) P := by
  obtain ⟨o, e, ho⟩ := h
  subst e
  cases o with
  | inl r => exact ⟨r, rfl, ho⟩
  | inr o => obtain ⟨u0, u1, u2, u3, u4, u5, u6, u7, u8, u9, u10, u11, u12, u13, u14, u15, u16, u17⟩ := o; exact hk u0 u1 u2 u3 u4 u5 u6 u7 u8 u9 u10 u11 u12 u13 u14 u15 u16 u17 ho
theorem ok_bn19 {ρ : Type} {a0 a1 a2 a3 a4 a5 a6 a7 a8 a9 a10 a11 a12 a13 a14 a15 a16 a17 a18 : Type} {x : Option (a0 × a1 × a2 × a3 × a4 × a5 × a6 × a7 × a8 × a9 × a10 × a11 × a12 × a13 × a14 × a15 × a16 × a17 × a18)} {k : a0 → a1 → a2 → a3 → a4 → a5 → a6 → a7 → a8 → a9 → a10 → a11 → a12 → a13 → a14 → a15 → a16 → a17 → a18 → Option ρ} {P : ρ → Prop} (Q : (a0 × a1 × a2 × a3 × a4 × a5 × a6 × a7 × a8 × a9 × a10 × a11 × a12 × a13 × a14 × a15 × a16 × a17 × a18) → Prop) (h : ok x Q) (hk : ∀ (u0 : a0) (u1 : a1) (u2 : a2) (u3 : a3) (u4 : a4) (u5 : a5) (u6 : a6) (u7 : a7) (u8 : a8) (u9 : a9) (u10 : a10) (u11 : a11) (u12 : a12) (u13 : a13) (u14 : a14) (u15 : a15) (u16 : a16) (u17 : a17) (u18 : a18), Q (u0, u1, u2, u3, u4, u5, u6, u7, u8, u9, u10, u11, u12, u13, u14, u15, u16, u17, u18) → ok (k u0 u1 u2 u3 u4 u5 u6 u7 u8 u9 u10 u11 u12 u13 u14 u15 u16 u17 u18) P) : ok (bn19 x k) P := by
  obtain ⟨o, e, ho⟩ := h
  subst e
  obtain ⟨u0, u1, u2, u3, u4, u5, u6, u7, u8, u9, u10, u11, u12, u13, u14, u15, u16, u17, u18⟩ := o; exact hk u0 u1 u2 u3 u4 u5 u6 u7 u8 u9 u10 u11 u12 u13 u14 u15 u16 u17 u18 ho
theorem ok_bd19 {ρ : Type} {a0 a1 a2 a3 a4 a5 a6 a7 a8 a9 a10 a11 a12 a13 a14 a15 a16 a17 a18 : Type} {x : Option (ρ ⊕ (a0 × a1 × a2 × a3 × a4 × a5 × a6 × a7 × a8 × a9 × a10 × a11 × a12 × a13 × a14 × a15 × a16 × a17 × a18))} {k : a0 → a1 → a2 → a3 → a4 → a5 → a6 → a7 → a8 → a9 → a10 → a11 → a12 → a13 → a14 → a15 → a16 → a17 → a18 → Option ρ} {P : ρ → Prop} (Q : (a0 × a1 × a2 × a3 × a4 × a5 × a6 × a7 × a8 × a9 × a10 × a11 × a12 × a13 × a14 × a15 × a16 × a17 × a18) → Prop) (h : ok x (Sum.elim P Q)) (hk : ∀ (u0 : a0) (u1 : a1) (u2 : a2) (u3 : a3) (u4 : a4) (u5 : a5) (u6 : a6) (u7 : a7) (u8 : a8) (u9 : a9) (u10 : a10) (u11 : a11) (u12 : a12) (u13 : a13) (u14 : a14) (u15 : a15) (u16 : a16) (u17 : a17) (u18 : a18), Q (u0, u1, u2, u3, u4, u5, u6, u7, u8, u9, u10, u11, u12, u13, u14, u15, u16, u17, u18) → ok (k u0 u1 u2 u3 u4 u5 u6 u7 u8 u9 u10 u11 u12 u13 u14 u15 u16 u17 u18) P) : ok (bd19 x k) P := by
  obtain ⟨o, e, ho⟩ := h
  subst e
  cases o with
  | inl r => exact ⟨r, rfl, ho⟩
  | inr o => obtain ⟨u0, u1, u2, u3, u4, u5, u6, u7, u8, u9, u10, u11, u12, u13, u14, u15, u16, u17, u18⟩ := o; exact hk u0 u1 u2 u3 u4 u5 u6 u7 u8 u9 u10 u11 u12 u13 u14 u15 u16 u17 u18 ho
theorem ok_bn20 {ρ : Type} {a0 a1 a2 a3 a4 a5 a6 a7 a8 a9 a10 a11 a12 a13 a14 a15 a16 a17 a18 a19 : Type} {x : Option (a0 × a1 × a2 × a3 × a4 × a5 × a6 × a7 × a8 × a9 × a10 × a11 × a12 × a13 × a14 × a15 × a16 × a17 × a18 × a19)} {k : a0 → a1 → a2 → a3 → a4 → a5 → a6 → a7 → a8 → a9 → a10 → a11 → a12 → a13 → a14 → a15 → a16 → a17 → a18 → a19 → Option ρ} {P : ρ → Prop} (Q : (a0 × a1 × a2 × a3 × a4 × a5 × a6 × a7 × a8 × a9 × a10 × a11 × a12 × a13 × a14 × a15 × a16 × a17 × a18 × a19) → Prop) (h : ok x Q) (hk : ∀ (u0 : a0) (u1 : a1) (u2 : a2) (u3 : a3) (u4 : a4) (u5 : a5) (u6 : a6) (u7 : a7) (u8 : a8) (u9 : a9) (u10 : a10) (u11 : a11) (u12 : a12) (u13 : a13) (u14 : a14) (u15 : a15) (u16 : a16) (u17 : a17) (u18 : a18) (u19 : a19), Q (u0, u1, u2, u3, u4, u5, u6, u7, u8, u9, u10, u11, u12, u13, u14, u15, u16, u17, u18, u19) → ok (k u0 u1 u2 u3 u4 u5 u6 u7 u8 u9 u10 u11 u12 u13 u14 u15 u16 u17 u18 u19) P) : ok (bn20 x k) P := by
  obtain ⟨o, e, ho⟩ := h
  subst e
  obtain ⟨u0, u1, u2, u3, u4, u5, u6, u7, u8, u9, u10, u11, u12, u13, u14, u15, u16, u17, u18, u19⟩ := o; exact hk u0 u1 u2 u3 u4 u5 u6 u7 u8 u9 u10 u11 u12 u13 u14 u15 u16 u17 u18 u19 ho
theorem ok_bd20 {ρ : Type} {a0 a1 a2 a3 a4 a5 a6 a7 a8 a9 a10 a11 a12 a13 a14 a15 a16 a17 a18 a19 : Type} {x : Option (ρ ⊕ (a0 × a1 × a2 × a3 × a4 × a5 × a6 × a7 × a8 × a9 × a10 × a11 × a12 × a13 × a14 × a15 × a16 × a17 × a18 × a19))} {k : a0 → a1 → a2 → a3 → a4 → a5 → a6 → a7 → a8 → a9 → a10 → a11 → a12 → a13 → a14 → a15 → a16 → a17 → a18 → a19 → Option ρ} {P : ρ → Prop} (Q : (a0 × a1 × a2 × a3 × a4 × a5 × a6 × a7 × a8 × a9 × a10 × a11 × a12 × a13 × a14 × a15 × a16 × a17 × a18 × a19) → Prop) (h : ok x (Sum.elim P Q)) (hk : ∀ (u0 : a0) (u1 : a1) (u2 : a2) (u3 : a3) (u4 : a4) (u5 : a5) (u6 : a6) (u7 : a7) (u8 : a8) (u9 : a9) (u10 : a10) (u11 : a11) (u12 : a12) (u13 : a13) (u14 : a14) (u15 : a15) (u16 : a16) (u17 : a17) (u18 : a18) (u19 : a19), Q (u0, u1, u2, u3, u4, u5, u6, u7, u8, u9, u10, u11, u12, u13, u14, u15, u16, u17, u18, u19) → ok (k u0 u1 u2 u3 u4 u5 u6 u7 u8 u9 u10 u11 u12 u13 u14 u15 u16 u17 u18 u19) P) : ok (bd20 x k) P := by
  obtain ⟨o, e, ho⟩ := h
  subst e
  cases o with
  | inl r => exact ⟨r, rfl, ho⟩
  | inr o => obtain ⟨u0, u1, u2, u3, u4, u5, u6, u7, u8, u9, u10, u11, u12, u13, u14, u15, u16, u17, u18, u19⟩ := o; exact hk u0 u1 u2 u3 u4 u5 u6 u7 u8 u9 u10 u11 u12 u13 u14 u15 u16 u17 u18 u19 ho
theorem ok_bn21 {ρ : Type} {a0 a1 a2 a3 a4 a5 a6 a7 a8 a9 a10 a11 a12 a13 a14 a15 a16 a17 a18 a19 a20 : Type} {x : Option (a0 × a1 × a2 × a3 × a4 × a5 × a6 × a7 × a8 × a9 × a10 × a11 × a12 × a13 × a14 × a15 × a16 × a17 × a18 × a19 × a20)} {k : a0 → a1 → a2 → a3 → a4 → a5 → a6 → a7 → a8 → a9 → a10 → a11 → a12 → a13 → a14 → a15 → a16 → a17 → a18 → a19 → a20 → Option ρ} {P : ρ → Prop} (Q : (a0 × a1 × a2 × a3 × a4 × a5 × a6 × a7 × a8 × a9 × a10 × a11 × a12 × a13 × a14 × a15 × a16 × a17 × a18 × a19 × a20) → Prop) (h : ok x Q) (hk : ∀ (u0 : a0) (u1 : a1) (u2 : a2) (u3 : a3) (u4 : a4) (u5 : a5) (u6 : a6) (u7 : a7) (u8 : a8) (u9 : a9) (u10 : a10) (u11 : a11) (u12 : a12) (u13 : a13) (u14 : a14) (u15 : a15) (u16 : a16) (u17 : a17) (u18 : a18) (u19 : a19) (u20 : a20), Q (u0, u1, u2, u3, u4, u5, u6, u7, u8, u9, u10, u11, u12, u13, u14, u15, u16, u17, u18, u19, u20) → ok (k u0 u1 u2 u3 u4 u5 u6 u7 u8 u9 u10 u11 u12 u13 u14 u15 u16 u17 u18 u19 u20) P) : ok (bn21 x k) P := by
  obtain ⟨o, e, ho⟩ := h
  subst e
  obtain ⟨u0, u1, u2, u3, u4, u5, u6, u7, u8, u9, u10, u11, u12, u13, u14, u15, u16, u17, u18, u19, u20⟩ := o; exact hk u0 u1 u2 u3 u4 u5 u6 u7 u8 u9 u10 u11 u12 u13 u14 u15 u16 u17 u18 u19 u20 ho
theorem ok_bd21 {ρ : Type} {a0 a1 a2 a3 a4 a5 a6 a7 a8 a9 a10 a11 a12 a13 a14 a15 a16 a17 a18 a19 a20 : Type} {x : Option (ρ ⊕ (a0 × a1 × a2 × a3 × a4 × a5 × a6 × a7 × a8 × a9 × a10 × a11 × a12 × a13 × a14 × a15 × a16 × a17 × a18 × a19 × a20))} {k : a0 → a1 → a2 → a3 → a4 → a5 → a6 → a7 → a8 → a9 → a10 → a11 → a12 → a13 → a14 → a15 → a16 → a17 → a18 → a19 → a20 → Option ρ} {P : ρ → Prop} (Q : (a0 × a1 × a2 × a3 × a4 × a5 × a6 × a7 × a8 × a9 × a10 × a11 × a12 × a13 × a14 × a15 × a16 × a17 × a18 × a19 × a20) → Prop) (h : ok x (Sum.elim P Q)) (hk : ∀ (u0 : a0) (u1 : a1) (u2 : a2) (u3 : a3) (u4 : a4) (u5 : a5) (u6 : a6) (u7 : a7) (u8 : a8) (u9 : a9) (u10 : a10) (u11 : a11) (u12 : a12) (u13 : a13) (u14 : a14) (u15 : a15) (u16 : a16) (u17 : a17) (u18 : a18) (u19 : a19) (u20 : a20), Q (u0, u1, u2, u3, u4, u5, u6, u7, u8, u9, u10, u11, u12, u13, u14, u15, u16, u17, u18, u19, u20) → ok (k u0 u1 u2 u3 u4 u5 u6 u7 u8 u9 u10 u11 u12 u13 u14 u15 u16 u17 u18 u19 u20) P) : ok (bd21 x k) P := by
  obtain ⟨o, e, ho⟩ := h
  subst e
  cases o with
  | inl r => exact ⟨r, rfl, ho⟩
  | inr o => obtain ⟨u0, u1, u2, u3, u4, u5, u6, u7, u8, u9, u10, u11, u12, u13, u14, u15, u16, u17, u18, u19, u20⟩ := o; exact hk u0 u1 u2 u3 u4 u5 u6 u7 u8 u9 u10 u11 u12 u13 u14 u15 u16 u17 u18 u19 u20 ho
theorem ok_bn22 {ρ : Type} {a0 a1 a2 a3 a4 a5 a6 a7 a8 a9 a10 a11 a12 a13 a14 a15 a16 a17 a18 a19 a20 a21 : Type} {x : Option (a0 × a1 × a2 × a3 × a4 × a5 × a6 × a7 × a8 × a9 × a10 × a11 × a12 × a13 × a14 × a15 × a16 × a17 × a18 × a19 × a20 × a21)} {k : a0 → a1 → a2 → a3 → a4 → a5 → a6 → a7 → a8 → a9 → a10 → a11 → a12 → a13 → a14 → a15 → a16 → a17 → a18 → a19 → a20 → a21 → Option ρ} {P : ρ → Prop} (Q : (a0 × a1 × a2 × a3 × a4 × a5 × a6 × a7 × a8 × a9 × a10 × a11 × a12 × a13 × a14 × a15 × a16 × a17 × a18 × a19 × a20 × a21) → Prop) (h : ok x Q) (hk : ∀ (u0 : a0) (u1 : a1) (u2 : a2) (u3 : a3) (u4 : a4) (u5 : a5) (u6 : a6) (u7 : a7) (u8 : a8) (u9 : a9) (u10 : a10) (u11 : a11) (u12 : a12) (u13 : a13) (u14 : a14) (u15 : a15) (u16 : a16) (u17 : a17) (u18 : a18) (u19 : a19) (u20 : a20) (u21 : a21), Q (u0, u1, u2, u3, u4, u5, u6, u7, u8, u9, u10, u11, u12, u13, u14, u15, u16, u17, u18, u19, u20, u21) → ok (k u0 u1 u2 u3 u4 u5 u6 u7 u8 u9 u10 u11 u12 u13 u14 u15 u16 u17 u18 u19 u20 u21) P) : ok (bn22 x k) P := by
  obtain ⟨o, e, ho⟩ := h
  subst e
  obtain ⟨u0, u1, u2, u3, u4, u5, u6, u7, u8, u9, u10, u11, u12, u13, u14, u15, u16, u17, u18, u19, u20, u21⟩ := o; exact hk u0 u1 u2 u3 u4 u5 u6 u7 u8 u9 u10 u11 u12 u13 u14 u15 u16 u17 u18 u19 u20 u21 ho
theorem ok_bd22 {ρ : Type} {a0 a1 a2 a3 a4 a5 a6 a7 a8 a9 a10 a11 a12 a13 a14 a15 a16 a17 a18 a19 a20 a21 : Type} {x : Option (ρ ⊕ (a0 × a1 × a2 × a3 × a4 × a5 × a6 × a7 × a8 × a9 × a10 × a11 × a12 × a13 × a14 × a15 × a16 × a17 × a18 × a19 × a20 × a21))} {k : a0 → a1 → a2 → a3 → a4 → a5 → a6 → a7 → a8 → a9 → a10 → a11 → a12 → a13 → a14 → a15 → a16 → a17 → a18 → a19 → a20 → a21 → Option ρ} {P : ρ → Prop} (Q : (a0 × a1 × a2 × a3 × a4 × a5 × a6 × a7 × a8 × a9 × a10 × a11 × a12 × a13 × a14 × a15 × a16 × a17 × a18 × a19 × a20 × a21) → Prop) (h : ok x (Sum.elim P Q)) (hk : ∀ (u0 : a0) (u1 : a1) (u2 : a2) (u3 : a3) (u4 : a4) (u5 : a5) (u6 : a6) (u7 : a7) (u8 : a8) (u9 : a9) (u10 : a10) (u11 : a11) (u12 : a12) (u13 : a13) (u14 : a14) (u15 : a15) (u16 : a16) (u17 : a17) (u18 : a18) (u19 : a19) (u20 : a20) (u21 : a21), Q (u0, u1, u2, u3, u4, u5, u6, u7, u8, u9, u10, u11, u12, u13, u14, u15, u16, u17, u18, u19, u20, u21) → ok (k u0 u1 u2 u3 u4 u5 u6 u7 u8 u9 u10 u11 u12 u13 u14 u15 u16 u17 u18 u19 u20 u21) P) : ok (bd22 x k) P := by
  obtain ⟨o, e, ho⟩ := h
  subst e
  cases o with
  | inl r => exact ⟨r, rfl, ho⟩
  | inr o => obtain ⟨u0, u1, u2, u3, u4, u5, u6, u7, u8, u9, u10, u11, u12, u13, u14, u15, u16, u17, u18, u19, u20, u21⟩ := o; exact hk u0 u1 u2 u3 u4 u5 u6 u7 u8 u9 u10 u11 u12 u13 u14 u15 u16 u17 u18 u19 u20 u21 ho
theorem ok_bn23 {ρ : Type} {a0 a1 a2 a3 a4 a5 a6 a7 a8 a9 a10 a11 a12 a13 a14 a15 a16 a17 a18 a19 a20 a21 a22 : Type} {x : Option (a0 × a1 × a2 × a3 × a4 × a5 × a6 × a7 × a8 × a9 × a10 × a11 × a12 × a13 × a14 × a15 × a16 × a17 × a18 × a19 × a20 × a21 × a22)} {k : a0 → a1 → a2 → a3 → a4 → a5 → a6 → a7 → a8 → a9 → a10 → a11 → a12 → a13 → a14 → a15 → a16 → a17 → a18 → a19 → a20 → a21 → a22 → Option ρ} {P : ρ → Prop} (Q : (a0 × a1 × a2 × a3 × a4 × a5 × a6 × a7 × a8 × a9 × a10 × a11 × a12 × a13 × a14 × a15 × a16 × a17 × a18 × a19 × a20 × a21 × a22) → Prop) (h : ok x Q) (hk : ∀ (u0 : a0) (u1 : a1) (u2 : a2) (u3 : a3) (u4 : a4) (u5 : a5) (u6 : a6) (u7 : a7) (u8 : a8) (u9 : a9) (u10 : a10) (u11 : a11) (u12 : a12) (u13 : a13) (u14 : a14) (u15 : a15) (u16 : a16) (u17 : a17) (u18 : a18) (u19 : a19) (u20 : a20) (u21 : a21) (u22 : a22), Q (u0, u1, u2, u3, u4, u5, u6, u7, u8, u9, u10, u11, u12, u13, u14, u15, u16, u17, u18, u19, u20, u21, u22) → ok (k u0 u1 u2 u3 u4 u5 u6 u7 u8 u9 u10 u11 u12 u13 u14 u15 u16 u17 u18 u19 u20 u21 u22) P) : ok (bn23 x k) P := by
  obtain ⟨o, e, ho⟩ := h
  subst e
  obtain ⟨u0, u1, u2, u3, u4, u5, u6, u7, u8, u9, u10, u11, u12, u13, u14, u15, u16, u17, u18, u19, u20, u21, u22⟩ := o; exact hk u0 u1 u2 u3 u4 u5 u6 u7 u8 u9 u10 u11 u12 u13 u14 u15 u16 u17 u18 u19 u20 u21 u22 ho
theorem ok_bd23 {ρ : Type} {a0 a1 a2 a3 a4 a5 a6 a7 a8 a9 a10 a11 a12 a13 a14 a15 a16 a17 a18 a19 a20 a21 a22 : Type} {x : Option (ρ ⊕ (a0 × a1 × a2 × a3 × a4 × a5 × a6 × a7 × a8 × a9 × a10 × a11 × a12 × a13 × a14 × a15 × a16 × a17 × a18 × a19 × a20 × a21 × a22))} {k : a0 → a1 → a2 → a3 → a4 → a5 → a6 → a7 → a8 → a9 → a10 → a11 → a12 → a13 → a14 → a15 → a16 → a17 → a18 → a19 → a20 → a21 → a22 → Option ρ} {P : ρ → Prop} (Q : (a0 × a1 × a2 × a3 × a4 × a5 × a6 × a7 × a8 × a9 × a10 × a11 × a12 × a13 × a14 × a15 × a16 × a17 × a18 × a19 × a20 × a21 × a22) → Prop) (h : ok x (Sum.elim P Q)) (hk : ∀ (u0 : a0) (u1 : a1) (u2 : a2) (u3 : a3) (u4 : a4) (u5 : a5) (u6 : a6) (u7 : a7) (u8 : a8) (u9 : a9) (u10 : a10) (u11 : a11) (u12 : a12) (u13 : a13) (u14 : a14) (u15 : a15) (u16 : a16) (u17 : a17) (u18 : a18) (u19 : a19) (u20 : a20) (u21 : a21) (u22 : a22), Q (u0, u1, u2, u3, u4, u5, u6, u7, u8, u9, u10, u11, u12, u13, u14, u15, u16, u17, u18, u19, u20, u21, u22) → ok (k u0 u1 u2 u3 u4 u5 u6 u7 u8 u9 u10 u11 u12 u13 u14 u15 u16 u17 u18 u19 u20 u21 u22) P) : ok (bd23 x k) P := by
  obtain ⟨o, e, ho⟩ := h
  subst e
  cases o with
  | inl r => exact ⟨r, rfl, ho⟩
  | inr o => obtain ⟨u0, u1, u2, u3, u4, u5, u6, u7, u8, u9, u10, u11, u12, u13, u14, u15, u16, u17, u18, u19, u20, u21, u22⟩ := o; exact hk u0 u1 u2 u3 u4 u5 u6 u7 u8 u9 u10 u11 u12 u13 u14 u15 u16 u17 u18 u19 u20 u21 u22 ho
theorem ok_bn24 {ρ : Type} {a0 a1 a2 a3 a4 a5 a6 a7 a8 a9 a10 a11 a12 a13 a14 a15 a16 a17 a18 a19 a20 a21 a22 a23 : Type} {x : Option (a0 × a1 × a2 × a3 × a4 × a5 × a6 × a7 × a8 × a9 × a10 × a11 × a12 × a13 × a14 × a15 × a16 × a17 × a18 × a19 × a20 × a21 × a22 × a23)} {k : a0 → a1 → a2 → a3 → a4 → a5 → a6 → a7 → a8 → a9 → a10 → a11 → a12 → a13 → a14 → a15 → a16 → a17 → a18 → a19 → a20 → a21 → a22 → a23 → Option ρ} {P : ρ → Prop} (Q : (a0 × a1 × a2 × a3 × a4 × a5 × a6 × a7 × a8 × a9 × a10 × a11 × a12 × a13 × a14 × a15 × a16 × a17 × a18 × a19 × a20 × a21 × a22 × a23) → Prop) (h : ok x Q) (hk : ∀ (u0 : a0) (u1 : a1) (u2 : a2) (u3 : a3) (u4 : a4) (u5 : a5) (u6 : a6) (u7 : a7) (u8 : a8) (u9 : a9) (u10 : a10) (u11 : a11) (u12 : a12) (u13 : a13) (u14 : a14) (u15 : a15) (u16 : a16) (u17 : a17) (u18 : a18) (u19 : a19) (u20 : a20) (u21 : a21) (u22 : a22) (u23 : a23), Q (u0, u1, u2, u3, u4, u5, u6, u7, u8, u9, u10, u11, u12, u13, u14, u15, u16, u17, u18, u19, u20, u21, u22, u23) → ok (k u0 u1 u2 u3 u4 u5 u6 u7 u8 u9 u10 u11 u12 u13 u14 u15 u16 u17 u18 u19 u20 u21 u22 u23) P) : ok (bn24 x k) P := by
  obtain ⟨o, e, ho⟩ := h
  subst e
  obtain ⟨u0, u1, u2, u3, u4, u5, u6, u7, u8, u9, u10, u11, u12, u13, u14, u15, u16, u17, u18, u19, u20, u21, u22, u23⟩ := o; exact hk u0 u1 u2 u3 u4 u5 u6 u7 u8 u9 u10 u11 u12 u13 u14 u15 u16 u17 u18 u19 u20 u21 u22 u23 ho
theorem ok_bd24 {ρ : Type} {a0 a1 a2 a3 a4 a5 a6 a7 a8 a9 a10 a11 a12 a13 a14 a15 a16 a17 a18 a19 a20 a21 a22 a23 : Type} {x : Option (ρ ⊕ (a0 × a1 × a2 × a3 × a4 × a5 × a6 × a7 × a8 × a9 × a10 × a11 × a12 × a13 × a14 × a15 × a16 × a17 × a18 × a19 × a20 × a21 × a22 × a23))} {k : a0 → a1 → a2 → a3 → a4 → a5 → a6 → a7 → a8 → a9 → a10 → a11 → a12 → a13 → a14 → a15 → a16 → a17 → a18 → a19 → a20 → a21 → a22 → a23 → Option ρ} {P : ρ → Prop} (Q : (a0 × a1 × a2 × a3 × a4 × a5 × a6 × a7 × a8 × a9 × a10 × a11 × a12 × a13 × a14 × a15 × a16 × a17 × a18 × a19 × a20 × a21 × a22 × a23) → Prop) (h : ok x (Sum.elim P Q)) (hk : ∀ (u0 : a0) (u1 : a1) (u2 : a2) (u3 : a3) (u4 : a4) (u5 : a5) (u6 : a6) (u7 : a7) (u8 : a8) (u9 : a9) (u10 : a10) (u11 : a11) (u12 : a12) (u13 : a13) (u14 : a14) (u15 : a15) (u16 : a16) (u17 : a17) (u18 : a18) (u19 : a19) (u20 : a20) (u21 : a21) (u22 : a22) (u23 : a23), Q (u0, u1, u2, u3, u4, u5, u6, u7, u8, u9, u10, u11, u12, u13, u14, u15, u16, u17, u18, u19, u20, u21, u22, u23) → ok (k u0 u1 u2 u3 u4 u5 u6 u7 u8 u9 u10 u11 u12 u13 u14 u15 u16 u17 u18 u19 u20 u21 u22 u23) P) : ok (bd24 x k) P := by
  obtain ⟨o, e, ho⟩ := h
  subst e
  cases o with
  | inl r => exact ⟨r, rfl, ho⟩
  | inr o => obtain ⟨u0, u1, u2, u3, u4, u5, u6, u7, u8, u9, u10, u11, u12, u13, u14, u15, u16, u17, u18, u19, u20, u21, u22, u23⟩ := o; exact hk u0 u1 u2 u3 u4 u5 u6 u7 u8 u9 u10 u11 u12 u13 u14 u15 u16 u17 u18 u19 u20 u21 u22 u23 ho
