/-! The base: combinators for the pure functions (nm: a name; gd: a bounds guard; bn, bd: what comes behind), and rows over the kit in one form for all methods. -/
def nm {α β : Type} (e : α) (k : α → β) : β := k e
theorem nm_nm {α β : Type} {e x : α} {k : α → β} {r : β} (ex : x = e) (hf : nm e k = r) : k x = r := by subst ex; exact hf
def gd {α : Type} (i : Int32) (n : Nat) (A : Option α) : Option α := if i < 0 ∨ n ≤ i.toNatClampNeg then none else A
theorem gd_in {α : Type} {i : Int32} {n : Nat} {A : Option α} {r : α} (h : gd i n A = some r) : vp_in i n := fun hc => by
  unfold gd at h
  rw [if_pos hc] at h
  cases h
theorem gd_el {α : Type} {i : Int32} {n : Nat} {A : Option α} {r : α} (h : gd i n A = some r) : A = some r := by
  have h2 : ¬ (i < 0 ∨ n ≤ i.toNatClampNeg) := gd_in h
  unfold gd at h
  rw [if_neg h2] at h
  exact h
def gz {α : Type} (c : Prop) [Decidable c] (A : Option α) : Option α := if c then none else A
theorem gz_in {α : Type} {c : Prop} [Decidable c] {A : Option α} {r : α} (h : gz c A = some r) : ¬ c := fun hc => by
  unfold gz at h
  rw [if_pos hc] at h
  cases h
theorem gz_el {α : Type} {c : Prop} [Decidable c] {A : Option α} {r : α} (h : gz c A = some r) : A = some r := by
  have h2 := gz_in h
  unfold gz at h
  rw [if_neg h2] at h
  exact h
def gb {α : Type} (v : Int32) (A : Option α) : Option α := if v = 0 ∨ v = 1 then A else none
theorem gb_in {α : Type} {v : Int32} {A : Option α} {r : α} (h : gb v A = some r) : v = 0 ∨ v = 1 := by
  by_cases hc : v = 0 ∨ v = 1
  · exact hc
  · unfold gb at h
    rw [if_neg hc] at h
    cases h
theorem gb_el {α : Type} {v : Int32} {A : Option α} {r : α} (h : gb v A = some r) : A = some r := by
  have h2 := gb_in h
  unfold gb at h
  rw [if_pos h2] at h
  exact h
theorem xb_t {α : Type} {c : Prop} [Decidable c] {A B r : α} (h : c) (hf : (if c then A else B) = r) : A = r := by rw [if_pos h] at hf; exact hf
theorem xb_f {α : Type} {c : Prop} [Decidable c] {A B r : α} (h : ¬ c) (hf : (if c then A else B) = r) : B = r := by rw [if_neg h] at hf; exact hf
def bn0 {ρ : Type} (x : Option Unit) (k : Option ρ) : Option ρ := match x with
  | none => none
  | some _ => k
theorem bn0_s {ρ : Type} {x : Option Unit} {k : Option ρ} {r : ρ} (h : bn0 x k = some r) : ∃ o : Unit, x = some o ∧ (some () = some o → k = some r) := by
  cases x with
  | none => cases h
  | some o => exact ⟨o, rfl, fun  e => by cases e; exact h⟩
theorem bn0_c {ρ : Type} {x : Option Unit} {k : Option ρ} {r : ρ} (h : bn0 x k = some r) : x = some () ∧ k = some r := by
  cases x with
  | none => cases h
  | some o => exact ⟨rfl, h⟩
def bd0 {ρ : Type} (x : Option (ρ ⊕ Unit)) (k : Option ρ) : Option ρ := match x with
  | none => none
  | some (.inl r) => some r
  | some (.inr _) => k
theorem bd0_s {ρ : Type} {x : Option (ρ ⊕ Unit)} {k : Option ρ} {r : ρ} (h : bd0 x k = some r) : ∃ o : ρ ⊕ Unit, x = some o ∧ (∀ z : ρ, some (Sum.inl z) = some o → z = r) ∧ (some (Sum.inr ()) = some o → k = some r) := by
  cases x with
  | none => cases h
  | some o => exact ⟨o, rfl, fun z e => by cases e; exact Option.some.inj h, fun  e => by cases e; exact h⟩
def bn1 {ρ : Type} {a0 : Type} (x : Option a0) (k : a0 → Option ρ) : Option ρ := match x with
  | none => none
  | some u0 => k u0
theorem bn1_s {ρ : Type} {a0 : Type} {x : Option a0} {k : a0 → Option ρ} {r : ρ} (h : bn1 x k = some r) : ∃ o : a0, x = some o ∧ (∀ (u0 : a0), some u0 = some o → k u0 = some r) := by
  cases x with
  | none => cases h
  | some o => exact ⟨o, rfl, fun u0 e => by cases e; exact h⟩
theorem bn1_c {ρ : Type} {a0 : Type} {x : Option a0} {k : a0 → Option ρ} {r : ρ} (h : bn1 x k = some r) : ∃ (u0 : a0), x = some u0 ∧ k u0 = some r := by
  cases x with
  | none => cases h
  | some o => exact ⟨o, rfl, h⟩
def bd1 {ρ : Type} {a0 : Type} (x : Option (ρ ⊕ a0)) (k : a0 → Option ρ) : Option ρ := match x with
  | none => none
  | some (.inl r) => some r
  | some (.inr u0) => k u0
theorem bd1_s {ρ : Type} {a0 : Type} {x : Option (ρ ⊕ a0)} {k : a0 → Option ρ} {r : ρ} (h : bd1 x k = some r) : ∃ o : ρ ⊕ a0, x = some o ∧ (∀ z : ρ, some (Sum.inl z) = some o → z = r) ∧ (∀ (u0 : a0), some (Sum.inr u0) = some o → k u0 = some r) := by
  cases x with
  | none => cases h
  | some o => exact ⟨o, rfl, fun z e => by cases e; exact Option.some.inj h, fun u0 e => by cases e; exact h⟩
def bn2 {ρ : Type} {a0 a1 : Type} (x : Option (a0 × a1)) (k : a0 → a1 → Option ρ) : Option ρ := match x with
  | none => none
  | some (u0, u1) => k u0 u1
theorem bn2_s {ρ : Type} {a0 a1 : Type} {x : Option (a0 × a1)} {k : a0 → a1 → Option ρ} {r : ρ} (h : bn2 x k = some r) : ∃ o : (a0 × a1), x = some o ∧ (∀ (u0 : a0) (u1 : a1), some (u0, u1) = some o → k u0 u1 = some r) := by
  cases x with
  | none => cases h
  | some o => exact ⟨o, rfl, fun u0 u1 e => by cases e; exact h⟩
theorem bn2_c {ρ : Type} {a0 a1 : Type} {x : Option (a0 × a1)} {k : a0 → a1 → Option ρ} {r : ρ} (h : bn2 x k = some r) : ∃ (u0 : a0) (u1 : a1), x = some (u0, u1) ∧ k u0 u1 = some r := by
  cases x with
  | none => cases h
  | some o => obtain ⟨u0, u1⟩ := o; exact ⟨u0, u1, rfl, h⟩
def bd2 {ρ : Type} {a0 a1 : Type} (x : Option (ρ ⊕ (a0 × a1))) (k : a0 → a1 → Option ρ) : Option ρ := match x with
  | none => none
  | some (.inl r) => some r
  | some (.inr (u0, u1)) => k u0 u1
theorem bd2_s {ρ : Type} {a0 a1 : Type} {x : Option (ρ ⊕ (a0 × a1))} {k : a0 → a1 → Option ρ} {r : ρ} (h : bd2 x k = some r) : ∃ o : ρ ⊕ (a0 × a1), x = some o ∧ (∀ z : ρ, some (Sum.inl z) = some o → z = r) ∧ (∀ (u0 : a0) (u1 : a1), some (Sum.inr (u0, u1)) = some o → k u0 u1 = some r) := by
  cases x with
  | none => cases h
  | some o => exact ⟨o, rfl, fun z e => by cases e; exact Option.some.inj h, fun u0 u1 e => by cases e; exact h⟩
def bn3 {ρ : Type} {a0 a1 a2 : Type} (x : Option (a0 × a1 × a2)) (k : a0 → a1 → a2 → Option ρ) : Option ρ := match x with
  | none => none
  | some (u0, u1, u2) => k u0 u1 u2
theorem bn3_s {ρ : Type} {a0 a1 a2 : Type} {x : Option (a0 × a1 × a2)} {k : a0 → a1 → a2 → Option ρ} {r : ρ} (h : bn3 x k = some r) : ∃ o : (a0 × a1 × a2), x = some o ∧ (∀ (u0 : a0) (u1 : a1) (u2 : a2), some (u0, u1, u2) = some o → k u0 u1 u2 = some r) := by
  cases x with
  | none => cases h
  | some o => exact ⟨o, rfl, fun u0 u1 u2 e => by cases e; exact h⟩
theorem bn3_c {ρ : Type} {a0 a1 a2 : Type} {x : Option (a0 × a1 × a2)} {k : a0 → a1 → a2 → Option ρ} {r : ρ} (h : bn3 x k = some r) : ∃ (u0 : a0) (u1 : a1) (u2 : a2), x = some (u0, u1, u2) ∧ k u0 u1 u2 = some r := by
  cases x with
  | none => cases h
  | some o => obtain ⟨u0, u1, u2⟩ := o; exact ⟨u0, u1, u2, rfl, h⟩
def bd3 {ρ : Type} {a0 a1 a2 : Type} (x : Option (ρ ⊕ (a0 × a1 × a2))) (k : a0 → a1 → a2 → Option ρ) : Option ρ := match x with
  | none => none
  | some (.inl r) => some r
  | some (.inr (u0, u1, u2)) => k u0 u1 u2
theorem bd3_s {ρ : Type} {a0 a1 a2 : Type} {x : Option (ρ ⊕ (a0 × a1 × a2))} {k : a0 → a1 → a2 → Option ρ} {r : ρ} (h : bd3 x k = some r) : ∃ o : ρ ⊕ (a0 × a1 × a2), x = some o ∧ (∀ z : ρ, some (Sum.inl z) = some o → z = r) ∧ (∀ (u0 : a0) (u1 : a1) (u2 : a2), some (Sum.inr (u0, u1, u2)) = some o → k u0 u1 u2 = some r) := by
  cases x with
  | none => cases h
  | some o => exact ⟨o, rfl, fun z e => by cases e; exact Option.some.inj h, fun u0 u1 u2 e => by cases e; exact h⟩
def bn4 {ρ : Type} {a0 a1 a2 a3 : Type} (x : Option (a0 × a1 × a2 × a3)) (k : a0 → a1 → a2 → a3 → Option ρ) : Option ρ := match x with
  | none => none
  | some (u0, u1, u2, u3) => k u0 u1 u2 u3
theorem bn4_s {ρ : Type} {a0 a1 a2 a3 : Type} {x : Option (a0 × a1 × a2 × a3)} {k : a0 → a1 → a2 → a3 → Option ρ} {r : ρ} (h : bn4 x k = some r) : ∃ o : (a0 × a1 × a2 × a3), x = some o ∧ (∀ (u0 : a0) (u1 : a1) (u2 : a2) (u3 : a3), some (u0, u1, u2, u3) = some o → k u0 u1 u2 u3 = some r) := by
  cases x with
  | none => cases h
  | some o => exact ⟨o, rfl, fun u0 u1 u2 u3 e => by cases e; exact h⟩
theorem bn4_c {ρ : Type} {a0 a1 a2 a3 : Type} {x : Option (a0 × a1 × a2 × a3)} {k : a0 → a1 → a2 → a3 → Option ρ} {r : ρ} (h : bn4 x k = some r) : ∃ (u0 : a0) (u1 : a1) (u2 : a2) (u3 : a3), x = some (u0, u1, u2, u3) ∧ k u0 u1 u2 u3 = some r := by
  cases x with
  | none => cases h
  | some o => obtain ⟨u0, u1, u2, u3⟩ := o; exact ⟨u0, u1, u2, u3, rfl, h⟩
def bd4 {ρ : Type} {a0 a1 a2 a3 : Type} (x : Option (ρ ⊕ (a0 × a1 × a2 × a3))) (k : a0 → a1 → a2 → a3 → Option ρ) : Option ρ := match x with
  | none => none
  | some (.inl r) => some r
  | some (.inr (u0, u1, u2, u3)) => k u0 u1 u2 u3
theorem bd4_s {ρ : Type} {a0 a1 a2 a3 : Type} {x : Option (ρ ⊕ (a0 × a1 × a2 × a3))} {k : a0 → a1 → a2 → a3 → Option ρ} {r : ρ} (h : bd4 x k = some r) : ∃ o : ρ ⊕ (a0 × a1 × a2 × a3), x = some o ∧ (∀ z : ρ, some (Sum.inl z) = some o → z = r) ∧ (∀ (u0 : a0) (u1 : a1) (u2 : a2) (u3 : a3), some (Sum.inr (u0, u1, u2, u3)) = some o → k u0 u1 u2 u3 = some r) := by
  cases x with
  | none => cases h
  | some o => exact ⟨o, rfl, fun z e => by cases e; exact Option.some.inj h, fun u0 u1 u2 u3 e => by cases e; exact h⟩
def bn5 {ρ : Type} {a0 a1 a2 a3 a4 : Type} (x : Option (a0 × a1 × a2 × a3 × a4)) (k : a0 → a1 → a2 → a3 → a4 → Option ρ) : Option ρ := match x with
  | none => none
  | some (u0, u1, u2, u3, u4) => k u0 u1 u2 u3 u4
theorem bn5_s {ρ : Type} {a0 a1 a2 a3 a4 : Type} {x : Option (a0 × a1 × a2 × a3 × a4)} {k : a0 → a1 → a2 → a3 → a4 → Option ρ} {r : ρ} (h : bn5 x k = some r) : ∃ o : (a0 × a1 × a2 × a3 × a4), x = some o ∧ (∀ (u0 : a0) (u1 : a1) (u2 : a2) (u3 : a3) (u4 : a4), some (u0, u1, u2, u3, u4) = some o → k u0 u1 u2 u3 u4 = some r) := by
  cases x with
  | none => cases h
  | some o => exact ⟨o, rfl, fun u0 u1 u2 u3 u4 e => by cases e; exact h⟩
theorem bn5_c {ρ : Type} {a0 a1 a2 a3 a4 : Type} {x : Option (a0 × a1 × a2 × a3 × a4)} {k : a0 → a1 → a2 → a3 → a4 → Option ρ} {r : ρ} (h : bn5 x k = some r) : ∃ (u0 : a0) (u1 : a1) (u2 : a2) (u3 : a3) (u4 : a4), x = some (u0, u1, u2, u3, u4) ∧ k u0 u1 u2 u3 u4 = some r := by
  cases x with
  | none => cases h
  | some o => obtain ⟨u0, u1, u2, u3, u4⟩ := o; exact ⟨u0, u1, u2, u3, u4, rfl, h⟩
def bd5 {ρ : Type} {a0 a1 a2 a3 a4 : Type} (x : Option (ρ ⊕ (a0 × a1 × a2 × a3 × a4))) (k : a0 → a1 → a2 → a3 → a4 → Option ρ) : Option ρ := match x with
  | none => none
  | some (.inl r) => some r
  | some (.inr (u0, u1, u2, u3, u4)) => k u0 u1 u2 u3 u4
theorem bd5_s {ρ : Type} {a0 a1 a2 a3 a4 : Type} {x : Option (ρ ⊕ (a0 × a1 × a2 × a3 × a4))} {k : a0 → a1 → a2 → a3 → a4 → Option ρ} {r : ρ} (h : bd5 x k = some r) : ∃ o : ρ ⊕ (a0 × a1 × a2 × a3 × a4), x = some o ∧ (∀ z : ρ, some (Sum.inl z) = some o → z = r) ∧ (∀ (u0 : a0) (u1 : a1) (u2 : a2) (u3 : a3) (u4 : a4), some (Sum.inr (u0, u1, u2, u3, u4)) = some o → k u0 u1 u2 u3 u4 = some r) := by
  cases x with
  | none => cases h
  | some o => exact ⟨o, rfl, fun z e => by cases e; exact Option.some.inj h, fun u0 u1 u2 u3 u4 e => by cases e; exact h⟩
def bn6 {ρ : Type} {a0 a1 a2 a3 a4 a5 : Type} (x : Option (a0 × a1 × a2 × a3 × a4 × a5)) (k : a0 → a1 → a2 → a3 → a4 → a5 → Option ρ) : Option ρ := match x with
  | none => none
  | some (u0, u1, u2, u3, u4, u5) => k u0 u1 u2 u3 u4 u5
theorem bn6_s {ρ : Type} {a0 a1 a2 a3 a4 a5 : Type} {x : Option (a0 × a1 × a2 × a3 × a4 × a5)} {k : a0 → a1 → a2 → a3 → a4 → a5 → Option ρ} {r : ρ} (h : bn6 x k = some r) : ∃ o : (a0 × a1 × a2 × a3 × a4 × a5), x = some o ∧ (∀ (u0 : a0) (u1 : a1) (u2 : a2) (u3 : a3) (u4 : a4) (u5 : a5), some (u0, u1, u2, u3, u4, u5) = some o → k u0 u1 u2 u3 u4 u5 = some r) := by
  cases x with
  | none => cases h
  | some o => exact ⟨o, rfl, fun u0 u1 u2 u3 u4 u5 e => by cases e; exact h⟩
theorem bn6_c {ρ : Type} {a0 a1 a2 a3 a4 a5 : Type} {x : Option (a0 × a1 × a2 × a3 × a4 × a5)} {k : a0 → a1 → a2 → a3 → a4 → a5 → Option ρ} {r : ρ} (h : bn6 x k = some r) : ∃ (u0 : a0) (u1 : a1) (u2 : a2) (u3 : a3) (u4 : a4) (u5 : a5), x = some (u0, u1, u2, u3, u4, u5) ∧ k u0 u1 u2 u3 u4 u5 = some r := by
  cases x with
  | none => cases h
  | some o => obtain ⟨u0, u1, u2, u3, u4, u5⟩ := o; exact ⟨u0, u1, u2, u3, u4, u5, rfl, h⟩
def bd6 {ρ : Type} {a0 a1 a2 a3 a4 a5 : Type} (x : Option (ρ ⊕ (a0 × a1 × a2 × a3 × a4 × a5))) (k : a0 → a1 → a2 → a3 → a4 → a5 → Option ρ) : Option ρ := match x with
  | none => none
  | some (.inl r) => some r
  | some (.inr (u0, u1, u2, u3, u4, u5)) => k u0 u1 u2 u3 u4 u5
theorem bd6_s {ρ : Type} {a0 a1 a2 a3 a4 a5 : Type} {x : Option (ρ ⊕ (a0 × a1 × a2 × a3 × a4 × a5))} {k : a0 → a1 → a2 → a3 → a4 → a5 → Option ρ} {r : ρ} (h : bd6 x k = some r) : ∃ o : ρ ⊕ (a0 × a1 × a2 × a3 × a4 × a5), x = some o ∧ (∀ z : ρ, some (Sum.inl z) = some o → z = r) ∧ (∀ (u0 : a0) (u1 : a1) (u2 : a2) (u3 : a3) (u4 : a4) (u5 : a5), some (Sum.inr (u0, u1, u2, u3, u4, u5)) = some o → k u0 u1 u2 u3 u4 u5 = some r) := by
  cases x with
  | none => cases h
  | some o => exact ⟨o, rfl, fun z e => by cases e; exact Option.some.inj h, fun u0 u1 u2 u3 u4 u5 e => by cases e; exact h⟩
def bn7 {ρ : Type} {a0 a1 a2 a3 a4 a5 a6 : Type} (x : Option (a0 × a1 × a2 × a3 × a4 × a5 × a6)) (k : a0 → a1 → a2 → a3 → a4 → a5 → a6 → Option ρ) : Option ρ := match x with
  | none => none
  | some (u0, u1, u2, u3, u4, u5, u6) => k u0 u1 u2 u3 u4 u5 u6
theorem bn7_s {ρ : Type} {a0 a1 a2 a3 a4 a5 a6 : Type} {x : Option (a0 × a1 × a2 × a3 × a4 × a5 × a6)} {k : a0 → a1 → a2 → a3 → a4 → a5 → a6 → Option ρ} {r : ρ} (h : bn7 x k = some r) : ∃ o : (a0 × a1 × a2 × a3 × a4 × a5 × a6), x = some o ∧ (∀ (u0 : a0) (u1 : a1) (u2 : a2) (u3 : a3) (u4 : a4) (u5 : a5) (u6 : a6), some (u0, u1, u2, u3, u4, u5, u6) = some o → k u0 u1 u2 u3 u4 u5 u6 = some r) := by
  cases x with
  | none => cases h
  | some o => exact ⟨o, rfl, fun u0 u1 u2 u3 u4 u5 u6 e => by cases e; exact h⟩
theorem bn7_c {ρ : Type} {a0 a1 a2 a3 a4 a5 a6 : Type} {x : Option (a0 × a1 × a2 × a3 × a4 × a5 × a6)} {k : a0 → a1 → a2 → a3 → a4 → a5 → a6 → Option ρ} {r : ρ} (h : bn7 x k = some r) : ∃ (u0 : a0) (u1 : a1) (u2 : a2) (u3 : a3) (u4 : a4) (u5 : a5) (u6 : a6), x = some (u0, u1, u2, u3, u4, u5, u6) ∧ k u0 u1 u2 u3 u4 u5 u6 = some r := by
  cases x with
  | none => cases h
  | some o => obtain ⟨u0, u1, u2, u3, u4, u5, u6⟩ := o; exact ⟨u0, u1, u2, u3, u4, u5, u6, rfl, h⟩
def bd7 {ρ : Type} {a0 a1 a2 a3 a4 a5 a6 : Type} (x : Option (ρ ⊕ (a0 × a1 × a2 × a3 × a4 × a5 × a6))) (k : a0 → a1 → a2 → a3 → a4 → a5 → a6 → Option ρ) : Option ρ := match x with
  | none => none
  | some (.inl r) => some r
  | some (.inr (u0, u1, u2, u3, u4, u5, u6)) => k u0 u1 u2 u3 u4 u5 u6
theorem bd7_s {ρ : Type} {a0 a1 a2 a3 a4 a5 a6 : Type} {x : Option (ρ ⊕ (a0 × a1 × a2 × a3 × a4 × a5 × a6))} {k : a0 → a1 → a2 → a3 → a4 → a5 → a6 → Option ρ} {r : ρ} (h : bd7 x k = some r) : ∃ o : ρ ⊕ (a0 × a1 × a2 × a3 × a4 × a5 × a6), x = some o ∧ (∀ z : ρ, some (Sum.inl z) = some o → z = r) ∧ (∀ (u0 : a0) (u1 : a1) (u2 : a2) (u3 : a3) (u4 : a4) (u5 : a5) (u6 : a6), some (Sum.inr (u0, u1, u2, u3, u4, u5, u6)) = some o → k u0 u1 u2 u3 u4 u5 u6 = some r) := by
  cases x with
  | none => cases h
  | some o => exact ⟨o, rfl, fun z e => by cases e; exact Option.some.inj h, fun u0 u1 u2 u3 u4 u5 u6 e => by cases e; exact h⟩
def bn8 {ρ : Type} {a0 a1 a2 a3 a4 a5 a6 a7 : Type} (x : Option (a0 × a1 × a2 × a3 × a4 × a5 × a6 × a7)) (k : a0 → a1 → a2 → a3 → a4 → a5 → a6 → a7 → Option ρ) : Option ρ := match x with
  | none => none
  | some (u0, u1, u2, u3, u4, u5, u6, u7) => k u0 u1 u2 u3 u4 u5 u6 u7
theorem bn8_s {ρ : Type} {a0 a1 a2 a3 a4 a5 a6 a7 : Type} {x : Option (a0 × a1 × a2 × a3 × a4 × a5 × a6 × a7)} {k : a0 → a1 → a2 → a3 → a4 → a5 → a6 → a7 → Option ρ} {r : ρ} (h : bn8 x k = some r) : ∃ o : (a0 × a1 × a2 × a3 × a4 × a5 × a6 × a7), x = some o ∧ (∀ (u0 : a0) (u1 : a1) (u2 : a2) (u3 : a3) (u4 : a4) (u5 : a5) (u6 : a6) (u7 : a7), some (u0, u1, u2, u3, u4, u5, u6, u7) = some o → k u0 u1 u2 u3 u4 u5 u6 u7 = some r) := by
  cases x with
  | none => cases h
  | some o => exact ⟨o, rfl, fun u0 u1 u2 u3 u4 u5 u6 u7 e => by cases e; exact h⟩
theorem bn8_c {ρ : Type} {a0 a1 a2 a3 a4 a5 a6 a7 : Type} {x : Option (a0 × a1 × a2 × a3 × a4 × a5 × a6 × a7)} {k : a0 → a1 → a2 → a3 → a4 → a5 → a6 → a7 → Option ρ} {r : ρ} (h : bn8 x k = some r) : ∃ (u0 : a0) (u1 : a1) (u2 : a2) (u3 : a3) (u4 : a4) (u5 : a5) (u6 : a6) (u7 : a7), x = some (u0, u1, u2, u3, u4, u5, u6, u7) ∧ k u0 u1 u2 u3 u4 u5 u6 u7 = some r := by
  cases x with
  | none => cases h
  | some o => obtain ⟨u0, u1, u2, u3, u4, u5, u6, u7⟩ := o; exact ⟨u0, u1, u2, u3, u4, u5, u6, u7, rfl, h⟩
def bd8 {ρ : Type} {a0 a1 a2 a3 a4 a5 a6 a7 : Type} (x : Option (ρ ⊕ (a0 × a1 × a2 × a3 × a4 × a5 × a6 × a7))) (k : a0 → a1 → a2 → a3 → a4 → a5 → a6 → a7 → Option ρ) : Option ρ := match x with
  | none => none
  | some (.inl r) => some r
  | some (.inr (u0, u1, u2, u3, u4, u5, u6, u7)) => k u0 u1 u2 u3 u4 u5 u6 u7
theorem bd8_s {ρ : Type} {a0 a1 a2 a3 a4 a5 a6 a7 : Type} {x : Option (ρ ⊕ (a0 × a1 × a2 × a3 × a4 × a5 × a6 × a7))} {k : a0 → a1 → a2 → a3 → a4 → a5 → a6 → a7 → Option ρ} {r : ρ} (h : bd8 x k = some r) : ∃ o : ρ ⊕ (a0 × a1 × a2 × a3 × a4 × a5 × a6 × a7), x = some o ∧ (∀ z : ρ, some (Sum.inl z) = some o → z = r) ∧ (∀ (u0 : a0) (u1 : a1) (u2 : a2) (u3 : a3) (u4 : a4) (u5 : a5) (u6 : a6) (u7 : a7), some (Sum.inr (u0, u1, u2, u3, u4, u5, u6, u7)) = some o → k u0 u1 u2 u3 u4 u5 u6 u7 = some r) := by
  cases x with
  | none => cases h
  | some o => exact ⟨o, rfl, fun z e => by cases e; exact Option.some.inj h, fun u0 u1 u2 u3 u4 u5 u6 u7 e => by cases e; exact h⟩
def bn9 {ρ : Type} {a0 a1 a2 a3 a4 a5 a6 a7 a8 : Type} (x : Option (a0 × a1 × a2 × a3 × a4 × a5 × a6 × a7 × a8)) (k : a0 → a1 → a2 → a3 → a4 → a5 → a6 → a7 → a8 → Option ρ) : Option ρ := match x with
  | none => none
  | some (u0, u1, u2, u3, u4, u5, u6, u7, u8) => k u0 u1 u2 u3 u4 u5 u6 u7 u8
theorem bn9_s {ρ : Type} {a0 a1 a2 a3 a4 a5 a6 a7 a8 : Type} {x : Option (a0 × a1 × a2 × a3 × a4 × a5 × a6 × a7 × a8)} {k : a0 → a1 → a2 → a3 → a4 → a5 → a6 → a7 → a8 → Option ρ} {r : ρ} (h : bn9 x k = some r) : ∃ o : (a0 × a1 × a2 × a3 × a4 × a5 × a6 × a7 × a8), x = some o ∧ (∀ (u0 : a0) (u1 : a1) (u2 : a2) (u3 : a3) (u4 : a4) (u5 : a5) (u6 : a6) (u7 : a7) (u8 : a8), some (u0, u1, u2, u3, u4, u5, u6, u7, u8) = some o → k u0 u1 u2 u3 u4 u5 u6 u7 u8 = some r) := by
  cases x with
  | none => cases h
  | some o => exact ⟨o, rfl, fun u0 u1 u2 u3 u4 u5 u6 u7 u8 e => by cases e; exact h⟩
theorem bn9_c {ρ : Type} {a0 a1 a2 a3 a4 a5 a6 a7 a8 : Type} {x : Option (a0 × a1 × a2 × a3 × a4 × a5 × a6 × a7 × a8)} {k : a0 → a1 → a2 → a3 → a4 → a5 → a6 → a7 → a8 → Option ρ} {r : ρ} (h : bn9 x k = some r) : ∃ (u0 : a0) (u1 : a1) (u2 : a2) (u3 : a3) (u4 : a4) (u5 : a5) (u6 : a6) (u7 : a7) (u8 : a8), x = some (u0, u1, u2, u3, u4, u5, u6, u7, u8) ∧ k u0 u1 u2 u3 u4 u5 u6 u7 u8 = some r := by
  cases x with
  | none => cases h
  | some o => obtain ⟨u0, u1, u2, u3, u4, u5, u6, u7, u8⟩ := o; exact ⟨u0, u1, u2, u3, u4, u5, u6, u7, u8, rfl, h⟩
def bd9 {ρ : Type} {a0 a1 a2 a3 a4 a5 a6 a7 a8 : Type} (x : Option (ρ ⊕ (a0 × a1 × a2 × a3 × a4 × a5 × a6 × a7 × a8))) (k : a0 → a1 → a2 → a3 → a4 → a5 → a6 → a7 → a8 → Option ρ) : Option ρ := match x with
  | none => none
  | some (.inl r) => some r
  | some (.inr (u0, u1, u2, u3, u4, u5, u6, u7, u8)) => k u0 u1 u2 u3 u4 u5 u6 u7 u8
theorem bd9_s {ρ : Type} {a0 a1 a2 a3 a4 a5 a6 a7 a8 : Type} {x : Option (ρ ⊕ (a0 × a1 × a2 × a3 × a4 × a5 × a6 × a7 × a8))} {k : a0 → a1 → a2 → a3 → a4 → a5 → a6 → a7 → a8 → Option ρ} {r : ρ} (h : bd9 x k = some r) : ∃ o : ρ ⊕ (a0 × a1 × a2 × a3 × a4 × a5 × a6 × a7 × a8), x = some o ∧ (∀ z : ρ, some (Sum.inl z) = some o → z = r) ∧ (∀ (u0 : a0) (u1 : a1) (u2 : a2) (u3 : a3) (u4 : a4) (u5 : a5) (u6 : a6) (u7 : a7) (u8 : a8), some (Sum.inr (u0, u1, u2, u3, u4, u5, u6, u7, u8)) = some o → k u0 u1 u2 u3 u4 u5 u6 u7 u8 = some r) := by
  cases x with
  | none => cases h
  | some o => exact ⟨o, rfl, fun z e => by cases e; exact Option.some.inj h, fun u0 u1 u2 u3 u4 u5 u6 u7 u8 e => by cases e; exact h⟩
def bn10 {ρ : Type} {a0 a1 a2 a3 a4 a5 a6 a7 a8 a9 : Type} (x : Option (a0 × a1 × a2 × a3 × a4 × a5 × a6 × a7 × a8 × a9)) (k : a0 → a1 → a2 → a3 → a4 → a5 → a6 → a7 → a8 → a9 → Option ρ) : Option ρ := match x with
  | none => none
  | some (u0, u1, u2, u3, u4, u5, u6, u7, u8, u9) => k u0 u1 u2 u3 u4 u5 u6 u7 u8 u9
theorem bn10_s {ρ : Type} {a0 a1 a2 a3 a4 a5 a6 a7 a8 a9 : Type} {x : Option (a0 × a1 × a2 × a3 × a4 × a5 × a6 × a7 × a8 × a9)} {k : a0 → a1 → a2 → a3 → a4 → a5 → a6 → a7 → a8 → a9 → Option ρ} {r : ρ} (h : bn10 x k = some r) : ∃ o : (a0 × a1 × a2 × a3 × a4 × a5 × a6 × a7 × a8 × a9), x = some o ∧ (∀ (u0 : a0) (u1 : a1) (u2 : a2) (u3 : a3) (u4 : a4) (u5 : a5) (u6 : a6) (u7 : a7) (u8 : a8) (u9 : a9), some (u0, u1, u2, u3, u4, u5, u6, u7, u8, u9) = some o → k u0 u1 u2 u3 u4 u5 u6 u7 u8 u9 = some r) := by
  cases x with
  | none => cases h
  | some o => exact ⟨o, rfl, fun u0 u1 u2 u3 u4 u5 u6 u7 u8 u9 e => by cases e; exact h⟩
theorem bn10_c {ρ : Type} {a0 a1 a2 a3 a4 a5 a6 a7 a8 a9 : Type} {x : Option (a0 × a1 × a2 × a3 × a4 × a5 × a6 × a7 × a8 × a9)} {k : a0 → a1 → a2 → a3 → a4 → a5 → a6 → a7 → a8 → a9 → Option ρ} {r : ρ} (h : bn10 x k = some r) : ∃ (u0 : a0) (u1 : a1) (u2 : a2) (u3 : a3) (u4 : a4) (u5 : a5) (u6 : a6) (u7 : a7) (u8 : a8) (u9 : a9), x = some (u0, u1, u2, u3, u4, u5, u6, u7, u8, u9) ∧ k u0 u1 u2 u3 u4 u5 u6 u7 u8 u9 = some r := by
  cases x with
  | none => cases h
  | some o => obtain ⟨u0, u1, u2, u3, u4, u5, u6, u7, u8, u9⟩ := o; exact ⟨u0, u1, u2, u3, u4, u5, u6, u7, u8, u9, rfl, h⟩
def bd10 {ρ : Type} {a0 a1 a2 a3 a4 a5 a6 a7 a8 a9 : Type} (x : Option (ρ ⊕ (a0 × a1 × a2 × a3 × a4 × a5 × a6 × a7 × a8 × a9))) (k : a0 → a1 → a2 → a3 → a4 → a5 → a6 → a7 → a8 → a9 → Option ρ) : Option ρ := match x with
  | none => none
  | some (.inl r) => some r
  | some (.inr (u0, u1, u2, u3, u4, u5, u6, u7, u8, u9)) => k u0 u1 u2 u3 u4 u5 u6 u7 u8 u9
theorem bd10_s {ρ : Type} {a0 a1 a2 a3 a4 a5 a6 a7 a8 a9 : Type} {x : Option (ρ ⊕ (a0 × a1 × a2 × a3 × a4 × a5 × a6 × a7 × a8 × a9))} {k : a0 → a1 → a2 → a3 → a4 → a5 → a6 → a7 → a8 → a9 → Option ρ} {r : ρ} (h : bd10 x k = some r) : ∃ o : ρ ⊕ (a0 × a1 × a2 × a3 × a4 × a5 × a6 × a7 × a8 × a9), x = some o ∧ (∀ z : ρ, some (Sum.inl z) = some o → z = r) ∧ (∀ (u0 : a0) (u1 : a1) (u2 : a2) (u3 : a3) (u4 : a4) (u5 : a5) (u6 : a6) (u7 : a7) (u8 : a8) (u9 : a9), some (Sum.inr (u0, u1, u2, u3, u4, u5, u6, u7, u8, u9)) = some o → k u0 u1 u2 u3 u4 u5 u6 u7 u8 u9 = some r) := by
  cases x with
  | none => cases h
  | some o => exact ⟨o, rfl, fun z e => by cases e; exact Option.some.inj h, fun u0 u1 u2 u3 u4 u5 u6 u7 u8 u9 e => by cases e; exact h⟩
def bn11 {ρ : Type} {a0 a1 a2 a3 a4 a5 a6 a7 a8 a9 a10 : Type} (x : Option (a0 × a1 × a2 × a3 × a4 × a5 × a6 × a7 × a8 × a9 × a10)) (k : a0 → a1 → a2 → a3 → a4 → a5 → a6 → a7 → a8 → a9 → a10 → Option ρ) : Option ρ := match x with
  | none => none
  | some (u0, u1, u2, u3, u4, u5, u6, u7, u8, u9, u10) => k u0 u1 u2 u3 u4 u5 u6 u7 u8 u9 u10
theorem bn11_s {ρ : Type} {a0 a1 a2 a3 a4 a5 a6 a7 a8 a9 a10 : Type} {x : Option (a0 × a1 × a2 × a3 × a4 × a5 × a6 × a7 × a8 × a9 × a10)} {k : a0 → a1 → a2 → a3 → a4 → a5 → a6 → a7 → a8 → a9 → a10 → Option ρ} {r : ρ} (h : bn11 x k = some r) : ∃ o : (a0 × a1 × a2 × a3 × a4 × a5 × a6 × a7 × a8 × a9 × a10), x = some o ∧ (∀ (u0 : a0) (u1 : a1) (u2 : a2) (u3 : a3) (u4 : a4) (u5 : a5) (u6 : a6) (u7 : a7) (u8 : a8) (u9 : a9) (u10 : a10), some (u0, u1, u2, u3, u4, u5, u6, u7, u8, u9, u10) = some o → k u0 u1 u2 u3 u4 u5 u6 u7 u8 u9 u10 = some r) := by
  cases x with
  | none => cases h
  | some o => exact ⟨o, rfl, fun u0 u1 u2 u3 u4 u5 u6 u7 u8 u9 u10 e => by cases e; exact h⟩
theorem bn11_c {ρ : Type} {a0 a1 a2 a3 a4 a5 a6 a7 a8 a9 a10 : Type} {x : Option (a0 × a1 × a2 × a3 × a4 × a5 × a6 × a7 × a8 × a9 × a10)} {k : a0 → a1 → a2 → a3 → a4 → a5 → a6 → a7 → a8 → a9 → a10 → Option ρ} {r : ρ} (h : bn11 x k = some r) : ∃ (u0 : a0) (u1 : a1) (u2 : a2) (u3 : a3) (u4 : a4) (u5 : a5) (u6 : a6) (u7 : a7) (u8 : a8) (u9 : a9) (u10 : a10), x = some (u0, u1, u2, u3, u4, u5, u6, u7, u8, u9, u10) ∧ k u0 u1 u2 u3 u4 u5 u6 u7 u8 u9 u10 = some r := by
  cases x with
  | none => cases h
  | some o => obtain ⟨u0, u1, u2, u3, u4, u5, u6, u7, u8, u9, u10⟩ := o; exact ⟨u0, u1, u2, u3, u4, u5, u6, u7, u8, u9, u10, rfl, h⟩
def bd11 {ρ : Type} {a0 a1 a2 a3 a4 a5 a6 a7 a8 a9 a10 : Type} (x : Option (ρ ⊕ (a0 × a1 × a2 × a3 × a4 × a5 × a6 × a7 × a8 × a9 × a10))) (k : a0 → a1 → a2 → a3 → a4 → a5 → a6 → a7 → a8 → a9 → a10 → Option ρ) : Option ρ := match x with
  | none => none
  | some (.inl r) => some r
  | some (.inr (u0, u1, u2, u3, u4, u5, u6, u7, u8, u9, u10)) => k u0 u1 u2 u3 u4 u5 u6 u7 u8 u9 u10
theorem bd11_s {ρ : Type} {a0 a1 a2 a3 a4 a5 a6 a7 a8 a9 a10 : Type} {x : Option (ρ ⊕ (a0 × a1 × a2 × a3 × a4 × a5 × a6 × a7 × a8 × a9 × a10))} {k : a0 → a1 → a2 → a3 → a4 → a5 → a6 → a7 → a8 → a9 → a10 → Option ρ} {r : ρ} (h : bd11 x k = some r) : ∃ o : ρ ⊕ (a0 × a1 × a2 × a3 × a4 × a5 × a6 × a7 × a8 × a9 × a10), x = some o ∧ (∀ z : ρ, some (Sum.inl z) = some o → z = r) ∧ (∀ (u0 : a0) (u1 : a1) (u2 : a2) (u3 : a3) (u4 : a4) (u5 : a5) (u6 : a6) (u7 : a7) (u8 : a8) (u9 : a9) (u10 : a10), some (Sum.inr (u0, u1, u2, u3, u4, u5, u6, u7, u8, u9, u10)) = some o → k u0 u1 u2 u3 u4 u5 u6 u7 u8 u9 u10 = some r) := by
  cases x with
  | none => cases h
  | some o => exact ⟨o, rfl, fun z e => by cases e; exact Option.some.inj h, fun u0 u1 u2 u3 u4 u5 u6 u7 u8 u9 u10 e => by cases e; exact h⟩
def bn12 {ρ : Type} {a0 a1 a2 a3 a4 a5 a6 a7 a8 a9 a10 a11 : Type} (x : Option (a0 × a1 × a2 × a3 × a4 × a5 × a6 × a7 × a8 × a9 × a10 × a11)) (k : a0 → a1 → a2 → a3 → a4 → a5 → a6 → a7 → a8 → a9 → a10 → a11 → Option ρ) : Option ρ := match x with
  | none => none
  | some (u0, u1, u2, u3, u4, u5, u6, u7, u8, u9, u10, u11) => k u0 u1 u2 u3 u4 u5 u6 u7 u8 u9 u10 u11
theorem bn12_s {ρ : Type} {a0 a1 a2 a3 a4 a5 a6 a7 a8 a9 a10 a11 : Type} {x : Option (a0 × a1 × a2 × a3 × a4 × a5 × a6 × a7 × a8 × a9 × a10 × a11)} {k : a0 → a1 → a2 → a3 → a4 → a5 → a6 → a7 → a8 → a9 → a10 → a11 → Option ρ} {r : ρ} (h : bn12 x k = some r) : ∃ o : (a0 × a1 × a2 × a3 × a4 × a5 × a6 × a7 × a8 × a9 × a10 × a11), x = some o ∧ (∀ (u0 : a0) (u1 : a1) (u2 : a2) (u3 : a3) (u4 : a4) (u5 : a5) (u6 : a6) (u7 : a7) (u8 : a8) (u9 : a9) (u10 : a10) (u11 : a11), some (u0, u1, u2, u3, u4, u5, u6, u7, u8, u9, u10, u11) = some o → k u0 u1 u2 u3 u4 u5 u6 u7 u8 u9 u10 u11 = some r) := by
  cases x with
  | none => cases h
  | some o => exact ⟨o, rfl, fun u0 u1 u2 u3 u4 u5 u6 u7 u8 u9 u10 u11 e => by cases e; exact h⟩
theorem bn12_c {ρ : Type} {a0 a1 a2 a3 a4 a5 a6 a7 a8 a9 a10 a11 : Type} {x : Option (a0 × a1 × a2 × a3 × a4 × a5 × a6 × a7 × a8 × a9 × a10 × a11)} {k : a0 → a1 → a2 → a3 → a4 → a5 → a6 → a7 → a8 → a9 → a10 → a11 → Option ρ} {r : ρ} (h : bn12 x k = some r) : ∃ (u0 : a0) (u1 : a1) (u2 : a2) (u3 : a3) (u4 : a4) (u5 : a5) (u6 : a6) (u7 : a7) (u8 : a8) (u9 : a9) (u10 : a10) (u11 : a11), x = some (u0, u1, u2, u3, u4, u5, u6, u7, u8, u9, u10, u11) ∧ k u0 u1 u2 u3 u4 u5 u6 u7 u8 u9 u10 u11 = some r := by
  cases x with
  | none => cases h
  | some o => obtain ⟨u0, u1, u2, u3, u4, u5, u6, u7, u8, u9, u10, u11⟩ := o; exact ⟨u0, u1, u2, u3, u4, u5, u6, u7, u8, u9, u10, u11, rfl, h⟩
def bd12 {ρ : Type} {a0 a1 a2 a3 a4 a5 a6 a7 a8 a9 a10 a11 : Type} (x : Option (ρ ⊕ (a0 × a1 × a2 × a3 × a4 × a5 × a6 × a7 × a8 × a9 × a10 × a11))) (k : a0 → a1 → a2 → a3 → a4 → a5 → a6 → a7 → a8 → a9 → a10 → a11 → Option ρ) : Option ρ := match x with
  | none => none
  | some (.inl r) => some r
  | some (.inr (u0, u1, u2, u3, u4, u5, u6, u7, u8, u9, u10, u11)) => k u0 u1 u2 u3 u4 u5 u6 u7 u8 u9 u10 u11
theorem bd12_s {ρ : Type} {a0 a1 a2 a3 a4 a5 a6 a7 a8 a9 a10 a11 : Type} {x : Option (ρ ⊕ (a0 × a1 × a2 × a3 × a4 × a5 × a6 × a7 × a8 × a9 × a10 × a11))} {k : a0 → a1 → a2 → a3 → a4 → a5 → a6 → a7 → a8 → a9 → a10 → a11 → Option ρ} {r : ρ} (h : bd12 x k = some r) : ∃ o : ρ ⊕ (a0 × a1 × a2 × a3 × a4 × a5 × a6 × a7 × a8 × a9 × a10 × a11), x = some o ∧ (∀ z : ρ, some (Sum.inl z) = some o → z = r) ∧ (∀ (u0 : a0) (u1 : a1) (u2 : a2) (u3 : a3) (u4 : a4) (u5 : a5) (u6 : a6) (u7 : a7) (u8 : a8) (u9 : a9) (u10 : a10) (u11 : a11), some (Sum.inr (u0, u1, u2, u3, u4, u5, u6, u7, u8, u9, u10, u11)) = some o → k u0 u1 u2 u3 u4 u5 u6 u7 u8 u9 u10 u11 = some r) := by
  cases x with
  | none => cases h
  | some o => exact ⟨o, rfl, fun z e => by cases e; exact Option.some.inj h, fun u0 u1 u2 u3 u4 u5 u6 u7 u8 u9 u10 u11 e => by cases e; exact h⟩
def bn13 {ρ : Type} {a0 a1 a2 a3 a4 a5 a6 a7 a8 a9 a10 a11 a12 : Type} (x : Option (a0 × a1 × a2 × a3 × a4 × a5 × a6 × a7 × a8 × a9 × a10 × a11 × a12)) (k : a0 → a1 → a2 → a3 → a4 → a5 → a6 → a7 → a8 → a9 → a10 → a11 → a12 → Option ρ) : Option ρ := match x with
  | none => none
  | some (u0, u1, u2, u3, u4, u5, u6, u7, u8, u9, u10, u11, u12) => k u0 u1 u2 u3 u4 u5 u6 u7 u8 u9 u10 u11 u12
theorem bn13_s {ρ : Type} {a0 a1 a2 a3 a4 a5 a6 a7 a8 a9 a10 a11 a12 : Type} {x : Option (a0 × a1 × a2 × a3 × a4 × a5 × a6 × a7 × a8 × a9 × a10 × a11 × a12)} {k : a0 → a1 → a2 → a3 → a4 → a5 → a6 → a7 → a8 → a9 → a10 → a11 → a12 → Option ρ} {r : ρ} (h : bn13 x k = some r) : ∃ o : (a0 × a1 × a2 × a3 × a4 × a5 × a6 × a7 × a8 × a9 × a10 × a11 × a12), x = some o ∧ (∀ (u0 : a0) (u1 : a1) (u2 : a2) (u3 : a3) (u4 : a4) (u5 : a5) (u6 : a6) (u7 : a7) (u8 : a8) (u9 : a9) (u10 : a10) (u11 : a11) (u12 : a12), some (u0, u1, u2, u3, u4, u5, u6, u7, u8, u9, u10, u11, u12) = some o → k u0 u1 u2 u3 u4 u5 u6 u7 u8 u9 u10 u11 u12 = some r) := by
  cases x with
  | none => cases h
  | some o => exact ⟨o, rfl, fun u0 u1 u2 u3 u4 u5 u6 u7 u8 u9 u10 u11 u12 e => by cases e; exact h⟩
theorem bn13_c {ρ : Type} {a0 a1 a2 a3 a4 a5 a6 a7 a8 a9 a10 a11 a12 : Type} {x : Option (a0 × a1 × a2 × a3 × a4 × a5 × a6 × a7 × a8 × a9 × a10 × a11 × a12)} {k : a0 → a1 → a2 → a3 → a4 → a5 → a6 → a7 → a8 → a9 → a10 → a11 → a12 → Option ρ} {r : ρ} (h : bn13 x k = some r) : ∃ (u0 : a0) (u1 : a1) (u2 : a2) (u3 : a3) (u4 : a4) (u5 : a5) (u6 : a6) (u7 : a7) (u8 : a8) (u9 : a9) (u10 : a10) (u11 : a11) (u12 : a12), x = some (u0, u1, u2, u3, u4, u5, u6, u7, u8, u9, u10, u11, u12) ∧ k u0 u1 u2 u3 u4 u5 u6 u7 u8 u9 u10 u11 u12 = some r := by
  cases x with
  | none => cases h
  | some o => obtain ⟨u0, u1, u2, u3, u4, u5, u6, u7, u8, u9, u10, u11, u12⟩ := o; exact ⟨u0, u1, u2, u3, u4, u5, u6, u7, u8, u9, u10, u11, u12, rfl, h⟩
def bd13 {ρ : Type} {a0 a1 a2 a3 a4 a5 a6 a7 a8 a9 a10 a11 a12 : Type} (x : Option (ρ ⊕ (a0 × a1 × a2 × a3 × a4 × a5 × a6 × a7 × a8 × a9 × a10 × a11 × a12))) (k : a0 → a1 → a2 → a3 → a4 → a5 → a6 → a7 → a8 → a9 → a10 → a11 → a12 → Option ρ) : Option ρ := match x with
  | none => none
  | some (.inl r) => some r
  | some (.inr (u0, u1, u2, u3, u4, u5, u6, u7, u8, u9, u10, u11, u12)) => k u0 u1 u2 u3 u4 u5 u6 u7 u8 u9 u10 u11 u12
theorem bd13_s {ρ : Type} {a0 a1 a2 a3 a4 a5 a6 a7 a8 a9 a10 a11 a12 : Type} {x : Option (ρ ⊕ (a0 × a1 × a2 × a3 × a4 × a5 × a6 × a7 × a8 × a9 × a10 × a11 × a12))} {k : a0 → a1 → a2 → a3 → a4 → a5 → a6 → a7 → a8 → a9 → a10 → a11 → a12 → Option ρ} {r : ρ} (h : bd13 x k = some r) : ∃ o : ρ ⊕ (a0 × a1 × a2 × a3 × a4 × a5 × a6 × a7 × a8 × a9 × a10 × a11 × a12), x = some o ∧ (∀ z : ρ, some (Sum.inl z) = some o → z = r) ∧ (∀ (u0 : a0) (u1 : a1) (u2 : a2) (u3 : a3) (u4 : a4) (u5 : a5) (u6 : a6) (u7 : a7) (u8 : a8) (u9 : a9) (u10 : a10) (u11 : a11) (u12 : a12), some (Sum.inr (u0, u1, u2, u3, u4, u5, u6, u7, u8, u9, u10, u11, u12)) = some o → k u0 u1 u2 u3 u4 u5 u6 u7 u8 u9 u10 u11 u12 = some r) := by
  cases x with
  | none => cases h
  | some o => exact ⟨o, rfl, fun z e => by cases e; exact Option.some.inj h, fun u0 u1 u2 u3 u4 u5 u6 u7 u8 u9 u10 u11 u12 e => by cases e; exact h⟩
def bn14 {ρ : Type} {a0 a1 a2 a3 a4 a5 a6 a7 a8 a9 a10 a11 a12 a13 : Type} (x : Option (a0 × a1 × a2 × a3 × a4 × a5 × a6 × a7 × a8 × a9 × a10 × a11 × a12 × a13)) (k : a0 → a1 → a2 → a3 → a4 → a5 → a6 → a7 → a8 → a9 → a10 → a11 → a12 → a13 → Option ρ) : Option ρ := match x with
  | none => none
  | some (u0, u1, u2, u3, u4, u5, u6, u7, u8, u9, u10, u11, u12, u13) => k u0 u1 u2 u3 u4 u5 u6 u7 u8 u9 u10 u11 u12 u13
theorem bn14_s {ρ : Type} {a0 a1 a2 a3 a4 a5 a6 a7 a8 a9 a10 a11 a12 a13 : Type} {x : Option (a0 × a1 × a2 × a3 × a4 × a5 × a6 × a7 × a8 × a9 × a10 × a11 × a12 × a13)} {k : a0 → a1 → a2 → a3 → a4 → a5 → a6 → a7 → a8 → a9 → a10 → a11 → a12 → a13 → Option ρ} {r : ρ} (h : bn14 x k = some r) : ∃ o : (a0 × a1 × a2 × a3 × a4 × a5 × a6 × a7 × a8 × a9 × a10 × a11 × a12 × a13), x = some o ∧ (∀ (u0 : a0) (u1 : a1) (u2 : a2) (u3 : a3) (u4 : a4) (u5 : a5) (u6 : a6) (u7 : a7) (u8 : a8) (u9 : a9) (u10 : a10) (u11 : a11) (u12 : a12) (u13 : a13), some (u0, u1, u2, u3, u4, u5, u6, u7, u8, u9, u10, u11, u12, u13) = some o → k u0 u1 u2 u3 u4 u5 u6 u7 u8 u9 u10 u11 u12 u13 = some r) := by
  cases x with
  | none => cases h
  | some o => exact ⟨o, rfl, fun u0 u1 u2 u3 u4 u5 u6 u7 u8 u9 u10 u11 u12 u13 e => by cases e; exact h⟩
theorem bn14_c {ρ : Type} {a0 a1 a2 a3 a4 a5 a6 a7 a8 a9 a10 a11 a12 a13 : Type} {x : Option (a0 × a1 × a2 × a3 × a4 × a5 × a6 × a7 × a8 × a9 × a10 × a11 × a12 × a13)} {k : a0 → a1 → a2 → a3 → a4 → a5 → a6 → a7 → a8 → a9 → a10 → a11 → a12 → a13 → Option ρ} {r : ρ} (h : bn14 x k = some r) : ∃ (u0 : a0) (u1 : a1) (u2 : a2) (u3 : a3) (u4 : a4) (u5 : a5) (u6 : a6) (u7 : a7) (u8 : a8) (u9 : a9) (u10 : a10) (u11 : a11) (u12 : a12) (u13 : a13), x = some (u0, u1, u2, u3, u4, u5, u6, u7, u8, u9, u10, u11, u12, u13) ∧ k u0 u1 u2 u3 u4 u5 u6 u7 u8 u9 u10 u11 u12 u13 = some r := by
  cases x with
  | none => cases h
  | some o => obtain ⟨u0, u1, u2, u3, u4, u5, u6, u7, u8, u9, u10, u11, u12, u13⟩ := o; exact ⟨u0, u1, u2, u3, u4, u5, u6, u7, u8, u9, u10, u11, u12, u13, rfl, h⟩
def bd14 {ρ : Type} {a0 a1 a2 a3 a4 a5 a6 a7 a8 a9 a10 a11 a12 a13 : Type} (x : Option (ρ ⊕ (a0 × a1 × a2 × a3 × a4 × a5 × a6 × a7 × a8 × a9 × a10 × a11 × a12 × a13))) (k : a0 → a1 → a2 → a3 → a4 → a5 → a6 → a7 → a8 → a9 → a10 → a11 → a12 → a13 → Option ρ) : Option ρ := match x with
  | none => none
  | some (.inl r) => some r
  | some (.inr (u0, u1, u2, u3, u4, u5, u6, u7, u8, u9, u10, u11, u12, u13)) => k u0 u1 u2 u3 u4 u5 u6 u7 u8 u9 u10 u11 u12 u13
theorem bd14_s {ρ : Type} {a0 a1 a2 a3 a4 a5 a6 a7 a8 a9 a10 a11 a12 a13 : Type} {x : Option (ρ ⊕ (a0 × a1 × a2 × a3 × a4 × a5 × a6 × a7 × a8 × a9 × a10 × a11 × a12 × a13))} {k : a0 → a1 → a2 → a3 → a4 → a5 → a6 → a7 → a8 → a9 → a10 → a11 → a12 → a13 → Option ρ} {r : ρ} (h : bd14 x k = some r) : ∃ o : ρ ⊕ (a0 × a1 × a2 × a3 × a4 × a5 × a6 × a7 × a8 × a9 × a10 × a11 × a12 × a13), x = some o ∧ (∀ z : ρ, some (Sum.inl z) = some o → z = r) ∧ (∀ (u0 : a0) (u1 : a1) (u2 : a2) (u3 : a3) (u4 : a4) (u5 : a5) (u6 : a6) (u7 : a7) (u8 : a8) (u9 : a9) (u10 : a10) (u11 : a11) (u12 : a12) (u13 : a13), some (Sum.inr (u0, u1, u2, u3, u4, u5, u6, u7, u8, u9, u10, u11, u12, u13)) = some o → k u0 u1 u2 u3 u4 u5 u6 u7 u8 u9 u10 u11 u12 u13 = some r) := by
  cases x with
  | none => cases h
  | some o => exact ⟨o, rfl, fun z e => by cases e; exact Option.some.inj h, fun u0 u1 u2 u3 u4 u5 u6 u7 u8 u9 u10 u11 u12 u13 e => by cases e; exact h⟩
def bn15 {ρ : Type} {a0 a1 a2 a3 a4 a5 a6 a7 a8 a9 a10 a11 a12 a13 a14 : Type} (x : Option (a0 × a1 × a2 × a3 × a4 × a5 × a6 × a7 × a8 × a9 × a10 × a11 × a12 × a13 × a14)) (k : a0 → a1 → a2 → a3 → a4 → a5 → a6 → a7 → a8 → a9 → a10 → a11 → a12 → a13 → a14 → Option ρ) : Option ρ := match x with
  | none => none
  | some (u0, u1, u2, u3, u4, u5, u6, u7, u8, u9, u10, u11, u12, u13, u14) => k u0 u1 u2 u3 u4 u5 u6 u7 u8 u9 u10 u11 u12 u13 u14
theorem bn15_s {ρ : Type} {a0 a1 a2 a3 a4 a5 a6 a7 a8 a9 a10 a11 a12 a13 a14 : Type} {x : Option (a0 × a1 × a2 × a3 × a4 × a5 × a6 × a7 × a8 × a9 × a10 × a11 × a12 × a13 × a14)} {k : a0 → a1 → a2 → a3 → a4 → a5 → a6 → a7 → a8 → a9 → a10 → a11 → a12 → a13 → a14 → Option ρ} {r : ρ} (h : bn15 x k = some r) : ∃ o : (a0 × a1 × a2 × a3 × a4 × a5 × a6 × a7 × a8 × a9 × a10 × a11 × a12 × a13 × a14), x = some o ∧ (∀ (u0 : a0) (u1 : a1) (u2 : a2) (u3 : a3) (u4 : a4) (u5 : a5) (u6 : a6) (u7 : a7) (u8 : a8) (u9 : a9) (u10 : a10) (u11 : a11) (u12 : a12) (u13 : a13) (u14 : a14), some (u0, u1, u2, u3, u4, u5, u6, u7, u8, u9, u10, u11, u12, u13, u14) = some o → k u0 u1 u2 u3 u4 u5 u6 u7 u8 u9 u10 u11 u12 u13 u14 = some r) := by
  cases x with
  | none => cases h
  | some o => exact ⟨o, rfl, fun u0 u1 u2 u3 u4 u5 u6 u7 u8 u9 u10 u11 u12 u13 u14 e => by cases e; exact h⟩
theorem bn15_c {ρ : Type} {a0 a1 a2 a3 a4 a5 a6 a7 a8 a9 a10 a11 a12 a13 a14 : Type} {x : Option (a0 × a1 × a2 × a3 × a4 × a5 × a6 × a7 × a8 × a9 × a10 × a11 × a12 × a13 × a14)} {k : a0 → a1 → a2 → a3 → a4 → a5 → a6 → a7 → a8 → a9 → a10 → a11 → a12 → a13 → a14 → Option ρ} {r : ρ} (h : bn15 x k = some r) : ∃ (u0 : a0) (u1 : a1) (u2 : a2) (u3 : a3) (u4 : a4) (u5 : a5) (u6 : a6) (u7 : a7) (u8 : a8) (u9 : a9) (u10 : a10) (u11 : a11) (u12 : a12) (u13 : a13) (u14 : a14), x = some (u0, u1, u2, u3, u4, u5, u6, u7, u8, u9, u10, u11, u12, u13, u14) ∧ k u0 u1 u2 u3 u4 u5 u6 u7 u8 u9 u10 u11 u12 u13 u14 = some r := by
  cases x with
  | none => cases h
  | some o => obtain ⟨u0, u1, u2, u3, u4, u5, u6, u7, u8, u9, u10, u11, u12, u13, u14⟩ := o; exact ⟨u0, u1, u2, u3, u4, u5, u6, u7, u8, u9, u10, u11, u12, u13, u14, rfl, h⟩
def bd15 {ρ : Type} {a0 a1 a2 a3 a4 a5 a6 a7 a8 a9 a10 a11 a12 a13 a14 : Type} (x : Option (ρ ⊕ (a0 × a1 × a2 × a3 × a4 × a5 × a6 × a7 × a8 × a9 × a10 × a11 × a12 × a13 × a14))) (k : a0 → a1 → a2 → a3 → a4 → a5 → a6 → a7 → a8 → a9 → a10 → a11 → a12 → a13 → a14 → Option ρ) : Option ρ := match x with
  | none => none
  | some (.inl r) => some r
  | some (.inr (u0, u1, u2, u3, u4, u5, u6, u7, u8, u9, u10, u11, u12, u13, u14)) => k u0 u1 u2 u3 u4 u5 u6 u7 u8 u9 u10 u11 u12 u13 u14
theorem bd15_s {ρ : Type} {a0 a1 a2 a3 a4 a5 a6 a7 a8 a9 a10 a11 a12 a13 a14 : Type} {x : Option (ρ ⊕ (a0 × a1 × a2 × a3 × a4 × a5 × a6 × a7 × a8 × a9 × a10 × a11 × a12 × a13 × a14))} {k : a0 → a1 → a2 → a3 → a4 → a5 → a6 → a7 → a8 → a9 → a10 → a11 → a12 → a13 → a14 → Option ρ} {r : ρ} (h : bd15 x k = some r) : ∃ o : ρ ⊕ (a0 × a1 × a2 × a3 × a4 × a5 × a6 × a7 × a8 × a9 × a10 × a11 × a12 × a13 × a14), x = some o ∧ (∀ z : ρ, some (Sum.inl z) = some o → z = r) ∧ (∀ (u0 : a0) (u1 : a1) (u2 : a2) (u3 : a3) (u4 : a4) (u5 : a5) (u6 : a6) (u7 : a7) (u8 : a8) (u9 : a9) (u10 : a10) (u11 : a11) (u12 : a12) (u13 : a13) (u14 : a14), some (Sum.inr (u0, u1, u2, u3, u4, u5, u6, u7, u8, u9, u10, u11, u12, u13, u14)) = some o → k u0 u1 u2 u3 u4 u5 u6 u7 u8 u9 u10 u11 u12 u13 u14 = some r) := by
  cases x with
  | none => cases h
  | some o => exact ⟨o, rfl, fun z e => by cases e; exact Option.some.inj h, fun u0 u1 u2 u3 u4 u5 u6 u7 u8 u9 u10 u11 u12 u13 u14 e => by cases e; exact h⟩
def bn16 {ρ : Type} {a0 a1 a2 a3 a4 a5 a6 a7 a8 a9 a10 a11 a12 a13 a14 a15 : Type} (x : Option (a0 × a1 × a2 × a3 × a4 × a5 × a6 × a7 × a8 × a9 × a10 × a11 × a12 × a13 × a14 × a15)) (k : a0 → a1 → a2 → a3 → a4 → a5 → a6 → a7 → a8 → a9 → a10 → a11 → a12 → a13 → a14 → a15 → Option ρ) : Option ρ := match x with
  | none => none
  | some (u0, u1, u2, u3, u4, u5, u6, u7, u8, u9, u10, u11, u12, u13, u14, u15) => k u0 u1 u2 u3 u4 u5 u6 u7 u8 u9 u10 u11 u12 u13 u14 u15
theorem bn16_s {ρ : Type} {a0 a1 a2 a3 a4 a5 a6 a7 a8 a9 a10 a11 a12 a13 a14 a15 : Type} {x : Option (a0 × a1 × a2 × a3 × a4 × a5 × a6 × a7 × a8 × a9 × a10 × a11 × a12 × a13 × a14 × a15)} {k : a0 → a1 → a2 → a3 → a4 → a5 → a6 → a7 → a8 → a9 → a10 → a11 → a12 → a13 → a14 → a15 → Option ρ} {r : ρ} (h : bn16 x k = some r) : ∃ o : (a0 × a1 × a2 × a3 × a4 × a5 × a6 × a7 × a8 × a9 × a10 × a11 × a12 × a13 × a14 × a15), x = some o ∧ (∀ (u0 : a0) (u1 : a1) (u2 : a2) (u3 : a3) (u4 : a4) (u5 : a5) (u6 : a6) (u7 : a7) (u8 : a8) (u9 : a9) (u10 : a10) (u11 : a11) (u12 : a12) (u13 : a13) (u14 : a14) (u15 : a15), some (u0, u1, u2, u3, u4, u5, u6, u7, u8, u9, u10, u11, u12, u13, u14, u15) = some o → k u0 u1 u2 u3 u4 u5 u6 u7 u8 u9 u10 u11 u12 u13 u14 u15 = some r) := by
  cases x with
  | none => cases h
  | some o => exact ⟨o, rfl, fun u0 u1 u2 u3 u4 u5 u6 u7 u8 u9 u10 u11 u12 u13 u14 u15 e => by cases e; exact h⟩
theorem bn16_c {ρ : Type} {a0 a1 a2 a3 a4 a5 a6 a7 a8 a9 a10 a11 a12 a13 a14 a15 : Type} {x : Option (a0 × a1 × a2 × a3 × a4 × a5 × a6 × a7 × a8 × a9 × a10 × a11 × a12 × a13 × a14 × a15)} {k : a0 → a1 → a2 → a3 → a4 → a5 → a6 → a7 → a8 → a9 → a10 → a11 → a12 → a13 → a14 → a15 → Option ρ} {r : ρ} (h : bn16 x k = some r) : ∃ (u0 : a0) (u1 : a1) (u2 : a2) (u3 : a3) (u4 : a4) (u5 : a5) (u6 : a6) (u7 : a7) (u8 : a8) (u9 : a9) (u10 : a10) (u11 : a11) (u12 : a12) (u13 : a13) (u14 : a14) (u15 : a15), x = some (u0, u1, u2, u3, u4, u5, u6, u7, u8, u9, u10, u11, u12, u13, u14, u15) ∧ k u0 u1 u2 u3 u4 u5 u6 u7 u8 u9 u10 u11 u12 u13 u14 u15 = some r := by
  cases x with
  | none => cases h
  | some o => obtain ⟨u0, u1, u2, u3, u4, u5, u6, u7, u8, u9, u10, u11, u12, u13, u14, u15⟩ := o; exact ⟨u0, u1, u2, u3, u4, u5, u6, u7, u8, u9, u10, u11, u12, u13, u14, u15, rfl, h⟩
def bd16 {ρ : Type} {a0 a1 a2 a3 a4 a5 a6 a7 a8 a9 a10 a11 a12 a13 a14 a15 : Type} (x : Option (ρ ⊕ (a0 × a1 × a2 × a3 × a4 × a5 × a6 × a7 × a8 × a9 × a10 × a11 × a12 × a13 × a14 × a15))) (k : a0 → a1 → a2 → a3 → a4 → a5 → a6 → a7 → a8 → a9 → a10 → a11 → a12 → a13 → a14 → a15 → Option ρ) : Option ρ := match x with
  | none => none
  | some (.inl r) => some r
  | some (.inr (u0, u1, u2, u3, u4, u5, u6, u7, u8, u9, u10, u11, u12, u13, u14, u15)) => k u0 u1 u2 u3 u4 u5 u6 u7 u8 u9 u10 u11 u12 u13 u14 u15
theorem bd16_s {ρ : Type} {a0 a1 a2 a3 a4 a5 a6 a7 a8 a9 a10 a11 a12 a13 a14 a15 : Type} {x : Option (ρ ⊕ (a0 × a1 × a2 × a3 × a4 × a5 × a6 × a7 × a8 × a9 × a10 × a11 × a12 × a13 × a14 × a15))} {k : a0 → a1 → a2 → a3 → a4 → a5 → a6 → a7 → a8 → a9 → a10 → a11 → a12 → a13 → a14 → a15 → Option ρ} {r : ρ} (h : bd16 x k = some r) : ∃ o : ρ ⊕ (a0 × a1 × a2 × a3 × a4 × a5 × a6 × a7 × a8 × a9 × a10 × a11 × a12 × a13 × a14 × a15), x = some o ∧ (∀ z : ρ, some (Sum.inl z) = some o → z = r) ∧ (∀ (u0 : a0) (u1 : a1) (u2 : a2) (u3 : a3) (u4 : a4) (u5 : a5) (u6 : a6) (u7 : a7) (u8 : a8) (u9 : a9) (u10 : a10) (u11 : a11) (u12 : a12) (u13 : a13) (u14 : a14) (u15 : a15), some (Sum.inr (u0, u1, u2, u3, u4, u5, u6, u7, u8, u9, u10, u11, u12, u13, u14, u15)) = some o → k u0 u1 u2 u3 u4 u5 u6 u7 u8 u9 u10 u11 u12 u13 u14 u15 = some r) := by
  cases x with
  | none => cases h
  | some o => exact ⟨o, rfl, fun z e => by cases e; exact Option.some.inj h, fun u0 u1 u2 u3 u4 u5 u6 u7 u8 u9 u10 u11 u12 u13 u14 u15 e => by cases e; exact h⟩
def bn17 {ρ : Type} {a0 a1 a2 a3 a4 a5 a6 a7 a8 a9 a10 a11 a12 a13 a14 a15 a16 : Type} (x : Option (a0 × a1 × a2 × a3 × a4 × a5 × a6 × a7 × a8 × a9 × a10 × a11 × a12 × a13 × a14 × a15 × a16)) (k : a0 → a1 → a2 → a3 → a4 → a5 → a6 → a7 → a8 → a9 → a10 → a11 → a12 → a13 → a14 → a15 → a16 → Option ρ) : Option ρ := match x with
  | none => none
  | some (u0, u1, u2, u3, u4, u5, u6, u7, u8, u9, u10, u11, u12, u13, u14, u15, u16) => k u0 u1 u2 u3 u4 u5 u6 u7 u8 u9 u10 u11 u12 u13 u14 u15 u16
theorem bn17_s {ρ : Type} {a0 a1 a2 a3 a4 a5 a6 a7 a8 a9 a10 a11 a12 a13 a14 a15 a16 : Type} {x : Option (a0 × a1 × a2 × a3 × a4 × a5 × a6 × a7 × a8 × a9 × a10 × a11 × a12 × a13 × a14 × a15 × a16)} {k : a0 → a1 → a2 → a3 → a4 → a5 → a6 → a7 → a8 → a9 → a10 → a11 → a12 → a13 → a14 → a15 → a16 → Option ρ} {r : ρ} (h : bn17 x k = some r) : ∃ o : (a0 × a1 × a2 × a3 × a4 × a5 × a6 × a7 × a8 × a9 × a10 × a11 × a12 × a13 × a14 × a15 × a16), x = some o ∧ (∀ (u0 : a0) (u1 : a1) (u2 : a2) (u3 : a3) (u4 : a4) (u5 : a5) (u6 : a6) (u7 : a7) (u8 : a8) (u9 : a9) (u10 : a10) (u11 : a11) (u12 : a12) (u13 : a13) (u14 : a14) (u15 : a15) (u16 : a16), some (u0, u1, u2, u3, u4, u5, u6, u7, u8, u9, u10, u11, u12, u13, u14, u15, u16) = some o → k u0 u1 u2 u3 u4 u5 u6 u7 u8 u9 u10 u11 u12 u13 u14 u15 u16 = some r) := by
  cases x with
  | none => cases h
  | some o => exact ⟨o, rfl, fun u0 u1 u2 u3 u4 u5 u6 u7 u8 u9 u10 u11 u12 u13 u14 u15 u16 e => by cases e; exact h⟩
theorem bn17_c {ρ : Type} {a0 a1 a2 a3 a4 a5 a6 a7 a8 a9 a10 a11 a12 a13 a14 a15 a16 : Type} {x : Option (a0 × a1 × a2 × a3 × a4 × a5 × a6 × a7 × a8 × a9 × a10 × a11 × a12 × a13 × a14 × a15 × a16)} {k : a0 → a1 → a2 → a3 → a4 → a5 → a6 → a7 → a8 → a9 → a10 → a11 → a12 → a13 → a14 → a15 → a16 → Option ρ} {r : ρ} (h : bn17 x k = some r) : ∃ (u0 : a0) (u1 : a1) (u2 : a2) (u3 : a3) (u4 : a4) (u5 : a5) (u6 : a6) (u7 : a7) (u8 : a8) (u9 : a9) (u10 : a10) (u11 : a11) (u12 : a12) (u13 : a13) (u14 : a14) (u15 : a15) (u16 : a16), x = some (u0, u1, u2, u3, u4, u5, u6, u7, u8, u9, u10, u11, u12, u13, u14, u15, u16) ∧ k u0 u1 u2 u3 u4 u5 u6 u7 u8 u9 u10 u11 u12 u13 u14 u15 u16 = some r := by
  cases x with
  | none => cases h
  | some o => obtain ⟨u0, u1, u2, u3, u4, u5, u6, u7, u8, u9, u10, u11, u12, u13, u14, u15, u16⟩ := o; exact ⟨u0, u1, u2, u3, u4, u5, u6, u7, u8, u9, u10, u11, u12, u13, u14, u15, u16, rfl, h⟩
def bd17 {ρ : Type} {a0 a1 a2 a3 a4 a5 a6 a7 a8 a9 a10 a11 a12 a13 a14 a15 a16 : Type} (x : Option (ρ ⊕ (a0 × a1 × a2 × a3 × a4 × a5 × a6 × a7 × a8 × a9 × a10 × a11 × a12 × a13 × a14 × a15 × a16))) (k : a0 → a1 → a2 → a3 → a4 → a5 → a6 → a7 → a8 → a9 → a10 → a11 → a12 → a13 → a14 → a15 → a16 → Option ρ) : Option ρ := match x with
  | none => none
  | some (.inl r) => some r
  | some (.inr (u0, u1, u2, u3, u4, u5, u6, u7, u8, u9, u10, u11, u12, u13, u14, u15, u16)) => k u0 u1 u2 u3 u4 u5 u6 u7 u8 u9 u10 u11 u12 u13 u14 u15 u16
theorem bd17_s {ρ : Type} {a0 a1 a2 a3 a4 a5 a6 a7 a8 a9 a10 a11 a12 a13 a14 a15 a16 : Type} {x : Option (ρ ⊕ (a0 × a1 × a2 × a3 × a4 × a5 × a6 × a7 × a8 × a9 × a10 × a11 × a12 × a13 × a14 × a15 × a16))} {k : a0 → a1 → a2 → a3 → a4 → a5 → a6 → a7 → a8 → a9 → a10 → a11 → a12 → a13 → a14 → a15 → a16 → Option ρ} {r : ρ} (h : bd17 x k = some r) : ∃ o : ρ ⊕ (a0 × a1 × a2 × a3 × a4 × a5 × a6 × a7 × a8 × a9 × a10 × a11 × a12 × a13 × a14 × a15 × a16), x = some o ∧ (∀ z : ρ, some (Sum.inl z) = some o → z = r) ∧ (∀ (u0 : a0) (u1 : a1) (u2 : a2) (u3 : a3) (u4 : a4) (u5 : a5) (u6 : a6) (u7 : a7) (u8 : a8) (u9 : a9) (u10 : a10) (u11 : a11) (u12 : a12) (u13 : a13) (u14 : a14) (u15 : a15) (u16 : a16), some (Sum.inr (u0, u1, u2, u3, u4, u5, u6, u7, u8, u9, u10, u11, u12, u13, u14, u15, u16)) = some o → k u0 u1 u2 u3 u4 u5 u6 u7 u8 u9 u10 u11 u12 u13 u14 u15 u16 = some r) := by
  cases x with
  | none => cases h
  | some o => exact ⟨o, rfl, fun z e => by cases e; exact Option.some.inj h, fun u0 u1 u2 u3 u4 u5 u6 u7 u8 u9 u10 u11 u12 u13 u14 u15 u16 e => by cases e; exact h⟩
def bn18 {ρ : Type} {a0 a1 a2 a3 a4 a5 a6 a7 a8 a9 a10 a11 a12 a13 a14 a15 a16 a17 : Type} (x : Option (a0 × a1 × a2 × a3 × a4 × a5 × a6 × a7 × a8 × a9 × a10 × a11 × a12 × a13 × a14 × a15 × a16 × a17)) (k : a0 → a1 → a2 → a3 → a4 → a5 → a6 → a7 → a8 → a9 → a10 → a11 → a12 → a13 → a14 → a15 → a16 → a17 → Option ρ) : Option ρ := match x with
  | none => none
  | some (u0, u1, u2, u3, u4, u5, u6, u7, u8, u9, u10, u11, u12, u13, u14, u15, u16, u17) => k u0 u1 u2 u3 u4 u5 u6 u7 u8 u9 u10 u11 u12 u13 u14 u15 u16 u17
theorem bn18_s {ρ : Type} {a0 a1 a2 a3 a4 a5 a6 a7 a8 a9 a10 a11 a12 a13 a14 a15 a16 a17 : Type} {x : Option (a0 × a1 × a2 × a3 × a4 × a5 × a6 × a7 × a8 × a9 × a10 × a11 × a12 × a13 × a14 × a15 × a16 × a17)} {k : a0 → a1 → a2 → a3 → a4 → a5 → a6 → a7 → a8 → a9 → a10 → a11 → a12 → a13 → a14 → a15 → a16 → a17 → Option ρ} {r : ρ} (h : bn18 x k = some r) : ∃ o : (a0 × a1 × a2 × a3 × a4 × a5 × a6 × a7 × a8 × a9 × a10 × a11 × a12 × a13 × a14 × a15 × a16 × a17), x = some o ∧ (∀ (u0 : a0) (u1 : a1) (u2 : a2) (u3 : a3) (u4 : a4) (u5 : a5) (u6 : a6) (u7 : a7) (u8 : a8) (u9 : a9) (u10 : a10) (u11 : a11) (u12 : a12) (u13 : a13) (u14 : a14) (u15 : a15) (u16 : a16) (u17 : a17), some (u0, u1, u2, u3, u4, u5, u6, u7, u8, u9, u10, u11, u12, u13, u14, u15, u16, u17) = some o → k u0 u1 u2 u3 u4 u5 u6 u7 u8 u9 u10 u11 u12 u13 u14 u15 u16 u17 = some r) := by
  cases x with
  | none => cases h
  | some o => exact ⟨o, rfl, fun u0 u1 u2 u3 u4 u5 u6 u7 u8 u9 u10 u11 u12 u13 u14 u15 u16 u17 e => by cases e; exact h⟩
theorem bn18_c {ρ : Type} {a0 a1 a2 a3 a4 a5 a6 a7 a8 a9 a10 a11 a12 a13 a14 a15 a16 a17 : Type} {x : Option (a0 × a1 × a2 × a3 × a4 × a5 × a6 × a7 × a8 × a9 × a10 × a11 × a12 × a13 × a14 × a15 × a16 × a17)} {k : a0 → a1 → a2 → a3 → a4 → a5 → a6 → a7 → a8 → a9 → a10 → a11 → a12 → a13 → a14 → a15 → a16 → a17 → Option ρ} {r : ρ} (h : bn18 x k = some r) : ∃ (u0 : a0) (u1 : a1) (u2 : a2) (u3 : a3) (u4 : a4) (u5 : a5) (u6 : a6) (u7 : a7) (u8 : a8) (u9 : a9) (u10 : a10) (u11 : a11) (u12 : a12) (u13 : a13) (u14 : a14) (u15 : a15) (u16 : a16) (u17 : a17), x = some (u0, u1, u2, u3, u4, u5, u6, u7, u8, u9, u10, u11, u12, u13, u14, u15, u16, u17) ∧ k u0 u1 u2 u3 u4 u5 u6 u7 u8 u9 u10 u11 u12 u13 u14 u15 u16 u17 = some r := by
  cases x with
  | none => cases h
  | some o => obtain ⟨u0, u1, u2, u3, u4, u5, u6, u7, u8, u9, u10, u11, u12, u13, u14, u15, u16, u17⟩ := o; exact ⟨u0, u1, u2, u3, u4, u5, u6, u7, u8, u9, u10, u11, u12, u13, u14, u15, u16, u17, rfl, h⟩
def bd18 {ρ : Type} {a0 a1 a2 a3 a4 a5 a6 a7 a8 a9 a10 a11 a12 a13 a14 a15 a16 a17 : Type} (x : Option (ρ ⊕ (a0 × a1 × a2 × a3 × a4 × a5 × a6 × a7 × a8 × a9 × a10 × a11 × a12 × a13 × a14 × a15 × a16 × a17))) (k : a0 → a1 → a2 → a3 → a4 → a5 → a6 → a7 → a8 → a9 → a10 → a11 → a12 → a13 → a14 → a15 → a16 → a17 → Option ρ) : Option ρ := match x with
  | none => none
  | some (.inl r) => some r
  | some (.inr (u0, u1, u2, u3, u4, u5, u6, u7, u8, u9, u10, u11, u12, u13, u14, u15, u16, u17)) => k u0 u1 u2 u3 u4 u5 u6 u7 u8 u9 u10 u11 u12 u13 u14 u15 u16 u17
theorem bd18_s {ρ : Type} {a0 a1 a2 a3 a4 a5 a6 a7 a8 a9 a10 a11 a12 a13 a14 a15 a16 a17 : Type} {x : Option (ρ ⊕ (a0 × a1 × a2 × a3 × a4 × a5 × a6 × a7 × a8 × a9 × a10 × a11 × a12 × a13 × a14 × a15 × a16 × a17))} {k : a0 → a1 → a2 → a3 → a4 → a5 → a6 → a7 → a8 → a9 → a10 → a11 → a12 → a13 → a14 → a15 → a16 → a17 → Option ρ} {r : ρ} (h : bd18 x k = some r) : ∃ o : ρ ⊕ (a0 × a1 × a2 × a3 × a4 × a5 × a6 × a7 × a8 × a9 × a10 × a11 × a12 × a13 × a14 × a15 × a16 × a17), x = some o ∧ (∀ z : ρ, some (Sum.inl z) = some o → z = r) ∧ (∀ (u0 : a0) (u1 : a1) (u2 : a2) (u3 : a3) (u4 : a4) (u5 : a5) (u6 : a6) (u7 : a7) (u8 : a8) (u9 : a9) (u10 : a10) (u11 : a11) (u12 : a12) (u13 : a13) (u14 : a14) (u15 : a15) (u16 : a16) (u17 : a17), some (Sum.inr (u0, u1, u2, u3, u4, u5, u6, u7, u8, u9, u10, u11, u12, u13, u14, u15, u16, u17)) = some o → k u0 u1 u2 u3 u4 u5 u6 u7 u8 u9 u10 u11 u12 u13 u14 u15 u16 u17 = some r) := by
  cases x with
  | none => cases h
  | some o => exact ⟨o, rfl, fun z e => by cases e; exact Option.some.inj h, fun u0 u1 u2 u3 u4 u5 u6 u7 u8 u9 u10 u11 u12 u13 u14 u15 u16 u17 e => by cases e; exact h⟩
def bn19 {ρ : Type} {a0 a1 a2 a3 a4 a5 a6 a7 a8 a9 a10 a11 a12 a13 a14 a15 a16 a17 a18 : Type} (x : Option (a0 × a1 × a2 × a3 × a4 × a5 × a6 × a7 × a8 × a9 × a10 × a11 × a12 × a13 × a14 × a15 × a16 × a17 × a18)) (k : a0 → a1 → a2 → a3 → a4 → a5 → a6 → a7 → a8 → a9 → a10 → a11 → a12 → a13 → a14 → a15 → a16 → a17 → a18 → Option ρ) : Option ρ := match x with
  | none => none
  | some (u0, u1, u2, u3, u4, u5, u6, u7, u8, u9, u10, u11, u12, u13, u14, u15, u16, u17, u18) => k u0 u1 u2 u3 u4 u5 u6 u7 u8 u9 u10 u11 u12 u13 u14 u15 u16 u17 u18
theorem bn19_s {ρ : Type} {a0 a1 a2 a3 a4 a5 a6 a7 a8 a9 a10 a11 a12 a13 a14 a15 a16 a17 a18 : Type} {x : Option (a0 × a1 × a2 × a3 × a4 × a5 × a6 × a7 × a8 × a9 × a10 × a11 × a12 × a13 × a14 × a15 × a16 × a17 × a18)} {k : a0 → a1 → a2 → a3 → a4 → a5 → a6 → a7 → a8 → a9 → a10 → a11 → a12 → a13 → a14 → a15 → a16 → a17 → a18 → Option ρ} {r : ρ} (h : bn19 x k = some r) : ∃ o : (a0 × a1 × a2 × a3 × a4 × a5 × a6 × a7 × a8 × a9 × a10 × a11 × a12 × a13 × a14 × a15 × a16 × a17 × a18), x = some o ∧ (∀ (u0 : a0) (u1 : a1) (u2 : a2) (u3 : a3) (u4 : a4) (u5 : a5) (u6 : a6) (u7 : a7) (u8 : a8) (u9 : a9) (u10 : a10) (u11 : a11) (u12 : a12) (u13 : a13) (u14 : a14) (u15 : a15) (u16 : a16) (u17 : a17) (u18 : a18), some (u0, u1, u2, u3, u4, u5, u6, u7, u8, u9, u10, u11, u12, u13, u14, u15, u16, u17, u18) = some o → k u0 u1 u2 u3 u4 u5 u6 u7 u8 u9 u10 u11 u12 u13 u14 u15 u16 u17 u18 = some r) := by
  cases x with
  | none => cases h
  | some o => exact ⟨o, rfl, fun u0 u1 u2 u3 u4 u5 u6 u7 u8 u9 u10 u11 u12 u13 u14 u15 u16 u17 u18 e => by cases e; exact h⟩
theorem bn19_c {ρ : Type} {a0 a1 a2 a3 a4 a5 a6 a7 a8 a9 a10 a11 a12 a13 a14 a15 a16 a17 a18 : Type} {x : Option (a0 × a1 × a2 × a3 × a4 × a5 × a6 × a7 × a8 × a9 × a10 × a11 × a12 × a13 × a14 × a15 × a16 × a17 × a18)} {k : a0 → a1 → a2 → a3 → a4 → a5 → a6 → a7 → a8 → a9 → a10 → a11 → a12 → a13 → a14 → a15 → a16 → a17 → a18 → Option ρ} {r : ρ} (h : bn19 x k = some r) : ∃ (u0 : a0) (u1 : a1) (u2 : a2) (u3 : a3) (u4 : a4) (u5 : a5) (u6 : a6) (u7 : a7) (u8 : a8) (u9 : a9) (u10 : a10) (u11 : a11) (u12 : a12) (u13 : a13) (u14 : a14) (u15 : a15) (u16 : a16) (u17 : a17) (u18 : a18), x = some (u0, u1, u2, u3, u4, u5, u6, u7, u8, u9, u10, u11, u12, u13, u14, u15, u16, u17, u18) ∧ k u0 u1 u2 u3 u4 u5 u6 u7 u8 u9 u10 u11 u12 u13 u14 u15 u16 u17 u18 = some r := by
  cases x with
  | none => cases h
  | some o => obtain ⟨u0, u1, u2, u3, u4, u5, u6, u7, u8, u9, u10, u11, u12, u13, u14, u15, u16, u17, u18⟩ := o; exact ⟨u0, u1, u2, u3, u4, u5, u6, u7, u8, u9, u10, u11, u12, u13, u14, u15, u16, u17, u18, rfl, h⟩
def bd19 {ρ : Type} {a0 a1 a2 a3 a4 a5 a6 a7 a8 a9 a10 a11 a12 a13 a14 a15 a16 a17 a18 : Type} (x : Option (ρ ⊕ (a0 × a1 × a2 × a3 × a4 × a5 × a6 × a7 × a8 × a9 × a10 × a11 × a12 × a13 × a14 × a15 × a16 × a17 × a18))) (k : a0 → a1 → a2 → a3 → a4 → a5 → a6 → a7 → a8 → a9 → a10 → a11 → a12 → a13 → a14 → a15 → a16 → a17 → a18 → Option ρ) : Option ρ := match x with
  | none => none
  | some (.inl r) => some r
  | some (.inr (u0, u1, u2, u3, u4, u5, u6, u7, u8, u9, u10, u11, u12, u13, u14, u15, u16, u17, u18)) => k u0 u1 u2 u3 u4 u5 u6 u7 u8 u9 u10 u11 u12 u13 u14 u15 u16 u17 u18
theorem bd19_s {ρ : Type} {a0 a1 a2 a3 a4 a5 a6 a7 a8 a9 a10 a11 a12 a13 a14 a15 a16 a17 a18 : Type} {x : Option (ρ ⊕ (a0 × a1 × a2 × a3 × a4 × a5 × a6 × a7 × a8 × a9 × a10 × a11 × a12 × a13 × a14 × a15 × a16 × a17 × a18))} {k : a0 → a1 → a2 → a3 → a4 → a5 → a6 → a7 → a8 → a9 → a10 → a11 → a12 → a13 → a14 → a15 → a16 → a17 → a18 → Option ρ} {r : ρ} (h : bd19 x k = some r) : ∃ o : ρ ⊕ (a0 × a1 × a2 × a3 × a4 × a5 × a6 × a7 × a8 × a9 × a10 × a11 × a12 × a13 × a14 × a15 × a16 × a17 × a18), x = some o ∧ (∀ z : ρ, some (Sum.inl z) = some o → z = r) ∧ (∀ (u0 : a0) (u1 : a1) (u2 : a2) (u3 : a3) (u4 : a4) (u5 : a5) (u6 : a6) (u7 : a7) (u8 : a8) (u9 : a9) (u10 : a10) (u11 : a11) (u12 : a12) (u13 : a13) (u14 : a14) (u15 : a15) (u16 : a16) (u17 : a17) (u18 : a18), some (Sum.inr (u0, u1, u2, u3, u4, u5, u6, u7, u8, u9, u10, u11, u12, u13, u14, u15, u16, u17, u18)) = some o → k u0 u1 u2 u3 u4 u5 u6 u7 u8 u9 u10 u11 u12 u13 u14 u15 u16 u17 u18 = some r) := by
  cases x with
  | none => cases h
  | some o => exact ⟨o, rfl, fun z e => by cases e; exact Option.some.inj h, fun u0 u1 u2 u3 u4 u5 u6 u7 u8 u9 u10 u11 u12 u13 u14 u15 u16 u17 u18 e => by cases e; exact h⟩
def bn20 {ρ : Type} {a0 a1 a2 a3 a4 a5 a6 a7 a8 a9 a10 a11 a12 a13 a14 a15 a16 a17 a18 a19 : Type} (x : Option (a0 × a1 × a2 × a3 × a4 × a5 × a6 × a7 × a8 × a9 × a10 × a11 × a12 × a13 × a14 × a15 × a16 × a17 × a18 × a19)) (k : a0 → a1 → a2 → a3 → a4 → a5 → a6 → a7 → a8 → a9 → a10 → a11 → a12 → a13 → a14 → a15 → a16 → a17 → a18 → a19 → Option ρ) : Option ρ := match x with
  | none => none
  | some (u0, u1, u2, u3, u4, u5, u6, u7, u8, u9, u10, u11, u12, u13, u14, u15, u16, u17, u18, u19) => k u0 u1 u2 u3 u4 u5 u6 u7 u8 u9 u10 u11 u12 u13 u14 u15 u16 u17 u18 u19
theorem bn20_s {ρ : Type} {a0 a1 a2 a3 a4 a5 a6 a7 a8 a9 a10 a11 a12 a13 a14 a15 a16 a17 a18 a19 : Type} {x : Option (a0 × a1 × a2 × a3 × a4 × a5 × a6 × a7 × a8 × a9 × a10 × a11 × a12 × a13 × a14 × a15 × a16 × a17 × a18 × a19)} {k : a0 → a1 → a2 → a3 → a4 → a5 → a6 → a7 → a8 → a9 → a10 → a11 → a12 → a13 → a14 → a15 → a16 → a17 → a18 → a19 → Option ρ} {r : ρ} (h : bn20 x k = some r) : ∃ o : (a0 × a1 × a2 × a3 × a4 × a5 × a6 × a7 × a8 × a9 × a10 × a11 × a12 × a13 × a14 × a15 × a16 × a17 × a18 × a19), x = some o ∧ (∀ (u0 : a0) (u1 : a1) (u2 : a2) (u3 : a3) (u4 : a4) (u5 : a5) (u6 : a6) (u7 : a7) (u8 : a8) (u9 : a9) (u10 : a10) (u11 : a11) (u12 : a12) (u13 : a13) (u14 : a14) (u15 : a15) (u16 : a16) (u17 : a17) (u18 : a18) (u19 : a19), some (u0, u1, u2, u3, u4, u5, u6, u7, u8, u9, u10, u11, u12, u13, u14, u15, u16, u17, u18, u19) = some o → k u0 u1 u2 u3 u4 u5 u6 u7 u8 u9 u10 u11 u12 u13 u14 u15 u16 u17 u18 u19 = some r) := by
  cases x with
  | none => cases h
  | some o => exact ⟨o, rfl, fun u0 u1 u2 u3 u4 u5 u6 u7 u8 u9 u10 u11 u12 u13 u14 u15 u16 u17 u18 u19 e => by cases e; exact h⟩
theorem bn20_c {ρ : Type} {a0 a1 a2 a3 a4 a5 a6 a7 a8 a9 a10 a11 a12 a13 a14 a15 a16 a17 a18 a19 : Type} {x : Option (a0 × a1 × a2 × a3 × a4 × a5 × a6 × a7 × a8 × a9 × a10 × a11 × a12 × a13 × a14 × a15 × a16 × a17 × a18 × a19)} {k : a0 → a1 → a2 → a3 → a4 → a5 → a6 → a7 → a8 → a9 → a10 → a11 → a12 → a13 → a14 → a15 → a16 → a17 → a18 → a19 → Option ρ} {r : ρ} (h : bn20 x k = some r) : ∃ (u0 : a0) (u1 : a1) (u2 : a2) (u3 : a3) (u4 : a4) (u5 : a5) (u6 : a6) (u7 : a7) (u8 : a8) (u9 : a9) (u10 : a10) (u11 : a11) (u12 : a12) (u13 : a13) (u14 : a14) (u15 : a15) (u16 : a16) (u17 : a17) (u18 : a18) (u19 : a19), x = some (u0, u1, u2, u3, u4, u5, u6, u7, u8, u9, u10, u11, u12, u13, u14, u15, u16, u17, u18, u19) ∧ k u0 u1 u2 u3 u4 u5 u6 u7 u8 u9 u10 u11 u12 u13 u14 u15 u16 u17 u18 u19 = some r := by
  cases x with
  | none => cases h
  | some o => obtain ⟨u0, u1, u2, u3, u4, u5, u6, u7, u8, u9, u10, u11, u12, u13, u14, u15, u16, u17, u18, u19⟩ := o; exact ⟨u0, u1, u2, u3, u4, u5, u6, u7, u8, u9, u10, u11, u12, u13, u14, u15, u16, u17, u18, u19, rfl, h⟩
def bd20 {ρ : Type} {a0 a1 a2 a3 a4 a5 a6 a7 a8 a9 a10 a11 a12 a13 a14 a15 a16 a17 a18 a19 : Type} (x : Option (ρ ⊕ (a0 × a1 × a2 × a3 × a4 × a5 × a6 × a7 × a8 × a9 × a10 × a11 × a12 × a13 × a14 × a15 × a16 × a17 × a18 × a19))) (k : a0 → a1 → a2 → a3 → a4 → a5 → a6 → a7 → a8 → a9 → a10 → a11 → a12 → a13 → a14 → a15 → a16 → a17 → a18 → a19 → Option ρ) : Option ρ := match x with
  | none => none
  | some (.inl r) => some r
  | some (.inr (u0, u1, u2, u3, u4, u5, u6, u7, u8, u9, u10, u11, u12, u13, u14, u15, u16, u17, u18, u19)) => k u0 u1 u2 u3 u4 u5 u6 u7 u8 u9 u10 u11 u12 u13 u14 u15 u16 u17 u18 u19
theorem bd20_s {ρ : Type} {a0 a1 a2 a3 a4 a5 a6 a7 a8 a9 a10 a11 a12 a13 a14 a15 a16 a17 a18 a19 : Type} {x : Option (ρ ⊕ (a0 × a1 × a2 × a3 × a4 × a5 × a6 × a7 × a8 × a9 × a10 × a11 × a12 × a13 × a14 × a15 × a16 × a17 × a18 × a19))} {k : a0 → a1 → a2 → a3 → a4 → a5 → a6 → a7 → a8 → a9 → a10 → a11 → a12 → a13 → a14 → a15 → a16 → a17 → a18 → a19 → Option ρ} {r : ρ} (h : bd20 x k = some r) : ∃ o : ρ ⊕ (a0 × a1 × a2 × a3 × a4 × a5 × a6 × a7 × a8 × a9 × a10 × a11 × a12 × a13 × a14 × a15 × a16 × a17 × a18 × a19), x = some o ∧ (∀ z : ρ, some (Sum.inl z) = some o → z = r) ∧ (∀ (u0 : a0) (u1 : a1) (u2 : a2) (u3 : a3) (u4 : a4) (u5 : a5) (u6 : a6) (u7 : a7) (u8 : a8) (u9 : a9) (u10 : a10) (u11 : a11) (u12 : a12) (u13 : a13) (u14 : a14) (u15 : a15) (u16 : a16) (u17 : a17) (u18 : a18) (u19 : a19), some (Sum.inr (u0, u1, u2, u3, u4, u5, u6, u7, u8, u9, u10, u11, u12, u13, u14, u15, u16, u17, u18, u19)) = some o → k u0 u1 u2 u3 u4 u5 u6 u7 u8 u9 u10 u11 u12 u13 u14 u15 u16 u17 u18 u19 = some r) := by
  cases x with
  | none => cases h
  | some o => exact ⟨o, rfl, fun z e => by cases e; exact Option.some.inj h, fun u0 u1 u2 u3 u4 u5 u6 u7 u8 u9 u10 u11 u12 u13 u14 u15 u16 u17 u18 u19 e => by cases e; exact h⟩
def bn21 {ρ : Type} {a0 a1 a2 a3 a4 a5 a6 a7 a8 a9 a10 a11 a12 a13 a14 a15 a16 a17 a18 a19 a20 : Type} (x : Option (a0 × a1 × a2 × a3 × a4 × a5 × a6 × a7 × a8 × a9 × a10 × a11 × a12 × a13 × a14 × a15 × a16 × a17 × a18 × a19 × a20)) (k : a0 → a1 → a2 → a3 → a4 → a5 → a6 → a7 → a8 → a9 → a10 → a11 → a12 → a13 → a14 → a15 → a16 → a17 → a18 → a19 → a20 → Option ρ) : Option ρ := match x with
  | none => none
  | some (u0, u1, u2, u3, u4, u5, u6, u7, u8, u9, u10, u11, u12, u13, u14, u15, u16, u17, u18, u19, u20) => k u0 u1 u2 u3 u4 u5 u6 u7 u8 u9 u10 u11 u12 u13 u14 u15 u16 u17 u18 u19 u20
theorem bn21_s {ρ : Type} {a0 a1 a2 a3 a4 a5 a6 a7 a8 a9 a10 a11 a12 a13 a14 a15 a16 a17 a18 a19 a20 : Type} {x : Option (a0 × a1 × a2 × a3 × a4 × a5 × a6 × a7 × a8 × a9 × a10 × a11 × a12 × a13 × a14 × a15 × a16 × a17 × a18 × a19 × a20)} {k : a0 → a1 → a2 → a3 → a4 → a5 → a6 → a7 → a8 → a9 → a10 → a11 → a12 → a13 → a14 → a15 → a16 → a17 → a18 → a19 → a20 → Option ρ} {r : ρ} (h : bn21 x k = some r) : ∃ o : (a0 × a1 × a2 × a3 × a4 × a5 × a6 × a7 × a8 × a9 × a10 × a11 × a12 × a13 × a14 × a15 × a16 × a17 × a18 × a19 × a20), x = some o ∧ (∀ (u0 : a0) (u1 : a1) (u2 : a2) (u3 : a3) (u4 : a4) (u5 : a5) (u6 : a6) (u7 : a7) (u8 : a8) (u9 : a9) (u10 : a10) (u11 : a11) (u12 : a12) (u13 : a13) (u14 : a14) (u15 : a15) (u16 : a16) (u17 : a17) (u18 : a18) (u19 : a19) (u20 : a20), some (u0, u1, u2, u3, u4, u5, u6, u7, u8, u9, u10, u11, u12, u13, u14, u15, u16, u17, u18, u19, u20) = some o → k u0 u1 u2 u3 u4 u5 u6 u7 u8 u9 u10 u11 u12 u13 u14 u15 u16 u17 u18 u19 u20 = some r) := by
  cases x with
  | none => cases h
  | some o => exact ⟨o, rfl, fun u0 u1 u2 u3 u4 u5 u6 u7 u8 u9 u10 u11 u12 u13 u14 u15 u16 u17 u18 u19 u20 e => by cases e; exact h⟩
theorem bn21_c {ρ : Type} {a0 a1 a2 a3 a4 a5 a6 a7 a8 a9 a10 a11 a12 a13 a14 a15 a16 a17 a18 a19 a20 : Type} {x : Option (a0 × a1 × a2 × a3 × a4 × a5 × a6 × a7 × a8 × a9 × a10 × a11 × a12 × a13 × a14 × a15 × a16 × a17 × a18 × a19 × a20)} {k : a0 → a1 → a2 → a3 → a4 → a5 → a6 → a7 → a8 → a9 → a10 → a11 → a12 → a13 → a14 → a15 → a16 → a17 → a18 → a19 → a20 → Option ρ} {r : ρ} (h : bn21 x k = some r) : ∃ (u0 : a0) (u1 : a1) (u2 : a2) (u3 : a3) (u4 : a4) (u5 : a5) (u6 : a6) (u7 : a7) (u8 : a8) (u9 : a9) (u10 : a10) (u11 : a11) (u12 : a12) (u13 : a13) (u14 : a14) (u15 : a15) (u16 : a16) (u17 : a17) (u18 : a18) (u19 : a19) (u20 : a20), x = some (u0, u1, u2, u3, u4, u5, u6, u7, u8, u9, u10, u11, u12, u13, u14, u15, u16, u17, u18, u19, u20) ∧ k u0 u1 u2 u3 u4 u5 u6 u7 u8 u9 u10 u11 u12 u13 u14 u15 u16 u17 u18 u19 u20 = some r := by
  cases x with
  | none => cases h
  | some o => obtain ⟨u0, u1, u2, u3, u4, u5, u6, u7, u8, u9, u10, u11, u12, u13, u14, u15, u16, u17, u18, u19, u20⟩ := o; exact ⟨u0, u1, u2, u3, u4, u5, u6, u7, u8, u9, u10, u11, u12, u13, u14, u15, u16, u17, u18, u19, u20, rfl, h⟩
def bd21 {ρ : Type} {a0 a1 a2 a3 a4 a5 a6 a7 a8 a9 a10 a11 a12 a13 a14 a15 a16 a17 a18 a19 a20 : Type} (x : Option (ρ ⊕ (a0 × a1 × a2 × a3 × a4 × a5 × a6 × a7 × a8 × a9 × a10 × a11 × a12 × a13 × a14 × a15 × a16 × a17 × a18 × a19 × a20))) (k : a0 → a1 → a2 → a3 → a4 → a5 → a6 → a7 → a8 → a9 → a10 → a11 → a12 → a13 → a14 → a15 → a16 → a17 → a18 → a19 → a20 → Option ρ) : Option ρ := match x with
  | none => none
  | some (.inl r) => some r
  | some (.inr (u0, u1, u2, u3, u4, u5, u6, u7, u8, u9, u10, u11, u12, u13, u14, u15, u16, u17, u18, u19, u20)) => k u0 u1 u2 u3 u4 u5 u6 u7 u8 u9 u10 u11 u12 u13 u14 u15 u16 u17 u18 u19 u20
theorem bd21_s {ρ : Type} {a0 a1 a2 a3 a4 a5 a6 a7 a8 a9 a10 a11 a12 a13 a14 a15 a16 a17 a18 a19 a20 : Type} {x : Option (ρ ⊕ (a0 × a1 × a2 × a3 × a4 × a5 × a6 × a7 × a8 × a9 × a10 × a11 × a12 × a13 × a14 × a15 × a16 × a17 × a18 × a19 × a20))} {k : a0 → a1 → a2 → a3 → a4 → a5 → a6 → a7 → a8 → a9 → a10 → a11 → a12 → a13 → a14 → a15 → a16 → a17 → a18 → a19 → a20 → Option ρ} {r : ρ} (h : bd21 x k = some r) : ∃ o : ρ ⊕ (a0 × a1 × a2 × a3 × a4 × a5 × a6 × a7 × a8 × a9 × a10 × a11 × a12 × a13 × a14 × a15 × a16 × a17 × a18 × a19 × a20), x = some o ∧ (∀ z : ρ, some (Sum.inl z) = some o → z = r) ∧ (∀ (u0 : a0) (u1 : a1) (u2 : a2) (u3 : a3) (u4 : a4) (u5 : a5) (u6 : a6) (u7 : a7) (u8 : a8) (u9 : a9) (u10 : a10) (u11 : a11) (u12 : a12) (u13 : a13) (u14 : a14) (u15 : a15) (u16 : a16) (u17 : a17) (u18 : a18) (u19 : a19) (u20 : a20), some (Sum.inr (u0, u1, u2, u3, u4, u5, u6, u7, u8, u9, u10, u11, u12, u13, u14, u15, u16, u17, u18, u19, u20)) = some o → k u0 u1 u2 u3 u4 u5 u6 u7 u8 u9 u10 u11 u12 u13 u14 u15 u16 u17 u18 u19 u20 = some r) := by
  cases x with
  | none => cases h
  | some o => exact ⟨o, rfl, fun z e => by cases e; exact Option.some.inj h, fun u0 u1 u2 u3 u4 u5 u6 u7 u8 u9 u10 u11 u12 u13 u14 u15 u16 u17 u18 u19 u20 e => by cases e; exact h⟩
def bn22 {ρ : Type} {a0 a1 a2 a3 a4 a5 a6 a7 a8 a9 a10 a11 a12 a13 a14 a15 a16 a17 a18 a19 a20 a21 : Type} (x : Option (a0 × a1 × a2 × a3 × a4 × a5 × a6 × a7 × a8 × a9 × a10 × a11 × a12 × a13 × a14 × a15 × a16 × a17 × a18 × a19 × a20 × a21)) (k : a0 → a1 → a2 → a3 → a4 → a5 → a6 → a7 → a8 → a9 → a10 → a11 → a12 → a13 → a14 → a15 → a16 → a17 → a18 → a19 → a20 → a21 → Option ρ) : Option ρ := match x with
  | none => none
  | some (u0, u1, u2, u3, u4, u5, u6, u7, u8, u9, u10, u11, u12, u13, u14, u15, u16, u17, u18, u19, u20, u21) => k u0 u1 u2 u3 u4 u5 u6 u7 u8 u9 u10 u11 u12 u13 u14 u15 u16 u17 u18 u19 u20 u21
theorem bn22_s {ρ : Type} {a0 a1 a2 a3 a4 a5 a6 a7 a8 a9 a10 a11 a12 a13 a14 a15 a16 a17 a18 a19 a20 a21 : Type} {x : Option (a0 × a1 × a2 × a3 × a4 × a5 × a6 × a7 × a8 × a9 × a10 × a11 × a12 × a13 × a14 × a15 × a16 × a17 × a18 × a19 × a20 × a21)} {k : a0 → a1 → a2 → a3 → a4 → a5 → a6 → a7 → a8 → a9 → a10 → a11 → a12 → a13 → a14 → a15 → a16 → a17 → a18 → a19 → a20 → a21 → Option ρ} {r : ρ} (h : bn22 x k = some r) : ∃ o : (a0 × a1 × a2 × a3 × a4 × a5 × a6 × a7 × a8 × a9 × a10 × a11 × a12 × a13 × a14 × a15 × a16 × a17 × a18 × a19 × a20 × a21), x = some o ∧ (∀ (u0 : a0) (u1 : a1) (u2 : a2) (u3 : a3) (u4 : a4) (u5 : a5) (u6 : a6) (u7 : a7) (u8 : a8) (u9 : a9) (u10 : a10) (u11 : a11) (u12 : a12) (u13 : a13) (u14 : a14) (u15 : a15) (u16 : a16) (u17 : a17) (u18 : a18) (u19 : a19) (u20 : a20) (u21 : a21), some (u0, u1, u2, u3, u4, u5, u6, u7, u8, u9, u10, u11, u12, u13, u14, u15, u16, u17, u18, u19, u20, u21) = some o → k u0 u1 u2 u3 u4 u5 u6 u7 u8 u9 u10 u11 u12 u13 u14 u15 u16 u17 u18 u19 u20 u21 = some r) := by
  cases x with
  | none => cases h
  | some o => exact ⟨o, rfl, fun u0 u1 u2 u3 u4 u5 u6 u7 u8 u9 u10 u11 u12 u13 u14 u15 u16 u17 u18 u19 u20 u21 e => by cases e; exact h⟩
theorem bn22_c {ρ : Type} {a0 a1 a2 a3 a4 a5 a6 a7 a8 a9 a10 a11 a12 a13 a14 a15 a16 a17 a18 a19 a20 a21 : Type} {x : Option (a0 × a1 × a2 × a3 × a4 × a5 × a6 × a7 × a8 × a9 × a10 × a11 × a12 × a13 × a14 × a15 × a16 × a17 × a18 × a19 × a20 × a21)} {k : a0 → a1 → a2 → a3 → a4 → a5 → a6 → a7 → a8 → a9 → a10 → a11 → a12 → a13 → a14 → a15 → a16 → a17 → a18 → a19 → a20 → a21 → Option ρ} {r : ρ} (h : bn22 x k = some r) : ∃ (u0 : a0) (u1 : a1) (u2 : a2) (u3 : a3) (u4 : a4) (u5 : a5) (u6 : a6) (u7 : a7) (u8 : a8) (u9 : a9) (u10 : a10) (u11 : a11) (u12 : a12) (u13 : a13) (u14 : a14) (u15 : a15) (u16 : a16) (u17 : a17) (u18 : a18) (u19 : a19) (u20 : a20) (u21 : a21), x = some (u0, u1, u2, u3, u4, u5, u6, u7, u8, u9, u10, u11, u12, u13, u14, u15, u16, u17, u18, u19, u20, u21) ∧ k u0 u1 u2 u3 u4 u5 u6 u7 u8 u9 u10 u11 u12 u13 u14 u15 u16 u17 u18 u19 u20 u21 = some r := by
  cases x with
  | none => cases h
  | some o => obtain ⟨u0, u1, u2, u3, u4, u5, u6, u7, u8, u9, u10, u11, u12, u13, u14, u15, u16, u17, u18, u19, u20, u21⟩ := o; exact ⟨u0, u1, u2, u3, u4, u5, u6, u7, u8, u9, u10, u11, u12, u13, u14, u15, u16, u17, u18, u19, u20, u21, rfl, h⟩
def bd22 {ρ : Type} {a0 a1 a2 a3 a4 a5 a6 a7 a8 a9 a10 a11 a12 a13 a14 a15 a16 a17 a18 a19 a20 a21 : Type} (x : Option (ρ ⊕ (a0 × a1 × a2 × a3 × a4 × a5 × a6 × a7 × a8 × a9 × a10 × a11 × a12 × a13 × a14 × a15 × a16 × a17 × a18 × a19 × a20 × a21))) (k : a0 → a1 → a2 → a3 → a4 → a5 → a6 → a7 → a8 → a9 → a10 → a11 → a12 → a13 → a14 → a15 → a16 → a17 → a18 → a19 → a20 → a21 → Option ρ) : Option ρ := match x with
  | none => none
  | some (.inl r) => some r
  | some (.inr (u0, u1, u2, u3, u4, u5, u6, u7, u8, u9, u10, u11, u12, u13, u14, u15, u16, u17, u18, u19, u20, u21)) => k u0 u1 u2 u3 u4 u5 u6 u7 u8 u9 u10 u11 u12 u13 u14 u15 u16 u17 u18 u19 u20 u21
theorem bd22_s {ρ : Type} {a0 a1 a2 a3 a4 a5 a6 a7 a8 a9 a10 a11 a12 a13 a14 a15 a16 a17 a18 a19 a20 a21 : Type} {x : Option (ρ ⊕ (a0 × a1 × a2 × a3 × a4 × a5 × a6 × a7 × a8 × a9 × a10 × a11 × a12 × a13 × a14 × a15 × a16 × a17 × a18 × a19 × a20 × a21))} {k : a0 → a1 → a2 → a3 → a4 → a5 → a6 → a7 → a8 → a9 → a10 → a11 → a12 → a13 → a14 → a15 → a16 → a17 → a18 → a19 → a20 → a21 → Option ρ} {r : ρ} (h : bd22 x k = some r) : ∃ o : ρ ⊕ (a0 × a1 × a2 × a3 × a4 × a5 × a6 × a7 × a8 × a9 × a10 × a11 × a12 × a13 × a14 × a15 × a16 × a17 × a18 × a19 × a20 × a21), x = some o ∧ (∀ z : ρ, some (Sum.inl z) = some o → z = r) ∧ (∀ (u0 : a0) (u1 : a1) (u2 : a2) (u3 : a3) (u4 : a4) (u5 : a5) (u6 : a6) (u7 : a7) (u8 : a8) (u9 : a9) (u10 : a10) (u11 : a11) (u12 : a12) (u13 : a13) (u14 : a14) (u15 : a15) (u16 : a16) (u17 : a17) (u18 : a18) (u19 : a19) (u20 : a20) (u21 : a21), some (Sum.inr (u0, u1, u2, u3, u4, u5, u6, u7, u8, u9, u10, u11, u12, u13, u14, u15, u16, u17, u18, u19, u20, u21)) = some o → k u0 u1 u2 u3 u4 u5 u6 u7 u8 u9 u10 u11 u12 u13 u14 u15 u16 u17 u18 u19 u20 u21 = some r) := by
  cases x with
  | none => cases h
  | some o => exact ⟨o, rfl, fun z e => by cases e; exact Option.some.inj h, fun u0 u1 u2 u3 u4 u5 u6 u7 u8 u9 u10 u11 u12 u13 u14 u15 u16 u17 u18 u19 u20 u21 e => by cases e; exact h⟩
def bn23 {ρ : Type} {a0 a1 a2 a3 a4 a5 a6 a7 a8 a9 a10 a11 a12 a13 a14 a15 a16 a17 a18 a19 a20 a21 a22 : Type} (x : Option (a0 × a1 × a2 × a3 × a4 × a5 × a6 × a7 × a8 × a9 × a10 × a11 × a12 × a13 × a14 × a15 × a16 × a17 × a18 × a19 × a20 × a21 × a22)) (k : a0 → a1 → a2 → a3 → a4 → a5 → a6 → a7 → a8 → a9 → a10 → a11 → a12 → a13 → a14 → a15 → a16 → a17 → a18 → a19 → a20 → a21 → a22 → Option ρ) : Option ρ := match x with
  | none => none
  | some (u0, u1, u2, u3, u4, u5, u6, u7, u8, u9, u10, u11, u12, u13, u14, u15, u16, u17, u18, u19, u20, u21, u22) => k u0 u1 u2 u3 u4 u5 u6 u7 u8 u9 u10 u11 u12 u13 u14 u15 u16 u17 u18 u19 u20 u21 u22
theorem bn23_s {ρ : Type} {a0 a1 a2 a3 a4 a5 a6 a7 a8 a9 a10 a11 a12 a13 a14 a15 a16 a17 a18 a19 a20 a21 a22 : Type} {x : Option (a0 × a1 × a2 × a3 × a4 × a5 × a6 × a7 × a8 × a9 × a10 × a11 × a12 × a13 × a14 × a15 × a16 × a17 × a18 × a19 × a20 × a21 × a22)} {k : a0 → a1 → a2 → a3 → a4 → a5 → a6 → a7 → a8 → a9 → a10 → a11 → a12 → a13 → a14 → a15 → a16 → a17 → a18 → a19 → a20 → a21 → a22 → Option ρ} {r : ρ} (h : bn23 x k = some r) : ∃ o : (a0 × a1 × a2 × a3 × a4 × a5 × a6 × a7 × a8 × a9 × a10 × a11 × a12 × a13 × a14 × a15 × a16 × a17 × a18 × a19 × a20 × a21 × a22), x = some o ∧ (∀ (u0 : a0) (u1 : a1) (u2 : a2) (u3 : a3) (u4 : a4) (u5 : a5) (u6 : a6) (u7 : a7) (u8 : a8) (u9 : a9) (u10 : a10) (u11 : a11) (u12 : a12) (u13 : a13) (u14 : a14) (u15 : a15) (u16 : a16) (u17 : a17) (u18 : a18) (u19 : a19) (u20 : a20) (u21 : a21) (u22 : a22), some (u0, u1, u2, u3, u4, u5, u6, u7, u8, u9, u10, u11, u12, u13, u14, u15, u16, u17, u18, u19, u20, u21, u22) = some o → k u0 u1 u2 u3 u4 u5 u6 u7 u8 u9 u10 u11 u12 u13 u14 u15 u16 u17 u18 u19 u20 u21 u22 = some r) := by
  cases x with
  | none => cases h
  | some o => exact ⟨o, rfl, fun u0 u1 u2 u3 u4 u5 u6 u7 u8 u9 u10 u11 u12 u13 u14 u15 u16 u17 u18 u19 u20 u21 u22 e => by cases e; exact h⟩
theorem bn23_c {ρ : Type} {a0 a1 a2 a3 a4 a5 a6 a7 a8 a9 a10 a11 a12 a13 a14 a15 a16 a17 a18 a19 a20 a21 a22 : Type} {x : Option (a0 × a1 × a2 × a3 × a4 × a5 × a6 × a7 × a8 × a9 × a10 × a11 × a12 × a13 × a14 × a15 × a16 × a17 × a18 × a19 × a20 × a21 × a22)} {k : a0 → a1 → a2 → a3 → a4 → a5 → a6 → a7 → a8 → a9 → a10 → a11 → a12 → a13 → a14 → a15 → a16 → a17 → a18 → a19 → a20 → a21 → a22 → Option ρ} {r : ρ} (h : bn23 x k = some r) : ∃ (u0 : a0) (u1 : a1) (u2 : a2) (u3 : a3) (u4 : a4) (u5 : a5) (u6 : a6) (u7 : a7) (u8 : a8) (u9 : a9) (u10 : a10) (u11 : a11) (u12 : a12) (u13 : a13) (u14 : a14) (u15 : a15) (u16 : a16) (u17 : a17) (u18 : a18) (u19 : a19) (u20 : a20) (u21 : a21) (u22 : a22), x = some (u0, u1, u2, u3, u4, u5, u6, u7, u8, u9, u10, u11, u12, u13, u14, u15, u16, u17, u18, u19, u20, u21, u22) ∧ k u0 u1 u2 u3 u4 u5 u6 u7 u8 u9 u10 u11 u12 u13 u14 u15 u16 u17 u18 u19 u20 u21 u22 = some r := by
  cases x with
  | none => cases h
  | some o => obtain ⟨u0, u1, u2, u3, u4, u5, u6, u7, u8, u9, u10, u11, u12, u13, u14, u15, u16, u17, u18, u19, u20, u21, u22⟩ := o; exact ⟨u0, u1, u2, u3, u4, u5, u6, u7, u8, u9, u10, u11, u12, u13, u14, u15, u16, u17, u18, u19, u20, u21, u22, rfl, h⟩
def bd23 {ρ : Type} {a0 a1 a2 a3 a4 a5 a6 a7 a8 a9 a10 a11 a12 a13 a14 a15 a16 a17 a18 a19 a20 a21 a22 : Type} (x : Option (ρ ⊕ (a0 × a1 × a2 × a3 × a4 × a5 × a6 × a7 × a8 × a9 × a10 × a11 × a12 × a13 × a14 × a15 × a16 × a17 × a18 × a19 × a20 × a21 × a22))) (k : a0 → a1 → a2 → a3 → a4 → a5 → a6 → a7 → a8 → a9 → a10 → a11 → a12 → a13 → a14 → a15 → a16 → a17 → a18 → a19 → a20 → a21 → a22 → Option ρ) : Option ρ := match x with
  | none => none
  | some (.inl r) => some r
  | some (.inr (u0, u1, u2, u3, u4, u5, u6, u7, u8, u9, u10, u11, u12, u13, u14, u15, u16, u17, u18, u19, u20, u21, u22)) => k u0 u1 u2 u3 u4 u5 u6 u7 u8 u9 u10 u11 u12 u13 u14 u15 u16 u17 u18 u19 u20 u21 u22
theorem bd23_s {ρ : Type} {a0 a1 a2 a3 a4 a5 a6 a7 a8 a9 a10 a11 a12 a13 a14 a15 a16 a17 a18 a19 a20 a21 a22 : Type} {x : Option (ρ ⊕ (a0 × a1 × a2 × a3 × a4 × a5 × a6 × a7 × a8 × a9 × a10 × a11 × a12 × a13 × a14 × a15 × a16 × a17 × a18 × a19 × a20 × a21 × a22))} {k : a0 → a1 → a2 → a3 → a4 → a5 → a6 → a7 → a8 → a9 → a10 → a11 → a12 → a13 → a14 → a15 → a16 → a17 → a18 → a19 → a20 → a21 → a22 → Option ρ} {r : ρ} (h : bd23 x k = some r) : ∃ o : ρ ⊕ (a0 × a1 × a2 × a3 × a4 × a5 × a6 × a7 × a8 × a9 × a10 × a11 × a12 × a13 × a14 × a15 × a16 × a17 × a18 × a19 × a20 × a21 × a22), x = some o ∧ (∀ z : ρ, some (Sum.inl z) = some o → z = r) ∧ (∀ (u0 : a0) (u1 : a1) (u2 : a2) (u3 : a3) (u4 : a4) (u5 : a5) (u6 : a6) (u7 : a7) (u8 : a8) (u9 : a9) (u10 : a10) (u11 : a11) (u12 : a12) (u13 : a13) (u14 : a14) (u15 : a15) (u16 : a16) (u17 : a17) (u18 : a18) (u19 : a19) (u20 : a20) (u21 : a21) (u22 : a22), some (Sum.inr (u0, u1, u2, u3, u4, u5, u6, u7, u8, u9, u10, u11, u12, u13, u14, u15, u16, u17, u18, u19, u20, u21, u22)) = some o → k u0 u1 u2 u3 u4 u5 u6 u7 u8 u9 u10 u11 u12 u13 u14 u15 u16 u17 u18 u19 u20 u21 u22 = some r) := by
  cases x with
  | none => cases h
  | some o => exact ⟨o, rfl, fun z e => by cases e; exact Option.some.inj h, fun u0 u1 u2 u3 u4 u5 u6 u7 u8 u9 u10 u11 u12 u13 u14 u15 u16 u17 u18 u19 u20 u21 u22 e => by cases e; exact h⟩
def bn24 {ρ : Type} {a0 a1 a2 a3 a4 a5 a6 a7 a8 a9 a10 a11 a12 a13 a14 a15 a16 a17 a18 a19 a20 a21 a22 a23 : Type} (x : Option (a0 × a1 × a2 × a3 × a4 × a5 × a6 × a7 × a8 × a9 × a10 × a11 × a12 × a13 × a14 × a15 × a16 × a17 × a18 × a19 × a20 × a21 × a22 × a23)) (k : a0 → a1 → a2 → a3 → a4 → a5 → a6 → a7 → a8 → a9 → a10 → a11 → a12 → a13 → a14 → a15 → a16 → a17 → a18 → a19 → a20 → a21 → a22 → a23 → Option ρ) : Option ρ := match x with
  | none => none
  | some (u0, u1, u2, u3, u4, u5, u6, u7, u8, u9, u10, u11, u12, u13, u14, u15, u16, u17, u18, u19, u20, u21, u22, u23) => k u0 u1 u2 u3 u4 u5 u6 u7 u8 u9 u10 u11 u12 u13 u14 u15 u16 u17 u18 u19 u20 u21 u22 u23
theorem bn24_s {ρ : Type} {a0 a1 a2 a3 a4 a5 a6 a7 a8 a9 a10 a11 a12 a13 a14 a15 a16 a17 a18 a19 a20 a21 a22 a23 : Type} {x : Option (a0 × a1 × a2 × a3 × a4 × a5 × a6 × a7 × a8 × a9 × a10 × a11 × a12 × a13 × a14 × a15 × a16 × a17 × a18 × a19 × a20 × a21 × a22 × a23)} {k : a0 → a1 → a2 → a3 → a4 → a5 → a6 → a7 → a8 → a9 → a10 → a11 → a12 → a13 → a14 → a15 → a16 → a17 → a18 → a19 → a20 → a21 → a22 → a23 → Option ρ} {r : ρ} (h : bn24 x k = some r) : ∃ o : (a0 × a1 × a2 × a3 × a4 × a5 × a6 × a7 × a8 × a9 × a10 × a11 × a12 × a13 × a14 × a15 × a16 × a17 × a18 × a19 × a20 × a21 × a22 × a23), x = some o ∧ (∀ (u0 : a0) (u1 : a1) (u2 : a2) (u3 : a3) (u4 : a4) (u5 : a5) (u6 : a6) (u7 : a7) (u8 : a8) (u9 : a9) (u10 : a10) (u11 : a11) (u12 : a12) (u13 : a13) (u14 : a14) (u15 : a15) (u16 : a16) (u17 : a17) (u18 : a18) (u19 : a19) (u20 : a20) (u21 : a21) (u22 : a22) (u23 : a23), some (u0, u1, u2, u3, u4, u5, u6, u7, u8, u9, u10, u11, u12, u13, u14, u15, u16, u17, u18, u19, u20, u21, u22, u23) = some o → k u0 u1 u2 u3 u4 u5 u6 u7 u8 u9 u10 u11 u12 u13 u14 u15 u16 u17 u18 u19 u20 u21 u22 u23 = some r) := by
  cases x with
  | none => cases h
  | some o => exact ⟨o, rfl, fun u0 u1 u2 u3 u4 u5 u6 u7 u8 u9 u10 u11 u12 u13 u14 u15 u16 u17 u18 u19 u20 u21 u22 u23 e => by cases e; exact h⟩
theorem bn24_c {ρ : Type} {a0 a1 a2 a3 a4 a5 a6 a7 a8 a9 a10 a11 a12 a13 a14 a15 a16 a17 a18 a19 a20 a21 a22 a23 : Type} {x : Option (a0 × a1 × a2 × a3 × a4 × a5 × a6 × a7 × a8 × a9 × a10 × a11 × a12 × a13 × a14 × a15 × a16 × a17 × a18 × a19 × a20 × a21 × a22 × a23)} {k : a0 → a1 → a2 → a3 → a4 → a5 → a6 → a7 → a8 → a9 → a10 → a11 → a12 → a13 → a14 → a15 → a16 → a17 → a18 → a19 → a20 → a21 → a22 → a23 → Option ρ} {r : ρ} (h : bn24 x k = some r) : ∃ (u0 : a0) (u1 : a1) (u2 : a2) (u3 : a3) (u4 : a4) (u5 : a5) (u6 : a6) (u7 : a7) (u8 : a8) (u9 : a9) (u10 : a10) (u11 : a11) (u12 : a12) (u13 : a13) (u14 : a14) (u15 : a15) (u16 : a16) (u17 : a17) (u18 : a18) (u19 : a19) (u20 : a20) (u21 : a21) (u22 : a22) (u23 : a23), x = some (u0, u1, u2, u3, u4, u5, u6, u7, u8, u9, u10, u11, u12, u13, u14, u15, u16, u17, u18, u19, u20, u21, u22, u23) ∧ k u0 u1 u2 u3 u4 u5 u6 u7 u8 u9 u10 u11 u12 u13 u14 u15 u16 u17 u18 u19 u20 u21 u22 u23 = some r := by
  cases x with
  | none => cases h
  | some o => obtain ⟨u0, u1, u2, u3, u4, u5, u6, u7, u8, u9, u10, u11, u12, u13, u14, u15, u16, u17, u18, u19, u20, u21, u22, u23⟩ := o; exact ⟨u0, u1, u2, u3, u4, u5, u6, u7, u8, u9, u10, u11, u12, u13, u14, u15, u16, u17, u18, u19, u20, u21, u22, u23, rfl, h⟩
def bd24 {ρ : Type} {a0 a1 a2 a3 a4 a5 a6 a7 a8 a9 a10 a11 a12 a13 a14 a15 a16 a17 a18 a19 a20 a21 a22 a23 : Type} (x : Option (ρ ⊕ (a0 × a1 × a2 × a3 × a4 × a5 × a6 × a7 × a8 × a9 × a10 × a11 × a12 × a13 × a14 × a15 × a16 × a17 × a18 × a19 × a20 × a21 × a22 × a23))) (k : a0 → a1 → a2 → a3 → a4 → a5 → a6 → a7 → a8 → a9 → a10 → a11 → a12 → a13 → a14 → a15 → a16 → a17 → a18 → a19 → a20 → a21 → a22 → a23 → Option ρ) : Option ρ := match x with
  | none => none
  | some (.inl r) => some r
  | some (.inr (u0, u1, u2, u3, u4, u5, u6, u7, u8, u9, u10, u11, u12, u13, u14, u15, u16, u17, u18, u19, u20, u21, u22, u23)) => k u0 u1 u2 u3 u4 u5 u6 u7 u8 u9 u10 u11 u12 u13 u14 u15 u16 u17 u18 u19 u20 u21 u22 u23
theorem bd24_s {ρ : Type} {a0 a1 a2 a3 a4 a5 a6 a7 a8 a9 a10 a11 a12 a13 a14 a15 a16 a17 a18 a19 a20 a21 a22 a23 : Type} {x : Option (ρ ⊕ (a0 × a1 × a2 × a3 × a4 × a5 × a6 × a7 × a8 × a9 × a10 × a11 × a12 × a13 × a14 × a15 × a16 × a17 × a18 × a19 × a20 × a21 × a22 × a23))} {k : a0 → a1 → a2 → a3 → a4 → a5 → a6 → a7 → a8 → a9 → a10 → a11 → a12 → a13 → a14 → a15 → a16 → a17 → a18 → a19 → a20 → a21 → a22 → a23 → Option ρ} {r : ρ} (h : bd24 x k = some r) : ∃ o : ρ ⊕ (a0 × a1 × a2 × a3 × a4 × a5 × a6 × a7 × a8 × a9 × a10 × a11 × a12 × a13 × a14 × a15 × a16 × a17 × a18 × a19 × a20 × a21 × a22 × a23), x = some o ∧ (∀ z : ρ, some (Sum.inl z) = some o → z = r) ∧ (∀ (u0 : a0) (u1 : a1) (u2 : a2) (u3 : a3) (u4 : a4) (u5 : a5) (u6 : a6) (u7 : a7) (u8 : a8) (u9 : a9) (u10 : a10) (u11 : a11) (u12 : a12) (u13 : a13) (u14 : a14) (u15 : a15) (u16 : a16) (u17 : a17) (u18 : a18) (u19 : a19) (u20 : a20) (u21 : a21) (u22 : a22) (u23 : a23), some (Sum.inr (u0, u1, u2, u3, u4, u5, u6, u7, u8, u9, u10, u11, u12, u13, u14, u15, u16, u17, u18, u19, u20, u21, u22, u23)) = some o → k u0 u1 u2 u3 u4 u5 u6 u7 u8 u9 u10 u11 u12 u13 u14 u15 u16 u17 u18 u19 u20 u21 u22 u23 = some r) := by
  cases x with
  | none => cases h
  | some o => exact ⟨o, rfl, fun z e => by cases e; exact Option.some.inj h, fun u0 u1 u2 u3 u4 u5 u6 u7 u8 u9 u10 u11 u12 u13 u14 u15 u16 u17 u18 u19 u20 u21 u22 u23 e => by cases e; exact h⟩
