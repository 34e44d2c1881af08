/-! cost, filter; what is asked of a plan made and of rows made: of program and reference -/
theorem num_cases (x : Int32) (n : Nat) (hn : n < 2 ^ 31) : (x < 0 ∨ nI n ≤ x) ∨ ∃ j, j < n ∧ x = nI j := by
  by_cases h : x < 0
  · exact Or.inl (Or.inl h)
  · obtain ⟨j, hj, e⟩ := nI_of h
    subst e
    by_cases h2 : j < n
    · exact Or.inr ⟨j, h2, rfl⟩
    · exact Or.inl (Or.inr (nI_le (by omega) hj))
theorem c_hasP (x : Int32) {n : Nat} (hn : n < 2 ^ 31) : tf (f_Patterns_has x (nI n)) (∃ j, j < n ∧ x = nI j) := by
  rw [f_Patterns_has_u]
  by_cases h : x < 0
  · rw [if_pos h]
    exact tf_f (fun ⟨j, hj, e⟩ => by subst e; exact nI_pos (by omega) h)
  · rw [if_neg h]
    by_cases h2 : nI n ≤ x
    · rw [if_pos h2]
      exact tf_f (fun ⟨j, hj, e⟩ => by subst e; exact nI_ge hj hn h2)
    · rw [if_neg h2]
      rcases num_cases x n hn with (h3 | h3) | h3
      · exact absurd h3 h
      · exact absurd h3 h2
      · exact tf_t h3
theorem c_hasM (x : Int32) {n : Nat} (hn : n < 2 ^ 31) : tf (f_Plan_has x (nI n)) (∃ j, j < n ∧ x = nI j) := c_hasP x hn
theorem q_isPat (x : Int32) {n : Nat} (hn : n < 2 ^ 31) : tf (f_JoinOrderModel_isPattern x (nI n)) (∃ j, j < n ∧ x = nI j) := c_hasP x hn
theorem told_iff {x : Int32} : (¬ x < -1 ∧ x ≤ 100) ↔ ∃ c, c ≤ 101 ∧ x = nI c - 1 := by
  constructor
  · rintro ⟨h1, h2⟩
    by_cases h : x < 0
    · have k1 : x.toInt < 0 := Int32.lt_iff_toInt_lt.mp h
      have k2 : ¬ x.toInt < -1 := fun k => h1 (Int32.lt_iff_toInt_lt.mpr k)
      exact ⟨0, by omega, Int32.toInt_inj.mp ((show x.toInt = -1 by omega).trans (by decide))⟩
    · obtain ⟨j, hj, e⟩ := nI_of h
      subst e
      exact ⟨j + 1, by have := (nI_leI (b := 100) hj (by decide)).mp h2; omega, (nI_pred j).symm⟩
  · rintro ⟨c, hc, e⟩
    subst e
    have : ∀ c, c < 102 → ¬ nI c - 1 < -1 ∧ nI c - 1 ≤ 100 := by decide +kernel
    exact this c (by omega)
noncomputable def sCost (np : Nat) (td : Nat → Nat) (x1 x2 : Int32) : Int32 × (Nat → Nat) := @ite _ (∃ j, j < np ∧ x1 = nI j) (Classical.propDecidable _) (if ¬ x2 < -1 ∧ x2 ≤ 100 then (1, fun p => if p = x1.toNatClampNeg then (x2 + 1).toNatClampNeg else td p) else (-2, td)) (-1, td)
theorem m1p1 {c : Nat} : nI c - 1 + 1 = nI c := by
  rw [Int32.sub_add_cancel]
theorem c_cost {np : Nat} {td : Nat → Nat} {x1 x2 : Int32} {Td : Nat → Int32} (hp : np ≤ 8) (h : ∀ p, p < np → td p ≤ 101 ∧ Td p = nI (td p) - 1) :
    ok (f_JoinOrder_cost x1 x2 (nI np) Td) (fun o => o.1 = (sCost np td x1 x2).1 ∧ ∀ p, p < np → (sCost np td x1 x2).2 p ≤ 101 ∧ o.2 p = nI ((sCost np td x1 x2).2 p) - 1) := by
  rw [f_JoinOrder_cost_u]
  refine ok_b _ (tf_0 (c_hasP x1 (by omega))) (fun h1 => ok_s (by unfold sCost; rw [if_neg h1]; exact ⟨rfl, h⟩)) (fun h1 => ?_)
  have h1 := Classical.not_not.mp h1
  have e1 : sCost np td x1 x2 = if ¬ x2 < -1 ∧ x2 ≤ 100 then (1, fun p => if p = x1.toNatClampNeg then (x2 + 1).toNatClampNeg else td p) else (-2, td) := if_pos h1
  rw [e1]
  obtain ⟨j, hj, e⟩ := h1
  subst e
  refine ok_if (fun h2 => ok_s (by rw [if_neg (fun h3 => h3.1 h2)]; exact ⟨rfl, h⟩)) (fun h2 => ?_)
  refine ok_if (fun h3 => ?_) (fun h3 => ok_s (by rw [if_neg (fun h4 => h3 h4.2)]; exact ⟨rfl, h⟩))
  rw [if_pos ⟨h2, h3⟩]
  obtain ⟨c, hc, e2⟩ := told_iff.mp ⟨h2, h3⟩
  subst e2
  refine ok_gd j rfl (by omega) (by decide) ?_
  rw [nI_clamp (by omega : j < 2 ^ 31), m1p1, nI_clamp (by omega : c < 2 ^ 31)]
  refine ok_nm (ok_s ⟨rfl, fun p hp2 => ?_⟩)
  simp only
  by_cases e : p = j
  · subst e
    rw [if_pos rfl, pk_us]
    exact ⟨hc, rfl⟩
  · rw [if_neg e, pk_un e]
    exact h p hp2
theorem q_cost {np : Nat} {td : Nat → Nat} {x1 x2 : Int32} {Td : Nat → Int32} (hp : np ≤ 8) (h : ∀ p, p < np → td p ≤ 101 ∧ Td p = nI (td p) - 1) :
    ok (f_JoinOrderModel_cost x1 x2 (nI np) Td) (fun o => o.1 = (sCost np td x1 x2).1 ∧ ∀ p, p < np → (sCost np td x1 x2).2 p ≤ 101 ∧ o.2 p = nI ((sCost np td x1 x2).2 p) - 1) := c_cost hp h
theorem sCost_fresh {np : Nat} {td : Nat → Nat} {x1 x2 : Int32} (hp : np ≤ 8) (h : ∀ p, np ≤ p → td p = 0) : ∀ p, np ≤ p → (sCost np td x1 x2).2 p = 0 := by
  intro p hp2
  by_cases h1 : ∃ j, j < np ∧ x1 = nI j
  · have e1 : sCost np td x1 x2 = if ¬ x2 < -1 ∧ x2 ≤ 100 then (1, fun p => if p = x1.toNatClampNeg then (x2 + 1).toNatClampNeg else td p) else (-2, td) := if_pos h1
    rw [e1]
    obtain ⟨j, hj, e⟩ := h1
    subst e
    rw [nI_clamp (by omega : j < 2 ^ 31)]
    split
    · simp only
      rw [if_neg (by omega)]
      exact h p hp2
    · exact h p hp2
  · have e1 : sCost np td x1 x2 = (-1, td) := if_neg h1
    rw [e1]
    exact h p hp2
/-! filter -/
def CF (nf : Nat) (fv fk fx : Nat → Nat) (sf : Nat) (Fs Fc : Int32) (V K X : Nat → Int32) : Prop := FL nf fv fk fx V K X ∧ Fc = nI nf ∧ Fs = nI sf ∧ sf < 2 ^ nf
def QF (nf : Nat) (fv fk fx : Nat → Nat) (sf : Nat) (Rc : Int32) (L K X Z : Nat → Int32) : Prop := nf ≤ 8 ∧ Rc = nI nf ∧ ∀ f, f < nf → fv f < 8 ∧ fk f < 4 ∧ fx f < 32 ∧ L f = slv (32 + fv f) ∧ K f = nI (fk f) ∧ X f = nI (fx f) ∧ tf (Z f) (sf.testBit f = true)
def filOk (x1 x2 x3 : Int32) : Prop := vrb x1 ∧ (¬ x2 < 0 ∧ x2 < 4) ∧ trm x3
def fU (f : Nat → Nat) (k c : Nat) : Nat → Nat := fun i => if i = k then c else f i
noncomputable def sFil (nf : Nat) (x1 x2 x3 : Int32) : Int32 := @ite _ (filOk x1 x2 x3) (Classical.propDecidable _) (if 8 ≤ nf then -4 else nI nf) (-2)
/-- a filter came: its number, and what it is -/
def newF (nf : Nat) (fv fk fx : Nat → Nat) (sf : Nat) (x1 x2 x3 x4 : Int32) (nf' : Nat) (fv' fk' fx' : Nat → Nat) (sf' : Nat) : Prop := (filOk x1 x2 x3 ∧ nf < 8 ∧ ∃ v k x, v < 8 ∧ k < 4 ∧ x < 32 ∧ x1 = slv (32 + v) ∧ x2 = nI k ∧ x3 = nI x ∧ nf' = nf + 1 ∧ fv' = fU fv nf v ∧ fk' = fU fk nf k ∧ fx' = fU fx nf x ∧ sf' = if x4 = 0 then sf else sf ||| 2 ^ nf) ∨ (¬ (filOk x1 x2 x3 ∧ nf < 8) ∧ nf' = nf ∧ fv' = fv ∧ fk' = fk ∧ fx' = fx ∧ sf' = sf)
theorem newF_ex (nf : Nat) (fv fk fx : Nat → Nat) (sf : Nat) (x1 x2 x3 x4 : Int32) : ∃ nf' fv' fk' fx' sf', newF nf fv fk fx sf x1 x2 x3 x4 nf' fv' fk' fx' sf' := by
  by_cases h : filOk x1 x2 x3 ∧ nf < 8
  · obtain ⟨v, hv, e1⟩ := vrb_iff.mp h.1.1
    obtain ⟨x, hx, e3⟩ := trm_iff.mp h.1.2.2
    obtain ⟨k, hk, e2⟩ := nI_of h.1.2.1.1
    have hk4 : k < 4 := (nI_ltI (b := 4) hk (by decide)).mp (e2 ▸ h.1.2.1.2)
    exact ⟨_, _, _, _, _, Or.inl ⟨h.1, h.2, v, k, x, hv, hk4, hx, e1, e2, e3, rfl, rfl, rfl, rfl, rfl⟩⟩
  · exact ⟨_, _, _, _, _, Or.inr ⟨h, rfl, rfl, rfl, rfl, rfl⟩⟩
