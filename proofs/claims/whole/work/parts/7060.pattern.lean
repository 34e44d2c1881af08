/-! pattern: slots, sets of variables -/
def vrb (x : Int32) : Prop := x < 0 ∧ -8 ≤ x
def slt (x : Int32) : Prop := trm x ∨ vrb x
theorem vrb_iff {x : Int32} : vrb x ↔ ∃ v, v < 8 ∧ x = slv (32 + v) := by
  constructor
  · rintro ⟨h1, h2⟩
    have k1 : x.toInt < 0 := by
      have := Int32.lt_iff_toInt_lt.mp h1
      exact this
    have k2 : -8 ≤ x.toInt := by
      have := Int32.le_iff_toInt_le.mp h2
      exact this
    have h : x.toInt = -1 ∨ x.toInt = -2 ∨ x.toInt = -3 ∨ x.toInt = -4 ∨ x.toInt = -5 ∨ x.toInt = -6 ∨ x.toInt = -7 ∨ x.toInt = -8 := by omega
    rcases h with h | h | h | h | h | h | h | h
    · exact ⟨0, by decide, Int32.toInt_inj.mp (h.trans (by decide))⟩
    · exact ⟨1, by decide, Int32.toInt_inj.mp (h.trans (by decide))⟩
    · exact ⟨2, by decide, Int32.toInt_inj.mp (h.trans (by decide))⟩
    · exact ⟨3, by decide, Int32.toInt_inj.mp (h.trans (by decide))⟩
    · exact ⟨4, by decide, Int32.toInt_inj.mp (h.trans (by decide))⟩
    · exact ⟨5, by decide, Int32.toInt_inj.mp (h.trans (by decide))⟩
    · exact ⟨6, by decide, Int32.toInt_inj.mp (h.trans (by decide))⟩
    · exact ⟨7, by decide, Int32.toInt_inj.mp (h.trans (by decide))⟩
  · rintro ⟨v, hv, e⟩
    subst e
    have : ∀ v, v < 8 → slv (32 + v) < 0 ∧ -8 ≤ slv (32 + v) := by decide +kernel
    exact this v hv
theorem slt_iff {x : Int32} : slt x ↔ ∃ c, c < 40 ∧ x = slv c := by
  constructor
  · rintro (h | h)
    · obtain ⟨s, hs, e⟩ := trm_iff.mp h
      exact ⟨s, by omega, by rw [slv_term hs]; exact e⟩
    · obtain ⟨v, hv, e⟩ := vrb_iff.mp h
      exact ⟨32 + v, by omega, e⟩
  · rintro ⟨c, hc, e⟩
    by_cases h : c < 32
    · rw [slv_term h] at e
      exact Or.inl (trm_iff.mpr ⟨c, h, e⟩)
    · exact Or.inr (vrb_iff.mpr ⟨c - 32, by omega, by rw [show 32 + (c - 32) = c by omega]; exact e⟩)
theorem c_isVar (x : Int32) : tf (f_JoinOrder_isVariable x) (vrb x) := by
  rw [f_JoinOrder_isVariable_u]
  by_cases h1 : 0 ≤ x
  · rw [if_pos h1]
    exact tf_f (fun h => absurd h.1 (Int32.not_lt.mpr h1))
  · rw [if_neg h1]
    by_cases h2 : x < (-8 : Int32)
    · rw [if_pos h2]
      exact tf_f (fun h => absurd h2 (Int32.not_lt.mpr h.2))
    · rw [if_neg h2]
      exact tf_t ⟨Int32.not_le.mp h1, Int32.not_lt.mp h2⟩
theorem m1_lt {x : Int32} : (-1 : Int32) < x ↔ 0 ≤ x := by
  rw [Int32.lt_iff_toInt_lt, Int32.le_iff_toInt_le]
  show (-1 : Int) < x.toInt ↔ (0 : Int) ≤ x.toInt
  omega
theorem q_isVar (x : Int32) : tf (f_JoinOrderModel_isVariable x) (vrb x) := by
  rw [f_JoinOrderModel_isVariable_u]
  by_cases h1 : 0 ≤ x
  · rw [if_pos (m1_lt.mpr h1)]
    exact tf_f (fun h => absurd h.1 (Int32.not_lt.mpr h1))
  · rw [if_neg (fun h => h1 (m1_lt.mp h))]
    by_cases h2 : x < (-8 : Int32)
    · rw [if_pos h2]
      exact tf_f (fun h => absurd h2 (Int32.not_lt.mpr h.2))
    · rw [if_neg h2]
      exact tf_t ⟨Int32.not_le.mp h1, Int32.not_lt.mp h2⟩
theorem c_isSlot (x : Int32) : tf (f_JoinOrder_isSlot x) (slt x) := by
  rw [f_JoinOrder_isSlot_u]
  rcases c_isTerm x with ⟨e, d⟩ | ⟨e, d⟩
  · rw [e, if_neg (by decide)]
    exact tf_t (Or.inl d)
  · rw [e, if_pos rfl]
    rcases c_isVar x with ⟨e2, d2⟩ | ⟨e2, d2⟩
    · rw [e2, if_neg (by decide)]
      exact tf_t (Or.inr d2)
    · rw [e2, if_pos rfl]
      exact tf_f (fun h => h.elim d d2)
theorem q_isCell (x : Int32) : tf (f_JoinOrderModel_isCell x) (slt x) := by
  rw [f_JoinOrderModel_isCell_u]
  rcases q_isTerm x with ⟨e, d⟩ | ⟨e, d⟩
  · rw [e, if_neg (by decide)]
    exact tf_t (Or.inl d)
  · rw [e, if_pos rfl]
    rcases q_isVar x with ⟨e2, d2⟩ | ⟨e2, d2⟩
    · rw [e2, if_neg (by decide)]
      exact tf_t (Or.inr d2)
    · rw [e2, if_pos rfl]
      exact tf_f (fun h => h.elim d d2)
/-- a slot's code -/
def slc (x : Int32) : Nat := if 0 ≤ x then x.toNatClampNeg else 32 + (-1 - x).toNatClampNeg
theorem slc_slv : ∀ c, c < 40 → slc (slv c) = c := by decide +kernel
noncomputable def sPat (np : Nat) (sl : Nat → Nat → Nat) (x1 x2 x3 : Int32) : Int32 × Nat × (Nat → Nat → Nat) := @ite _ (slt x1 ∧ slt x2 ∧ slt x3) (Classical.propDecidable _) (if 8 ≤ np then (-4, np, sl) else (nI np, np + 1, fun p k => if p = np then (if k = 0 then slc x1 else if k = 1 then slc x2 else slc x3) else sl p k)) (-2, np, sl)
theorem sPat_no {np : Nat} {sl : Nat → Nat → Nat} {x1 x2 x3 : Int32} (h : ¬ (slt x1 ∧ slt x2 ∧ slt x3)) : sPat np sl x1 x2 x3 = (-2, np, sl) := if_neg h
theorem sPat_at {np : Nat} {sl : Nat → Nat → Nat} {a b c : Nat} (ha : a < 40) (hb : b < 40) (hc : c < 40) : sPat np sl (slv a) (slv b) (slv c) = if 8 ≤ np then (-4, np, sl) else (nI np, np + 1, fun p k => if p = np then (if k = 0 then a else if k = 1 then b else c) else sl p k) := by
  unfold sPat
  rw [if_pos ⟨slt_iff.mpr ⟨a, ha, rfl⟩, slt_iff.mpr ⟨b, hb, rfl⟩, slt_iff.mpr ⟨c, hc, rfl⟩⟩, slc_slv a ha, slc_slv b hb, slc_slv c hc]
/-! the program's sets of variables -/
theorem isS_add {x : Int32} {P : Nat → Prop} {k : Nat} (h : isS x P 8) (hk : k < 8) : isS (x ||| ((1 : Int32) <<< (nI k &&& 31))) (fun i => P i ∨ i = k) 8 := by
  obtain ⟨m, h1, h2, h3⟩ := h
  subst h2
  rw [m_sh (by omega), m_or]
  refine ⟨m ||| 2 ^ k, or_lt (k := 8) h1 (p2_lt hk), rfl, fun i hi => ?_⟩
  rw [bit_or, bit_p2, h3 i hi]
  constructor
  · rintro (h | h)
    · exact ⟨hi, Or.inl h.2⟩
    · exact ⟨hi, Or.inr h.symm⟩
  · rintro ⟨_, h | h⟩
    · exact Or.inl ⟨hi, h⟩
    · exact Or.inr h.symm
theorem isS_iff {x : Int32} {P P' : Nat → Prop} {k : Nat} (h : isS x P k) (e : ∀ i, i < 8 → (P i ↔ P' i)) : isS x P' k := by
  obtain ⟨m, h1, h2, h3⟩ := h
  exact ⟨m, h1, h2, fun i hi => (h3 i hi).trans ⟨fun h => ⟨h.1, (e i hi).mp h.2⟩, fun h => ⟨h.1, (e i hi).mpr h.2⟩⟩⟩
def VH (PV : Nat → Nat → Prop) (V H : Nat → Int32) : Prop := (∀ q, q < 8 → isS (V q) (PV q) 8) ∧ (∀ v, v < 8 → isS (H v) (fun q => PV q v) 8)
theorem VH_iff {PV PW : Nat → Nat → Prop} {V H : Nat → Int32} (h : VH PV V H) (e : ∀ q v, q < 8 → v < 8 → (PV q v ↔ PW q v)) : VH PW V H :=
  ⟨fun q hq => isS_iff (h.1 q hq) (fun v hv => e q v hq hv), fun v hv => isS_iff (h.2 v hv) (fun q hq => e q v hq hv)⟩
theorem c_putSlot {p k c : Nat} {S V H : Nat → Int32} {PV : Nat → Nat → Prop} (hp : p < 8) (hk : k < 3) (hc : c < 40) (h : VH PV V H) : ok (f_Patterns_putSlot (nI p) (nI k) (slv c) S V H) (fun o => o.1 = upd S (p * 3 + k) (slv c) ∧ VH (fun q v => PV q v ∨ (q = p ∧ c = 32 + v)) o.2.1 o.2.2) := by
  rw [f_Patterns_putSlot_u, ix3]
  refine ok_gd (p * 3 + k) rfl (by omega) (by decide) ?_
  rw [nI_clamp (by omega : p * 3 + k < 2 ^ 31)]
  refine ok_nm ?_
  refine ok_b (c < 32) (slv_pos c hc) (fun h1 => ok_s ⟨rfl, VH_iff h (fun q v _ _ => ⟨Or.inl, fun h2 => h2.elim id (fun h3 => by omega)⟩)⟩) (fun h1 => ?_)
  refine ok_gd p rfl hp (by decide) ?_
  rw [nI_clamp (by omega : p < 2 ^ 31), slv_ix c hc (by omega)]
  refine ok_nm (ok_nm ?_)
  refine ok_gd (c - 32) rfl (by omega) (by decide) ?_
  rw [nI_clamp (by omega : c - 32 < 2 ^ 31)]
  refine ok_nm (ok_nm (ok_s ⟨rfl, fun q hq => ?_, fun v hv => ?_⟩))
  · simp only
    by_cases e : q = p
    · subst e
      rw [pk_us]
      exact isS_iff (isS_add (h.1 q hq) (by omega)) (fun v hv => ⟨fun h2 => h2.elim Or.inl (fun h3 => Or.inr ⟨rfl, by omega⟩), fun h2 => h2.elim Or.inl (fun h3 => Or.inr (by omega))⟩)
    · rw [pk_un e]
      exact isS_iff (h.1 q hq) (fun v hv => ⟨Or.inl, fun h2 => h2.elim id (fun h3 => absurd h3.1 e)⟩)
  · simp only
    by_cases e : v = c - 32
    · subst e
      rw [pk_us]
      exact isS_iff (isS_add (h.2 _ hv) hp) (fun q hq => ⟨fun h2 => h2.elim Or.inl (fun h3 => Or.inr ⟨h3, by omega⟩), fun h2 => h2.elim Or.inl (fun h3 => Or.inr h3.1)⟩)
    · rw [pk_un e]
      exact isS_iff (h.2 v hv) (fun q hq => ⟨Or.inl, fun h2 => h2.elim id (fun h3 => by omega)⟩)
