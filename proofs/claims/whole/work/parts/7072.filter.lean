/-! filter, of program and reference -/
theorem fU_s {f : Nat → Nat} {k c : Nat} : fU f k c k = c := if_pos rfl
theorem fU_n {f : Nat → Nat} {k c i : Nat} (h : i ≠ k) : fU f k c i = f i := if_neg h
theorem lt4 {x : Int32} : (4 : Int32) ≤ x ↔ ¬ x < 4 := by
  rw [Int32.not_lt]
theorem lt3 {x : Int32} : (3 : Int32) < x ↔ ¬ x < 4 := by
  rw [Int32.not_lt, Int32.lt_iff_toInt_lt, Int32.le_iff_toInt_le]
  show (3 : Int) < x.toInt ↔ (4 : Int) ≤ x.toInt
  omega
theorem c_filter {nf sf nf' sf' : Nat} {fv fk fx fv' fk' fx' : Nat → Nat} {x1 x2 x3 x4 Fs Fc : Int32} {V K X : Nat → Int32} (h : CF nf fv fk fx sf Fs Fc V K X) (hw : newF nf fv fk fx sf x1 x2 x3 x4 nf' fv' fk' fx' sf') :
    ok (f_JoinOrder_filter x1 x2 x3 x4 Fs Fc V K X) (fun o => o.1 = sFil nf x1 x2 x3 ∧ CF nf' fv' fk' fx' sf' o.2.1 o.2.2.1 o.2.2.2.1 o.2.2.2.2.1 o.2.2.2.2.2) := by
  have no : ∀ r : Int32, ¬ (filOk x1 x2 x3 ∧ nf < 8) → r = sFil nf x1 x2 x3 → ok (some (r, Fs, Fc, V, K, X)) (fun o => o.1 = sFil nf x1 x2 x3 ∧ CF nf' fv' fk' fx' sf' o.2.1 o.2.2.1 o.2.2.2.1 o.2.2.2.2.1 o.2.2.2.2.2) := fun r hh hr => by
    rcases hw with ⟨w1, w2, _⟩ | ⟨_, w1, w2, w3, w4, w5⟩
    · exact absurd ⟨w1, w2⟩ hh
    · subst w1 w2 w3 w4 w5
      exact ok_s ⟨hr, h⟩
  have sno : ¬ filOk x1 x2 x3 → sFil nf x1 x2 x3 = -2 := fun hh => if_neg hh
  rw [f_JoinOrder_filter_u]
  refine ok_b _ (tf_0 (c_isVar x1)) (fun h1 => no _ (fun g => h1 g.1.1) (sno (fun g => h1 g.1)).symm) (fun h1 => ?_)
  refine ok_if (fun h2 => no _ (fun g => g.1.2.1.1 h2) (sno (fun g => g.2.1.1 h2)).symm) (fun h2 => ?_)
  refine ok_b _ lt4 (fun h3 => no _ (fun g => h3 g.1.2.1.2) (sno (fun g => h3 g.2.1.2)).symm) (fun h3 => ?_)
  refine ok_b _ (tf_0 (c_isTerm x3)) (fun h4 => no _ (fun g => h4 g.1.2.2) (sno (fun g => h4 g.2.2)).symm) (fun h4 => ?_)
  have hok : filOk x1 x2 x3 := ⟨Classical.not_not.mp h1, ⟨h2, Classical.not_not.mp h3⟩, Classical.not_not.mp h4⟩
  have sy : sFil nf x1 x2 x3 = if 8 ≤ nf then -4 else nI nf := if_pos hok
  obtain ⟨⟨g1, g2⟩, g3, g4, g5⟩ := id h
  subst g3 g4
  refine ok_b (nf < 8) (nI_ltI (b := 8) (by omega) (by decide)) (fun h5 => ?_) (fun h5 => no _ (fun g => h5 g.2) (by rw [sy, if_pos (by omega)]))
  rw [sy, if_neg (by omega)]
  rcases hw with ⟨w1, w2, v, k, x, hv, hk, hx, e1, e2, e3, w3, w4, w5, w6, w7⟩ | ⟨w1, _⟩
  · subst e1 e2 e3 w3 w4 w5 w6
    have hsf : 2 ^ nf ≤ 2 ^ 8 := Nat.pow_le_pow_right (by decide) (by omega)
    have hs2 := p2_lt (show nf < nf + 1 by omega)
    refine ok_bn6 (fun o => o.1 = nI nf ∧ CF (nf + 1) (fU fv nf v) (fU fk nf k) (fU fx nf x) sf' o.2.1 o.2.2.1 o.2.2.2.1 o.2.2.2.2.1 o.2.2.2.2.2) ?_ (fun _ _ _ _ _ _ hh => ok_s hh)
    rw [f_Filters_add_u, slv_ix _ (by omega) (by omega), show 32 + v - 32 = v by omega]
    refine ok_nmE (nI_1 nf) ?_
    refine ok_gd nf rfl h5 (by decide) ?_
    rw [nI_clamp (by omega : nf < 2 ^ 31)]
    have base : FL (nf + 1) (fU fv nf v) (fU fk nf k) (fU fx nf x) (upd V nf (nI v)) (upd K nf (nI k)) (upd X nf (nI x)) := ⟨by omega, fun f hf => by
      by_cases e : f = nf
      · subst e
        rw [fU_s, fU_s, fU_s, pk_us, pk_us, pk_us]
        exact ⟨hv, hk, hx, rfl, rfl, rfl⟩
      · rw [fU_n e, fU_n e, fU_n e, pk_un e, pk_un e, pk_un e]
        exact g2 f (by omega)⟩
    refine ok_nm (ok_nm (ok_nm ?_))
    refine ok_if (fun z => ok_s ⟨rfl, base, rfl, ?_, ?_⟩) (fun z => ?_)
    · rw [w7, if_pos z]
    · rw [w7, if_pos z]
      omega
    · rw [m_sh (by omega), m_or]
      refine ok_nm (ok_s ⟨rfl, base, rfl, ?_, ?_⟩)
      · rw [w7, if_neg z]
      · rw [w7, if_neg z]
        exact or_lt (by omega) hs2
  · exact absurd ⟨hok, h5⟩ w1
theorem nar_01 {x : Int32} (h : x = 0 ∨ x = 1) : vp_nar .boolean x = x := by
  rcases h with rfl | rfl <;> rfl
theorem q_filter {nf sf nf' sf' : Nat} {fv fk fx fv' fk' fx' : Nat → Nat} {x1 x2 x3 x4 Rc : Int32} {L K X Z : Nat → Int32} (hx4 : x4 = 0 ∨ x4 = 1) (hsf : sf < 2 ^ nf) (h : QF nf fv fk fx sf Rc L K X Z) (hw : newF nf fv fk fx sf x1 x2 x3 x4 nf' fv' fk' fx' sf') :
    ok (f_JoinOrderModel_filter x1 x2 x3 x4 Rc L K X Z) (fun o => o.1 = sFil nf x1 x2 x3 ∧ QF nf' fv' fk' fx' sf' o.2.1 o.2.2.1 o.2.2.2.1 o.2.2.2.2.1 o.2.2.2.2.2) := by
  have no : ∀ r : Int32, ¬ (filOk x1 x2 x3 ∧ nf < 8) → r = sFil nf x1 x2 x3 → ok (some (r, Rc, L, K, X, Z)) (fun o => o.1 = sFil nf x1 x2 x3 ∧ QF nf' fv' fk' fx' sf' o.2.1 o.2.2.1 o.2.2.2.1 o.2.2.2.2.1 o.2.2.2.2.2) := fun r hh hr => by
    rcases hw with ⟨w1, w2, _⟩ | ⟨_, w1, w2, w3, w4, w5⟩
    · exact absurd ⟨w1, w2⟩ hh
    · subst w1 w2 w3 w4 w5
      exact ok_s ⟨hr, h⟩
  have sno : ¬ filOk x1 x2 x3 → sFil nf x1 x2 x3 = -2 := fun hh => if_neg hh
  rw [f_JoinOrderModel_filter_u]
  refine ok_b _ (tf_0 (q_isVar x1)) (fun h1 => no _ (fun g => h1 g.1.1) (sno (fun g => h1 g.1)).symm) (fun h1 => ?_)
  refine ok_if (fun h2 => no _ (fun g => g.1.2.1.1 h2) (sno (fun g => g.2.1.1 h2)).symm) (fun h2 => ?_)
  refine ok_b _ lt3 (fun h3 => no _ (fun g => h3 g.1.2.1.2) (sno (fun g => h3 g.2.1.2)).symm) (fun h3 => ?_)
  refine ok_b _ (tf_0 (q_isTerm x3)) (fun h4 => no _ (fun g => h4 g.1.2.2) (sno (fun g => h4 g.2.2)).symm) (fun h4 => ?_)
  have hok : filOk x1 x2 x3 := ⟨Classical.not_not.mp h1, ⟨h2, Classical.not_not.mp h3⟩, Classical.not_not.mp h4⟩
  have sy : sFil nf x1 x2 x3 = if 8 ≤ nf then -4 else nI nf := if_pos hok
  obtain ⟨g1, g2, g3⟩ := id h
  subst g2
  refine ok_b (nf = 8) (nI_eq (b := 8) (by omega) (by decide)) (fun h5 => no _ (fun g => by omega) (by rw [sy, if_pos (by omega)])) (fun h5 => ?_)
  rw [sy, if_neg (by omega)]
  rcases hw with ⟨w1, w2, v, k, x, hv, hk, hx, e1, e2, e3, w3, w4, w5, w6, w7⟩ | ⟨w1, _⟩
  · subst e1 e2 e3 w3 w4 w5 w6
    refine ok_gd nf rfl (by omega) (by decide) ?_
    rw [nI_clamp (by omega : nf < 2 ^ 31), nar_01 hx4]
    refine ok_nm (ok_nm (ok_nm (ok_nm (ok_nmE (nI_1 nf) (ok_s ⟨nI_pred nf, by omega, rfl, fun f hf => ?_⟩)))))
    simp only
    by_cases e : f = nf
    · subst e
      rw [fU_s, fU_s, fU_s, pk_us, pk_us, pk_us, pk_us]
      refine ⟨hv, hk, hx, rfl, rfl, rfl, ?_⟩
      have hno : ¬ sf.testBit f = true := by
        rw [Nat.testBit_lt_two_pow hsf]
        exact Bool.false_ne_true
      rcases hx4 with z | z
      · rw [w7, if_pos z, z]
        exact tf_f hno
      · rw [w7, if_neg (by rw [z]; decide), z]
        exact tf_t ((bit_or _ _ _).mpr (Or.inr ((bit_p2 _ _).mpr rfl)))
    · rw [fU_n e, fU_n e, fU_n e, pk_un e, pk_un e, pk_un e, pk_un e]
      obtain ⟨q1, q2, q3, q4, q5, q6, q7⟩ := g3 f (by omega)
      refine ⟨q1, q2, q3, q4, q5, q6, tf_iff q7 ?_⟩
      rw [w7]
      split
      · exact Iff.rfl
      · rw [bit_or, bit_p2]
        exact ⟨Or.inl, fun h6 => h6.elim id (fun h7 => absurd h7.symm e)⟩
  · exact absurd ⟨hok, by omega⟩ w1
