/-! What is asked of THE PLAN made last, and of the last rows -/
def CL (ps pf : Nat) (po pj pe pb pm : Nat → Nat) (Ms Mf : Int32) (Mo Mj Ma Mb : Nat → Int32) (Me : Nat → Int64) : Prop := ps ≤ 8 ∧ pf ≤ 8 ∧ Ms = nI ps ∧ Mf = nI pf ∧ (∀ i, i < ps → Mo i = nI (po i) ∧ Mj i = nI (pj i) ∧ Me i = lN (pe i) ∧ pm i < 256 ∧ Ma i = nI (pm i)) ∧ (0 < ps → ∀ f, f < pf → Mb f = nI (pb f))
def QL (ps pf : Nat) (po pj pe pb pm : Nat → Nat) (Ms Mf : Int32) (Mo Mj Ma Mb : Nat → Int32) (Me : Nat → Int64) : Prop := ps ≤ 8 ∧ pf ≤ 8 ∧ Ms = nI ps ∧ Mf = nI pf ∧ (∀ i, i < ps → Mo i = nI (po i) ∧ Mj i = nI (pj i) ∧ Me i = lN (pe i) ∧ Ma i = nI (popc (pm i) 8)) ∧ ∀ f, f < pf → Mb f = if ps = 0 then -3 else nI (pb f)
noncomputable def sStep (ps : Nat) (po pj pm : Nat → Nat) (x1 x2 : Int32) : Int32 := @ite _ (∃ j, j < ps ∧ x1 = nI j) (Classical.propDecidable _) (if x2 = 0 then nI (po x1.toNatClampNeg) else if x2 = 1 then nI (pj x1.toNatClampNeg) else if x2 = 2 then nI (popc (pm x1.toNatClampNeg) 8) else -2) (-1)
theorem c_step {ps pf : Nat} {po pj pe pb pm : Nat → Nat} {x1 x2 Ms Mf : Int32} {Mo Mj Ma Mb : Nat → Int32} {Me : Nat → Int64} (h : CL ps pf po pj pe pb pm Ms Mf Mo Mj Ma Mb Me) : f_JoinOrder_step x1 x2 Ms Mo Mj Ma = some (sStep ps po pj pm x1 x2) := by
  obtain ⟨h1, h2, h3, h4, h5, h6⟩ := h
  subst h3
  apply ok_eq
  rw [f_JoinOrder_step_u]
  refine ok_b _ (tf_0 (c_hasM x1 (by omega))) (fun k1 => ok_s (by unfold sStep; rw [if_neg k1])) (fun k1 => ?_)
  have k1 := Classical.not_not.mp k1
  have e : sStep ps po pj pm x1 x2 = if x2 = 0 then nI (po x1.toNatClampNeg) else if x2 = 1 then nI (pj x1.toNatClampNeg) else if x2 = 2 then nI (popc (pm x1.toNatClampNeg) 8) else -2 := if_pos k1
  rw [e]
  obtain ⟨j, hj, ej⟩ := k1
  subst ej
  obtain ⟨q1, q2, q3, q4, q5⟩ := h5 j hj
  rw [nI_clamp (by omega : j < 2 ^ 31), q1, q2, q5, bitC (by omega), popc_8 q4]
  refine ok_if (fun k2 => ok_gd j rfl (by omega) (by decide) (ok_s (by rw [if_pos k2]))) (fun k2 => ?_)
  refine ok_if (fun k3 => ok_gd j rfl (by omega) (by decide) (ok_s (by rw [if_neg k2, if_pos k3]))) (fun k3 => ?_)
  exact ok_if (fun k4 => ok_gd j rfl (by omega) (by decide) (ok_s (by rw [if_neg k2, if_neg k3, if_pos k4]))) (fun k4 => ok_s (by rw [if_neg k2, if_neg k3, if_neg k4]))
theorem in_not {x : Int32} {n : Nat} (hn : n < 2 ^ 31) (h : ¬ x < 0) : x < nI n ↔ ∃ j, j < n ∧ x = nI j := by
  constructor
  · intro h2
    rcases num_cases x n hn with (h3 | h3) | h3
    · exact absurd h3 h
    · exact absurd h2 (Int32.not_lt.mpr h3)
    · exact h3
  · rintro ⟨j, hj, e⟩
    subst e
    exact nI_lt hj hn
theorem neg_not {x : Int32} {n : Nat} (hn : n < 2 ^ 31) (h : x < 0) : ¬ ∃ j, j < n ∧ x = nI j := by
  rintro ⟨j, hj, e⟩
  subst e
  exact nI_pos (by omega) h
theorem q_step {ps pf : Nat} {po pj pe pb pm : Nat → Nat} {x1 x2 Ms Mf : Int32} {Mo Mj Ma Mb : Nat → Int32} {Me : Nat → Int64} (h : QL ps pf po pj pe pb pm Ms Mf Mo Mj Ma Mb Me) : f_JoinOrderModel_step x1 x2 Ms Ma Mj Mo = some (sStep ps po pj pm x1 x2) := by
  obtain ⟨h1, h2, h3, h4, h5, h6⟩ := h
  subst h3
  apply ok_eq
  rw [f_JoinOrderModel_step_u]
  refine ok_if (fun k1 => ok_s (by unfold sStep; rw [if_neg (neg_not (by omega) k1)])) (fun k0 => ?_)
  refine ok_b _ (in_not (by omega) k0) (fun k1 => ?_) (fun k1 => ok_s (by unfold sStep; rw [if_neg k1]))
  have e : sStep ps po pj pm x1 x2 = if x2 = 0 then nI (po x1.toNatClampNeg) else if x2 = 1 then nI (pj x1.toNatClampNeg) else if x2 = 2 then nI (popc (pm x1.toNatClampNeg) 8) else -2 := if_pos k1
  rw [e]
  obtain ⟨j, hj, ej⟩ := k1
  subst ej
  obtain ⟨q1, q2, q3, q4⟩ := h5 j hj
  rw [nI_clamp (by omega : j < 2 ^ 31), q1, q2, q4]
  refine ok_if (fun k2 => ok_gd j rfl (by omega) (by decide) (ok_s (by rw [if_pos k2]))) (fun k2 => ?_)
  refine ok_if (fun k3 => ok_gd j rfl (by omega) (by decide) (ok_s (by rw [if_neg k2, if_pos k3]))) (fun k3 => ?_)
  exact ok_if (fun k4 => ok_gd j rfl (by omega) (by decide) (ok_s (by rw [if_neg k2, if_neg k3, if_pos k4]))) (fun k4 => ok_s (by rw [if_neg k2, if_neg k3, if_neg k4]))
noncomputable def sEst (ps : Nat) (pe : Nat → Nat) (x1 : Int32) : Int64 := @ite _ (∃ j, j < ps ∧ x1 = nI j) (Classical.propDecidable _) (lN (pe x1.toNatClampNeg)) (-1)
theorem c_estim {ps pf : Nat} {po pj pe pb pm : Nat → Nat} {x1 Ms Mf : Int32} {Mo Mj Ma Mb : Nat → Int32} {Me : Nat → Int64} (h : CL ps pf po pj pe pb pm Ms Mf Mo Mj Ma Mb Me) : f_JoinOrder_estimate x1 Ms Me = some (sEst ps pe x1) := by
  obtain ⟨h1, h2, h3, h4, h5, h6⟩ := h
  subst h3
  apply ok_eq
  rw [f_JoinOrder_estimate_u]
  refine ok_b _ (tf_0 (c_hasM x1 (by omega))) (fun k1 => ok_s (by unfold sEst; rw [if_neg k1])) (fun k1 => ?_)
  have k1 := Classical.not_not.mp k1
  have e : sEst ps pe x1 = lN (pe x1.toNatClampNeg) := if_pos k1
  rw [e]
  obtain ⟨j, hj, ej⟩ := k1
  subst ej
  rw [nI_clamp (by omega : j < 2 ^ 31), (h5 j hj).2.2.1]
  exact ok_gd j rfl (by omega) (by decide) (ok_s rfl)
theorem q_estim {ps pf : Nat} {po pj pe pb pm : Nat → Nat} {x1 Ms Mf : Int32} {Mo Mj Ma Mb : Nat → Int32} {Me : Nat → Int64} (h : QL ps pf po pj pe pb pm Ms Mf Mo Mj Ma Mb Me) : f_JoinOrderModel_estimate x1 Ms Me = some (sEst ps pe x1) := by
  obtain ⟨h1, h2, h3, h4, h5, h6⟩ := h
  subst h3
  apply ok_eq
  rw [f_JoinOrderModel_estimate_u]
  refine ok_if (fun k1 => ok_s (by unfold sEst; rw [if_neg (neg_not (by omega) k1)])) (fun k0 => ?_)
  refine ok_b _ (in_not (by omega) k0) (fun k1 => ?_) (fun k1 => ok_s (by unfold sEst; rw [if_neg k1]))
  have e : sEst ps pe x1 = lN (pe x1.toNatClampNeg) := if_pos k1
  rw [e]
  obtain ⟨j, hj, ej⟩ := k1
  subst ej
  rw [nI_clamp (by omega : j < 2 ^ 31), (h5 j hj).2.2.1]
  exact ok_gd j rfl (by omega) (by decide) (ok_s rfl)
noncomputable def sMove (ps pf : Nat) (pb : Nat → Nat) (x1 : Int32) : Int32 := @ite _ (∃ j, j < pf ∧ x1 = nI j) (Classical.propDecidable _) (if ps = 0 then -3 else nI (pb x1.toNatClampNeg)) (-1)
theorem c_move {ps pf : Nat} {po pj pe pb pm : Nat → Nat} {x1 Ms Mf : Int32} {Mo Mj Ma Mb : Nat → Int32} {Me : Nat → Int64} (h : CL ps pf po pj pe pb pm Ms Mf Mo Mj Ma Mb Me) : f_JoinOrder_move x1 Ms Mf Mb = some (sMove ps pf pb x1) := by
  obtain ⟨h1, h2, h3, h4, h5, h6⟩ := h
  subst h3 h4
  apply ok_eq
  rw [f_JoinOrder_move_u]
  refine ok_if (fun k1 => ok_s (by unfold sMove; rw [if_neg (neg_not (by omega) k1)])) (fun k0 => ?_)
  refine ok_b _ (in_not (by omega) k0) (fun k1 => ?_) (fun k1 => ok_s (by unfold sMove; rw [if_neg k1]))
  have e : sMove ps pf pb x1 = if ps = 0 then -3 else nI (pb x1.toNatClampNeg) := if_pos k1
  rw [e]
  obtain ⟨j, hj, ej⟩ := k1
  subst ej
  refine ok_b (ps = 0) (nI_eq (b := 0) (by omega) (by omega)) (fun k2 => ok_s (by rw [if_pos k2])) (fun k2 => ?_)
  rw [nI_clamp (by omega : j < 2 ^ 31), h6 (by omega) j hj, if_neg k2]
  exact ok_gd j rfl (by omega) (by decide) (ok_s rfl)
theorem q_move {ps pf : Nat} {po pj pe pb pm : Nat → Nat} {x1 Ms Mf : Int32} {Mo Mj Ma Mb : Nat → Int32} {Me : Nat → Int64} (h : QL ps pf po pj pe pb pm Ms Mf Mo Mj Ma Mb Me) : f_JoinOrderModel_move x1 Mf Mb = some (sMove ps pf pb x1) := by
  obtain ⟨h1, h2, h3, h4, h5, h6⟩ := h
  subst h3 h4
  apply ok_eq
  rw [f_JoinOrderModel_move_u]
  refine ok_if (fun k1 => ok_s (by unfold sMove; rw [if_neg (neg_not (by omega) k1)])) (fun k0 => ?_)
  refine ok_b _ (in_not (by omega) k0) (fun k1 => ?_) (fun k1 => ok_s (by unfold sMove; rw [if_neg k1]))
  have e : sMove ps pf pb x1 = if ps = 0 then -3 else nI (pb x1.toNatClampNeg) := if_pos k1
  rw [e]
  obtain ⟨j, hj, ej⟩ := k1
  subst ej
  rw [nI_clamp (by omega : j < 2 ^ 31), h6 j hj]
  exact ok_gd j rfl (by omega) (by decide) (ok_s rfl)
/-! the last rows: none in R: no room, or no run yet -/
def rwL (R : Option (List Nat)) : List Nat := R.getD []
noncomputable def sRow (L : List Nat) (x1 x2 : Int32) : Int32 := @ite _ (∃ j, j < L.length ∧ x1 = nI j) (Classical.propDecidable _) (@ite _ (vrb x2) (Classical.propDecidable _) (nI (fld (L.getD x1.toNatClampNeg 0) (slc x2 - 32)) - 1) (-2)) (-1)
theorem c_row {L : List Nat} {x1 x2 ct : Int32} {rws : Nat → Int64} (hl : L.length ≤ 500) (hc : ct = nI L.length) (h : hL rws L) (ho : ∀ r, r ∈ L → okR r) : f_JoinOrder_row x1 x2 ct rws = some (sRow L x1 x2) := by
  subst hc
  apply ok_eq
  rw [f_JoinOrder_row_u]
  refine ok_if (fun k1 => ok_s (by unfold sRow; rw [if_neg (neg_not (by omega) k1)])) (fun k0 => ?_)
  refine ok_b _ (in_not (by omega) k0) (fun k1 => ?_) (fun k1 => ok_s (by unfold sRow; rw [if_neg k1]))
  have e : sRow L x1 x2 = @ite _ (vrb x2) (Classical.propDecidable _) (nI (fld (L.getD x1.toNatClampNeg 0) (slc x2 - 32)) - 1) (-2) := if_pos k1
  rw [e]
  obtain ⟨j, hj, ej⟩ := k1
  subst ej
  refine ok_b _ (tf_0 (c_isVar x2)) (fun k2 => ok_s (by rw [if_neg k2])) (fun k2 => ?_)
  have k2 := Classical.not_not.mp k2
  rw [if_pos k2]
  obtain ⟨v, hv, ev⟩ := vrb_iff.mp k2
  subst ev
  refine ok_gd j rfl (by omega) (by decide) ?_
  have hx : L[j]? = some L[j] := List.getElem?_eq_getElem hj
  have hg : L.getD j 0 = L[j] := by
    rw [List.getD_eq_getElem?_getD, hx]
    rfl
  rw [nI_clamp (by omega : j < 2 ^ 31), h j _ hx, slv_ix _ (by omega) (by omega), slc_slv _ (by omega), hg, t_term (Nat.lt_trans (ho _ (List.getElem_mem hj)).1 (by decide)) (by omega)]
  exact ok_s rfl
/-- the reference's rows: eight places a row -/
def qR (K : Nat → Int32) (L : List Nat) : Prop := ∀ (i r : Nat), L[i]? = some r → ∀ v, v < 8 → K (8 * i + v) = nI (fld r v) - 1
theorem ix8 {i v : Nat} (hv : v < 8) : ((8 : Int32) * nI i - 1) - slv (32 + v) = nI (8 * i + v) := by
  have e : slv (32 + v) = -1 - nI v := by
    unfold slv
    rw [if_neg (by omega), show 32 + v - 32 = v by omega]
  rw [e, show (8 : Int32) * nI i = nI (8 * i) from pk_mul 8 i, ← nI_add]
  generalize nI (8 * i) = a
  generalize nI v = b
  apply Int32.toBitVec_inj.1
  simp only [Int32.toBitVec_sub, Int32.toBitVec_add]
  generalize a.toBitVec = x
  generalize b.toBitVec = y
  have h1 : (-1 : Int32).toBitVec = -1#32 := by decide
  have h2 : (1 : Int32).toBitVec = 1#32 := by decide
  rw [h1, h2]
  have h3 : 1#32 + -1#32 = 0#32 := by decide
  have h4 : 1#32 - -y = 1#32 + y := by rw [BitVec.sub_eq_add_neg, BitVec.neg_neg]
  have h5 : x - 1#32 - (-1#32 - y) = x + -1#32 + (1#32 - -y) := by
    rw [BitVec.sub_eq_add_neg, BitVec.sub_eq_add_neg, BitVec.sub_eq_add_neg, BitVec.neg_add]
    rw [show - -1#32 = 1#32 by decide]
  rw [h5, h4, BitVec.add_assoc, ← BitVec.add_assoc (-1#32), BitVec.add_comm (-1#32) 1#32, h3, BitVec.zero_add]
theorem q_row {L : List Nat} {x1 x2 ct : Int32} {K : Nat → Int32} (hl : L.length ≤ 500) (hc : ct = nI L.length) (h : qR K L) : f_JoinOrderModel_row x1 x2 ct K = some (sRow L x1 x2) := by
  subst hc
  apply ok_eq
  rw [f_JoinOrderModel_row_u]
  refine ok_if (fun k1 => ok_s (by unfold sRow; rw [if_neg (neg_not (by omega) k1)])) (fun k0 => ?_)
  refine ok_b _ (in_not (by omega) k0) (fun k1 => ?_) (fun k1 => ok_s (by unfold sRow; rw [if_neg k1]))
  have e : sRow L x1 x2 = @ite _ (vrb x2) (Classical.propDecidable _) (nI (fld (L.getD x1.toNatClampNeg 0) (slc x2 - 32)) - 1) (-2) := if_pos k1
  rw [e]
  obtain ⟨j, hj, ej⟩ := k1
  subst ej
  refine ok_b _ (tf_0 (q_isVar x2)) (fun k2 => ok_s (by rw [if_neg k2])) (fun k2 => ?_)
  have k2 := Classical.not_not.mp k2
  rw [if_pos k2]
  obtain ⟨v, hv, ev⟩ := vrb_iff.mp k2
  subst ev
  rw [ix8 hv]
  refine ok_gd (8 * j + v) rfl (by omega) (by decide) ?_
  have hx : L[j]? = some L[j] := List.getElem?_eq_getElem hj
  have hg : L.getD j 0 = L[j] := by
    rw [List.getD_eq_getElem?_getD, hx]
    rfl
  rw [nI_clamp (by omega : 8 * j + v < 2 ^ 31), nI_clamp (by omega : j < 2 ^ 31), h j _ hx v hv, slc_slv _ (by omega), hg, show 32 + v - 32 = v by omega]
  exact ok_s rfl
