theorem nI_sub5 {L : Nat} (h : 5 ≤ L) : nI L - nI 5 = nI (L - 5) := by
  have e : nI L = nI (L - 5) + nI 5 := by rw [nI_add, show L - 5 + 5 = L by omega]
  rw [e, Int32.add_sub_cancel]
theorem nI_low : ∀ {L m : Nat}, L < 5 → m ≤ 5 * 512 → nI L - 5 < nI m := by
  intro L m h1 h2
  have a : ∀ L, L < 5 → nI L - 5 < 0 := by decide
  exact Int32.lt_of_lt_of_le (a L h1) (nI_pos' (by omega))
/-! the law's loop: one call a round, its answers alike -/
theorem gd_at {α : Type} {i L k : Nat} {c : Int32} {X : Option α} {P : α → Prop} (hc : c = nI k) (hi : 5 * i + k < L) (hL : L ≤ 2560) (h : ok X P) : ok (gd (nI (5 * i) + c) L X) P := by
  subst hc
  exact ok_gd (5 * i + k) (nI_add _ _) hi (by omega) h
theorem law_loop {n L : Nat} {xs : Nat → Int32} (hn : 4000 < n) (hL : L ≤ 2560) : ∀ (k i : Nat) (J_hasRun : Int32) (T_count : Int32) (P_required : Int32) (P_hinted : Int32) (P_count : Int32) (F_safeOnes : Int32) (F_count : Int32) (M_steps : Int32) (M_filters : Int32) (aB_rows : Nat) (aB_spare : Nat) (B_count : Int32) (B_found : Int32) (B_crowded : Int32) (J_plainOrder : Nat → Int32) (aC_rows : Nat) (aC_spare : Nat) (C_count : Int32) (C_found : Int32) (C_crowded : Int32) (T_packed : Nat → Int32) (P_slots : Nat → Int32) (P_termsSeen : Nat → Int32) (P_matches : Nat → Int32) (P_matchCount : Nat → Int32) (P_variables : Nat → Int32) (P_havingVariable : Nat → Int32) (P_told : Nat → Int32) (P_parent : Nat → Int32) (P_allBefore : Nat → Int32) (F_variable : Nat → Int32) (F_kind : Nat → Int32) (F_value : Nat → Int32) (Q_spreads : Nat → Int32) (Q_sizes : Nat → Int32) (Q_estimates : Nat → Int64) (Q_costAhead : Nat → Int64) (M_order : Nat → Int32) (M_joins : Nat → Int32) (M_acting : Nat → Int32) (M_estimates : Nat → Int64) (M_actsBehind : Nat → Int32) (B_rows : Nat → Int64) (B_spare : Nat → Int64) (C_rows : Nat → Int64) (C_spare : Nat → Int64) (R_triples : Int32) (R_patterns : Int32) (R_filters : Int32) (R_steps : Int32) (R_filtersThen : Int32) (R_rows : Int32) (R_comes : Int32) (R_kept : Int32) (R_hasRoom : Int32) (R_facts : Nat → Int32) (R_cells : Nat → Int32) (R_told : Nat → Int32) (R_of : Nat → Int32) (R_hints : Nat → Int32) (R_looks : Nat → Int32) (R_kinds : Nat → Int32) (R_values : Nat → Int32) (R_isSafe : Nat → Int32) (R_sizes : Nat → Int32) (R_spreads : Nat → Int32) (R_isSeen : Nat → Int32) (R_estimates : Nat → Int64) (R_rest : Nat → Int64) (R_order : Nat → Int32) (R_joins : Nat → Int32) (R_actsBehind : Nat → Int32) (R_upTo : Nat → Int64) (R_behind : Nat → Int32) (R_row : Nat → Int32) (R_found : Nat → Int32) (R_next : Nat → Int32) (R_nextFound : Nat → Int32) (R_keep : Nat → Int32) (R_isTaken : Nat → Int32), i ≤ L / 5 → L / 5 - i < k → INV J_hasRun T_count P_required P_hinted P_count F_safeOnes F_count M_steps M_filters B_count B_crowded T_packed P_slots P_termsSeen P_matches P_matchCount P_variables P_havingVariable P_told P_parent P_allBefore F_variable F_kind F_value M_order M_joins M_acting M_estimates M_actsBehind B_rows R_triples R_patterns R_filters R_steps R_filtersThen R_kept R_hasRoom R_facts R_cells R_told R_of R_hints R_looks R_kinds R_values R_isSafe R_order R_joins R_actsBehind R_upTo R_behind R_keep → ok (f_JoinOrderLaw_law_L0 n L xs k J_hasRun T_count P_required P_hinted P_count F_safeOnes F_count M_steps M_filters aB_rows aB_spare B_count B_found B_crowded J_plainOrder aC_rows aC_spare C_count C_found C_crowded T_packed P_slots P_termsSeen P_matches P_matchCount P_variables P_havingVariable P_told P_parent P_allBefore F_variable F_kind F_value Q_spreads Q_sizes Q_estimates Q_costAhead M_order M_joins M_acting M_estimates M_actsBehind B_rows B_spare C_rows C_spare R_triples R_patterns R_filters R_steps R_filtersThen R_rows R_comes R_kept R_hasRoom R_facts R_cells R_told R_of R_hints R_looks R_kinds R_values R_isSafe R_sizes R_spreads R_isSeen R_estimates R_rest R_order R_joins R_actsBehind R_upTo R_behind R_row R_found R_next R_nextFound R_keep R_isTaken (nI (5 * i))) (fun r => r = 1) := by
  intro k
  induction k with
  | zero =>
    intro i J_hasRun T_count P_required P_hinted P_count F_safeOnes F_count M_steps M_filters aB_rows aB_spare B_count B_found B_crowded J_plainOrder aC_rows aC_spare C_count C_found C_crowded T_packed P_slots P_termsSeen P_matches P_matchCount P_variables P_havingVariable P_told P_parent P_allBefore F_variable F_kind F_value Q_spreads Q_sizes Q_estimates Q_costAhead M_order M_joins M_acting M_estimates M_actsBehind B_rows B_spare C_rows C_spare R_triples R_patterns R_filters R_steps R_filtersThen R_rows R_comes R_kept R_hasRoom R_facts R_cells R_told R_of R_hints R_looks R_kinds R_values R_isSafe R_sizes R_spreads R_isSeen R_estimates R_rest R_order R_joins R_actsBehind R_upTo R_behind R_row R_found R_next R_nextFound R_keep R_isTaken h1 h2
    omega
  | succ k ih =>
    intro i J_hasRun T_count P_required P_hinted P_count F_safeOnes F_count M_steps M_filters aB_rows aB_spare B_count B_found B_crowded J_plainOrder aC_rows aC_spare C_count C_found C_crowded T_packed P_slots P_termsSeen P_matches P_matchCount P_variables P_havingVariable P_told P_parent P_allBefore F_variable F_kind F_value Q_spreads Q_sizes Q_estimates Q_costAhead M_order M_joins M_acting M_estimates M_actsBehind B_rows B_spare C_rows C_spare R_triples R_patterns R_filters R_steps R_filtersThen R_rows R_comes R_kept R_hasRoom R_facts R_cells R_told R_of R_hints R_looks R_kinds R_values R_isSafe R_sizes R_spreads R_isSeen R_estimates R_rest R_order R_joins R_actsBehind R_upTo R_behind R_row R_found R_next R_nextFound R_keep R_isTaken h1 h2 hI
    rw [f_JoinOrderLaw_law_L0_s]
    have ec : (Int32.ofNat L - 5 < nI (5 * i)) ↔ ¬ i < L / 5 := by
      show nI L - 5 < nI (5 * i) ↔ _
      by_cases h5 : 5 ≤ L
      · have e5 : nI L - 5 = nI (L - 5) := by
          rw [show (5 : Int32) = nI 5 from rfl, nI_sub5 h5]
        rw [e5, nI_ltI (by omega) (by omega)]
        omega
      · have hlt : nI L - 5 < nI (5 * i) := nI_low (by omega) (by omega)
        exact ⟨fun _ => by omega, fun _ => hlt⟩
    refine ok_b _ ec (fun _ => ok_s rfl) (fun g => ?_)
    have g := Classical.not_not.mp g
    have hb : 5 * i + 5 ≤ L := by omega
    have e5 : nI (5 * i) + 5 = nI (5 * (i + 1)) := by
      rw [show (5 : Int32) = nI 5 from rfl, nI_add, show 5 * (i + 1) = 5 * i + 5 by omega]
    refine ok_gd (5 * i) rfl (by omega) (by omega) (ok_nm ?_)
    refine ok_if (fun _ => ?_) (fun _ => ?_)
    · refine gd_at (k := 1) rfl (by omega) hL ?_
      refine gd_at (k := 2) rfl (by omega) hL ?_
      refine gd_at (k := 3) rfl (by omega) hL ?_
      refine ok_bn6 _ (law_triple  hn hI) (fun w0 w1 w2 w3 w4 w5 h => ?_)
      refine ok_bn3 _ h (fun t0 t1 t2 h2 => ?_)
      exact ok_t h2.1 (ok_nmE e5 (ih (i + 1) _ _ _ _ _ _ _ _ _ _ _ _ _ _ _ _ _ _ _ _ _ _ _ _ _ _ _ _ _ _ _ _ _ _ _ _ _ _ _ _ _ _ _ _ _ _ _ _ _ _ _ _ _ _ _ _ _ _ _ _ _ _ _ _ _ _ _ _ _ _ _ _ _ _ _ _ _ _ _ _ (by omega) (by omega) h2.2))
    refine ok_if (fun _ => ?_) (fun _ => ?_)
    · refine gd_at (k := 1) rfl (by omega) hL ?_
      refine gd_at (k := 2) rfl (by omega) hL ?_
      refine gd_at (k := 3) rfl (by omega) hL ?_
      refine ok_bn11 _ (law_pattern  hn hI) (fun w0 w1 w2 w3 w4 w5 w6 w7 w8 w9 w10 h => ?_)
      refine ok_bn5 _ h (fun t0 t1 t2 t3 t4 h2 => ?_)
      exact ok_t h2.1 (ok_nmE e5 (ih (i + 1) _ _ _ _ _ _ _ _ _ _ _ _ _ _ _ _ _ _ _ _ _ _ _ _ _ _ _ _ _ _ _ _ _ _ _ _ _ _ _ _ _ _ _ _ _ _ _ _ _ _ _ _ _ _ _ _ _ _ _ _ _ _ _ _ _ _ _ _ _ _ _ _ _ _ _ _ _ _ _ _ (by omega) (by omega) h2.2))
    refine ok_if (fun _ => ?_) (fun _ => ?_)
    · refine gd_at (k := 1) rfl (by omega) hL ?_
      refine gd_at (k := 2) rfl (by omega) hL ?_
      refine ok_bn3 _ (law_optional  hn hI) (fun w0 w1 w2 h => ?_)
      refine ok_bn2 _ h (fun t0 t1 h2 => ?_)
      exact ok_t h2.1 (ok_nmE e5 (ih (i + 1) _ _ _ _ _ _ _ _ _ _ _ _ _ _ _ _ _ _ _ _ _ _ _ _ _ _ _ _ _ _ _ _ _ _ _ _ _ _ _ _ _ _ _ _ _ _ _ _ _ _ _ _ _ _ _ _ _ _ _ _ _ _ _ _ _ _ _ _ _ _ _ _ _ _ _ _ _ _ _ _ (by omega) (by omega) h2.2))
    refine ok_if (fun _ => ?_) (fun _ => ?_)
    · refine gd_at (k := 1) rfl (by omega) hL ?_
      refine gd_at (k := 2) rfl (by omega) hL ?_
      refine gd_at (k := 3) rfl (by omega) hL ?_
      refine gd_at (k := 4) rfl (by omega) hL ?_
      refine ok_bn1 (fun z => (z = 0 ∨ z = 1) ∧ z = if xs (nI (5 * i) + 4).toNatClampNeg = 0 then 0 else 1) (ok_if (fun c => ok_s ⟨Or.inl rfl, by rw [if_pos c]⟩) (fun c => ok_s ⟨Or.inr rfl, by rw [if_neg c]⟩)) (fun z hz => ?_)
      refine ok_bn6 _ (law_filter hn hz.1 hI) (fun w0 w1 w2 w3 w4 w5 h => ?_)
      refine ok_bn1 (fun y => y = z) (ok_if (fun c => ok_s (by rw [hz.2, if_pos c])) (fun c => ok_s (by rw [hz.2, if_neg c]))) (fun y ey => ?_)
      subst ey
      refine ok_bn6 _ h (fun t0 t1 t2 t3 t4 t5 h2 => ?_)
      exact ok_t h2.1 (ok_nmE e5 (ih (i + 1) _ _ _ _ _ _ _ _ _ _ _ _ _ _ _ _ _ _ _ _ _ _ _ _ _ _ _ _ _ _ _ _ _ _ _ _ _ _ _ _ _ _ _ _ _ _ _ _ _ _ _ _ _ _ _ _ _ _ _ _ _ _ _ _ _ _ _ _ _ _ _ _ _ _ _ _ _ _ _ _ (by omega) (by omega) h2.2))
    refine ok_if (fun _ => ?_) (fun _ => ?_)
    · refine gd_at (k := 1) rfl (by omega) hL ?_
      refine gd_at (k := 2) rfl (by omega) hL ?_
      refine ok_bn2 _ (law_cost  hn hI) (fun w0 w1 h => ?_)
      refine ok_bn2 _ h (fun t0 t1 h2 => ?_)
      exact ok_t h2.1 (ok_nmE e5 (ih (i + 1) _ _ _ _ _ _ _ _ _ _ _ _ _ _ _ _ _ _ _ _ _ _ _ _ _ _ _ _ _ _ _ _ _ _ _ _ _ _ _ _ _ _ _ _ _ _ _ _ _ _ _ _ _ _ _ _ _ _ _ _ _ _ _ _ _ _ _ _ _ _ _ _ _ _ _ _ _ _ _ _ (by omega) (by omega) h2.2))
    refine ok_if (fun _ => ?_) (fun _ => ?_)
    · refine gd_at (k := 1) rfl (by omega) hL ?_
      refine gd_at (k := 2) rfl (by omega) hL ?_
      refine ok_bn3 _ (law_hint  hn hI) (fun w0 w1 w2 h => ?_)
      refine ok_bn2 _ h (fun t0 t1 h2 => ?_)
      exact ok_t h2.1 (ok_nmE e5 (ih (i + 1) _ _ _ _ _ _ _ _ _ _ _ _ _ _ _ _ _ _ _ _ _ _ _ _ _ _ _ _ _ _ _ _ _ _ _ _ _ _ _ _ _ _ _ _ _ _ _ _ _ _ _ _ _ _ _ _ _ _ _ _ _ _ _ _ _ _ _ _ _ _ _ _ _ _ _ _ _ _ _ _ (by omega) (by omega) h2.2))
    refine ok_if (fun _ => ?_) (fun _ => ?_)
    · refine ok_bn12 _ (law_plan (Q_spreads := Q_spreads) (Q_sizes := Q_sizes) (Q_estimates := Q_estimates) (Q_costAhead := Q_costAhead) (R_sizes := R_sizes) (R_spreads := R_spreads) (R_isSeen := R_isSeen) (R_estimates := R_estimates) (R_rest := R_rest) hn hI) (fun w0 w1 w2 w3 w4 w5 w6 w7 w8 w9 w10 w11 h => ?_)
      refine ok_bn13 _ h (fun t0 t1 t2 t3 t4 t5 t6 t7 t8 t9 t10 t11 t12 h2 => ?_)
      exact ok_t h2.1 (ok_nmE e5 (ih (i + 1) _ _ _ _ _ _ _ _ _ _ _ _ _ _ _ _ _ _ _ _ _ _ _ _ _ _ _ _ _ _ _ _ _ _ _ _ _ _ _ _ _ _ _ _ _ _ _ _ _ _ _ _ _ _ _ _ _ _ _ _ _ _ _ _ _ _ _ _ _ _ _ _ _ _ _ _ _ _ _ _ (by omega) (by omega) h2.2))
    refine ok_if (fun _ => ?_) (fun _ => ?_)
    · refine gd_at (k := 1) rfl (by omega) hL ?_
      refine gd_at (k := 2) rfl (by omega) hL ?_
      obtain ⟨r, e1, e2⟩ := law_step (a1 := xs (nI (5 * i) + 1).toNatClampNeg) (a2 := xs (nI (5 * i) + 2).toNatClampNeg) hI
      refine ok_bn1 _ (ok_e e1) (fun z ez => ?_)
      subst ez
      refine ok_bn1 _ (ok_e e2) (fun y ey => ?_)
      subst ey
      exact ok_t rfl (ok_nmE e5 (ih (i + 1) _ _ _ _ _ _ _ _ _ _ _ _ _ _ _ _ _ _ _ _ _ _ _ _ _ _ _ _ _ _ _ _ _ _ _ _ _ _ _ _ _ _ _ _ _ _ _ _ _ _ _ _ _ _ _ _ _ _ _ _ _ _ _ _ _ _ _ _ _ _ _ _ _ _ _ _ _ _ _ _ (by omega) (by omega) hI))
    refine ok_if (fun _ => ?_) (fun _ => ?_)
    · refine gd_at (k := 1) rfl (by omega) hL ?_
      obtain ⟨r, e1, e2⟩ := law_estimate (a1 := xs (nI (5 * i) + 1).toNatClampNeg) hI
      refine ok_bn1 _ (ok_e e1) (fun z ez => ?_)
      subst ez
      refine ok_bn1 _ (ok_e e2) (fun y ey => ?_)
      subst ey
      exact ok_t ((lg_cmp_eq _ _).mpr rfl) (ok_nmE e5 (ih (i + 1) _ _ _ _ _ _ _ _ _ _ _ _ _ _ _ _ _ _ _ _ _ _ _ _ _ _ _ _ _ _ _ _ _ _ _ _ _ _ _ _ _ _ _ _ _ _ _ _ _ _ _ _ _ _ _ _ _ _ _ _ _ _ _ _ _ _ _ _ _ _ _ _ _ _ _ _ _ _ _ _ (by omega) (by omega) hI))
    refine ok_if (fun _ => ?_) (fun _ => ?_)
    · refine gd_at (k := 1) rfl (by omega) hL ?_
      obtain ⟨r, e1, e2⟩ := law_move (a1 := xs (nI (5 * i) + 1).toNatClampNeg) hI
      refine ok_bn1 _ (ok_e e1) (fun z ez => ?_)
      subst ez
      refine ok_bn1 _ (ok_e e2) (fun y ey => ?_)
      subst ey
      exact ok_t rfl (ok_nmE e5 (ih (i + 1) _ _ _ _ _ _ _ _ _ _ _ _ _ _ _ _ _ _ _ _ _ _ _ _ _ _ _ _ _ _ _ _ _ _ _ _ _ _ _ _ _ _ _ _ _ _ _ _ _ _ _ _ _ _ _ _ _ _ _ _ _ _ _ _ _ _ _ _ _ _ _ _ _ _ _ _ _ _ _ _ (by omega) (by omega) hI))
    refine ok_if (fun _ => ?_) (fun _ => ?_)
    · refine ok_bn20 _ (law_run (aB_rows := aB_rows) (aB_spare := aB_spare) (B_found := B_found) (Q_spreads := Q_spreads) (Q_sizes := Q_sizes) (Q_estimates := Q_estimates) (Q_costAhead := Q_costAhead) (B_spare := B_spare) (R_comes := R_comes) (R_sizes := R_sizes) (R_spreads := R_spreads) (R_isSeen := R_isSeen) (R_estimates := R_estimates) (R_rest := R_rest) (R_row := R_row) (R_found := R_found) (R_next := R_next) (R_nextFound := R_nextFound) hn hI) (fun w0 w1 w2 w3 w4 w5 w6 w7 w8 w9 w10 w11 w12 w13 w14 w15 w16 w17 w18 w19 h => ?_)
      refine ok_bn22 _ h (fun t0 t1 t2 t3 t4 t5 t6 t7 t8 t9 t10 t11 t12 t13 t14 t15 t16 t17 t18 t19 t20 t21 h2 => ?_)
      exact ok_t h2.1 (ok_nmE e5 (ih (i + 1) _ _ _ _ _ _ _ _ _ _ _ _ _ _ _ _ _ _ _ _ _ _ _ _ _ _ _ _ _ _ _ _ _ _ _ _ _ _ _ _ _ _ _ _ _ _ _ _ _ _ _ _ _ _ _ _ _ _ _ _ _ _ _ _ _ _ _ _ _ _ _ _ _ _ _ _ _ _ _ _ (by omega) (by omega) h2.2))
    refine ok_if (fun _ => ?_) (fun _ => ?_)
    · refine gd_at (k := 1) rfl (by omega) hL ?_
      refine gd_at (k := 2) rfl (by omega) hL ?_
      obtain ⟨r, e1, e2⟩ := law_row (a1 := xs (nI (5 * i) + 1).toNatClampNeg) (a2 := xs (nI (5 * i) + 2).toNatClampNeg) hI
      refine ok_bn1 _ (ok_e e1) (fun z ez => ?_)
      subst ez
      refine ok_bn1 _ (ok_e e2) (fun y ey => ?_)
      subst ey
      exact ok_t rfl (ok_nmE e5 (ih (i + 1) _ _ _ _ _ _ _ _ _ _ _ _ _ _ _ _ _ _ _ _ _ _ _ _ _ _ _ _ _ _ _ _ _ _ _ _ _ _ _ _ _ _ _ _ _ _ _ _ _ _ _ _ _ _ _ _ _ _ _ _ _ _ _ _ _ _ _ _ _ _ _ _ _ _ _ _ _ _ _ _ (by omega) (by omega) hI))
    refine ok_if (fun _ => ?_) (fun _ => ?_)
    · refine ok_bn9 _ (law_plain (J_plainOrder := J_plainOrder) (aC_rows := aC_rows) (aC_spare := aC_spare) (C_found := C_found) (C_rows := C_rows) (C_spare := C_spare) (R_comes := R_comes) (R_row := R_row) (R_found := R_found) (R_next := R_next) (R_nextFound := R_nextFound) hn hI) (fun w0 w1 w2 w3 w4 w5 w6 w7 w8 h => ?_)
      refine ok_bn7 _ h (fun t0 t1 t2 t3 t4 t5 t6 h2 => ?_)
      exact ok_t h2 (ok_nmE e5 (ih (i + 1) _ _ _ _ _ _ _ _ _ _ _ _ _ _ _ _ _ _ _ _ _ _ _ _ _ _ _ _ _ _ _ _ _ _ _ _ _ _ _ _ _ _ _ _ _ _ _ _ _ _ _ _ _ _ _ _ _ _ _ _ _ _ _ _ _ _ _ _ _ _ _ _ _ _ _ _ _ _ _ _ (by omega) (by omega) hI))
    refine ok_if (fun _ => ?_) (fun _ => ?_)
    · refine ok_bn9 _ (law_keeps (J_plainOrder := J_plainOrder) (aC_rows := aC_rows) (aC_spare := aC_spare) (C_count := C_count) (C_found := C_found) (C_crowded := C_crowded) (C_rows := C_rows) (C_spare := C_spare) (R_comes := R_comes) (R_row := R_row) (R_found := R_found) (R_next := R_next) (R_nextFound := R_nextFound) (R_isTaken := R_isTaken) hn hI) (fun w0 w1 w2 w3 w4 w5 w6 w7 w8 h => ?_)
      refine ok_bn8 _ h (fun t0 t1 t2 t3 t4 t5 t6 t7 h2 => ?_)
      exact ok_t h2 (ok_nmE e5 (ih (i + 1) _ _ _ _ _ _ _ _ _ _ _ _ _ _ _ _ _ _ _ _ _ _ _ _ _ _ _ _ _ _ _ _ _ _ _ _ _ _ _ _ _ _ _ _ _ _ _ _ _ _ _ _ _ _ _ _ _ _ _ _ _ _ _ _ _ _ _ _ _ _ _ _ _ _ _ _ _ _ _ _ (by omega) (by omega) hI))
    exact ok_nmE e5 (ih (i + 1) _ _ _ _ _ _ _ _ _ _ _ _ _ _ _ _ _ _ _ _ _ _ _ _ _ _ _ _ _ _ _ _ _ _ _ _ _ _ _ _ _ _ _ _ _ _ _ _ _ _ _ _ _ _ _ _ _ _ _ _ _ _ _ _ _ _ _ _ _ _ _ _ _ _ _ _ _ _ _ _ (by omega) (by omega) hI)
