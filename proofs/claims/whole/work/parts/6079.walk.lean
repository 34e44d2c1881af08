abbrev rm_f_JoinOrder_estimate : Room := { frames := 1, cells := 0, slots := 0, locals := 21 }
set_option maxHeartbeats 4000000 in
set_option maxRecDepth 100000 in
theorem c_f_JoinOrder_estimate (l : Launch) (D : va_G) (cI cJ cZ : ClassId) (sz : Nat) (aJ : Nat) (x1 : Int32) (aT : Nat) (aP : Nat) (aF : Nat) (aQ : Nat) (aM : Nat) (aB : Nat) (J_hasRun : Int32) (aJ_plainOrder : Nat) (aC : Nat) (aM_order : Nat) (aM_joins : Nat) (aM_acting : Nat) (aM_estimates : Nat) (aM_actsBehind : Nat) (M_steps : Int32) (M_filters : Int32) (M_estimates : Nat → Int64) {r : Int64} (hf : f_JoinOrder_estimate x1 M_steps M_estimates = some r) : Met l yX0_estimate (.code yX0_estimate cX0_estimate 2 (some .long) :: GW) rm_f_JoinOrder_estimate (va_Pc [.ref aJ, .int x1] (xP D (xT cI cJ cZ) sz [(aJ, .inr (0, [.ref aT, .ref aP, .ref aF, .ref aQ, .ref aM, .ref aB, .int J_hasRun, .ref aJ_plainOrder, .ref aC])), (aM, .inr (3, [.ref aM_order, .ref aM_joins, .ref aM_acting, .ref aM_estimates, .ref aM_actsBehind, .int M_steps, .int M_filters])), (aM_estimates, .inl (cJ, 8, .inr (.inl M_estimates)))])) (va_Ql (fun r2 (_ : Nat → Nat) => r2 = r) (bB D (xT cI cJ cZ) (fun _ => [(aJ, .inr (0, [.ref aT, .ref aP, .ref aF, .ref aQ, .ref aM, .ref aB, .int J_hasRun, .ref aJ_plainOrder, .ref aC])), (aM, .inr (3, [.ref aM_order, .ref aM_joins, .ref aM_acting, .ref aM_estimates, .ref aM_actsBehind, .int M_steps, .int M_filters])), (aM_estimates, .inl (cJ, 8, .inr (.inl M_estimates)))]) (va_A [(aJ, .inr (0, [.ref aT, .ref aP, .ref aF, .ref aQ, .ref aM, .ref aB, .int J_hasRun, .ref aJ_plainOrder, .ref aC])), (aM, .inr (3, [.ref aM_order, .ref aM_joins, .ref aM_acting, .ref aM_estimates, .ref aM_actsBehind, .int M_steps, .int M_filters])), (aM_estimates, .inl (cJ, 8, .inr (.inl M_estimates)))] sz)) (va_A [(aJ, .inr (0, [.ref aT, .ref aP, .ref aF, .ref aQ, .ref aM, .ref aB, .int J_hasRun, .ref aJ_plainOrder, .ref aC])), (aM, .inr (3, [.ref aM_order, .ref aM_joins, .ref aM_acting, .ref aM_estimates, .ref aM_actsBehind, .int M_steps, .int M_filters])), (aM_estimates, .inl (cJ, 8, .inr (.inl M_estimates)))] sz)) 0 0 (va_A [(aJ, .inr (0, [.ref aT, .ref aP, .ref aF, .ref aQ, .ref aM, .ref aB, .int J_hasRun, .ref aJ_plainOrder, .ref aC])), (aM, .inr (3, [.ref aM_order, .ref aM_joins, .ref aM_acting, .ref aM_estimates, .ref aM_actsBehind, .int M_steps, .int M_filters])), (aM_estimates, .inl (cJ, 8, .inr (.inl M_estimates)))] sz) := by
  refine con_start (y := yX0_estimate) (bytes := cX0_estimate) (maxL := 2) (av := [.ref aJ, .int x1]) (Qc := fun A => va_Ql (fun r2 (_ : Nat → Nat) => r2 = r) (bB D (xT cI cJ cZ) (fun _ => [(aJ, .inr (0, [.ref aT, .ref aP, .ref aF, .ref aQ, .ref aM, .ref aB, .int J_hasRun, .ref aJ_plainOrder, .ref aC])), (aM, .inr (3, [.ref aM_order, .ref aM_joins, .ref aM_acting, .ref aM_estimates, .ref aM_actsBehind, .int M_steps, .int M_filters])), (aM_estimates, .inl (cJ, 8, .inr (.inl M_estimates)))]) A) A) (by decide) (Nat.le_of_ble_eq_true rfl) ?_
  intro p e s m args below meth c Q A hx hb hr hlk hml hown hin htg hN hK hQ hA hP hD hS ls hl
  have hl : lv_has ls 2 [(0, .ref aJ), (1, .int x1)] := hl
  have hown : s.vm.findClass RX0 = some m.cls := hown
  have hf := (f_JoinOrder_estimate_u x1 M_steps M_estimates).symm.trans hf
  refine lv_aload_n hx hb dX0_estimate_0 rfl (lv_at hl 0 rfl) ?_
  refine va_get (D := D) (ci := 0) (v := .ref aM) (C := RX0) (T := TX0) (N := 9) hx hb htg giX0 hown hK hP 0 rfl rfl 4 (by decide) (htg _ kw_204) (fun _ h9 => h9) rfl dX0_estimate_1 ?_
  refine lv_iload_n hx hb dX0_estimate_4 rfl (lv_at hl 1 rfl) ?_
  refine x_z (xrV (As := [.int x1]) (b := aM) (rest := []) ⟨hx, hb, hml, hown, htg⟩ (c_f_Plan_has l D cI cJ cZ _ aM x1 aM_order aM_joins aM_acting aM_estimates aM_actsBehind M_steps M_filters rfl) kc_f_Plan_has kw_449 kw_450 kw_451 kw_6 dd_f_Plan_has ⟨Nat.le_of_ble_eq_true rfl, Nat.le_of_ble_eq_true rfl⟩ rfl rfl (hP.sub [1] rfl) (hD.sub [1] (by decide) rfl) hK hN hP (q0 := 1) rfl rfl rfl hl.1 rfl (Nat.le_of_ble_eq_true rfl) dX0_estimate_5 ⟨Nat.le_of_ble_eq_true rfl, Nat.le_of_ble_eq_true rfl⟩) hP hD hS hA [1] [0, 2] rfl rfl (by decide) (by decide) (fun _ H locs bz_1 hP hD hS => ?_)
  have hP : va_P D vwCl [(aJ, .inr (0, [.ref aT, .ref aP, .ref aF, .ref aQ, .ref aM, .ref aB, .int J_hasRun, .ref aJ_plainOrder, .ref aC])), (aM_estimates, .inl (cJ, 8, .inr (.inl M_estimates))), (aM, .inr (3, [.ref aM_order, .ref aM_joins, .ref aM_acting, .ref aM_estimates, .ref aM_actsBehind, .int M_steps, .int M_filters]))] H := hP
  have hD : va_D A [(aJ, .inr (0, [.ref aT, .ref aP, .ref aF, .ref aQ, .ref aM, .ref aB, .int J_hasRun, .ref aJ_plainOrder, .ref aC])), (aM_estimates, .inl (cJ, 8, .inr (.inl M_estimates))), (aM, .inr (3, [.ref aM_order, .ref aM_joins, .ref aM_acting, .ref aM_estimates, .ref aM_actsBehind, .int M_steps, .int M_filters]))] := hD
  refine lv_if_eq (tgt := 23) hx hb dX0_estimate_8 (by decide) (fun c_2 => ?_) (fun c_2 => ?_)
  · have hf := xb_t c_2 hf
    refine lv_ldc2 (v := (-1 : Int64)) hx hb hown (htg _ kw_458) dX0_estimate_23 ?_
    have hf := Option.some.inj hf
    subst hf
    exact x_lret (fun _ => 0) hQ hx hb hr hlk hK (hP.sub [0, 2, 1] rfl) (hD.sub [0, 2, 1] (by decide) rfl) hS dX0_estimate_26
  · have hf := xb_f c_2 hf
    refine lv_aload_n hx hb dX0_estimate_11 rfl (lv_at hl 0 rfl) ?_
    refine va_get (D := D) (ci := 0) (v := .ref aM) (C := RX0) (T := TX0) (N := 9) hx hb htg giX0 hown hK hP 0 rfl rfl 4 (by decide) (htg _ kw_204) (fun _ h9 => h9) rfl dX0_estimate_12 ?_
    refine va_getN (D := D) (ci := 3) (v := .ref aM_estimates) (C := RX3) (T := TX3) (N := 7) hx hb htg giX3 hown hK hP 2 rfl rfl 3 (by decide) (va_Nw.use rfl (hN _ kn_152)) (fun _ h9 => h9) rfl dX0_estimate_15 ?_
    refine lv_iload_n hx hb dX0_estimate_18 rfl (lv_at hl 1 rfl) ?_
    have g_3 : vp_in x1 8 := gd_in hf
    have hf := gd_el hf
    refine va_lald hx hb hK hP 1 1 rfl rfl g_3 dX0_estimate_19 ?_
    refine lv_goto (tgt := 26) hx hb dX0_estimate_20 (by decide) ?_
    have hf := Option.some.inj hf
    subst hf
    exact x_lret (fun _ => 0) hQ hx hb hr hlk hK (hP.sub [0, 2, 1] rfl) (hD.sub [0, 2, 1] (by decide) rfl) hS dX0_estimate_26
abbrev rm_f_JoinOrderModel_estimate : Room := { frames := 0, cells := 0, slots := 0, locals := 0 }
set_option maxHeartbeats 4000000 in
set_option maxRecDepth 100000 in
theorem c_f_JoinOrderModel_estimate (l : Launch) (D : va_G) (cI cJ cZ : ClassId) (sz : Nat) (aR : Nat) (x1 : Int32) (R_triples : Int32) (aR_facts : Nat) (R_patterns : Int32) (aR_cells : Nat) (aR_told : Nat) (aR_of : Nat) (aR_hints : Nat) (R_filters : Int32) (aR_looks : Nat) (aR_kinds : Nat) (aR_values : Nat) (aR_isSafe : Nat) (aR_sizes : Nat) (aR_spreads : Nat) (aR_isSeen : Nat) (aR_estimates : Nat) (aR_rest : Nat) (R_steps : Int32) (aR_order : Nat) (aR_joins : Nat) (aR_actsBehind : Nat) (aR_upTo : Nat) (R_filtersThen : Int32) (aR_behind : Nat) (R_rows : Int32) (aR_row : Nat) (aR_found : Nat) (R_comes : Int32) (aR_next : Nat) (aR_nextFound : Nat) (R_kept : Int32) (R_hasRoom : Int32) (aR_keep : Nat) (aR_isTaken : Nat) (R_upTo : Nat → Int64) {r : Int64} (hf : f_JoinOrderModel_estimate x1 R_steps R_upTo = some r) : Met l yX7_estimate (.code yX7_estimate cX7_estimate 2 (some .long) :: GW) rm_f_JoinOrderModel_estimate (va_Pc [.ref aR, .int x1] (xP D (xT cI cJ cZ) sz [(aR, .inr (7, [.int R_triples, .ref aR_facts, .int R_patterns, .ref aR_cells, .ref aR_told, .ref aR_of, .ref aR_hints, .int R_filters, .ref aR_looks, .ref aR_kinds, .ref aR_values, .ref aR_isSafe, .ref aR_sizes, .ref aR_spreads, .ref aR_isSeen, .ref aR_estimates, .ref aR_rest, .int R_steps, .ref aR_order, .ref aR_joins, .ref aR_actsBehind, .ref aR_upTo, .int R_filtersThen, .ref aR_behind, .int R_rows, .ref aR_row, .ref aR_found, .int R_comes, .ref aR_next, .ref aR_nextFound, .int R_kept, .int R_hasRoom, .ref aR_keep, .ref aR_isTaken])), (aR_upTo, .inl (cJ, 8, .inr (.inl R_upTo)))])) (va_Ql (fun r2 (_ : Nat → Nat) => r2 = r) (bB D (xT cI cJ cZ) (fun _ => [(aR, .inr (7, [.int R_triples, .ref aR_facts, .int R_patterns, .ref aR_cells, .ref aR_told, .ref aR_of, .ref aR_hints, .int R_filters, .ref aR_looks, .ref aR_kinds, .ref aR_values, .ref aR_isSafe, .ref aR_sizes, .ref aR_spreads, .ref aR_isSeen, .ref aR_estimates, .ref aR_rest, .int R_steps, .ref aR_order, .ref aR_joins, .ref aR_actsBehind, .ref aR_upTo, .int R_filtersThen, .ref aR_behind, .int R_rows, .ref aR_row, .ref aR_found, .int R_comes, .ref aR_next, .ref aR_nextFound, .int R_kept, .int R_hasRoom, .ref aR_keep, .ref aR_isTaken])), (aR_upTo, .inl (cJ, 8, .inr (.inl R_upTo)))]) (va_A [(aR, .inr (7, [.int R_triples, .ref aR_facts, .int R_patterns, .ref aR_cells, .ref aR_told, .ref aR_of, .ref aR_hints, .int R_filters, .ref aR_looks, .ref aR_kinds, .ref aR_values, .ref aR_isSafe, .ref aR_sizes, .ref aR_spreads, .ref aR_isSeen, .ref aR_estimates, .ref aR_rest, .int R_steps, .ref aR_order, .ref aR_joins, .ref aR_actsBehind, .ref aR_upTo, .int R_filtersThen, .ref aR_behind, .int R_rows, .ref aR_row, .ref aR_found, .int R_comes, .ref aR_next, .ref aR_nextFound, .int R_kept, .int R_hasRoom, .ref aR_keep, .ref aR_isTaken])), (aR_upTo, .inl (cJ, 8, .inr (.inl R_upTo)))] sz)) (va_A [(aR, .inr (7, [.int R_triples, .ref aR_facts, .int R_patterns, .ref aR_cells, .ref aR_told, .ref aR_of, .ref aR_hints, .int R_filters, .ref aR_looks, .ref aR_kinds, .ref aR_values, .ref aR_isSafe, .ref aR_sizes, .ref aR_spreads, .ref aR_isSeen, .ref aR_estimates, .ref aR_rest, .int R_steps, .ref aR_order, .ref aR_joins, .ref aR_actsBehind, .ref aR_upTo, .int R_filtersThen, .ref aR_behind, .int R_rows, .ref aR_row, .ref aR_found, .int R_comes, .ref aR_next, .ref aR_nextFound, .int R_kept, .int R_hasRoom, .ref aR_keep, .ref aR_isTaken])), (aR_upTo, .inl (cJ, 8, .inr (.inl R_upTo)))] sz)) 0 0 (va_A [(aR, .inr (7, [.int R_triples, .ref aR_facts, .int R_patterns, .ref aR_cells, .ref aR_told, .ref aR_of, .ref aR_hints, .int R_filters, .ref aR_looks, .ref aR_kinds, .ref aR_values, .ref aR_isSafe, .ref aR_sizes, .ref aR_spreads, .ref aR_isSeen, .ref aR_estimates, .ref aR_rest, .int R_steps, .ref aR_order, .ref aR_joins, .ref aR_actsBehind, .ref aR_upTo, .int R_filtersThen, .ref aR_behind, .int R_rows, .ref aR_row, .ref aR_found, .int R_comes, .ref aR_next, .ref aR_nextFound, .int R_kept, .int R_hasRoom, .ref aR_keep, .ref aR_isTaken])), (aR_upTo, .inl (cJ, 8, .inr (.inl R_upTo)))] sz) := by
  refine con_start (y := yX7_estimate) (bytes := cX7_estimate) (maxL := 2) (av := [.ref aR, .int x1]) (Qc := fun A => va_Ql (fun r2 (_ : Nat → Nat) => r2 = r) (bB D (xT cI cJ cZ) (fun _ => [(aR, .inr (7, [.int R_triples, .ref aR_facts, .int R_patterns, .ref aR_cells, .ref aR_told, .ref aR_of, .ref aR_hints, .int R_filters, .ref aR_looks, .ref aR_kinds, .ref aR_values, .ref aR_isSafe, .ref aR_sizes, .ref aR_spreads, .ref aR_isSeen, .ref aR_estimates, .ref aR_rest, .int R_steps, .ref aR_order, .ref aR_joins, .ref aR_actsBehind, .ref aR_upTo, .int R_filtersThen, .ref aR_behind, .int R_rows, .ref aR_row, .ref aR_found, .int R_comes, .ref aR_next, .ref aR_nextFound, .int R_kept, .int R_hasRoom, .ref aR_keep, .ref aR_isTaken])), (aR_upTo, .inl (cJ, 8, .inr (.inl R_upTo)))]) A) A) (by decide) (Nat.le_of_ble_eq_true rfl) ?_
  intro p e s m args below meth c Q A hx hb hr hlk hml hown hin htg hN hK hQ hA hP hD hS ls hl
  have hl : lv_has ls 2 [(0, .ref aR), (1, .int x1)] := hl
  have hown : s.vm.findClass RX7 = some m.cls := hown
  have hf := (f_JoinOrderModel_estimate_u x1 R_steps R_upTo).symm.trans hf
  refine lv_iload_n hx hb dX7_estimate_0 rfl (lv_at hl 1 rfl) ?_
  refine lv_if_lt (tgt := 12) hx hb dX7_estimate_1 (by decide) (fun c_1 => ?_) (fun c_1 => ?_)
  · have hf := xb_t c_1 hf
    refine lv_ldc2 (v := (-1 : Int64)) hx hb hown (htg _ kw_753) dX7_estimate_12 ?_
    refine lv_goto (tgt := 24) hx hb dX7_estimate_15 (by decide) ?_
    have hf := Option.some.inj hf
    subst hf
    exact x_lret (fun _ => 0) hQ hx hb hr hlk hK hP hD hS dX7_estimate_24
  · have hf := xb_f c_1 hf
    refine lv_iload_n hx hb dX7_estimate_4 rfl (lv_at hl 1 rfl) ?_
    refine lv_aload_n hx hb dX7_estimate_5 rfl (lv_at hl 0 rfl) ?_
    refine va_get (D := D) (ci := 7) (v := .int R_steps) (C := RX7) (T := TX7) (N := 34) hx hb htg giX7 hown hK hP 0 rfl rfl 17 (by decide) (htg _ kw_580) (fun _ h9 => h9) rfl dX7_estimate_6 ?_
    refine lv_icmp_lt (tgt := 18) hx hb dX7_estimate_9 (by decide) (fun c_2 => ?_) (fun c_2 => ?_)
    · have hf := xb_t c_2 hf
      refine lv_aload_n hx hb dX7_estimate_18 rfl (lv_at hl 0 rfl) ?_
      refine va_get (D := D) (ci := 7) (v := .ref aR_upTo) (C := RX7) (T := TX7) (N := 34) hx hb htg giX7 hown hK hP 0 rfl rfl 21 (by decide) (htg _ kw_584) (fun _ h9 => h9) rfl dX7_estimate_19 ?_
      refine lv_iload_n hx hb dX7_estimate_22 rfl (lv_at hl 1 rfl) ?_
      have g_3 : vp_in x1 8 := gd_in hf
      have hf := gd_el hf
      refine va_lald hx hb hK hP 1 1 rfl rfl g_3 dX7_estimate_23 ?_
      have hf := Option.some.inj hf
      subst hf
      exact x_lret (fun _ => 0) hQ hx hb hr hlk hK hP hD hS dX7_estimate_24
    · have hf := xb_f c_2 hf
      refine lv_ldc2 (v := (-1 : Int64)) hx hb hown (htg _ kw_753) dX7_estimate_12 ?_
      refine lv_goto (tgt := 24) hx hb dX7_estimate_15 (by decide) ?_
      have hf := Option.some.inj hf
      subst hf
      exact x_lret (fun _ => 0) hQ hx hb hr hlk hK hP hD hS dX7_estimate_24
