abbrev rm_f_JoinOrderModel_pattern : Room := { frames := 2, cells := 0, slots := 0, locals := 40 }
set_option maxHeartbeats 4000000 in
set_option maxRecDepth 100000 in
theorem c_f_JoinOrderModel_pattern (l : Launch) (D : va_G) (cI cJ cZ : ClassId) (sz : Nat) (aR : Nat) (x1 : Int32) (x2 : Int32) (x3 : Int32) (R_triples : Int32) (aR_facts : Nat) (R_patterns : Int32) (aR_cells : Nat) (aR_told : Nat) (aR_of : Nat) (aR_hints : Nat) (R_filters : Int32) (aR_looks : Nat) (aR_kinds : Nat) (aR_values : Nat) (aR_isSafe : Nat) (aR_sizes : Nat) (aR_spreads : Nat) (aR_isSeen : Nat) (aR_estimates : Nat) (aR_rest : Nat) (R_steps : Int32) (aR_order : Nat) (aR_joins : Nat) (aR_actsBehind : Nat) (aR_upTo : Nat) (R_filtersThen : Int32) (aR_behind : Nat) (R_rows : Int32) (aR_row : Nat) (aR_found : Nat) (R_comes : Int32) (aR_next : Nat) (aR_nextFound : Nat) (R_kept : Int32) (R_hasRoom : Int32) (aR_keep : Nat) (aR_isTaken : Nat) (R_cells : Nat → Int32) (R_told : Nat → Int32) (R_of : Nat → Int32) {r : Int32} {R_patterns' : Int32} {R_cells' : Nat → Int32} {R_told' : Nat → Int32} {R_of' : Nat → Int32} (hf : f_JoinOrderModel_pattern x1 x2 x3 R_patterns R_cells R_told R_of = some (r, R_patterns', R_cells', R_told', R_of')) : Met l yX7_pattern (.code yX7_pattern cX7_pattern 4 (some .int) :: GW) rm_f_JoinOrderModel_pattern (va_Pc [.ref aR, .int x1, .int x2, .int x3] (xP D (xT cI cJ cZ) sz [(aR, .inr (7, [.int R_triples, .ref aR_facts, .int R_patterns, .ref aR_cells, .ref aR_told, .ref aR_of, .ref aR_hints, .int R_filters, .ref aR_looks, .ref aR_kinds, .ref aR_values, .ref aR_isSafe, .ref aR_sizes, .ref aR_spreads, .ref aR_isSeen, .ref aR_estimates, .ref aR_rest, .int R_steps, .ref aR_order, .ref aR_joins, .ref aR_actsBehind, .ref aR_upTo, .int R_filtersThen, .ref aR_behind, .int R_rows, .ref aR_row, .ref aR_found, .int R_comes, .ref aR_next, .ref aR_nextFound, .int R_kept, .int R_hasRoom, .ref aR_keep, .ref aR_isTaken])), (aR_cells, .inl (cI, 24, .inl R_cells)), (aR_told, .inl (cI, 8, .inl R_told)), (aR_of, .inl (cI, 8, .inl R_of))])) (va_Qi (fun r2 (_ : Nat → Nat) => r2 = r) (bB D (xT cI cJ cZ) (fun _ => [(aR, .inr (7, [.int R_triples, .ref aR_facts, .int R_patterns', .ref aR_cells, .ref aR_told, .ref aR_of, .ref aR_hints, .int R_filters, .ref aR_looks, .ref aR_kinds, .ref aR_values, .ref aR_isSafe, .ref aR_sizes, .ref aR_spreads, .ref aR_isSeen, .ref aR_estimates, .ref aR_rest, .int R_steps, .ref aR_order, .ref aR_joins, .ref aR_actsBehind, .ref aR_upTo, .int R_filtersThen, .ref aR_behind, .int R_rows, .ref aR_row, .ref aR_found, .int R_comes, .ref aR_next, .ref aR_nextFound, .int R_kept, .int R_hasRoom, .ref aR_keep, .ref aR_isTaken])), (aR_cells, .inl (cI, 24, .inl R_cells')), (aR_told, .inl (cI, 8, .inl R_told')), (aR_of, .inl (cI, 8, .inl R_of'))]) (va_A [(aR, .inr (7, [.int R_triples, .ref aR_facts, .int R_patterns, .ref aR_cells, .ref aR_told, .ref aR_of, .ref aR_hints, .int R_filters, .ref aR_looks, .ref aR_kinds, .ref aR_values, .ref aR_isSafe, .ref aR_sizes, .ref aR_spreads, .ref aR_isSeen, .ref aR_estimates, .ref aR_rest, .int R_steps, .ref aR_order, .ref aR_joins, .ref aR_actsBehind, .ref aR_upTo, .int R_filtersThen, .ref aR_behind, .int R_rows, .ref aR_row, .ref aR_found, .int R_comes, .ref aR_next, .ref aR_nextFound, .int R_kept, .int R_hasRoom, .ref aR_keep, .ref aR_isTaken])), (aR_cells, .inl (cI, 24, .inl R_cells)), (aR_told, .inl (cI, 8, .inl R_told)), (aR_of, .inl (cI, 8, .inl R_of))] sz)) (va_A [(aR, .inr (7, [.int R_triples, .ref aR_facts, .int R_patterns, .ref aR_cells, .ref aR_told, .ref aR_of, .ref aR_hints, .int R_filters, .ref aR_looks, .ref aR_kinds, .ref aR_values, .ref aR_isSafe, .ref aR_sizes, .ref aR_spreads, .ref aR_isSeen, .ref aR_estimates, .ref aR_rest, .int R_steps, .ref aR_order, .ref aR_joins, .ref aR_actsBehind, .ref aR_upTo, .int R_filtersThen, .ref aR_behind, .int R_rows, .ref aR_row, .ref aR_found, .int R_comes, .ref aR_next, .ref aR_nextFound, .int R_kept, .int R_hasRoom, .ref aR_keep, .ref aR_isTaken])), (aR_cells, .inl (cI, 24, .inl R_cells)), (aR_told, .inl (cI, 8, .inl R_told)), (aR_of, .inl (cI, 8, .inl R_of))] sz)) 0 0 (va_A [(aR, .inr (7, [.int R_triples, .ref aR_facts, .int R_patterns, .ref aR_cells, .ref aR_told, .ref aR_of, .ref aR_hints, .int R_filters, .ref aR_looks, .ref aR_kinds, .ref aR_values, .ref aR_isSafe, .ref aR_sizes, .ref aR_spreads, .ref aR_isSeen, .ref aR_estimates, .ref aR_rest, .int R_steps, .ref aR_order, .ref aR_joins, .ref aR_actsBehind, .ref aR_upTo, .int R_filtersThen, .ref aR_behind, .int R_rows, .ref aR_row, .ref aR_found, .int R_comes, .ref aR_next, .ref aR_nextFound, .int R_kept, .int R_hasRoom, .ref aR_keep, .ref aR_isTaken])), (aR_cells, .inl (cI, 24, .inl R_cells)), (aR_told, .inl (cI, 8, .inl R_told)), (aR_of, .inl (cI, 8, .inl R_of))] sz) := by
  refine con_start (y := yX7_pattern) (bytes := cX7_pattern) (maxL := 4) (av := [.ref aR, .int x1, .int x2, .int x3]) (Qc := fun A => va_Qi (fun r2 (_ : Nat → Nat) => r2 = r) (bB D (xT cI cJ cZ) (fun _ => [(aR, .inr (7, [.int R_triples, .ref aR_facts, .int R_patterns', .ref aR_cells, .ref aR_told, .ref aR_of, .ref aR_hints, .int R_filters, .ref aR_looks, .ref aR_kinds, .ref aR_values, .ref aR_isSafe, .ref aR_sizes, .ref aR_spreads, .ref aR_isSeen, .ref aR_estimates, .ref aR_rest, .int R_steps, .ref aR_order, .ref aR_joins, .ref aR_actsBehind, .ref aR_upTo, .int R_filtersThen, .ref aR_behind, .int R_rows, .ref aR_row, .ref aR_found, .int R_comes, .ref aR_next, .ref aR_nextFound, .int R_kept, .int R_hasRoom, .ref aR_keep, .ref aR_isTaken])), (aR_cells, .inl (cI, 24, .inl R_cells')), (aR_told, .inl (cI, 8, .inl R_told')), (aR_of, .inl (cI, 8, .inl R_of'))]) A) A) (by decide) (Nat.le_of_ble_eq_true rfl) ?_
  intro p e s m args below meth c Q A hx hb hr hlk hml hown hin htg hN hK hQ hA hP hD hS ls hl
  have hl : lv_has ls 4 [(0, .ref aR), (1, .int x1), (2, .int x2), (3, .int x3)] := hl
  have hown : s.vm.findClass RX7 = some m.cls := hown
  have hf := (f_JoinOrderModel_pattern_u x1 x2 x3 R_patterns R_cells R_told R_of).symm.trans hf
  refine lv_iload_n hx hb dX7_pattern_0 rfl (lv_at hl 1 rfl) ?_
  refine x_z (xrS (As := [.int x1]) (rest := []) ⟨hx, hb, hml, hown, htg⟩ (c_f_JoinOrderModel_isCell l D cI cJ cZ _ x1 rfl) kc_f_JoinOrderModel_isCell kw_678 kw_679 kw_8 dd_f_JoinOrderModel_isCell ⟨Nat.le_of_ble_eq_true rfl, Nat.le_of_ble_eq_true rfl⟩ rfl rfl (hP.sub [] rfl) (hD.sub [] (by decide) rfl) hK hN rfl hl.1 rfl (Nat.le_of_ble_eq_true rfl) dX7_pattern_1 ⟨Nat.le_of_ble_eq_true rfl, Nat.le_of_ble_eq_true rfl⟩) hP hD hS hA [] [0, 1, 2, 3] rfl rfl (by decide) (by decide) (fun _ H locs bz_1 hP hD hS => ?_)
  have hP : va_P D vwCl [(aR, .inr (7, [.int R_triples, .ref aR_facts, .int R_patterns, .ref aR_cells, .ref aR_told, .ref aR_of, .ref aR_hints, .int R_filters, .ref aR_looks, .ref aR_kinds, .ref aR_values, .ref aR_isSafe, .ref aR_sizes, .ref aR_spreads, .ref aR_isSeen, .ref aR_estimates, .ref aR_rest, .int R_steps, .ref aR_order, .ref aR_joins, .ref aR_actsBehind, .ref aR_upTo, .int R_filtersThen, .ref aR_behind, .int R_rows, .ref aR_row, .ref aR_found, .int R_comes, .ref aR_next, .ref aR_nextFound, .int R_kept, .int R_hasRoom, .ref aR_keep, .ref aR_isTaken])), (aR_cells, .inl (cI, 24, .inl R_cells)), (aR_told, .inl (cI, 8, .inl R_told)), (aR_of, .inl (cI, 8, .inl R_of))] H := hP
  have hD : va_D A [(aR, .inr (7, [.int R_triples, .ref aR_facts, .int R_patterns, .ref aR_cells, .ref aR_told, .ref aR_of, .ref aR_hints, .int R_filters, .ref aR_looks, .ref aR_kinds, .ref aR_values, .ref aR_isSafe, .ref aR_sizes, .ref aR_spreads, .ref aR_isSeen, .ref aR_estimates, .ref aR_rest, .int R_steps, .ref aR_order, .ref aR_joins, .ref aR_actsBehind, .ref aR_upTo, .int R_filtersThen, .ref aR_behind, .int R_rows, .ref aR_row, .ref aR_found, .int R_comes, .ref aR_next, .ref aR_nextFound, .int R_kept, .int R_hasRoom, .ref aR_keep, .ref aR_isTaken])), (aR_cells, .inl (cI, 24, .inl R_cells)), (aR_told, .inl (cI, 8, .inl R_told)), (aR_of, .inl (cI, 8, .inl R_of))] := hD
  refine lv_if_eq (tgt := 21) hx hb dX7_pattern_4 (by decide) (fun c_2 => ?_) (fun c_2 => ?_)
  · have hf := xb_t c_2 hf
    refine lv_bipush (v := (-2 : Int32)) hx hb dX7_pattern_21 (by decide) ?_
    have hf := Option.some.inj hf
    obtain ⟨k9_0, f9_0⟩ := Prod.mk.inj hf
    obtain ⟨k9_1, f9_1⟩ := Prod.mk.inj f9_0
    obtain ⟨k9_2, f9_2⟩ := Prod.mk.inj f9_1
    obtain ⟨k9_3, f9_3⟩ := Prod.mk.inj f9_2
    subst k9_0
    subst k9_1
    subst k9_2
    subst k9_3
    subst f9_3
    exact x_iret (fun _ => 0) hQ hx hb hr hlk hK hP hD hS dX7_pattern_23
  · have hf := xb_f c_2 hf
    refine lv_iload_n hx hb dX7_pattern_7 rfl (lv_at hl 2 rfl) ?_
    refine x_z (xrS (As := [.int x2]) (rest := []) ⟨hx, hb, hml, hown, htg⟩ (c_f_JoinOrderModel_isCell l D cI cJ cZ _ x2 rfl) kc_f_JoinOrderModel_isCell kw_678 kw_679 kw_8 dd_f_JoinOrderModel_isCell ⟨Nat.le_of_ble_eq_true rfl, Nat.le_of_ble_eq_true rfl⟩ rfl rfl (hP.sub [] rfl) (hD.sub [] (by decide) rfl) hK hN rfl hl.1 rfl (Nat.le_of_ble_eq_true rfl) dX7_pattern_8 ⟨Nat.le_of_ble_eq_true rfl, Nat.le_of_ble_eq_true rfl⟩) hP hD hS hA [] [0, 1, 2, 3] rfl rfl (by decide) (by decide) (fun _ H locs bz_3 hP hD hS => ?_)
    have hP : va_P D vwCl [(aR, .inr (7, [.int R_triples, .ref aR_facts, .int R_patterns, .ref aR_cells, .ref aR_told, .ref aR_of, .ref aR_hints, .int R_filters, .ref aR_looks, .ref aR_kinds, .ref aR_values, .ref aR_isSafe, .ref aR_sizes, .ref aR_spreads, .ref aR_isSeen, .ref aR_estimates, .ref aR_rest, .int R_steps, .ref aR_order, .ref aR_joins, .ref aR_actsBehind, .ref aR_upTo, .int R_filtersThen, .ref aR_behind, .int R_rows, .ref aR_row, .ref aR_found, .int R_comes, .ref aR_next, .ref aR_nextFound, .int R_kept, .int R_hasRoom, .ref aR_keep, .ref aR_isTaken])), (aR_cells, .inl (cI, 24, .inl R_cells)), (aR_told, .inl (cI, 8, .inl R_told)), (aR_of, .inl (cI, 8, .inl R_of))] H := hP
    have hD : va_D A [(aR, .inr (7, [.int R_triples, .ref aR_facts, .int R_patterns, .ref aR_cells, .ref aR_told, .ref aR_of, .ref aR_hints, .int R_filters, .ref aR_looks, .ref aR_kinds, .ref aR_values, .ref aR_isSafe, .ref aR_sizes, .ref aR_spreads, .ref aR_isSeen, .ref aR_estimates, .ref aR_rest, .int R_steps, .ref aR_order, .ref aR_joins, .ref aR_actsBehind, .ref aR_upTo, .int R_filtersThen, .ref aR_behind, .int R_rows, .ref aR_row, .ref aR_found, .int R_comes, .ref aR_next, .ref aR_nextFound, .int R_kept, .int R_hasRoom, .ref aR_keep, .ref aR_isTaken])), (aR_cells, .inl (cI, 24, .inl R_cells)), (aR_told, .inl (cI, 8, .inl R_told)), (aR_of, .inl (cI, 8, .inl R_of))] := hD
    refine lv_if_eq (tgt := 21) hx hb dX7_pattern_11 (by decide) (fun c_4 => ?_) (fun c_4 => ?_)
    · have hf := xb_t c_4 hf
      refine lv_bipush (v := (-2 : Int32)) hx hb dX7_pattern_21 (by decide) ?_
      have hf := Option.some.inj hf
      obtain ⟨k9_0, f9_0⟩ := Prod.mk.inj hf
      obtain ⟨k9_1, f9_1⟩ := Prod.mk.inj f9_0
      obtain ⟨k9_2, f9_2⟩ := Prod.mk.inj f9_1
      obtain ⟨k9_3, f9_3⟩ := Prod.mk.inj f9_2
      subst k9_0
      subst k9_1
      subst k9_2
      subst k9_3
      subst f9_3
      exact x_iret (fun _ => 0) hQ hx hb hr hlk hK hP hD hS dX7_pattern_23
    · have hf := xb_f c_4 hf
      refine lv_iload_n hx hb dX7_pattern_14 rfl (lv_at hl 3 rfl) ?_
      refine x_z (xrS (As := [.int x3]) (rest := []) ⟨hx, hb, hml, hown, htg⟩ (c_f_JoinOrderModel_isCell l D cI cJ cZ _ x3 rfl) kc_f_JoinOrderModel_isCell kw_678 kw_679 kw_8 dd_f_JoinOrderModel_isCell ⟨Nat.le_of_ble_eq_true rfl, Nat.le_of_ble_eq_true rfl⟩ rfl rfl (hP.sub [] rfl) (hD.sub [] (by decide) rfl) hK hN rfl hl.1 rfl (Nat.le_of_ble_eq_true rfl) dX7_pattern_15 ⟨Nat.le_of_ble_eq_true rfl, Nat.le_of_ble_eq_true rfl⟩) hP hD hS hA [] [0, 1, 2, 3] rfl rfl (by decide) (by decide) (fun _ H locs bz_5 hP hD hS => ?_)
      have hP : va_P D vwCl [(aR, .inr (7, [.int R_triples, .ref aR_facts, .int R_patterns, .ref aR_cells, .ref aR_told, .ref aR_of, .ref aR_hints, .int R_filters, .ref aR_looks, .ref aR_kinds, .ref aR_values, .ref aR_isSafe, .ref aR_sizes, .ref aR_spreads, .ref aR_isSeen, .ref aR_estimates, .ref aR_rest, .int R_steps, .ref aR_order, .ref aR_joins, .ref aR_actsBehind, .ref aR_upTo, .int R_filtersThen, .ref aR_behind, .int R_rows, .ref aR_row, .ref aR_found, .int R_comes, .ref aR_next, .ref aR_nextFound, .int R_kept, .int R_hasRoom, .ref aR_keep, .ref aR_isTaken])), (aR_cells, .inl (cI, 24, .inl R_cells)), (aR_told, .inl (cI, 8, .inl R_told)), (aR_of, .inl (cI, 8, .inl R_of))] H := hP
      have hD : va_D A [(aR, .inr (7, [.int R_triples, .ref aR_facts, .int R_patterns, .ref aR_cells, .ref aR_told, .ref aR_of, .ref aR_hints, .int R_filters, .ref aR_looks, .ref aR_kinds, .ref aR_values, .ref aR_isSafe, .ref aR_sizes, .ref aR_spreads, .ref aR_isSeen, .ref aR_estimates, .ref aR_rest, .int R_steps, .ref aR_order, .ref aR_joins, .ref aR_actsBehind, .ref aR_upTo, .int R_filtersThen, .ref aR_behind, .int R_rows, .ref aR_row, .ref aR_found, .int R_comes, .ref aR_next, .ref aR_nextFound, .int R_kept, .int R_hasRoom, .ref aR_keep, .ref aR_isTaken])), (aR_cells, .inl (cI, 24, .inl R_cells)), (aR_told, .inl (cI, 8, .inl R_told)), (aR_of, .inl (cI, 8, .inl R_of))] := hD
      refine lv_if_ne (tgt := 24) hx hb dX7_pattern_18 (by decide) (fun c_6 => ?_) (fun c_6 => ?_)
      · have hf := xb_f c_6 hf
        refine lv_aload_n hx hb dX7_pattern_24 rfl (lv_at hl 0 rfl) ?_
        refine va_get (D := D) (ci := 7) (v := .int R_patterns) (C := RX7) (T := TX7) (N := 34) hx hb htg giX7 hown hK hP 0 rfl rfl 2 (by decide) (htg _ kw_565) (fun _ h9 => h9) rfl dX7_pattern_25 ?_
        refine lv_bipush (v := (8 : Int32)) hx hb dX7_pattern_28 (by decide) ?_
        refine lv_icmp_ne (tgt := 36) hx hb dX7_pattern_30 (by decide) (fun c_7 => ?_) (fun c_7 => ?_)
        · have hf := xb_f c_7 hf
          refine lv_aload_n hx hb dX7_pattern_36 rfl (lv_at hl 0 rfl) ?_
          refine va_get (D := D) (ci := 7) (v := .ref aR_cells) (C := RX7) (T := TX7) (N := 34) hx hb htg giX7 hown hK hP 0 rfl rfl 3 (by decide) (htg _ kw_566) (fun _ h9 => h9) rfl dX7_pattern_37 ?_
          refine lv_iconst (v := (3 : Int32)) hx hb dX7_pattern_40 (by decide) ?_
          refine lv_aload_n hx hb dX7_pattern_41 rfl (lv_at hl 0 rfl) ?_
          refine va_get (D := D) (ci := 7) (v := .int R_patterns) (C := RX7) (T := TX7) (N := 34) hx hb htg giX7 hown hK hP 0 rfl rfl 2 (by decide) (htg _ kw_565) (fun _ h9 => h9) rfl dX7_pattern_42 ?_
          refine lv_imul hx hb dX7_pattern_45 ?_
          refine lv_iload_n hx hb dX7_pattern_46 rfl (lv_at hl 1 rfl) ?_
          have g_8 : vp_in ((3 : Int32) * R_patterns) 24 := gd_in hf
          have hf := gd_el hf
          refine x_iast hx hb hK hP hD hS 1 0 rfl rfl g_8 dX7_pattern_47 (fun R_cells_9 eR_cells_9 H locs hP hD hS => ?_)
          have hf := nm_nm eR_cells_9 hf
          have hP : va_P D vwCl [(aR, .inr (7, [.int R_triples, .ref aR_facts, .int R_patterns, .ref aR_cells, .ref aR_told, .ref aR_of, .ref aR_hints, .int R_filters, .ref aR_looks, .ref aR_kinds, .ref aR_values, .ref aR_isSafe, .ref aR_sizes, .ref aR_spreads, .ref aR_isSeen, .ref aR_estimates, .ref aR_rest, .int R_steps, .ref aR_order, .ref aR_joins, .ref aR_actsBehind, .ref aR_upTo, .int R_filtersThen, .ref aR_behind, .int R_rows, .ref aR_row, .ref aR_found, .int R_comes, .ref aR_next, .ref aR_nextFound, .int R_kept, .int R_hasRoom, .ref aR_keep, .ref aR_isTaken])), (aR_cells, .inl (cI, 24, .inl R_cells_9)), (aR_told, .inl (cI, 8, .inl R_told)), (aR_of, .inl (cI, 8, .inl R_of))] H := hP
          have hD : va_D A [(aR, .inr (7, [.int R_triples, .ref aR_facts, .int R_patterns, .ref aR_cells, .ref aR_told, .ref aR_of, .ref aR_hints, .int R_filters, .ref aR_looks, .ref aR_kinds, .ref aR_values, .ref aR_isSafe, .ref aR_sizes, .ref aR_spreads, .ref aR_isSeen, .ref aR_estimates, .ref aR_rest, .int R_steps, .ref aR_order, .ref aR_joins, .ref aR_actsBehind, .ref aR_upTo, .int R_filtersThen, .ref aR_behind, .int R_rows, .ref aR_row, .ref aR_found, .int R_comes, .ref aR_next, .ref aR_nextFound, .int R_kept, .int R_hasRoom, .ref aR_keep, .ref aR_isTaken])), (aR_cells, .inl (cI, 24, .inl R_cells_9)), (aR_told, .inl (cI, 8, .inl R_told)), (aR_of, .inl (cI, 8, .inl R_of))] := hD
          refine lv_aload_n hx hb dX7_pattern_48 rfl (lv_at hl 0 rfl) ?_
          refine va_get (D := D) (ci := 7) (v := .ref aR_cells) (C := RX7) (T := TX7) (N := 34) hx hb htg giX7 hown hK hP 0 rfl rfl 3 (by decide) (htg _ kw_566) (fun _ h9 => h9) rfl dX7_pattern_49 ?_
          refine lv_iconst (v := (3 : Int32)) hx hb dX7_pattern_52 (by decide) ?_
          refine lv_aload_n hx hb dX7_pattern_53 rfl (lv_at hl 0 rfl) ?_
          refine va_get (D := D) (ci := 7) (v := .int R_patterns) (C := RX7) (T := TX7) (N := 34) hx hb htg giX7 hown hK hP 0 rfl rfl 2 (by decide) (htg _ kw_565) (fun _ h9 => h9) rfl dX7_pattern_54 ?_
          refine lv_imul hx hb dX7_pattern_57 ?_
          refine lv_iconst (v := (1 : Int32)) hx hb dX7_pattern_58 (by decide) ?_
          refine lv_iadd hx hb dX7_pattern_59 ?_
          refine lv_iload_n hx hb dX7_pattern_60 rfl (lv_at hl 2 rfl) ?_
          have g_10 : vp_in (((3 : Int32) * R_patterns) + (1 : Int32)) 24 := gd_in hf
          have hf := gd_el hf
          refine x_iast hx hb hK hP hD hS 1 0 rfl rfl g_10 dX7_pattern_61 (fun R_cells_11 eR_cells_11 H locs hP hD hS => ?_)
          have hf := nm_nm eR_cells_11 hf
          have hP : va_P D vwCl [(aR, .inr (7, [.int R_triples, .ref aR_facts, .int R_patterns, .ref aR_cells, .ref aR_told, .ref aR_of, .ref aR_hints, .int R_filters, .ref aR_looks, .ref aR_kinds, .ref aR_values, .ref aR_isSafe, .ref aR_sizes, .ref aR_spreads, .ref aR_isSeen, .ref aR_estimates, .ref aR_rest, .int R_steps, .ref aR_order, .ref aR_joins, .ref aR_actsBehind, .ref aR_upTo, .int R_filtersThen, .ref aR_behind, .int R_rows, .ref aR_row, .ref aR_found, .int R_comes, .ref aR_next, .ref aR_nextFound, .int R_kept, .int R_hasRoom, .ref aR_keep, .ref aR_isTaken])), (aR_cells, .inl (cI, 24, .inl R_cells_11)), (aR_told, .inl (cI, 8, .inl R_told)), (aR_of, .inl (cI, 8, .inl R_of))] H := hP
          have hD : va_D A [(aR, .inr (7, [.int R_triples, .ref aR_facts, .int R_patterns, .ref aR_cells, .ref aR_told, .ref aR_of, .ref aR_hints, .int R_filters, .ref aR_looks, .ref aR_kinds, .ref aR_values, .ref aR_isSafe, .ref aR_sizes, .ref aR_spreads, .ref aR_isSeen, .ref aR_estimates, .ref aR_rest, .int R_steps, .ref aR_order, .ref aR_joins, .ref aR_actsBehind, .ref aR_upTo, .int R_filtersThen, .ref aR_behind, .int R_rows, .ref aR_row, .ref aR_found, .int R_comes, .ref aR_next, .ref aR_nextFound, .int R_kept, .int R_hasRoom, .ref aR_keep, .ref aR_isTaken])), (aR_cells, .inl (cI, 24, .inl R_cells_11)), (aR_told, .inl (cI, 8, .inl R_told)), (aR_of, .inl (cI, 8, .inl R_of))] := hD
          refine lv_aload_n hx hb dX7_pattern_62 rfl (lv_at hl 0 rfl) ?_
          refine va_get (D := D) (ci := 7) (v := .ref aR_cells) (C := RX7) (T := TX7) (N := 34) hx hb htg giX7 hown hK hP 0 rfl rfl 3 (by decide) (htg _ kw_566) (fun _ h9 => h9) rfl dX7_pattern_63 ?_
          refine lv_iconst (v := (3 : Int32)) hx hb dX7_pattern_66 (by decide) ?_
          refine lv_aload_n hx hb dX7_pattern_67 rfl (lv_at hl 0 rfl) ?_
          refine va_get (D := D) (ci := 7) (v := .int R_patterns) (C := RX7) (T := TX7) (N := 34) hx hb htg giX7 hown hK hP 0 rfl rfl 2 (by decide) (htg _ kw_565) (fun _ h9 => h9) rfl dX7_pattern_68 ?_
          refine lv_imul hx hb dX7_pattern_71 ?_
          refine lv_iconst (v := (2 : Int32)) hx hb dX7_pattern_72 (by decide) ?_
          refine lv_iadd hx hb dX7_pattern_73 ?_
          refine lv_iload_n hx hb dX7_pattern_74 rfl (lv_at hl 3 rfl) ?_
          have g_12 : vp_in (((3 : Int32) * R_patterns) + (2 : Int32)) 24 := gd_in hf
          have hf := gd_el hf
          refine x_iast hx hb hK hP hD hS 1 0 rfl rfl g_12 dX7_pattern_75 (fun R_cells_13 eR_cells_13 H locs hP hD hS => ?_)
          have hf := nm_nm eR_cells_13 hf
          have hP : va_P D vwCl [(aR, .inr (7, [.int R_triples, .ref aR_facts, .int R_patterns, .ref aR_cells, .ref aR_told, .ref aR_of, .ref aR_hints, .int R_filters, .ref aR_looks, .ref aR_kinds, .ref aR_values, .ref aR_isSafe, .ref aR_sizes, .ref aR_spreads, .ref aR_isSeen, .ref aR_estimates, .ref aR_rest, .int R_steps, .ref aR_order, .ref aR_joins, .ref aR_actsBehind, .ref aR_upTo, .int R_filtersThen, .ref aR_behind, .int R_rows, .ref aR_row, .ref aR_found, .int R_comes, .ref aR_next, .ref aR_nextFound, .int R_kept, .int R_hasRoom, .ref aR_keep, .ref aR_isTaken])), (aR_cells, .inl (cI, 24, .inl R_cells_13)), (aR_told, .inl (cI, 8, .inl R_told)), (aR_of, .inl (cI, 8, .inl R_of))] H := hP
          have hD : va_D A [(aR, .inr (7, [.int R_triples, .ref aR_facts, .int R_patterns, .ref aR_cells, .ref aR_told, .ref aR_of, .ref aR_hints, .int R_filters, .ref aR_looks, .ref aR_kinds, .ref aR_values, .ref aR_isSafe, .ref aR_sizes, .ref aR_spreads, .ref aR_isSeen, .ref aR_estimates, .ref aR_rest, .int R_steps, .ref aR_order, .ref aR_joins, .ref aR_actsBehind, .ref aR_upTo, .int R_filtersThen, .ref aR_behind, .int R_rows, .ref aR_row, .ref aR_found, .int R_comes, .ref aR_next, .ref aR_nextFound, .int R_kept, .int R_hasRoom, .ref aR_keep, .ref aR_isTaken])), (aR_cells, .inl (cI, 24, .inl R_cells_13)), (aR_told, .inl (cI, 8, .inl R_told)), (aR_of, .inl (cI, 8, .inl R_of))] := hD
          refine lv_aload_n hx hb dX7_pattern_76 rfl (lv_at hl 0 rfl) ?_
          refine va_get (D := D) (ci := 7) (v := .ref aR_told) (C := RX7) (T := TX7) (N := 34) hx hb htg giX7 hown hK hP 0 rfl rfl 4 (by decide) (htg _ kw_567) (fun _ h9 => h9) rfl dX7_pattern_77 ?_
          refine lv_aload_n hx hb dX7_pattern_80 rfl (lv_at hl 0 rfl) ?_
          refine va_get (D := D) (ci := 7) (v := .int R_patterns) (C := RX7) (T := TX7) (N := 34) hx hb htg giX7 hown hK hP 0 rfl rfl 2 (by decide) (htg _ kw_565) (fun _ h9 => h9) rfl dX7_pattern_81 ?_
          refine lv_iconst (v := (-1 : Int32)) hx hb dX7_pattern_84 (by decide) ?_
          have g_14 : vp_in R_patterns 8 := gd_in hf
          have hf := gd_el hf
          refine x_iast hx hb hK hP hD hS 2 0 rfl rfl g_14 dX7_pattern_85 (fun R_told_15 eR_told_15 H locs hP hD hS => ?_)
          have hf := nm_nm eR_told_15 hf
          have hP : va_P D vwCl [(aR, .inr (7, [.int R_triples, .ref aR_facts, .int R_patterns, .ref aR_cells, .ref aR_told, .ref aR_of, .ref aR_hints, .int R_filters, .ref aR_looks, .ref aR_kinds, .ref aR_values, .ref aR_isSafe, .ref aR_sizes, .ref aR_spreads, .ref aR_isSeen, .ref aR_estimates, .ref aR_rest, .int R_steps, .ref aR_order, .ref aR_joins, .ref aR_actsBehind, .ref aR_upTo, .int R_filtersThen, .ref aR_behind, .int R_rows, .ref aR_row, .ref aR_found, .int R_comes, .ref aR_next, .ref aR_nextFound, .int R_kept, .int R_hasRoom, .ref aR_keep, .ref aR_isTaken])), (aR_cells, .inl (cI, 24, .inl R_cells_13)), (aR_told, .inl (cI, 8, .inl R_told_15)), (aR_of, .inl (cI, 8, .inl R_of))] H := hP
          have hD : va_D A [(aR, .inr (7, [.int R_triples, .ref aR_facts, .int R_patterns, .ref aR_cells, .ref aR_told, .ref aR_of, .ref aR_hints, .int R_filters, .ref aR_looks, .ref aR_kinds, .ref aR_values, .ref aR_isSafe, .ref aR_sizes, .ref aR_spreads, .ref aR_isSeen, .ref aR_estimates, .ref aR_rest, .int R_steps, .ref aR_order, .ref aR_joins, .ref aR_actsBehind, .ref aR_upTo, .int R_filtersThen, .ref aR_behind, .int R_rows, .ref aR_row, .ref aR_found, .int R_comes, .ref aR_next, .ref aR_nextFound, .int R_kept, .int R_hasRoom, .ref aR_keep, .ref aR_isTaken])), (aR_cells, .inl (cI, 24, .inl R_cells_13)), (aR_told, .inl (cI, 8, .inl R_told_15)), (aR_of, .inl (cI, 8, .inl R_of))] := hD
          refine lv_aload_n hx hb dX7_pattern_86 rfl (lv_at hl 0 rfl) ?_
          refine va_get (D := D) (ci := 7) (v := .ref aR_of) (C := RX7) (T := TX7) (N := 34) hx hb htg giX7 hown hK hP 0 rfl rfl 5 (by decide) (htg _ kw_568) (fun _ h9 => h9) rfl dX7_pattern_87 ?_
          refine lv_aload_n hx hb dX7_pattern_90 rfl (lv_at hl 0 rfl) ?_
          refine va_get (D := D) (ci := 7) (v := .int R_patterns) (C := RX7) (T := TX7) (N := 34) hx hb htg giX7 hown hK hP 0 rfl rfl 2 (by decide) (htg _ kw_565) (fun _ h9 => h9) rfl dX7_pattern_91 ?_
          refine lv_iconst (v := (-1 : Int32)) hx hb dX7_pattern_94 (by decide) ?_
          refine x_iast hx hb hK hP hD hS 3 0 rfl rfl g_14 dX7_pattern_95 (fun R_of_16 eR_of_16 H locs hP hD hS => ?_)
          have hf := nm_nm eR_of_16 hf
          have hP : va_P D vwCl [(aR, .inr (7, [.int R_triples, .ref aR_facts, .int R_patterns, .ref aR_cells, .ref aR_told, .ref aR_of, .ref aR_hints, .int R_filters, .ref aR_looks, .ref aR_kinds, .ref aR_values, .ref aR_isSafe, .ref aR_sizes, .ref aR_spreads, .ref aR_isSeen, .ref aR_estimates, .ref aR_rest, .int R_steps, .ref aR_order, .ref aR_joins, .ref aR_actsBehind, .ref aR_upTo, .int R_filtersThen, .ref aR_behind, .int R_rows, .ref aR_row, .ref aR_found, .int R_comes, .ref aR_next, .ref aR_nextFound, .int R_kept, .int R_hasRoom, .ref aR_keep, .ref aR_isTaken])), (aR_cells, .inl (cI, 24, .inl R_cells_13)), (aR_told, .inl (cI, 8, .inl R_told_15)), (aR_of, .inl (cI, 8, .inl R_of_16))] H := hP
          have hD : va_D A [(aR, .inr (7, [.int R_triples, .ref aR_facts, .int R_patterns, .ref aR_cells, .ref aR_told, .ref aR_of, .ref aR_hints, .int R_filters, .ref aR_looks, .ref aR_kinds, .ref aR_values, .ref aR_isSafe, .ref aR_sizes, .ref aR_spreads, .ref aR_isSeen, .ref aR_estimates, .ref aR_rest, .int R_steps, .ref aR_order, .ref aR_joins, .ref aR_actsBehind, .ref aR_upTo, .int R_filtersThen, .ref aR_behind, .int R_rows, .ref aR_row, .ref aR_found, .int R_comes, .ref aR_next, .ref aR_nextFound, .int R_kept, .int R_hasRoom, .ref aR_keep, .ref aR_isTaken])), (aR_cells, .inl (cI, 24, .inl R_cells_13)), (aR_told, .inl (cI, 8, .inl R_told_15)), (aR_of, .inl (cI, 8, .inl R_of_16))] := hD
          refine lv_aload_n hx hb dX7_pattern_96 rfl (lv_at hl 0 rfl) ?_
          refine lv_dup hx hb dX7_pattern_97 rfl ?_
          refine va_get (D := D) (ci := 7) (v := .int R_patterns) (C := RX7) (T := TX7) (N := 34) hx hb htg giX7 hown hK hP 0 rfl rfl 2 (by decide) (htg _ kw_565) (fun _ h9 => h9) rfl dX7_pattern_98 ?_
          refine lv_iconst (v := (1 : Int32)) hx hb dX7_pattern_101 (by decide) ?_
          refine lv_iadd hx hb dX7_pattern_102 ?_
          refine lv_topi (fun v_17 ev_17 => ?_)
          have hf := nm_nm ev_17 hf
          refine va_put (D := D) (ci := 7) (v := .int v_17) (ty := .int) (C := RX7) (T := TX7) (N := 34) hx hb htg giX7 tyX7 tyX7_ok nmX7 hown hK hP hD hS 0 rfl rfl 2 (by decide) (htg _ kw_565) (fun _ h9 => h9) rfl (by decide +kernel) rfl rfl (Nat.le_of_ble_eq_true rfl) dX7_pattern_103 (fun H locs hP hD hS => ?_)
          have hP : va_P D vwCl [(aR, .inr (7, [.int R_triples, .ref aR_facts, .int v_17, .ref aR_cells, .ref aR_told, .ref aR_of, .ref aR_hints, .int R_filters, .ref aR_looks, .ref aR_kinds, .ref aR_values, .ref aR_isSafe, .ref aR_sizes, .ref aR_spreads, .ref aR_isSeen, .ref aR_estimates, .ref aR_rest, .int R_steps, .ref aR_order, .ref aR_joins, .ref aR_actsBehind, .ref aR_upTo, .int R_filtersThen, .ref aR_behind, .int R_rows, .ref aR_row, .ref aR_found, .int R_comes, .ref aR_next, .ref aR_nextFound, .int R_kept, .int R_hasRoom, .ref aR_keep, .ref aR_isTaken])), (aR_cells, .inl (cI, 24, .inl R_cells_13)), (aR_told, .inl (cI, 8, .inl R_told_15)), (aR_of, .inl (cI, 8, .inl R_of_16))] H := hP
          have hD : va_D A [(aR, .inr (7, [.int R_triples, .ref aR_facts, .int v_17, .ref aR_cells, .ref aR_told, .ref aR_of, .ref aR_hints, .int R_filters, .ref aR_looks, .ref aR_kinds, .ref aR_values, .ref aR_isSafe, .ref aR_sizes, .ref aR_spreads, .ref aR_isSeen, .ref aR_estimates, .ref aR_rest, .int R_steps, .ref aR_order, .ref aR_joins, .ref aR_actsBehind, .ref aR_upTo, .int R_filtersThen, .ref aR_behind, .int R_rows, .ref aR_row, .ref aR_found, .int R_comes, .ref aR_next, .ref aR_nextFound, .int R_kept, .int R_hasRoom, .ref aR_keep, .ref aR_isTaken])), (aR_cells, .inl (cI, 24, .inl R_cells_13)), (aR_told, .inl (cI, 8, .inl R_told_15)), (aR_of, .inl (cI, 8, .inl R_of_16))] := hD
          refine lv_aload_n hx hb dX7_pattern_106 rfl (lv_at hl 0 rfl) ?_
          refine va_get (D := D) (ci := 7) (v := .int v_17) (C := RX7) (T := TX7) (N := 34) hx hb htg giX7 hown hK hP 0 rfl rfl 2 (by decide) (htg _ kw_565) (fun _ h9 => h9) rfl dX7_pattern_107 ?_
          refine lv_iconst (v := (1 : Int32)) hx hb dX7_pattern_110 (by decide) ?_
          refine lv_isub hx hb dX7_pattern_111 ?_
          have hf := Option.some.inj hf
          obtain ⟨k9_0, f9_0⟩ := Prod.mk.inj hf
          obtain ⟨k9_1, f9_1⟩ := Prod.mk.inj f9_0
          obtain ⟨k9_2, f9_2⟩ := Prod.mk.inj f9_1
          obtain ⟨k9_3, f9_3⟩ := Prod.mk.inj f9_2
          subst k9_0
          subst k9_1
          subst k9_2
          subst k9_3
          subst f9_3
          exact x_iret (fun _ => 0) hQ hx hb hr hlk hK hP hD hS dX7_pattern_112
        · have hf := xb_t c_7 hf
          refine lv_bipush (v := (-4 : Int32)) hx hb dX7_pattern_33 (by decide) ?_
          have hf := Option.some.inj hf
          obtain ⟨k9_0, f9_0⟩ := Prod.mk.inj hf
          obtain ⟨k9_1, f9_1⟩ := Prod.mk.inj f9_0
          obtain ⟨k9_2, f9_2⟩ := Prod.mk.inj f9_1
          obtain ⟨k9_3, f9_3⟩ := Prod.mk.inj f9_2
          subst k9_0
          subst k9_1
          subst k9_2
          subst k9_3
          subst f9_3
          exact x_iret (fun _ => 0) hQ hx hb hr hlk hK hP hD hS dX7_pattern_35
      · have hf := xb_t c_6 hf
        refine lv_bipush (v := (-2 : Int32)) hx hb dX7_pattern_21 (by decide) ?_
        have hf := Option.some.inj hf
        obtain ⟨k9_0, f9_0⟩ := Prod.mk.inj hf
        obtain ⟨k9_1, f9_1⟩ := Prod.mk.inj f9_0
        obtain ⟨k9_2, f9_2⟩ := Prod.mk.inj f9_1
        obtain ⟨k9_3, f9_3⟩ := Prod.mk.inj f9_2
        subst k9_0
        subst k9_1
        subst k9_2
        subst k9_3
        subst f9_3
        exact x_iret (fun _ => 0) hQ hx hb hr hlk hK hP hD hS dX7_pattern_23
