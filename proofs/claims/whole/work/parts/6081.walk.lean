abbrev rm_f_JoinOrderModel_move : Room := { frames := 0, cells := 0, slots := 0, locals := 0 }
set_option maxHeartbeats 4000000 in
set_option maxRecDepth 100000 in
theorem c_f_JoinOrderModel_move (l : Launch) (D : va_G) (cI cJ cZ : ClassId) (sz : Nat) (aR : Nat) (x1 : Int32) (R_triples : Int32) (aR_facts : Nat) (R_patterns : Int32) (aR_cells : Nat) (aR_told : Nat) (aR_of : Nat) (aR_hints : Nat) (R_filters : Int32) (aR_looks : Nat) (aR_kinds : Nat) (aR_values : Nat) (aR_isSafe : Nat) (aR_sizes : Nat) (aR_spreads : Nat) (aR_isSeen : Nat) (aR_estimates : Nat) (aR_rest : Nat) (R_steps : Int32) (aR_order : Nat) (aR_joins : Nat) (aR_actsBehind : Nat) (aR_upTo : Nat) (R_filtersThen : Int32) (aR_behind : Nat) (R_rows : Int32) (aR_row : Nat) (aR_found : Nat) (R_comes : Int32) (aR_next : Nat) (aR_nextFound : Nat) (R_kept : Int32) (R_hasRoom : Int32) (aR_keep : Nat) (aR_isTaken : Nat) (R_behind : Nat → Int32) {r : Int32} (hf : f_JoinOrderModel_move x1 R_filtersThen R_behind = some r) : Met l yX7_move (.code yX7_move cX7_move 2 (some .int) :: GW) rm_f_JoinOrderModel_move (va_Pc [.ref aR, .int x1] (xP D (xT cI cJ cZ) sz [(aR, .inr (7, [.int R_triples, .ref aR_facts, .int R_patterns, .ref aR_cells, .ref aR_told, .ref aR_of, .ref aR_hints, .int R_filters, .ref aR_looks, .ref aR_kinds, .ref aR_values, .ref aR_isSafe, .ref aR_sizes, .ref aR_spreads, .ref aR_isSeen, .ref aR_estimates, .ref aR_rest, .int R_steps, .ref aR_order, .ref aR_joins, .ref aR_actsBehind, .ref aR_upTo, .int R_filtersThen, .ref aR_behind, .int R_rows, .ref aR_row, .ref aR_found, .int R_comes, .ref aR_next, .ref aR_nextFound, .int R_kept, .int R_hasRoom, .ref aR_keep, .ref aR_isTaken])), (aR_behind, .inl (cI, 8, .inl R_behind))])) (va_Qi (fun r2 (_ : Nat → Nat) => r2 = r) (bB D (xT cI cJ cZ) (fun _ => [(aR, .inr (7, [.int R_triples, .ref aR_facts, .int R_patterns, .ref aR_cells, .ref aR_told, .ref aR_of, .ref aR_hints, .int R_filters, .ref aR_looks, .ref aR_kinds, .ref aR_values, .ref aR_isSafe, .ref aR_sizes, .ref aR_spreads, .ref aR_isSeen, .ref aR_estimates, .ref aR_rest, .int R_steps, .ref aR_order, .ref aR_joins, .ref aR_actsBehind, .ref aR_upTo, .int R_filtersThen, .ref aR_behind, .int R_rows, .ref aR_row, .ref aR_found, .int R_comes, .ref aR_next, .ref aR_nextFound, .int R_kept, .int R_hasRoom, .ref aR_keep, .ref aR_isTaken])), (aR_behind, .inl (cI, 8, .inl R_behind))]) (va_A [(aR, .inr (7, [.int R_triples, .ref aR_facts, .int R_patterns, .ref aR_cells, .ref aR_told, .ref aR_of, .ref aR_hints, .int R_filters, .ref aR_looks, .ref aR_kinds, .ref aR_values, .ref aR_isSafe, .ref aR_sizes, .ref aR_spreads, .ref aR_isSeen, .ref aR_estimates, .ref aR_rest, .int R_steps, .ref aR_order, .ref aR_joins, .ref aR_actsBehind, .ref aR_upTo, .int R_filtersThen, .ref aR_behind, .int R_rows, .ref aR_row, .ref aR_found, .int R_comes, .ref aR_next, .ref aR_nextFound, .int R_kept, .int R_hasRoom, .ref aR_keep, .ref aR_isTaken])), (aR_behind, .inl (cI, 8, .inl R_behind))] sz)) (va_A [(aR, .inr (7, [.int R_triples, .ref aR_facts, .int R_patterns, .ref aR_cells, .ref aR_told, .ref aR_of, .ref aR_hints, .int R_filters, .ref aR_looks, .ref aR_kinds, .ref aR_values, .ref aR_isSafe, .ref aR_sizes, .ref aR_spreads, .ref aR_isSeen, .ref aR_estimates, .ref aR_rest, .int R_steps, .ref aR_order, .ref aR_joins, .ref aR_actsBehind, .ref aR_upTo, .int R_filtersThen, .ref aR_behind, .int R_rows, .ref aR_row, .ref aR_found, .int R_comes, .ref aR_next, .ref aR_nextFound, .int R_kept, .int R_hasRoom, .ref aR_keep, .ref aR_isTaken])), (aR_behind, .inl (cI, 8, .inl R_behind))] sz)) 0 0 (va_A [(aR, .inr (7, [.int R_triples, .ref aR_facts, .int R_patterns, .ref aR_cells, .ref aR_told, .ref aR_of, .ref aR_hints, .int R_filters, .ref aR_looks, .ref aR_kinds, .ref aR_values, .ref aR_isSafe, .ref aR_sizes, .ref aR_spreads, .ref aR_isSeen, .ref aR_estimates, .ref aR_rest, .int R_steps, .ref aR_order, .ref aR_joins, .ref aR_actsBehind, .ref aR_upTo, .int R_filtersThen, .ref aR_behind, .int R_rows, .ref aR_row, .ref aR_found, .int R_comes, .ref aR_next, .ref aR_nextFound, .int R_kept, .int R_hasRoom, .ref aR_keep, .ref aR_isTaken])), (aR_behind, .inl (cI, 8, .inl R_behind))] sz) := by
  refine con_start (y := yX7_move) (bytes := cX7_move) (maxL := 2) (av := [.ref aR, .int x1]) (Qc := fun A => va_Qi (fun r2 (_ : Nat → Nat) => r2 = r) (bB D (xT cI cJ cZ) (fun _ => [(aR, .inr (7, [.int R_triples, .ref aR_facts, .int R_patterns, .ref aR_cells, .ref aR_told, .ref aR_of, .ref aR_hints, .int R_filters, .ref aR_looks, .ref aR_kinds, .ref aR_values, .ref aR_isSafe, .ref aR_sizes, .ref aR_spreads, .ref aR_isSeen, .ref aR_estimates, .ref aR_rest, .int R_steps, .ref aR_order, .ref aR_joins, .ref aR_actsBehind, .ref aR_upTo, .int R_filtersThen, .ref aR_behind, .int R_rows, .ref aR_row, .ref aR_found, .int R_comes, .ref aR_next, .ref aR_nextFound, .int R_kept, .int R_hasRoom, .ref aR_keep, .ref aR_isTaken])), (aR_behind, .inl (cI, 8, .inl R_behind))]) A) A) (by decide) (Nat.le_of_ble_eq_true rfl) ?_
  intro p e s m args below meth c Q A hx hb hr hlk hml hown hin htg hN hK hQ hA hP hD hS ls hl
  have hl : lv_has ls 2 [(0, .ref aR), (1, .int x1)] := hl
  have hown : s.vm.findClass RX7 = some m.cls := hown
  have hf := (f_JoinOrderModel_move_u x1 R_filtersThen R_behind).symm.trans hf
  refine lv_iload_n hx hb dX7_move_0 rfl (lv_at hl 1 rfl) ?_
  refine lv_if_lt (tgt := 12) hx hb dX7_move_1 (by decide) (fun c_1 => ?_) (fun c_1 => ?_)
  · have hf := xb_t c_1 hf
    refine lv_iconst (v := (-1 : Int32)) hx hb dX7_move_12 (by decide) ?_
    refine lv_goto (tgt := 22) hx hb dX7_move_13 (by decide) ?_
    have hf := Option.some.inj hf
    subst hf
    exact x_iret (fun _ => 0) hQ hx hb hr hlk hK hP hD hS dX7_move_22
  · have hf := xb_f c_1 hf
    refine lv_iload_n hx hb dX7_move_4 rfl (lv_at hl 1 rfl) ?_
    refine lv_aload_n hx hb dX7_move_5 rfl (lv_at hl 0 rfl) ?_
    refine va_get (D := D) (ci := 7) (v := .int R_filtersThen) (C := RX7) (T := TX7) (N := 34) hx hb htg giX7 hown hK hP 0 rfl rfl 22 (by decide) (htg _ kw_585) (fun _ h9 => h9) rfl dX7_move_6 ?_
    refine lv_icmp_lt (tgt := 16) hx hb dX7_move_9 (by decide) (fun c_2 => ?_) (fun c_2 => ?_)
    · have hf := xb_t c_2 hf
      refine lv_aload_n hx hb dX7_move_16 rfl (lv_at hl 0 rfl) ?_
      refine va_get (D := D) (ci := 7) (v := .ref aR_behind) (C := RX7) (T := TX7) (N := 34) hx hb htg giX7 hown hK hP 0 rfl rfl 23 (by decide) (htg _ kw_586) (fun _ h9 => h9) rfl dX7_move_17 ?_
      refine lv_iload_n hx hb dX7_move_20 rfl (lv_at hl 1 rfl) ?_
      have g_3 : vp_in x1 8 := gd_in hf
      have hf := gd_el hf
      refine va_iald hx hb hK hP 1 0 rfl rfl g_3 dX7_move_21 ?_
      have hf := Option.some.inj hf
      subst hf
      exact x_iret (fun _ => 0) hQ hx hb hr hlk hK hP hD hS dX7_move_22
    · have hf := xb_f c_2 hf
      refine lv_iconst (v := (-1 : Int32)) hx hb dX7_move_12 (by decide) ?_
      refine lv_goto (tgt := 22) hx hb dX7_move_13 (by decide) ?_
      have hf := Option.some.inj hf
      subst hf
      exact x_iret (fun _ => 0) hQ hx hb hr hlk hK hP hD hS dX7_move_22
abbrev rm_f_Table_start : Room := { frames := 0, cells := 0, slots := 0, locals := 0 }
set_option maxHeartbeats 4000000 in
set_option maxRecDepth 100000 in
theorem c_f_Table_start (l : Launch) (D : va_G) (cI cJ cZ : ClassId) (sz : Nat) (aB : Nat) (aB_rows : Nat) (aB_spare : Nat) (B_count : Int32) (B_found : Int32) (B_crowded : Int32) (B_rows : Nat → Int64) {B_count' : Int32} {B_crowded' : Int32} {B_rows' : Nat → Int64} (hf : f_Table_start B_rows = some (B_count', B_crowded', B_rows')) : Met l yX5_start (.code yX5_start cX5_start 1 none :: GW) rm_f_Table_start (va_Pc [.ref aB] (xP D (xT cI cJ cZ) sz [(aB, .inr (5, [.ref aB_rows, .ref aB_spare, .int B_count, .int B_found, .int B_crowded])), (aB_rows, .inl (cJ, 500, .inr (.inl B_rows)))])) (va_Qv (fun (_ : Nat → Nat) => True) (bB D (xT cI cJ cZ) (fun _ => [(aB, .inr (5, [.ref aB_rows, .ref aB_spare, .int B_count', .int B_found, .int B_crowded'])), (aB_rows, .inl (cJ, 500, .inr (.inl B_rows')))]) (va_A [(aB, .inr (5, [.ref aB_rows, .ref aB_spare, .int B_count, .int B_found, .int B_crowded])), (aB_rows, .inl (cJ, 500, .inr (.inl B_rows)))] sz)) (va_A [(aB, .inr (5, [.ref aB_rows, .ref aB_spare, .int B_count, .int B_found, .int B_crowded])), (aB_rows, .inl (cJ, 500, .inr (.inl B_rows)))] sz)) 0 0 (va_A [(aB, .inr (5, [.ref aB_rows, .ref aB_spare, .int B_count, .int B_found, .int B_crowded])), (aB_rows, .inl (cJ, 500, .inr (.inl B_rows)))] sz) := by
  refine con_start (y := yX5_start) (bytes := cX5_start) (maxL := 1) (av := [.ref aB]) (Qc := fun A => va_Qv (fun (_ : Nat → Nat) => True) (bB D (xT cI cJ cZ) (fun _ => [(aB, .inr (5, [.ref aB_rows, .ref aB_spare, .int B_count', .int B_found, .int B_crowded'])), (aB_rows, .inl (cJ, 500, .inr (.inl B_rows')))]) A) A) (by decide) (Nat.le_of_ble_eq_true rfl) ?_
  intro p e s m args below meth c Q A hx hb hr hlk hml hown hin htg hN hK hQ hA hP hD hS ls hl
  have hl : lv_has ls 1 [(0, .ref aB)] := hl
  have hown : s.vm.findClass RX5 = some m.cls := hown
  have hf := (f_Table_start_u B_rows).symm.trans hf
  refine lv_aload_n hx hb dX5_start_0 rfl (lv_at hl 0 rfl) ?_
  refine va_get (D := D) (ci := 5) (v := .ref aB_rows) (C := RX5) (T := TX5) (N := 5) hx hb htg giX5 hown hK hP 0 rfl rfl 0 (by decide) (htg _ kw_181) (fun _ h9 => h9) rfl dX5_start_1 ?_
  refine lv_iconst (v := (0 : Int32)) hx hb dX5_start_4 (by decide) ?_
  refine lv_lconst (v := (0 : Int64)) hx hb dX5_start_5 (by decide) ?_
  refine x_last hx hb hK hP hD hS 1 1 rfl rfl (vp_in_nI (n := 0) (N := 500) (by decide) (by decide)) dX5_start_6 (fun B_rows_1 eB_rows_1 H locs hP hD hS => ?_)
  have hf := nm_nm eB_rows_1 hf
  have hP : va_P D vwCl [(aB, .inr (5, [.ref aB_rows, .ref aB_spare, .int B_count, .int B_found, .int B_crowded])), (aB_rows, .inl (cJ, 500, .inr (.inl B_rows_1)))] H := hP
  have hD : va_D A [(aB, .inr (5, [.ref aB_rows, .ref aB_spare, .int B_count, .int B_found, .int B_crowded])), (aB_rows, .inl (cJ, 500, .inr (.inl B_rows_1)))] := hD
  refine lv_aload_n hx hb dX5_start_7 rfl (lv_at hl 0 rfl) ?_
  refine lv_iconst (v := (1 : Int32)) hx hb dX5_start_8 (by decide) ?_
  refine va_put (D := D) (ci := 5) (v := .int (1 : Int32)) (ty := .int) (C := RX5) (T := TX5) (N := 5) hx hb htg giX5 tyX5 tyX5_ok nmX5 hown hK hP hD hS 0 rfl rfl 2 (by decide) (htg _ kw_184) (fun _ h9 => h9) rfl (by decide +kernel) rfl rfl (Nat.le_of_ble_eq_true rfl) dX5_start_9 (fun H locs hP hD hS => ?_)
  have hP : va_P D vwCl [(aB, .inr (5, [.ref aB_rows, .ref aB_spare, .int (1 : Int32), .int B_found, .int B_crowded])), (aB_rows, .inl (cJ, 500, .inr (.inl B_rows_1)))] H := hP
  have hD : va_D A [(aB, .inr (5, [.ref aB_rows, .ref aB_spare, .int (1 : Int32), .int B_found, .int B_crowded])), (aB_rows, .inl (cJ, 500, .inr (.inl B_rows_1)))] := hD
  refine lv_aload_n hx hb dX5_start_12 rfl (lv_at hl 0 rfl) ?_
  refine lv_iconst (v := (0 : Int32)) hx hb dX5_start_13 (by decide) ?_
  refine va_put (D := D) (ci := 5) (v := .int (0 : Int32)) (ty := .boolean) (C := RX5) (T := TX5) (N := 5) hx hb htg giX5 tyX5 tyX5_ok nmX5 hown hK hP hD hS 0 rfl rfl 4 (by decide) (htg _ kw_187) (fun _ h9 => h9) rfl (by decide +kernel) rfl rfl (Nat.le_of_ble_eq_true rfl) dX5_start_14 (fun H locs hP hD hS => ?_)
  have hP : va_P D vwCl [(aB, .inr (5, [.ref aB_rows, .ref aB_spare, .int (1 : Int32), .int B_found, .int (0 : Int32)])), (aB_rows, .inl (cJ, 500, .inr (.inl B_rows_1)))] H := hP
  have hD : va_D A [(aB, .inr (5, [.ref aB_rows, .ref aB_spare, .int (1 : Int32), .int B_found, .int (0 : Int32)])), (aB_rows, .inl (cJ, 500, .inr (.inl B_rows_1)))] := hD
  have hf := Option.some.inj hf
  obtain ⟨k9_0, f9_0⟩ := Prod.mk.inj hf
  obtain ⟨k9_1, f9_1⟩ := Prod.mk.inj f9_0
  subst k9_0
  subst k9_1
  subst f9_1
  exact x_vret (fun _ => 0) hQ hx hb hr hlk hK hP hD hS dX5_start_17
