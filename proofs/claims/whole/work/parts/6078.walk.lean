abbrev rm_f_JoinOrderModel_step : Room := { frames := 0, cells := 0, slots := 0, locals := 0 }
set_option maxHeartbeats 4000000 in
set_option maxRecDepth 100000 in
theorem c_f_JoinOrderModel_step (l : Launch) (D : va_G) (cI cJ cZ : ClassId) (sz : Nat) (aR : Nat) (x1 : Int32) (x2 : Int32) (R_triples : Int32) (aR_facts : Nat) (R_patterns : Int32) (aR_cells : Nat) (aR_told : Nat) (aR_of : Nat) (aR_hints : Nat) (R_filters : Int32) (aR_looks : Nat) (aR_kinds : Nat) (aR_values : Nat) (aR_isSafe : Nat) (aR_sizes : Nat) (aR_spreads : Nat) (aR_isSeen : Nat) (aR_estimates : Nat) (aR_rest : Nat) (R_steps : Int32) (aR_order : Nat) (aR_joins : Nat) (aR_actsBehind : Nat) (aR_upTo : Nat) (R_filtersThen : Int32) (aR_behind : Nat) (R_rows : Int32) (aR_row : Nat) (aR_found : Nat) (R_comes : Int32) (aR_next : Nat) (aR_nextFound : Nat) (R_kept : Int32) (R_hasRoom : Int32) (aR_keep : Nat) (aR_isTaken : Nat) (R_actsBehind : Nat → Int32) (R_joins : Nat → Int32) (R_order : Nat → Int32) {r : Int32} (hf : f_JoinOrderModel_step x1 x2 R_steps R_actsBehind R_joins R_order = some r) : Met l yX7_step (.code yX7_step cX7_step 3 (some .int) :: GW) rm_f_JoinOrderModel_step (va_Pc [.ref aR, .int x1, .int x2] (xP D (xT cI cJ cZ) sz [(aR, .inr (7, [.int R_triples, .ref aR_facts, .int R_patterns, .ref aR_cells, .ref aR_told, .ref aR_of, .ref aR_hints, .int R_filters, .ref aR_looks, .ref aR_kinds, .ref aR_values, .ref aR_isSafe, .ref aR_sizes, .ref aR_spreads, .ref aR_isSeen, .ref aR_estimates, .ref aR_rest, .int R_steps, .ref aR_order, .ref aR_joins, .ref aR_actsBehind, .ref aR_upTo, .int R_filtersThen, .ref aR_behind, .int R_rows, .ref aR_row, .ref aR_found, .int R_comes, .ref aR_next, .ref aR_nextFound, .int R_kept, .int R_hasRoom, .ref aR_keep, .ref aR_isTaken])), (aR_actsBehind, .inl (cI, 8, .inl R_actsBehind)), (aR_joins, .inl (cI, 8, .inl R_joins)), (aR_order, .inl (cI, 8, .inl R_order))])) (va_Qi (fun r2 (_ : Nat → Nat) => r2 = r) (bB D (xT cI cJ cZ) (fun _ => [(aR, .inr (7, [.int R_triples, .ref aR_facts, .int R_patterns, .ref aR_cells, .ref aR_told, .ref aR_of, .ref aR_hints, .int R_filters, .ref aR_looks, .ref aR_kinds, .ref aR_values, .ref aR_isSafe, .ref aR_sizes, .ref aR_spreads, .ref aR_isSeen, .ref aR_estimates, .ref aR_rest, .int R_steps, .ref aR_order, .ref aR_joins, .ref aR_actsBehind, .ref aR_upTo, .int R_filtersThen, .ref aR_behind, .int R_rows, .ref aR_row, .ref aR_found, .int R_comes, .ref aR_next, .ref aR_nextFound, .int R_kept, .int R_hasRoom, .ref aR_keep, .ref aR_isTaken])), (aR_actsBehind, .inl (cI, 8, .inl R_actsBehind)), (aR_joins, .inl (cI, 8, .inl R_joins)), (aR_order, .inl (cI, 8, .inl R_order))]) (va_A [(aR, .inr (7, [.int R_triples, .ref aR_facts, .int R_patterns, .ref aR_cells, .ref aR_told, .ref aR_of, .ref aR_hints, .int R_filters, .ref aR_looks, .ref aR_kinds, .ref aR_values, .ref aR_isSafe, .ref aR_sizes, .ref aR_spreads, .ref aR_isSeen, .ref aR_estimates, .ref aR_rest, .int R_steps, .ref aR_order, .ref aR_joins, .ref aR_actsBehind, .ref aR_upTo, .int R_filtersThen, .ref aR_behind, .int R_rows, .ref aR_row, .ref aR_found, .int R_comes, .ref aR_next, .ref aR_nextFound, .int R_kept, .int R_hasRoom, .ref aR_keep, .ref aR_isTaken])), (aR_actsBehind, .inl (cI, 8, .inl R_actsBehind)), (aR_joins, .inl (cI, 8, .inl R_joins)), (aR_order, .inl (cI, 8, .inl R_order))] sz)) (va_A [(aR, .inr (7, [.int R_triples, .ref aR_facts, .int R_patterns, .ref aR_cells, .ref aR_told, .ref aR_of, .ref aR_hints, .int R_filters, .ref aR_looks, .ref aR_kinds, .ref aR_values, .ref aR_isSafe, .ref aR_sizes, .ref aR_spreads, .ref aR_isSeen, .ref aR_estimates, .ref aR_rest, .int R_steps, .ref aR_order, .ref aR_joins, .ref aR_actsBehind, .ref aR_upTo, .int R_filtersThen, .ref aR_behind, .int R_rows, .ref aR_row, .ref aR_found, .int R_comes, .ref aR_next, .ref aR_nextFound, .int R_kept, .int R_hasRoom, .ref aR_keep, .ref aR_isTaken])), (aR_actsBehind, .inl (cI, 8, .inl R_actsBehind)), (aR_joins, .inl (cI, 8, .inl R_joins)), (aR_order, .inl (cI, 8, .inl R_order))] sz)) 0 0 (va_A [(aR, .inr (7, [.int R_triples, .ref aR_facts, .int R_patterns, .ref aR_cells, .ref aR_told, .ref aR_of, .ref aR_hints, .int R_filters, .ref aR_looks, .ref aR_kinds, .ref aR_values, .ref aR_isSafe, .ref aR_sizes, .ref aR_spreads, .ref aR_isSeen, .ref aR_estimates, .ref aR_rest, .int R_steps, .ref aR_order, .ref aR_joins, .ref aR_actsBehind, .ref aR_upTo, .int R_filtersThen, .ref aR_behind, .int R_rows, .ref aR_row, .ref aR_found, .int R_comes, .ref aR_next, .ref aR_nextFound, .int R_kept, .int R_hasRoom, .ref aR_keep, .ref aR_isTaken])), (aR_actsBehind, .inl (cI, 8, .inl R_actsBehind)), (aR_joins, .inl (cI, 8, .inl R_joins)), (aR_order, .inl (cI, 8, .inl R_order))] sz) := by
  refine con_start (y := yX7_step) (bytes := cX7_step) (maxL := 3) (av := [.ref aR, .int x1, .int x2]) (Qc := fun A => va_Qi (fun r2 (_ : Nat → Nat) => r2 = r) (bB D (xT cI cJ cZ) (fun _ => [(aR, .inr (7, [.int R_triples, .ref aR_facts, .int R_patterns, .ref aR_cells, .ref aR_told, .ref aR_of, .ref aR_hints, .int R_filters, .ref aR_looks, .ref aR_kinds, .ref aR_values, .ref aR_isSafe, .ref aR_sizes, .ref aR_spreads, .ref aR_isSeen, .ref aR_estimates, .ref aR_rest, .int R_steps, .ref aR_order, .ref aR_joins, .ref aR_actsBehind, .ref aR_upTo, .int R_filtersThen, .ref aR_behind, .int R_rows, .ref aR_row, .ref aR_found, .int R_comes, .ref aR_next, .ref aR_nextFound, .int R_kept, .int R_hasRoom, .ref aR_keep, .ref aR_isTaken])), (aR_actsBehind, .inl (cI, 8, .inl R_actsBehind)), (aR_joins, .inl (cI, 8, .inl R_joins)), (aR_order, .inl (cI, 8, .inl R_order))]) A) A) (by decide) (Nat.le_of_ble_eq_true rfl) ?_
  intro p e s m args below meth c Q A hx hb hr hlk hml hown hin htg hN hK hQ hA hP hD hS ls hl
  have hl : lv_has ls 3 [(0, .ref aR), (1, .int x1), (2, .int x2)] := hl
  have hown : s.vm.findClass RX7 = some m.cls := hown
  have hf := (f_JoinOrderModel_step_u x1 x2 R_steps R_actsBehind R_joins R_order).symm.trans hf
  refine lv_iload_n hx hb dX7_step_0 rfl (lv_at hl 1 rfl) ?_
  refine lv_if_lt (tgt := 12) hx hb dX7_step_1 (by decide) (fun c_1 => ?_) (fun c_1 => ?_)
  · have hf := xb_t c_1 hf
    refine lv_iconst (v := (-1 : Int32)) hx hb dX7_step_12 (by decide) ?_
    have hf := Option.some.inj hf
    subst hf
    exact x_iret (fun _ => 0) hQ hx hb hr hlk hK hP hD hS dX7_step_13
  · have hf := xb_f c_1 hf
    refine lv_iload_n hx hb dX7_step_4 rfl (lv_at hl 1 rfl) ?_
    refine lv_aload_n hx hb dX7_step_5 rfl (lv_at hl 0 rfl) ?_
    refine va_get (D := D) (ci := 7) (v := .int R_steps) (C := RX7) (T := TX7) (N := 34) hx hb htg giX7 hown hK hP 0 rfl rfl 17 (by decide) (htg _ kw_580) (fun _ h9 => h9) rfl dX7_step_6 ?_
    refine lv_icmp_lt (tgt := 14) hx hb dX7_step_9 (by decide) (fun c_2 => ?_) (fun c_2 => ?_)
    · have hf := xb_t c_2 hf
      refine lv_iload_n hx hb dX7_step_14 rfl (lv_at hl 2 rfl) ?_
      refine lv_if_ne (tgt := 27) hx hb dX7_step_15 (by decide) (fun c_3 => ?_) (fun c_3 => ?_)
      · have hf := xb_f c_3 hf
        refine lv_iload_n hx hb dX7_step_27 rfl (lv_at hl 2 rfl) ?_
        refine lv_iconst (v := (1 : Int32)) hx hb dX7_step_28 (by decide) ?_
        refine lv_icmp_ne (tgt := 41) hx hb dX7_step_29 (by decide) (fun c_4 => ?_) (fun c_4 => ?_)
        · have hf := xb_f c_4 hf
          refine lv_iload_n hx hb dX7_step_41 rfl (lv_at hl 2 rfl) ?_
          refine lv_iconst (v := (2 : Int32)) hx hb dX7_step_42 (by decide) ?_
          refine lv_icmp_ne (tgt := 55) hx hb dX7_step_43 (by decide) (fun c_5 => ?_) (fun c_5 => ?_)
          · have hf := xb_f c_5 hf
            refine lv_bipush (v := (-2 : Int32)) hx hb dX7_step_55 (by decide) ?_
            have hf := Option.some.inj hf
            subst hf
            exact x_iret (fun _ => 0) hQ hx hb hr hlk hK hP hD hS dX7_step_57
          · have hf := xb_t c_5 hf
            refine lv_aload_n hx hb dX7_step_46 rfl (lv_at hl 0 rfl) ?_
            refine va_get (D := D) (ci := 7) (v := .ref aR_actsBehind) (C := RX7) (T := TX7) (N := 34) hx hb htg giX7 hown hK hP 0 rfl rfl 20 (by decide) (htg _ kw_583) (fun _ h9 => h9) rfl dX7_step_47 ?_
            refine lv_iload_n hx hb dX7_step_50 rfl (lv_at hl 1 rfl) ?_
            have g_6 : vp_in x1 8 := gd_in hf
            have hf := gd_el hf
            refine va_iald hx hb hK hP 1 0 rfl rfl g_6 dX7_step_51 ?_
            refine lv_goto (tgt := 57) hx hb dX7_step_52 (by decide) ?_
            have hf := Option.some.inj hf
            subst hf
            exact x_iret (fun _ => 0) hQ hx hb hr hlk hK hP hD hS dX7_step_57
        · have hf := xb_t c_4 hf
          refine lv_aload_n hx hb dX7_step_32 rfl (lv_at hl 0 rfl) ?_
          refine va_get (D := D) (ci := 7) (v := .ref aR_joins) (C := RX7) (T := TX7) (N := 34) hx hb htg giX7 hown hK hP 0 rfl rfl 19 (by decide) (htg _ kw_582) (fun _ h9 => h9) rfl dX7_step_33 ?_
          refine lv_iload_n hx hb dX7_step_36 rfl (lv_at hl 1 rfl) ?_
          have g_7 : vp_in x1 8 := gd_in hf
          have hf := gd_el hf
          refine va_iald hx hb hK hP 2 0 rfl rfl g_7 dX7_step_37 ?_
          refine lv_goto (tgt := 57) hx hb dX7_step_38 (by decide) ?_
          have hf := Option.some.inj hf
          subst hf
          exact x_iret (fun _ => 0) hQ hx hb hr hlk hK hP hD hS dX7_step_57
      · have hf := xb_t c_3 hf
        refine lv_aload_n hx hb dX7_step_18 rfl (lv_at hl 0 rfl) ?_
        refine va_get (D := D) (ci := 7) (v := .ref aR_order) (C := RX7) (T := TX7) (N := 34) hx hb htg giX7 hown hK hP 0 rfl rfl 18 (by decide) (htg _ kw_581) (fun _ h9 => h9) rfl dX7_step_19 ?_
        refine lv_iload_n hx hb dX7_step_22 rfl (lv_at hl 1 rfl) ?_
        have g_8 : vp_in x1 8 := gd_in hf
        have hf := gd_el hf
        refine va_iald hx hb hK hP 3 0 rfl rfl g_8 dX7_step_23 ?_
        refine lv_goto (tgt := 57) hx hb dX7_step_24 (by decide) ?_
        have hf := Option.some.inj hf
        subst hf
        exact x_iret (fun _ => 0) hQ hx hb hr hlk hK hP hD hS dX7_step_57
    · have hf := xb_f c_2 hf
      refine lv_iconst (v := (-1 : Int32)) hx hb dX7_step_12 (by decide) ?_
      have hf := Option.some.inj hf
      subst hf
      exact x_iret (fun _ => 0) hQ hx hb hr hlk hK hP hD hS dX7_step_13
