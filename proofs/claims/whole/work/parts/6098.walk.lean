abbrev rm_f_JoinOrderModel_holds : Room := { frames := 0, cells := 0, slots := 0, locals := 0 }
set_option maxHeartbeats 4000000 in
set_option maxRecDepth 100000 in
theorem c_f_JoinOrderModel_holds (l : Launch) (D : va_G) (cI cJ cZ : ClassId) (sz : Nat) (aR : Nat) (x1 : Int32) (x2 : Int32) (R_triples : Int32) (aR_facts : Nat) (R_patterns : Int32) (aR_cells : Nat) (aR_told : Nat) (aR_of : Nat) (aR_hints : Nat) (R_filters : Int32) (aR_looks : Nat) (aR_kinds : Nat) (aR_values : Nat) (aR_isSafe : Nat) (aR_sizes : Nat) (aR_spreads : Nat) (aR_isSeen : Nat) (aR_estimates : Nat) (aR_rest : Nat) (R_steps : Int32) (aR_order : Nat) (aR_joins : Nat) (aR_actsBehind : Nat) (aR_upTo : Nat) (R_filtersThen : Int32) (aR_behind : Nat) (R_rows : Int32) (aR_row : Nat) (aR_found : Nat) (R_comes : Int32) (aR_next : Nat) (aR_nextFound : Nat) (R_kept : Int32) (R_hasRoom : Int32) (aR_keep : Nat) (aR_isTaken : Nat) (R_values : Nat → Int32) (R_kinds : Nat → Int32) {r : Int32} (hf : f_JoinOrderModel_holds x1 x2 R_values R_kinds = some r) : Met l yX7_holds (.code yX7_holds cX7_holds 4 (some .boolean) :: GW) rm_f_JoinOrderModel_holds (va_Pc [.ref aR, .int x1, .int x2] (xP D (xT cI cJ cZ) sz [(aR, .inr (7, [.int R_triples, .ref aR_facts, .int R_patterns, .ref aR_cells, .ref aR_told, .ref aR_of, .ref aR_hints, .int R_filters, .ref aR_looks, .ref aR_kinds, .ref aR_values, .ref aR_isSafe, .ref aR_sizes, .ref aR_spreads, .ref aR_isSeen, .ref aR_estimates, .ref aR_rest, .int R_steps, .ref aR_order, .ref aR_joins, .ref aR_actsBehind, .ref aR_upTo, .int R_filtersThen, .ref aR_behind, .int R_rows, .ref aR_row, .ref aR_found, .int R_comes, .ref aR_next, .ref aR_nextFound, .int R_kept, .int R_hasRoom, .ref aR_keep, .ref aR_isTaken])), (aR_values, .inl (cI, 8, .inl R_values)), (aR_kinds, .inl (cI, 8, .inl R_kinds))])) (va_Qi (fun r2 (_ : Nat → Nat) => r2 = r ∧ (r = 0 ∨ r = 1)) (bB D (xT cI cJ cZ) (fun _ => [(aR, .inr (7, [.int R_triples, .ref aR_facts, .int R_patterns, .ref aR_cells, .ref aR_told, .ref aR_of, .ref aR_hints, .int R_filters, .ref aR_looks, .ref aR_kinds, .ref aR_values, .ref aR_isSafe, .ref aR_sizes, .ref aR_spreads, .ref aR_isSeen, .ref aR_estimates, .ref aR_rest, .int R_steps, .ref aR_order, .ref aR_joins, .ref aR_actsBehind, .ref aR_upTo, .int R_filtersThen, .ref aR_behind, .int R_rows, .ref aR_row, .ref aR_found, .int R_comes, .ref aR_next, .ref aR_nextFound, .int R_kept, .int R_hasRoom, .ref aR_keep, .ref aR_isTaken])), (aR_values, .inl (cI, 8, .inl R_values)), (aR_kinds, .inl (cI, 8, .inl R_kinds))]) (va_A [(aR, .inr (7, [.int R_triples, .ref aR_facts, .int R_patterns, .ref aR_cells, .ref aR_told, .ref aR_of, .ref aR_hints, .int R_filters, .ref aR_looks, .ref aR_kinds, .ref aR_values, .ref aR_isSafe, .ref aR_sizes, .ref aR_spreads, .ref aR_isSeen, .ref aR_estimates, .ref aR_rest, .int R_steps, .ref aR_order, .ref aR_joins, .ref aR_actsBehind, .ref aR_upTo, .int R_filtersThen, .ref aR_behind, .int R_rows, .ref aR_row, .ref aR_found, .int R_comes, .ref aR_next, .ref aR_nextFound, .int R_kept, .int R_hasRoom, .ref aR_keep, .ref aR_isTaken])), (aR_values, .inl (cI, 8, .inl R_values)), (aR_kinds, .inl (cI, 8, .inl R_kinds))] sz)) (va_A [(aR, .inr (7, [.int R_triples, .ref aR_facts, .int R_patterns, .ref aR_cells, .ref aR_told, .ref aR_of, .ref aR_hints, .int R_filters, .ref aR_looks, .ref aR_kinds, .ref aR_values, .ref aR_isSafe, .ref aR_sizes, .ref aR_spreads, .ref aR_isSeen, .ref aR_estimates, .ref aR_rest, .int R_steps, .ref aR_order, .ref aR_joins, .ref aR_actsBehind, .ref aR_upTo, .int R_filtersThen, .ref aR_behind, .int R_rows, .ref aR_row, .ref aR_found, .int R_comes, .ref aR_next, .ref aR_nextFound, .int R_kept, .int R_hasRoom, .ref aR_keep, .ref aR_isTaken])), (aR_values, .inl (cI, 8, .inl R_values)), (aR_kinds, .inl (cI, 8, .inl R_kinds))] sz)) 0 0 (va_A [(aR, .inr (7, [.int R_triples, .ref aR_facts, .int R_patterns, .ref aR_cells, .ref aR_told, .ref aR_of, .ref aR_hints, .int R_filters, .ref aR_looks, .ref aR_kinds, .ref aR_values, .ref aR_isSafe, .ref aR_sizes, .ref aR_spreads, .ref aR_isSeen, .ref aR_estimates, .ref aR_rest, .int R_steps, .ref aR_order, .ref aR_joins, .ref aR_actsBehind, .ref aR_upTo, .int R_filtersThen, .ref aR_behind, .int R_rows, .ref aR_row, .ref aR_found, .int R_comes, .ref aR_next, .ref aR_nextFound, .int R_kept, .int R_hasRoom, .ref aR_keep, .ref aR_isTaken])), (aR_values, .inl (cI, 8, .inl R_values)), (aR_kinds, .inl (cI, 8, .inl R_kinds))] sz) := by
  refine con_start (y := yX7_holds) (bytes := cX7_holds) (maxL := 4) (av := [.ref aR, .int x1, .int x2]) (Qc := fun A => va_Qi (fun r2 (_ : Nat → Nat) => r2 = r ∧ (r = 0 ∨ r = 1)) (bB D (xT cI cJ cZ) (fun _ => [(aR, .inr (7, [.int R_triples, .ref aR_facts, .int R_patterns, .ref aR_cells, .ref aR_told, .ref aR_of, .ref aR_hints, .int R_filters, .ref aR_looks, .ref aR_kinds, .ref aR_values, .ref aR_isSafe, .ref aR_sizes, .ref aR_spreads, .ref aR_isSeen, .ref aR_estimates, .ref aR_rest, .int R_steps, .ref aR_order, .ref aR_joins, .ref aR_actsBehind, .ref aR_upTo, .int R_filtersThen, .ref aR_behind, .int R_rows, .ref aR_row, .ref aR_found, .int R_comes, .ref aR_next, .ref aR_nextFound, .int R_kept, .int R_hasRoom, .ref aR_keep, .ref aR_isTaken])), (aR_values, .inl (cI, 8, .inl R_values)), (aR_kinds, .inl (cI, 8, .inl R_kinds))]) A) A) (by decide) (Nat.le_of_ble_eq_true rfl) ?_
  intro p e s m args below meth c Q A hx hb hr hlk hml hown hin htg hN hK hQ hA hP hD hS ls hl
  have hl : lv_has ls 4 [(0, .ref aR), (1, .int x1), (2, .int x2)] := hl
  have hown : s.vm.findClass RX7 = some m.cls := hown
  have hf := (f_JoinOrderModel_holds_u x1 x2 R_values R_kinds).symm.trans hf
  refine lv_aload_n hx hb dX7_holds_0 rfl (lv_at hl 0 rfl) ?_
  refine va_get (D := D) (ci := 7) (v := .ref aR_values) (C := RX7) (T := TX7) (N := 34) hx hb htg giX7 hown hK hP 0 rfl rfl 10 (by decide) (htg _ kw_573) (fun _ h9 => h9) rfl dX7_holds_1 ?_
  refine lv_iload_n hx hb dX7_holds_4 rfl (lv_at hl 1 rfl) ?_
  have g_1 : vp_in x1 8 := gd_in hf
  have hf := gd_el hf
  refine va_iald hx hb hK hP 1 0 rfl rfl g_1 dX7_holds_5 ?_
  refine lv_topi (fun x3_2 ex3_2 => ?_)
  have hf := nm_nm ex3_2 hf
  refine lv_istore_n (lv' := [(3, .int x3_2), (0, .ref aR), (1, .int x1), (2, .int x2)]) hx hb dX7_holds_6 rfl hl (by decide) rfl (fun ls hl => ?_)
  refine lv_iload_n hx hb dX7_holds_7 rfl (lv_at hl 3 rfl) ?_
  refine lv_if_lt (tgt := 73) hx hb dX7_holds_8 (by decide) (fun c_3 => ?_) (fun c_3 => ?_)
  · have hf := xb_t c_3 hf
    refine lv_iconst (v := (0 : Int32)) hx hb dX7_holds_73 (by decide) ?_
    have hf := Option.some.inj hf
    subst hf
    exact x_zret (fun _ => 0) hQ hx hb hr hlk (by decide) hK hP hD hS dX7_holds_74
  · have hf := xb_f c_3 hf
    refine lv_aload_n hx hb dX7_holds_11 rfl (lv_at hl 1 rfl) ?_
    refine va_get (D := D) (ci := 7) (v := .ref aR_kinds) (C := RX7) (T := TX7) (N := 34) hx hb htg giX7 hown hK hP 0 rfl rfl 9 (by decide) (htg _ kw_572) (fun _ h9 => h9) rfl dX7_holds_12 ?_
    refine lv_iload_n hx hb dX7_holds_15 rfl (lv_at hl 2 rfl) ?_
    refine va_iald hx hb hK hP 2 0 rfl rfl g_1 dX7_holds_16 ?_
    refine lv_if_ne (tgt := 28) hx hb dX7_holds_17 (by decide) (fun c_4 => ?_) (fun c_4 => ?_)
    · have hf := xb_f c_4 hf
      refine lv_aload_n hx hb dX7_holds_28 rfl (lv_at hl 1 rfl) ?_
      refine va_get (D := D) (ci := 7) (v := .ref aR_kinds) (C := RX7) (T := TX7) (N := 34) hx hb htg giX7 hown hK hP 0 rfl rfl 9 (by decide) (htg _ kw_572) (fun _ h9 => h9) rfl dX7_holds_29 ?_
      refine lv_iload_n hx hb dX7_holds_32 rfl (lv_at hl 2 rfl) ?_
      refine va_iald hx hb hK hP 2 0 rfl rfl g_1 dX7_holds_33 ?_
      refine lv_iconst (v := (1 : Int32)) hx hb dX7_holds_34 (by decide) ?_
      refine lv_icmp_ne (tgt := 46) hx hb dX7_holds_35 (by decide) (fun c_5 => ?_) (fun c_5 => ?_)
      · have hf := xb_f c_5 hf
        refine lv_aload_n hx hb dX7_holds_46 rfl (lv_at hl 1 rfl) ?_
        refine va_get (D := D) (ci := 7) (v := .ref aR_kinds) (C := RX7) (T := TX7) (N := 34) hx hb htg giX7 hown hK hP 0 rfl rfl 9 (by decide) (htg _ kw_572) (fun _ h9 => h9) rfl dX7_holds_47 ?_
        refine lv_iload_n hx hb dX7_holds_50 rfl (lv_at hl 2 rfl) ?_
        refine va_iald hx hb hK hP 2 0 rfl rfl g_1 dX7_holds_51 ?_
        refine lv_iconst (v := (2 : Int32)) hx hb dX7_holds_52 (by decide) ?_
        refine lv_icmp_ne (tgt := 64) hx hb dX7_holds_53 (by decide) (fun c_6 => ?_) (fun c_6 => ?_)
        · have hf := xb_f c_6 hf
          refine lv_iload_n hx hb dX7_holds_64 rfl (lv_at hl 3 rfl) ?_
          refine lv_iload_n hx hb dX7_holds_65 rfl (lv_at hl 0 rfl) ?_
          refine lv_icmp_le (tgt := 73) hx hb dX7_holds_66 (by decide) (fun c_7 => ?_) (fun c_7 => ?_)
          · have hf := xb_t c_7 hf
            refine lv_iconst (v := (0 : Int32)) hx hb dX7_holds_73 (by decide) ?_
            have hf := Option.some.inj hf
            subst hf
            exact x_zret (fun _ => 0) hQ hx hb hr hlk (by decide) hK hP hD hS dX7_holds_74
          · have hf := xb_f c_7 hf
            refine lv_iconst (v := (1 : Int32)) hx hb dX7_holds_69 (by decide) ?_
            refine lv_goto (tgt := 74) hx hb dX7_holds_70 (by decide) ?_
            have hf := Option.some.inj hf
            subst hf
            exact x_zret (fun _ => 0) hQ hx hb hr hlk (by decide) hK hP hD hS dX7_holds_74
        · have hf := xb_t c_6 hf
          refine lv_iload_n hx hb dX7_holds_56 rfl (lv_at hl 3 rfl) ?_
          refine lv_iload_n hx hb dX7_holds_57 rfl (lv_at hl 0 rfl) ?_
          refine lv_icmp_ge (tgt := 73) hx hb dX7_holds_58 (by decide) (fun c_8 => ?_) (fun c_8 => ?_)
          · have hf := xb_t c_8 hf
            refine lv_iconst (v := (0 : Int32)) hx hb dX7_holds_73 (by decide) ?_
            have hf := Option.some.inj hf
            subst hf
            exact x_zret (fun _ => 0) hQ hx hb hr hlk (by decide) hK hP hD hS dX7_holds_74
          · have hf := xb_f c_8 hf
            refine lv_goto (tgt := 69) hx hb dX7_holds_61 (by decide) ?_
            refine lv_iconst (v := (1 : Int32)) hx hb dX7_holds_69 (by decide) ?_
            refine lv_goto (tgt := 74) hx hb dX7_holds_70 (by decide) ?_
            have hf := Option.some.inj hf
            subst hf
            exact x_zret (fun _ => 0) hQ hx hb hr hlk (by decide) hK hP hD hS dX7_holds_74
      · have hf := xb_t c_5 hf
        refine lv_iload_n hx hb dX7_holds_38 rfl (lv_at hl 3 rfl) ?_
        refine lv_iload_n hx hb dX7_holds_39 rfl (lv_at hl 0 rfl) ?_
        refine lv_icmp_eq (tgt := 73) hx hb dX7_holds_40 (by decide) (fun c_9 => ?_) (fun c_9 => ?_)
        · have hf := xb_t c_9 hf
          refine lv_iconst (v := (0 : Int32)) hx hb dX7_holds_73 (by decide) ?_
          have hf := Option.some.inj hf
          subst hf
          exact x_zret (fun _ => 0) hQ hx hb hr hlk (by decide) hK hP hD hS dX7_holds_74
        · have hf := xb_f c_9 hf
          refine lv_goto (tgt := 69) hx hb dX7_holds_43 (by decide) ?_
          refine lv_iconst (v := (1 : Int32)) hx hb dX7_holds_69 (by decide) ?_
          refine lv_goto (tgt := 74) hx hb dX7_holds_70 (by decide) ?_
          have hf := Option.some.inj hf
          subst hf
          exact x_zret (fun _ => 0) hQ hx hb hr hlk (by decide) hK hP hD hS dX7_holds_74
    · have hf := xb_t c_4 hf
      refine lv_iload_n hx hb dX7_holds_20 rfl (lv_at hl 3 rfl) ?_
      refine lv_iload_n hx hb dX7_holds_21 rfl (lv_at hl 0 rfl) ?_
      refine lv_icmp_ne (tgt := 73) hx hb dX7_holds_22 (by decide) (fun c_10 => ?_) (fun c_10 => ?_)
      · have hf := xb_f c_10 hf
        refine lv_iconst (v := (0 : Int32)) hx hb dX7_holds_73 (by decide) ?_
        have hf := Option.some.inj hf
        subst hf
        exact x_zret (fun _ => 0) hQ hx hb hr hlk (by decide) hK hP hD hS dX7_holds_74
      · have hf := xb_t c_10 hf
        refine lv_goto (tgt := 69) hx hb dX7_holds_25 (by decide) ?_
        refine lv_iconst (v := (1 : Int32)) hx hb dX7_holds_69 (by decide) ?_
        refine lv_goto (tgt := 74) hx hb dX7_holds_70 (by decide) ?_
        have hf := Option.some.inj hf
        subst hf
        exact x_zret (fun _ => 0) hQ hx hb hr hlk (by decide) hK hP hD hS dX7_holds_74
