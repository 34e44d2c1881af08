abbrev rm_f_JoinOrderModel_filter : Room := { frames := 1, cells := 0, slots := 0, locals := 20 }
set_option maxHeartbeats 4000000 in
set_option maxRecDepth 100000 in
theorem c_f_JoinOrderModel_filter (l : Launch) (D : va_G) (cI cJ cZ : ClassId) (sz : Nat) (aR : Nat) (x1 : Int32) (x2 : Int32) (x3 : Int32) (x4 : Int32) (R_triples : Int32) (aR_facts : Nat) (R_patterns : Int32) (aR_cells : Nat) (aR_told : Nat) (aR_of : Nat) (aR_hints : Nat) (R_filters : Int32) (aR_looks : Nat) (aR_kinds : Nat) (aR_values : Nat) (aR_isSafe : Nat) (aR_sizes : Nat) (aR_spreads : Nat) (aR_isSeen : Nat) (aR_estimates : Nat) (aR_rest : Nat) (R_steps : Int32) (aR_order : Nat) (aR_joins : Nat) (aR_actsBehind : Nat) (aR_upTo : Nat) (R_filtersThen : Int32) (aR_behind : Nat) (R_rows : Int32) (aR_row : Nat) (aR_found : Nat) (R_comes : Int32) (aR_next : Nat) (aR_nextFound : Nat) (R_kept : Int32) (R_hasRoom : Int32) (aR_keep : Nat) (aR_isTaken : Nat) (R_looks : Nat → Int32) (R_kinds : Nat → Int32) (R_values : Nat → Int32) (R_isSafe : Nat → Int32) {r : Int32} {R_filters' : Int32} {R_looks' : Nat → Int32} {R_kinds' : Nat → Int32} {R_values' : Nat → Int32} {R_isSafe' : Nat → Int32} (hf : f_JoinOrderModel_filter x1 x2 x3 x4 R_filters R_looks R_kinds R_values R_isSafe = some (r, R_filters', R_looks', R_kinds', R_values', R_isSafe')) : Met l yX7_filter (.code yX7_filter cX7_filter 5 (some .int) :: GW) rm_f_JoinOrderModel_filter (va_Pc [.ref aR, .int x1, .int x2, .int x3, .int x4] (xP D (xT cI cJ cZ) sz [(aR, .inr (7, [.int R_triples, .ref aR_facts, .int R_patterns, .ref aR_cells, .ref aR_told, .ref aR_of, .ref aR_hints, .int R_filters, .ref aR_looks, .ref aR_kinds, .ref aR_values, .ref aR_isSafe, .ref aR_sizes, .ref aR_spreads, .ref aR_isSeen, .ref aR_estimates, .ref aR_rest, .int R_steps, .ref aR_order, .ref aR_joins, .ref aR_actsBehind, .ref aR_upTo, .int R_filtersThen, .ref aR_behind, .int R_rows, .ref aR_row, .ref aR_found, .int R_comes, .ref aR_next, .ref aR_nextFound, .int R_kept, .int R_hasRoom, .ref aR_keep, .ref aR_isTaken])), (aR_looks, .inl (cI, 8, .inl R_looks)), (aR_kinds, .inl (cI, 8, .inl R_kinds)), (aR_values, .inl (cI, 8, .inl R_values)), (aR_isSafe, .inl (cZ, 8, .inl R_isSafe))])) (va_Qi (fun r2 (_ : Nat → Nat) => r2 = r) (bB D (xT cI cJ cZ) (fun _ => [(aR, .inr (7, [.int R_triples, .ref aR_facts, .int R_patterns, .ref aR_cells, .ref aR_told, .ref aR_of, .ref aR_hints, .int R_filters', .ref aR_looks, .ref aR_kinds, .ref aR_values, .ref aR_isSafe, .ref aR_sizes, .ref aR_spreads, .ref aR_isSeen, .ref aR_estimates, .ref aR_rest, .int R_steps, .ref aR_order, .ref aR_joins, .ref aR_actsBehind, .ref aR_upTo, .int R_filtersThen, .ref aR_behind, .int R_rows, .ref aR_row, .ref aR_found, .int R_comes, .ref aR_next, .ref aR_nextFound, .int R_kept, .int R_hasRoom, .ref aR_keep, .ref aR_isTaken])), (aR_looks, .inl (cI, 8, .inl R_looks')), (aR_kinds, .inl (cI, 8, .inl R_kinds')), (aR_values, .inl (cI, 8, .inl R_values')), (aR_isSafe, .inl (cZ, 8, .inl R_isSafe'))]) (va_A [(aR, .inr (7, [.int R_triples, .ref aR_facts, .int R_patterns, .ref aR_cells, .ref aR_told, .ref aR_of, .ref aR_hints, .int R_filters, .ref aR_looks, .ref aR_kinds, .ref aR_values, .ref aR_isSafe, .ref aR_sizes, .ref aR_spreads, .ref aR_isSeen, .ref aR_estimates, .ref aR_rest, .int R_steps, .ref aR_order, .ref aR_joins, .ref aR_actsBehind, .ref aR_upTo, .int R_filtersThen, .ref aR_behind, .int R_rows, .ref aR_row, .ref aR_found, .int R_comes, .ref aR_next, .ref aR_nextFound, .int R_kept, .int R_hasRoom, .ref aR_keep, .ref aR_isTaken])), (aR_looks, .inl (cI, 8, .inl R_looks)), (aR_kinds, .inl (cI, 8, .inl R_kinds)), (aR_values, .inl (cI, 8, .inl R_values)), (aR_isSafe, .inl (cZ, 8, .inl R_isSafe))] sz)) (va_A [(aR, .inr (7, [.int R_triples, .ref aR_facts, .int R_patterns, .ref aR_cells, .ref aR_told, .ref aR_of, .ref aR_hints, .int R_filters, .ref aR_looks, .ref aR_kinds, .ref aR_values, .ref aR_isSafe, .ref aR_sizes, .ref aR_spreads, .ref aR_isSeen, .ref aR_estimates, .ref aR_rest, .int R_steps, .ref aR_order, .ref aR_joins, .ref aR_actsBehind, .ref aR_upTo, .int R_filtersThen, .ref aR_behind, .int R_rows, .ref aR_row, .ref aR_found, .int R_comes, .ref aR_next, .ref aR_nextFound, .int R_kept, .int R_hasRoom, .ref aR_keep, .ref aR_isTaken])), (aR_looks, .inl (cI, 8, .inl R_looks)), (aR_kinds, .inl (cI, 8, .inl R_kinds)), (aR_values, .inl (cI, 8, .inl R_values)), (aR_isSafe, .inl (cZ, 8, .inl R_isSafe))] sz)) 0 0 (va_A [(aR, .inr (7, [.int R_triples, .ref aR_facts, .int R_patterns, .ref aR_cells, .ref aR_told, .ref aR_of, .ref aR_hints, .int R_filters, .ref aR_looks, .ref aR_kinds, .ref aR_values, .ref aR_isSafe, .ref aR_sizes, .ref aR_spreads, .ref aR_isSeen, .ref aR_estimates, .ref aR_rest, .int R_steps, .ref aR_order, .ref aR_joins, .ref aR_actsBehind, .ref aR_upTo, .int R_filtersThen, .ref aR_behind, .int R_rows, .ref aR_row, .ref aR_found, .int R_comes, .ref aR_next, .ref aR_nextFound, .int R_kept, .int R_hasRoom, .ref aR_keep, .ref aR_isTaken])), (aR_looks, .inl (cI, 8, .inl R_looks)), (aR_kinds, .inl (cI, 8, .inl R_kinds)), (aR_values, .inl (cI, 8, .inl R_values)), (aR_isSafe, .inl (cZ, 8, .inl R_isSafe))] sz) := by
  refine con_start (y := yX7_filter) (bytes := cX7_filter) (maxL := 5) (av := [.ref aR, .int x1, .int x2, .int x3, .int x4]) (Qc := fun A => va_Qi (fun r2 (_ : Nat → Nat) => r2 = r) (bB D (xT cI cJ cZ) (fun _ => [(aR, .inr (7, [.int R_triples, .ref aR_facts, .int R_patterns, .ref aR_cells, .ref aR_told, .ref aR_of, .ref aR_hints, .int R_filters', .ref aR_looks, .ref aR_kinds, .ref aR_values, .ref aR_isSafe, .ref aR_sizes, .ref aR_spreads, .ref aR_isSeen, .ref aR_estimates, .ref aR_rest, .int R_steps, .ref aR_order, .ref aR_joins, .ref aR_actsBehind, .ref aR_upTo, .int R_filtersThen, .ref aR_behind, .int R_rows, .ref aR_row, .ref aR_found, .int R_comes, .ref aR_next, .ref aR_nextFound, .int R_kept, .int R_hasRoom, .ref aR_keep, .ref aR_isTaken])), (aR_looks, .inl (cI, 8, .inl R_looks')), (aR_kinds, .inl (cI, 8, .inl R_kinds')), (aR_values, .inl (cI, 8, .inl R_values')), (aR_isSafe, .inl (cZ, 8, .inl R_isSafe'))]) A) A) (by decide) (Nat.le_of_ble_eq_true rfl) ?_
  intro p e s m args below meth c Q A hx hb hr hlk hml hown hin htg hN hK hQ hA hP hD hS ls hl
  have hl : lv_has ls 5 [(0, .ref aR), (1, .int x1), (2, .int x2), (3, .int x3), (4, .int x4)] := hl
  have hown : s.vm.findClass RX7 = some m.cls := hown
  have hf := (f_JoinOrderModel_filter_u x1 x2 x3 x4 R_filters R_looks R_kinds R_values R_isSafe).symm.trans hf
  refine lv_iload_n hx hb dX7_filter_0 rfl (lv_at hl 1 rfl) ?_
  refine x_z (xrS (As := [.int x1]) (rest := []) ⟨hx, hb, hml, hown, htg⟩ (c_f_JoinOrderModel_isVariable l D cI cJ cZ _ x1 rfl) kc_f_JoinOrderModel_isVariable kw_681 kw_682 kw_8 dd_f_JoinOrderModel_isVariable ⟨Nat.le_of_ble_eq_true rfl, Nat.le_of_ble_eq_true rfl⟩ rfl rfl (hP.sub [] rfl) (hD.sub [] (by decide) rfl) hK hN rfl hl.1 rfl (Nat.le_of_ble_eq_true rfl) dX7_filter_1 ⟨Nat.le_of_ble_eq_true rfl, Nat.le_of_ble_eq_true rfl⟩) hP hD hS hA [] [0, 1, 2, 3, 4] rfl rfl (by decide) (by decide) (fun _ H locs bz_1 hP hD hS => ?_)
  have hP : va_P D vwCl [(aR, .inr (7, [.int R_triples, .ref aR_facts, .int R_patterns, .ref aR_cells, .ref aR_told, .ref aR_of, .ref aR_hints, .int R_filters, .ref aR_looks, .ref aR_kinds, .ref aR_values, .ref aR_isSafe, .ref aR_sizes, .ref aR_spreads, .ref aR_isSeen, .ref aR_estimates, .ref aR_rest, .int R_steps, .ref aR_order, .ref aR_joins, .ref aR_actsBehind, .ref aR_upTo, .int R_filtersThen, .ref aR_behind, .int R_rows, .ref aR_row, .ref aR_found, .int R_comes, .ref aR_next, .ref aR_nextFound, .int R_kept, .int R_hasRoom, .ref aR_keep, .ref aR_isTaken])), (aR_looks, .inl (cI, 8, .inl R_looks)), (aR_kinds, .inl (cI, 8, .inl R_kinds)), (aR_values, .inl (cI, 8, .inl R_values)), (aR_isSafe, .inl (cZ, 8, .inl R_isSafe))] H := hP
  have hD : va_D A [(aR, .inr (7, [.int R_triples, .ref aR_facts, .int R_patterns, .ref aR_cells, .ref aR_told, .ref aR_of, .ref aR_hints, .int R_filters, .ref aR_looks, .ref aR_kinds, .ref aR_values, .ref aR_isSafe, .ref aR_sizes, .ref aR_spreads, .ref aR_isSeen, .ref aR_estimates, .ref aR_rest, .int R_steps, .ref aR_order, .ref aR_joins, .ref aR_actsBehind, .ref aR_upTo, .int R_filtersThen, .ref aR_behind, .int R_rows, .ref aR_row, .ref aR_found, .int R_comes, .ref aR_next, .ref aR_nextFound, .int R_kept, .int R_hasRoom, .ref aR_keep, .ref aR_isTaken])), (aR_looks, .inl (cI, 8, .inl R_looks)), (aR_kinds, .inl (cI, 8, .inl R_kinds)), (aR_values, .inl (cI, 8, .inl R_values)), (aR_isSafe, .inl (cZ, 8, .inl R_isSafe))] := hD
  refine lv_if_eq (tgt := 23) hx hb dX7_filter_4 (by decide) (fun c_2 => ?_) (fun c_2 => ?_)
  · have hf := xb_t c_2 hf
    refine lv_bipush (v := (-2 : Int32)) hx hb dX7_filter_23 (by decide) ?_
    have hf := Option.some.inj hf
    obtain ⟨k9_0, f9_0⟩ := Prod.mk.inj hf
    obtain ⟨k9_1, f9_1⟩ := Prod.mk.inj f9_0
    obtain ⟨k9_2, f9_2⟩ := Prod.mk.inj f9_1
    obtain ⟨k9_3, f9_3⟩ := Prod.mk.inj f9_2
    obtain ⟨k9_4, f9_4⟩ := Prod.mk.inj f9_3
    subst k9_0
    subst k9_1
    subst k9_2
    subst k9_3
    subst k9_4
    subst f9_4
    exact x_iret (fun _ => 0) hQ hx hb hr hlk hK hP hD hS dX7_filter_25
  · have hf := xb_f c_2 hf
    refine lv_iload_n hx hb dX7_filter_7 rfl (lv_at hl 2 rfl) ?_
    refine lv_if_lt (tgt := 23) hx hb dX7_filter_8 (by decide) (fun c_3 => ?_) (fun c_3 => ?_)
    · have hf := xb_t c_3 hf
      refine lv_bipush (v := (-2 : Int32)) hx hb dX7_filter_23 (by decide) ?_
      have hf := Option.some.inj hf
      obtain ⟨k9_0, f9_0⟩ := Prod.mk.inj hf
      obtain ⟨k9_1, f9_1⟩ := Prod.mk.inj f9_0
      obtain ⟨k9_2, f9_2⟩ := Prod.mk.inj f9_1
      obtain ⟨k9_3, f9_3⟩ := Prod.mk.inj f9_2
      obtain ⟨k9_4, f9_4⟩ := Prod.mk.inj f9_3
      subst k9_0
      subst k9_1
      subst k9_2
      subst k9_3
      subst k9_4
      subst f9_4
      exact x_iret (fun _ => 0) hQ hx hb hr hlk hK hP hD hS dX7_filter_25
    · have hf := xb_f c_3 hf
      refine lv_iload_n hx hb dX7_filter_11 rfl (lv_at hl 2 rfl) ?_
      refine lv_iconst (v := (3 : Int32)) hx hb dX7_filter_12 (by decide) ?_
      refine lv_icmp_gt (tgt := 23) hx hb dX7_filter_13 (by decide) (fun c_4 => ?_) (fun c_4 => ?_)
      · have hf := xb_t c_4 hf
        refine lv_bipush (v := (-2 : Int32)) hx hb dX7_filter_23 (by decide) ?_
        have hf := Option.some.inj hf
        obtain ⟨k9_0, f9_0⟩ := Prod.mk.inj hf
        obtain ⟨k9_1, f9_1⟩ := Prod.mk.inj f9_0
        obtain ⟨k9_2, f9_2⟩ := Prod.mk.inj f9_1
        obtain ⟨k9_3, f9_3⟩ := Prod.mk.inj f9_2
        obtain ⟨k9_4, f9_4⟩ := Prod.mk.inj f9_3
        subst k9_0
        subst k9_1
        subst k9_2
        subst k9_3
        subst k9_4
        subst f9_4
        exact x_iret (fun _ => 0) hQ hx hb hr hlk hK hP hD hS dX7_filter_25
      · have hf := xb_f c_4 hf
        refine lv_iload_n hx hb dX7_filter_16 rfl (lv_at hl 3 rfl) ?_
        refine x_z (xrS (As := [.int x3]) (rest := []) ⟨hx, hb, hml, hown, htg⟩ (c_f_JoinOrderModel_isTerm l D cI cJ cZ _ x3 rfl) kc_f_JoinOrderModel_isTerm kw_671 kw_672 kw_8 dd_f_JoinOrderModel_isTerm ⟨Nat.le_of_ble_eq_true rfl, Nat.le_of_ble_eq_true rfl⟩ rfl rfl (hP.sub [] rfl) (hD.sub [] (by decide) rfl) hK hN rfl hl.1 rfl (Nat.le_of_ble_eq_true rfl) dX7_filter_17 ⟨Nat.le_of_ble_eq_true rfl, Nat.le_of_ble_eq_true rfl⟩) hP hD hS hA [] [0, 1, 2, 3, 4] rfl rfl (by decide) (by decide) (fun _ H locs bz_5 hP hD hS => ?_)
        have hP : va_P D vwCl [(aR, .inr (7, [.int R_triples, .ref aR_facts, .int R_patterns, .ref aR_cells, .ref aR_told, .ref aR_of, .ref aR_hints, .int R_filters, .ref aR_looks, .ref aR_kinds, .ref aR_values, .ref aR_isSafe, .ref aR_sizes, .ref aR_spreads, .ref aR_isSeen, .ref aR_estimates, .ref aR_rest, .int R_steps, .ref aR_order, .ref aR_joins, .ref aR_actsBehind, .ref aR_upTo, .int R_filtersThen, .ref aR_behind, .int R_rows, .ref aR_row, .ref aR_found, .int R_comes, .ref aR_next, .ref aR_nextFound, .int R_kept, .int R_hasRoom, .ref aR_keep, .ref aR_isTaken])), (aR_looks, .inl (cI, 8, .inl R_looks)), (aR_kinds, .inl (cI, 8, .inl R_kinds)), (aR_values, .inl (cI, 8, .inl R_values)), (aR_isSafe, .inl (cZ, 8, .inl R_isSafe))] H := hP
        have hD : va_D A [(aR, .inr (7, [.int R_triples, .ref aR_facts, .int R_patterns, .ref aR_cells, .ref aR_told, .ref aR_of, .ref aR_hints, .int R_filters, .ref aR_looks, .ref aR_kinds, .ref aR_values, .ref aR_isSafe, .ref aR_sizes, .ref aR_spreads, .ref aR_isSeen, .ref aR_estimates, .ref aR_rest, .int R_steps, .ref aR_order, .ref aR_joins, .ref aR_actsBehind, .ref aR_upTo, .int R_filtersThen, .ref aR_behind, .int R_rows, .ref aR_row, .ref aR_found, .int R_comes, .ref aR_next, .ref aR_nextFound, .int R_kept, .int R_hasRoom, .ref aR_keep, .ref aR_isTaken])), (aR_looks, .inl (cI, 8, .inl R_looks)), (aR_kinds, .inl (cI, 8, .inl R_kinds)), (aR_values, .inl (cI, 8, .inl R_values)), (aR_isSafe, .inl (cZ, 8, .inl R_isSafe))] := hD
        refine lv_if_ne (tgt := 26) hx hb dX7_filter_20 (by decide) (fun c_6 => ?_) (fun c_6 => ?_)
        · have hf := xb_f c_6 hf
          refine lv_aload_n hx hb dX7_filter_26 rfl (lv_at hl 0 rfl) ?_
          refine va_get (D := D) (ci := 7) (v := .int R_filters) (C := RX7) (T := TX7) (N := 34) hx hb htg giX7 hown hK hP 0 rfl rfl 7 (by decide) (htg _ kw_570) (fun _ h9 => h9) rfl dX7_filter_27 ?_
          refine lv_bipush (v := (8 : Int32)) hx hb dX7_filter_30 (by decide) ?_
          refine lv_icmp_ne (tgt := 38) hx hb dX7_filter_32 (by decide) (fun c_7 => ?_) (fun c_7 => ?_)
          · have hf := xb_f c_7 hf
            refine lv_aload_n hx hb dX7_filter_38 rfl (lv_at hl 0 rfl) ?_
            refine va_get (D := D) (ci := 7) (v := .ref aR_looks) (C := RX7) (T := TX7) (N := 34) hx hb htg giX7 hown hK hP 0 rfl rfl 8 (by decide) (htg _ kw_571) (fun _ h9 => h9) rfl dX7_filter_39 ?_
            refine lv_aload_n hx hb dX7_filter_42 rfl (lv_at hl 0 rfl) ?_
            refine va_get (D := D) (ci := 7) (v := .int R_filters) (C := RX7) (T := TX7) (N := 34) hx hb htg giX7 hown hK hP 0 rfl rfl 7 (by decide) (htg _ kw_570) (fun _ h9 => h9) rfl dX7_filter_43 ?_
            refine lv_iload_n hx hb dX7_filter_46 rfl (lv_at hl 1 rfl) ?_
            have g_8 : vp_in R_filters 8 := gd_in hf
            have hf := gd_el hf
            refine x_iast hx hb hK hP hD hS 1 0 rfl rfl g_8 dX7_filter_47 (fun R_looks_9 eR_looks_9 H locs hP hD hS => ?_)
            have hf := nm_nm eR_looks_9 hf
            have hP : va_P D vwCl [(aR, .inr (7, [.int R_triples, .ref aR_facts, .int R_patterns, .ref aR_cells, .ref aR_told, .ref aR_of, .ref aR_hints, .int R_filters, .ref aR_looks, .ref aR_kinds, .ref aR_values, .ref aR_isSafe, .ref aR_sizes, .ref aR_spreads, .ref aR_isSeen, .ref aR_estimates, .ref aR_rest, .int R_steps, .ref aR_order, .ref aR_joins, .ref aR_actsBehind, .ref aR_upTo, .int R_filtersThen, .ref aR_behind, .int R_rows, .ref aR_row, .ref aR_found, .int R_comes, .ref aR_next, .ref aR_nextFound, .int R_kept, .int R_hasRoom, .ref aR_keep, .ref aR_isTaken])), (aR_looks, .inl (cI, 8, .inl R_looks_9)), (aR_kinds, .inl (cI, 8, .inl R_kinds)), (aR_values, .inl (cI, 8, .inl R_values)), (aR_isSafe, .inl (cZ, 8, .inl R_isSafe))] H := hP
            have hD : va_D A [(aR, .inr (7, [.int R_triples, .ref aR_facts, .int R_patterns, .ref aR_cells, .ref aR_told, .ref aR_of, .ref aR_hints, .int R_filters, .ref aR_looks, .ref aR_kinds, .ref aR_values, .ref aR_isSafe, .ref aR_sizes, .ref aR_spreads, .ref aR_isSeen, .ref aR_estimates, .ref aR_rest, .int R_steps, .ref aR_order, .ref aR_joins, .ref aR_actsBehind, .ref aR_upTo, .int R_filtersThen, .ref aR_behind, .int R_rows, .ref aR_row, .ref aR_found, .int R_comes, .ref aR_next, .ref aR_nextFound, .int R_kept, .int R_hasRoom, .ref aR_keep, .ref aR_isTaken])), (aR_looks, .inl (cI, 8, .inl R_looks_9)), (aR_kinds, .inl (cI, 8, .inl R_kinds)), (aR_values, .inl (cI, 8, .inl R_values)), (aR_isSafe, .inl (cZ, 8, .inl R_isSafe))] := hD
            refine lv_aload_n hx hb dX7_filter_48 rfl (lv_at hl 0 rfl) ?_
            refine va_get (D := D) (ci := 7) (v := .ref aR_kinds) (C := RX7) (T := TX7) (N := 34) hx hb htg giX7 hown hK hP 0 rfl rfl 9 (by decide) (htg _ kw_572) (fun _ h9 => h9) rfl dX7_filter_49 ?_
            refine lv_aload_n hx hb dX7_filter_52 rfl (lv_at hl 0 rfl) ?_
            refine va_get (D := D) (ci := 7) (v := .int R_filters) (C := RX7) (T := TX7) (N := 34) hx hb htg giX7 hown hK hP 0 rfl rfl 7 (by decide) (htg _ kw_570) (fun _ h9 => h9) rfl dX7_filter_53 ?_
            refine lv_iload_n hx hb dX7_filter_56 rfl (lv_at hl 2 rfl) ?_
            refine x_iast hx hb hK hP hD hS 2 0 rfl rfl g_8 dX7_filter_57 (fun R_kinds_10 eR_kinds_10 H locs hP hD hS => ?_)
            have hf := nm_nm eR_kinds_10 hf
            have hP : va_P D vwCl [(aR, .inr (7, [.int R_triples, .ref aR_facts, .int R_patterns, .ref aR_cells, .ref aR_told, .ref aR_of, .ref aR_hints, .int R_filters, .ref aR_looks, .ref aR_kinds, .ref aR_values, .ref aR_isSafe, .ref aR_sizes, .ref aR_spreads, .ref aR_isSeen, .ref aR_estimates, .ref aR_rest, .int R_steps, .ref aR_order, .ref aR_joins, .ref aR_actsBehind, .ref aR_upTo, .int R_filtersThen, .ref aR_behind, .int R_rows, .ref aR_row, .ref aR_found, .int R_comes, .ref aR_next, .ref aR_nextFound, .int R_kept, .int R_hasRoom, .ref aR_keep, .ref aR_isTaken])), (aR_looks, .inl (cI, 8, .inl R_looks_9)), (aR_kinds, .inl (cI, 8, .inl R_kinds_10)), (aR_values, .inl (cI, 8, .inl R_values)), (aR_isSafe, .inl (cZ, 8, .inl R_isSafe))] H := hP
            have hD : va_D A [(aR, .inr (7, [.int R_triples, .ref aR_facts, .int R_patterns, .ref aR_cells, .ref aR_told, .ref aR_of, .ref aR_hints, .int R_filters, .ref aR_looks, .ref aR_kinds, .ref aR_values, .ref aR_isSafe, .ref aR_sizes, .ref aR_spreads, .ref aR_isSeen, .ref aR_estimates, .ref aR_rest, .int R_steps, .ref aR_order, .ref aR_joins, .ref aR_actsBehind, .ref aR_upTo, .int R_filtersThen, .ref aR_behind, .int R_rows, .ref aR_row, .ref aR_found, .int R_comes, .ref aR_next, .ref aR_nextFound, .int R_kept, .int R_hasRoom, .ref aR_keep, .ref aR_isTaken])), (aR_looks, .inl (cI, 8, .inl R_looks_9)), (aR_kinds, .inl (cI, 8, .inl R_kinds_10)), (aR_values, .inl (cI, 8, .inl R_values)), (aR_isSafe, .inl (cZ, 8, .inl R_isSafe))] := hD
            refine lv_aload_n hx hb dX7_filter_58 rfl (lv_at hl 0 rfl) ?_
            refine va_get (D := D) (ci := 7) (v := .ref aR_values) (C := RX7) (T := TX7) (N := 34) hx hb htg giX7 hown hK hP 0 rfl rfl 10 (by decide) (htg _ kw_573) (fun _ h9 => h9) rfl dX7_filter_59 ?_
            refine lv_aload_n hx hb dX7_filter_62 rfl (lv_at hl 0 rfl) ?_
            refine va_get (D := D) (ci := 7) (v := .int R_filters) (C := RX7) (T := TX7) (N := 34) hx hb htg giX7 hown hK hP 0 rfl rfl 7 (by decide) (htg _ kw_570) (fun _ h9 => h9) rfl dX7_filter_63 ?_
            refine lv_iload_n hx hb dX7_filter_66 rfl (lv_at hl 3 rfl) ?_
            refine x_iast hx hb hK hP hD hS 3 0 rfl rfl g_8 dX7_filter_67 (fun R_values_11 eR_values_11 H locs hP hD hS => ?_)
            have hf := nm_nm eR_values_11 hf
            have hP : va_P D vwCl [(aR, .inr (7, [.int R_triples, .ref aR_facts, .int R_patterns, .ref aR_cells, .ref aR_told, .ref aR_of, .ref aR_hints, .int R_filters, .ref aR_looks, .ref aR_kinds, .ref aR_values, .ref aR_isSafe, .ref aR_sizes, .ref aR_spreads, .ref aR_isSeen, .ref aR_estimates, .ref aR_rest, .int R_steps, .ref aR_order, .ref aR_joins, .ref aR_actsBehind, .ref aR_upTo, .int R_filtersThen, .ref aR_behind, .int R_rows, .ref aR_row, .ref aR_found, .int R_comes, .ref aR_next, .ref aR_nextFound, .int R_kept, .int R_hasRoom, .ref aR_keep, .ref aR_isTaken])), (aR_looks, .inl (cI, 8, .inl R_looks_9)), (aR_kinds, .inl (cI, 8, .inl R_kinds_10)), (aR_values, .inl (cI, 8, .inl R_values_11)), (aR_isSafe, .inl (cZ, 8, .inl R_isSafe))] H := hP
            have hD : va_D A [(aR, .inr (7, [.int R_triples, .ref aR_facts, .int R_patterns, .ref aR_cells, .ref aR_told, .ref aR_of, .ref aR_hints, .int R_filters, .ref aR_looks, .ref aR_kinds, .ref aR_values, .ref aR_isSafe, .ref aR_sizes, .ref aR_spreads, .ref aR_isSeen, .ref aR_estimates, .ref aR_rest, .int R_steps, .ref aR_order, .ref aR_joins, .ref aR_actsBehind, .ref aR_upTo, .int R_filtersThen, .ref aR_behind, .int R_rows, .ref aR_row, .ref aR_found, .int R_comes, .ref aR_next, .ref aR_nextFound, .int R_kept, .int R_hasRoom, .ref aR_keep, .ref aR_isTaken])), (aR_looks, .inl (cI, 8, .inl R_looks_9)), (aR_kinds, .inl (cI, 8, .inl R_kinds_10)), (aR_values, .inl (cI, 8, .inl R_values_11)), (aR_isSafe, .inl (cZ, 8, .inl R_isSafe))] := hD
            refine lv_aload_n hx hb dX7_filter_68 rfl (lv_at hl 0 rfl) ?_
            refine va_get (D := D) (ci := 7) (v := .ref aR_isSafe) (C := RX7) (T := TX7) (N := 34) hx hb htg giX7 hown hK hP 0 rfl rfl 11 (by decide) (htg _ kw_574) (fun _ h9 => h9) rfl dX7_filter_69 ?_
            refine lv_aload_n hx hb dX7_filter_72 rfl (lv_at hl 0 rfl) ?_
            refine va_get (D := D) (ci := 7) (v := .int R_filters) (C := RX7) (T := TX7) (N := 34) hx hb htg giX7 hown hK hP 0 rfl rfl 7 (by decide) (htg _ kw_570) (fun _ h9 => h9) rfl dX7_filter_73 ?_
            refine lv_iload hx hb dX7_filter_76 (lv_at hl 4 rfl) ?_
            refine x_zast hx hb hK hP hD hS 4 2 rfl rfl g_8 dX7_filter_78 (fun R_isSafe_12 eR_isSafe_12 H locs hP hD hS => ?_)
            have hf := nm_nm eR_isSafe_12 hf
            have hP : va_P D vwCl [(aR, .inr (7, [.int R_triples, .ref aR_facts, .int R_patterns, .ref aR_cells, .ref aR_told, .ref aR_of, .ref aR_hints, .int R_filters, .ref aR_looks, .ref aR_kinds, .ref aR_values, .ref aR_isSafe, .ref aR_sizes, .ref aR_spreads, .ref aR_isSeen, .ref aR_estimates, .ref aR_rest, .int R_steps, .ref aR_order, .ref aR_joins, .ref aR_actsBehind, .ref aR_upTo, .int R_filtersThen, .ref aR_behind, .int R_rows, .ref aR_row, .ref aR_found, .int R_comes, .ref aR_next, .ref aR_nextFound, .int R_kept, .int R_hasRoom, .ref aR_keep, .ref aR_isTaken])), (aR_looks, .inl (cI, 8, .inl R_looks_9)), (aR_kinds, .inl (cI, 8, .inl R_kinds_10)), (aR_values, .inl (cI, 8, .inl R_values_11)), (aR_isSafe, .inl (cZ, 8, .inl R_isSafe_12))] H := hP
            have hD : va_D A [(aR, .inr (7, [.int R_triples, .ref aR_facts, .int R_patterns, .ref aR_cells, .ref aR_told, .ref aR_of, .ref aR_hints, .int R_filters, .ref aR_looks, .ref aR_kinds, .ref aR_values, .ref aR_isSafe, .ref aR_sizes, .ref aR_spreads, .ref aR_isSeen, .ref aR_estimates, .ref aR_rest, .int R_steps, .ref aR_order, .ref aR_joins, .ref aR_actsBehind, .ref aR_upTo, .int R_filtersThen, .ref aR_behind, .int R_rows, .ref aR_row, .ref aR_found, .int R_comes, .ref aR_next, .ref aR_nextFound, .int R_kept, .int R_hasRoom, .ref aR_keep, .ref aR_isTaken])), (aR_looks, .inl (cI, 8, .inl R_looks_9)), (aR_kinds, .inl (cI, 8, .inl R_kinds_10)), (aR_values, .inl (cI, 8, .inl R_values_11)), (aR_isSafe, .inl (cZ, 8, .inl R_isSafe_12))] := hD
            refine lv_aload_n hx hb dX7_filter_79 rfl (lv_at hl 0 rfl) ?_
            refine lv_dup hx hb dX7_filter_80 rfl ?_
            refine va_get (D := D) (ci := 7) (v := .int R_filters) (C := RX7) (T := TX7) (N := 34) hx hb htg giX7 hown hK hP 0 rfl rfl 7 (by decide) (htg _ kw_570) (fun _ h9 => h9) rfl dX7_filter_81 ?_
            refine lv_iconst (v := (1 : Int32)) hx hb dX7_filter_84 (by decide) ?_
            refine lv_iadd hx hb dX7_filter_85 ?_
            refine lv_topi (fun v_13 ev_13 => ?_)
            have hf := nm_nm ev_13 hf
            refine va_put (D := D) (ci := 7) (v := .int v_13) (ty := .int) (C := RX7) (T := TX7) (N := 34) hx hb htg giX7 tyX7 tyX7_ok nmX7 hown hK hP hD hS 0 rfl rfl 7 (by decide) (htg _ kw_570) (fun _ h9 => h9) rfl (by decide +kernel) rfl rfl (Nat.le_of_ble_eq_true rfl) dX7_filter_86 (fun H locs hP hD hS => ?_)
            have hP : va_P D vwCl [(aR, .inr (7, [.int R_triples, .ref aR_facts, .int R_patterns, .ref aR_cells, .ref aR_told, .ref aR_of, .ref aR_hints, .int v_13, .ref aR_looks, .ref aR_kinds, .ref aR_values, .ref aR_isSafe, .ref aR_sizes, .ref aR_spreads, .ref aR_isSeen, .ref aR_estimates, .ref aR_rest, .int R_steps, .ref aR_order, .ref aR_joins, .ref aR_actsBehind, .ref aR_upTo, .int R_filtersThen, .ref aR_behind, .int R_rows, .ref aR_row, .ref aR_found, .int R_comes, .ref aR_next, .ref aR_nextFound, .int R_kept, .int R_hasRoom, .ref aR_keep, .ref aR_isTaken])), (aR_looks, .inl (cI, 8, .inl R_looks_9)), (aR_kinds, .inl (cI, 8, .inl R_kinds_10)), (aR_values, .inl (cI, 8, .inl R_values_11)), (aR_isSafe, .inl (cZ, 8, .inl R_isSafe_12))] H := hP
            have hD : va_D A [(aR, .inr (7, [.int R_triples, .ref aR_facts, .int R_patterns, .ref aR_cells, .ref aR_told, .ref aR_of, .ref aR_hints, .int v_13, .ref aR_looks, .ref aR_kinds, .ref aR_values, .ref aR_isSafe, .ref aR_sizes, .ref aR_spreads, .ref aR_isSeen, .ref aR_estimates, .ref aR_rest, .int R_steps, .ref aR_order, .ref aR_joins, .ref aR_actsBehind, .ref aR_upTo, .int R_filtersThen, .ref aR_behind, .int R_rows, .ref aR_row, .ref aR_found, .int R_comes, .ref aR_next, .ref aR_nextFound, .int R_kept, .int R_hasRoom, .ref aR_keep, .ref aR_isTaken])), (aR_looks, .inl (cI, 8, .inl R_looks_9)), (aR_kinds, .inl (cI, 8, .inl R_kinds_10)), (aR_values, .inl (cI, 8, .inl R_values_11)), (aR_isSafe, .inl (cZ, 8, .inl R_isSafe_12))] := hD
            refine lv_aload_n hx hb dX7_filter_89 rfl (lv_at hl 0 rfl) ?_
            refine va_get (D := D) (ci := 7) (v := .int v_13) (C := RX7) (T := TX7) (N := 34) hx hb htg giX7 hown hK hP 0 rfl rfl 7 (by decide) (htg _ kw_570) (fun _ h9 => h9) rfl dX7_filter_90 ?_
            refine lv_iconst (v := (1 : Int32)) hx hb dX7_filter_93 (by decide) ?_
            refine lv_isub hx hb dX7_filter_94 ?_
            have hf := Option.some.inj hf
            obtain ⟨k9_0, f9_0⟩ := Prod.mk.inj hf
            obtain ⟨k9_1, f9_1⟩ := Prod.mk.inj f9_0
            obtain ⟨k9_2, f9_2⟩ := Prod.mk.inj f9_1
            obtain ⟨k9_3, f9_3⟩ := Prod.mk.inj f9_2
            obtain ⟨k9_4, f9_4⟩ := Prod.mk.inj f9_3
            subst k9_0
            subst k9_1
            subst k9_2
            subst k9_3
            subst k9_4
            subst f9_4
            exact x_iret (fun _ => 0) hQ hx hb hr hlk hK hP hD hS dX7_filter_95
          · have hf := xb_t c_7 hf
            refine lv_bipush (v := (-4 : Int32)) hx hb dX7_filter_35 (by decide) ?_
            have hf := Option.some.inj hf
            obtain ⟨k9_0, f9_0⟩ := Prod.mk.inj hf
            obtain ⟨k9_1, f9_1⟩ := Prod.mk.inj f9_0
            obtain ⟨k9_2, f9_2⟩ := Prod.mk.inj f9_1
            obtain ⟨k9_3, f9_3⟩ := Prod.mk.inj f9_2
            obtain ⟨k9_4, f9_4⟩ := Prod.mk.inj f9_3
            subst k9_0
            subst k9_1
            subst k9_2
            subst k9_3
            subst k9_4
            subst f9_4
            exact x_iret (fun _ => 0) hQ hx hb hr hlk hK hP hD hS dX7_filter_37
        · have hf := xb_t c_6 hf
          refine lv_bipush (v := (-2 : Int32)) hx hb dX7_filter_23 (by decide) ?_
          have hf := Option.some.inj hf
          obtain ⟨k9_0, f9_0⟩ := Prod.mk.inj hf
          obtain ⟨k9_1, f9_1⟩ := Prod.mk.inj f9_0
          obtain ⟨k9_2, f9_2⟩ := Prod.mk.inj f9_1
          obtain ⟨k9_3, f9_3⟩ := Prod.mk.inj f9_2
          obtain ⟨k9_4, f9_4⟩ := Prod.mk.inj f9_3
          subst k9_0
          subst k9_1
          subst k9_2
          subst k9_3
          subst k9_4
          subst f9_4
          exact x_iret (fun _ => 0) hQ hx hb hr hlk hK hP hD hS dX7_filter_25
