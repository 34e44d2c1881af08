abbrev rm_f_JoinOrderModel_hint : Room := { frames := 1, cells := 0, slots := 0, locals := 26 }
set_option maxHeartbeats 4000000 in
set_option maxRecDepth 100000 in
theorem c_f_JoinOrderModel_hint (l : Launch) (D : va_G) (cI cJ cZ : ClassId) (sz : Nat) (n : Nat) (aR : Nat) (x1 : Int32) (x2 : Int32) (R_triples : Int32) (aR_facts : Nat) (R_patterns : Int32) (aR_cells : Nat) (aR_told : Nat) (aR_of : Nat) (aR_hints : Nat) (R_filters : Int32) (aR_looks : Nat) (aR_kinds : Nat) (aR_values : Nat) (aR_isSafe : Nat) (aR_sizes : Nat) (aR_spreads : Nat) (aR_isSeen : Nat) (aR_estimates : Nat) (aR_rest : Nat) (R_steps : Int32) (aR_order : Nat) (aR_joins : Nat) (aR_actsBehind : Nat) (aR_upTo : Nat) (R_filtersThen : Int32) (aR_behind : Nat) (R_rows : Int32) (aR_row : Nat) (aR_found : Nat) (R_comes : Int32) (aR_next : Nat) (aR_nextFound : Nat) (R_kept : Int32) (R_hasRoom : Int32) (aR_keep : Nat) (aR_isTaken : Nat) (R_of : Nat → Int32) (R_hints : Nat → Int32) {r : Int32} {R_hints' : Nat → Int32} (hf : f_JoinOrderModel_hint n x1 x2 R_patterns R_of R_hints = some (r, R_hints')) : Met l yX7_hint (.code yX7_hint cX7_hint 3 (some .int) :: GW) rm_f_JoinOrderModel_hint (va_Pc [.ref aR, .int x1, .int x2] (xP D (xT cI cJ cZ) sz [(aR, .inr (7, [.int R_triples, .ref aR_facts, .int R_patterns, .ref aR_cells, .ref aR_told, .ref aR_of, .ref aR_hints, .int R_filters, .ref aR_looks, .ref aR_kinds, .ref aR_values, .ref aR_isSafe, .ref aR_sizes, .ref aR_spreads, .ref aR_isSeen, .ref aR_estimates, .ref aR_rest, .int R_steps, .ref aR_order, .ref aR_joins, .ref aR_actsBehind, .ref aR_upTo, .int R_filtersThen, .ref aR_behind, .int R_rows, .ref aR_row, .ref aR_found, .int R_comes, .ref aR_next, .ref aR_nextFound, .int R_kept, .int R_hasRoom, .ref aR_keep, .ref aR_isTaken])), (aR_of, .inl (cI, 8, .inl R_of)), (aR_hints, .inl (cZ, 64, .inl R_hints))])) (va_Qi (fun r2 (_ : Nat → Nat) => r2 = r) (bB D (xT cI cJ cZ) (fun _ => [(aR, .inr (7, [.int R_triples, .ref aR_facts, .int R_patterns, .ref aR_cells, .ref aR_told, .ref aR_of, .ref aR_hints, .int R_filters, .ref aR_looks, .ref aR_kinds, .ref aR_values, .ref aR_isSafe, .ref aR_sizes, .ref aR_spreads, .ref aR_isSeen, .ref aR_estimates, .ref aR_rest, .int R_steps, .ref aR_order, .ref aR_joins, .ref aR_actsBehind, .ref aR_upTo, .int R_filtersThen, .ref aR_behind, .int R_rows, .ref aR_row, .ref aR_found, .int R_comes, .ref aR_next, .ref aR_nextFound, .int R_kept, .int R_hasRoom, .ref aR_keep, .ref aR_isTaken])), (aR_of, .inl (cI, 8, .inl R_of)), (aR_hints, .inl (cZ, 64, .inl R_hints'))]) (va_A [(aR, .inr (7, [.int R_triples, .ref aR_facts, .int R_patterns, .ref aR_cells, .ref aR_told, .ref aR_of, .ref aR_hints, .int R_filters, .ref aR_looks, .ref aR_kinds, .ref aR_values, .ref aR_isSafe, .ref aR_sizes, .ref aR_spreads, .ref aR_isSeen, .ref aR_estimates, .ref aR_rest, .int R_steps, .ref aR_order, .ref aR_joins, .ref aR_actsBehind, .ref aR_upTo, .int R_filtersThen, .ref aR_behind, .int R_rows, .ref aR_row, .ref aR_found, .int R_comes, .ref aR_next, .ref aR_nextFound, .int R_kept, .int R_hasRoom, .ref aR_keep, .ref aR_isTaken])), (aR_of, .inl (cI, 8, .inl R_of)), (aR_hints, .inl (cZ, 64, .inl R_hints))] sz)) (va_A [(aR, .inr (7, [.int R_triples, .ref aR_facts, .int R_patterns, .ref aR_cells, .ref aR_told, .ref aR_of, .ref aR_hints, .int R_filters, .ref aR_looks, .ref aR_kinds, .ref aR_values, .ref aR_isSafe, .ref aR_sizes, .ref aR_spreads, .ref aR_isSeen, .ref aR_estimates, .ref aR_rest, .int R_steps, .ref aR_order, .ref aR_joins, .ref aR_actsBehind, .ref aR_upTo, .int R_filtersThen, .ref aR_behind, .int R_rows, .ref aR_row, .ref aR_found, .int R_comes, .ref aR_next, .ref aR_nextFound, .int R_kept, .int R_hasRoom, .ref aR_keep, .ref aR_isTaken])), (aR_of, .inl (cI, 8, .inl R_of)), (aR_hints, .inl (cZ, 64, .inl R_hints))] sz)) 0 0 (va_A [(aR, .inr (7, [.int R_triples, .ref aR_facts, .int R_patterns, .ref aR_cells, .ref aR_told, .ref aR_of, .ref aR_hints, .int R_filters, .ref aR_looks, .ref aR_kinds, .ref aR_values, .ref aR_isSafe, .ref aR_sizes, .ref aR_spreads, .ref aR_isSeen, .ref aR_estimates, .ref aR_rest, .int R_steps, .ref aR_order, .ref aR_joins, .ref aR_actsBehind, .ref aR_upTo, .int R_filtersThen, .ref aR_behind, .int R_rows, .ref aR_row, .ref aR_found, .int R_comes, .ref aR_next, .ref aR_nextFound, .int R_kept, .int R_hasRoom, .ref aR_keep, .ref aR_isTaken])), (aR_of, .inl (cI, 8, .inl R_of)), (aR_hints, .inl (cZ, 64, .inl R_hints))] sz) := by
  refine con_start (y := yX7_hint) (bytes := cX7_hint) (maxL := 3) (av := [.ref aR, .int x1, .int x2]) (Qc := fun A => va_Qi (fun r2 (_ : Nat → Nat) => r2 = r) (bB D (xT cI cJ cZ) (fun _ => [(aR, .inr (7, [.int R_triples, .ref aR_facts, .int R_patterns, .ref aR_cells, .ref aR_told, .ref aR_of, .ref aR_hints, .int R_filters, .ref aR_looks, .ref aR_kinds, .ref aR_values, .ref aR_isSafe, .ref aR_sizes, .ref aR_spreads, .ref aR_isSeen, .ref aR_estimates, .ref aR_rest, .int R_steps, .ref aR_order, .ref aR_joins, .ref aR_actsBehind, .ref aR_upTo, .int R_filtersThen, .ref aR_behind, .int R_rows, .ref aR_row, .ref aR_found, .int R_comes, .ref aR_next, .ref aR_nextFound, .int R_kept, .int R_hasRoom, .ref aR_keep, .ref aR_isTaken])), (aR_of, .inl (cI, 8, .inl R_of)), (aR_hints, .inl (cZ, 64, .inl R_hints'))]) A) A) (by decide) (Nat.le_of_ble_eq_true rfl) ?_
  intro p e s m args below meth c Q A hx hb hr hlk hml hown hin htg hN hK hQ hA hP hD hS ls hl
  have hl : lv_has ls 3 [(0, .ref aR), (1, .int x1), (2, .int x2)] := hl
  have hown : s.vm.findClass RX7 = some m.cls := hown
  have hf := (f_JoinOrderModel_hint_u n x1 x2 R_patterns R_of R_hints).symm.trans hf
  refine lv_aload_n hx hb dX7_hint_0 rfl (lv_at hl 0 rfl) ?_
  refine lv_iload_n hx hb dX7_hint_1 rfl (lv_at hl 1 rfl) ?_
  refine x_z (xrV (As := [.int x1]) (b := aR) (rest := []) ⟨hx, hb, hml, hown, htg⟩ (c_f_JoinOrderModel_isPattern l D cI cJ cZ _ aR x1 R_triples aR_facts R_patterns aR_cells aR_told aR_of aR_hints R_filters aR_looks aR_kinds aR_values aR_isSafe aR_sizes aR_spreads aR_isSeen aR_estimates aR_rest R_steps aR_order aR_joins aR_actsBehind aR_upTo R_filtersThen aR_behind R_rows aR_row aR_found R_comes aR_next aR_nextFound R_kept R_hasRoom aR_keep aR_isTaken rfl) kc_f_JoinOrderModel_isPattern kw_688 kw_690 kp_20 kw_8 dd_f_JoinOrderModel_isPattern ⟨Nat.le_of_ble_eq_true rfl, Nat.le_of_ble_eq_true rfl⟩ rfl rfl (hP.sub [0] rfl) (hD.sub [0] (by decide) rfl) hK hN hP (q0 := 0) rfl rfl rfl hl.1 rfl (Nat.le_of_ble_eq_true rfl) dX7_hint_2 ⟨Nat.le_of_ble_eq_true rfl, Nat.le_of_ble_eq_true rfl⟩) hP hD hS hA [0] [1, 2] rfl rfl (by decide) (by decide) (fun _ H locs bz_1 hP hD hS => ?_)
  have hP : va_P D vwCl [(aR_of, .inl (cI, 8, .inl R_of)), (aR_hints, .inl (cZ, 64, .inl R_hints)), (aR, .inr (7, [.int R_triples, .ref aR_facts, .int R_patterns, .ref aR_cells, .ref aR_told, .ref aR_of, .ref aR_hints, .int R_filters, .ref aR_looks, .ref aR_kinds, .ref aR_values, .ref aR_isSafe, .ref aR_sizes, .ref aR_spreads, .ref aR_isSeen, .ref aR_estimates, .ref aR_rest, .int R_steps, .ref aR_order, .ref aR_joins, .ref aR_actsBehind, .ref aR_upTo, .int R_filtersThen, .ref aR_behind, .int R_rows, .ref aR_row, .ref aR_found, .int R_comes, .ref aR_next, .ref aR_nextFound, .int R_kept, .int R_hasRoom, .ref aR_keep, .ref aR_isTaken]))] H := hP
  have hD : va_D A [(aR_of, .inl (cI, 8, .inl R_of)), (aR_hints, .inl (cZ, 64, .inl R_hints)), (aR, .inr (7, [.int R_triples, .ref aR_facts, .int R_patterns, .ref aR_cells, .ref aR_told, .ref aR_of, .ref aR_hints, .int R_filters, .ref aR_looks, .ref aR_kinds, .ref aR_values, .ref aR_isSafe, .ref aR_sizes, .ref aR_spreads, .ref aR_isSeen, .ref aR_estimates, .ref aR_rest, .int R_steps, .ref aR_order, .ref aR_joins, .ref aR_actsBehind, .ref aR_upTo, .int R_filtersThen, .ref aR_behind, .int R_rows, .ref aR_row, .ref aR_found, .int R_comes, .ref aR_next, .ref aR_nextFound, .int R_kept, .int R_hasRoom, .ref aR_keep, .ref aR_isTaken]))] := hD
  refine lv_if_eq (tgt := 16) hx hb dX7_hint_5 (by decide) (fun c_2 => ?_) (fun c_2 => ?_)
  · have hf := xb_t c_2 hf
    refine lv_iconst (v := (-1 : Int32)) hx hb dX7_hint_16 (by decide) ?_
    have hf := Option.some.inj hf
    obtain ⟨k9_0, f9_0⟩ := Prod.mk.inj hf
    subst k9_0
    subst f9_0
    exact x_iret (fun _ => 0) hQ hx hb hr hlk hK (hP.sub [2, 0, 1] rfl) (hD.sub [2, 0, 1] (by decide) rfl) hS dX7_hint_17
  · have hf := xb_f c_2 hf
    refine lv_aload_n hx hb dX7_hint_8 rfl (lv_at hl 0 rfl) ?_
    refine lv_iload_n hx hb dX7_hint_9 rfl (lv_at hl 2 rfl) ?_
    refine x_z (xrV (As := [.int x2]) (b := aR) (rest := []) ⟨hx, hb, hml, hown, htg⟩ (c_f_JoinOrderModel_isPattern l D cI cJ cZ _ aR x2 R_triples aR_facts R_patterns aR_cells aR_told aR_of aR_hints R_filters aR_looks aR_kinds aR_values aR_isSafe aR_sizes aR_spreads aR_isSeen aR_estimates aR_rest R_steps aR_order aR_joins aR_actsBehind aR_upTo R_filtersThen aR_behind R_rows aR_row aR_found R_comes aR_next aR_nextFound R_kept R_hasRoom aR_keep aR_isTaken rfl) kc_f_JoinOrderModel_isPattern kw_688 kw_690 kp_20 kw_8 dd_f_JoinOrderModel_isPattern ⟨Nat.le_of_ble_eq_true rfl, Nat.le_of_ble_eq_true rfl⟩ rfl rfl (hP.sub [2] rfl) (hD.sub [2] (by decide) rfl) hK hN hP (q0 := 2) rfl rfl rfl hl.1 rfl (Nat.le_of_ble_eq_true rfl) dX7_hint_10 ⟨Nat.le_of_ble_eq_true rfl, Nat.le_of_ble_eq_true rfl⟩) hP hD hS hA [2] [0, 1] rfl rfl (by decide) (by decide) (fun _ H locs bz_3 hP hD hS => ?_)
    have hP : va_P D vwCl [(aR_of, .inl (cI, 8, .inl R_of)), (aR_hints, .inl (cZ, 64, .inl R_hints)), (aR, .inr (7, [.int R_triples, .ref aR_facts, .int R_patterns, .ref aR_cells, .ref aR_told, .ref aR_of, .ref aR_hints, .int R_filters, .ref aR_looks, .ref aR_kinds, .ref aR_values, .ref aR_isSafe, .ref aR_sizes, .ref aR_spreads, .ref aR_isSeen, .ref aR_estimates, .ref aR_rest, .int R_steps, .ref aR_order, .ref aR_joins, .ref aR_actsBehind, .ref aR_upTo, .int R_filtersThen, .ref aR_behind, .int R_rows, .ref aR_row, .ref aR_found, .int R_comes, .ref aR_next, .ref aR_nextFound, .int R_kept, .int R_hasRoom, .ref aR_keep, .ref aR_isTaken]))] H := hP
    have hD : va_D A [(aR_of, .inl (cI, 8, .inl R_of)), (aR_hints, .inl (cZ, 64, .inl R_hints)), (aR, .inr (7, [.int R_triples, .ref aR_facts, .int R_patterns, .ref aR_cells, .ref aR_told, .ref aR_of, .ref aR_hints, .int R_filters, .ref aR_looks, .ref aR_kinds, .ref aR_values, .ref aR_isSafe, .ref aR_sizes, .ref aR_spreads, .ref aR_isSeen, .ref aR_estimates, .ref aR_rest, .int R_steps, .ref aR_order, .ref aR_joins, .ref aR_actsBehind, .ref aR_upTo, .int R_filtersThen, .ref aR_behind, .int R_rows, .ref aR_row, .ref aR_found, .int R_comes, .ref aR_next, .ref aR_nextFound, .int R_kept, .int R_hasRoom, .ref aR_keep, .ref aR_isTaken]))] := hD
    refine lv_if_ne (tgt := 18) hx hb dX7_hint_13 (by decide) (fun c_4 => ?_) (fun c_4 => ?_)
    · have hf := xb_f c_4 hf
      refine lv_aload_n hx hb dX7_hint_18 rfl (lv_at hl 0 rfl) ?_
      refine lv_iload_n hx hb dX7_hint_19 rfl (lv_at hl 1 rfl) ?_
      obtain ⟨r_6, hq_5, hf⟩ := bn1_c hf
      refine x_z (xrV (As := [.int x1]) (b := aR) (rest := []) ⟨hx, hb, hml, hown, htg⟩ (c_f_JoinOrderModel_isRequired l D cI cJ cZ _ aR x1 R_triples aR_facts R_patterns aR_cells aR_told aR_of aR_hints R_filters aR_looks aR_kinds aR_values aR_isSafe aR_sizes aR_spreads aR_isSeen aR_estimates aR_rest R_steps aR_order aR_joins aR_actsBehind aR_upTo R_filtersThen aR_behind R_rows aR_row aR_found R_comes aR_next aR_nextFound R_kept R_hasRoom aR_keep aR_isTaken R_of hq_5) kc_f_JoinOrderModel_isRequired kw_692 kw_694 kp_21 kw_8 dd_f_JoinOrderModel_isRequired ⟨Nat.le_of_ble_eq_true rfl, Nat.le_of_ble_eq_true rfl⟩ rfl rfl (hP.sub [2, 0] rfl) (hD.sub [2, 0] (by decide) rfl) hK hN hP (q0 := 2) rfl rfl rfl hl.1 rfl (Nat.le_of_ble_eq_true rfl) dX7_hint_20 ⟨Nat.le_of_ble_eq_true rfl, Nat.le_of_ble_eq_true rfl⟩) hP hD hS hA [2, 0] [1] rfl rfl (by decide) (by decide) (fun _ H locs bz_5 hP hD hS => ?_)
      have hP : va_P D vwCl [(aR_hints, .inl (cZ, 64, .inl R_hints)), (aR, .inr (7, [.int R_triples, .ref aR_facts, .int R_patterns, .ref aR_cells, .ref aR_told, .ref aR_of, .ref aR_hints, .int R_filters, .ref aR_looks, .ref aR_kinds, .ref aR_values, .ref aR_isSafe, .ref aR_sizes, .ref aR_spreads, .ref aR_isSeen, .ref aR_estimates, .ref aR_rest, .int R_steps, .ref aR_order, .ref aR_joins, .ref aR_actsBehind, .ref aR_upTo, .int R_filtersThen, .ref aR_behind, .int R_rows, .ref aR_row, .ref aR_found, .int R_comes, .ref aR_next, .ref aR_nextFound, .int R_kept, .int R_hasRoom, .ref aR_keep, .ref aR_isTaken])), (aR_of, .inl (cI, 8, .inl R_of))] H := hP
      have hD : va_D A [(aR_hints, .inl (cZ, 64, .inl R_hints)), (aR, .inr (7, [.int R_triples, .ref aR_facts, .int R_patterns, .ref aR_cells, .ref aR_told, .ref aR_of, .ref aR_hints, .int R_filters, .ref aR_looks, .ref aR_kinds, .ref aR_values, .ref aR_isSafe, .ref aR_sizes, .ref aR_spreads, .ref aR_isSeen, .ref aR_estimates, .ref aR_rest, .int R_steps, .ref aR_order, .ref aR_joins, .ref aR_actsBehind, .ref aR_upTo, .int R_filtersThen, .ref aR_behind, .int R_rows, .ref aR_row, .ref aR_found, .int R_comes, .ref aR_next, .ref aR_nextFound, .int R_kept, .int R_hasRoom, .ref aR_keep, .ref aR_isTaken])), (aR_of, .inl (cI, 8, .inl R_of))] := hD
      refine lv_if_eq (tgt := 52) hx hb dX7_hint_23 (by decide) (fun c_7 => ?_) (fun c_7 => ?_)
      · have hf := xb_t c_7 hf
        refine lv_bipush (v := (-3 : Int32)) hx hb dX7_hint_52 (by decide) ?_
        have hf := Option.some.inj hf
        obtain ⟨k9_0, f9_0⟩ := Prod.mk.inj hf
        subst k9_0
        subst f9_0
        exact x_iret (fun _ => 0) hQ hx hb hr hlk hK (hP.sub [1, 2, 0] rfl) (hD.sub [1, 2, 0] (by decide) rfl) hS dX7_hint_54
      · have hf := xb_f c_7 hf
        refine lv_aload_n hx hb dX7_hint_26 rfl (lv_at hl 0 rfl) ?_
        refine lv_iload_n hx hb dX7_hint_27 rfl (lv_at hl 2 rfl) ?_
        obtain ⟨r_9, hq_8, hf⟩ := bn1_c hf
        refine x_z (xrV (As := [.int x2]) (b := aR) (rest := []) ⟨hx, hb, hml, hown, htg⟩ (c_f_JoinOrderModel_isRequired l D cI cJ cZ _ aR x2 R_triples aR_facts R_patterns aR_cells aR_told aR_of aR_hints R_filters aR_looks aR_kinds aR_values aR_isSafe aR_sizes aR_spreads aR_isSeen aR_estimates aR_rest R_steps aR_order aR_joins aR_actsBehind aR_upTo R_filtersThen aR_behind R_rows aR_row aR_found R_comes aR_next aR_nextFound R_kept R_hasRoom aR_keep aR_isTaken R_of hq_8) kc_f_JoinOrderModel_isRequired kw_692 kw_694 kp_21 kw_8 dd_f_JoinOrderModel_isRequired ⟨Nat.le_of_ble_eq_true rfl, Nat.le_of_ble_eq_true rfl⟩ rfl rfl (hP.sub [1, 2] rfl) (hD.sub [1, 2] (by decide) rfl) hK hN hP (q0 := 1) rfl rfl rfl hl.1 rfl (Nat.le_of_ble_eq_true rfl) dX7_hint_28 ⟨Nat.le_of_ble_eq_true rfl, Nat.le_of_ble_eq_true rfl⟩) hP hD hS hA [1, 2] [0] rfl rfl (by decide) (by decide) (fun _ H locs bz_8 hP hD hS => ?_)
        have hP : va_P D vwCl [(aR_hints, .inl (cZ, 64, .inl R_hints)), (aR, .inr (7, [.int R_triples, .ref aR_facts, .int R_patterns, .ref aR_cells, .ref aR_told, .ref aR_of, .ref aR_hints, .int R_filters, .ref aR_looks, .ref aR_kinds, .ref aR_values, .ref aR_isSafe, .ref aR_sizes, .ref aR_spreads, .ref aR_isSeen, .ref aR_estimates, .ref aR_rest, .int R_steps, .ref aR_order, .ref aR_joins, .ref aR_actsBehind, .ref aR_upTo, .int R_filtersThen, .ref aR_behind, .int R_rows, .ref aR_row, .ref aR_found, .int R_comes, .ref aR_next, .ref aR_nextFound, .int R_kept, .int R_hasRoom, .ref aR_keep, .ref aR_isTaken])), (aR_of, .inl (cI, 8, .inl R_of))] H := hP
        have hD : va_D A [(aR_hints, .inl (cZ, 64, .inl R_hints)), (aR, .inr (7, [.int R_triples, .ref aR_facts, .int R_patterns, .ref aR_cells, .ref aR_told, .ref aR_of, .ref aR_hints, .int R_filters, .ref aR_looks, .ref aR_kinds, .ref aR_values, .ref aR_isSafe, .ref aR_sizes, .ref aR_spreads, .ref aR_isSeen, .ref aR_estimates, .ref aR_rest, .int R_steps, .ref aR_order, .ref aR_joins, .ref aR_actsBehind, .ref aR_upTo, .int R_filtersThen, .ref aR_behind, .int R_rows, .ref aR_row, .ref aR_found, .int R_comes, .ref aR_next, .ref aR_nextFound, .int R_kept, .int R_hasRoom, .ref aR_keep, .ref aR_isTaken])), (aR_of, .inl (cI, 8, .inl R_of))] := hD
        refine lv_if_eq (tgt := 52) hx hb dX7_hint_31 (by decide) (fun c_10 => ?_) (fun c_10 => ?_)
        · have hf := xb_t c_10 hf
          refine lv_bipush (v := (-3 : Int32)) hx hb dX7_hint_52 (by decide) ?_
          have hf := Option.some.inj hf
          obtain ⟨k9_0, f9_0⟩ := Prod.mk.inj hf
          subst k9_0
          subst f9_0
          exact x_iret (fun _ => 0) hQ hx hb hr hlk hK (hP.sub [1, 2, 0] rfl) (hD.sub [1, 2, 0] (by decide) rfl) hS dX7_hint_54
        · have hf := xb_f c_10 hf
          refine lv_iload_n hx hb dX7_hint_34 rfl (lv_at hl 1 rfl) ?_
          refine lv_iload_n hx hb dX7_hint_35 rfl (lv_at hl 2 rfl) ?_
          refine lv_icmp_eq (tgt := 52) hx hb dX7_hint_36 (by decide) (fun c_11 => ?_) (fun c_11 => ?_)
          · have hf := xb_t c_11 hf
            refine lv_bipush (v := (-3 : Int32)) hx hb dX7_hint_52 (by decide) ?_
            have hf := Option.some.inj hf
            obtain ⟨k9_0, f9_0⟩ := Prod.mk.inj hf
            subst k9_0
            subst f9_0
            exact x_iret (fun _ => 0) hQ hx hb hr hlk hK (hP.sub [1, 2, 0] rfl) (hD.sub [1, 2, 0] (by decide) rfl) hS dX7_hint_54
          · have hf := xb_f c_11 hf
            refine lv_aload_n hx hb dX7_hint_39 rfl (lv_at hl 0 rfl) ?_
            refine lv_iload_n hx hb dX7_hint_40 rfl (lv_at hl 1 rfl) ?_
            obtain ⟨r_13, hq_12, hf⟩ := bn1_c hf
            refine x_i (xrV (As := [.int x1]) (b := aR) (rest := []) ⟨hx, hb, hml, hown, htg⟩ (c_f_JoinOrderModel_beforeOf l D cI cJ cZ _ n aR x1 R_triples aR_facts R_patterns aR_cells aR_told aR_of aR_hints R_filters aR_looks aR_kinds aR_values aR_isSafe aR_sizes aR_spreads aR_isSeen aR_estimates aR_rest R_steps aR_order aR_joins aR_actsBehind aR_upTo R_filtersThen aR_behind R_rows aR_row aR_found R_comes aR_next aR_nextFound R_kept R_hasRoom aR_keep aR_isTaken R_hints hq_12) kc_f_JoinOrderModel_beforeOf kw_716 kw_718 kp_24 kw_8 dd_f_JoinOrderModel_beforeOf ⟨Nat.le_of_ble_eq_true rfl, Nat.le_of_ble_eq_true rfl⟩ rfl rfl (hP.sub [1, 0] rfl) (hD.sub [1, 0] (by decide) rfl) hK hN hP (q0 := 1) rfl rfl rfl hl.1 rfl (Nat.le_of_ble_eq_true rfl) dX7_hint_41 ⟨Nat.le_of_ble_eq_true rfl, Nat.le_of_ble_eq_true rfl⟩) hP hD hS hA [1, 0] [2] rfl rfl (by decide) (by decide) (fun _ H locs hP hD hS => ?_)
            have hP : va_P D vwCl [(aR_of, .inl (cI, 8, .inl R_of)), (aR, .inr (7, [.int R_triples, .ref aR_facts, .int R_patterns, .ref aR_cells, .ref aR_told, .ref aR_of, .ref aR_hints, .int R_filters, .ref aR_looks, .ref aR_kinds, .ref aR_values, .ref aR_isSafe, .ref aR_sizes, .ref aR_spreads, .ref aR_isSeen, .ref aR_estimates, .ref aR_rest, .int R_steps, .ref aR_order, .ref aR_joins, .ref aR_actsBehind, .ref aR_upTo, .int R_filtersThen, .ref aR_behind, .int R_rows, .ref aR_row, .ref aR_found, .int R_comes, .ref aR_next, .ref aR_nextFound, .int R_kept, .int R_hasRoom, .ref aR_keep, .ref aR_isTaken])), (aR_hints, .inl (cZ, 64, .inl R_hints))] H := hP
            have hD : va_D A [(aR_of, .inl (cI, 8, .inl R_of)), (aR, .inr (7, [.int R_triples, .ref aR_facts, .int R_patterns, .ref aR_cells, .ref aR_told, .ref aR_of, .ref aR_hints, .int R_filters, .ref aR_looks, .ref aR_kinds, .ref aR_values, .ref aR_isSafe, .ref aR_sizes, .ref aR_spreads, .ref aR_isSeen, .ref aR_estimates, .ref aR_rest, .int R_steps, .ref aR_order, .ref aR_joins, .ref aR_actsBehind, .ref aR_upTo, .int R_filtersThen, .ref aR_behind, .int R_rows, .ref aR_row, .ref aR_found, .int R_comes, .ref aR_next, .ref aR_nextFound, .int R_kept, .int R_hasRoom, .ref aR_keep, .ref aR_isTaken])), (aR_hints, .inl (cZ, 64, .inl R_hints))] := hD
            refine lv_iload_n hx hb dX7_hint_44 rfl (lv_at hl 2 rfl) ?_
            refine lv_ishr hx hb dX7_hint_45 ?_
            refine lv_iconst (v := (1 : Int32)) hx hb dX7_hint_46 (by decide) ?_
            refine lv_iand hx hb dX7_hint_47 ?_
            refine lv_iconst (v := (1 : Int32)) hx hb dX7_hint_48 (by decide) ?_
            refine lv_icmp_ne (tgt := 55) hx hb dX7_hint_49 (by decide) (fun c_14 => ?_) (fun c_14 => ?_)
            · have hf := xb_f c_14 hf
              refine lv_aload_n hx hb dX7_hint_55 rfl (lv_at hl 0 rfl) ?_
              refine va_get (D := D) (ci := 7) (v := .ref aR_hints) (C := RX7) (T := TX7) (N := 34) hx hb htg giX7 hown hK hP 1 rfl rfl 6 (by decide) (htg _ kw_569) (fun _ h9 => h9) rfl dX7_hint_56 ?_
              refine lv_bipush (v := (8 : Int32)) hx hb dX7_hint_59 (by decide) ?_
              refine lv_iload_n hx hb dX7_hint_61 rfl (lv_at hl 1 rfl) ?_
              refine lv_imul hx hb dX7_hint_62 ?_
              refine lv_iload_n hx hb dX7_hint_63 rfl (lv_at hl 2 rfl) ?_
              refine lv_iadd hx hb dX7_hint_64 ?_
              refine lv_iconst (v := (1 : Int32)) hx hb dX7_hint_65 (by decide) ?_
              have g_15 : vp_in (((8 : Int32) * x1) + x2) 64 := gd_in hf
              have hf := gd_el hf
              refine x_zast hx hb hK hP hD hS 2 2 rfl rfl g_15 dX7_hint_66 (fun R_hints_16 eR_hints_16 H locs hP hD hS => ?_)
              have hf := nm_nm eR_hints_16 hf
              have hP : va_P D vwCl [(aR_of, .inl (cI, 8, .inl R_of)), (aR, .inr (7, [.int R_triples, .ref aR_facts, .int R_patterns, .ref aR_cells, .ref aR_told, .ref aR_of, .ref aR_hints, .int R_filters, .ref aR_looks, .ref aR_kinds, .ref aR_values, .ref aR_isSafe, .ref aR_sizes, .ref aR_spreads, .ref aR_isSeen, .ref aR_estimates, .ref aR_rest, .int R_steps, .ref aR_order, .ref aR_joins, .ref aR_actsBehind, .ref aR_upTo, .int R_filtersThen, .ref aR_behind, .int R_rows, .ref aR_row, .ref aR_found, .int R_comes, .ref aR_next, .ref aR_nextFound, .int R_kept, .int R_hasRoom, .ref aR_keep, .ref aR_isTaken])), (aR_hints, .inl (cZ, 64, .inl R_hints_16))] H := hP
              have hD : va_D A [(aR_of, .inl (cI, 8, .inl R_of)), (aR, .inr (7, [.int R_triples, .ref aR_facts, .int R_patterns, .ref aR_cells, .ref aR_told, .ref aR_of, .ref aR_hints, .int R_filters, .ref aR_looks, .ref aR_kinds, .ref aR_values, .ref aR_isSafe, .ref aR_sizes, .ref aR_spreads, .ref aR_isSeen, .ref aR_estimates, .ref aR_rest, .int R_steps, .ref aR_order, .ref aR_joins, .ref aR_actsBehind, .ref aR_upTo, .int R_filtersThen, .ref aR_behind, .int R_rows, .ref aR_row, .ref aR_found, .int R_comes, .ref aR_next, .ref aR_nextFound, .int R_kept, .int R_hasRoom, .ref aR_keep, .ref aR_isTaken])), (aR_hints, .inl (cZ, 64, .inl R_hints_16))] := hD
              refine lv_iconst (v := (1 : Int32)) hx hb dX7_hint_67 (by decide) ?_
              have hf := Option.some.inj hf
              obtain ⟨k9_0, f9_0⟩ := Prod.mk.inj hf
              subst k9_0
              subst f9_0
              exact x_iret (fun _ => 0) hQ hx hb hr hlk hK (hP.sub [1, 0, 2] rfl) (hD.sub [1, 0, 2] (by decide) rfl) hS dX7_hint_68
            · have hf := xb_t c_14 hf
              refine lv_bipush (v := (-3 : Int32)) hx hb dX7_hint_52 (by decide) ?_
              have hf := Option.some.inj hf
              obtain ⟨k9_0, f9_0⟩ := Prod.mk.inj hf
              subst k9_0
              subst f9_0
              exact x_iret (fun _ => 0) hQ hx hb hr hlk hK (hP.sub [1, 0, 2] rfl) (hD.sub [1, 0, 2] (by decide) rfl) hS dX7_hint_54
    · have hf := xb_t c_4 hf
      refine lv_iconst (v := (-1 : Int32)) hx hb dX7_hint_16 (by decide) ?_
      have hf := Option.some.inj hf
      obtain ⟨k9_0, f9_0⟩ := Prod.mk.inj hf
      subst k9_0
      subst f9_0
      exact x_iret (fun _ => 0) hQ hx hb hr hlk hK (hP.sub [2, 0, 1] rfl) (hD.sub [2, 0, 1] (by decide) rfl) hS dX7_hint_17
