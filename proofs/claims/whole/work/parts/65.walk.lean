abbrev rm_f_JoinOrderModel_placeOf : Room := { frames := 0, cells := 0, slots := 0, locals := 0 }
set_option maxHeartbeats 4000000 in
set_option maxRecDepth 100000 in
theorem c_f_JoinOrderModel_placeOf (l : Launch) (D : va_G) (cI cJ cZ : ClassId) (sz : Nat) (n : Nat) (aR : Nat) (x1 : Int32) (x2 : Int32) (R_triples : Int32) (aR_facts : Nat) (R_patterns : Int32) (aR_cells : Nat) (aR_told : Nat) (aR_of : Nat) (aR_hints : Nat) (R_filters : Int32) (aR_looks : Nat) (aR_kinds : Nat) (aR_values : Nat) (aR_isSafe : Nat) (aR_sizes : Nat) (aR_spreads : Nat) (aR_isSeen : Nat) (aR_estimates : Nat) (aR_rest : Nat) (R_steps : Int32) (aR_order : Nat) (aR_joins : Nat) (aR_actsBehind : Nat) (aR_upTo : Nat) (R_filtersThen : Int32) (aR_behind : Nat) (R_rows : Int32) (aR_row : Nat) (aR_found : Nat) (R_comes : Int32) (aR_next : Nat) (aR_nextFound : Nat) (R_kept : Int32) (R_hasRoom : Int32) (aR_keep : Nat) (aR_isTaken : Nat) (R_cells : Nat → Int32) {r : Int32} (hf : f_JoinOrderModel_placeOf n x1 x2 R_cells = some r) : Met l yX7_placeOf (.code yX7_placeOf cX7_placeOf 5 (some .int) :: GW) rm_f_JoinOrderModel_placeOf (va_Pc [.ref aR, .int x1, .int x2] (xP D (xT cI cJ cZ) sz [(aR, .inr (7, [.int R_triples, .ref aR_facts, .int R_patterns, .ref aR_cells, .ref aR_told, .ref aR_of, .ref aR_hints, .int R_filters, .ref aR_looks, .ref aR_kinds, .ref aR_values, .ref aR_isSafe, .ref aR_sizes, .ref aR_spreads, .ref aR_isSeen, .ref aR_estimates, .ref aR_rest, .int R_steps, .ref aR_order, .ref aR_joins, .ref aR_actsBehind, .ref aR_upTo, .int R_filtersThen, .ref aR_behind, .int R_rows, .ref aR_row, .ref aR_found, .int R_comes, .ref aR_next, .ref aR_nextFound, .int R_kept, .int R_hasRoom, .ref aR_keep, .ref aR_isTaken])), (aR_cells, .inl (cI, 24, .inl R_cells))])) (va_Qi (fun r2 (_ : Nat → Nat) => r2 = r) (bB D (xT cI cJ cZ) (fun _ => [(aR, .inr (7, [.int R_triples, .ref aR_facts, .int R_patterns, .ref aR_cells, .ref aR_told, .ref aR_of, .ref aR_hints, .int R_filters, .ref aR_looks, .ref aR_kinds, .ref aR_values, .ref aR_isSafe, .ref aR_sizes, .ref aR_spreads, .ref aR_isSeen, .ref aR_estimates, .ref aR_rest, .int R_steps, .ref aR_order, .ref aR_joins, .ref aR_actsBehind, .ref aR_upTo, .int R_filtersThen, .ref aR_behind, .int R_rows, .ref aR_row, .ref aR_found, .int R_comes, .ref aR_next, .ref aR_nextFound, .int R_kept, .int R_hasRoom, .ref aR_keep, .ref aR_isTaken])), (aR_cells, .inl (cI, 24, .inl R_cells))]) (va_A [(aR, .inr (7, [.int R_triples, .ref aR_facts, .int R_patterns, .ref aR_cells, .ref aR_told, .ref aR_of, .ref aR_hints, .int R_filters, .ref aR_looks, .ref aR_kinds, .ref aR_values, .ref aR_isSafe, .ref aR_sizes, .ref aR_spreads, .ref aR_isSeen, .ref aR_estimates, .ref aR_rest, .int R_steps, .ref aR_order, .ref aR_joins, .ref aR_actsBehind, .ref aR_upTo, .int R_filtersThen, .ref aR_behind, .int R_rows, .ref aR_row, .ref aR_found, .int R_comes, .ref aR_next, .ref aR_nextFound, .int R_kept, .int R_hasRoom, .ref aR_keep, .ref aR_isTaken])), (aR_cells, .inl (cI, 24, .inl R_cells))] sz)) (va_A [(aR, .inr (7, [.int R_triples, .ref aR_facts, .int R_patterns, .ref aR_cells, .ref aR_told, .ref aR_of, .ref aR_hints, .int R_filters, .ref aR_looks, .ref aR_kinds, .ref aR_values, .ref aR_isSafe, .ref aR_sizes, .ref aR_spreads, .ref aR_isSeen, .ref aR_estimates, .ref aR_rest, .int R_steps, .ref aR_order, .ref aR_joins, .ref aR_actsBehind, .ref aR_upTo, .int R_filtersThen, .ref aR_behind, .int R_rows, .ref aR_row, .ref aR_found, .int R_comes, .ref aR_next, .ref aR_nextFound, .int R_kept, .int R_hasRoom, .ref aR_keep, .ref aR_isTaken])), (aR_cells, .inl (cI, 24, .inl R_cells))] sz)) 0 0 (va_A [(aR, .inr (7, [.int R_triples, .ref aR_facts, .int R_patterns, .ref aR_cells, .ref aR_told, .ref aR_of, .ref aR_hints, .int R_filters, .ref aR_looks, .ref aR_kinds, .ref aR_values, .ref aR_isSafe, .ref aR_sizes, .ref aR_spreads, .ref aR_isSeen, .ref aR_estimates, .ref aR_rest, .int R_steps, .ref aR_order, .ref aR_joins, .ref aR_actsBehind, .ref aR_upTo, .int R_filtersThen, .ref aR_behind, .int R_rows, .ref aR_row, .ref aR_found, .int R_comes, .ref aR_next, .ref aR_nextFound, .int R_kept, .int R_hasRoom, .ref aR_keep, .ref aR_isTaken])), (aR_cells, .inl (cI, 24, .inl R_cells))] sz) := by
  refine con_start (Qc := fun A => va_Qi (fun r2 (_ : Nat → Nat) => r2 = r) (bB D (xT cI cJ cZ) (fun _ => [(aR, .inr (7, [.int R_triples, .ref aR_facts, .int R_patterns, .ref aR_cells, .ref aR_told, .ref aR_of, .ref aR_hints, .int R_filters, .ref aR_looks, .ref aR_kinds, .ref aR_values, .ref aR_isSafe, .ref aR_sizes, .ref aR_spreads, .ref aR_isSeen, .ref aR_estimates, .ref aR_rest, .int R_steps, .ref aR_order, .ref aR_joins, .ref aR_actsBehind, .ref aR_upTo, .int R_filtersThen, .ref aR_behind, .int R_rows, .ref aR_row, .ref aR_found, .int R_comes, .ref aR_next, .ref aR_nextFound, .int R_kept, .int R_hasRoom, .ref aR_keep, .ref aR_isTaken])), (aR_cells, .inl (cI, 24, .inl R_cells))]) A) A) (by decide) (Nat.le_of_ble_eq_true rfl) ?_
  intro p e s m args below meth c Q A hx hb hr hlk hml hown hin htg hN hK hQ hA hP hD hS ls hl
  have hl : lv_has ls 5 [(0, .ref aR), (1, .int x1), (2, .int x2)] := hl
  have hown : s.vm.findClass RX7 = some m.cls := hown
  have hf := (f_JoinOrderModel_placeOf_u n x1 x2 R_cells).symm.trans hf
  refine lv_iconst (v := (-1 : Int32)) hx hb dX7_placeOf_0 (by decide) ?_
  refine lv_istore_n (lv' := [(3, .int (-1 : Int32)), (0, .ref aR), (1, .int x1), (2, .int x2)]) hx hb dX7_placeOf_1 rfl hl (by decide) rfl (fun ls hl => ?_)
  refine lv_iconst (v := (2 : Int32)) hx hb dX7_placeOf_2 (by decide) ?_
  refine lv_istore (lv' := [(4, .int (2 : Int32)), (3, .int (-1 : Int32)), (0, .ref aR), (1, .int x1), (2, .int x2)]) hx hb dX7_placeOf_3 hl (by decide) rfl (fun ls hl => ?_)
  have L_5_13 : ∀ (k : Nat) (x3_14 : Int32) (x4_15 : Int32) (o_13 : Int32), f_JoinOrderModel_placeOf_L0 n x1 x2 R_cells k x3_14 x4_15 = some o_13 → ∀ (H : Heap) (locs : List Loc), va_P D vwCl [(aR, .inr (7, [.int R_triples, .ref aR_facts, .int R_patterns, .ref aR_cells, .ref aR_told, .ref aR_of, .ref aR_hints, .int R_filters, .ref aR_looks, .ref aR_kinds, .ref aR_values, .ref aR_isSafe, .ref aR_sizes, .ref aR_spreads, .ref aR_isSeen, .ref aR_estimates, .ref aR_rest, .int R_steps, .ref aR_order, .ref aR_joins, .ref aR_actsBehind, .ref aR_upTo, .int R_filtersThen, .ref aR_behind, .int R_rows, .ref aR_row, .ref aR_found, .int R_comes, .ref aR_next, .ref aR_nextFound, .int R_kept, .int R_hasRoom, .ref aR_keep, .ref aR_isTaken])), (aR_cells, .inl (cI, 24, .inl R_cells))] H → va_D A [(aR, .inr (7, [.int R_triples, .ref aR_facts, .int R_patterns, .ref aR_cells, .ref aR_told, .ref aR_of, .ref aR_hints, .int R_filters, .ref aR_looks, .ref aR_kinds, .ref aR_values, .ref aR_isSafe, .ref aR_sizes, .ref aR_spreads, .ref aR_isSeen, .ref aR_estimates, .ref aR_rest, .int R_steps, .ref aR_order, .ref aR_joins, .ref aR_actsBehind, .ref aR_upTo, .int R_filtersThen, .ref aR_behind, .int R_rows, .ref aR_row, .ref aR_found, .int R_comes, .ref aR_next, .ref aR_nextFound, .int R_kept, .int R_hasRoom, .ref aR_keep, .ref aR_isTaken])), (aR_cells, .inl (cI, 24, .inl R_cells))] → va_S A s.heap H locs → ∀ ls : Array Slot, lv_has ls 5 [(0, .ref aR), (1, .int x1), (2, .int x2), (3, .int x3_14), (4, .int x4_15)] → (∀ (x3_16 : Int32), some (x3_16) = some o_13 → ∀ (H : Heap) (locs : List Loc), va_P D vwCl [(aR, .inr (7, [.int R_triples, .ref aR_facts, .int R_patterns, .ref aR_cells, .ref aR_told, .ref aR_of, .ref aR_hints, .int R_filters, .ref aR_looks, .ref aR_kinds, .ref aR_values, .ref aR_isSafe, .ref aR_sizes, .ref aR_spreads, .ref aR_isSeen, .ref aR_estimates, .ref aR_rest, .int R_steps, .ref aR_order, .ref aR_joins, .ref aR_actsBehind, .ref aR_upTo, .int R_filtersThen, .ref aR_behind, .int R_rows, .ref aR_row, .ref aR_found, .int R_comes, .ref aR_next, .ref aR_nextFound, .int R_kept, .int R_hasRoom, .ref aR_keep, .ref aR_isTaken])), (aR_cells, .inl (cI, 24, .inl R_cells))] H → va_D A [(aR, .inr (7, [.int R_triples, .ref aR_facts, .int R_patterns, .ref aR_cells, .ref aR_told, .ref aR_of, .ref aR_hints, .int R_filters, .ref aR_looks, .ref aR_kinds, .ref aR_values, .ref aR_isSafe, .ref aR_sizes, .ref aR_spreads, .ref aR_isSeen, .ref aR_estimates, .ref aR_rest, .int R_steps, .ref aR_order, .ref aR_joins, .ref aR_actsBehind, .ref aR_upTo, .int R_filtersThen, .ref aR_behind, .int R_rows, .ref aR_row, .ref aR_found, .int R_comes, .ref aR_next, .ref aR_nextFound, .int R_kept, .int R_hasRoom, .ref aR_keep, .ref aR_isTaken])), (aR_cells, .inl (cI, 24, .inl R_cells))] → va_S A s.heap H locs → ∀ ls : Array Slot, lv_has ls 5 [(3, .int x3_16)] → W p l e rm_f_JoinOrderModel_placeOf s m args below meth c H locs 0 0 Q (F0 m 38 ls [])) → W p l e rm_f_JoinOrderModel_placeOf s m args below meth c H locs 0 0 Q (F0 m 5 ls []) := by
    intro k
    induction k with
    | zero =>
      intro x3_14 x4_15 o_13 hf
      exact absurd (((f_JoinOrderModel_placeOf_L0_z n x1 x2 R_cells x3_14 x4_15).symm.trans hf)) (fun h => by cases h)
    | succ k ih =>
      intro x3_14 x4_15 o_13 hf H locs hP hD hS ls hl hX_13
      have hf := (f_JoinOrderModel_placeOf_L0_s n x1 x2 R_cells k x3_14 x4_15).symm.trans hf
      refine lv_iload hx hb dX7_placeOf_5 (lv_at hl 4 rfl) ?_
      refine lv_if_lt (tgt := 38) hx hb dX7_placeOf_7 (by decide) (fun c_17 => ?_) (fun c_17 => ?_)
      · have hf := xb_t c_17 hf
        exact hX_13 x3_14 hf _ _ hP hD hS _ (lv_sub hl [3] rfl)
      · have hf := xb_f c_17 hf
        refine lv_aload_n hx hb dX7_placeOf_10 rfl (lv_at hl 0 rfl) ?_
        refine va_get (D := D) (ci := 7) (v := .ref aR_cells) (C := RX7) (T := TX7) (N := 34) hx hb htg giX7 hown hK hP 0 rfl rfl 3 (by decide) (htg _ kw_566) (fun _ h9 => h9) rfl dX7_placeOf_11 ?_
        refine lv_iconst (v := (3 : Int32)) hx hb dX7_placeOf_14 (by decide) ?_
        refine lv_iload_n hx hb dX7_placeOf_15 rfl (lv_at hl 1 rfl) ?_
        refine lv_imul hx hb dX7_placeOf_16 ?_
        refine lv_iload hx hb dX7_placeOf_17 (lv_at hl 4 rfl) ?_
        refine lv_iadd hx hb dX7_placeOf_19 ?_
        have g_18 : vp_in (((3 : Int32) * x1) + x4_15) 24 := gd_in hf
        have hf := gd_el hf
        refine va_iald hx hb hK hP 1 0 rfl rfl g_18 dX7_placeOf_20 ?_
        refine lv_iload_n hx hb dX7_placeOf_21 rfl (lv_at hl 2 rfl) ?_
        refine lv_icmp_ne (tgt := 30) hx hb dX7_placeOf_22 (by decide) (fun c_19 => ?_) (fun c_19 => ?_)
        · have hf := xb_f c_19 hf
          refine lv_iload_n hx hb dX7_placeOf_30 rfl (lv_at hl 3 rfl) ?_
          refine lv_istore_n (lv' := [(3, .int x3_14), (0, .ref aR), (1, .int x1), (2, .int x2), (4, .int x4_15)]) hx hb dX7_placeOf_31 rfl hl (by decide) rfl (fun ls hl => ?_)
          obtain ⟨x4_20, ex4_20⟩ : ∃ y : Int32, y = x4_15 + (-1 : Int32) := ⟨_, rfl⟩
          have hf := nm_nm ex4_20 hf
          refine lv_iinc (v := x4_20) (lv' := [(4, .int x4_20), (3, .int x3_14), (0, .ref aR), (1, .int x1), (2, .int x2)]) hx hb dX7_placeOf_32 hl (k := 4) rfl (by rw [ex4_20]; rfl) (by decide) rfl (fun ls hl => ?_)
          refine lv_goto (tgt := 5) hx hb dX7_placeOf_35 (by decide) ?_
          exact ih x3_14 x4_20 o_13 hf _ _ hP hD hS _ (lv_sub hl [2, 3, 4, 1, 0] rfl) hX_13
        · have hf := xb_t c_19 hf
          refine lv_iload hx hb dX7_placeOf_25 (lv_at hl 4 rfl) ?_
          refine lv_goto (tgt := 31) hx hb dX7_placeOf_27 (by decide) ?_
          refine lv_istore_n (lv' := [(3, .int x4_15), (0, .ref aR), (1, .int x1), (2, .int x2), (4, .int x4_15)]) hx hb dX7_placeOf_31 rfl hl (by decide) rfl (fun ls hl => ?_)
          obtain ⟨x4_21, ex4_21⟩ : ∃ y : Int32, y = x4_15 + (-1 : Int32) := ⟨_, rfl⟩
          have hf := nm_nm ex4_21 hf
          refine lv_iinc (v := x4_21) (lv' := [(4, .int x4_21), (3, .int x4_15), (0, .ref aR), (1, .int x1), (2, .int x2)]) hx hb dX7_placeOf_32 hl (k := 4) rfl (by rw [ex4_21]; rfl) (by decide) rfl (fun ls hl => ?_)
          refine lv_goto (tgt := 5) hx hb dX7_placeOf_35 (by decide) ?_
          exact ih x4_15 x4_21 o_13 hf _ _ hP hD hS _ (lv_sub hl [2, 3, 4, 1, 0] rfl) hX_13
  obtain ⟨o_13, ho_13, hk_13⟩ := bn1_s hf
  refine L_5_13 n (-1 : Int32) (2 : Int32) o_13 ho_13 _ _ hP hD hS _ (lv_sub hl [2, 3, 4, 1, 0] rfl) (fun x3_16 hf H locs hP hD hS ls hl => ?_)
  have hf := hk_13 _ hf
  refine lv_iload_n hx hb dX7_placeOf_38 rfl (lv_at hl 0 rfl) ?_
  have hf := Option.some.inj hf
  cases hf
  exact x_iret (fun _ => 0) hQ hx hb hr hlk hK hP hD hS dX7_placeOf_39
abbrev rm_f_JoinOrderModel_measure : Room := { frames := 1, cells := 0, slots := 0, locals := 27 }
set_option maxHeartbeats 4000000 in
set_option maxRecDepth 100000 in
theorem c_f_JoinOrderModel_measure (l : Launch) (D : va_G) (cI cJ cZ : ClassId) (sz : Nat) (n : Nat) (aR : Nat) (x1 : Int32) (R_triples : Int32) (aR_facts : Nat) (R_patterns : Int32) (aR_cells : Nat) (aR_told : Nat) (aR_of : Nat) (aR_hints : Nat) (R_filters : Int32) (aR_looks : Nat) (aR_kinds : Nat) (aR_values : Nat) (aR_isSafe : Nat) (aR_sizes : Nat) (aR_spreads : Nat) (aR_isSeen : Nat) (aR_estimates : Nat) (aR_rest : Nat) (R_steps : Int32) (aR_order : Nat) (aR_joins : Nat) (aR_actsBehind : Nat) (aR_upTo : Nat) (R_filtersThen : Int32) (aR_behind : Nat) (R_rows : Int32) (aR_row : Nat) (aR_found : Nat) (R_comes : Int32) (aR_next : Nat) (aR_nextFound : Nat) (R_kept : Int32) (R_hasRoom : Int32) (aR_keep : Nat) (aR_isTaken : Nat) (R_cells : Nat → Int32) (R_facts : Nat → Int32) (R_told : Nat → Int32) (R_sizes : Nat → Int32) (R_isSeen : Nat → Int32) (R_spreads : Nat → Int32) {R_sizes' : Nat → Int32} {R_isSeen' : Nat → Int32} {R_spreads' : Nat → Int32} (hf : f_JoinOrderModel_measure n x1 R_triples R_cells R_facts R_told R_sizes R_isSeen R_spreads = some (R_sizes', R_isSeen', R_spreads')) : Met l yX7_measure (.code yX7_measure cX7_measure 7 none :: GW) rm_f_JoinOrderModel_measure (va_Pc [.ref aR, .int x1] (xP D (xT cI cJ cZ) sz [(aR, .inr (7, [.int R_triples, .ref aR_facts, .int R_patterns, .ref aR_cells, .ref aR_told, .ref aR_of, .ref aR_hints, .int R_filters, .ref aR_looks, .ref aR_kinds, .ref aR_values, .ref aR_isSafe, .ref aR_sizes, .ref aR_spreads, .ref aR_isSeen, .ref aR_estimates, .ref aR_rest, .int R_steps, .ref aR_order, .ref aR_joins, .ref aR_actsBehind, .ref aR_upTo, .int R_filtersThen, .ref aR_behind, .int R_rows, .ref aR_row, .ref aR_found, .int R_comes, .ref aR_next, .ref aR_nextFound, .int R_kept, .int R_hasRoom, .ref aR_keep, .ref aR_isTaken])), (aR_cells, .inl (cI, 24, .inl R_cells)), (aR_facts, .inl (cI, 240, .inl R_facts)), (aR_told, .inl (cI, 8, .inl R_told)), (aR_sizes, .inl (cI, 8, .inl R_sizes)), (aR_isSeen, .inl (cZ, 32, .inl R_isSeen)), (aR_spreads, .inl (cI, 64, .inl R_spreads))])) (va_Qv (fun (_ : Nat → Nat) => True) (bB D (xT cI cJ cZ) (fun _ => [(aR, .inr (7, [.int R_triples, .ref aR_facts, .int R_patterns, .ref aR_cells, .ref aR_told, .ref aR_of, .ref aR_hints, .int R_filters, .ref aR_looks, .ref aR_kinds, .ref aR_values, .ref aR_isSafe, .ref aR_sizes, .ref aR_spreads, .ref aR_isSeen, .ref aR_estimates, .ref aR_rest, .int R_steps, .ref aR_order, .ref aR_joins, .ref aR_actsBehind, .ref aR_upTo, .int R_filtersThen, .ref aR_behind, .int R_rows, .ref aR_row, .ref aR_found, .int R_comes, .ref aR_next, .ref aR_nextFound, .int R_kept, .int R_hasRoom, .ref aR_keep, .ref aR_isTaken])), (aR_cells, .inl (cI, 24, .inl R_cells)), (aR_facts, .inl (cI, 240, .inl R_facts)), (aR_told, .inl (cI, 8, .inl R_told)), (aR_sizes, .inl (cI, 8, .inl R_sizes')), (aR_isSeen, .inl (cZ, 32, .inl R_isSeen')), (aR_spreads, .inl (cI, 64, .inl R_spreads'))]) (va_A [(aR, .inr (7, [.int R_triples, .ref aR_facts, .int R_patterns, .ref aR_cells, .ref aR_told, .ref aR_of, .ref aR_hints, .int R_filters, .ref aR_looks, .ref aR_kinds, .ref aR_values, .ref aR_isSafe, .ref aR_sizes, .ref aR_spreads, .ref aR_isSeen, .ref aR_estimates, .ref aR_rest, .int R_steps, .ref aR_order, .ref aR_joins, .ref aR_actsBehind, .ref aR_upTo, .int R_filtersThen, .ref aR_behind, .int R_rows, .ref aR_row, .ref aR_found, .int R_comes, .ref aR_next, .ref aR_nextFound, .int R_kept, .int R_hasRoom, .ref aR_keep, .ref aR_isTaken])), (aR_cells, .inl (cI, 24, .inl R_cells)), (aR_facts, .inl (cI, 240, .inl R_facts)), (aR_told, .inl (cI, 8, .inl R_told)), (aR_sizes, .inl (cI, 8, .inl R_sizes)), (aR_isSeen, .inl (cZ, 32, .inl R_isSeen)), (aR_spreads, .inl (cI, 64, .inl R_spreads))] sz)) (va_A [(aR, .inr (7, [.int R_triples, .ref aR_facts, .int R_patterns, .ref aR_cells, .ref aR_told, .ref aR_of, .ref aR_hints, .int R_filters, .ref aR_looks, .ref aR_kinds, .ref aR_values, .ref aR_isSafe, .ref aR_sizes, .ref aR_spreads, .ref aR_isSeen, .ref aR_estimates, .ref aR_rest, .int R_steps, .ref aR_order, .ref aR_joins, .ref aR_actsBehind, .ref aR_upTo, .int R_filtersThen, .ref aR_behind, .int R_rows, .ref aR_row, .ref aR_found, .int R_comes, .ref aR_next, .ref aR_nextFound, .int R_kept, .int R_hasRoom, .ref aR_keep, .ref aR_isTaken])), (aR_cells, .inl (cI, 24, .inl R_cells)), (aR_facts, .inl (cI, 240, .inl R_facts)), (aR_told, .inl (cI, 8, .inl R_told)), (aR_sizes, .inl (cI, 8, .inl R_sizes)), (aR_isSeen, .inl (cZ, 32, .inl R_isSeen)), (aR_spreads, .inl (cI, 64, .inl R_spreads))] sz)) 0 0 (va_A [(aR, .inr (7, [.int R_triples, .ref aR_facts, .int R_patterns, .ref aR_cells, .ref aR_told, .ref aR_of, .ref aR_hints, .int R_filters, .ref aR_looks, .ref aR_kinds, .ref aR_values, .ref aR_isSafe, .ref aR_sizes, .ref aR_spreads, .ref aR_isSeen, .ref aR_estimates, .ref aR_rest, .int R_steps, .ref aR_order, .ref aR_joins, .ref aR_actsBehind, .ref aR_upTo, .int R_filtersThen, .ref aR_behind, .int R_rows, .ref aR_row, .ref aR_found, .int R_comes, .ref aR_next, .ref aR_nextFound, .int R_kept, .int R_hasRoom, .ref aR_keep, .ref aR_isTaken])), (aR_cells, .inl (cI, 24, .inl R_cells)), (aR_facts, .inl (cI, 240, .inl R_facts)), (aR_told, .inl (cI, 8, .inl R_told)), (aR_sizes, .inl (cI, 8, .inl R_sizes)), (aR_isSeen, .inl (cZ, 32, .inl R_isSeen)), (aR_spreads, .inl (cI, 64, .inl R_spreads))] sz) := by
  refine con_start (Qc := fun A => va_Qv (fun (_ : Nat → Nat) => True) (bB D (xT cI cJ cZ) (fun _ => [(aR, .inr (7, [.int R_triples, .ref aR_facts, .int R_patterns, .ref aR_cells, .ref aR_told, .ref aR_of, .ref aR_hints, .int R_filters, .ref aR_looks, .ref aR_kinds, .ref aR_values, .ref aR_isSafe, .ref aR_sizes, .ref aR_spreads, .ref aR_isSeen, .ref aR_estimates, .ref aR_rest, .int R_steps, .ref aR_order, .ref aR_joins, .ref aR_actsBehind, .ref aR_upTo, .int R_filtersThen, .ref aR_behind, .int R_rows, .ref aR_row, .ref aR_found, .int R_comes, .ref aR_next, .ref aR_nextFound, .int R_kept, .int R_hasRoom, .ref aR_keep, .ref aR_isTaken])), (aR_cells, .inl (cI, 24, .inl R_cells)), (aR_facts, .inl (cI, 240, .inl R_facts)), (aR_told, .inl (cI, 8, .inl R_told)), (aR_sizes, .inl (cI, 8, .inl R_sizes')), (aR_isSeen, .inl (cZ, 32, .inl R_isSeen')), (aR_spreads, .inl (cI, 64, .inl R_spreads'))]) A) A) (by decide) (Nat.le_of_ble_eq_true rfl) ?_
  intro p e s m args below meth c Q A hx hb hr hlk hml hown hin htg hN hK hQ hA hP hD hS ls hl
  have hl : lv_has ls 7 [(0, .ref aR), (1, .int x1)] := hl
  have hown : s.vm.findClass RX7 = some m.cls := hown
  have hf := (f_JoinOrderModel_measure_u n x1 R_triples R_cells R_facts R_told R_sizes R_isSeen R_spreads).symm.trans hf
  refine lv_iconst (v := (0 : Int32)) hx hb dX7_measure_0 (by decide) ?_
  refine lv_istore_n (lv' := [(2, .int (0 : Int32)), (0, .ref aR), (1, .int x1)]) hx hb dX7_measure_1 rfl hl (by decide) rfl (fun ls hl => ?_)
  refine lv_iconst (v := (0 : Int32)) hx hb dX7_measure_2 (by decide) ?_
  refine lv_istore_n (lv' := [(3, .int (0 : Int32)), (2, .int (0 : Int32)), (0, .ref aR), (1, .int x1)]) hx hb dX7_measure_3 rfl hl (by decide) rfl (fun ls hl => ?_)
  have L_4_17 : ∀ (k : Nat) (x2_18 : Int32) (x3_19 : Int32) (o_17 : Int32), f_JoinOrderModel_measure_L0 n x1 R_triples R_cells R_facts k x2_18 x3_19 = some o_17 → ∀ (H : Heap) (locs : List Loc), va_P D vwCl [(aR, .inr (7, [.int R_triples, .ref aR_facts, .int R_patterns, .ref aR_cells, .ref aR_told, .ref aR_of, .ref aR_hints, .int R_filters, .ref aR_looks, .ref aR_kinds, .ref aR_values, .ref aR_isSafe, .ref aR_sizes, .ref aR_spreads, .ref aR_isSeen, .ref aR_estimates, .ref aR_rest, .int R_steps, .ref aR_order, .ref aR_joins, .ref aR_actsBehind, .ref aR_upTo, .int R_filtersThen, .ref aR_behind, .int R_rows, .ref aR_row, .ref aR_found, .int R_comes, .ref aR_next, .ref aR_nextFound, .int R_kept, .int R_hasRoom, .ref aR_keep, .ref aR_isTaken])), (aR_cells, .inl (cI, 24, .inl R_cells)), (aR_facts, .inl (cI, 240, .inl R_facts)), (aR_told, .inl (cI, 8, .inl R_told)), (aR_sizes, .inl (cI, 8, .inl R_sizes)), (aR_isSeen, .inl (cZ, 32, .inl R_isSeen)), (aR_spreads, .inl (cI, 64, .inl R_spreads))] H → va_D A [(aR, .inr (7, [.int R_triples, .ref aR_facts, .int R_patterns, .ref aR_cells, .ref aR_told, .ref aR_of, .ref aR_hints, .int R_filters, .ref aR_looks, .ref aR_kinds, .ref aR_values, .ref aR_isSafe, .ref aR_sizes, .ref aR_spreads, .ref aR_isSeen, .ref aR_estimates, .ref aR_rest, .int R_steps, .ref aR_order, .ref aR_joins, .ref aR_actsBehind, .ref aR_upTo, .int R_filtersThen, .ref aR_behind, .int R_rows, .ref aR_row, .ref aR_found, .int R_comes, .ref aR_next, .ref aR_nextFound, .int R_kept, .int R_hasRoom, .ref aR_keep, .ref aR_isTaken])), (aR_cells, .inl (cI, 24, .inl R_cells)), (aR_facts, .inl (cI, 240, .inl R_facts)), (aR_told, .inl (cI, 8, .inl R_told)), (aR_sizes, .inl (cI, 8, .inl R_sizes)), (aR_isSeen, .inl (cZ, 32, .inl R_isSeen)), (aR_spreads, .inl (cI, 64, .inl R_spreads))] → va_S A s.heap H locs → ∀ ls : Array Slot, lv_has ls 7 [(0, .ref aR), (1, .int x1), (2, .int x2_18), (3, .int x3_19)] → (∀ (x2_20 : Int32), some (x2_20) = some o_17 → ∀ (H : Heap) (locs : List Loc), va_P D vwCl [(aR, .inr (7, [.int R_triples, .ref aR_facts, .int R_patterns, .ref aR_cells, .ref aR_told, .ref aR_of, .ref aR_hints, .int R_filters, .ref aR_looks, .ref aR_kinds, .ref aR_values, .ref aR_isSafe, .ref aR_sizes, .ref aR_spreads, .ref aR_isSeen, .ref aR_estimates, .ref aR_rest, .int R_steps, .ref aR_order, .ref aR_joins, .ref aR_actsBehind, .ref aR_upTo, .int R_filtersThen, .ref aR_behind, .int R_rows, .ref aR_row, .ref aR_found, .int R_comes, .ref aR_next, .ref aR_nextFound, .int R_kept, .int R_hasRoom, .ref aR_keep, .ref aR_isTaken])), (aR_cells, .inl (cI, 24, .inl R_cells)), (aR_facts, .inl (cI, 240, .inl R_facts)), (aR_told, .inl (cI, 8, .inl R_told)), (aR_sizes, .inl (cI, 8, .inl R_sizes)), (aR_isSeen, .inl (cZ, 32, .inl R_isSeen)), (aR_spreads, .inl (cI, 64, .inl R_spreads))] H → va_D A [(aR, .inr (7, [.int R_triples, .ref aR_facts, .int R_patterns, .ref aR_cells, .ref aR_told, .ref aR_of, .ref aR_hints, .int R_filters, .ref aR_looks, .ref aR_kinds, .ref aR_values, .ref aR_isSafe, .ref aR_sizes, .ref aR_spreads, .ref aR_isSeen, .ref aR_estimates, .ref aR_rest, .int R_steps, .ref aR_order, .ref aR_joins, .ref aR_actsBehind, .ref aR_upTo, .int R_filtersThen, .ref aR_behind, .int R_rows, .ref aR_row, .ref aR_found, .int R_comes, .ref aR_next, .ref aR_nextFound, .int R_kept, .int R_hasRoom, .ref aR_keep, .ref aR_isTaken])), (aR_cells, .inl (cI, 24, .inl R_cells)), (aR_facts, .inl (cI, 240, .inl R_facts)), (aR_told, .inl (cI, 8, .inl R_told)), (aR_sizes, .inl (cI, 8, .inl R_sizes)), (aR_isSeen, .inl (cZ, 32, .inl R_isSeen)), (aR_spreads, .inl (cI, 64, .inl R_spreads))] → va_S A s.heap H locs → ∀ ls : Array Slot, lv_has ls 7 [(0, .ref aR), (1, .int x1), (2, .int x2_20)] → W p l e rm_f_JoinOrderModel_measure s m args below meth c H locs 0 0 Q (F0 m 35 ls [])) → W p l e rm_f_JoinOrderModel_measure s m args below meth c H locs 0 0 Q (F0 m 4 ls []) := by
    intro k
    induction k with
    | zero =>
      intro x2_18 x3_19 o_17 hf
      exact absurd (((f_JoinOrderModel_measure_L0_z n x1 R_triples R_cells R_facts x2_18 x3_19).symm.trans hf)) (fun h => by cases h)
    | succ k ih =>
      intro x2_18 x3_19 o_17 hf H locs hP hD hS ls hl hX_17
      have hf := (f_JoinOrderModel_measure_L0_s n x1 R_triples R_cells R_facts k x2_18 x3_19).symm.trans hf
      refine lv_iload_n hx hb dX7_measure_4 rfl (lv_at hl 3 rfl) ?_
      refine lv_aload_n hx hb dX7_measure_5 rfl (lv_at hl 0 rfl) ?_
      refine va_get (D := D) (ci := 7) (v := .int R_triples) (C := RX7) (T := TX7) (N := 34) hx hb htg giX7 hown hK hP 0 rfl rfl 0 (by decide) (htg _ kw_563) (fun _ h9 => h9) rfl dX7_measure_6 ?_
      refine lv_icmp_ge (tgt := 35) hx hb dX7_measure_9 (by decide) (fun c_21 => ?_) (fun c_21 => ?_)
      · have hf := xb_t c_21 hf
        exact hX_17 x2_18 hf _ _ hP hD hS _ (lv_sub hl [0, 1, 2] rfl)
      · have hf := xb_f c_21 hf
        refine lv_aload_n hx hb dX7_measure_12 rfl (lv_at hl 0 rfl) ?_
        refine lv_iload_n hx hb dX7_measure_13 rfl (lv_at hl 1 rfl) ?_
        refine lv_iload_n hx hb dX7_measure_14 rfl (lv_at hl 3 rfl) ?_
        obtain ⟨r_23, hq_22, hf⟩ := bn1_c hf
        refine x_z (xrV (As := [.int x1, .int x3_19]) (b := aR) (rest := []) ⟨hx, hb, hml, hown, htg⟩ (c_f_JoinOrderModel_matches l D cI cJ cZ _ n aR x1 x3_19 R_triples aR_facts R_patterns aR_cells aR_told aR_of aR_hints R_filters aR_looks aR_kinds aR_values aR_isSafe aR_sizes aR_spreads aR_isSeen aR_estimates aR_rest R_steps aR_order aR_joins aR_actsBehind aR_upTo R_filtersThen aR_behind R_rows aR_row aR_found R_comes aR_next aR_nextFound R_kept R_hasRoom aR_keep aR_isTaken R_cells R_facts hq_22) kc_f_JoinOrderModel_matches kw_728 kw_730 kp_26 kw_8 dd_f_JoinOrderModel_matches ⟨Nat.le_of_ble_eq_true rfl, Nat.le_of_ble_eq_true rfl⟩ rfl rfl (hP.sub [0, 1, 2] rfl) (hD.sub [0, 1, 2] (by decide) rfl) hK hN hP (q0 := 0) rfl rfl rfl hl.1 rfl (Nat.le_of_ble_eq_true rfl) dX7_measure_15 ⟨Nat.le_of_ble_eq_true rfl, Nat.le_of_ble_eq_true rfl⟩) hP hD hS hA [0, 1, 2] [3, 4, 5, 6] rfl rfl (by decide) (by decide) (fun _ H locs bz_22 hP hD hS => ?_)
        have hP : va_P D vwCl [(aR_told, .inl (cI, 8, .inl R_told)), (aR_sizes, .inl (cI, 8, .inl R_sizes)), (aR_isSeen, .inl (cZ, 32, .inl R_isSeen)), (aR_spreads, .inl (cI, 64, .inl R_spreads)), (aR, .inr (7, [.int R_triples, .ref aR_facts, .int R_patterns, .ref aR_cells, .ref aR_told, .ref aR_of, .ref aR_hints, .int R_filters, .ref aR_looks, .ref aR_kinds, .ref aR_values, .ref aR_isSafe, .ref aR_sizes, .ref aR_spreads, .ref aR_isSeen, .ref aR_estimates, .ref aR_rest, .int R_steps, .ref aR_order, .ref aR_joins, .ref aR_actsBehind, .ref aR_upTo, .int R_filtersThen, .ref aR_behind, .int R_rows, .ref aR_row, .ref aR_found, .int R_comes, .ref aR_next, .ref aR_nextFound, .int R_kept, .int R_hasRoom, .ref aR_keep, .ref aR_isTaken])), (aR_cells, .inl (cI, 24, .inl R_cells)), (aR_facts, .inl (cI, 240, .inl R_facts))] H := hP
        have hD : va_D A [(aR_told, .inl (cI, 8, .inl R_told)), (aR_sizes, .inl (cI, 8, .inl R_sizes)), (aR_isSeen, .inl (cZ, 32, .inl R_isSeen)), (aR_spreads, .inl (cI, 64, .inl R_spreads)), (aR, .inr (7, [.int R_triples, .ref aR_facts, .int R_patterns, .ref aR_cells, .ref aR_told, .ref aR_of, .ref aR_hints, .int R_filters, .ref aR_looks, .ref aR_kinds, .ref aR_values, .ref aR_isSafe, .ref aR_sizes, .ref aR_spreads, .ref aR_isSeen, .ref aR_estimates, .ref aR_rest, .int R_steps, .ref aR_order, .ref aR_joins, .ref aR_actsBehind, .ref aR_upTo, .int R_filtersThen, .ref aR_behind, .int R_rows, .ref aR_row, .ref aR_found, .int R_comes, .ref aR_next, .ref aR_nextFound, .int R_kept, .int R_hasRoom, .ref aR_keep, .ref aR_isTaken])), (aR_cells, .inl (cI, 24, .inl R_cells)), (aR_facts, .inl (cI, 240, .inl R_facts))] := hD
        refine lv_if_eq (tgt := 27) hx hb dX7_measure_18 (by decide) (fun c_24 => ?_) (fun c_24 => ?_)
        · have hf := xb_t c_24 hf
          refine lv_iload_n hx hb dX7_measure_27 rfl (lv_at hl 2 rfl) ?_
          refine lv_istore_n (lv' := [(2, .int x2_18), (0, .ref aR), (1, .int x1), (3, .int x3_19)]) hx hb dX7_measure_28 rfl hl (by decide) rfl (fun ls hl => ?_)
          obtain ⟨x3_25, ex3_25⟩ : ∃ y : Int32, y = x3_19 + (1 : Int32) := ⟨_, rfl⟩
          have hf := nm_nm ex3_25 hf
          refine lv_iinc (v := x3_25) (lv' := [(3, .int x3_25), (2, .int x2_18), (0, .ref aR), (1, .int x1)]) hx hb dX7_measure_29 hl (k := 3) rfl (by rw [ex3_25]; rfl) (by decide) rfl (fun ls hl => ?_)
          refine lv_goto (tgt := 4) hx hb dX7_measure_32 (by decide) ?_
          exact ih x2_18 x3_25 o_17 hf _ _ (hP.sub [4, 5, 6, 0, 1, 2, 3] rfl) (hD.sub [4, 5, 6, 0, 1, 2, 3] (by decide) rfl) hS _ (lv_sub hl [2, 3, 1, 0] rfl) hX_17
        · have hf := xb_f c_24 hf
          refine lv_iload_n hx hb dX7_measure_21 rfl (lv_at hl 2 rfl) ?_
          refine lv_iconst (v := (1 : Int32)) hx hb dX7_measure_22 (by decide) ?_
          refine lv_iadd hx hb dX7_measure_23 ?_
          refine lv_goto (tgt := 28) hx hb dX7_measure_24 (by decide) ?_
          refine lv_topi (fun x2_26 ex2_26 => ?_)
          have hf := nm_nm ex2_26 hf
          refine lv_istore_n (lv' := [(2, .int x2_26), (0, .ref aR), (1, .int x1), (3, .int x3_19)]) hx hb dX7_measure_28 rfl hl (by decide) rfl (fun ls hl => ?_)
          obtain ⟨x3_27, ex3_27⟩ : ∃ y : Int32, y = x3_19 + (1 : Int32) := ⟨_, rfl⟩
          have hf := nm_nm ex3_27 hf
          refine lv_iinc (v := x3_27) (lv' := [(3, .int x3_27), (2, .int x2_26), (0, .ref aR), (1, .int x1)]) hx hb dX7_measure_29 hl (k := 3) rfl (by rw [ex3_27]; rfl) (by decide) rfl (fun ls hl => ?_)
          refine lv_goto (tgt := 4) hx hb dX7_measure_32 (by decide) ?_
          exact ih x2_26 x3_27 o_17 hf _ _ (hP.sub [4, 5, 6, 0, 1, 2, 3] rfl) (hD.sub [4, 5, 6, 0, 1, 2, 3] (by decide) rfl) hS _ (lv_sub hl [2, 3, 1, 0] rfl) hX_17
  obtain ⟨o_17, ho_17, hk_17⟩ := bn1_s hf
  refine L_4_17 n (0 : Int32) (0 : Int32) o_17 ho_17 _ _ hP hD hS _ (lv_sub hl [2, 3, 1, 0] rfl) (fun x2_20 hf H locs hP hD hS ls hl => ?_)
  have hf := hk_17 _ hf
  refine lv_aload_n hx hb dX7_measure_35 rfl (lv_at hl 0 rfl) ?_
  refine va_get (D := D) (ci := 7) (v := .ref aR_sizes) (C := RX7) (T := TX7) (N := 34) hx hb htg giX7 hown hK hP 0 rfl rfl 12 (by decide) (htg _ kw_575) (fun _ h9 => h9) rfl dX7_measure_36 ?_
  refine lv_iload_n hx hb dX7_measure_39 rfl (lv_at hl 1 rfl) ?_
  refine lv_aload_n hx hb dX7_measure_40 rfl (lv_at hl 0 rfl) ?_
  refine va_get (D := D) (ci := 7) (v := .ref aR_told) (C := RX7) (T := TX7) (N := 34) hx hb htg giX7 hown hK hP 0 rfl rfl 4 (by decide) (htg _ kw_567) (fun _ h9 => h9) rfl dX7_measure_41 ?_
  refine lv_iload_n hx hb dX7_measure_44 rfl (lv_at hl 1 rfl) ?_
  have g_28 : vp_in x1 8 := gd_in hf
  have hf := gd_el hf
  refine va_iald hx hb hK hP 3 0 rfl rfl g_28 dX7_measure_45 ?_
  obtain ⟨o_30, ho_30, hk_30⟩ := bn1_s hf
  have J_59_30 : ∀ (z_31 : Int32), some (z_31) = some o_30 → ∀ (H : Heap) (locs : List Loc), va_P D vwCl [(aR, .inr (7, [.int R_triples, .ref aR_facts, .int R_patterns, .ref aR_cells, .ref aR_told, .ref aR_of, .ref aR_hints, .int R_filters, .ref aR_looks, .ref aR_kinds, .ref aR_values, .ref aR_isSafe, .ref aR_sizes, .ref aR_spreads, .ref aR_isSeen, .ref aR_estimates, .ref aR_rest, .int R_steps, .ref aR_order, .ref aR_joins, .ref aR_actsBehind, .ref aR_upTo, .int R_filtersThen, .ref aR_behind, .int R_rows, .ref aR_row, .ref aR_found, .int R_comes, .ref aR_next, .ref aR_nextFound, .int R_kept, .int R_hasRoom, .ref aR_keep, .ref aR_isTaken])), (aR_cells, .inl (cI, 24, .inl R_cells)), (aR_facts, .inl (cI, 240, .inl R_facts)), (aR_told, .inl (cI, 8, .inl R_told)), (aR_sizes, .inl (cI, 8, .inl R_sizes)), (aR_isSeen, .inl (cZ, 32, .inl R_isSeen)), (aR_spreads, .inl (cI, 64, .inl R_spreads))] H → va_D A [(aR, .inr (7, [.int R_triples, .ref aR_facts, .int R_patterns, .ref aR_cells, .ref aR_told, .ref aR_of, .ref aR_hints, .int R_filters, .ref aR_looks, .ref aR_kinds, .ref aR_values, .ref aR_isSafe, .ref aR_sizes, .ref aR_spreads, .ref aR_isSeen, .ref aR_estimates, .ref aR_rest, .int R_steps, .ref aR_order, .ref aR_joins, .ref aR_actsBehind, .ref aR_upTo, .int R_filtersThen, .ref aR_behind, .int R_rows, .ref aR_row, .ref aR_found, .int R_comes, .ref aR_next, .ref aR_nextFound, .int R_kept, .int R_hasRoom, .ref aR_keep, .ref aR_isTaken])), (aR_cells, .inl (cI, 24, .inl R_cells)), (aR_facts, .inl (cI, 240, .inl R_facts)), (aR_told, .inl (cI, 8, .inl R_told)), (aR_sizes, .inl (cI, 8, .inl R_sizes)), (aR_isSeen, .inl (cZ, 32, .inl R_isSeen)), (aR_spreads, .inl (cI, 64, .inl R_spreads))] → va_S A s.heap H locs → ∀ ls : Array Slot, lv_has ls 7 [(0, .ref aR), (1, .int x1)] → W p l e rm_f_JoinOrderModel_measure s m args below meth c H locs 0 0 Q (F0 m 59 ls [.int z_31, .int x1, .ref aR_sizes]) := by
    intro z_31 hf H locs hP hD hS ls hl
    have hf := hk_30 _ hf
    refine x_iast hx hb hK hP hD hS 4 0 rfl rfl g_28 dX7_measure_59 (fun R_sizes_32 eR_sizes_32 H locs hP hD hS => ?_)
    have hf := nm_nm eR_sizes_32 hf
    have hP : va_P D vwCl [(aR, .inr (7, [.int R_triples, .ref aR_facts, .int R_patterns, .ref aR_cells, .ref aR_told, .ref aR_of, .ref aR_hints, .int R_filters, .ref aR_looks, .ref aR_kinds, .ref aR_values, .ref aR_isSafe, .ref aR_sizes, .ref aR_spreads, .ref aR_isSeen, .ref aR_estimates, .ref aR_rest, .int R_steps, .ref aR_order, .ref aR_joins, .ref aR_actsBehind, .ref aR_upTo, .int R_filtersThen, .ref aR_behind, .int R_rows, .ref aR_row, .ref aR_found, .int R_comes, .ref aR_next, .ref aR_nextFound, .int R_kept, .int R_hasRoom, .ref aR_keep, .ref aR_isTaken])), (aR_cells, .inl (cI, 24, .inl R_cells)), (aR_facts, .inl (cI, 240, .inl R_facts)), (aR_told, .inl (cI, 8, .inl R_told)), (aR_sizes, .inl (cI, 8, .inl R_sizes_32)), (aR_isSeen, .inl (cZ, 32, .inl R_isSeen)), (aR_spreads, .inl (cI, 64, .inl R_spreads))] H := hP
    have hD : va_D A [(aR, .inr (7, [.int R_triples, .ref aR_facts, .int R_patterns, .ref aR_cells, .ref aR_told, .ref aR_of, .ref aR_hints, .int R_filters, .ref aR_looks, .ref aR_kinds, .ref aR_values, .ref aR_isSafe, .ref aR_sizes, .ref aR_spreads, .ref aR_isSeen, .ref aR_estimates, .ref aR_rest, .int R_steps, .ref aR_order, .ref aR_joins, .ref aR_actsBehind, .ref aR_upTo, .int R_filtersThen, .ref aR_behind, .int R_rows, .ref aR_row, .ref aR_found, .int R_comes, .ref aR_next, .ref aR_nextFound, .int R_kept, .int R_hasRoom, .ref aR_keep, .ref aR_isTaken])), (aR_cells, .inl (cI, 24, .inl R_cells)), (aR_facts, .inl (cI, 240, .inl R_facts)), (aR_told, .inl (cI, 8, .inl R_told)), (aR_sizes, .inl (cI, 8, .inl R_sizes_32)), (aR_isSeen, .inl (cZ, 32, .inl R_isSeen)), (aR_spreads, .inl (cI, 64, .inl R_spreads))] := hD
    refine lv_iconst (v := (0 : Int32)) hx hb dX7_measure_60 (by decide) ?_
    refine lv_istore_n (lv' := [(3, .int (0 : Int32)), (0, .ref aR), (1, .int x1)]) hx hb dX7_measure_61 rfl hl (by decide) rfl (fun ls hl => ?_)
    have L_62_194 : ∀ (k : Nat) (R_isSeen_195 : Nat → Int32) (R_spreads_196 : Nat → Int32) (x3_197 : Int32) (o_194 : ((Nat → Int32) × (Nat → Int32))), f_JoinOrderModel_measure_L1 n x1 R_triples R_cells R_facts k R_isSeen_195 R_spreads_196 x3_197 = some o_194 → ∀ (H : Heap) (locs : List Loc), va_P D vwCl [(aR, .inr (7, [.int R_triples, .ref aR_facts, .int R_patterns, .ref aR_cells, .ref aR_told, .ref aR_of, .ref aR_hints, .int R_filters, .ref aR_looks, .ref aR_kinds, .ref aR_values, .ref aR_isSafe, .ref aR_sizes, .ref aR_spreads, .ref aR_isSeen, .ref aR_estimates, .ref aR_rest, .int R_steps, .ref aR_order, .ref aR_joins, .ref aR_actsBehind, .ref aR_upTo, .int R_filtersThen, .ref aR_behind, .int R_rows, .ref aR_row, .ref aR_found, .int R_comes, .ref aR_next, .ref aR_nextFound, .int R_kept, .int R_hasRoom, .ref aR_keep, .ref aR_isTaken])), (aR_cells, .inl (cI, 24, .inl R_cells)), (aR_facts, .inl (cI, 240, .inl R_facts)), (aR_told, .inl (cI, 8, .inl R_told)), (aR_sizes, .inl (cI, 8, .inl R_sizes_32)), (aR_isSeen, .inl (cZ, 32, .inl R_isSeen_195)), (aR_spreads, .inl (cI, 64, .inl R_spreads_196))] H → va_D A [(aR, .inr (7, [.int R_triples, .ref aR_facts, .int R_patterns, .ref aR_cells, .ref aR_told, .ref aR_of, .ref aR_hints, .int R_filters, .ref aR_looks, .ref aR_kinds, .ref aR_values, .ref aR_isSafe, .ref aR_sizes, .ref aR_spreads, .ref aR_isSeen, .ref aR_estimates, .ref aR_rest, .int R_steps, .ref aR_order, .ref aR_joins, .ref aR_actsBehind, .ref aR_upTo, .int R_filtersThen, .ref aR_behind, .int R_rows, .ref aR_row, .ref aR_found, .int R_comes, .ref aR_next, .ref aR_nextFound, .int R_kept, .int R_hasRoom, .ref aR_keep, .ref aR_isTaken])), (aR_cells, .inl (cI, 24, .inl R_cells)), (aR_facts, .inl (cI, 240, .inl R_facts)), (aR_told, .inl (cI, 8, .inl R_told)), (aR_sizes, .inl (cI, 8, .inl R_sizes_32)), (aR_isSeen, .inl (cZ, 32, .inl R_isSeen_195)), (aR_spreads, .inl (cI, 64, .inl R_spreads_196))] → va_S A s.heap H locs → ∀ ls : Array Slot, lv_has ls 7 [(0, .ref aR), (1, .int x1), (3, .int x3_197)] → (∀ (R_isSeen_198 : Nat → Int32) (R_spreads_199 : Nat → Int32), some ((R_isSeen_198, R_spreads_199)) = some o_194 → ∀ (H : Heap) (locs : List Loc), va_P D vwCl [(aR, .inr (7, [.int R_triples, .ref aR_facts, .int R_patterns, .ref aR_cells, .ref aR_told, .ref aR_of, .ref aR_hints, .int R_filters, .ref aR_looks, .ref aR_kinds, .ref aR_values, .ref aR_isSafe, .ref aR_sizes, .ref aR_spreads, .ref aR_isSeen, .ref aR_estimates, .ref aR_rest, .int R_steps, .ref aR_order, .ref aR_joins, .ref aR_actsBehind, .ref aR_upTo, .int R_filtersThen, .ref aR_behind, .int R_rows, .ref aR_row, .ref aR_found, .int R_comes, .ref aR_next, .ref aR_nextFound, .int R_kept, .int R_hasRoom, .ref aR_keep, .ref aR_isTaken])), (aR_cells, .inl (cI, 24, .inl R_cells)), (aR_facts, .inl (cI, 240, .inl R_facts)), (aR_told, .inl (cI, 8, .inl R_told)), (aR_sizes, .inl (cI, 8, .inl R_sizes_32)), (aR_isSeen, .inl (cZ, 32, .inl R_isSeen_198)), (aR_spreads, .inl (cI, 64, .inl R_spreads_199))] H → va_D A [(aR, .inr (7, [.int R_triples, .ref aR_facts, .int R_patterns, .ref aR_cells, .ref aR_told, .ref aR_of, .ref aR_hints, .int R_filters, .ref aR_looks, .ref aR_kinds, .ref aR_values, .ref aR_isSafe, .ref aR_sizes, .ref aR_spreads, .ref aR_isSeen, .ref aR_estimates, .ref aR_rest, .int R_steps, .ref aR_order, .ref aR_joins, .ref aR_actsBehind, .ref aR_upTo, .int R_filtersThen, .ref aR_behind, .int R_rows, .ref aR_row, .ref aR_found, .int R_comes, .ref aR_next, .ref aR_nextFound, .int R_kept, .int R_hasRoom, .ref aR_keep, .ref aR_isTaken])), (aR_cells, .inl (cI, 24, .inl R_cells)), (aR_facts, .inl (cI, 240, .inl R_facts)), (aR_told, .inl (cI, 8, .inl R_told)), (aR_sizes, .inl (cI, 8, .inl R_sizes_32)), (aR_isSeen, .inl (cZ, 32, .inl R_isSeen_198)), (aR_spreads, .inl (cI, 64, .inl R_spreads_199))] → va_S A s.heap H locs → ∀ ls : Array Slot, lv_has ls 7 [] → W p l e rm_f_JoinOrderModel_measure s m args below meth c H locs 0 0 Q (F0 m 216 ls [])) → W p l e rm_f_JoinOrderModel_measure s m args below meth c H locs 0 0 Q (F0 m 62 ls []) := by
      intro k
      induction k with
      | zero =>
        intro R_isSeen_195 R_spreads_196 x3_197 o_194 hf
        exact absurd (((f_JoinOrderModel_measure_L1_z n x1 R_triples R_cells R_facts R_isSeen_195 R_spreads_196 x3_197).symm.trans hf)) (fun h => by cases h)
      | succ k ih =>
        intro R_isSeen_195 R_spreads_196 x3_197 o_194 hf H locs hP hD hS ls hl hX_194
        have hf := (f_JoinOrderModel_measure_L1_s n x1 R_triples R_cells R_facts k R_isSeen_195 R_spreads_196 x3_197).symm.trans hf
        refine lv_iload_n hx hb dX7_measure_62 rfl (lv_at hl 2 rfl) ?_
        refine lv_bipush (v := (8 : Int32)) hx hb dX7_measure_63 (by decide) ?_
        refine lv_icmp_ge (tgt := 216) hx hb dX7_measure_65 (by decide) (fun c_200 => ?_) (fun c_200 => ?_)
        · have hf := xb_t c_200 hf
          exact hX_194 R_isSeen_195 R_spreads_196 hf _ _ hP hD hS _ (lv_sub hl [] rfl)
        · have hf := xb_f c_200 hf
          refine lv_aload_n hx hb dX7_measure_68 rfl (lv_at hl 0 rfl) ?_
          refine lv_iload_n hx hb dX7_measure_69 rfl (lv_at hl 1 rfl) ?_
          refine lv_iconst (v := (-1 : Int32)) hx hb dX7_measure_70 (by decide) ?_
          refine lv_iload_n hx hb dX7_measure_71 rfl (lv_at hl 2 rfl) ?_
          refine lv_isub hx hb dX7_measure_72 ?_
          obtain ⟨r_202, hq_201, hf⟩ := bn1_c hf
          refine x_i (xrV (As := [.int x1, .int ((-1 : Int32) - x3_197)]) (b := aR) (rest := []) ⟨hx, hb, hml, hown, htg⟩ (c_f_JoinOrderModel_placeOf l D cI cJ cZ _ n aR x1 ((-1 : Int32) - x3_197) R_triples aR_facts R_patterns aR_cells aR_told aR_of aR_hints R_filters aR_looks aR_kinds aR_values aR_isSafe aR_sizes aR_spreads aR_isSeen aR_estimates aR_rest R_steps aR_order aR_joins aR_actsBehind aR_upTo R_filtersThen aR_behind R_rows aR_row aR_found R_comes aR_next aR_nextFound R_kept R_hasRoom aR_keep aR_isTaken R_cells hq_201) kc_f_JoinOrderModel_placeOf kw_732 kw_734 kp_27 kw_8 dd_f_JoinOrderModel_placeOf ⟨Nat.le_of_ble_eq_true rfl, Nat.le_of_ble_eq_true rfl⟩ rfl rfl (hP.sub [0, 1] rfl) (hD.sub [0, 1] (by decide) rfl) hK hN hP (q0 := 0) rfl rfl rfl hl.1 rfl (Nat.le_of_ble_eq_true rfl) dX7_measure_73 ⟨Nat.le_of_ble_eq_true rfl, Nat.le_of_ble_eq_true rfl⟩) hP hD hS hA [0, 1] [2, 3, 4, 5, 6] rfl rfl (by decide) (by decide) (fun _ H locs hP hD hS => ?_)
          have hP : va_P D vwCl [(aR_facts, .inl (cI, 240, .inl R_facts)), (aR_told, .inl (cI, 8, .inl R_told)), (aR_sizes, .inl (cI, 8, .inl R_sizes_32)), (aR_isSeen, .inl (cZ, 32, .inl R_isSeen_195)), (aR_spreads, .inl (cI, 64, .inl R_spreads_196)), (aR, .inr (7, [.int R_triples, .ref aR_facts, .int R_patterns, .ref aR_cells, .ref aR_told, .ref aR_of, .ref aR_hints, .int R_filters, .ref aR_looks, .ref aR_kinds, .ref aR_values, .ref aR_isSafe, .ref aR_sizes, .ref aR_spreads, .ref aR_isSeen, .ref aR_estimates, .ref aR_rest, .int R_steps, .ref aR_order, .ref aR_joins, .ref aR_actsBehind, .ref aR_upTo, .int R_filtersThen, .ref aR_behind, .int R_rows, .ref aR_row, .ref aR_found, .int R_comes, .ref aR_next, .ref aR_nextFound, .int R_kept, .int R_hasRoom, .ref aR_keep, .ref aR_isTaken])), (aR_cells, .inl (cI, 24, .inl R_cells))] H := hP
          have hD : va_D A [(aR_facts, .inl (cI, 240, .inl R_facts)), (aR_told, .inl (cI, 8, .inl R_told)), (aR_sizes, .inl (cI, 8, .inl R_sizes_32)), (aR_isSeen, .inl (cZ, 32, .inl R_isSeen_195)), (aR_spreads, .inl (cI, 64, .inl R_spreads_196)), (aR, .inr (7, [.int R_triples, .ref aR_facts, .int R_patterns, .ref aR_cells, .ref aR_told, .ref aR_of, .ref aR_hints, .int R_filters, .ref aR_looks, .ref aR_kinds, .ref aR_values, .ref aR_isSafe, .ref aR_sizes, .ref aR_spreads, .ref aR_isSeen, .ref aR_estimates, .ref aR_rest, .int R_steps, .ref aR_order, .ref aR_joins, .ref aR_actsBehind, .ref aR_upTo, .int R_filtersThen, .ref aR_behind, .int R_rows, .ref aR_row, .ref aR_found, .int R_comes, .ref aR_next, .ref aR_nextFound, .int R_kept, .int R_hasRoom, .ref aR_keep, .ref aR_isTaken])), (aR_cells, .inl (cI, 24, .inl R_cells))] := hD
          refine lv_istore (lv' := [(4, .int r_202), (0, .ref aR), (1, .int x1), (3, .int x3_197)]) hx hb dX7_measure_76 hl (by decide) rfl (fun ls hl => ?_)
          refine lv_iconst (v := (0 : Int32)) hx hb dX7_measure_78 (by decide) ?_
          refine lv_istore (lv' := [(5, .int (0 : Int32)), (4, .int r_202), (0, .ref aR), (1, .int x1), (3, .int x3_197)]) hx hb dX7_measure_79 hl (by decide) rfl (fun ls hl => ?_)
          refine lv_iconst (v := (0 : Int32)) hx hb dX7_measure_81 (by decide) ?_
          refine lv_istore (lv' := [(6, .int (0 : Int32)), (5, .int (0 : Int32)), (4, .int r_202), (0, .ref aR), (1, .int x1), (3, .int x3_197)]) hx hb dX7_measure_82 hl (by decide) rfl (fun ls hl => ?_)
          have L_84_212 : ∀ (k : Nat) (R_isSeen_213 : Nat → Int32) (x6_214 : Int32) (o_212 : (Nat → Int32)), f_JoinOrderModel_measure_L2 n k R_isSeen_213 x6_214 = some o_212 → ∀ (H : Heap) (locs : List Loc), va_P D vwCl [(aR, .inr (7, [.int R_triples, .ref aR_facts, .int R_patterns, .ref aR_cells, .ref aR_told, .ref aR_of, .ref aR_hints, .int R_filters, .ref aR_looks, .ref aR_kinds, .ref aR_values, .ref aR_isSafe, .ref aR_sizes, .ref aR_spreads, .ref aR_isSeen, .ref aR_estimates, .ref aR_rest, .int R_steps, .ref aR_order, .ref aR_joins, .ref aR_actsBehind, .ref aR_upTo, .int R_filtersThen, .ref aR_behind, .int R_rows, .ref aR_row, .ref aR_found, .int R_comes, .ref aR_next, .ref aR_nextFound, .int R_kept, .int R_hasRoom, .ref aR_keep, .ref aR_isTaken])), (aR_cells, .inl (cI, 24, .inl R_cells)), (aR_facts, .inl (cI, 240, .inl R_facts)), (aR_told, .inl (cI, 8, .inl R_told)), (aR_sizes, .inl (cI, 8, .inl R_sizes_32)), (aR_isSeen, .inl (cZ, 32, .inl R_isSeen_213)), (aR_spreads, .inl (cI, 64, .inl R_spreads_196))] H → va_D A [(aR, .inr (7, [.int R_triples, .ref aR_facts, .int R_patterns, .ref aR_cells, .ref aR_told, .ref aR_of, .ref aR_hints, .int R_filters, .ref aR_looks, .ref aR_kinds, .ref aR_values, .ref aR_isSafe, .ref aR_sizes, .ref aR_spreads, .ref aR_isSeen, .ref aR_estimates, .ref aR_rest, .int R_steps, .ref aR_order, .ref aR_joins, .ref aR_actsBehind, .ref aR_upTo, .int R_filtersThen, .ref aR_behind, .int R_rows, .ref aR_row, .ref aR_found, .int R_comes, .ref aR_next, .ref aR_nextFound, .int R_kept, .int R_hasRoom, .ref aR_keep, .ref aR_isTaken])), (aR_cells, .inl (cI, 24, .inl R_cells)), (aR_facts, .inl (cI, 240, .inl R_facts)), (aR_told, .inl (cI, 8, .inl R_told)), (aR_sizes, .inl (cI, 8, .inl R_sizes_32)), (aR_isSeen, .inl (cZ, 32, .inl R_isSeen_213)), (aR_spreads, .inl (cI, 64, .inl R_spreads_196))] → va_S A s.heap H locs → ∀ ls : Array Slot, lv_has ls 7 [(0, .ref aR), (1, .int x1), (3, .int x3_197), (4, .int r_202), (5, .int (0 : Int32)), (6, .int x6_214)] → (∀ (R_isSeen_215 : Nat → Int32), some (R_isSeen_215) = some o_212 → ∀ (H : Heap) (locs : List Loc), va_P D vwCl [(aR, .inr (7, [.int R_triples, .ref aR_facts, .int R_patterns, .ref aR_cells, .ref aR_told, .ref aR_of, .ref aR_hints, .int R_filters, .ref aR_looks, .ref aR_kinds, .ref aR_values, .ref aR_isSafe, .ref aR_sizes, .ref aR_spreads, .ref aR_isSeen, .ref aR_estimates, .ref aR_rest, .int R_steps, .ref aR_order, .ref aR_joins, .ref aR_actsBehind, .ref aR_upTo, .int R_filtersThen, .ref aR_behind, .int R_rows, .ref aR_row, .ref aR_found, .int R_comes, .ref aR_next, .ref aR_nextFound, .int R_kept, .int R_hasRoom, .ref aR_keep, .ref aR_isTaken])), (aR_cells, .inl (cI, 24, .inl R_cells)), (aR_facts, .inl (cI, 240, .inl R_facts)), (aR_told, .inl (cI, 8, .inl R_told)), (aR_sizes, .inl (cI, 8, .inl R_sizes_32)), (aR_isSeen, .inl (cZ, 32, .inl R_isSeen_215)), (aR_spreads, .inl (cI, 64, .inl R_spreads_196))] H → va_D A [(aR, .inr (7, [.int R_triples, .ref aR_facts, .int R_patterns, .ref aR_cells, .ref aR_told, .ref aR_of, .ref aR_hints, .int R_filters, .ref aR_looks, .ref aR_kinds, .ref aR_values, .ref aR_isSafe, .ref aR_sizes, .ref aR_spreads, .ref aR_isSeen, .ref aR_estimates, .ref aR_rest, .int R_steps, .ref aR_order, .ref aR_joins, .ref aR_actsBehind, .ref aR_upTo, .int R_filtersThen, .ref aR_behind, .int R_rows, .ref aR_row, .ref aR_found, .int R_comes, .ref aR_next, .ref aR_nextFound, .int R_kept, .int R_hasRoom, .ref aR_keep, .ref aR_isTaken])), (aR_cells, .inl (cI, 24, .inl R_cells)), (aR_facts, .inl (cI, 240, .inl R_facts)), (aR_told, .inl (cI, 8, .inl R_told)), (aR_sizes, .inl (cI, 8, .inl R_sizes_32)), (aR_isSeen, .inl (cZ, 32, .inl R_isSeen_215)), (aR_spreads, .inl (cI, 64, .inl R_spreads_196))] → va_S A s.heap H locs → ∀ ls : Array Slot, lv_has ls 7 [(0, .ref aR), (1, .int x1), (3, .int x3_197), (4, .int r_202), (5, .int (0 : Int32))] → W p l e rm_f_JoinOrderModel_measure s m args below meth c H locs 0 0 Q (F0 m 105 ls [])) → W p l e rm_f_JoinOrderModel_measure s m args below meth c H locs 0 0 Q (F0 m 84 ls []) := by
            intro k
            induction k with
            | zero =>
              intro R_isSeen_213 x6_214 o_212 hf
              exact absurd (((f_JoinOrderModel_measure_L2_z n R_isSeen_213 x6_214).symm.trans hf)) (fun h => by cases h)
            | succ k ih =>
              intro R_isSeen_213 x6_214 o_212 hf H locs hP hD hS ls hl hX_212
              have hf := (f_JoinOrderModel_measure_L2_s n k R_isSeen_213 x6_214).symm.trans hf
              refine lv_iload hx hb dX7_measure_84 (lv_at hl 5 rfl) ?_
              refine lv_bipush (v := (32 : Int32)) hx hb dX7_measure_86 (by decide) ?_
              refine lv_icmp_ge (tgt := 105) hx hb dX7_measure_88 (by decide) (fun c_216 => ?_) (fun c_216 => ?_)
              · have hf := xb_t c_216 hf
                exact hX_212 R_isSeen_213 hf _ _ hP hD hS _ (lv_sub hl [0, 1, 2, 3, 4] rfl)
              · have hf := xb_f c_216 hf
                refine lv_aload_n hx hb dX7_measure_91 rfl (lv_at hl 0 rfl) ?_
                refine va_get (D := D) (ci := 7) (v := .ref aR_isSeen) (C := RX7) (T := TX7) (N := 34) hx hb htg giX7 hown hK hP 0 rfl rfl 14 (by decide) (htg _ kw_577) (fun _ h9 => h9) rfl dX7_measure_92 ?_
                refine lv_iload hx hb dX7_measure_95 (lv_at hl 5 rfl) ?_
                refine lv_iconst (v := (0 : Int32)) hx hb dX7_measure_97 (by decide) ?_
                have g_217 : vp_in x6_214 32 := gd_in hf
                have hf := gd_el hf
                refine x_zast hx hb hK hP hD hS 5 2 rfl rfl g_217 dX7_measure_98 (fun R_isSeen_218 eR_isSeen_218 H locs hP hD hS => ?_)
                have hf := nm_nm eR_isSeen_218 hf
                have hP : va_P D vwCl [(aR, .inr (7, [.int R_triples, .ref aR_facts, .int R_patterns, .ref aR_cells, .ref aR_told, .ref aR_of, .ref aR_hints, .int R_filters, .ref aR_looks, .ref aR_kinds, .ref aR_values, .ref aR_isSafe, .ref aR_sizes, .ref aR_spreads, .ref aR_isSeen, .ref aR_estimates, .ref aR_rest, .int R_steps, .ref aR_order, .ref aR_joins, .ref aR_actsBehind, .ref aR_upTo, .int R_filtersThen, .ref aR_behind, .int R_rows, .ref aR_row, .ref aR_found, .int R_comes, .ref aR_next, .ref aR_nextFound, .int R_kept, .int R_hasRoom, .ref aR_keep, .ref aR_isTaken])), (aR_cells, .inl (cI, 24, .inl R_cells)), (aR_facts, .inl (cI, 240, .inl R_facts)), (aR_told, .inl (cI, 8, .inl R_told)), (aR_sizes, .inl (cI, 8, .inl R_sizes_32)), (aR_isSeen, .inl (cZ, 32, .inl R_isSeen_218)), (aR_spreads, .inl (cI, 64, .inl R_spreads_196))] H := hP
                have hD : va_D A [(aR, .inr (7, [.int R_triples, .ref aR_facts, .int R_patterns, .ref aR_cells, .ref aR_told, .ref aR_of, .ref aR_hints, .int R_filters, .ref aR_looks, .ref aR_kinds, .ref aR_values, .ref aR_isSafe, .ref aR_sizes, .ref aR_spreads, .ref aR_isSeen, .ref aR_estimates, .ref aR_rest, .int R_steps, .ref aR_order, .ref aR_joins, .ref aR_actsBehind, .ref aR_upTo, .int R_filtersThen, .ref aR_behind, .int R_rows, .ref aR_row, .ref aR_found, .int R_comes, .ref aR_next, .ref aR_nextFound, .int R_kept, .int R_hasRoom, .ref aR_keep, .ref aR_isTaken])), (aR_cells, .inl (cI, 24, .inl R_cells)), (aR_facts, .inl (cI, 240, .inl R_facts)), (aR_told, .inl (cI, 8, .inl R_told)), (aR_sizes, .inl (cI, 8, .inl R_sizes_32)), (aR_isSeen, .inl (cZ, 32, .inl R_isSeen_218)), (aR_spreads, .inl (cI, 64, .inl R_spreads_196))] := hD
                obtain ⟨x6_219, ex6_219⟩ : ∃ y : Int32, y = x6_214 + (1 : Int32) := ⟨_, rfl⟩
                have hf := nm_nm ex6_219 hf
                refine lv_iinc (v := x6_219) (lv' := [(6, .int x6_219), (0, .ref aR), (1, .int x1), (3, .int x3_197), (4, .int r_202), (5, .int (0 : Int32))]) hx hb dX7_measure_99 hl (k := 5) rfl (by rw [ex6_219]; rfl) (by decide) rfl (fun ls hl => ?_)
                refine lv_goto (tgt := 84) hx hb dX7_measure_102 (by decide) ?_
                exact ih R_isSeen_218 x6_219 o_212 hf _ _ hP hD hS _ (lv_sub hl [1, 2, 3, 4, 5, 0] rfl) hX_212
          obtain ⟨o_212, ho_212, hk_212⟩ := bn1_s hf
          refine L_84_212 n R_isSeen_195 (0 : Int32) o_212 ho_212 _ _ (hP.sub [5, 6, 0, 1, 2, 3, 4] rfl) (hD.sub [5, 6, 0, 1, 2, 3, 4] (by decide) rfl) hS _ (lv_sub hl [3, 4, 5, 2, 1, 0] rfl) (fun R_isSeen_215 hf H locs hP hD hS ls hl => ?_)
          have hf := hk_212 _ hf
          refine lv_iconst (v := (0 : Int32)) hx hb dX7_measure_105 (by decide) ?_
          refine lv_istore (lv' := [(6, .int (0 : Int32)), (0, .ref aR), (1, .int x1), (3, .int x3_197), (4, .int r_202), (5, .int (0 : Int32))]) hx hb dX7_measure_106 hl (by decide) rfl (fun ls hl => ?_)
          have L_108_249 : ∀ (k : Nat) (R_isSeen_250 : Nat → Int32) (x5_251 : Int32) (x6_252 : Int32) (o_249 : ((Nat → Int32) × Int32)), f_JoinOrderModel_measure_L3 n x1 R_triples R_cells R_facts r_202 k R_isSeen_250 x5_251 x6_252 = some o_249 → ∀ (H : Heap) (locs : List Loc), va_P D vwCl [(aR, .inr (7, [.int R_triples, .ref aR_facts, .int R_patterns, .ref aR_cells, .ref aR_told, .ref aR_of, .ref aR_hints, .int R_filters, .ref aR_looks, .ref aR_kinds, .ref aR_values, .ref aR_isSafe, .ref aR_sizes, .ref aR_spreads, .ref aR_isSeen, .ref aR_estimates, .ref aR_rest, .int R_steps, .ref aR_order, .ref aR_joins, .ref aR_actsBehind, .ref aR_upTo, .int R_filtersThen, .ref aR_behind, .int R_rows, .ref aR_row, .ref aR_found, .int R_comes, .ref aR_next, .ref aR_nextFound, .int R_kept, .int R_hasRoom, .ref aR_keep, .ref aR_isTaken])), (aR_cells, .inl (cI, 24, .inl R_cells)), (aR_facts, .inl (cI, 240, .inl R_facts)), (aR_told, .inl (cI, 8, .inl R_told)), (aR_sizes, .inl (cI, 8, .inl R_sizes_32)), (aR_isSeen, .inl (cZ, 32, .inl R_isSeen_250)), (aR_spreads, .inl (cI, 64, .inl R_spreads_196))] H → va_D A [(aR, .inr (7, [.int R_triples, .ref aR_facts, .int R_patterns, .ref aR_cells, .ref aR_told, .ref aR_of, .ref aR_hints, .int R_filters, .ref aR_looks, .ref aR_kinds, .ref aR_values, .ref aR_isSafe, .ref aR_sizes, .ref aR_spreads, .ref aR_isSeen, .ref aR_estimates, .ref aR_rest, .int R_steps, .ref aR_order, .ref aR_joins, .ref aR_actsBehind, .ref aR_upTo, .int R_filtersThen, .ref aR_behind, .int R_rows, .ref aR_row, .ref aR_found, .int R_comes, .ref aR_next, .ref aR_nextFound, .int R_kept, .int R_hasRoom, .ref aR_keep, .ref aR_isTaken])), (aR_cells, .inl (cI, 24, .inl R_cells)), (aR_facts, .inl (cI, 240, .inl R_facts)), (aR_told, .inl (cI, 8, .inl R_told)), (aR_sizes, .inl (cI, 8, .inl R_sizes_32)), (aR_isSeen, .inl (cZ, 32, .inl R_isSeen_250)), (aR_spreads, .inl (cI, 64, .inl R_spreads_196))] → va_S A s.heap H locs → ∀ ls : Array Slot, lv_has ls 7 [(0, .ref aR), (1, .int x1), (3, .int x3_197), (4, .int r_202), (5, .int x5_251), (6, .int x6_252)] → (∀ (R_isSeen_253 : Nat → Int32) (x5_254 : Int32), some ((R_isSeen_253, x5_254)) = some o_249 → ∀ (H : Heap) (locs : List Loc), va_P D vwCl [(aR, .inr (7, [.int R_triples, .ref aR_facts, .int R_patterns, .ref aR_cells, .ref aR_told, .ref aR_of, .ref aR_hints, .int R_filters, .ref aR_looks, .ref aR_kinds, .ref aR_values, .ref aR_isSafe, .ref aR_sizes, .ref aR_spreads, .ref aR_isSeen, .ref aR_estimates, .ref aR_rest, .int R_steps, .ref aR_order, .ref aR_joins, .ref aR_actsBehind, .ref aR_upTo, .int R_filtersThen, .ref aR_behind, .int R_rows, .ref aR_row, .ref aR_found, .int R_comes, .ref aR_next, .ref aR_nextFound, .int R_kept, .int R_hasRoom, .ref aR_keep, .ref aR_isTaken])), (aR_cells, .inl (cI, 24, .inl R_cells)), (aR_facts, .inl (cI, 240, .inl R_facts)), (aR_told, .inl (cI, 8, .inl R_told)), (aR_sizes, .inl (cI, 8, .inl R_sizes_32)), (aR_isSeen, .inl (cZ, 32, .inl R_isSeen_253)), (aR_spreads, .inl (cI, 64, .inl R_spreads_196))] H → va_D A [(aR, .inr (7, [.int R_triples, .ref aR_facts, .int R_patterns, .ref aR_cells, .ref aR_told, .ref aR_of, .ref aR_hints, .int R_filters, .ref aR_looks, .ref aR_kinds, .ref aR_values, .ref aR_isSafe, .ref aR_sizes, .ref aR_spreads, .ref aR_isSeen, .ref aR_estimates, .ref aR_rest, .int R_steps, .ref aR_order, .ref aR_joins, .ref aR_actsBehind, .ref aR_upTo, .int R_filtersThen, .ref aR_behind, .int R_rows, .ref aR_row, .ref aR_found, .int R_comes, .ref aR_next, .ref aR_nextFound, .int R_kept, .int R_hasRoom, .ref aR_keep, .ref aR_isTaken])), (aR_cells, .inl (cI, 24, .inl R_cells)), (aR_facts, .inl (cI, 240, .inl R_facts)), (aR_told, .inl (cI, 8, .inl R_told)), (aR_sizes, .inl (cI, 8, .inl R_sizes_32)), (aR_isSeen, .inl (cZ, 32, .inl R_isSeen_253)), (aR_spreads, .inl (cI, 64, .inl R_spreads_196))] → va_S A s.heap H locs → ∀ ls : Array Slot, lv_has ls 7 [(0, .ref aR), (1, .int x1), (3, .int x3_197), (4, .int r_202), (5, .int x5_254)] → W p l e rm_f_JoinOrderModel_measure s m args below meth c H locs 0 0 Q (F0 m 179 ls [])) → W p l e rm_f_JoinOrderModel_measure s m args below meth c H locs 0 0 Q (F0 m 108 ls []) := by
            intro k
            induction k with
            | zero =>
              intro R_isSeen_250 x5_251 x6_252 o_249 hf
              exact absurd (((f_JoinOrderModel_measure_L3_z n x1 R_triples R_cells R_facts r_202 R_isSeen_250 x5_251 x6_252).symm.trans hf)) (fun h => by cases h)
            | succ k ih =>
              intro R_isSeen_250 x5_251 x6_252 o_249 hf H locs hP hD hS ls hl hX_249
              have hf := (f_JoinOrderModel_measure_L3_s n x1 R_triples R_cells R_facts r_202 k R_isSeen_250 x5_251 x6_252).symm.trans hf
              refine lv_iload hx hb dX7_measure_108 (lv_at hl 5 rfl) ?_
              refine lv_aload_n hx hb dX7_measure_110 rfl (lv_at hl 0 rfl) ?_
              refine va_get (D := D) (ci := 7) (v := .int R_triples) (C := RX7) (T := TX7) (N := 34) hx hb htg giX7 hown hK hP 0 rfl rfl 0 (by decide) (htg _ kw_563) (fun _ h9 => h9) rfl dX7_measure_111 ?_
              refine lv_icmp_ge (tgt := 179) hx hb dX7_measure_114 (by decide) (fun c_255 => ?_) (fun c_255 => ?_)
              · have hf := xb_t c_255 hf
                exact hX_249 R_isSeen_250 x5_251 hf _ _ hP hD hS _ (lv_sub hl [0, 1, 2, 3, 4] rfl)
              · have hf := xb_f c_255 hf
                refine lv_iload hx hb dX7_measure_117 (lv_at hl 3 rfl) ?_
                refine lv_if_lt (tgt := 179) hx hb dX7_measure_119 (by decide) (fun c_256 => ?_) (fun c_256 => ?_)
                · have hf := xb_t c_256 hf
                  exact hX_249 R_isSeen_250 x5_251 hf _ _ hP hD hS _ (lv_sub hl [0, 1, 2, 3, 4] rfl)
                · have hf := xb_f c_256 hf
                  refine lv_aload_n hx hb dX7_measure_122 rfl (lv_at hl 0 rfl) ?_
                  refine lv_iload_n hx hb dX7_measure_123 rfl (lv_at hl 1 rfl) ?_
                  refine lv_iload hx hb dX7_measure_124 (lv_at hl 5 rfl) ?_
                  obtain ⟨r_258, hq_257, hf⟩ := bn1_c hf
                  refine x_z (xrV (As := [.int x1, .int x6_252]) (b := aR) (rest := []) ⟨hx, hb, hml, hown, htg⟩ (c_f_JoinOrderModel_matches l D cI cJ cZ _ n aR x1 x6_252 R_triples aR_facts R_patterns aR_cells aR_told aR_of aR_hints R_filters aR_looks aR_kinds aR_values aR_isSafe aR_sizes aR_spreads aR_isSeen aR_estimates aR_rest R_steps aR_order aR_joins aR_actsBehind aR_upTo R_filtersThen aR_behind R_rows aR_row aR_found R_comes aR_next aR_nextFound R_kept R_hasRoom aR_keep aR_isTaken R_cells R_facts hq_257) kc_f_JoinOrderModel_matches kw_728 kw_730 kp_26 kw_8 dd_f_JoinOrderModel_matches ⟨Nat.le_of_ble_eq_true rfl, Nat.le_of_ble_eq_true rfl⟩ rfl rfl (hP.sub [0, 1, 2] rfl) (hD.sub [0, 1, 2] (by decide) rfl) hK hN hP (q0 := 0) rfl rfl rfl hl.1 rfl (Nat.le_of_ble_eq_true rfl) dX7_measure_126 ⟨Nat.le_of_ble_eq_true rfl, Nat.le_of_ble_eq_true rfl⟩) hP hD hS hA [0, 1, 2] [3, 4, 5, 6] rfl rfl (by decide) (by decide) (fun _ H locs bz_257 hP hD hS => ?_)
                  have hP : va_P D vwCl [(aR_told, .inl (cI, 8, .inl R_told)), (aR_sizes, .inl (cI, 8, .inl R_sizes_32)), (aR_isSeen, .inl (cZ, 32, .inl R_isSeen_250)), (aR_spreads, .inl (cI, 64, .inl R_spreads_196)), (aR, .inr (7, [.int R_triples, .ref aR_facts, .int R_patterns, .ref aR_cells, .ref aR_told, .ref aR_of, .ref aR_hints, .int R_filters, .ref aR_looks, .ref aR_kinds, .ref aR_values, .ref aR_isSafe, .ref aR_sizes, .ref aR_spreads, .ref aR_isSeen, .ref aR_estimates, .ref aR_rest, .int R_steps, .ref aR_order, .ref aR_joins, .ref aR_actsBehind, .ref aR_upTo, .int R_filtersThen, .ref aR_behind, .int R_rows, .ref aR_row, .ref aR_found, .int R_comes, .ref aR_next, .ref aR_nextFound, .int R_kept, .int R_hasRoom, .ref aR_keep, .ref aR_isTaken])), (aR_cells, .inl (cI, 24, .inl R_cells)), (aR_facts, .inl (cI, 240, .inl R_facts))] H := hP
                  have hD : va_D A [(aR_told, .inl (cI, 8, .inl R_told)), (aR_sizes, .inl (cI, 8, .inl R_sizes_32)), (aR_isSeen, .inl (cZ, 32, .inl R_isSeen_250)), (aR_spreads, .inl (cI, 64, .inl R_spreads_196)), (aR, .inr (7, [.int R_triples, .ref aR_facts, .int R_patterns, .ref aR_cells, .ref aR_told, .ref aR_of, .ref aR_hints, .int R_filters, .ref aR_looks, .ref aR_kinds, .ref aR_values, .ref aR_isSafe, .ref aR_sizes, .ref aR_spreads, .ref aR_isSeen, .ref aR_estimates, .ref aR_rest, .int R_steps, .ref aR_order, .ref aR_joins, .ref aR_actsBehind, .ref aR_upTo, .int R_filtersThen, .ref aR_behind, .int R_rows, .ref aR_row, .ref aR_found, .int R_comes, .ref aR_next, .ref aR_nextFound, .int R_kept, .int R_hasRoom, .ref aR_keep, .ref aR_isTaken])), (aR_cells, .inl (cI, 24, .inl R_cells)), (aR_facts, .inl (cI, 240, .inl R_facts))] := hD
                  refine lv_if_eq (tgt := 173) hx hb dX7_measure_129 (by decide) (fun c_259 => ?_) (fun c_259 => ?_)
                  · have hf := xb_t c_259 hf
                    obtain ⟨x6_260, ex6_260⟩ : ∃ y : Int32, y = x6_252 + (1 : Int32) := ⟨_, rfl⟩
                    have hf := nm_nm ex6_260 hf
                    refine lv_iinc (v := x6_260) (lv' := [(6, .int x6_260), (0, .ref aR), (1, .int x1), (3, .int x3_197), (4, .int r_202), (5, .int x5_251)]) hx hb dX7_measure_173 hl (k := 5) rfl (by rw [ex6_260]; rfl) (by decide) rfl (fun ls hl => ?_)
                    refine lv_goto (tgt := 108) hx hb dX7_measure_176 (by decide) ?_
                    exact ih R_isSeen_250 x5_251 x6_260 o_249 hf _ _ (hP.sub [4, 5, 6, 0, 1, 2, 3] rfl) (hD.sub [4, 5, 6, 0, 1, 2, 3] (by decide) rfl) hS _ (lv_sub hl [1, 2, 3, 4, 5, 0] rfl) hX_249
                  · have hf := xb_f c_259 hf
                    refine lv_aload_n hx hb dX7_measure_132 rfl (lv_at hl 0 rfl) ?_
                    refine va_get (D := D) (ci := 7) (v := .ref aR_isSeen) (C := RX7) (T := TX7) (N := 34) hx hb htg giX7 hown hK hP 4 rfl rfl 14 (by decide) (htg _ kw_577) (fun _ h9 => h9) rfl dX7_measure_133 ?_
                    refine lv_aload_n hx hb dX7_measure_136 rfl (lv_at hl 0 rfl) ?_
                    refine va_get (D := D) (ci := 7) (v := .ref aR_facts) (C := RX7) (T := TX7) (N := 34) hx hb htg giX7 hown hK hP 4 rfl rfl 1 (by decide) (htg _ kw_564) (fun _ h9 => h9) rfl dX7_measure_137 ?_
                    refine lv_iconst (v := (3 : Int32)) hx hb dX7_measure_140 (by decide) ?_
                    refine lv_iload hx hb dX7_measure_141 (lv_at hl 5 rfl) ?_
                    refine lv_imul hx hb dX7_measure_143 ?_
                    refine lv_iload hx hb dX7_measure_144 (lv_at hl 3 rfl) ?_
                    refine lv_iadd hx hb dX7_measure_146 ?_
                    have g_261 : vp_in (((3 : Int32) * x6_252) + r_202) 240 := gd_in hf
                    have hf := gd_el hf
                    refine va_iald hx hb hK hP 6 0 rfl rfl g_261 dX7_measure_147 ?_
                    have g_262 : vp_in (R_facts (((3 : Int32) * x6_252) + r_202).toNatClampNeg) 32 := gd_in hf
                    have hf := gd_el hf
                    refine va_zald hx hb hK hP 2 2 rfl rfl g_262 dX7_measure_148 ?_
                    refine lv_if_ne (tgt := 173) hx hb dX7_measure_149 (by decide) (fun c_263 => ?_) (fun c_263 => ?_)
                    · have hf := xb_f c_263 hf
                      obtain ⟨x6_264, ex6_264⟩ : ∃ y : Int32, y = x6_252 + (1 : Int32) := ⟨_, rfl⟩
                      have hf := nm_nm ex6_264 hf
                      refine lv_iinc (v := x6_264) (lv' := [(6, .int x6_264), (0, .ref aR), (1, .int x1), (3, .int x3_197), (4, .int r_202), (5, .int x5_251)]) hx hb dX7_measure_173 hl (k := 5) rfl (by rw [ex6_264]; rfl) (by decide) rfl (fun ls hl => ?_)
                      refine lv_goto (tgt := 108) hx hb dX7_measure_176 (by decide) ?_
                      exact ih R_isSeen_250 x5_251 x6_264 o_249 hf _ _ (hP.sub [4, 5, 6, 0, 1, 2, 3] rfl) (hD.sub [4, 5, 6, 0, 1, 2, 3] (by decide) rfl) hS _ (lv_sub hl [1, 2, 3, 4, 5, 0] rfl) hX_249
                    · have hf := xb_t c_263 hf
                      refine lv_aload_n hx hb dX7_measure_152 rfl (lv_at hl 0 rfl) ?_
                      refine va_get (D := D) (ci := 7) (v := .ref aR_isSeen) (C := RX7) (T := TX7) (N := 34) hx hb htg giX7 hown hK hP 4 rfl rfl 14 (by decide) (htg _ kw_577) (fun _ h9 => h9) rfl dX7_measure_153 ?_
                      refine lv_aload_n hx hb dX7_measure_156 rfl (lv_at hl 0 rfl) ?_
                      refine va_get (D := D) (ci := 7) (v := .ref aR_facts) (C := RX7) (T := TX7) (N := 34) hx hb htg giX7 hown hK hP 4 rfl rfl 1 (by decide) (htg _ kw_564) (fun _ h9 => h9) rfl dX7_measure_157 ?_
                      refine lv_iconst (v := (3 : Int32)) hx hb dX7_measure_160 (by decide) ?_
                      refine lv_iload hx hb dX7_measure_161 (lv_at hl 5 rfl) ?_
                      refine lv_imul hx hb dX7_measure_163 ?_
                      refine lv_iload hx hb dX7_measure_164 (lv_at hl 3 rfl) ?_
                      refine lv_iadd hx hb dX7_measure_166 ?_
                      refine va_iald hx hb hK hP 6 0 rfl rfl g_261 dX7_measure_167 ?_
                      refine lv_iconst (v := (1 : Int32)) hx hb dX7_measure_168 (by decide) ?_
                      refine x_zast hx hb hK hP hD hS 2 2 rfl rfl g_262 dX7_measure_169 (fun R_isSeen_265 eR_isSeen_265 H locs hP hD hS => ?_)
                      have hf := nm_nm eR_isSeen_265 hf
                      have hP : va_P D vwCl [(aR_told, .inl (cI, 8, .inl R_told)), (aR_sizes, .inl (cI, 8, .inl R_sizes_32)), (aR_isSeen, .inl (cZ, 32, .inl R_isSeen_265)), (aR_spreads, .inl (cI, 64, .inl R_spreads_196)), (aR, .inr (7, [.int R_triples, .ref aR_facts, .int R_patterns, .ref aR_cells, .ref aR_told, .ref aR_of, .ref aR_hints, .int R_filters, .ref aR_looks, .ref aR_kinds, .ref aR_values, .ref aR_isSafe, .ref aR_sizes, .ref aR_spreads, .ref aR_isSeen, .ref aR_estimates, .ref aR_rest, .int R_steps, .ref aR_order, .ref aR_joins, .ref aR_actsBehind, .ref aR_upTo, .int R_filtersThen, .ref aR_behind, .int R_rows, .ref aR_row, .ref aR_found, .int R_comes, .ref aR_next, .ref aR_nextFound, .int R_kept, .int R_hasRoom, .ref aR_keep, .ref aR_isTaken])), (aR_cells, .inl (cI, 24, .inl R_cells)), (aR_facts, .inl (cI, 240, .inl R_facts))] H := hP
                      have hD : va_D A [(aR_told, .inl (cI, 8, .inl R_told)), (aR_sizes, .inl (cI, 8, .inl R_sizes_32)), (aR_isSeen, .inl (cZ, 32, .inl R_isSeen_265)), (aR_spreads, .inl (cI, 64, .inl R_spreads_196)), (aR, .inr (7, [.int R_triples, .ref aR_facts, .int R_patterns, .ref aR_cells, .ref aR_told, .ref aR_of, .ref aR_hints, .int R_filters, .ref aR_looks, .ref aR_kinds, .ref aR_values, .ref aR_isSafe, .ref aR_sizes, .ref aR_spreads, .ref aR_isSeen, .ref aR_estimates, .ref aR_rest, .int R_steps, .ref aR_order, .ref aR_joins, .ref aR_actsBehind, .ref aR_upTo, .int R_filtersThen, .ref aR_behind, .int R_rows, .ref aR_row, .ref aR_found, .int R_comes, .ref aR_next, .ref aR_nextFound, .int R_kept, .int R_hasRoom, .ref aR_keep, .ref aR_isTaken])), (aR_cells, .inl (cI, 24, .inl R_cells)), (aR_facts, .inl (cI, 240, .inl R_facts))] := hD
                      obtain ⟨x5_266, ex5_266⟩ : ∃ y : Int32, y = x5_251 + (1 : Int32) := ⟨_, rfl⟩
                      have hf := nm_nm ex5_266 hf
                      refine lv_iinc (v := x5_266) (lv' := [(5, .int x5_266), (0, .ref aR), (1, .int x1), (3, .int x3_197), (4, .int r_202), (6, .int x6_252)]) hx hb dX7_measure_170 hl (k := 4) rfl (by rw [ex5_266]; rfl) (by decide) rfl (fun ls hl => ?_)
                      obtain ⟨x6_267, ex6_267⟩ : ∃ y : Int32, y = x6_252 + (1 : Int32) := ⟨_, rfl⟩
                      have hf := nm_nm ex6_267 hf
                      refine lv_iinc (v := x6_267) (lv' := [(6, .int x6_267), (5, .int x5_266), (0, .ref aR), (1, .int x1), (3, .int x3_197), (4, .int r_202)]) hx hb dX7_measure_173 hl (k := 5) rfl (by rw [ex6_267]; rfl) (by decide) rfl (fun ls hl => ?_)
                      refine lv_goto (tgt := 108) hx hb dX7_measure_176 (by decide) ?_
                      exact ih R_isSeen_265 x5_266 x6_267 o_249 hf _ _ (hP.sub [4, 5, 6, 0, 1, 2, 3] rfl) (hD.sub [4, 5, 6, 0, 1, 2, 3] (by decide) rfl) hS _ (lv_sub hl [2, 3, 4, 5, 1, 0] rfl) hX_249
          obtain ⟨o_249, ho_249, hk_249⟩ := bn2_s hf
          refine L_108_249 n R_isSeen_215 (0 : Int32) (0 : Int32) o_249 ho_249 _ _ hP hD hS _ (lv_sub hl [1, 2, 3, 4, 5, 0] rfl) (fun R_isSeen_253 x5_254 hf H locs hP hD hS ls hl => ?_)
          have hf := hk_249 _ _ hf
          refine lv_aload_n hx hb dX7_measure_179 rfl (lv_at hl 0 rfl) ?_
          refine va_get (D := D) (ci := 7) (v := .ref aR_spreads) (C := RX7) (T := TX7) (N := 34) hx hb htg giX7 hown hK hP 0 rfl rfl 13 (by decide) (htg _ kw_576) (fun _ h9 => h9) rfl dX7_measure_180 ?_
          refine lv_bipush (v := (8 : Int32)) hx hb dX7_measure_183 (by decide) ?_
          refine lv_iload_n hx hb dX7_measure_185 rfl (lv_at hl 1 rfl) ?_
          refine lv_imul hx hb dX7_measure_186 ?_
          refine lv_iload_n hx hb dX7_measure_187 rfl (lv_at hl 2 rfl) ?_
          refine lv_iadd hx hb dX7_measure_188 ?_
          refine lv_iload hx hb dX7_measure_189 (lv_at hl 3 rfl) ?_
          refine lv_if_ge (tgt := 198) hx hb dX7_measure_191 (by decide) (fun c_268 => ?_) (fun c_268 => ?_)
          · have hf := xb_t c_268 hf
            refine lv_iload hx hb dX7_measure_198 (lv_at hl 4 rfl) ?_
            refine lv_if_le (tgt := 208) hx hb dX7_measure_200 (by decide) (fun c_269 => ?_) (fun c_269 => ?_)
            · have hf := xb_t c_269 hf
              refine lv_iconst (v := (1 : Int32)) hx hb dX7_measure_208 (by decide) ?_
              have g_270 : vp_in (((8 : Int32) * x1) + x3_197) 64 := gd_in hf
              have hf := gd_el hf
              refine x_iast hx hb hK hP hD hS 6 0 rfl rfl g_270 dX7_measure_209 (fun R_spreads_271 eR_spreads_271 H locs hP hD hS => ?_)
              have hf := nm_nm eR_spreads_271 hf
              have hP : va_P D vwCl [(aR, .inr (7, [.int R_triples, .ref aR_facts, .int R_patterns, .ref aR_cells, .ref aR_told, .ref aR_of, .ref aR_hints, .int R_filters, .ref aR_looks, .ref aR_kinds, .ref aR_values, .ref aR_isSafe, .ref aR_sizes, .ref aR_spreads, .ref aR_isSeen, .ref aR_estimates, .ref aR_rest, .int R_steps, .ref aR_order, .ref aR_joins, .ref aR_actsBehind, .ref aR_upTo, .int R_filtersThen, .ref aR_behind, .int R_rows, .ref aR_row, .ref aR_found, .int R_comes, .ref aR_next, .ref aR_nextFound, .int R_kept, .int R_hasRoom, .ref aR_keep, .ref aR_isTaken])), (aR_cells, .inl (cI, 24, .inl R_cells)), (aR_facts, .inl (cI, 240, .inl R_facts)), (aR_told, .inl (cI, 8, .inl R_told)), (aR_sizes, .inl (cI, 8, .inl R_sizes_32)), (aR_isSeen, .inl (cZ, 32, .inl R_isSeen_253)), (aR_spreads, .inl (cI, 64, .inl R_spreads_271))] H := hP
              have hD : va_D A [(aR, .inr (7, [.int R_triples, .ref aR_facts, .int R_patterns, .ref aR_cells, .ref aR_told, .ref aR_of, .ref aR_hints, .int R_filters, .ref aR_looks, .ref aR_kinds, .ref aR_values, .ref aR_isSafe, .ref aR_sizes, .ref aR_spreads, .ref aR_isSeen, .ref aR_estimates, .ref aR_rest, .int R_steps, .ref aR_order, .ref aR_joins, .ref aR_actsBehind, .ref aR_upTo, .int R_filtersThen, .ref aR_behind, .int R_rows, .ref aR_row, .ref aR_found, .int R_comes, .ref aR_next, .ref aR_nextFound, .int R_kept, .int R_hasRoom, .ref aR_keep, .ref aR_isTaken])), (aR_cells, .inl (cI, 24, .inl R_cells)), (aR_facts, .inl (cI, 240, .inl R_facts)), (aR_told, .inl (cI, 8, .inl R_told)), (aR_sizes, .inl (cI, 8, .inl R_sizes_32)), (aR_isSeen, .inl (cZ, 32, .inl R_isSeen_253)), (aR_spreads, .inl (cI, 64, .inl R_spreads_271))] := hD
              obtain ⟨x3_272, ex3_272⟩ : ∃ y : Int32, y = x3_197 + (1 : Int32) := ⟨_, rfl⟩
              have hf := nm_nm ex3_272 hf
              refine lv_iinc (v := x3_272) (lv' := [(3, .int x3_272), (0, .ref aR), (1, .int x1), (4, .int r_202), (5, .int x5_254)]) hx hb dX7_measure_210 hl (k := 2) rfl (by rw [ex3_272]; rfl) (by decide) rfl (fun ls hl => ?_)
              refine lv_goto (tgt := 62) hx hb dX7_measure_213 (by decide) ?_
              exact ih R_isSeen_253 R_spreads_271 x3_272 o_194 hf _ _ hP hD hS _ (lv_sub hl [1, 2, 0] rfl) hX_194
            · have hf := xb_f c_269 hf
              refine lv_iload hx hb dX7_measure_203 (lv_at hl 4 rfl) ?_
              refine lv_goto (tgt := 209) hx hb dX7_measure_205 (by decide) ?_
              have g_273 : vp_in (((8 : Int32) * x1) + x3_197) 64 := gd_in hf
              have hf := gd_el hf
              refine x_iast hx hb hK hP hD hS 6 0 rfl rfl g_273 dX7_measure_209 (fun R_spreads_274 eR_spreads_274 H locs hP hD hS => ?_)
              have hf := nm_nm eR_spreads_274 hf
              have hP : va_P D vwCl [(aR, .inr (7, [.int R_triples, .ref aR_facts, .int R_patterns, .ref aR_cells, .ref aR_told, .ref aR_of, .ref aR_hints, .int R_filters, .ref aR_looks, .ref aR_kinds, .ref aR_values, .ref aR_isSafe, .ref aR_sizes, .ref aR_spreads, .ref aR_isSeen, .ref aR_estimates, .ref aR_rest, .int R_steps, .ref aR_order, .ref aR_joins, .ref aR_actsBehind, .ref aR_upTo, .int R_filtersThen, .ref aR_behind, .int R_rows, .ref aR_row, .ref aR_found, .int R_comes, .ref aR_next, .ref aR_nextFound, .int R_kept, .int R_hasRoom, .ref aR_keep, .ref aR_isTaken])), (aR_cells, .inl (cI, 24, .inl R_cells)), (aR_facts, .inl (cI, 240, .inl R_facts)), (aR_told, .inl (cI, 8, .inl R_told)), (aR_sizes, .inl (cI, 8, .inl R_sizes_32)), (aR_isSeen, .inl (cZ, 32, .inl R_isSeen_253)), (aR_spreads, .inl (cI, 64, .inl R_spreads_274))] H := hP
              have hD : va_D A [(aR, .inr (7, [.int R_triples, .ref aR_facts, .int R_patterns, .ref aR_cells, .ref aR_told, .ref aR_of, .ref aR_hints, .int R_filters, .ref aR_looks, .ref aR_kinds, .ref aR_values, .ref aR_isSafe, .ref aR_sizes, .ref aR_spreads, .ref aR_isSeen, .ref aR_estimates, .ref aR_rest, .int R_steps, .ref aR_order, .ref aR_joins, .ref aR_actsBehind, .ref aR_upTo, .int R_filtersThen, .ref aR_behind, .int R_rows, .ref aR_row, .ref aR_found, .int R_comes, .ref aR_next, .ref aR_nextFound, .int R_kept, .int R_hasRoom, .ref aR_keep, .ref aR_isTaken])), (aR_cells, .inl (cI, 24, .inl R_cells)), (aR_facts, .inl (cI, 240, .inl R_facts)), (aR_told, .inl (cI, 8, .inl R_told)), (aR_sizes, .inl (cI, 8, .inl R_sizes_32)), (aR_isSeen, .inl (cZ, 32, .inl R_isSeen_253)), (aR_spreads, .inl (cI, 64, .inl R_spreads_274))] := hD
              obtain ⟨x3_275, ex3_275⟩ : ∃ y : Int32, y = x3_197 + (1 : Int32) := ⟨_, rfl⟩
              have hf := nm_nm ex3_275 hf
              refine lv_iinc (v := x3_275) (lv' := [(3, .int x3_275), (0, .ref aR), (1, .int x1), (4, .int r_202), (5, .int x5_254)]) hx hb dX7_measure_210 hl (k := 2) rfl (by rw [ex3_275]; rfl) (by decide) rfl (fun ls hl => ?_)
              refine lv_goto (tgt := 62) hx hb dX7_measure_213 (by decide) ?_
              exact ih R_isSeen_253 R_spreads_274 x3_275 o_194 hf _ _ hP hD hS _ (lv_sub hl [1, 2, 0] rfl) hX_194
          · have hf := xb_f c_268 hf
            refine lv_iconst (v := (0 : Int32)) hx hb dX7_measure_194 (by decide) ?_
            refine lv_goto (tgt := 209) hx hb dX7_measure_195 (by decide) ?_
            have g_276 : vp_in (((8 : Int32) * x1) + x3_197) 64 := gd_in hf
            have hf := gd_el hf
            refine x_iast hx hb hK hP hD hS 6 0 rfl rfl g_276 dX7_measure_209 (fun R_spreads_277 eR_spreads_277 H locs hP hD hS => ?_)
            have hf := nm_nm eR_spreads_277 hf
            have hP : va_P D vwCl [(aR, .inr (7, [.int R_triples, .ref aR_facts, .int R_patterns, .ref aR_cells, .ref aR_told, .ref aR_of, .ref aR_hints, .int R_filters, .ref aR_looks, .ref aR_kinds, .ref aR_values, .ref aR_isSafe, .ref aR_sizes, .ref aR_spreads, .ref aR_isSeen, .ref aR_estimates, .ref aR_rest, .int R_steps, .ref aR_order, .ref aR_joins, .ref aR_actsBehind, .ref aR_upTo, .int R_filtersThen, .ref aR_behind, .int R_rows, .ref aR_row, .ref aR_found, .int R_comes, .ref aR_next, .ref aR_nextFound, .int R_kept, .int R_hasRoom, .ref aR_keep, .ref aR_isTaken])), (aR_cells, .inl (cI, 24, .inl R_cells)), (aR_facts, .inl (cI, 240, .inl R_facts)), (aR_told, .inl (cI, 8, .inl R_told)), (aR_sizes, .inl (cI, 8, .inl R_sizes_32)), (aR_isSeen, .inl (cZ, 32, .inl R_isSeen_253)), (aR_spreads, .inl (cI, 64, .inl R_spreads_277))] H := hP
            have hD : va_D A [(aR, .inr (7, [.int R_triples, .ref aR_facts, .int R_patterns, .ref aR_cells, .ref aR_told, .ref aR_of, .ref aR_hints, .int R_filters, .ref aR_looks, .ref aR_kinds, .ref aR_values, .ref aR_isSafe, .ref aR_sizes, .ref aR_spreads, .ref aR_isSeen, .ref aR_estimates, .ref aR_rest, .int R_steps, .ref aR_order, .ref aR_joins, .ref aR_actsBehind, .ref aR_upTo, .int R_filtersThen, .ref aR_behind, .int R_rows, .ref aR_row, .ref aR_found, .int R_comes, .ref aR_next, .ref aR_nextFound, .int R_kept, .int R_hasRoom, .ref aR_keep, .ref aR_isTaken])), (aR_cells, .inl (cI, 24, .inl R_cells)), (aR_facts, .inl (cI, 240, .inl R_facts)), (aR_told, .inl (cI, 8, .inl R_told)), (aR_sizes, .inl (cI, 8, .inl R_sizes_32)), (aR_isSeen, .inl (cZ, 32, .inl R_isSeen_253)), (aR_spreads, .inl (cI, 64, .inl R_spreads_277))] := hD
            obtain ⟨x3_278, ex3_278⟩ : ∃ y : Int32, y = x3_197 + (1 : Int32) := ⟨_, rfl⟩
            have hf := nm_nm ex3_278 hf
            refine lv_iinc (v := x3_278) (lv' := [(3, .int x3_278), (0, .ref aR), (1, .int x1), (4, .int r_202), (5, .int x5_254)]) hx hb dX7_measure_210 hl (k := 2) rfl (by rw [ex3_278]; rfl) (by decide) rfl (fun ls hl => ?_)
            refine lv_goto (tgt := 62) hx hb dX7_measure_213 (by decide) ?_
            exact ih R_isSeen_253 R_spreads_277 x3_278 o_194 hf _ _ hP hD hS _ (lv_sub hl [1, 2, 0] rfl) hX_194
    obtain ⟨o_194, ho_194, hk_194⟩ := bn2_s hf
    refine L_62_194 n R_isSeen R_spreads (0 : Int32) o_194 ho_194 _ _ hP hD hS _ (lv_sub hl [1, 2, 0] rfl) (fun R_isSeen_198 R_spreads_199 hf H locs hP hD hS ls hl => ?_)
    have hf := hk_194 _ _ hf
    have hf := Option.some.inj hf
    cases hf
    exact x_vret (fun _ => 0) hQ hx hb hr hlk hK hP hD hS dX7_measure_216
  have hf := ho_30
  refine lv_if_lt (tgt := 58) hx hb dX7_measure_46 (by decide) (fun c_29 => ?_) (fun c_29 => ?_)
  · have hf := xb_t c_29 hf
    refine lv_iload_n hx hb dX7_measure_58 rfl (lv_at hl 2 rfl) ?_
    exact J_59_30 x2_20 hf _ _ hP hD hS _ (lv_sub hl [0, 1] rfl)
  · have hf := xb_f c_29 hf
    refine lv_aload_n hx hb dX7_measure_49 rfl (lv_at hl 0 rfl) ?_
    refine va_get (D := D) (ci := 7) (v := .ref aR_told) (C := RX7) (T := TX7) (N := 34) hx hb htg giX7 hown hK hP 0 rfl rfl 4 (by decide) (htg _ kw_567) (fun _ h9 => h9) rfl dX7_measure_50 ?_
    refine lv_iload_n hx hb dX7_measure_53 rfl (lv_at hl 1 rfl) ?_
    refine va_iald hx hb hK hP 3 0 rfl rfl g_28 dX7_measure_54 ?_
    refine lv_goto (tgt := 59) hx hb dX7_measure_55 (by decide) ?_
    exact J_59_30 (R_told x1.toNatClampNeg) hf _ _ hP hD hS _ (lv_sub hl [0, 1] rfl)
abbrev rm_f_JoinOrderModel_allRequired : Room := { frames := 1, cells := 0, slots := 0, locals := 21 }
set_option maxHeartbeats 4000000 in
set_option maxRecDepth 100000 in
theorem c_f_JoinOrderModel_allRequired (l : Launch) (D : va_G) (cI cJ cZ : ClassId) (sz : Nat) (n : Nat) (aR : Nat) (R_triples : Int32) (aR_facts : Nat) (R_patterns : Int32) (aR_cells : Nat) (aR_told : Nat) (aR_of : Nat) (aR_hints : Nat) (R_filters : Int32) (aR_looks : Nat) (aR_kinds : Nat) (aR_values : Nat) (aR_isSafe : Nat) (aR_sizes : Nat) (aR_spreads : Nat) (aR_isSeen : Nat) (aR_estimates : Nat) (aR_rest : Nat) (R_steps : Int32) (aR_order : Nat) (aR_joins : Nat) (aR_actsBehind : Nat) (aR_upTo : Nat) (R_filtersThen : Int32) (aR_behind : Nat) (R_rows : Int32) (aR_row : Nat) (aR_found : Nat) (R_comes : Int32) (aR_next : Nat) (aR_nextFound : Nat) (R_kept : Int32) (R_hasRoom : Int32) (aR_keep : Nat) (aR_isTaken : Nat) (R_of : Nat → Int32) {r : Int32} (hf : f_JoinOrderModel_allRequired n R_patterns R_of = some r) : Met l yX7_allRequired (.code yX7_allRequired cX7_allRequired 3 (some .int) :: GW) rm_f_JoinOrderModel_allRequired (va_Pc [.ref aR] (xP D (xT cI cJ cZ) sz [(aR, .inr (7, [.int R_triples, .ref aR_facts, .int R_patterns, .ref aR_cells, .ref aR_told, .ref aR_of, .ref aR_hints, .int R_filters, .ref aR_looks, .ref aR_kinds, .ref aR_values, .ref aR_isSafe, .ref aR_sizes, .ref aR_spreads, .ref aR_isSeen, .ref aR_estimates, .ref aR_rest, .int R_steps, .ref aR_order, .ref aR_joins, .ref aR_actsBehind, .ref aR_upTo, .int R_filtersThen, .ref aR_behind, .int R_rows, .ref aR_row, .ref aR_found, .int R_comes, .ref aR_next, .ref aR_nextFound, .int R_kept, .int R_hasRoom, .ref aR_keep, .ref aR_isTaken])), (aR_of, .inl (cI, 8, .inl R_of))])) (va_Qi (fun r2 (_ : Nat → Nat) => r2 = r) (bB D (xT cI cJ cZ) (fun _ => [(aR, .inr (7, [.int R_triples, .ref aR_facts, .int R_patterns, .ref aR_cells, .ref aR_told, .ref aR_of, .ref aR_hints, .int R_filters, .ref aR_looks, .ref aR_kinds, .ref aR_values, .ref aR_isSafe, .ref aR_sizes, .ref aR_spreads, .ref aR_isSeen, .ref aR_estimates, .ref aR_rest, .int R_steps, .ref aR_order, .ref aR_joins, .ref aR_actsBehind, .ref aR_upTo, .int R_filtersThen, .ref aR_behind, .int R_rows, .ref aR_row, .ref aR_found, .int R_comes, .ref aR_next, .ref aR_nextFound, .int R_kept, .int R_hasRoom, .ref aR_keep, .ref aR_isTaken])), (aR_of, .inl (cI, 8, .inl R_of))]) (va_A [(aR, .inr (7, [.int R_triples, .ref aR_facts, .int R_patterns, .ref aR_cells, .ref aR_told, .ref aR_of, .ref aR_hints, .int R_filters, .ref aR_looks, .ref aR_kinds, .ref aR_values, .ref aR_isSafe, .ref aR_sizes, .ref aR_spreads, .ref aR_isSeen, .ref aR_estimates, .ref aR_rest, .int R_steps, .ref aR_order, .ref aR_joins, .ref aR_actsBehind, .ref aR_upTo, .int R_filtersThen, .ref aR_behind, .int R_rows, .ref aR_row, .ref aR_found, .int R_comes, .ref aR_next, .ref aR_nextFound, .int R_kept, .int R_hasRoom, .ref aR_keep, .ref aR_isTaken])), (aR_of, .inl (cI, 8, .inl R_of))] sz)) (va_A [(aR, .inr (7, [.int R_triples, .ref aR_facts, .int R_patterns, .ref aR_cells, .ref aR_told, .ref aR_of, .ref aR_hints, .int R_filters, .ref aR_looks, .ref aR_kinds, .ref aR_values, .ref aR_isSafe, .ref aR_sizes, .ref aR_spreads, .ref aR_isSeen, .ref aR_estimates, .ref aR_rest, .int R_steps, .ref aR_order, .ref aR_joins, .ref aR_actsBehind, .ref aR_upTo, .int R_filtersThen, .ref aR_behind, .int R_rows, .ref aR_row, .ref aR_found, .int R_comes, .ref aR_next, .ref aR_nextFound, .int R_kept, .int R_hasRoom, .ref aR_keep, .ref aR_isTaken])), (aR_of, .inl (cI, 8, .inl R_of))] sz)) 0 0 (va_A [(aR, .inr (7, [.int R_triples, .ref aR_facts, .int R_patterns, .ref aR_cells, .ref aR_told, .ref aR_of, .ref aR_hints, .int R_filters, .ref aR_looks, .ref aR_kinds, .ref aR_values, .ref aR_isSafe, .ref aR_sizes, .ref aR_spreads, .ref aR_isSeen, .ref aR_estimates, .ref aR_rest, .int R_steps, .ref aR_order, .ref aR_joins, .ref aR_actsBehind, .ref aR_upTo, .int R_filtersThen, .ref aR_behind, .int R_rows, .ref aR_row, .ref aR_found, .int R_comes, .ref aR_next, .ref aR_nextFound, .int R_kept, .int R_hasRoom, .ref aR_keep, .ref aR_isTaken])), (aR_of, .inl (cI, 8, .inl R_of))] sz) := by
  refine con_start (Qc := fun A => va_Qi (fun r2 (_ : Nat → Nat) => r2 = r) (bB D (xT cI cJ cZ) (fun _ => [(aR, .inr (7, [.int R_triples, .ref aR_facts, .int R_patterns, .ref aR_cells, .ref aR_told, .ref aR_of, .ref aR_hints, .int R_filters, .ref aR_looks, .ref aR_kinds, .ref aR_values, .ref aR_isSafe, .ref aR_sizes, .ref aR_spreads, .ref aR_isSeen, .ref aR_estimates, .ref aR_rest, .int R_steps, .ref aR_order, .ref aR_joins, .ref aR_actsBehind, .ref aR_upTo, .int R_filtersThen, .ref aR_behind, .int R_rows, .ref aR_row, .ref aR_found, .int R_comes, .ref aR_next, .ref aR_nextFound, .int R_kept, .int R_hasRoom, .ref aR_keep, .ref aR_isTaken])), (aR_of, .inl (cI, 8, .inl R_of))]) A) A) (by decide) (Nat.le_of_ble_eq_true rfl) ?_
  intro p e s m args below meth c Q A hx hb hr hlk hml hown hin htg hN hK hQ hA hP hD hS ls hl
  have hl : lv_has ls 3 [(0, .ref aR)] := hl
  have hown : s.vm.findClass RX7 = some m.cls := hown
  have hf := (f_JoinOrderModel_allRequired_u n R_patterns R_of).symm.trans hf
  refine lv_iconst (v := (0 : Int32)) hx hb dX7_allRequired_0 (by decide) ?_
  refine lv_istore_n (lv' := [(1, .int (0 : Int32)), (0, .ref aR)]) hx hb dX7_allRequired_1 rfl hl (by decide) rfl (fun ls hl => ?_)
  refine lv_iconst (v := (0 : Int32)) hx hb dX7_allRequired_2 (by decide) ?_
  refine lv_istore_n (lv' := [(2, .int (0 : Int32)), (1, .int (0 : Int32)), (0, .ref aR)]) hx hb dX7_allRequired_3 rfl hl (by decide) rfl (fun ls hl => ?_)
  have L_4_17 : ∀ (k : Nat) (x1_18 : Int32) (x2_19 : Int32) (o_17 : Int32), f_JoinOrderModel_allRequired_L0 n R_patterns R_of k x1_18 x2_19 = some o_17 → ∀ (H : Heap) (locs : List Loc), va_P D vwCl [(aR, .inr (7, [.int R_triples, .ref aR_facts, .int R_patterns, .ref aR_cells, .ref aR_told, .ref aR_of, .ref aR_hints, .int R_filters, .ref aR_looks, .ref aR_kinds, .ref aR_values, .ref aR_isSafe, .ref aR_sizes, .ref aR_spreads, .ref aR_isSeen, .ref aR_estimates, .ref aR_rest, .int R_steps, .ref aR_order, .ref aR_joins, .ref aR_actsBehind, .ref aR_upTo, .int R_filtersThen, .ref aR_behind, .int R_rows, .ref aR_row, .ref aR_found, .int R_comes, .ref aR_next, .ref aR_nextFound, .int R_kept, .int R_hasRoom, .ref aR_keep, .ref aR_isTaken])), (aR_of, .inl (cI, 8, .inl R_of))] H → va_D A [(aR, .inr (7, [.int R_triples, .ref aR_facts, .int R_patterns, .ref aR_cells, .ref aR_told, .ref aR_of, .ref aR_hints, .int R_filters, .ref aR_looks, .ref aR_kinds, .ref aR_values, .ref aR_isSafe, .ref aR_sizes, .ref aR_spreads, .ref aR_isSeen, .ref aR_estimates, .ref aR_rest, .int R_steps, .ref aR_order, .ref aR_joins, .ref aR_actsBehind, .ref aR_upTo, .int R_filtersThen, .ref aR_behind, .int R_rows, .ref aR_row, .ref aR_found, .int R_comes, .ref aR_next, .ref aR_nextFound, .int R_kept, .int R_hasRoom, .ref aR_keep, .ref aR_isTaken])), (aR_of, .inl (cI, 8, .inl R_of))] → va_S A s.heap H locs → ∀ ls : Array Slot, lv_has ls 3 [(0, .ref aR), (1, .int x1_18), (2, .int x2_19)] → (∀ (x1_20 : Int32), some (x1_20) = some o_17 → ∀ (H : Heap) (locs : List Loc), va_P D vwCl [(aR, .inr (7, [.int R_triples, .ref aR_facts, .int R_patterns, .ref aR_cells, .ref aR_told, .ref aR_of, .ref aR_hints, .int R_filters, .ref aR_looks, .ref aR_kinds, .ref aR_values, .ref aR_isSafe, .ref aR_sizes, .ref aR_spreads, .ref aR_isSeen, .ref aR_estimates, .ref aR_rest, .int R_steps, .ref aR_order, .ref aR_joins, .ref aR_actsBehind, .ref aR_upTo, .int R_filtersThen, .ref aR_behind, .int R_rows, .ref aR_row, .ref aR_found, .int R_comes, .ref aR_next, .ref aR_nextFound, .int R_kept, .int R_hasRoom, .ref aR_keep, .ref aR_isTaken])), (aR_of, .inl (cI, 8, .inl R_of))] H → va_D A [(aR, .inr (7, [.int R_triples, .ref aR_facts, .int R_patterns, .ref aR_cells, .ref aR_told, .ref aR_of, .ref aR_hints, .int R_filters, .ref aR_looks, .ref aR_kinds, .ref aR_values, .ref aR_isSafe, .ref aR_sizes, .ref aR_spreads, .ref aR_isSeen, .ref aR_estimates, .ref aR_rest, .int R_steps, .ref aR_order, .ref aR_joins, .ref aR_actsBehind, .ref aR_upTo, .int R_filtersThen, .ref aR_behind, .int R_rows, .ref aR_row, .ref aR_found, .int R_comes, .ref aR_next, .ref aR_nextFound, .int R_kept, .int R_hasRoom, .ref aR_keep, .ref aR_isTaken])), (aR_of, .inl (cI, 8, .inl R_of))] → va_S A s.heap H locs → ∀ ls : Array Slot, lv_has ls 3 [(1, .int x1_20)] → W p l e rm_f_JoinOrderModel_allRequired s m args below meth c H locs 0 0 Q (F0 m 36 ls [])) → W p l e rm_f_JoinOrderModel_allRequired s m args below meth c H locs 0 0 Q (F0 m 4 ls []) := by
    intro k
    induction k with
    | zero =>
      intro x1_18 x2_19 o_17 hf
      exact absurd (((f_JoinOrderModel_allRequired_L0_z n R_patterns R_of x1_18 x2_19).symm.trans hf)) (fun h => by cases h)
    | succ k ih =>
      intro x1_18 x2_19 o_17 hf H locs hP hD hS ls hl hX_17
      have hf := (f_JoinOrderModel_allRequired_L0_s n R_patterns R_of k x1_18 x2_19).symm.trans hf
      refine lv_iload_n hx hb dX7_allRequired_4 rfl (lv_at hl 2 rfl) ?_
      refine lv_aload_n hx hb dX7_allRequired_5 rfl (lv_at hl 0 rfl) ?_
      refine va_get (D := D) (ci := 7) (v := .int R_patterns) (C := RX7) (T := TX7) (N := 34) hx hb htg giX7 hown hK hP 0 rfl rfl 2 (by decide) (htg _ kw_565) (fun _ h9 => h9) rfl dX7_allRequired_6 ?_
      refine lv_icmp_ge (tgt := 36) hx hb dX7_allRequired_9 (by decide) (fun c_21 => ?_) (fun c_21 => ?_)
      · have hf := xb_t c_21 hf
        exact hX_17 x1_18 hf _ _ hP hD hS _ (lv_sub hl [1] rfl)
      · have hf := xb_f c_21 hf
        refine lv_aload_n hx hb dX7_allRequired_12 rfl (lv_at hl 0 rfl) ?_
        refine lv_iload_n hx hb dX7_allRequired_13 rfl (lv_at hl 2 rfl) ?_
        obtain ⟨r_23, hq_22, hf⟩ := bn1_c hf
        refine x_z (xrV (As := [.int x2_19]) (b := aR) (rest := []) ⟨hx, hb, hml, hown, htg⟩ (c_f_JoinOrderModel_isRequired l D cI cJ cZ _ aR x2_19 R_triples aR_facts R_patterns aR_cells aR_told aR_of aR_hints R_filters aR_looks aR_kinds aR_values aR_isSafe aR_sizes aR_spreads aR_isSeen aR_estimates aR_rest R_steps aR_order aR_joins aR_actsBehind aR_upTo R_filtersThen aR_behind R_rows aR_row aR_found R_comes aR_next aR_nextFound R_kept R_hasRoom aR_keep aR_isTaken R_of hq_22) kc_f_JoinOrderModel_isRequired kw_692 kw_694 kp_21 kw_8 dd_f_JoinOrderModel_isRequired ⟨Nat.le_of_ble_eq_true rfl, Nat.le_of_ble_eq_true rfl⟩ rfl rfl hP hD hK hN hP (q0 := 0) rfl rfl rfl hl.1 rfl (Nat.le_of_ble_eq_true rfl) dX7_allRequired_14 ⟨Nat.le_of_ble_eq_true rfl, Nat.le_of_ble_eq_true rfl⟩) hP hD hS hA [0, 1] [] rfl rfl (by decide) (by decide) (fun _ H locs bz_22 hP hD hS => ?_)
        have hP : va_P D vwCl [(aR, .inr (7, [.int R_triples, .ref aR_facts, .int R_patterns, .ref aR_cells, .ref aR_told, .ref aR_of, .ref aR_hints, .int R_filters, .ref aR_looks, .ref aR_kinds, .ref aR_values, .ref aR_isSafe, .ref aR_sizes, .ref aR_spreads, .ref aR_isSeen, .ref aR_estimates, .ref aR_rest, .int R_steps, .ref aR_order, .ref aR_joins, .ref aR_actsBehind, .ref aR_upTo, .int R_filtersThen, .ref aR_behind, .int R_rows, .ref aR_row, .ref aR_found, .int R_comes, .ref aR_next, .ref aR_nextFound, .int R_kept, .int R_hasRoom, .ref aR_keep, .ref aR_isTaken])), (aR_of, .inl (cI, 8, .inl R_of))] H := hP
        have hD : va_D A [(aR, .inr (7, [.int R_triples, .ref aR_facts, .int R_patterns, .ref aR_cells, .ref aR_told, .ref aR_of, .ref aR_hints, .int R_filters, .ref aR_looks, .ref aR_kinds, .ref aR_values, .ref aR_isSafe, .ref aR_sizes, .ref aR_spreads, .ref aR_isSeen, .ref aR_estimates, .ref aR_rest, .int R_steps, .ref aR_order, .ref aR_joins, .ref aR_actsBehind, .ref aR_upTo, .int R_filtersThen, .ref aR_behind, .int R_rows, .ref aR_row, .ref aR_found, .int R_comes, .ref aR_next, .ref aR_nextFound, .int R_kept, .int R_hasRoom, .ref aR_keep, .ref aR_isTaken])), (aR_of, .inl (cI, 8, .inl R_of))] := hD
        refine lv_if_eq (tgt := 28) hx hb dX7_allRequired_17 (by decide) (fun c_24 => ?_) (fun c_24 => ?_)
        · have hf := xb_t c_24 hf
          refine lv_iload_n hx hb dX7_allRequired_28 rfl (lv_at hl 1 rfl) ?_
          refine lv_istore_n (lv' := [(1, .int x1_18), (0, .ref aR), (2, .int x2_19)]) hx hb dX7_allRequired_29 rfl hl (by decide) rfl (fun ls hl => ?_)
          obtain ⟨x2_25, ex2_25⟩ : ∃ y : Int32, y = x2_19 + (1 : Int32) := ⟨_, rfl⟩
          have hf := nm_nm ex2_25 hf
          refine lv_iinc (v := x2_25) (lv' := [(2, .int x2_25), (1, .int x1_18), (0, .ref aR)]) hx hb dX7_allRequired_30 hl (k := 2) rfl (by rw [ex2_25]; rfl) (by decide) rfl (fun ls hl => ?_)
          refine lv_goto (tgt := 4) hx hb dX7_allRequired_33 (by decide) ?_
          exact ih x1_18 x2_25 o_17 hf _ _ hP hD hS _ (lv_sub hl [2, 1, 0] rfl) hX_17
        · have hf := xb_f c_24 hf
          refine lv_iload_n hx hb dX7_allRequired_20 rfl (lv_at hl 1 rfl) ?_
          refine lv_iconst (v := (1 : Int32)) hx hb dX7_allRequired_21 (by decide) ?_
          refine lv_iload_n hx hb dX7_allRequired_22 rfl (lv_at hl 2 rfl) ?_
          refine lv_ishl hx hb dX7_allRequired_23 ?_
          refine lv_ior hx hb dX7_allRequired_24 ?_
          refine lv_goto (tgt := 29) hx hb dX7_allRequired_25 (by decide) ?_
          refine lv_topi (fun x1_26 ex1_26 => ?_)
          have hf := nm_nm ex1_26 hf
          refine lv_istore_n (lv' := [(1, .int x1_26), (0, .ref aR), (2, .int x2_19)]) hx hb dX7_allRequired_29 rfl hl (by decide) rfl (fun ls hl => ?_)
          obtain ⟨x2_27, ex2_27⟩ : ∃ y : Int32, y = x2_19 + (1 : Int32) := ⟨_, rfl⟩
          have hf := nm_nm ex2_27 hf
          refine lv_iinc (v := x2_27) (lv' := [(2, .int x2_27), (1, .int x1_26), (0, .ref aR)]) hx hb dX7_allRequired_30 hl (k := 2) rfl (by rw [ex2_27]; rfl) (by decide) rfl (fun ls hl => ?_)
          refine lv_goto (tgt := 4) hx hb dX7_allRequired_33 (by decide) ?_
          exact ih x1_26 x2_27 o_17 hf _ _ hP hD hS _ (lv_sub hl [2, 1, 0] rfl) hX_17
  obtain ⟨o_17, ho_17, hk_17⟩ := bn1_s hf
  refine L_4_17 n (0 : Int32) (0 : Int32) o_17 ho_17 _ _ hP hD hS _ (lv_sub hl [2, 1, 0] rfl) (fun x1_20 hf H locs hP hD hS ls hl => ?_)
  have hf := hk_17 _ hf
  refine lv_iload_n hx hb dX7_allRequired_36 rfl (lv_at hl 0 rfl) ?_
  have hf := Option.some.inj hf
  cases hf
  exact x_iret (fun _ => 0) hQ hx hb hr hlk hK hP hD hS dX7_allRequired_37
abbrev rm_f_JoinOrderModel_divisor : Room := { frames := 0, cells := 0, slots := 0, locals := 0 }
set_option maxHeartbeats 4000000 in
set_option maxRecDepth 100000 in
theorem c_f_JoinOrderModel_divisor (l : Launch) (D : va_G) (cI cJ cZ : ClassId) (sz : Nat) (n : Nat) (aR : Nat) (x1 : Int32) (x2 : Int32) (x3 : Int64) (R_triples : Int32) (aR_facts : Nat) (R_patterns : Int32) (aR_cells : Nat) (aR_told : Nat) (aR_of : Nat) (aR_hints : Nat) (R_filters : Int32) (aR_looks : Nat) (aR_kinds : Nat) (aR_values : Nat) (aR_isSafe : Nat) (aR_sizes : Nat) (aR_spreads : Nat) (aR_isSeen : Nat) (aR_estimates : Nat) (aR_rest : Nat) (R_steps : Int32) (aR_order : Nat) (aR_joins : Nat) (aR_actsBehind : Nat) (aR_upTo : Nat) (R_filtersThen : Int32) (aR_behind : Nat) (R_rows : Int32) (aR_row : Nat) (aR_found : Nat) (R_comes : Int32) (aR_next : Nat) (aR_nextFound : Nat) (R_kept : Int32) (R_hasRoom : Int32) (aR_keep : Nat) (aR_isTaken : Nat) (R_spreads : Nat → Int32) {r : Int64} (hf : f_JoinOrderModel_divisor n x1 x2 x3 R_patterns R_spreads = some r) : Met l yX7_divisor (.code yX7_divisor cX7_divisor 11 (some .long) :: GW) rm_f_JoinOrderModel_divisor (va_Pc [.ref aR, .int x1, .int x2, .long x3] (xP D (xT cI cJ cZ) sz [(aR, .inr (7, [.int R_triples, .ref aR_facts, .int R_patterns, .ref aR_cells, .ref aR_told, .ref aR_of, .ref aR_hints, .int R_filters, .ref aR_looks, .ref aR_kinds, .ref aR_values, .ref aR_isSafe, .ref aR_sizes, .ref aR_spreads, .ref aR_isSeen, .ref aR_estimates, .ref aR_rest, .int R_steps, .ref aR_order, .ref aR_joins, .ref aR_actsBehind, .ref aR_upTo, .int R_filtersThen, .ref aR_behind, .int R_rows, .ref aR_row, .ref aR_found, .int R_comes, .ref aR_next, .ref aR_nextFound, .int R_kept, .int R_hasRoom, .ref aR_keep, .ref aR_isTaken])), (aR_spreads, .inl (cI, 64, .inl R_spreads))])) (va_Ql (fun r2 (_ : Nat → Nat) => r2 = r) (bB D (xT cI cJ cZ) (fun _ => [(aR, .inr (7, [.int R_triples, .ref aR_facts, .int R_patterns, .ref aR_cells, .ref aR_told, .ref aR_of, .ref aR_hints, .int R_filters, .ref aR_looks, .ref aR_kinds, .ref aR_values, .ref aR_isSafe, .ref aR_sizes, .ref aR_spreads, .ref aR_isSeen, .ref aR_estimates, .ref aR_rest, .int R_steps, .ref aR_order, .ref aR_joins, .ref aR_actsBehind, .ref aR_upTo, .int R_filtersThen, .ref aR_behind, .int R_rows, .ref aR_row, .ref aR_found, .int R_comes, .ref aR_next, .ref aR_nextFound, .int R_kept, .int R_hasRoom, .ref aR_keep, .ref aR_isTaken])), (aR_spreads, .inl (cI, 64, .inl R_spreads))]) (va_A [(aR, .inr (7, [.int R_triples, .ref aR_facts, .int R_patterns, .ref aR_cells, .ref aR_told, .ref aR_of, .ref aR_hints, .int R_filters, .ref aR_looks, .ref aR_kinds, .ref aR_values, .ref aR_isSafe, .ref aR_sizes, .ref aR_spreads, .ref aR_isSeen, .ref aR_estimates, .ref aR_rest, .int R_steps, .ref aR_order, .ref aR_joins, .ref aR_actsBehind, .ref aR_upTo, .int R_filtersThen, .ref aR_behind, .int R_rows, .ref aR_row, .ref aR_found, .int R_comes, .ref aR_next, .ref aR_nextFound, .int R_kept, .int R_hasRoom, .ref aR_keep, .ref aR_isTaken])), (aR_spreads, .inl (cI, 64, .inl R_spreads))] sz)) (va_A [(aR, .inr (7, [.int R_triples, .ref aR_facts, .int R_patterns, .ref aR_cells, .ref aR_told, .ref aR_of, .ref aR_hints, .int R_filters, .ref aR_looks, .ref aR_kinds, .ref aR_values, .ref aR_isSafe, .ref aR_sizes, .ref aR_spreads, .ref aR_isSeen, .ref aR_estimates, .ref aR_rest, .int R_steps, .ref aR_order, .ref aR_joins, .ref aR_actsBehind, .ref aR_upTo, .int R_filtersThen, .ref aR_behind, .int R_rows, .ref aR_row, .ref aR_found, .int R_comes, .ref aR_next, .ref aR_nextFound, .int R_kept, .int R_hasRoom, .ref aR_keep, .ref aR_isTaken])), (aR_spreads, .inl (cI, 64, .inl R_spreads))] sz)) 0 0 (va_A [(aR, .inr (7, [.int R_triples, .ref aR_facts, .int R_patterns, .ref aR_cells, .ref aR_told, .ref aR_of, .ref aR_hints, .int R_filters, .ref aR_looks, .ref aR_kinds, .ref aR_values, .ref aR_isSafe, .ref aR_sizes, .ref aR_spreads, .ref aR_isSeen, .ref aR_estimates, .ref aR_rest, .int R_steps, .ref aR_order, .ref aR_joins, .ref aR_actsBehind, .ref aR_upTo, .int R_filtersThen, .ref aR_behind, .int R_rows, .ref aR_row, .ref aR_found, .int R_comes, .ref aR_next, .ref aR_nextFound, .int R_kept, .int R_hasRoom, .ref aR_keep, .ref aR_isTaken])), (aR_spreads, .inl (cI, 64, .inl R_spreads))] sz) := by
  refine con_start (Qc := fun A => va_Ql (fun r2 (_ : Nat → Nat) => r2 = r) (bB D (xT cI cJ cZ) (fun _ => [(aR, .inr (7, [.int R_triples, .ref aR_facts, .int R_patterns, .ref aR_cells, .ref aR_told, .ref aR_of, .ref aR_hints, .int R_filters, .ref aR_looks, .ref aR_kinds, .ref aR_values, .ref aR_isSafe, .ref aR_sizes, .ref aR_spreads, .ref aR_isSeen, .ref aR_estimates, .ref aR_rest, .int R_steps, .ref aR_order, .ref aR_joins, .ref aR_actsBehind, .ref aR_upTo, .int R_filtersThen, .ref aR_behind, .int R_rows, .ref aR_row, .ref aR_found, .int R_comes, .ref aR_next, .ref aR_nextFound, .int R_kept, .int R_hasRoom, .ref aR_keep, .ref aR_isTaken])), (aR_spreads, .inl (cI, 64, .inl R_spreads))]) A) A) (by decide) (Nat.le_of_ble_eq_true rfl) ?_
  intro p e s m args below meth c Q A hx hb hr hlk hml hown hin htg hN hK hQ hA hP hD hS ls hl
  have hl : lv_has ls 11 [(0, .ref aR), (1, .int x1), (2, .int x2), (3, .long x3)] := hl
  have hown : s.vm.findClass RX7 = some m.cls := hown
  have hf := (f_JoinOrderModel_divisor_u n x1 x2 x3 R_patterns R_spreads).symm.trans hf
  refine lv_lload_n hx hb dX7_divisor_0 rfl (lv_at hl 3 rfl) ?_
  refine lv_lstore (lv' := [(5, .long x3), (0, .ref aR), (1, .int x1), (2, .int x2), (3, .long x3)]) hx hb dX7_divisor_1 hl (by decide) rfl (fun ls hl => ?_)
  refine lv_iconst (v := (0 : Int32)) hx hb dX7_divisor_3 (by decide) ?_
  refine lv_istore (lv' := [(7, .int (0 : Int32)), (5, .long x3), (0, .ref aR), (1, .int x1), (2, .int x2), (3, .long x3)]) hx hb dX7_divisor_4 hl (by decide) rfl (fun ls hl => ?_)
  refine lv_iconst (v := (0 : Int32)) hx hb dX7_divisor_6 (by decide) ?_
  refine lv_istore (lv' := [(8, .int (0 : Int32)), (7, .int (0 : Int32)), (5, .long x3), (0, .ref aR), (1, .int x1), (2, .int x2), (3, .long x3)]) hx hb dX7_divisor_7 hl (by decide) rfl (fun ls hl => ?_)
  have L_9_48 : ∀ (k : Nat) (x5_49 : Int64) (x7_50 : Int32) (x8_51 : Int32) (o_48 : Int64), f_JoinOrderModel_divisor_L0 n x1 x2 R_patterns R_spreads k x5_49 x7_50 x8_51 = some o_48 → ∀ (H : Heap) (locs : List Loc), va_P D vwCl [(aR, .inr (7, [.int R_triples, .ref aR_facts, .int R_patterns, .ref aR_cells, .ref aR_told, .ref aR_of, .ref aR_hints, .int R_filters, .ref aR_looks, .ref aR_kinds, .ref aR_values, .ref aR_isSafe, .ref aR_sizes, .ref aR_spreads, .ref aR_isSeen, .ref aR_estimates, .ref aR_rest, .int R_steps, .ref aR_order, .ref aR_joins, .ref aR_actsBehind, .ref aR_upTo, .int R_filtersThen, .ref aR_behind, .int R_rows, .ref aR_row, .ref aR_found, .int R_comes, .ref aR_next, .ref aR_nextFound, .int R_kept, .int R_hasRoom, .ref aR_keep, .ref aR_isTaken])), (aR_spreads, .inl (cI, 64, .inl R_spreads))] H → va_D A [(aR, .inr (7, [.int R_triples, .ref aR_facts, .int R_patterns, .ref aR_cells, .ref aR_told, .ref aR_of, .ref aR_hints, .int R_filters, .ref aR_looks, .ref aR_kinds, .ref aR_values, .ref aR_isSafe, .ref aR_sizes, .ref aR_spreads, .ref aR_isSeen, .ref aR_estimates, .ref aR_rest, .int R_steps, .ref aR_order, .ref aR_joins, .ref aR_actsBehind, .ref aR_upTo, .int R_filtersThen, .ref aR_behind, .int R_rows, .ref aR_row, .ref aR_found, .int R_comes, .ref aR_next, .ref aR_nextFound, .int R_kept, .int R_hasRoom, .ref aR_keep, .ref aR_isTaken])), (aR_spreads, .inl (cI, 64, .inl R_spreads))] → va_S A s.heap H locs → ∀ ls : Array Slot, lv_has ls 11 [(0, .ref aR), (1, .int x1), (2, .int x2), (5, .long x5_49), (7, .int x7_50), (8, .int x8_51)] → (∀ (x5_52 : Int64), some (x5_52) = some o_48 → ∀ (H : Heap) (locs : List Loc), va_P D vwCl [(aR, .inr (7, [.int R_triples, .ref aR_facts, .int R_patterns, .ref aR_cells, .ref aR_told, .ref aR_of, .ref aR_hints, .int R_filters, .ref aR_looks, .ref aR_kinds, .ref aR_values, .ref aR_isSafe, .ref aR_sizes, .ref aR_spreads, .ref aR_isSeen, .ref aR_estimates, .ref aR_rest, .int R_steps, .ref aR_order, .ref aR_joins, .ref aR_actsBehind, .ref aR_upTo, .int R_filtersThen, .ref aR_behind, .int R_rows, .ref aR_row, .ref aR_found, .int R_comes, .ref aR_next, .ref aR_nextFound, .int R_kept, .int R_hasRoom, .ref aR_keep, .ref aR_isTaken])), (aR_spreads, .inl (cI, 64, .inl R_spreads))] H → va_D A [(aR, .inr (7, [.int R_triples, .ref aR_facts, .int R_patterns, .ref aR_cells, .ref aR_told, .ref aR_of, .ref aR_hints, .int R_filters, .ref aR_looks, .ref aR_kinds, .ref aR_values, .ref aR_isSafe, .ref aR_sizes, .ref aR_spreads, .ref aR_isSeen, .ref aR_estimates, .ref aR_rest, .int R_steps, .ref aR_order, .ref aR_joins, .ref aR_actsBehind, .ref aR_upTo, .int R_filtersThen, .ref aR_behind, .int R_rows, .ref aR_row, .ref aR_found, .int R_comes, .ref aR_next, .ref aR_nextFound, .int R_kept, .int R_hasRoom, .ref aR_keep, .ref aR_isTaken])), (aR_spreads, .inl (cI, 64, .inl R_spreads))] → va_S A s.heap H locs → ∀ ls : Array Slot, lv_has ls 11 [(5, .long x5_52)] → W p l e rm_f_JoinOrderModel_divisor s m args below meth c H locs 0 0 Q (F0 m 125 ls [])) → W p l e rm_f_JoinOrderModel_divisor s m args below meth c H locs 0 0 Q (F0 m 9 ls []) := by
    intro k
    induction k with
    | zero =>
      intro x5_49 x7_50 x8_51 o_48 hf
      exact absurd (((f_JoinOrderModel_divisor_L0_z n x1 x2 R_patterns R_spreads x5_49 x7_50 x8_51).symm.trans hf)) (fun h => by cases h)
    | succ k ih =>
      intro x5_49 x7_50 x8_51 o_48 hf H locs hP hD hS ls hl hX_48
      have hf := (f_JoinOrderModel_divisor_L0_s n x1 x2 R_patterns R_spreads k x5_49 x7_50 x8_51).symm.trans hf
      refine lv_iload hx hb dX7_divisor_9 (lv_at hl 5 rfl) ?_
      refine lv_aload_n hx hb dX7_divisor_11 rfl (lv_at hl 0 rfl) ?_
      refine va_get (D := D) (ci := 7) (v := .int R_patterns) (C := RX7) (T := TX7) (N := 34) hx hb htg giX7 hown hK hP 0 rfl rfl 2 (by decide) (htg _ kw_565) (fun _ h9 => h9) rfl dX7_divisor_12 ?_
      refine lv_icmp_ge (tgt := 125) hx hb dX7_divisor_15 (by decide) (fun c_53 => ?_) (fun c_53 => ?_)
      · have hf := xb_t c_53 hf
        exact hX_48 x5_49 hf _ _ hP hD hS _ (lv_sub hl [3] rfl)
      · have hf := xb_f c_53 hf
        refine lv_iload_n hx hb dX7_divisor_18 rfl (lv_at hl 1 rfl) ?_
        refine lv_iload hx hb dX7_divisor_19 (lv_at hl 5 rfl) ?_
        refine lv_ishr hx hb dX7_divisor_21 ?_
        refine lv_iconst (v := (1 : Int32)) hx hb dX7_divisor_22 (by decide) ?_
        refine lv_iand hx hb dX7_divisor_23 ?_
        refine lv_iconst (v := (1 : Int32)) hx hb dX7_divisor_24 (by decide) ?_
        obtain ⟨o_56, ho_56, hk_56⟩ := bn1_s hf
        have J_44_56 : ∀ (z_57 : Int32), some (z_57) = some o_56 → ∀ (H : Heap) (locs : List Loc), va_P D vwCl [(aR, .inr (7, [.int R_triples, .ref aR_facts, .int R_patterns, .ref aR_cells, .ref aR_told, .ref aR_of, .ref aR_hints, .int R_filters, .ref aR_looks, .ref aR_kinds, .ref aR_values, .ref aR_isSafe, .ref aR_sizes, .ref aR_spreads, .ref aR_isSeen, .ref aR_estimates, .ref aR_rest, .int R_steps, .ref aR_order, .ref aR_joins, .ref aR_actsBehind, .ref aR_upTo, .int R_filtersThen, .ref aR_behind, .int R_rows, .ref aR_row, .ref aR_found, .int R_comes, .ref aR_next, .ref aR_nextFound, .int R_kept, .int R_hasRoom, .ref aR_keep, .ref aR_isTaken])), (aR_spreads, .inl (cI, 64, .inl R_spreads))] H → va_D A [(aR, .inr (7, [.int R_triples, .ref aR_facts, .int R_patterns, .ref aR_cells, .ref aR_told, .ref aR_of, .ref aR_hints, .int R_filters, .ref aR_looks, .ref aR_kinds, .ref aR_values, .ref aR_isSafe, .ref aR_sizes, .ref aR_spreads, .ref aR_isSeen, .ref aR_estimates, .ref aR_rest, .int R_steps, .ref aR_order, .ref aR_joins, .ref aR_actsBehind, .ref aR_upTo, .int R_filtersThen, .ref aR_behind, .int R_rows, .ref aR_row, .ref aR_found, .int R_comes, .ref aR_next, .ref aR_nextFound, .int R_kept, .int R_hasRoom, .ref aR_keep, .ref aR_isTaken])), (aR_spreads, .inl (cI, 64, .inl R_spreads))] → va_S A s.heap H locs → ∀ ls : Array Slot, lv_has ls 11 [(0, .ref aR), (1, .int x1), (2, .int x2), (5, .long x5_49), (7, .int x7_50), (8, .int x8_51)] → W p l e rm_f_JoinOrderModel_divisor s m args below meth c H locs 0 0 Q (F0 m 44 ls [.int z_57]) := by
          intro z_57 hf H locs hP hD hS ls hl
          have hf := hk_56 _ hf
          refine lv_istore (lv' := [(9, .int z_57), (0, .ref aR), (1, .int x1), (2, .int x2), (5, .long x5_49), (7, .int x7_50), (8, .int x8_51)]) hx hb dX7_divisor_44 hl (by decide) rfl (fun ls hl => ?_)
          refine lv_iload hx hb dX7_divisor_46 (lv_at hl 0 rfl) ?_
          refine lv_if_le (tgt := 119) hx hb dX7_divisor_48 (by decide) (fun c_58 => ?_) (fun c_58 => ?_)
          · have hf := xb_t c_58 hf
            obtain ⟨x8_59, ex8_59⟩ : ∃ y : Int32, y = x8_51 + (1 : Int32) := ⟨_, rfl⟩
            have hf := nm_nm ex8_59 hf
            refine lv_iinc (v := x8_59) (lv' := [(8, .int x8_59), (9, .int z_57), (0, .ref aR), (1, .int x1), (2, .int x2), (5, .long x5_49), (7, .int x7_50)]) hx hb dX7_divisor_119 hl (k := 6) rfl (by rw [ex8_59]; rfl) (by decide) rfl (fun ls hl => ?_)
            refine lv_goto (tgt := 9) hx hb dX7_divisor_122 (by decide) ?_
            exact ih x5_49 x7_50 x8_59 o_48 hf _ _ hP hD hS _ (lv_sub hl [2, 3, 4, 5, 6, 0] rfl) hX_48
          · have hf := xb_f c_58 hf
            refine lv_iload hx hb dX7_divisor_51 (lv_at hl 5 rfl) ?_
            obtain ⟨o_62, ho_62, hk_62⟩ := bn1_s hf
            have J_74_62 : ∀ (z_63 : Int32), some (z_63) = some o_62 → ∀ (H : Heap) (locs : List Loc), va_P D vwCl [(aR, .inr (7, [.int R_triples, .ref aR_facts, .int R_patterns, .ref aR_cells, .ref aR_told, .ref aR_of, .ref aR_hints, .int R_filters, .ref aR_looks, .ref aR_kinds, .ref aR_values, .ref aR_isSafe, .ref aR_sizes, .ref aR_spreads, .ref aR_isSeen, .ref aR_estimates, .ref aR_rest, .int R_steps, .ref aR_order, .ref aR_joins, .ref aR_actsBehind, .ref aR_upTo, .int R_filtersThen, .ref aR_behind, .int R_rows, .ref aR_row, .ref aR_found, .int R_comes, .ref aR_next, .ref aR_nextFound, .int R_kept, .int R_hasRoom, .ref aR_keep, .ref aR_isTaken])), (aR_spreads, .inl (cI, 64, .inl R_spreads))] H → va_D A [(aR, .inr (7, [.int R_triples, .ref aR_facts, .int R_patterns, .ref aR_cells, .ref aR_told, .ref aR_of, .ref aR_hints, .int R_filters, .ref aR_looks, .ref aR_kinds, .ref aR_values, .ref aR_isSafe, .ref aR_sizes, .ref aR_spreads, .ref aR_isSeen, .ref aR_estimates, .ref aR_rest, .int R_steps, .ref aR_order, .ref aR_joins, .ref aR_actsBehind, .ref aR_upTo, .int R_filtersThen, .ref aR_behind, .int R_rows, .ref aR_row, .ref aR_found, .int R_comes, .ref aR_next, .ref aR_nextFound, .int R_kept, .int R_hasRoom, .ref aR_keep, .ref aR_isTaken])), (aR_spreads, .inl (cI, 64, .inl R_spreads))] → va_S A s.heap H locs → ∀ ls : Array Slot, lv_has ls 11 [(0, .ref aR), (1, .int x1), (2, .int x2), (5, .long x5_49), (7, .int x7_50), (8, .int x8_51), (9, .int z_57)] → W p l e rm_f_JoinOrderModel_divisor s m args below meth c H locs 0 0 Q (F0 m 74 ls [.int z_63]) := by
              intro z_63 hf H locs hP hD hS ls hl
              have hf := hk_62 _ hf
              refine lv_istore (lv' := [(10, .int z_63), (0, .ref aR), (1, .int x1), (2, .int x2), (5, .long x5_49), (7, .int x7_50), (8, .int x8_51), (9, .int z_57)]) hx hb dX7_divisor_74 hl (by decide) rfl (fun ls hl => ?_)
              refine lv_iload hx hb dX7_divisor_76 (lv_at hl 5 rfl) ?_
              obtain ⟨o_66, ho_66, hk_66⟩ := bn1_s hf
              have J_95_66 : ∀ (z_67 : Int32), some (z_67) = some o_66 → ∀ (H : Heap) (locs : List Loc), va_P D vwCl [(aR, .inr (7, [.int R_triples, .ref aR_facts, .int R_patterns, .ref aR_cells, .ref aR_told, .ref aR_of, .ref aR_hints, .int R_filters, .ref aR_looks, .ref aR_kinds, .ref aR_values, .ref aR_isSafe, .ref aR_sizes, .ref aR_spreads, .ref aR_isSeen, .ref aR_estimates, .ref aR_rest, .int R_steps, .ref aR_order, .ref aR_joins, .ref aR_actsBehind, .ref aR_upTo, .int R_filtersThen, .ref aR_behind, .int R_rows, .ref aR_row, .ref aR_found, .int R_comes, .ref aR_next, .ref aR_nextFound, .int R_kept, .int R_hasRoom, .ref aR_keep, .ref aR_isTaken])), (aR_spreads, .inl (cI, 64, .inl R_spreads))] H → va_D A [(aR, .inr (7, [.int R_triples, .ref aR_facts, .int R_patterns, .ref aR_cells, .ref aR_told, .ref aR_of, .ref aR_hints, .int R_filters, .ref aR_looks, .ref aR_kinds, .ref aR_values, .ref aR_isSafe, .ref aR_sizes, .ref aR_spreads, .ref aR_isSeen, .ref aR_estimates, .ref aR_rest, .int R_steps, .ref aR_order, .ref aR_joins, .ref aR_actsBehind, .ref aR_upTo, .int R_filtersThen, .ref aR_behind, .int R_rows, .ref aR_row, .ref aR_found, .int R_comes, .ref aR_next, .ref aR_nextFound, .int R_kept, .int R_hasRoom, .ref aR_keep, .ref aR_isTaken])), (aR_spreads, .inl (cI, 64, .inl R_spreads))] → va_S A s.heap H locs → ∀ ls : Array Slot, lv_has ls 11 [(0, .ref aR), (1, .int x1), (2, .int x2), (5, .long x5_49), (8, .int x8_51), (10, .int z_63)] → W p l e rm_f_JoinOrderModel_divisor s m args below meth c H locs 0 0 Q (F0 m 95 ls [.int z_67]) := by
                intro z_67 hf H locs hP hD hS ls hl
                have hf := hk_66 _ hf
                refine lv_istore (lv' := [(7, .int z_67), (0, .ref aR), (1, .int x1), (2, .int x2), (5, .long x5_49), (8, .int x8_51), (10, .int z_63)]) hx hb dX7_divisor_95 hl (by decide) rfl (fun ls hl => ?_)
                refine lv_lload hx hb dX7_divisor_97 (lv_at hl 4 rfl) ?_
                refine lv_ldc2 (v := (10000000000000000 : Int64)) hx hb hown (htg _ kw_752) dX7_divisor_99 ?_
                refine W.lcmp hx hb dX7_divisor_102 ?_
                refine lv_if_le (tgt := 111) hx hb dX7_divisor_103 (by decide) (fun c_68 => ?_) (fun c_68 => ?_)
                · have hf := xb_t c_68 hf
                  refine lv_lload hx hb dX7_divisor_111 (lv_at hl 4 rfl) ?_
                  refine lv_iload hx hb dX7_divisor_113 (lv_at hl 6 rfl) ?_
                  refine lv_i2l hx hb dX7_divisor_115 rfl ?_
                  refine lv_lmul hx hb dX7_divisor_116 ?_
                  refine lv_topl (fun x5_69 ex5_69 => ?_)
                  have hf := nm_nm ex5_69 hf
                  refine lv_lstore (lv' := [(5, .long x5_69), (7, .int z_67), (0, .ref aR), (1, .int x1), (2, .int x2), (8, .int x8_51), (10, .int z_63)]) hx hb dX7_divisor_117 hl (by decide) rfl (fun ls hl => ?_)
                  obtain ⟨x8_70, ex8_70⟩ : ∃ y : Int32, y = x8_51 + (1 : Int32) := ⟨_, rfl⟩
                  have hf := nm_nm ex8_70 hf
                  refine lv_iinc (v := x8_70) (lv' := [(8, .int x8_70), (5, .long x5_69), (7, .int z_67), (0, .ref aR), (1, .int x1), (2, .int x2), (10, .int z_63)]) hx hb dX7_divisor_119 hl (k := 5) rfl (by rw [ex8_70]; rfl) (by decide) rfl (fun ls hl => ?_)
                  refine lv_goto (tgt := 9) hx hb dX7_divisor_122 (by decide) ?_
                  exact ih x5_69 z_67 x8_70 o_48 hf _ _ hP hD hS _ (lv_sub hl [3, 4, 5, 1, 2, 0] rfl) hX_48
                · have hf := xb_f c_68 hf
                  refine lv_lload hx hb dX7_divisor_106 (lv_at hl 4 rfl) ?_
                  refine lv_goto (tgt := 117) hx hb dX7_divisor_108 (by decide) ?_
                  refine lv_lstore (lv' := [(5, .long x5_49), (7, .int z_67), (0, .ref aR), (1, .int x1), (2, .int x2), (8, .int x8_51), (10, .int z_63)]) hx hb dX7_divisor_117 hl (by decide) rfl (fun ls hl => ?_)
                  obtain ⟨x8_71, ex8_71⟩ : ∃ y : Int32, y = x8_51 + (1 : Int32) := ⟨_, rfl⟩
                  have hf := nm_nm ex8_71 hf
                  refine lv_iinc (v := x8_71) (lv' := [(8, .int x8_71), (5, .long x5_49), (7, .int z_67), (0, .ref aR), (1, .int x1), (2, .int x2), (10, .int z_63)]) hx hb dX7_divisor_119 hl (k := 5) rfl (by rw [ex8_71]; rfl) (by decide) rfl (fun ls hl => ?_)
                  refine lv_goto (tgt := 9) hx hb dX7_divisor_122 (by decide) ?_
                  exact ih x5_49 z_67 x8_71 o_48 hf _ _ hP hD hS _ (lv_sub hl [3, 4, 5, 1, 2, 0] rfl) hX_48
              have hf := ho_66
              refine lv_if_eq (tgt := 88) hx hb dX7_divisor_78 (by decide) (fun c_64 => ?_) (fun c_64 => ?_)
              · have hf := xb_t c_64 hf
                refine lv_iload hx hb dX7_divisor_88 (lv_at hl 7 rfl) ?_
                refine lv_goto (tgt := 95) hx hb dX7_divisor_90 (by decide) ?_
                exact J_95_66 z_57 hf _ _ hP hD hS _ (lv_sub hl [1, 2, 3, 4, 6, 0] rfl)
              · have hf := xb_f c_64 hf
                refine lv_iload hx hb dX7_divisor_81 (lv_at hl 7 rfl) ?_
                refine lv_iload hx hb dX7_divisor_83 (lv_at hl 5 rfl) ?_
                refine lv_icmp_ge (tgt := 93) hx hb dX7_divisor_85 (by decide) (fun c_72 => ?_) (fun c_72 => ?_)
                · have hf := xb_t c_72 hf
                  refine lv_iload hx hb dX7_divisor_93 (lv_at hl 5 rfl) ?_
                  exact J_95_66 x7_50 hf _ _ hP hD hS _ (lv_sub hl [1, 2, 3, 4, 6, 0] rfl)
                · have hf := xb_f c_72 hf
                  refine lv_iload hx hb dX7_divisor_88 (lv_at hl 7 rfl) ?_
                  refine lv_goto (tgt := 95) hx hb dX7_divisor_90 (by decide) ?_
                  exact J_95_66 z_57 hf _ _ hP hD hS _ (lv_sub hl [1, 2, 3, 4, 6, 0] rfl)
            have hf := ho_62
            refine lv_if_ne (tgt := 60) hx hb dX7_divisor_53 (by decide) (fun c_60 => ?_) (fun c_60 => ?_)
            · have hf := xb_f c_60 hf
              refine lv_iload hx hb dX7_divisor_60 (lv_at hl 0 rfl) ?_
              refine lv_iload hx hb dX7_divisor_62 (lv_at hl 5 rfl) ?_
              refine lv_icmp_le (tgt := 72) hx hb dX7_divisor_64 (by decide) (fun c_73 => ?_) (fun c_73 => ?_)
              · have hf := xb_t c_73 hf
                refine lv_iload hx hb dX7_divisor_72 (lv_at hl 5 rfl) ?_
                exact J_74_62 x7_50 hf _ _ hP hD hS _ (lv_sub hl [1, 2, 3, 4, 5, 6, 0] rfl)
              · have hf := xb_f c_73 hf
                refine lv_iload hx hb dX7_divisor_67 (lv_at hl 0 rfl) ?_
                refine lv_goto (tgt := 74) hx hb dX7_divisor_69 (by decide) ?_
                exact J_74_62 z_57 hf _ _ hP hD hS _ (lv_sub hl [1, 2, 3, 4, 5, 6, 0] rfl)
            · have hf := xb_t c_60 hf
              refine lv_iconst (v := (1 : Int32)) hx hb dX7_divisor_56 (by decide) ?_
              refine lv_goto (tgt := 74) hx hb dX7_divisor_57 (by decide) ?_
              exact J_74_62 (1 : Int32) hf _ _ hP hD hS _ (lv_sub hl [1, 2, 3, 4, 5, 6, 0] rfl)
        have hf := ho_56
        refine lv_icmp_ne (tgt := 43) hx hb dX7_divisor_25 (by decide) (fun c_54 => ?_) (fun c_54 => ?_)
        · have hf := xb_f c_54 hf
          refine lv_iconst (v := (0 : Int32)) hx hb dX7_divisor_43 (by decide) ?_
          exact J_44_56 (0 : Int32) hf _ _ hP hD hS _ hl
        · have hf := xb_t c_54 hf
          refine lv_aload_n hx hb dX7_divisor_28 rfl (lv_at hl 0 rfl) ?_
          refine va_get (D := D) (ci := 7) (v := .ref aR_spreads) (C := RX7) (T := TX7) (N := 34) hx hb htg giX7 hown hK hP 0 rfl rfl 13 (by decide) (htg _ kw_576) (fun _ h9 => h9) rfl dX7_divisor_29 ?_
          refine lv_bipush (v := (8 : Int32)) hx hb dX7_divisor_32 (by decide) ?_
          refine lv_iload hx hb dX7_divisor_34 (lv_at hl 5 rfl) ?_
          refine lv_imul hx hb dX7_divisor_36 ?_
          refine lv_iload_n hx hb dX7_divisor_37 rfl (lv_at hl 2 rfl) ?_
          refine lv_iadd hx hb dX7_divisor_38 ?_
          have g_74 : vp_in (((8 : Int32) * x8_51) + x2) 64 := gd_in hf
          have hf := gd_el hf
          refine va_iald hx hb hK hP 1 0 rfl rfl g_74 dX7_divisor_39 ?_
          refine lv_goto (tgt := 44) hx hb dX7_divisor_40 (by decide) ?_
          exact J_44_56 (R_spreads (((8 : Int32) * x8_51) + x2).toNatClampNeg) hf _ _ hP hD hS _ hl
  obtain ⟨o_48, ho_48, hk_48⟩ := bn1_s hf
  refine L_9_48 n x3 (0 : Int32) (0 : Int32) o_48 ho_48 _ _ hP hD hS _ (lv_sub hl [3, 4, 5, 2, 1, 0] rfl) (fun x5_52 hf H locs hP hD hS ls hl => ?_)
  have hf := hk_48 _ hf
  refine lv_lload hx hb dX7_divisor_125 (lv_at hl 0 rfl) ?_
  have hf := Option.some.inj hf
  cases hf
  exact x_lret (fun _ => 0) hQ hx hb hr hlk hK hP hD hS dX7_divisor_127
abbrev rm_f_JoinOrderModel_estimateOf : Room := { frames := 1, cells := 0, slots := 0, locals := 30 }
set_option maxHeartbeats 4000000 in
set_option maxRecDepth 100000 in
theorem c_f_JoinOrderModel_estimateOf (l : Launch) (D : va_G) (cI cJ cZ : ClassId) (sz : Nat) (n : Nat) (aR : Nat) (x1 : Int32) (R_triples : Int32) (aR_facts : Nat) (R_patterns : Int32) (aR_cells : Nat) (aR_told : Nat) (aR_of : Nat) (aR_hints : Nat) (R_filters : Int32) (aR_looks : Nat) (aR_kinds : Nat) (aR_values : Nat) (aR_isSafe : Nat) (aR_sizes : Nat) (aR_spreads : Nat) (aR_isSeen : Nat) (aR_estimates : Nat) (aR_rest : Nat) (R_steps : Int32) (aR_order : Nat) (aR_joins : Nat) (aR_actsBehind : Nat) (aR_upTo : Nat) (R_filtersThen : Int32) (aR_behind : Nat) (R_rows : Int32) (aR_row : Nat) (aR_found : Nat) (R_comes : Int32) (aR_next : Nat) (aR_nextFound : Nat) (R_kept : Int32) (R_hasRoom : Int32) (aR_keep : Nat) (aR_isTaken : Nat) (R_sizes : Nat → Int32) (R_spreads : Nat → Int32) {r : Int64} (hf : f_JoinOrderModel_estimateOf n x1 R_patterns R_sizes R_spreads = some r) : Met l yX7_estimateOf (.code yX7_estimateOf cX7_estimateOf 7 (some .long) :: GW) rm_f_JoinOrderModel_estimateOf (va_Pc [.ref aR, .int x1] (xP D (xT cI cJ cZ) sz [(aR, .inr (7, [.int R_triples, .ref aR_facts, .int R_patterns, .ref aR_cells, .ref aR_told, .ref aR_of, .ref aR_hints, .int R_filters, .ref aR_looks, .ref aR_kinds, .ref aR_values, .ref aR_isSafe, .ref aR_sizes, .ref aR_spreads, .ref aR_isSeen, .ref aR_estimates, .ref aR_rest, .int R_steps, .ref aR_order, .ref aR_joins, .ref aR_actsBehind, .ref aR_upTo, .int R_filtersThen, .ref aR_behind, .int R_rows, .ref aR_row, .ref aR_found, .int R_comes, .ref aR_next, .ref aR_nextFound, .int R_kept, .int R_hasRoom, .ref aR_keep, .ref aR_isTaken])), (aR_sizes, .inl (cI, 8, .inl R_sizes)), (aR_spreads, .inl (cI, 64, .inl R_spreads))])) (va_Ql (fun r2 (_ : Nat → Nat) => r2 = r) (bB D (xT cI cJ cZ) (fun _ => [(aR, .inr (7, [.int R_triples, .ref aR_facts, .int R_patterns, .ref aR_cells, .ref aR_told, .ref aR_of, .ref aR_hints, .int R_filters, .ref aR_looks, .ref aR_kinds, .ref aR_values, .ref aR_isSafe, .ref aR_sizes, .ref aR_spreads, .ref aR_isSeen, .ref aR_estimates, .ref aR_rest, .int R_steps, .ref aR_order, .ref aR_joins, .ref aR_actsBehind, .ref aR_upTo, .int R_filtersThen, .ref aR_behind, .int R_rows, .ref aR_row, .ref aR_found, .int R_comes, .ref aR_next, .ref aR_nextFound, .int R_kept, .int R_hasRoom, .ref aR_keep, .ref aR_isTaken])), (aR_sizes, .inl (cI, 8, .inl R_sizes)), (aR_spreads, .inl (cI, 64, .inl R_spreads))]) (va_A [(aR, .inr (7, [.int R_triples, .ref aR_facts, .int R_patterns, .ref aR_cells, .ref aR_told, .ref aR_of, .ref aR_hints, .int R_filters, .ref aR_looks, .ref aR_kinds, .ref aR_values, .ref aR_isSafe, .ref aR_sizes, .ref aR_spreads, .ref aR_isSeen, .ref aR_estimates, .ref aR_rest, .int R_steps, .ref aR_order, .ref aR_joins, .ref aR_actsBehind, .ref aR_upTo, .int R_filtersThen, .ref aR_behind, .int R_rows, .ref aR_row, .ref aR_found, .int R_comes, .ref aR_next, .ref aR_nextFound, .int R_kept, .int R_hasRoom, .ref aR_keep, .ref aR_isTaken])), (aR_sizes, .inl (cI, 8, .inl R_sizes)), (aR_spreads, .inl (cI, 64, .inl R_spreads))] sz)) (va_A [(aR, .inr (7, [.int R_triples, .ref aR_facts, .int R_patterns, .ref aR_cells, .ref aR_told, .ref aR_of, .ref aR_hints, .int R_filters, .ref aR_looks, .ref aR_kinds, .ref aR_values, .ref aR_isSafe, .ref aR_sizes, .ref aR_spreads, .ref aR_isSeen, .ref aR_estimates, .ref aR_rest, .int R_steps, .ref aR_order, .ref aR_joins, .ref aR_actsBehind, .ref aR_upTo, .int R_filtersThen, .ref aR_behind, .int R_rows, .ref aR_row, .ref aR_found, .int R_comes, .ref aR_next, .ref aR_nextFound, .int R_kept, .int R_hasRoom, .ref aR_keep, .ref aR_isTaken])), (aR_sizes, .inl (cI, 8, .inl R_sizes)), (aR_spreads, .inl (cI, 64, .inl R_spreads))] sz)) 0 0 (va_A [(aR, .inr (7, [.int R_triples, .ref aR_facts, .int R_patterns, .ref aR_cells, .ref aR_told, .ref aR_of, .ref aR_hints, .int R_filters, .ref aR_looks, .ref aR_kinds, .ref aR_values, .ref aR_isSafe, .ref aR_sizes, .ref aR_spreads, .ref aR_isSeen, .ref aR_estimates, .ref aR_rest, .int R_steps, .ref aR_order, .ref aR_joins, .ref aR_actsBehind, .ref aR_upTo, .int R_filtersThen, .ref aR_behind, .int R_rows, .ref aR_row, .ref aR_found, .int R_comes, .ref aR_next, .ref aR_nextFound, .int R_kept, .int R_hasRoom, .ref aR_keep, .ref aR_isTaken])), (aR_sizes, .inl (cI, 8, .inl R_sizes)), (aR_spreads, .inl (cI, 64, .inl R_spreads))] sz) := by
  refine con_start (Qc := fun A => va_Ql (fun r2 (_ : Nat → Nat) => r2 = r) (bB D (xT cI cJ cZ) (fun _ => [(aR, .inr (7, [.int R_triples, .ref aR_facts, .int R_patterns, .ref aR_cells, .ref aR_told, .ref aR_of, .ref aR_hints, .int R_filters, .ref aR_looks, .ref aR_kinds, .ref aR_values, .ref aR_isSafe, .ref aR_sizes, .ref aR_spreads, .ref aR_isSeen, .ref aR_estimates, .ref aR_rest, .int R_steps, .ref aR_order, .ref aR_joins, .ref aR_actsBehind, .ref aR_upTo, .int R_filtersThen, .ref aR_behind, .int R_rows, .ref aR_row, .ref aR_found, .int R_comes, .ref aR_next, .ref aR_nextFound, .int R_kept, .int R_hasRoom, .ref aR_keep, .ref aR_isTaken])), (aR_sizes, .inl (cI, 8, .inl R_sizes)), (aR_spreads, .inl (cI, 64, .inl R_spreads))]) A) A) (by decide) (Nat.le_of_ble_eq_true rfl) ?_
  intro p e s m args below meth c Q A hx hb hr hlk hml hown hin htg hN hK hQ hA hP hD hS ls hl
  have hl : lv_has ls 7 [(0, .ref aR), (1, .int x1)] := hl
  have hown : s.vm.findClass RX7 = some m.cls := hown
  have hf := (f_JoinOrderModel_estimateOf_u n x1 R_patterns R_sizes R_spreads).symm.trans hf
  refine lv_lconst (v := (1 : Int64)) hx hb dX7_estimateOf_0 (by decide) ?_
  refine lv_lstore_n (lv' := [(2, .long (1 : Int64)), (0, .ref aR), (1, .int x1)]) hx hb dX7_estimateOf_1 rfl hl (by decide) rfl (fun ls hl => ?_)
  refine lv_lconst (v := (1 : Int64)) hx hb dX7_estimateOf_2 (by decide) ?_
  refine lv_lstore (lv' := [(4, .long (1 : Int64)), (2, .long (1 : Int64)), (0, .ref aR), (1, .int x1)]) hx hb dX7_estimateOf_3 hl (by decide) rfl (fun ls hl => ?_)
  refine lv_iconst (v := (0 : Int32)) hx hb dX7_estimateOf_5 (by decide) ?_
  refine lv_istore (lv' := [(6, .int (0 : Int32)), (4, .long (1 : Int64)), (2, .long (1 : Int64)), (0, .ref aR), (1, .int x1)]) hx hb dX7_estimateOf_6 hl (by decide) rfl (fun ls hl => ?_)
  have L_8_14 : ∀ (k : Nat) (x2_15 : Int64) (x6_16 : Int32) (o_14 : Int64), f_JoinOrderModel_estimateOf_L0 n x1 R_patterns R_sizes k x2_15 x6_16 = some o_14 → ∀ (H : Heap) (locs : List Loc), va_P D vwCl [(aR, .inr (7, [.int R_triples, .ref aR_facts, .int R_patterns, .ref aR_cells, .ref aR_told, .ref aR_of, .ref aR_hints, .int R_filters, .ref aR_looks, .ref aR_kinds, .ref aR_values, .ref aR_isSafe, .ref aR_sizes, .ref aR_spreads, .ref aR_isSeen, .ref aR_estimates, .ref aR_rest, .int R_steps, .ref aR_order, .ref aR_joins, .ref aR_actsBehind, .ref aR_upTo, .int R_filtersThen, .ref aR_behind, .int R_rows, .ref aR_row, .ref aR_found, .int R_comes, .ref aR_next, .ref aR_nextFound, .int R_kept, .int R_hasRoom, .ref aR_keep, .ref aR_isTaken])), (aR_sizes, .inl (cI, 8, .inl R_sizes)), (aR_spreads, .inl (cI, 64, .inl R_spreads))] H → va_D A [(aR, .inr (7, [.int R_triples, .ref aR_facts, .int R_patterns, .ref aR_cells, .ref aR_told, .ref aR_of, .ref aR_hints, .int R_filters, .ref aR_looks, .ref aR_kinds, .ref aR_values, .ref aR_isSafe, .ref aR_sizes, .ref aR_spreads, .ref aR_isSeen, .ref aR_estimates, .ref aR_rest, .int R_steps, .ref aR_order, .ref aR_joins, .ref aR_actsBehind, .ref aR_upTo, .int R_filtersThen, .ref aR_behind, .int R_rows, .ref aR_row, .ref aR_found, .int R_comes, .ref aR_next, .ref aR_nextFound, .int R_kept, .int R_hasRoom, .ref aR_keep, .ref aR_isTaken])), (aR_sizes, .inl (cI, 8, .inl R_sizes)), (aR_spreads, .inl (cI, 64, .inl R_spreads))] → va_S A s.heap H locs → ∀ ls : Array Slot, lv_has ls 7 [(0, .ref aR), (1, .int x1), (2, .long x2_15), (4, .long (1 : Int64)), (6, .int x6_16)] → (∀ (x2_17 : Int64), some (x2_17) = some o_14 → ∀ (H : Heap) (locs : List Loc), va_P D vwCl [(aR, .inr (7, [.int R_triples, .ref aR_facts, .int R_patterns, .ref aR_cells, .ref aR_told, .ref aR_of, .ref aR_hints, .int R_filters, .ref aR_looks, .ref aR_kinds, .ref aR_values, .ref aR_isSafe, .ref aR_sizes, .ref aR_spreads, .ref aR_isSeen, .ref aR_estimates, .ref aR_rest, .int R_steps, .ref aR_order, .ref aR_joins, .ref aR_actsBehind, .ref aR_upTo, .int R_filtersThen, .ref aR_behind, .int R_rows, .ref aR_row, .ref aR_found, .int R_comes, .ref aR_next, .ref aR_nextFound, .int R_kept, .int R_hasRoom, .ref aR_keep, .ref aR_isTaken])), (aR_sizes, .inl (cI, 8, .inl R_sizes)), (aR_spreads, .inl (cI, 64, .inl R_spreads))] H → va_D A [(aR, .inr (7, [.int R_triples, .ref aR_facts, .int R_patterns, .ref aR_cells, .ref aR_told, .ref aR_of, .ref aR_hints, .int R_filters, .ref aR_looks, .ref aR_kinds, .ref aR_values, .ref aR_isSafe, .ref aR_sizes, .ref aR_spreads, .ref aR_isSeen, .ref aR_estimates, .ref aR_rest, .int R_steps, .ref aR_order, .ref aR_joins, .ref aR_actsBehind, .ref aR_upTo, .int R_filtersThen, .ref aR_behind, .int R_rows, .ref aR_row, .ref aR_found, .int R_comes, .ref aR_next, .ref aR_nextFound, .int R_kept, .int R_hasRoom, .ref aR_keep, .ref aR_isTaken])), (aR_sizes, .inl (cI, 8, .inl R_sizes)), (aR_spreads, .inl (cI, 64, .inl R_spreads))] → va_S A s.heap H locs → ∀ ls : Array Slot, lv_has ls 7 [(0, .ref aR), (1, .int x1), (2, .long x2_17), (4, .long (1 : Int64))] → W p l e rm_f_JoinOrderModel_estimateOf s m args below meth c H locs 0 0 Q (F0 m 48 ls [])) → W p l e rm_f_JoinOrderModel_estimateOf s m args below meth c H locs 0 0 Q (F0 m 8 ls []) := by
    intro k
    induction k with
    | zero =>
      intro x2_15 x6_16 o_14 hf
      exact absurd (((f_JoinOrderModel_estimateOf_L0_z n x1 R_patterns R_sizes x2_15 x6_16).symm.trans hf)) (fun h => by cases h)
    | succ k ih =>
      intro x2_15 x6_16 o_14 hf H locs hP hD hS ls hl hX_14
      have hf := (f_JoinOrderModel_estimateOf_L0_s n x1 R_patterns R_sizes k x2_15 x6_16).symm.trans hf
      refine lv_iload hx hb dX7_estimateOf_8 (lv_at hl 4 rfl) ?_
      refine lv_aload_n hx hb dX7_estimateOf_10 rfl (lv_at hl 0 rfl) ?_
      refine va_get (D := D) (ci := 7) (v := .int R_patterns) (C := RX7) (T := TX7) (N := 34) hx hb htg giX7 hown hK hP 0 rfl rfl 2 (by decide) (htg _ kw_565) (fun _ h9 => h9) rfl dX7_estimateOf_11 ?_
      refine lv_icmp_ge (tgt := 48) hx hb dX7_estimateOf_14 (by decide) (fun c_18 => ?_) (fun c_18 => ?_)
      · have hf := xb_t c_18 hf
        exact hX_14 x2_15 hf _ _ hP hD hS _ (lv_sub hl [0, 1, 2, 3] rfl)
      · have hf := xb_f c_18 hf
        refine lv_iload_n hx hb dX7_estimateOf_17 rfl (lv_at hl 1 rfl) ?_
        refine lv_iload hx hb dX7_estimateOf_18 (lv_at hl 4 rfl) ?_
        refine lv_ishr hx hb dX7_estimateOf_20 ?_
        refine lv_iconst (v := (1 : Int32)) hx hb dX7_estimateOf_21 (by decide) ?_
        refine lv_iand hx hb dX7_estimateOf_22 ?_
        refine lv_iconst (v := (1 : Int32)) hx hb dX7_estimateOf_23 (by decide) ?_
        refine lv_icmp_ne (tgt := 40) hx hb dX7_estimateOf_24 (by decide) (fun c_19 => ?_) (fun c_19 => ?_)
        · have hf := xb_f c_19 hf
          refine lv_lload_n hx hb dX7_estimateOf_40 rfl (lv_at hl 2 rfl) ?_
          refine lv_lstore_n (lv' := [(2, .long x2_15), (0, .ref aR), (1, .int x1), (4, .long (1 : Int64)), (6, .int x6_16)]) hx hb dX7_estimateOf_41 rfl hl (by decide) rfl (fun ls hl => ?_)
          obtain ⟨x6_20, ex6_20⟩ : ∃ y : Int32, y = x6_16 + (1 : Int32) := ⟨_, rfl⟩
          have hf := nm_nm ex6_20 hf
          refine lv_iinc (v := x6_20) (lv' := [(6, .int x6_20), (2, .long x2_15), (0, .ref aR), (1, .int x1), (4, .long (1 : Int64))]) hx hb dX7_estimateOf_42 hl (k := 4) rfl (by rw [ex6_20]; rfl) (by decide) rfl (fun ls hl => ?_)
          refine lv_goto (tgt := 8) hx hb dX7_estimateOf_45 (by decide) ?_
          exact ih x2_15 x6_20 o_14 hf _ _ hP hD hS _ (lv_sub hl [2, 3, 1, 4, 0] rfl) hX_14
        · have hf := xb_t c_19 hf
          refine lv_lload_n hx hb dX7_estimateOf_27 rfl (lv_at hl 2 rfl) ?_
          refine lv_aload_n hx hb dX7_estimateOf_28 rfl (lv_at hl 0 rfl) ?_
          refine va_get (D := D) (ci := 7) (v := .ref aR_sizes) (C := RX7) (T := TX7) (N := 34) hx hb htg giX7 hown hK hP 0 rfl rfl 12 (by decide) (htg _ kw_575) (fun _ h9 => h9) rfl dX7_estimateOf_29 ?_
          refine lv_iload hx hb dX7_estimateOf_32 (lv_at hl 4 rfl) ?_
          have g_21 : vp_in x6_16 8 := gd_in hf
          have hf := gd_el hf
          refine va_iald hx hb hK hP 1 0 rfl rfl g_21 dX7_estimateOf_34 ?_
          refine lv_i2l hx hb dX7_estimateOf_35 rfl ?_
          refine lv_lmul hx hb dX7_estimateOf_36 ?_
          refine lv_goto (tgt := 41) hx hb dX7_estimateOf_37 (by decide) ?_
          refine lv_topl (fun x2_22 ex2_22 => ?_)
          have hf := nm_nm ex2_22 hf
          refine lv_lstore_n (lv' := [(2, .long x2_22), (0, .ref aR), (1, .int x1), (4, .long (1 : Int64)), (6, .int x6_16)]) hx hb dX7_estimateOf_41 rfl hl (by decide) rfl (fun ls hl => ?_)
          obtain ⟨x6_23, ex6_23⟩ : ∃ y : Int32, y = x6_16 + (1 : Int32) := ⟨_, rfl⟩
          have hf := nm_nm ex6_23 hf
          refine lv_iinc (v := x6_23) (lv' := [(6, .int x6_23), (2, .long x2_22), (0, .ref aR), (1, .int x1), (4, .long (1 : Int64))]) hx hb dX7_estimateOf_42 hl (k := 4) rfl (by rw [ex6_23]; rfl) (by decide) rfl (fun ls hl => ?_)
          refine lv_goto (tgt := 8) hx hb dX7_estimateOf_45 (by decide) ?_
          exact ih x2_22 x6_23 o_14 hf _ _ hP hD hS _ (lv_sub hl [2, 3, 1, 4, 0] rfl) hX_14
  obtain ⟨o_14, ho_14, hk_14⟩ := bn1_s hf
  refine L_8_14 n (1 : Int64) (0 : Int32) o_14 ho_14 _ _ hP hD hS _ (lv_sub hl [3, 4, 2, 1, 0] rfl) (fun x2_17 hf H locs hP hD hS ls hl => ?_)
  have hf := hk_14 _ hf
  refine lv_iconst (v := (0 : Int32)) hx hb dX7_estimateOf_48 (by decide) ?_
  refine lv_istore (lv' := [(6, .int (0 : Int32)), (0, .ref aR), (1, .int x1), (2, .long x2_17), (4, .long (1 : Int64))]) hx hb dX7_estimateOf_49 hl (by decide) rfl (fun ls hl => ?_)
  have L_51_34 : ∀ (k : Nat) (x4_35 : Int64) (x6_36 : Int32) (o_34 : Int64), f_JoinOrderModel_estimateOf_L1 n x1 R_patterns R_spreads k x4_35 x6_36 = some o_34 → ∀ (H : Heap) (locs : List Loc), va_P D vwCl [(aR, .inr (7, [.int R_triples, .ref aR_facts, .int R_patterns, .ref aR_cells, .ref aR_told, .ref aR_of, .ref aR_hints, .int R_filters, .ref aR_looks, .ref aR_kinds, .ref aR_values, .ref aR_isSafe, .ref aR_sizes, .ref aR_spreads, .ref aR_isSeen, .ref aR_estimates, .ref aR_rest, .int R_steps, .ref aR_order, .ref aR_joins, .ref aR_actsBehind, .ref aR_upTo, .int R_filtersThen, .ref aR_behind, .int R_rows, .ref aR_row, .ref aR_found, .int R_comes, .ref aR_next, .ref aR_nextFound, .int R_kept, .int R_hasRoom, .ref aR_keep, .ref aR_isTaken])), (aR_sizes, .inl (cI, 8, .inl R_sizes)), (aR_spreads, .inl (cI, 64, .inl R_spreads))] H → va_D A [(aR, .inr (7, [.int R_triples, .ref aR_facts, .int R_patterns, .ref aR_cells, .ref aR_told, .ref aR_of, .ref aR_hints, .int R_filters, .ref aR_looks, .ref aR_kinds, .ref aR_values, .ref aR_isSafe, .ref aR_sizes, .ref aR_spreads, .ref aR_isSeen, .ref aR_estimates, .ref aR_rest, .int R_steps, .ref aR_order, .ref aR_joins, .ref aR_actsBehind, .ref aR_upTo, .int R_filtersThen, .ref aR_behind, .int R_rows, .ref aR_row, .ref aR_found, .int R_comes, .ref aR_next, .ref aR_nextFound, .int R_kept, .int R_hasRoom, .ref aR_keep, .ref aR_isTaken])), (aR_sizes, .inl (cI, 8, .inl R_sizes)), (aR_spreads, .inl (cI, 64, .inl R_spreads))] → va_S A s.heap H locs → ∀ ls : Array Slot, lv_has ls 7 [(0, .ref aR), (1, .int x1), (2, .long x2_17), (4, .long x4_35), (6, .int x6_36)] → (∀ (x4_37 : Int64), some (x4_37) = some o_34 → ∀ (H : Heap) (locs : List Loc), va_P D vwCl [(aR, .inr (7, [.int R_triples, .ref aR_facts, .int R_patterns, .ref aR_cells, .ref aR_told, .ref aR_of, .ref aR_hints, .int R_filters, .ref aR_looks, .ref aR_kinds, .ref aR_values, .ref aR_isSafe, .ref aR_sizes, .ref aR_spreads, .ref aR_isSeen, .ref aR_estimates, .ref aR_rest, .int R_steps, .ref aR_order, .ref aR_joins, .ref aR_actsBehind, .ref aR_upTo, .int R_filtersThen, .ref aR_behind, .int R_rows, .ref aR_row, .ref aR_found, .int R_comes, .ref aR_next, .ref aR_nextFound, .int R_kept, .int R_hasRoom, .ref aR_keep, .ref aR_isTaken])), (aR_sizes, .inl (cI, 8, .inl R_sizes)), (aR_spreads, .inl (cI, 64, .inl R_spreads))] H → va_D A [(aR, .inr (7, [.int R_triples, .ref aR_facts, .int R_patterns, .ref aR_cells, .ref aR_told, .ref aR_of, .ref aR_hints, .int R_filters, .ref aR_looks, .ref aR_kinds, .ref aR_values, .ref aR_isSafe, .ref aR_sizes, .ref aR_spreads, .ref aR_isSeen, .ref aR_estimates, .ref aR_rest, .int R_steps, .ref aR_order, .ref aR_joins, .ref aR_actsBehind, .ref aR_upTo, .int R_filtersThen, .ref aR_behind, .int R_rows, .ref aR_row, .ref aR_found, .int R_comes, .ref aR_next, .ref aR_nextFound, .int R_kept, .int R_hasRoom, .ref aR_keep, .ref aR_isTaken])), (aR_sizes, .inl (cI, 8, .inl R_sizes)), (aR_spreads, .inl (cI, 64, .inl R_spreads))] → va_S A s.heap H locs → ∀ ls : Array Slot, lv_has ls 7 [(2, .long x2_17), (4, .long x4_37)] → W p l e rm_f_JoinOrderModel_estimateOf s m args below meth c H locs 0 0 Q (F0 m 75 ls [])) → W p l e rm_f_JoinOrderModel_estimateOf s m args below meth c H locs 0 0 Q (F0 m 51 ls []) := by
    intro k
    induction k with
    | zero =>
      intro x4_35 x6_36 o_34 hf
      exact absurd (((f_JoinOrderModel_estimateOf_L1_z n x1 R_patterns R_spreads x4_35 x6_36).symm.trans hf)) (fun h => by cases h)
    | succ k ih =>
      intro x4_35 x6_36 o_34 hf H locs hP hD hS ls hl hX_34
      have hf := (f_JoinOrderModel_estimateOf_L1_s n x1 R_patterns R_spreads k x4_35 x6_36).symm.trans hf
      refine lv_iload hx hb dX7_estimateOf_51 (lv_at hl 4 rfl) ?_
      refine lv_bipush (v := (8 : Int32)) hx hb dX7_estimateOf_53 (by decide) ?_
      refine lv_icmp_ge (tgt := 75) hx hb dX7_estimateOf_55 (by decide) (fun c_38 => ?_) (fun c_38 => ?_)
      · have hf := xb_t c_38 hf
        exact hX_34 x4_35 hf _ _ hP hD hS _ (lv_sub hl [2, 3] rfl)
      · have hf := xb_f c_38 hf
        refine lv_aload_n hx hb dX7_estimateOf_58 rfl (lv_at hl 0 rfl) ?_
        refine lv_iload_n hx hb dX7_estimateOf_59 rfl (lv_at hl 1 rfl) ?_
        refine lv_iload hx hb dX7_estimateOf_60 (lv_at hl 4 rfl) ?_
        refine lv_lload hx hb dX7_estimateOf_62 (lv_at hl 3 rfl) ?_
        obtain ⟨r_40, hq_39, hf⟩ := bn1_c hf
        refine x_l (xrV (As := [.int x1, .int x6_36, .long x4_35]) (b := aR) (rest := []) ⟨hx, hb, hml, hown, htg⟩ (c_f_JoinOrderModel_divisor l D cI cJ cZ _ n aR x1 x6_36 x4_35 R_triples aR_facts R_patterns aR_cells aR_told aR_of aR_hints R_filters aR_looks aR_kinds aR_values aR_isSafe aR_sizes aR_spreads aR_isSeen aR_estimates aR_rest R_steps aR_order aR_joins aR_actsBehind aR_upTo R_filtersThen aR_behind R_rows aR_row aR_found R_comes aR_next aR_nextFound R_kept R_hasRoom aR_keep aR_isTaken R_spreads hq_39) kc_f_JoinOrderModel_divisor kw_748 kw_750 kp_31 kw_8 dd_f_JoinOrderModel_divisor ⟨Nat.le_of_ble_eq_true rfl, Nat.le_of_ble_eq_true rfl⟩ rfl rfl (hP.sub [0, 2] rfl) (hD.sub [0, 2] (by decide) rfl) hK hN hP (q0 := 0) rfl rfl rfl hl.1 rfl (Nat.le_of_ble_eq_true rfl) dX7_estimateOf_64 ⟨Nat.le_of_ble_eq_true rfl, Nat.le_of_ble_eq_true rfl⟩) hP hD hS hA [0, 2] [1] rfl rfl (by decide) (by decide) (fun _ H locs hP hD hS => ?_)
        have hP : va_P D vwCl [(aR_sizes, .inl (cI, 8, .inl R_sizes)), (aR, .inr (7, [.int R_triples, .ref aR_facts, .int R_patterns, .ref aR_cells, .ref aR_told, .ref aR_of, .ref aR_hints, .int R_filters, .ref aR_looks, .ref aR_kinds, .ref aR_values, .ref aR_isSafe, .ref aR_sizes, .ref aR_spreads, .ref aR_isSeen, .ref aR_estimates, .ref aR_rest, .int R_steps, .ref aR_order, .ref aR_joins, .ref aR_actsBehind, .ref aR_upTo, .int R_filtersThen, .ref aR_behind, .int R_rows, .ref aR_row, .ref aR_found, .int R_comes, .ref aR_next, .ref aR_nextFound, .int R_kept, .int R_hasRoom, .ref aR_keep, .ref aR_isTaken])), (aR_spreads, .inl (cI, 64, .inl R_spreads))] H := hP
        have hD : va_D A [(aR_sizes, .inl (cI, 8, .inl R_sizes)), (aR, .inr (7, [.int R_triples, .ref aR_facts, .int R_patterns, .ref aR_cells, .ref aR_told, .ref aR_of, .ref aR_hints, .int R_filters, .ref aR_looks, .ref aR_kinds, .ref aR_values, .ref aR_isSafe, .ref aR_sizes, .ref aR_spreads, .ref aR_isSeen, .ref aR_estimates, .ref aR_rest, .int R_steps, .ref aR_order, .ref aR_joins, .ref aR_actsBehind, .ref aR_upTo, .int R_filtersThen, .ref aR_behind, .int R_rows, .ref aR_row, .ref aR_found, .int R_comes, .ref aR_next, .ref aR_nextFound, .int R_kept, .int R_hasRoom, .ref aR_keep, .ref aR_isTaken])), (aR_spreads, .inl (cI, 64, .inl R_spreads))] := hD
        refine lv_lstore (lv' := [(4, .long r_40), (0, .ref aR), (1, .int x1), (2, .long x2_17), (6, .int x6_36)]) hx hb dX7_estimateOf_67 hl (by decide) rfl (fun ls hl => ?_)
        obtain ⟨x6_41, ex6_41⟩ : ∃ y : Int32, y = x6_36 + (1 : Int32) := ⟨_, rfl⟩
        have hf := nm_nm ex6_41 hf
        refine lv_iinc (v := x6_41) (lv' := [(6, .int x6_41), (4, .long r_40), (0, .ref aR), (1, .int x1), (2, .long x2_17)]) hx hb dX7_estimateOf_69 hl (k := 4) rfl (by rw [ex6_41]; rfl) (by decide) rfl (fun ls hl => ?_)
        refine lv_goto (tgt := 51) hx hb dX7_estimateOf_72 (by decide) ?_
        exact ih r_40 x6_41 o_34 hf _ _ (hP.sub [1, 0, 2] rfl) (hD.sub [1, 0, 2] (by decide) rfl) hS _ (lv_sub hl [2, 3, 4, 1, 0] rfl) hX_34
  obtain ⟨o_34, ho_34, hk_34⟩ := bn1_s hf
  refine L_51_34 n (1 : Int64) (0 : Int32) o_34 ho_34 _ _ hP hD hS _ (lv_sub hl [1, 2, 3, 4, 0] rfl) (fun x4_37 hf H locs hP hD hS ls hl => ?_)
  have hf := hk_34 _ hf
  refine lv_lload_n hx hb dX7_estimateOf_75 rfl (lv_at hl 0 rfl) ?_
  refine lv_lload hx hb dX7_estimateOf_76 (lv_at hl 1 rfl) ?_
  have g_42 : ¬ x4_37 = 0 := gz_in hf
  have hf := gz_el hf
  refine lv_ldiv hx hb dX7_estimateOf_78 g_42 ?_
  refine lv_lload_n hx hb dX7_estimateOf_79 rfl (lv_at hl 0 rfl) ?_
  refine lv_lload hx hb dX7_estimateOf_80 (lv_at hl 1 rfl) ?_
  refine lv_lrem hx hb dX7_estimateOf_82 g_42 ?_
  refine lv_lconst (v := (0 : Int64)) hx hb dX7_estimateOf_83 (by decide) ?_
  refine W.lcmp hx hb dX7_estimateOf_84 ?_
  refine lv_if_le (tgt := 92) hx hb dX7_estimateOf_85 (by decide) (fun c_43 => ?_) (fun c_43 => ?_)
  · have hf := xb_t c_43 hf
    refine lv_lconst (v := (0 : Int64)) hx hb dX7_estimateOf_92 (by decide) ?_
    refine lv_ladd hx hb dX7_estimateOf_93 ?_
    have hf := Option.some.inj hf
    cases hf
    exact x_lret (fun _ => 0) hQ hx hb hr hlk hK hP hD hS dX7_estimateOf_94
  · have hf := xb_f c_43 hf
    refine lv_lconst (v := (1 : Int64)) hx hb dX7_estimateOf_88 (by decide) ?_
    refine lv_goto (tgt := 93) hx hb dX7_estimateOf_89 (by decide) ?_
    refine lv_ladd hx hb dX7_estimateOf_93 ?_
    have hf := Option.some.inj hf
    cases hf
    exact x_lret (fun _ => 0) hQ hx hb hr hlk hK hP hD hS dX7_estimateOf_94
abbrev rm_f_JoinOrderModel_variablesOf : Room := { frames := 0, cells := 0, slots := 0, locals := 0 }
set_option maxHeartbeats 4000000 in
set_option maxRecDepth 100000 in
theorem c_f_JoinOrderModel_variablesOf (l : Launch) (D : va_G) (cI cJ cZ : ClassId) (sz : Nat) (n : Nat) (aR : Nat) (x1 : Int32) (R_triples : Int32) (aR_facts : Nat) (R_patterns : Int32) (aR_cells : Nat) (aR_told : Nat) (aR_of : Nat) (aR_hints : Nat) (R_filters : Int32) (aR_looks : Nat) (aR_kinds : Nat) (aR_values : Nat) (aR_isSafe : Nat) (aR_sizes : Nat) (aR_spreads : Nat) (aR_isSeen : Nat) (aR_estimates : Nat) (aR_rest : Nat) (R_steps : Int32) (aR_order : Nat) (aR_joins : Nat) (aR_actsBehind : Nat) (aR_upTo : Nat) (R_filtersThen : Int32) (aR_behind : Nat) (R_rows : Int32) (aR_row : Nat) (aR_found : Nat) (R_comes : Int32) (aR_next : Nat) (aR_nextFound : Nat) (R_kept : Int32) (R_hasRoom : Int32) (aR_keep : Nat) (aR_isTaken : Nat) (R_spreads : Nat → Int32) {r : Int32} (hf : f_JoinOrderModel_variablesOf n x1 R_patterns R_spreads = some r) : Met l yX7_variablesOf (.code yX7_variablesOf cX7_variablesOf 5 (some .int) :: GW) rm_f_JoinOrderModel_variablesOf (va_Pc [.ref aR, .int x1] (xP D (xT cI cJ cZ) sz [(aR, .inr (7, [.int R_triples, .ref aR_facts, .int R_patterns, .ref aR_cells, .ref aR_told, .ref aR_of, .ref aR_hints, .int R_filters, .ref aR_looks, .ref aR_kinds, .ref aR_values, .ref aR_isSafe, .ref aR_sizes, .ref aR_spreads, .ref aR_isSeen, .ref aR_estimates, .ref aR_rest, .int R_steps, .ref aR_order, .ref aR_joins, .ref aR_actsBehind, .ref aR_upTo, .int R_filtersThen, .ref aR_behind, .int R_rows, .ref aR_row, .ref aR_found, .int R_comes, .ref aR_next, .ref aR_nextFound, .int R_kept, .int R_hasRoom, .ref aR_keep, .ref aR_isTaken])), (aR_spreads, .inl (cI, 64, .inl R_spreads))])) (va_Qi (fun r2 (_ : Nat → Nat) => r2 = r) (bB D (xT cI cJ cZ) (fun _ => [(aR, .inr (7, [.int R_triples, .ref aR_facts, .int R_patterns, .ref aR_cells, .ref aR_told, .ref aR_of, .ref aR_hints, .int R_filters, .ref aR_looks, .ref aR_kinds, .ref aR_values, .ref aR_isSafe, .ref aR_sizes, .ref aR_spreads, .ref aR_isSeen, .ref aR_estimates, .ref aR_rest, .int R_steps, .ref aR_order, .ref aR_joins, .ref aR_actsBehind, .ref aR_upTo, .int R_filtersThen, .ref aR_behind, .int R_rows, .ref aR_row, .ref aR_found, .int R_comes, .ref aR_next, .ref aR_nextFound, .int R_kept, .int R_hasRoom, .ref aR_keep, .ref aR_isTaken])), (aR_spreads, .inl (cI, 64, .inl R_spreads))]) (va_A [(aR, .inr (7, [.int R_triples, .ref aR_facts, .int R_patterns, .ref aR_cells, .ref aR_told, .ref aR_of, .ref aR_hints, .int R_filters, .ref aR_looks, .ref aR_kinds, .ref aR_values, .ref aR_isSafe, .ref aR_sizes, .ref aR_spreads, .ref aR_isSeen, .ref aR_estimates, .ref aR_rest, .int R_steps, .ref aR_order, .ref aR_joins, .ref aR_actsBehind, .ref aR_upTo, .int R_filtersThen, .ref aR_behind, .int R_rows, .ref aR_row, .ref aR_found, .int R_comes, .ref aR_next, .ref aR_nextFound, .int R_kept, .int R_hasRoom, .ref aR_keep, .ref aR_isTaken])), (aR_spreads, .inl (cI, 64, .inl R_spreads))] sz)) (va_A [(aR, .inr (7, [.int R_triples, .ref aR_facts, .int R_patterns, .ref aR_cells, .ref aR_told, .ref aR_of, .ref aR_hints, .int R_filters, .ref aR_looks, .ref aR_kinds, .ref aR_values, .ref aR_isSafe, .ref aR_sizes, .ref aR_spreads, .ref aR_isSeen, .ref aR_estimates, .ref aR_rest, .int R_steps, .ref aR_order, .ref aR_joins, .ref aR_actsBehind, .ref aR_upTo, .int R_filtersThen, .ref aR_behind, .int R_rows, .ref aR_row, .ref aR_found, .int R_comes, .ref aR_next, .ref aR_nextFound, .int R_kept, .int R_hasRoom, .ref aR_keep, .ref aR_isTaken])), (aR_spreads, .inl (cI, 64, .inl R_spreads))] sz)) 0 0 (va_A [(aR, .inr (7, [.int R_triples, .ref aR_facts, .int R_patterns, .ref aR_cells, .ref aR_told, .ref aR_of, .ref aR_hints, .int R_filters, .ref aR_looks, .ref aR_kinds, .ref aR_values, .ref aR_isSafe, .ref aR_sizes, .ref aR_spreads, .ref aR_isSeen, .ref aR_estimates, .ref aR_rest, .int R_steps, .ref aR_order, .ref aR_joins, .ref aR_actsBehind, .ref aR_upTo, .int R_filtersThen, .ref aR_behind, .int R_rows, .ref aR_row, .ref aR_found, .int R_comes, .ref aR_next, .ref aR_nextFound, .int R_kept, .int R_hasRoom, .ref aR_keep, .ref aR_isTaken])), (aR_spreads, .inl (cI, 64, .inl R_spreads))] sz) := by
  refine con_start (Qc := fun A => va_Qi (fun r2 (_ : Nat → Nat) => r2 = r) (bB D (xT cI cJ cZ) (fun _ => [(aR, .inr (7, [.int R_triples, .ref aR_facts, .int R_patterns, .ref aR_cells, .ref aR_told, .ref aR_of, .ref aR_hints, .int R_filters, .ref aR_looks, .ref aR_kinds, .ref aR_values, .ref aR_isSafe, .ref aR_sizes, .ref aR_spreads, .ref aR_isSeen, .ref aR_estimates, .ref aR_rest, .int R_steps, .ref aR_order, .ref aR_joins, .ref aR_actsBehind, .ref aR_upTo, .int R_filtersThen, .ref aR_behind, .int R_rows, .ref aR_row, .ref aR_found, .int R_comes, .ref aR_next, .ref aR_nextFound, .int R_kept, .int R_hasRoom, .ref aR_keep, .ref aR_isTaken])), (aR_spreads, .inl (cI, 64, .inl R_spreads))]) A) A) (by decide) (Nat.le_of_ble_eq_true rfl) ?_
  intro p e s m args below meth c Q A hx hb hr hlk hml hown hin htg hN hK hQ hA hP hD hS ls hl
  have hl : lv_has ls 5 [(0, .ref aR), (1, .int x1)] := hl
  have hown : s.vm.findClass RX7 = some m.cls := hown
  have hf := (f_JoinOrderModel_variablesOf_u n x1 R_patterns R_spreads).symm.trans hf
  refine lv_iconst (v := (0 : Int32)) hx hb dX7_variablesOf_0 (by decide) ?_
  refine lv_istore_n (lv' := [(2, .int (0 : Int32)), (0, .ref aR), (1, .int x1)]) hx hb dX7_variablesOf_1 rfl hl (by decide) rfl (fun ls hl => ?_)
  refine lv_iconst (v := (0 : Int32)) hx hb dX7_variablesOf_2 (by decide) ?_
  refine lv_istore_n (lv' := [(3, .int (0 : Int32)), (2, .int (0 : Int32)), (0, .ref aR), (1, .int x1)]) hx hb dX7_variablesOf_3 rfl hl (by decide) rfl (fun ls hl => ?_)
  have L_4_67 : ∀ (k : Nat) (x2_68 : Int32) (x3_69 : Int32) (o_67 : Int32), f_JoinOrderModel_variablesOf_L0 n x1 R_patterns R_spreads k x2_68 x3_69 = some o_67 → ∀ (H : Heap) (locs : List Loc), va_P D vwCl [(aR, .inr (7, [.int R_triples, .ref aR_facts, .int R_patterns, .ref aR_cells, .ref aR_told, .ref aR_of, .ref aR_hints, .int R_filters, .ref aR_looks, .ref aR_kinds, .ref aR_values, .ref aR_isSafe, .ref aR_sizes, .ref aR_spreads, .ref aR_isSeen, .ref aR_estimates, .ref aR_rest, .int R_steps, .ref aR_order, .ref aR_joins, .ref aR_actsBehind, .ref aR_upTo, .int R_filtersThen, .ref aR_behind, .int R_rows, .ref aR_row, .ref aR_found, .int R_comes, .ref aR_next, .ref aR_nextFound, .int R_kept, .int R_hasRoom, .ref aR_keep, .ref aR_isTaken])), (aR_spreads, .inl (cI, 64, .inl R_spreads))] H → va_D A [(aR, .inr (7, [.int R_triples, .ref aR_facts, .int R_patterns, .ref aR_cells, .ref aR_told, .ref aR_of, .ref aR_hints, .int R_filters, .ref aR_looks, .ref aR_kinds, .ref aR_values, .ref aR_isSafe, .ref aR_sizes, .ref aR_spreads, .ref aR_isSeen, .ref aR_estimates, .ref aR_rest, .int R_steps, .ref aR_order, .ref aR_joins, .ref aR_actsBehind, .ref aR_upTo, .int R_filtersThen, .ref aR_behind, .int R_rows, .ref aR_row, .ref aR_found, .int R_comes, .ref aR_next, .ref aR_nextFound, .int R_kept, .int R_hasRoom, .ref aR_keep, .ref aR_isTaken])), (aR_spreads, .inl (cI, 64, .inl R_spreads))] → va_S A s.heap H locs → ∀ ls : Array Slot, lv_has ls 5 [(0, .ref aR), (1, .int x1), (2, .int x2_68), (3, .int x3_69)] → (∀ (x2_70 : Int32), some (x2_70) = some o_67 → ∀ (H : Heap) (locs : List Loc), va_P D vwCl [(aR, .inr (7, [.int R_triples, .ref aR_facts, .int R_patterns, .ref aR_cells, .ref aR_told, .ref aR_of, .ref aR_hints, .int R_filters, .ref aR_looks, .ref aR_kinds, .ref aR_values, .ref aR_isSafe, .ref aR_sizes, .ref aR_spreads, .ref aR_isSeen, .ref aR_estimates, .ref aR_rest, .int R_steps, .ref aR_order, .ref aR_joins, .ref aR_actsBehind, .ref aR_upTo, .int R_filtersThen, .ref aR_behind, .int R_rows, .ref aR_row, .ref aR_found, .int R_comes, .ref aR_next, .ref aR_nextFound, .int R_kept, .int R_hasRoom, .ref aR_keep, .ref aR_isTaken])), (aR_spreads, .inl (cI, 64, .inl R_spreads))] H → va_D A [(aR, .inr (7, [.int R_triples, .ref aR_facts, .int R_patterns, .ref aR_cells, .ref aR_told, .ref aR_of, .ref aR_hints, .int R_filters, .ref aR_looks, .ref aR_kinds, .ref aR_values, .ref aR_isSafe, .ref aR_sizes, .ref aR_spreads, .ref aR_isSeen, .ref aR_estimates, .ref aR_rest, .int R_steps, .ref aR_order, .ref aR_joins, .ref aR_actsBehind, .ref aR_upTo, .int R_filtersThen, .ref aR_behind, .int R_rows, .ref aR_row, .ref aR_found, .int R_comes, .ref aR_next, .ref aR_nextFound, .int R_kept, .int R_hasRoom, .ref aR_keep, .ref aR_isTaken])), (aR_spreads, .inl (cI, 64, .inl R_spreads))] → va_S A s.heap H locs → ∀ ls : Array Slot, lv_has ls 5 [(2, .int x2_70)] → W p l e rm_f_JoinOrderModel_variablesOf s m args below meth c H locs 0 0 Q (F0 m 69 ls [])) → W p l e rm_f_JoinOrderModel_variablesOf s m args below meth c H locs 0 0 Q (F0 m 4 ls []) := by
    intro k
    induction k with
    | zero =>
      intro x2_68 x3_69 o_67 hf
      exact absurd (((f_JoinOrderModel_variablesOf_L0_z n x1 R_patterns R_spreads x2_68 x3_69).symm.trans hf)) (fun h => by cases h)
    | succ k ih =>
      intro x2_68 x3_69 o_67 hf H locs hP hD hS ls hl hX_67
      have hf := (f_JoinOrderModel_variablesOf_L0_s n x1 R_patterns R_spreads k x2_68 x3_69).symm.trans hf
      refine lv_iload_n hx hb dX7_variablesOf_4 rfl (lv_at hl 3 rfl) ?_
      refine lv_aload_n hx hb dX7_variablesOf_5 rfl (lv_at hl 0 rfl) ?_
      refine va_get (D := D) (ci := 7) (v := .int R_patterns) (C := RX7) (T := TX7) (N := 34) hx hb htg giX7 hown hK hP 0 rfl rfl 2 (by decide) (htg _ kw_565) (fun _ h9 => h9) rfl dX7_variablesOf_6 ?_
      refine lv_icmp_ge (tgt := 69) hx hb dX7_variablesOf_9 (by decide) (fun c_71 => ?_) (fun c_71 => ?_)
      · have hf := xb_t c_71 hf
        exact hX_67 x2_68 hf _ _ hP hD hS _ (lv_sub hl [2] rfl)
      · have hf := xb_f c_71 hf
        refine lv_iconst (v := (0 : Int32)) hx hb dX7_variablesOf_12 (by decide) ?_
        refine lv_istore (lv' := [(4, .int (0 : Int32)), (0, .ref aR), (1, .int x1), (2, .int x2_68), (3, .int x3_69)]) hx hb dX7_variablesOf_13 hl (by decide) rfl (fun ls hl => ?_)
        have L_15_90 : ∀ (k : Nat) (x2_91 : Int32) (x4_92 : Int32) (o_90 : Int32), f_JoinOrderModel_variablesOf_L1 n x1 R_spreads x3_69 k x2_91 x4_92 = some o_90 → ∀ (H : Heap) (locs : List Loc), va_P D vwCl [(aR, .inr (7, [.int R_triples, .ref aR_facts, .int R_patterns, .ref aR_cells, .ref aR_told, .ref aR_of, .ref aR_hints, .int R_filters, .ref aR_looks, .ref aR_kinds, .ref aR_values, .ref aR_isSafe, .ref aR_sizes, .ref aR_spreads, .ref aR_isSeen, .ref aR_estimates, .ref aR_rest, .int R_steps, .ref aR_order, .ref aR_joins, .ref aR_actsBehind, .ref aR_upTo, .int R_filtersThen, .ref aR_behind, .int R_rows, .ref aR_row, .ref aR_found, .int R_comes, .ref aR_next, .ref aR_nextFound, .int R_kept, .int R_hasRoom, .ref aR_keep, .ref aR_isTaken])), (aR_spreads, .inl (cI, 64, .inl R_spreads))] H → va_D A [(aR, .inr (7, [.int R_triples, .ref aR_facts, .int R_patterns, .ref aR_cells, .ref aR_told, .ref aR_of, .ref aR_hints, .int R_filters, .ref aR_looks, .ref aR_kinds, .ref aR_values, .ref aR_isSafe, .ref aR_sizes, .ref aR_spreads, .ref aR_isSeen, .ref aR_estimates, .ref aR_rest, .int R_steps, .ref aR_order, .ref aR_joins, .ref aR_actsBehind, .ref aR_upTo, .int R_filtersThen, .ref aR_behind, .int R_rows, .ref aR_row, .ref aR_found, .int R_comes, .ref aR_next, .ref aR_nextFound, .int R_kept, .int R_hasRoom, .ref aR_keep, .ref aR_isTaken])), (aR_spreads, .inl (cI, 64, .inl R_spreads))] → va_S A s.heap H locs → ∀ ls : Array Slot, lv_has ls 5 [(0, .ref aR), (1, .int x1), (2, .int x2_91), (3, .int x3_69), (4, .int x4_92)] → (∀ (x2_93 : Int32), some (x2_93) = some o_90 → ∀ (H : Heap) (locs : List Loc), va_P D vwCl [(aR, .inr (7, [.int R_triples, .ref aR_facts, .int R_patterns, .ref aR_cells, .ref aR_told, .ref aR_of, .ref aR_hints, .int R_filters, .ref aR_looks, .ref aR_kinds, .ref aR_values, .ref aR_isSafe, .ref aR_sizes, .ref aR_spreads, .ref aR_isSeen, .ref aR_estimates, .ref aR_rest, .int R_steps, .ref aR_order, .ref aR_joins, .ref aR_actsBehind, .ref aR_upTo, .int R_filtersThen, .ref aR_behind, .int R_rows, .ref aR_row, .ref aR_found, .int R_comes, .ref aR_next, .ref aR_nextFound, .int R_kept, .int R_hasRoom, .ref aR_keep, .ref aR_isTaken])), (aR_spreads, .inl (cI, 64, .inl R_spreads))] H → va_D A [(aR, .inr (7, [.int R_triples, .ref aR_facts, .int R_patterns, .ref aR_cells, .ref aR_told, .ref aR_of, .ref aR_hints, .int R_filters, .ref aR_looks, .ref aR_kinds, .ref aR_values, .ref aR_isSafe, .ref aR_sizes, .ref aR_spreads, .ref aR_isSeen, .ref aR_estimates, .ref aR_rest, .int R_steps, .ref aR_order, .ref aR_joins, .ref aR_actsBehind, .ref aR_upTo, .int R_filtersThen, .ref aR_behind, .int R_rows, .ref aR_row, .ref aR_found, .int R_comes, .ref aR_next, .ref aR_nextFound, .int R_kept, .int R_hasRoom, .ref aR_keep, .ref aR_isTaken])), (aR_spreads, .inl (cI, 64, .inl R_spreads))] → va_S A s.heap H locs → ∀ ls : Array Slot, lv_has ls 5 [(0, .ref aR), (1, .int x1), (2, .int x2_93), (3, .int x3_69)] → W p l e rm_f_JoinOrderModel_variablesOf s m args below meth c H locs 0 0 Q (F0 m 63 ls [])) → W p l e rm_f_JoinOrderModel_variablesOf s m args below meth c H locs 0 0 Q (F0 m 15 ls []) := by
          intro k
          induction k with
          | zero =>
            intro x2_91 x4_92 o_90 hf
            exact absurd (((f_JoinOrderModel_variablesOf_L1_z n x1 R_spreads x3_69 x2_91 x4_92).symm.trans hf)) (fun h => by cases h)
          | succ k ih =>
            intro x2_91 x4_92 o_90 hf H locs hP hD hS ls hl hX_90
            have hf := (f_JoinOrderModel_variablesOf_L1_s n x1 R_spreads x3_69 k x2_91 x4_92).symm.trans hf
            refine lv_iload hx hb dX7_variablesOf_15 (lv_at hl 4 rfl) ?_
            refine lv_bipush (v := (8 : Int32)) hx hb dX7_variablesOf_17 (by decide) ?_
            refine lv_icmp_ge (tgt := 63) hx hb dX7_variablesOf_19 (by decide) (fun c_94 => ?_) (fun c_94 => ?_)
            · have hf := xb_t c_94 hf
              exact hX_90 x2_91 hf _ _ hP hD hS _ (lv_sub hl [0, 1, 2, 3] rfl)
            · have hf := xb_f c_94 hf
              refine lv_iload_n hx hb dX7_variablesOf_22 rfl (lv_at hl 1 rfl) ?_
              refine lv_iload_n hx hb dX7_variablesOf_23 rfl (lv_at hl 3 rfl) ?_
              refine lv_ishr hx hb dX7_variablesOf_24 ?_
              refine lv_iconst (v := (1 : Int32)) hx hb dX7_variablesOf_25 (by decide) ?_
              refine lv_iand hx hb dX7_variablesOf_26 ?_
              refine lv_iconst (v := (1 : Int32)) hx hb dX7_variablesOf_27 (by decide) ?_
              refine lv_icmp_ne (tgt := 55) hx hb dX7_variablesOf_28 (by decide) (fun c_95 => ?_) (fun c_95 => ?_)
              · have hf := xb_f c_95 hf
                refine lv_iload_n hx hb dX7_variablesOf_55 rfl (lv_at hl 2 rfl) ?_
                refine lv_istore_n (lv' := [(2, .int x2_91), (0, .ref aR), (1, .int x1), (3, .int x3_69), (4, .int x4_92)]) hx hb dX7_variablesOf_56 rfl hl (by decide) rfl (fun ls hl => ?_)
                obtain ⟨x4_96, ex4_96⟩ : ∃ y : Int32, y = x4_92 + (1 : Int32) := ⟨_, rfl⟩
                have hf := nm_nm ex4_96 hf
                refine lv_iinc (v := x4_96) (lv' := [(4, .int x4_96), (2, .int x2_91), (0, .ref aR), (1, .int x1), (3, .int x3_69)]) hx hb dX7_variablesOf_57 hl (k := 4) rfl (by rw [ex4_96]; rfl) (by decide) rfl (fun ls hl => ?_)
                refine lv_goto (tgt := 15) hx hb dX7_variablesOf_60 (by decide) ?_
                exact ih x2_91 x4_96 o_90 hf _ _ hP hD hS _ (lv_sub hl [2, 3, 1, 4, 0] rfl) hX_90
              · have hf := xb_t c_95 hf
                refine lv_aload_n hx hb dX7_variablesOf_31 rfl (lv_at hl 0 rfl) ?_
                refine va_get (D := D) (ci := 7) (v := .ref aR_spreads) (C := RX7) (T := TX7) (N := 34) hx hb htg giX7 hown hK hP 0 rfl rfl 13 (by decide) (htg _ kw_576) (fun _ h9 => h9) rfl dX7_variablesOf_32 ?_
                refine lv_bipush (v := (8 : Int32)) hx hb dX7_variablesOf_35 (by decide) ?_
                refine lv_iload_n hx hb dX7_variablesOf_37 rfl (lv_at hl 3 rfl) ?_
                refine lv_imul hx hb dX7_variablesOf_38 ?_
                refine lv_iload hx hb dX7_variablesOf_39 (lv_at hl 4 rfl) ?_
                refine lv_iadd hx hb dX7_variablesOf_41 ?_
                have g_97 : vp_in (((8 : Int32) * x3_69) + x4_92) 64 := gd_in hf
                have hf := gd_el hf
                refine va_iald hx hb hK hP 1 0 rfl rfl g_97 dX7_variablesOf_42 ?_
                refine lv_if_le (tgt := 55) hx hb dX7_variablesOf_43 (by decide) (fun c_98 => ?_) (fun c_98 => ?_)
                · have hf := xb_t c_98 hf
                  refine lv_iload_n hx hb dX7_variablesOf_55 rfl (lv_at hl 2 rfl) ?_
                  refine lv_istore_n (lv' := [(2, .int x2_91), (0, .ref aR), (1, .int x1), (3, .int x3_69), (4, .int x4_92)]) hx hb dX7_variablesOf_56 rfl hl (by decide) rfl (fun ls hl => ?_)
                  obtain ⟨x4_99, ex4_99⟩ : ∃ y : Int32, y = x4_92 + (1 : Int32) := ⟨_, rfl⟩
                  have hf := nm_nm ex4_99 hf
                  refine lv_iinc (v := x4_99) (lv' := [(4, .int x4_99), (2, .int x2_91), (0, .ref aR), (1, .int x1), (3, .int x3_69)]) hx hb dX7_variablesOf_57 hl (k := 4) rfl (by rw [ex4_99]; rfl) (by decide) rfl (fun ls hl => ?_)
                  refine lv_goto (tgt := 15) hx hb dX7_variablesOf_60 (by decide) ?_
                  exact ih x2_91 x4_99 o_90 hf _ _ hP hD hS _ (lv_sub hl [2, 3, 1, 4, 0] rfl) hX_90
                · have hf := xb_f c_98 hf
                  refine lv_iload_n hx hb dX7_variablesOf_46 rfl (lv_at hl 2 rfl) ?_
                  refine lv_iconst (v := (1 : Int32)) hx hb dX7_variablesOf_47 (by decide) ?_
                  refine lv_iload hx hb dX7_variablesOf_48 (lv_at hl 4 rfl) ?_
                  refine lv_ishl hx hb dX7_variablesOf_50 ?_
                  refine lv_ior hx hb dX7_variablesOf_51 ?_
                  refine lv_goto (tgt := 56) hx hb dX7_variablesOf_52 (by decide) ?_
                  refine lv_topi (fun x2_100 ex2_100 => ?_)
                  have hf := nm_nm ex2_100 hf
                  refine lv_istore_n (lv' := [(2, .int x2_100), (0, .ref aR), (1, .int x1), (3, .int x3_69), (4, .int x4_92)]) hx hb dX7_variablesOf_56 rfl hl (by decide) rfl (fun ls hl => ?_)
                  obtain ⟨x4_101, ex4_101⟩ : ∃ y : Int32, y = x4_92 + (1 : Int32) := ⟨_, rfl⟩
                  have hf := nm_nm ex4_101 hf
                  refine lv_iinc (v := x4_101) (lv' := [(4, .int x4_101), (2, .int x2_100), (0, .ref aR), (1, .int x1), (3, .int x3_69)]) hx hb dX7_variablesOf_57 hl (k := 4) rfl (by rw [ex4_101]; rfl) (by decide) rfl (fun ls hl => ?_)
                  refine lv_goto (tgt := 15) hx hb dX7_variablesOf_60 (by decide) ?_
                  exact ih x2_100 x4_101 o_90 hf _ _ hP hD hS _ (lv_sub hl [2, 3, 1, 4, 0] rfl) hX_90
        obtain ⟨o_90, ho_90, hk_90⟩ := bn1_s hf
        refine L_15_90 n x2_68 (0 : Int32) o_90 ho_90 _ _ hP hD hS _ (lv_sub hl [1, 2, 3, 4, 0] rfl) (fun x2_93 hf H locs hP hD hS ls hl => ?_)
        have hf := hk_90 _ hf
        obtain ⟨x3_102, ex3_102⟩ : ∃ y : Int32, y = x3_69 + (1 : Int32) := ⟨_, rfl⟩
        have hf := nm_nm ex3_102 hf
        refine lv_iinc (v := x3_102) (lv' := [(3, .int x3_102), (0, .ref aR), (1, .int x1), (2, .int x2_93)]) hx hb dX7_variablesOf_63 hl (k := 3) rfl (by rw [ex3_102]; rfl) (by decide) rfl (fun ls hl => ?_)
        refine lv_goto (tgt := 4) hx hb dX7_variablesOf_66 (by decide) ?_
        exact ih x2_93 x3_102 o_67 hf _ _ hP hD hS _ (lv_sub hl [1, 2, 3, 0] rfl) hX_67
  obtain ⟨o_67, ho_67, hk_67⟩ := bn1_s hf
  refine L_4_67 n (0 : Int32) (0 : Int32) o_67 ho_67 _ _ hP hD hS _ (lv_sub hl [2, 3, 1, 0] rfl) (fun x2_70 hf H locs hP hD hS ls hl => ?_)
  have hf := hk_67 _ hf
  refine lv_iload_n hx hb dX7_variablesOf_69 rfl (lv_at hl 0 rfl) ?_
  have hf := Option.some.inj hf
  cases hf
  exact x_iret (fun _ => 0) hQ hx hb hr hlk hK hP hD hS dX7_variablesOf_70
abbrev rm_f_JoinOrderModel_mayCome : Room := { frames := 1, cells := 0, slots := 0, locals := 24 }
set_option maxHeartbeats 4000000 in
set_option maxRecDepth 100000 in
theorem c_f_JoinOrderModel_mayCome (l : Launch) (D : va_G) (cI cJ cZ : ClassId) (sz : Nat) (n : Nat) (aR : Nat) (x1 : Int32) (x2 : Int32) (R_triples : Int32) (aR_facts : Nat) (R_patterns : Int32) (aR_cells : Nat) (aR_told : Nat) (aR_of : Nat) (aR_hints : Nat) (R_filters : Int32) (aR_looks : Nat) (aR_kinds : Nat) (aR_values : Nat) (aR_isSafe : Nat) (aR_sizes : Nat) (aR_spreads : Nat) (aR_isSeen : Nat) (aR_estimates : Nat) (aR_rest : Nat) (R_steps : Int32) (aR_order : Nat) (aR_joins : Nat) (aR_actsBehind : Nat) (aR_upTo : Nat) (R_filtersThen : Int32) (aR_behind : Nat) (R_rows : Int32) (aR_row : Nat) (aR_found : Nat) (R_comes : Int32) (aR_next : Nat) (aR_nextFound : Nat) (R_kept : Int32) (R_hasRoom : Int32) (aR_keep : Nat) (aR_isTaken : Nat) (R_hints : Nat → Int32) (R_spreads : Nat → Int32) {r : Int32} (hf : f_JoinOrderModel_mayCome n x1 x2 R_patterns R_hints R_spreads = some r) : Met l yX7_mayCome (.code yX7_mayCome cX7_mayCome 8 (some .int) :: GW) rm_f_JoinOrderModel_mayCome (va_Pc [.ref aR, .int x1, .int x2] (xP D (xT cI cJ cZ) sz [(aR, .inr (7, [.int R_triples, .ref aR_facts, .int R_patterns, .ref aR_cells, .ref aR_told, .ref aR_of, .ref aR_hints, .int R_filters, .ref aR_looks, .ref aR_kinds, .ref aR_values, .ref aR_isSafe, .ref aR_sizes, .ref aR_spreads, .ref aR_isSeen, .ref aR_estimates, .ref aR_rest, .int R_steps, .ref aR_order, .ref aR_joins, .ref aR_actsBehind, .ref aR_upTo, .int R_filtersThen, .ref aR_behind, .int R_rows, .ref aR_row, .ref aR_found, .int R_comes, .ref aR_next, .ref aR_nextFound, .int R_kept, .int R_hasRoom, .ref aR_keep, .ref aR_isTaken])), (aR_hints, .inl (cZ, 64, .inl R_hints)), (aR_spreads, .inl (cI, 64, .inl R_spreads))])) (va_Qi (fun r2 (_ : Nat → Nat) => r2 = r) (bB D (xT cI cJ cZ) (fun _ => [(aR, .inr (7, [.int R_triples, .ref aR_facts, .int R_patterns, .ref aR_cells, .ref aR_told, .ref aR_of, .ref aR_hints, .int R_filters, .ref aR_looks, .ref aR_kinds, .ref aR_values, .ref aR_isSafe, .ref aR_sizes, .ref aR_spreads, .ref aR_isSeen, .ref aR_estimates, .ref aR_rest, .int R_steps, .ref aR_order, .ref aR_joins, .ref aR_actsBehind, .ref aR_upTo, .int R_filtersThen, .ref aR_behind, .int R_rows, .ref aR_row, .ref aR_found, .int R_comes, .ref aR_next, .ref aR_nextFound, .int R_kept, .int R_hasRoom, .ref aR_keep, .ref aR_isTaken])), (aR_hints, .inl (cZ, 64, .inl R_hints)), (aR_spreads, .inl (cI, 64, .inl R_spreads))]) (va_A [(aR, .inr (7, [.int R_triples, .ref aR_facts, .int R_patterns, .ref aR_cells, .ref aR_told, .ref aR_of, .ref aR_hints, .int R_filters, .ref aR_looks, .ref aR_kinds, .ref aR_values, .ref aR_isSafe, .ref aR_sizes, .ref aR_spreads, .ref aR_isSeen, .ref aR_estimates, .ref aR_rest, .int R_steps, .ref aR_order, .ref aR_joins, .ref aR_actsBehind, .ref aR_upTo, .int R_filtersThen, .ref aR_behind, .int R_rows, .ref aR_row, .ref aR_found, .int R_comes, .ref aR_next, .ref aR_nextFound, .int R_kept, .int R_hasRoom, .ref aR_keep, .ref aR_isTaken])), (aR_hints, .inl (cZ, 64, .inl R_hints)), (aR_spreads, .inl (cI, 64, .inl R_spreads))] sz)) (va_A [(aR, .inr (7, [.int R_triples, .ref aR_facts, .int R_patterns, .ref aR_cells, .ref aR_told, .ref aR_of, .ref aR_hints, .int R_filters, .ref aR_looks, .ref aR_kinds, .ref aR_values, .ref aR_isSafe, .ref aR_sizes, .ref aR_spreads, .ref aR_isSeen, .ref aR_estimates, .ref aR_rest, .int R_steps, .ref aR_order, .ref aR_joins, .ref aR_actsBehind, .ref aR_upTo, .int R_filtersThen, .ref aR_behind, .int R_rows, .ref aR_row, .ref aR_found, .int R_comes, .ref aR_next, .ref aR_nextFound, .int R_kept, .int R_hasRoom, .ref aR_keep, .ref aR_isTaken])), (aR_hints, .inl (cZ, 64, .inl R_hints)), (aR_spreads, .inl (cI, 64, .inl R_spreads))] sz)) 0 0 (va_A [(aR, .inr (7, [.int R_triples, .ref aR_facts, .int R_patterns, .ref aR_cells, .ref aR_told, .ref aR_of, .ref aR_hints, .int R_filters, .ref aR_looks, .ref aR_kinds, .ref aR_values, .ref aR_isSafe, .ref aR_sizes, .ref aR_spreads, .ref aR_isSeen, .ref aR_estimates, .ref aR_rest, .int R_steps, .ref aR_order, .ref aR_joins, .ref aR_actsBehind, .ref aR_upTo, .int R_filtersThen, .ref aR_behind, .int R_rows, .ref aR_row, .ref aR_found, .int R_comes, .ref aR_next, .ref aR_nextFound, .int R_kept, .int R_hasRoom, .ref aR_keep, .ref aR_isTaken])), (aR_hints, .inl (cZ, 64, .inl R_hints)), (aR_spreads, .inl (cI, 64, .inl R_spreads))] sz) := by
  refine con_start (Qc := fun A => va_Qi (fun r2 (_ : Nat → Nat) => r2 = r) (bB D (xT cI cJ cZ) (fun _ => [(aR, .inr (7, [.int R_triples, .ref aR_facts, .int R_patterns, .ref aR_cells, .ref aR_told, .ref aR_of, .ref aR_hints, .int R_filters, .ref aR_looks, .ref aR_kinds, .ref aR_values, .ref aR_isSafe, .ref aR_sizes, .ref aR_spreads, .ref aR_isSeen, .ref aR_estimates, .ref aR_rest, .int R_steps, .ref aR_order, .ref aR_joins, .ref aR_actsBehind, .ref aR_upTo, .int R_filtersThen, .ref aR_behind, .int R_rows, .ref aR_row, .ref aR_found, .int R_comes, .ref aR_next, .ref aR_nextFound, .int R_kept, .int R_hasRoom, .ref aR_keep, .ref aR_isTaken])), (aR_hints, .inl (cZ, 64, .inl R_hints)), (aR_spreads, .inl (cI, 64, .inl R_spreads))]) A) A) (by decide) (Nat.le_of_ble_eq_true rfl) ?_
  intro p e s m args below meth c Q A hx hb hr hlk hml hown hin htg hN hK hQ hA hP hD hS ls hl
  have hl : lv_has ls 8 [(0, .ref aR), (1, .int x1), (2, .int x2)] := hl
  have hown : s.vm.findClass RX7 = some m.cls := hown
  have hf := (f_JoinOrderModel_mayCome_u n x1 x2 R_patterns R_hints R_spreads).symm.trans hf
  refine lv_iconst (v := (0 : Int32)) hx hb dX7_mayCome_0 (by decide) ?_
  refine lv_istore_n (lv' := [(3, .int (0 : Int32)), (0, .ref aR), (1, .int x1), (2, .int x2)]) hx hb dX7_mayCome_1 rfl hl (by decide) rfl (fun ls hl => ?_)
  refine lv_iconst (v := (0 : Int32)) hx hb dX7_mayCome_2 (by decide) ?_
  refine lv_istore (lv' := [(4, .int (0 : Int32)), (3, .int (0 : Int32)), (0, .ref aR), (1, .int x1), (2, .int x2)]) hx hb dX7_mayCome_3 hl (by decide) rfl (fun ls hl => ?_)
  refine lv_iconst (v := (0 : Int32)) hx hb dX7_mayCome_5 (by decide) ?_
  refine lv_istore (lv' := [(5, .int (0 : Int32)), (4, .int (0 : Int32)), (3, .int (0 : Int32)), (0, .ref aR), (1, .int x1), (2, .int x2)]) hx hb dX7_mayCome_6 hl (by decide) rfl (fun ls hl => ?_)
  have L_8_108 : ∀ (k : Nat) (x3_109 : Int32) (x4_110 : Int32) (x5_111 : Int32) (o_108 : (Int32 × Int32)), f_JoinOrderModel_mayCome_L0 n x1 x2 R_patterns R_hints R_spreads k x3_109 x4_110 x5_111 = some o_108 → ∀ (H : Heap) (locs : List Loc), va_P D vwCl [(aR, .inr (7, [.int R_triples, .ref aR_facts, .int R_patterns, .ref aR_cells, .ref aR_told, .ref aR_of, .ref aR_hints, .int R_filters, .ref aR_looks, .ref aR_kinds, .ref aR_values, .ref aR_isSafe, .ref aR_sizes, .ref aR_spreads, .ref aR_isSeen, .ref aR_estimates, .ref aR_rest, .int R_steps, .ref aR_order, .ref aR_joins, .ref aR_actsBehind, .ref aR_upTo, .int R_filtersThen, .ref aR_behind, .int R_rows, .ref aR_row, .ref aR_found, .int R_comes, .ref aR_next, .ref aR_nextFound, .int R_kept, .int R_hasRoom, .ref aR_keep, .ref aR_isTaken])), (aR_hints, .inl (cZ, 64, .inl R_hints)), (aR_spreads, .inl (cI, 64, .inl R_spreads))] H → va_D A [(aR, .inr (7, [.int R_triples, .ref aR_facts, .int R_patterns, .ref aR_cells, .ref aR_told, .ref aR_of, .ref aR_hints, .int R_filters, .ref aR_looks, .ref aR_kinds, .ref aR_values, .ref aR_isSafe, .ref aR_sizes, .ref aR_spreads, .ref aR_isSeen, .ref aR_estimates, .ref aR_rest, .int R_steps, .ref aR_order, .ref aR_joins, .ref aR_actsBehind, .ref aR_upTo, .int R_filtersThen, .ref aR_behind, .int R_rows, .ref aR_row, .ref aR_found, .int R_comes, .ref aR_next, .ref aR_nextFound, .int R_kept, .int R_hasRoom, .ref aR_keep, .ref aR_isTaken])), (aR_hints, .inl (cZ, 64, .inl R_hints)), (aR_spreads, .inl (cI, 64, .inl R_spreads))] → va_S A s.heap H locs → ∀ ls : Array Slot, lv_has ls 8 [(0, .ref aR), (1, .int x1), (2, .int x2), (3, .int x3_109), (4, .int x4_110), (5, .int x5_111)] → (∀ (x3_112 : Int32) (x4_113 : Int32), some ((x3_112, x4_113)) = some o_108 → ∀ (H : Heap) (locs : List Loc), va_P D vwCl [(aR, .inr (7, [.int R_triples, .ref aR_facts, .int R_patterns, .ref aR_cells, .ref aR_told, .ref aR_of, .ref aR_hints, .int R_filters, .ref aR_looks, .ref aR_kinds, .ref aR_values, .ref aR_isSafe, .ref aR_sizes, .ref aR_spreads, .ref aR_isSeen, .ref aR_estimates, .ref aR_rest, .int R_steps, .ref aR_order, .ref aR_joins, .ref aR_actsBehind, .ref aR_upTo, .int R_filtersThen, .ref aR_behind, .int R_rows, .ref aR_row, .ref aR_found, .int R_comes, .ref aR_next, .ref aR_nextFound, .int R_kept, .int R_hasRoom, .ref aR_keep, .ref aR_isTaken])), (aR_hints, .inl (cZ, 64, .inl R_hints)), (aR_spreads, .inl (cI, 64, .inl R_spreads))] H → va_D A [(aR, .inr (7, [.int R_triples, .ref aR_facts, .int R_patterns, .ref aR_cells, .ref aR_told, .ref aR_of, .ref aR_hints, .int R_filters, .ref aR_looks, .ref aR_kinds, .ref aR_values, .ref aR_isSafe, .ref aR_sizes, .ref aR_spreads, .ref aR_isSeen, .ref aR_estimates, .ref aR_rest, .int R_steps, .ref aR_order, .ref aR_joins, .ref aR_actsBehind, .ref aR_upTo, .int R_filtersThen, .ref aR_behind, .int R_rows, .ref aR_row, .ref aR_found, .int R_comes, .ref aR_next, .ref aR_nextFound, .int R_kept, .int R_hasRoom, .ref aR_keep, .ref aR_isTaken])), (aR_hints, .inl (cZ, 64, .inl R_hints)), (aR_spreads, .inl (cI, 64, .inl R_spreads))] → va_S A s.heap H locs → ∀ ls : Array Slot, lv_has ls 8 [(3, .int x3_112), (4, .int x4_113)] → W p l e rm_f_JoinOrderModel_mayCome s m args below meth c H locs 0 0 Q (F0 m 157 ls [])) → W p l e rm_f_JoinOrderModel_mayCome s m args below meth c H locs 0 0 Q (F0 m 8 ls []) := by
    intro k
    induction k with
    | zero =>
      intro x3_109 x4_110 x5_111 o_108 hf
      exact absurd (((f_JoinOrderModel_mayCome_L0_z n x1 x2 R_patterns R_hints R_spreads x3_109 x4_110 x5_111).symm.trans hf)) (fun h => by cases h)
    | succ k ih =>
      intro x3_109 x4_110 x5_111 o_108 hf H locs hP hD hS ls hl hX_108
      have hf := (f_JoinOrderModel_mayCome_L0_s n x1 x2 R_patterns R_hints R_spreads k x3_109 x4_110 x5_111).symm.trans hf
      refine lv_iload hx hb dX7_mayCome_8 (lv_at hl 5 rfl) ?_
      refine lv_aload_n hx hb dX7_mayCome_10 rfl (lv_at hl 0 rfl) ?_
      refine va_get (D := D) (ci := 7) (v := .int R_patterns) (C := RX7) (T := TX7) (N := 34) hx hb htg giX7 hown hK hP 0 rfl rfl 2 (by decide) (htg _ kw_565) (fun _ h9 => h9) rfl dX7_mayCome_11 ?_
      refine lv_icmp_ge (tgt := 157) hx hb dX7_mayCome_14 (by decide) (fun c_114 => ?_) (fun c_114 => ?_)
      · have hf := xb_t c_114 hf
        exact hX_108 x3_109 x4_110 hf _ _ hP hD hS _ (lv_sub hl [3, 4] rfl)
      · have hf := xb_f c_114 hf
        refine lv_iload_n hx hb dX7_mayCome_17 rfl (lv_at hl 2 rfl) ?_
        refine lv_iload hx hb dX7_mayCome_18 (lv_at hl 5 rfl) ?_
        refine lv_ishr hx hb dX7_mayCome_20 ?_
        refine lv_iconst (v := (1 : Int32)) hx hb dX7_mayCome_21 (by decide) ?_
        refine lv_iand hx hb dX7_mayCome_22 ?_
        refine lv_iconst (v := (1 : Int32)) hx hb dX7_mayCome_23 (by decide) ?_
        obtain ⟨o_117, ho_117, hk_117⟩ := bn1_s hf
        have J_41_117 : ∀ (z_118 : Int32), some (z_118) = some o_117 → ∀ (H : Heap) (locs : List Loc), va_P D vwCl [(aR, .inr (7, [.int R_triples, .ref aR_facts, .int R_patterns, .ref aR_cells, .ref aR_told, .ref aR_of, .ref aR_hints, .int R_filters, .ref aR_looks, .ref aR_kinds, .ref aR_values, .ref aR_isSafe, .ref aR_sizes, .ref aR_spreads, .ref aR_isSeen, .ref aR_estimates, .ref aR_rest, .int R_steps, .ref aR_order, .ref aR_joins, .ref aR_actsBehind, .ref aR_upTo, .int R_filtersThen, .ref aR_behind, .int R_rows, .ref aR_row, .ref aR_found, .int R_comes, .ref aR_next, .ref aR_nextFound, .int R_kept, .int R_hasRoom, .ref aR_keep, .ref aR_isTaken])), (aR_hints, .inl (cZ, 64, .inl R_hints)), (aR_spreads, .inl (cI, 64, .inl R_spreads))] H → va_D A [(aR, .inr (7, [.int R_triples, .ref aR_facts, .int R_patterns, .ref aR_cells, .ref aR_told, .ref aR_of, .ref aR_hints, .int R_filters, .ref aR_looks, .ref aR_kinds, .ref aR_values, .ref aR_isSafe, .ref aR_sizes, .ref aR_spreads, .ref aR_isSeen, .ref aR_estimates, .ref aR_rest, .int R_steps, .ref aR_order, .ref aR_joins, .ref aR_actsBehind, .ref aR_upTo, .int R_filtersThen, .ref aR_behind, .int R_rows, .ref aR_row, .ref aR_found, .int R_comes, .ref aR_next, .ref aR_nextFound, .int R_kept, .int R_hasRoom, .ref aR_keep, .ref aR_isTaken])), (aR_hints, .inl (cZ, 64, .inl R_hints)), (aR_spreads, .inl (cI, 64, .inl R_spreads))] → va_S A s.heap H locs → ∀ ls : Array Slot, lv_has ls 8 [(0, .ref aR), (1, .int x1), (2, .int x2), (3, .int x3_109), (4, .int x4_110), (5, .int x5_111)] → W p l e rm_f_JoinOrderModel_mayCome s m args below meth c H locs 0 0 Q (F0 m 41 ls [.int z_118]) := by
          intro z_118 hf H locs hP hD hS ls hl
          have hf := hk_117 _ hf
          refine lv_istore (lv' := [(6, .int z_118), (0, .ref aR), (1, .int x1), (2, .int x2), (3, .int x3_109), (4, .int x4_110), (5, .int x5_111)]) hx hb dX7_mayCome_41 hl (by decide) rfl (fun ls hl => ?_)
          refine lv_iconst (v := (0 : Int32)) hx hb dX7_mayCome_43 (by decide) ?_
          refine lv_istore (lv' := [(7, .int (0 : Int32)), (6, .int z_118), (0, .ref aR), (1, .int x1), (2, .int x2), (3, .int x3_109), (4, .int x4_110), (5, .int x5_111)]) hx hb dX7_mayCome_44 hl (by decide) rfl (fun ls hl => ?_)
          have L_46_139 : ∀ (k : Nat) (x6_140 : Int32) (x7_141 : Int32) (o_139 : Int32), f_JoinOrderModel_mayCome_L1 n x1 R_patterns R_hints x5_111 k x6_140 x7_141 = some o_139 → ∀ (H : Heap) (locs : List Loc), va_P D vwCl [(aR, .inr (7, [.int R_triples, .ref aR_facts, .int R_patterns, .ref aR_cells, .ref aR_told, .ref aR_of, .ref aR_hints, .int R_filters, .ref aR_looks, .ref aR_kinds, .ref aR_values, .ref aR_isSafe, .ref aR_sizes, .ref aR_spreads, .ref aR_isSeen, .ref aR_estimates, .ref aR_rest, .int R_steps, .ref aR_order, .ref aR_joins, .ref aR_actsBehind, .ref aR_upTo, .int R_filtersThen, .ref aR_behind, .int R_rows, .ref aR_row, .ref aR_found, .int R_comes, .ref aR_next, .ref aR_nextFound, .int R_kept, .int R_hasRoom, .ref aR_keep, .ref aR_isTaken])), (aR_hints, .inl (cZ, 64, .inl R_hints)), (aR_spreads, .inl (cI, 64, .inl R_spreads))] H → va_D A [(aR, .inr (7, [.int R_triples, .ref aR_facts, .int R_patterns, .ref aR_cells, .ref aR_told, .ref aR_of, .ref aR_hints, .int R_filters, .ref aR_looks, .ref aR_kinds, .ref aR_values, .ref aR_isSafe, .ref aR_sizes, .ref aR_spreads, .ref aR_isSeen, .ref aR_estimates, .ref aR_rest, .int R_steps, .ref aR_order, .ref aR_joins, .ref aR_actsBehind, .ref aR_upTo, .int R_filtersThen, .ref aR_behind, .int R_rows, .ref aR_row, .ref aR_found, .int R_comes, .ref aR_next, .ref aR_nextFound, .int R_kept, .int R_hasRoom, .ref aR_keep, .ref aR_isTaken])), (aR_hints, .inl (cZ, 64, .inl R_hints)), (aR_spreads, .inl (cI, 64, .inl R_spreads))] → va_S A s.heap H locs → ∀ ls : Array Slot, lv_has ls 8 [(0, .ref aR), (1, .int x1), (2, .int x2), (3, .int x3_109), (4, .int x4_110), (5, .int x5_111), (6, .int x6_140), (7, .int x7_141)] → (∀ (x6_142 : Int32), some (x6_142) = some o_139 → ∀ (H : Heap) (locs : List Loc), va_P D vwCl [(aR, .inr (7, [.int R_triples, .ref aR_facts, .int R_patterns, .ref aR_cells, .ref aR_told, .ref aR_of, .ref aR_hints, .int R_filters, .ref aR_looks, .ref aR_kinds, .ref aR_values, .ref aR_isSafe, .ref aR_sizes, .ref aR_spreads, .ref aR_isSeen, .ref aR_estimates, .ref aR_rest, .int R_steps, .ref aR_order, .ref aR_joins, .ref aR_actsBehind, .ref aR_upTo, .int R_filtersThen, .ref aR_behind, .int R_rows, .ref aR_row, .ref aR_found, .int R_comes, .ref aR_next, .ref aR_nextFound, .int R_kept, .int R_hasRoom, .ref aR_keep, .ref aR_isTaken])), (aR_hints, .inl (cZ, 64, .inl R_hints)), (aR_spreads, .inl (cI, 64, .inl R_spreads))] H → va_D A [(aR, .inr (7, [.int R_triples, .ref aR_facts, .int R_patterns, .ref aR_cells, .ref aR_told, .ref aR_of, .ref aR_hints, .int R_filters, .ref aR_looks, .ref aR_kinds, .ref aR_values, .ref aR_isSafe, .ref aR_sizes, .ref aR_spreads, .ref aR_isSeen, .ref aR_estimates, .ref aR_rest, .int R_steps, .ref aR_order, .ref aR_joins, .ref aR_actsBehind, .ref aR_upTo, .int R_filtersThen, .ref aR_behind, .int R_rows, .ref aR_row, .ref aR_found, .int R_comes, .ref aR_next, .ref aR_nextFound, .int R_kept, .int R_hasRoom, .ref aR_keep, .ref aR_isTaken])), (aR_hints, .inl (cZ, 64, .inl R_hints)), (aR_spreads, .inl (cI, 64, .inl R_spreads))] → va_S A s.heap H locs → ∀ ls : Array Slot, lv_has ls 8 [(0, .ref aR), (1, .int x1), (2, .int x2), (3, .int x3_109), (4, .int x4_110), (5, .int x5_111), (6, .int x6_142)] → W p l e rm_f_JoinOrderModel_mayCome s m args below meth c H locs 0 0 Q (F0 m 99 ls [])) → W p l e rm_f_JoinOrderModel_mayCome s m args below meth c H locs 0 0 Q (F0 m 46 ls []) := by
            intro k
            induction k with
            | zero =>
              intro x6_140 x7_141 o_139 hf
              exact absurd (((f_JoinOrderModel_mayCome_L1_z n x1 R_patterns R_hints x5_111 x6_140 x7_141).symm.trans hf)) (fun h => by cases h)
            | succ k ih =>
              intro x6_140 x7_141 o_139 hf H locs hP hD hS ls hl hX_139
              have hf := (f_JoinOrderModel_mayCome_L1_s n x1 R_patterns R_hints x5_111 k x6_140 x7_141).symm.trans hf
              refine lv_iload hx hb dX7_mayCome_46 (lv_at hl 7 rfl) ?_
              refine lv_aload_n hx hb dX7_mayCome_48 rfl (lv_at hl 0 rfl) ?_
              refine va_get (D := D) (ci := 7) (v := .int R_patterns) (C := RX7) (T := TX7) (N := 34) hx hb htg giX7 hown hK hP 0 rfl rfl 2 (by decide) (htg _ kw_565) (fun _ h9 => h9) rfl dX7_mayCome_49 ?_
              refine lv_icmp_ge (tgt := 99) hx hb dX7_mayCome_52 (by decide) (fun c_143 => ?_) (fun c_143 => ?_)
              · have hf := xb_t c_143 hf
                exact hX_139 x6_140 hf _ _ hP hD hS _ (lv_sub hl [0, 1, 2, 3, 4, 5, 6] rfl)
              · have hf := xb_f c_143 hf
                refine lv_iload hx hb dX7_mayCome_55 (lv_at hl 6 rfl) ?_
                refine lv_if_eq (tgt := 90) hx hb dX7_mayCome_57 (by decide) (fun c_144 => ?_) (fun c_144 => ?_)
                · have hf := xb_t c_144 hf
                  refine lv_iconst (v := (0 : Int32)) hx hb dX7_mayCome_90 (by decide) ?_
                  refine lv_istore (lv' := [(6, .int (0 : Int32)), (0, .ref aR), (1, .int x1), (2, .int x2), (3, .int x3_109), (4, .int x4_110), (5, .int x5_111), (7, .int x7_141)]) hx hb dX7_mayCome_91 hl (by decide) rfl (fun ls hl => ?_)
                  obtain ⟨x7_145, ex7_145⟩ : ∃ y : Int32, y = x7_141 + (1 : Int32) := ⟨_, rfl⟩
                  have hf := nm_nm ex7_145 hf
                  refine lv_iinc (v := x7_145) (lv' := [(7, .int x7_145), (6, .int (0 : Int32)), (0, .ref aR), (1, .int x1), (2, .int x2), (3, .int x3_109), (4, .int x4_110), (5, .int x5_111)]) hx hb dX7_mayCome_93 hl (k := 7) rfl (by rw [ex7_145]; rfl) (by decide) rfl (fun ls hl => ?_)
                  refine lv_goto (tgt := 46) hx hb dX7_mayCome_96 (by decide) ?_
                  exact ih (0 : Int32) x7_145 o_139 hf _ _ hP hD hS _ (lv_sub hl [2, 3, 4, 5, 6, 7, 1, 0] rfl) hX_139
                · have hf := xb_f c_144 hf
                  refine lv_aload_n hx hb dX7_mayCome_60 rfl (lv_at hl 0 rfl) ?_
                  refine va_get (D := D) (ci := 7) (v := .ref aR_hints) (C := RX7) (T := TX7) (N := 34) hx hb htg giX7 hown hK hP 0 rfl rfl 6 (by decide) (htg _ kw_569) (fun _ h9 => h9) rfl dX7_mayCome_61 ?_
                  refine lv_bipush (v := (8 : Int32)) hx hb dX7_mayCome_64 (by decide) ?_
                  refine lv_iload hx hb dX7_mayCome_66 (lv_at hl 7 rfl) ?_
                  refine lv_imul hx hb dX7_mayCome_68 ?_
                  refine lv_iload hx hb dX7_mayCome_69 (lv_at hl 5 rfl) ?_
                  refine lv_iadd hx hb dX7_mayCome_71 ?_
                  have g_146 : vp_in (((8 : Int32) * x7_141) + x5_111) 64 := gd_in hf
                  have hf := gd_el hf
                  refine va_zald hx hb hK hP 1 2 rfl rfl g_146 dX7_mayCome_72 ?_
                  refine lv_if_eq (tgt := 86) hx hb dX7_mayCome_73 (by decide) (fun c_147 => ?_) (fun c_147 => ?_)
                  · have hf := xb_t c_147 hf
                    refine lv_iconst (v := (1 : Int32)) hx hb dX7_mayCome_86 (by decide) ?_
                    refine lv_goto (tgt := 91) hx hb dX7_mayCome_87 (by decide) ?_
                    refine lv_istore (lv' := [(6, .int (1 : Int32)), (0, .ref aR), (1, .int x1), (2, .int x2), (3, .int x3_109), (4, .int x4_110), (5, .int x5_111), (7, .int x7_141)]) hx hb dX7_mayCome_91 hl (by decide) rfl (fun ls hl => ?_)
                    obtain ⟨x7_148, ex7_148⟩ : ∃ y : Int32, y = x7_141 + (1 : Int32) := ⟨_, rfl⟩
                    have hf := nm_nm ex7_148 hf
                    refine lv_iinc (v := x7_148) (lv' := [(7, .int x7_148), (6, .int (1 : Int32)), (0, .ref aR), (1, .int x1), (2, .int x2), (3, .int x3_109), (4, .int x4_110), (5, .int x5_111)]) hx hb dX7_mayCome_93 hl (k := 7) rfl (by rw [ex7_148]; rfl) (by decide) rfl (fun ls hl => ?_)
                    refine lv_goto (tgt := 46) hx hb dX7_mayCome_96 (by decide) ?_
                    exact ih (1 : Int32) x7_148 o_139 hf _ _ hP hD hS _ (lv_sub hl [2, 3, 4, 5, 6, 7, 1, 0] rfl) hX_139
                  · have hf := xb_f c_147 hf
                    refine lv_iload_n hx hb dX7_mayCome_76 rfl (lv_at hl 1 rfl) ?_
                    refine lv_iload hx hb dX7_mayCome_77 (lv_at hl 7 rfl) ?_
                    refine lv_ishr hx hb dX7_mayCome_79 ?_
                    refine lv_iconst (v := (1 : Int32)) hx hb dX7_mayCome_80 (by decide) ?_
                    refine lv_iand hx hb dX7_mayCome_81 ?_
                    refine lv_iconst (v := (1 : Int32)) hx hb dX7_mayCome_82 (by decide) ?_
                    refine lv_icmp_ne (tgt := 90) hx hb dX7_mayCome_83 (by decide) (fun c_149 => ?_) (fun c_149 => ?_)
                    · have hf := xb_f c_149 hf
                      refine lv_iconst (v := (0 : Int32)) hx hb dX7_mayCome_90 (by decide) ?_
                      refine lv_istore (lv' := [(6, .int (0 : Int32)), (0, .ref aR), (1, .int x1), (2, .int x2), (3, .int x3_109), (4, .int x4_110), (5, .int x5_111), (7, .int x7_141)]) hx hb dX7_mayCome_91 hl (by decide) rfl (fun ls hl => ?_)
                      obtain ⟨x7_150, ex7_150⟩ : ∃ y : Int32, y = x7_141 + (1 : Int32) := ⟨_, rfl⟩
                      have hf := nm_nm ex7_150 hf
                      refine lv_iinc (v := x7_150) (lv' := [(7, .int x7_150), (6, .int (0 : Int32)), (0, .ref aR), (1, .int x1), (2, .int x2), (3, .int x3_109), (4, .int x4_110), (5, .int x5_111)]) hx hb dX7_mayCome_93 hl (k := 7) rfl (by rw [ex7_150]; rfl) (by decide) rfl (fun ls hl => ?_)
                      refine lv_goto (tgt := 46) hx hb dX7_mayCome_96 (by decide) ?_
                      exact ih (0 : Int32) x7_150 o_139 hf _ _ hP hD hS _ (lv_sub hl [2, 3, 4, 5, 6, 7, 1, 0] rfl) hX_139
                    · have hf := xb_t c_149 hf
                      refine lv_iconst (v := (1 : Int32)) hx hb dX7_mayCome_86 (by decide) ?_
                      refine lv_goto (tgt := 91) hx hb dX7_mayCome_87 (by decide) ?_
                      refine lv_istore (lv' := [(6, .int (1 : Int32)), (0, .ref aR), (1, .int x1), (2, .int x2), (3, .int x3_109), (4, .int x4_110), (5, .int x5_111), (7, .int x7_141)]) hx hb dX7_mayCome_91 hl (by decide) rfl (fun ls hl => ?_)
                      obtain ⟨x7_151, ex7_151⟩ : ∃ y : Int32, y = x7_141 + (1 : Int32) := ⟨_, rfl⟩
                      have hf := nm_nm ex7_151 hf
                      refine lv_iinc (v := x7_151) (lv' := [(7, .int x7_151), (6, .int (1 : Int32)), (0, .ref aR), (1, .int x1), (2, .int x2), (3, .int x3_109), (4, .int x4_110), (5, .int x5_111)]) hx hb dX7_mayCome_93 hl (k := 7) rfl (by rw [ex7_151]; rfl) (by decide) rfl (fun ls hl => ?_)
                      refine lv_goto (tgt := 46) hx hb dX7_mayCome_96 (by decide) ?_
                      exact ih (1 : Int32) x7_151 o_139 hf _ _ hP hD hS _ (lv_sub hl [2, 3, 4, 5, 6, 7, 1, 0] rfl) hX_139
          obtain ⟨o_139, ho_139, hk_139⟩ := bn1_s hf
          refine L_46_139 n z_118 (0 : Int32) o_139 ho_139 _ _ hP hD hS _ (lv_sub hl [2, 3, 4, 5, 6, 7, 1, 0] rfl) (fun x6_142 hf H locs hP hD hS ls hl => ?_)
          have hf := hk_139 _ hf
          refine lv_iload hx hb dX7_mayCome_99 (lv_at hl 6 rfl) ?_
          obtain ⟨o_153, ho_153, hk_153⟩ := bn1_s hf
          have J_114_153 : ∀ (z_154 : Int32), some (z_154) = some o_153 → ∀ (H : Heap) (locs : List Loc), va_P D vwCl [(aR, .inr (7, [.int R_triples, .ref aR_facts, .int R_patterns, .ref aR_cells, .ref aR_told, .ref aR_of, .ref aR_hints, .int R_filters, .ref aR_looks, .ref aR_kinds, .ref aR_values, .ref aR_isSafe, .ref aR_sizes, .ref aR_spreads, .ref aR_isSeen, .ref aR_estimates, .ref aR_rest, .int R_steps, .ref aR_order, .ref aR_joins, .ref aR_actsBehind, .ref aR_upTo, .int R_filtersThen, .ref aR_behind, .int R_rows, .ref aR_row, .ref aR_found, .int R_comes, .ref aR_next, .ref aR_nextFound, .int R_kept, .int R_hasRoom, .ref aR_keep, .ref aR_isTaken])), (aR_hints, .inl (cZ, 64, .inl R_hints)), (aR_spreads, .inl (cI, 64, .inl R_spreads))] H → va_D A [(aR, .inr (7, [.int R_triples, .ref aR_facts, .int R_patterns, .ref aR_cells, .ref aR_told, .ref aR_of, .ref aR_hints, .int R_filters, .ref aR_looks, .ref aR_kinds, .ref aR_values, .ref aR_isSafe, .ref aR_sizes, .ref aR_spreads, .ref aR_isSeen, .ref aR_estimates, .ref aR_rest, .int R_steps, .ref aR_order, .ref aR_joins, .ref aR_actsBehind, .ref aR_upTo, .int R_filtersThen, .ref aR_behind, .int R_rows, .ref aR_row, .ref aR_found, .int R_comes, .ref aR_next, .ref aR_nextFound, .int R_kept, .int R_hasRoom, .ref aR_keep, .ref aR_isTaken])), (aR_hints, .inl (cZ, 64, .inl R_hints)), (aR_spreads, .inl (cI, 64, .inl R_spreads))] → va_S A s.heap H locs → ∀ ls : Array Slot, lv_has ls 8 [(0, .ref aR), (1, .int x1), (2, .int x2), (4, .int x4_110), (5, .int x5_111), (6, .int x6_142)] → W p l e rm_f_JoinOrderModel_mayCome s m args below meth c H locs 0 0 Q (F0 m 114 ls [.int z_154]) := by
            intro z_154 hf H locs hP hD hS ls hl
            have hf := hk_153 _ hf
            refine lv_istore_n (lv' := [(3, .int z_154), (0, .ref aR), (1, .int x1), (2, .int x2), (4, .int x4_110), (5, .int x5_111), (6, .int x6_142)]) hx hb dX7_mayCome_114 rfl hl (by decide) rfl (fun ls hl => ?_)
            refine lv_iload hx hb dX7_mayCome_115 (lv_at hl 6 rfl) ?_
            refine lv_if_eq (tgt := 147) hx hb dX7_mayCome_117 (by decide) (fun c_155 => ?_) (fun c_155 => ?_)
            · have hf := xb_t c_155 hf
              refine lv_iload hx hb dX7_mayCome_147 (lv_at hl 4 rfl) ?_
              refine lv_istore (lv' := [(4, .int x4_110), (3, .int z_154), (0, .ref aR), (1, .int x1), (2, .int x2), (5, .int x5_111), (6, .int x6_142)]) hx hb dX7_mayCome_149 hl (by decide) rfl (fun ls hl => ?_)
              obtain ⟨x5_156, ex5_156⟩ : ∃ y : Int32, y = x5_111 + (1 : Int32) := ⟨_, rfl⟩
              have hf := nm_nm ex5_156 hf
              refine lv_iinc (v := x5_156) (lv' := [(5, .int x5_156), (4, .int x4_110), (3, .int z_154), (0, .ref aR), (1, .int x1), (2, .int x2), (6, .int x6_142)]) hx hb dX7_mayCome_151 hl (k := 5) rfl (by rw [ex5_156]; rfl) (by decide) rfl (fun ls hl => ?_)
              refine lv_goto (tgt := 8) hx hb dX7_mayCome_154 (by decide) ?_
              exact ih z_154 x4_110 x5_156 o_108 hf _ _ hP hD hS _ (lv_sub hl [3, 4, 5, 2, 1, 0] rfl) hX_108
            · have hf := xb_f c_155 hf
              refine lv_aload_n hx hb dX7_mayCome_120 rfl (lv_at hl 1 rfl) ?_
              refine lv_iload_n hx hb dX7_mayCome_121 rfl (lv_at hl 2 rfl) ?_
              obtain ⟨r_158, hq_157, hf⟩ := bn1_c hf
              refine x_i (xrV (As := [.int x1]) (b := aR) (rest := []) ⟨hx, hb, hml, hown, htg⟩ (c_f_JoinOrderModel_variablesOf l D cI cJ cZ _ n aR x1 R_triples aR_facts R_patterns aR_cells aR_told aR_of aR_hints R_filters aR_looks aR_kinds aR_values aR_isSafe aR_sizes aR_spreads aR_isSeen aR_estimates aR_rest R_steps aR_order aR_joins aR_actsBehind aR_upTo R_filtersThen aR_behind R_rows aR_row aR_found R_comes aR_next aR_nextFound R_kept R_hasRoom aR_keep aR_isTaken R_spreads hq_157) kc_f_JoinOrderModel_variablesOf kw_758 kw_760 kp_33 kw_8 dd_f_JoinOrderModel_variablesOf ⟨Nat.le_of_ble_eq_true rfl, Nat.le_of_ble_eq_true rfl⟩ rfl rfl (hP.sub [0, 2] rfl) (hD.sub [0, 2] (by decide) rfl) hK hN hP (q0 := 0) rfl rfl rfl hl.1 rfl (Nat.le_of_ble_eq_true rfl) dX7_mayCome_122 ⟨Nat.le_of_ble_eq_true rfl, Nat.le_of_ble_eq_true rfl⟩) hP hD hS hA [0, 2] [1] rfl rfl (by decide) (by decide) (fun _ H locs hP hD hS => ?_)
              have hP : va_P D vwCl [(aR_hints, .inl (cZ, 64, .inl R_hints)), (aR, .inr (7, [.int R_triples, .ref aR_facts, .int R_patterns, .ref aR_cells, .ref aR_told, .ref aR_of, .ref aR_hints, .int R_filters, .ref aR_looks, .ref aR_kinds, .ref aR_values, .ref aR_isSafe, .ref aR_sizes, .ref aR_spreads, .ref aR_isSeen, .ref aR_estimates, .ref aR_rest, .int R_steps, .ref aR_order, .ref aR_joins, .ref aR_actsBehind, .ref aR_upTo, .int R_filtersThen, .ref aR_behind, .int R_rows, .ref aR_row, .ref aR_found, .int R_comes, .ref aR_next, .ref aR_nextFound, .int R_kept, .int R_hasRoom, .ref aR_keep, .ref aR_isTaken])), (aR_spreads, .inl (cI, 64, .inl R_spreads))] H := hP
              have hD : va_D A [(aR_hints, .inl (cZ, 64, .inl R_hints)), (aR, .inr (7, [.int R_triples, .ref aR_facts, .int R_patterns, .ref aR_cells, .ref aR_told, .ref aR_of, .ref aR_hints, .int R_filters, .ref aR_looks, .ref aR_kinds, .ref aR_values, .ref aR_isSafe, .ref aR_sizes, .ref aR_spreads, .ref aR_isSeen, .ref aR_estimates, .ref aR_rest, .int R_steps, .ref aR_order, .ref aR_joins, .ref aR_actsBehind, .ref aR_upTo, .int R_filtersThen, .ref aR_behind, .int R_rows, .ref aR_row, .ref aR_found, .int R_comes, .ref aR_next, .ref aR_nextFound, .int R_kept, .int R_hasRoom, .ref aR_keep, .ref aR_isTaken])), (aR_spreads, .inl (cI, 64, .inl R_spreads))] := hD
              refine lv_aload_n hx hb dX7_mayCome_125 rfl (lv_at hl 1 rfl) ?_
              refine lv_iconst (v := (1 : Int32)) hx hb dX7_mayCome_126 (by decide) ?_
              refine lv_iload hx hb dX7_mayCome_127 (lv_at hl 5 rfl) ?_
              refine lv_ishl hx hb dX7_mayCome_129 ?_
              obtain ⟨r_160, hq_159, hf⟩ := bn1_c hf
              refine x_i (xrV (As := [.int ((1 : Int32) <<< (x5_111 &&& 31))]) (b := aR) (rest := [.int r_158]) ⟨hx, hb, hml, hown, htg⟩ (c_f_JoinOrderModel_variablesOf l D cI cJ cZ _ n aR ((1 : Int32) <<< (x5_111 &&& 31)) R_triples aR_facts R_patterns aR_cells aR_told aR_of aR_hints R_filters aR_looks aR_kinds aR_values aR_isSafe aR_sizes aR_spreads aR_isSeen aR_estimates aR_rest R_steps aR_order aR_joins aR_actsBehind aR_upTo R_filtersThen aR_behind R_rows aR_row aR_found R_comes aR_next aR_nextFound R_kept R_hasRoom aR_keep aR_isTaken R_spreads hq_159) kc_f_JoinOrderModel_variablesOf kw_758 kw_760 kp_33 kw_8 dd_f_JoinOrderModel_variablesOf ⟨Nat.le_of_ble_eq_true rfl, Nat.le_of_ble_eq_true rfl⟩ rfl rfl (hP.sub [1, 2] rfl) (hD.sub [1, 2] (by decide) rfl) hK hN hP (q0 := 1) rfl rfl rfl hl.1 rfl (Nat.le_of_ble_eq_true rfl) dX7_mayCome_130 ⟨Nat.le_of_ble_eq_true rfl, Nat.le_of_ble_eq_true rfl⟩) hP hD hS hA [1, 2] [0] rfl rfl (by decide) (by decide) (fun _ H locs hP hD hS => ?_)
              have hP : va_P D vwCl [(aR_hints, .inl (cZ, 64, .inl R_hints)), (aR, .inr (7, [.int R_triples, .ref aR_facts, .int R_patterns, .ref aR_cells, .ref aR_told, .ref aR_of, .ref aR_hints, .int R_filters, .ref aR_looks, .ref aR_kinds, .ref aR_values, .ref aR_isSafe, .ref aR_sizes, .ref aR_spreads, .ref aR_isSeen, .ref aR_estimates, .ref aR_rest, .int R_steps, .ref aR_order, .ref aR_joins, .ref aR_actsBehind, .ref aR_upTo, .int R_filtersThen, .ref aR_behind, .int R_rows, .ref aR_row, .ref aR_found, .int R_comes, .ref aR_next, .ref aR_nextFound, .int R_kept, .int R_hasRoom, .ref aR_keep, .ref aR_isTaken])), (aR_spreads, .inl (cI, 64, .inl R_spreads))] H := hP
              have hD : va_D A [(aR_hints, .inl (cZ, 64, .inl R_hints)), (aR, .inr (7, [.int R_triples, .ref aR_facts, .int R_patterns, .ref aR_cells, .ref aR_told, .ref aR_of, .ref aR_hints, .int R_filters, .ref aR_looks, .ref aR_kinds, .ref aR_values, .ref aR_isSafe, .ref aR_sizes, .ref aR_spreads, .ref aR_isSeen, .ref aR_estimates, .ref aR_rest, .int R_steps, .ref aR_order, .ref aR_joins, .ref aR_actsBehind, .ref aR_upTo, .int R_filtersThen, .ref aR_behind, .int R_rows, .ref aR_row, .ref aR_found, .int R_comes, .ref aR_next, .ref aR_nextFound, .int R_kept, .int R_hasRoom, .ref aR_keep, .ref aR_isTaken])), (aR_spreads, .inl (cI, 64, .inl R_spreads))] := hD
              refine lv_iand hx hb dX7_mayCome_133 ?_
              refine lv_if_eq (tgt := 147) hx hb dX7_mayCome_134 (by decide) (fun c_161 => ?_) (fun c_161 => ?_)
              · have hf := xb_t c_161 hf
                refine lv_iload hx hb dX7_mayCome_147 (lv_at hl 4 rfl) ?_
                refine lv_istore (lv' := [(4, .int x4_110), (3, .int z_154), (0, .ref aR), (1, .int x1), (2, .int x2), (5, .int x5_111), (6, .int x6_142)]) hx hb dX7_mayCome_149 hl (by decide) rfl (fun ls hl => ?_)
                obtain ⟨x5_162, ex5_162⟩ : ∃ y : Int32, y = x5_111 + (1 : Int32) := ⟨_, rfl⟩
                have hf := nm_nm ex5_162 hf
                refine lv_iinc (v := x5_162) (lv' := [(5, .int x5_162), (4, .int x4_110), (3, .int z_154), (0, .ref aR), (1, .int x1), (2, .int x2), (6, .int x6_142)]) hx hb dX7_mayCome_151 hl (k := 5) rfl (by rw [ex5_162]; rfl) (by decide) rfl (fun ls hl => ?_)
                refine lv_goto (tgt := 8) hx hb dX7_mayCome_154 (by decide) ?_
                exact ih z_154 x4_110 x5_162 o_108 hf _ _ (hP.sub [1, 0, 2] rfl) (hD.sub [1, 0, 2] (by decide) rfl) hS _ (lv_sub hl [3, 4, 5, 2, 1, 0] rfl) hX_108
              · have hf := xb_f c_161 hf
                refine lv_iload hx hb dX7_mayCome_137 (lv_at hl 4 rfl) ?_
                refine lv_iconst (v := (1 : Int32)) hx hb dX7_mayCome_139 (by decide) ?_
                refine lv_iload hx hb dX7_mayCome_140 (lv_at hl 5 rfl) ?_
                refine lv_ishl hx hb dX7_mayCome_142 ?_
                refine lv_ior hx hb dX7_mayCome_143 ?_
                refine lv_goto (tgt := 149) hx hb dX7_mayCome_144 (by decide) ?_
                refine lv_topi (fun x4_163 ex4_163 => ?_)
                have hf := nm_nm ex4_163 hf
                refine lv_istore (lv' := [(4, .int x4_163), (3, .int z_154), (0, .ref aR), (1, .int x1), (2, .int x2), (5, .int x5_111), (6, .int x6_142)]) hx hb dX7_mayCome_149 hl (by decide) rfl (fun ls hl => ?_)
                obtain ⟨x5_164, ex5_164⟩ : ∃ y : Int32, y = x5_111 + (1 : Int32) := ⟨_, rfl⟩
                have hf := nm_nm ex5_164 hf
                refine lv_iinc (v := x5_164) (lv' := [(5, .int x5_164), (4, .int x4_163), (3, .int z_154), (0, .ref aR), (1, .int x1), (2, .int x2), (6, .int x6_142)]) hx hb dX7_mayCome_151 hl (k := 5) rfl (by rw [ex5_164]; rfl) (by decide) rfl (fun ls hl => ?_)
                refine lv_goto (tgt := 8) hx hb dX7_mayCome_154 (by decide) ?_
                exact ih z_154 x4_163 x5_164 o_108 hf _ _ (hP.sub [1, 0, 2] rfl) (hD.sub [1, 0, 2] (by decide) rfl) hS _ (lv_sub hl [3, 4, 5, 2, 1, 0] rfl) hX_108
          have hf := ho_153
          refine lv_if_eq (tgt := 113) hx hb dX7_mayCome_101 (by decide) (fun c_152 => ?_) (fun c_152 => ?_)
          · have hf := xb_t c_152 hf
            refine lv_iload_n hx hb dX7_mayCome_113 rfl (lv_at hl 3 rfl) ?_
            exact J_114_153 x3_109 hf _ _ hP hD hS _ (lv_sub hl [0, 1, 2, 4, 5, 6] rfl)
          · have hf := xb_f c_152 hf
            refine lv_iload_n hx hb dX7_mayCome_104 rfl (lv_at hl 3 rfl) ?_
            refine lv_iconst (v := (1 : Int32)) hx hb dX7_mayCome_105 (by decide) ?_
            refine lv_iload hx hb dX7_mayCome_106 (lv_at hl 5 rfl) ?_
            refine lv_ishl hx hb dX7_mayCome_108 ?_
            refine lv_ior hx hb dX7_mayCome_109 ?_
            refine lv_goto (tgt := 114) hx hb dX7_mayCome_110 (by decide) ?_
            exact J_114_153 (x3_109 ||| ((1 : Int32) <<< (x5_111 &&& 31))) hf _ _ hP hD hS _ (lv_sub hl [0, 1, 2, 4, 5, 6] rfl)
        have hf := ho_117
        refine lv_icmp_ne (tgt := 40) hx hb dX7_mayCome_24 (by decide) (fun c_115 => ?_) (fun c_115 => ?_)
        · have hf := xb_f c_115 hf
          refine lv_iconst (v := (0 : Int32)) hx hb dX7_mayCome_40 (by decide) ?_
          exact J_41_117 (0 : Int32) hf _ _ hP hD hS _ hl
        · have hf := xb_t c_115 hf
          refine lv_iload_n hx hb dX7_mayCome_27 rfl (lv_at hl 1 rfl) ?_
          refine lv_iload hx hb dX7_mayCome_28 (lv_at hl 5 rfl) ?_
          refine lv_ishr hx hb dX7_mayCome_30 ?_
          refine lv_iconst (v := (1 : Int32)) hx hb dX7_mayCome_31 (by decide) ?_
          refine lv_iand hx hb dX7_mayCome_32 ?_
          refine lv_if_ne (tgt := 40) hx hb dX7_mayCome_33 (by decide) (fun c_165 => ?_) (fun c_165 => ?_)
          · have hf := xb_f c_165 hf
            refine lv_iconst (v := (0 : Int32)) hx hb dX7_mayCome_40 (by decide) ?_
            exact J_41_117 (0 : Int32) hf _ _ hP hD hS _ hl
          · have hf := xb_t c_165 hf
            refine lv_iconst (v := (1 : Int32)) hx hb dX7_mayCome_36 (by decide) ?_
            refine lv_goto (tgt := 41) hx hb dX7_mayCome_37 (by decide) ?_
            exact J_41_117 (1 : Int32) hf _ _ hP hD hS _ hl
  obtain ⟨o_108, ho_108, hk_108⟩ := bn2_s hf
  refine L_8_108 n (0 : Int32) (0 : Int32) (0 : Int32) o_108 ho_108 _ _ hP hD hS _ (lv_sub hl [3, 4, 5, 2, 1, 0] rfl) (fun x3_112 x4_113 hf H locs hP hD hS ls hl => ?_)
  have hf := hk_108 _ _ hf
  refine lv_iload hx hb dX7_mayCome_157 (lv_at hl 1 rfl) ?_
  refine lv_if_eq (tgt := 167) hx hb dX7_mayCome_159 (by decide) (fun c_166 => ?_) (fun c_166 => ?_)
  · have hf := xb_t c_166 hf
    refine lv_iload_n hx hb dX7_mayCome_167 rfl (lv_at hl 0 rfl) ?_
    have hf := Option.some.inj hf
    cases hf
    exact x_iret (fun _ => 0) hQ hx hb hr hlk hK hP hD hS dX7_mayCome_168
  · have hf := xb_f c_166 hf
    refine lv_iload hx hb dX7_mayCome_162 (lv_at hl 1 rfl) ?_
    refine lv_goto (tgt := 168) hx hb dX7_mayCome_164 (by decide) ?_
    have hf := Option.some.inj hf
    cases hf
    exact x_iret (fun _ => 0) hQ hx hb hr hlk hK hP hD hS dX7_mayCome_168
