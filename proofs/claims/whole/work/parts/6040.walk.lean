abbrev rm_f_JoinOrderModel_beforeOf : Room := { frames := 0, cells := 0, slots := 0, locals := 0 }
set_option maxHeartbeats 4000000 in
set_option maxRecDepth 100000 in
theorem c_f_JoinOrderModel_beforeOf (l : Launch) (D : va_G) (cI cJ cZ : ClassId) (sz : Nat) (n : Nat) (aR : Nat) (x1 : Int32) (R_triples : Int32) (aR_facts : Nat) (R_patterns : Int32) (aR_cells : Nat) (aR_told : Nat) (aR_of : Nat) (aR_hints : Nat) (R_filters : Int32) (aR_looks : Nat) (aR_kinds : Nat) (aR_values : Nat) (aR_isSafe : Nat) (aR_sizes : Nat) (aR_spreads : Nat) (aR_isSeen : Nat) (aR_estimates : Nat) (aR_rest : Nat) (R_steps : Int32) (aR_order : Nat) (aR_joins : Nat) (aR_actsBehind : Nat) (aR_upTo : Nat) (R_filtersThen : Int32) (aR_behind : Nat) (R_rows : Int32) (aR_row : Nat) (aR_found : Nat) (R_comes : Int32) (aR_next : Nat) (aR_nextFound : Nat) (R_kept : Int32) (R_hasRoom : Int32) (aR_keep : Nat) (aR_isTaken : Nat) (R_hints : Nat → Int32) {r : Int32} (hf : f_JoinOrderModel_beforeOf n x1 R_hints = some r) : Met l yX7_beforeOf (.code yX7_beforeOf cX7_beforeOf 7 (some .int) :: GW) rm_f_JoinOrderModel_beforeOf (va_Pc [.ref aR, .int x1] (xP D (xT cI cJ cZ) sz [(aR, .inr (7, [.int R_triples, .ref aR_facts, .int R_patterns, .ref aR_cells, .ref aR_told, .ref aR_of, .ref aR_hints, .int R_filters, .ref aR_looks, .ref aR_kinds, .ref aR_values, .ref aR_isSafe, .ref aR_sizes, .ref aR_spreads, .ref aR_isSeen, .ref aR_estimates, .ref aR_rest, .int R_steps, .ref aR_order, .ref aR_joins, .ref aR_actsBehind, .ref aR_upTo, .int R_filtersThen, .ref aR_behind, .int R_rows, .ref aR_row, .ref aR_found, .int R_comes, .ref aR_next, .ref aR_nextFound, .int R_kept, .int R_hasRoom, .ref aR_keep, .ref aR_isTaken])), (aR_hints, .inl (cZ, 64, .inl R_hints))])) (va_Qi (fun r2 (_ : Nat → Nat) => r2 = r) (bB D (xT cI cJ cZ) (fun _ => [(aR, .inr (7, [.int R_triples, .ref aR_facts, .int R_patterns, .ref aR_cells, .ref aR_told, .ref aR_of, .ref aR_hints, .int R_filters, .ref aR_looks, .ref aR_kinds, .ref aR_values, .ref aR_isSafe, .ref aR_sizes, .ref aR_spreads, .ref aR_isSeen, .ref aR_estimates, .ref aR_rest, .int R_steps, .ref aR_order, .ref aR_joins, .ref aR_actsBehind, .ref aR_upTo, .int R_filtersThen, .ref aR_behind, .int R_rows, .ref aR_row, .ref aR_found, .int R_comes, .ref aR_next, .ref aR_nextFound, .int R_kept, .int R_hasRoom, .ref aR_keep, .ref aR_isTaken])), (aR_hints, .inl (cZ, 64, .inl R_hints))]) (va_A [(aR, .inr (7, [.int R_triples, .ref aR_facts, .int R_patterns, .ref aR_cells, .ref aR_told, .ref aR_of, .ref aR_hints, .int R_filters, .ref aR_looks, .ref aR_kinds, .ref aR_values, .ref aR_isSafe, .ref aR_sizes, .ref aR_spreads, .ref aR_isSeen, .ref aR_estimates, .ref aR_rest, .int R_steps, .ref aR_order, .ref aR_joins, .ref aR_actsBehind, .ref aR_upTo, .int R_filtersThen, .ref aR_behind, .int R_rows, .ref aR_row, .ref aR_found, .int R_comes, .ref aR_next, .ref aR_nextFound, .int R_kept, .int R_hasRoom, .ref aR_keep, .ref aR_isTaken])), (aR_hints, .inl (cZ, 64, .inl R_hints))] sz)) (va_A [(aR, .inr (7, [.int R_triples, .ref aR_facts, .int R_patterns, .ref aR_cells, .ref aR_told, .ref aR_of, .ref aR_hints, .int R_filters, .ref aR_looks, .ref aR_kinds, .ref aR_values, .ref aR_isSafe, .ref aR_sizes, .ref aR_spreads, .ref aR_isSeen, .ref aR_estimates, .ref aR_rest, .int R_steps, .ref aR_order, .ref aR_joins, .ref aR_actsBehind, .ref aR_upTo, .int R_filtersThen, .ref aR_behind, .int R_rows, .ref aR_row, .ref aR_found, .int R_comes, .ref aR_next, .ref aR_nextFound, .int R_kept, .int R_hasRoom, .ref aR_keep, .ref aR_isTaken])), (aR_hints, .inl (cZ, 64, .inl R_hints))] sz)) 0 0 (va_A [(aR, .inr (7, [.int R_triples, .ref aR_facts, .int R_patterns, .ref aR_cells, .ref aR_told, .ref aR_of, .ref aR_hints, .int R_filters, .ref aR_looks, .ref aR_kinds, .ref aR_values, .ref aR_isSafe, .ref aR_sizes, .ref aR_spreads, .ref aR_isSeen, .ref aR_estimates, .ref aR_rest, .int R_steps, .ref aR_order, .ref aR_joins, .ref aR_actsBehind, .ref aR_upTo, .int R_filtersThen, .ref aR_behind, .int R_rows, .ref aR_row, .ref aR_found, .int R_comes, .ref aR_next, .ref aR_nextFound, .int R_kept, .int R_hasRoom, .ref aR_keep, .ref aR_isTaken])), (aR_hints, .inl (cZ, 64, .inl R_hints))] sz) := by
  refine con_start (y := yX7_beforeOf) (bytes := cX7_beforeOf) (maxL := 7) (av := [.ref aR, .int x1]) (Qc := fun A => va_Qi (fun r2 (_ : Nat → Nat) => r2 = r) (bB D (xT cI cJ cZ) (fun _ => [(aR, .inr (7, [.int R_triples, .ref aR_facts, .int R_patterns, .ref aR_cells, .ref aR_told, .ref aR_of, .ref aR_hints, .int R_filters, .ref aR_looks, .ref aR_kinds, .ref aR_values, .ref aR_isSafe, .ref aR_sizes, .ref aR_spreads, .ref aR_isSeen, .ref aR_estimates, .ref aR_rest, .int R_steps, .ref aR_order, .ref aR_joins, .ref aR_actsBehind, .ref aR_upTo, .int R_filtersThen, .ref aR_behind, .int R_rows, .ref aR_row, .ref aR_found, .int R_comes, .ref aR_next, .ref aR_nextFound, .int R_kept, .int R_hasRoom, .ref aR_keep, .ref aR_isTaken])), (aR_hints, .inl (cZ, 64, .inl R_hints))]) A) A) (by decide) (Nat.le_of_ble_eq_true rfl) ?_
  intro p e s m args below meth c Q A hx hb hr hlk hml hown hin htg hN hK hQ hA hP hD hS ls hl
  have hl : lv_has ls 7 [(0, .ref aR), (1, .int x1)] := hl
  have hown : s.vm.findClass RX7 = some m.cls := hown
  have hf := (f_JoinOrderModel_beforeOf_u n x1 R_hints).symm.trans hf
  refine lv_iconst (v := (0 : Int32)) hx hb dX7_beforeOf_0 (by decide) ?_
  refine lv_istore_n (lv' := [(2, .int (0 : Int32)), (0, .ref aR), (1, .int x1)]) hx hb dX7_beforeOf_1 rfl hl (by decide) rfl (fun ls hl => ?_)
  refine lv_iconst (v := (0 : Int32)) hx hb dX7_beforeOf_2 (by decide) ?_
  refine lv_istore_n (lv' := [(3, .int (0 : Int32)), (2, .int (0 : Int32)), (0, .ref aR), (1, .int x1)]) hx hb dX7_beforeOf_3 rfl hl (by decide) rfl (fun ls hl => ?_)
  have L_4_301 : ∀ (k : Nat) (x2_302 : Int32) (x3_303 : Int32) (o_301 : Int32), f_JoinOrderModel_beforeOf_L0 n x1 R_hints k x2_302 x3_303 = some o_301 → ∀ (H : Heap) (locs : List Loc), va_P D vwCl [(aR, .inr (7, [.int R_triples, .ref aR_facts, .int R_patterns, .ref aR_cells, .ref aR_told, .ref aR_of, .ref aR_hints, .int R_filters, .ref aR_looks, .ref aR_kinds, .ref aR_values, .ref aR_isSafe, .ref aR_sizes, .ref aR_spreads, .ref aR_isSeen, .ref aR_estimates, .ref aR_rest, .int R_steps, .ref aR_order, .ref aR_joins, .ref aR_actsBehind, .ref aR_upTo, .int R_filtersThen, .ref aR_behind, .int R_rows, .ref aR_row, .ref aR_found, .int R_comes, .ref aR_next, .ref aR_nextFound, .int R_kept, .int R_hasRoom, .ref aR_keep, .ref aR_isTaken])), (aR_hints, .inl (cZ, 64, .inl R_hints))] H → va_D A [(aR, .inr (7, [.int R_triples, .ref aR_facts, .int R_patterns, .ref aR_cells, .ref aR_told, .ref aR_of, .ref aR_hints, .int R_filters, .ref aR_looks, .ref aR_kinds, .ref aR_values, .ref aR_isSafe, .ref aR_sizes, .ref aR_spreads, .ref aR_isSeen, .ref aR_estimates, .ref aR_rest, .int R_steps, .ref aR_order, .ref aR_joins, .ref aR_actsBehind, .ref aR_upTo, .int R_filtersThen, .ref aR_behind, .int R_rows, .ref aR_row, .ref aR_found, .int R_comes, .ref aR_next, .ref aR_nextFound, .int R_kept, .int R_hasRoom, .ref aR_keep, .ref aR_isTaken])), (aR_hints, .inl (cZ, 64, .inl R_hints))] → va_S A s.heap H locs → ∀ ls : Array Slot, lv_has ls 7 [(0, .ref aR), (1, .int x1), (2, .int x2_302), (3, .int x3_303)] → (∀ (x2_304 : Int32), some (x2_304) = some o_301 → ∀ (H : Heap) (locs : List Loc), va_P D vwCl [(aR, .inr (7, [.int R_triples, .ref aR_facts, .int R_patterns, .ref aR_cells, .ref aR_told, .ref aR_of, .ref aR_hints, .int R_filters, .ref aR_looks, .ref aR_kinds, .ref aR_values, .ref aR_isSafe, .ref aR_sizes, .ref aR_spreads, .ref aR_isSeen, .ref aR_estimates, .ref aR_rest, .int R_steps, .ref aR_order, .ref aR_joins, .ref aR_actsBehind, .ref aR_upTo, .int R_filtersThen, .ref aR_behind, .int R_rows, .ref aR_row, .ref aR_found, .int R_comes, .ref aR_next, .ref aR_nextFound, .int R_kept, .int R_hasRoom, .ref aR_keep, .ref aR_isTaken])), (aR_hints, .inl (cZ, 64, .inl R_hints))] H → va_D A [(aR, .inr (7, [.int R_triples, .ref aR_facts, .int R_patterns, .ref aR_cells, .ref aR_told, .ref aR_of, .ref aR_hints, .int R_filters, .ref aR_looks, .ref aR_kinds, .ref aR_values, .ref aR_isSafe, .ref aR_sizes, .ref aR_spreads, .ref aR_isSeen, .ref aR_estimates, .ref aR_rest, .int R_steps, .ref aR_order, .ref aR_joins, .ref aR_actsBehind, .ref aR_upTo, .int R_filtersThen, .ref aR_behind, .int R_rows, .ref aR_row, .ref aR_found, .int R_comes, .ref aR_next, .ref aR_nextFound, .int R_kept, .int R_hasRoom, .ref aR_keep, .ref aR_isTaken])), (aR_hints, .inl (cZ, 64, .inl R_hints))] → va_S A s.heap H locs → ∀ ls : Array Slot, lv_has ls 7 [(2, .int x2_304)] → W p l e rm_f_JoinOrderModel_beforeOf s m args below meth c H locs 0 0 Q (F0 m 103 ls [])) → W p l e rm_f_JoinOrderModel_beforeOf s m args below meth c H locs 0 0 Q (F0 m 4 ls []) := by
    intro k
    induction k with
    | zero =>
      intro x2_302 x3_303 o_301 hf
      exact absurd (((f_JoinOrderModel_beforeOf_L0_z n x1 R_hints x2_302 x3_303).symm.trans hf)) (fun h => by cases h)
    | succ k ih =>
      intro x2_302 x3_303 o_301 hf H locs hP hD hS ls hl hX_301
      have hf := (f_JoinOrderModel_beforeOf_L0_s n x1 R_hints k x2_302 x3_303).symm.trans hf
      refine lv_iload_n hx hb dX7_beforeOf_4 rfl (lv_at hl 3 rfl) ?_
      refine lv_bipush (v := (8 : Int32)) hx hb dX7_beforeOf_5 (by decide) ?_
      refine lv_icmp_ge (tgt := 103) hx hb dX7_beforeOf_7 (by decide) (fun c_305 => ?_) (fun c_305 => ?_)
      · have hf := xb_t c_305 hf
        exact hX_301 x2_302 hf _ _ hP hD hS _ (lv_sub hl [2] rfl)
      · have hf := xb_f c_305 hf
        refine lv_iconst (v := (0 : Int32)) hx hb dX7_beforeOf_10 (by decide) ?_
        refine lv_istore (lv' := [(4, .int (0 : Int32)), (0, .ref aR), (1, .int x1), (2, .int x2_302), (3, .int x3_303)]) hx hb dX7_beforeOf_11 hl (by decide) rfl (fun ls hl => ?_)
        have L_13_402 : ∀ (k : Nat) (x2_403 : Int32) (x4_404 : Int32) (o_402 : Int32), f_JoinOrderModel_beforeOf_L1 n x1 R_hints k x2_403 x4_404 = some o_402 → ∀ (H : Heap) (locs : List Loc), va_P D vwCl [(aR, .inr (7, [.int R_triples, .ref aR_facts, .int R_patterns, .ref aR_cells, .ref aR_told, .ref aR_of, .ref aR_hints, .int R_filters, .ref aR_looks, .ref aR_kinds, .ref aR_values, .ref aR_isSafe, .ref aR_sizes, .ref aR_spreads, .ref aR_isSeen, .ref aR_estimates, .ref aR_rest, .int R_steps, .ref aR_order, .ref aR_joins, .ref aR_actsBehind, .ref aR_upTo, .int R_filtersThen, .ref aR_behind, .int R_rows, .ref aR_row, .ref aR_found, .int R_comes, .ref aR_next, .ref aR_nextFound, .int R_kept, .int R_hasRoom, .ref aR_keep, .ref aR_isTaken])), (aR_hints, .inl (cZ, 64, .inl R_hints))] H → va_D A [(aR, .inr (7, [.int R_triples, .ref aR_facts, .int R_patterns, .ref aR_cells, .ref aR_told, .ref aR_of, .ref aR_hints, .int R_filters, .ref aR_looks, .ref aR_kinds, .ref aR_values, .ref aR_isSafe, .ref aR_sizes, .ref aR_spreads, .ref aR_isSeen, .ref aR_estimates, .ref aR_rest, .int R_steps, .ref aR_order, .ref aR_joins, .ref aR_actsBehind, .ref aR_upTo, .int R_filtersThen, .ref aR_behind, .int R_rows, .ref aR_row, .ref aR_found, .int R_comes, .ref aR_next, .ref aR_nextFound, .int R_kept, .int R_hasRoom, .ref aR_keep, .ref aR_isTaken])), (aR_hints, .inl (cZ, 64, .inl R_hints))] → va_S A s.heap H locs → ∀ ls : Array Slot, lv_has ls 7 [(0, .ref aR), (1, .int x1), (2, .int x2_403), (3, .int x3_303), (4, .int x4_404)] → (∀ (x2_405 : Int32), some (x2_405) = some o_402 → ∀ (H : Heap) (locs : List Loc), va_P D vwCl [(aR, .inr (7, [.int R_triples, .ref aR_facts, .int R_patterns, .ref aR_cells, .ref aR_told, .ref aR_of, .ref aR_hints, .int R_filters, .ref aR_looks, .ref aR_kinds, .ref aR_values, .ref aR_isSafe, .ref aR_sizes, .ref aR_spreads, .ref aR_isSeen, .ref aR_estimates, .ref aR_rest, .int R_steps, .ref aR_order, .ref aR_joins, .ref aR_actsBehind, .ref aR_upTo, .int R_filtersThen, .ref aR_behind, .int R_rows, .ref aR_row, .ref aR_found, .int R_comes, .ref aR_next, .ref aR_nextFound, .int R_kept, .int R_hasRoom, .ref aR_keep, .ref aR_isTaken])), (aR_hints, .inl (cZ, 64, .inl R_hints))] H → va_D A [(aR, .inr (7, [.int R_triples, .ref aR_facts, .int R_patterns, .ref aR_cells, .ref aR_told, .ref aR_of, .ref aR_hints, .int R_filters, .ref aR_looks, .ref aR_kinds, .ref aR_values, .ref aR_isSafe, .ref aR_sizes, .ref aR_spreads, .ref aR_isSeen, .ref aR_estimates, .ref aR_rest, .int R_steps, .ref aR_order, .ref aR_joins, .ref aR_actsBehind, .ref aR_upTo, .int R_filtersThen, .ref aR_behind, .int R_rows, .ref aR_row, .ref aR_found, .int R_comes, .ref aR_next, .ref aR_nextFound, .int R_kept, .int R_hasRoom, .ref aR_keep, .ref aR_isTaken])), (aR_hints, .inl (cZ, 64, .inl R_hints))] → va_S A s.heap H locs → ∀ ls : Array Slot, lv_has ls 7 [(0, .ref aR), (1, .int x1), (2, .int x2_405), (3, .int x3_303)] → W p l e rm_f_JoinOrderModel_beforeOf s m args below meth c H locs 0 0 Q (F0 m 97 ls [])) → W p l e rm_f_JoinOrderModel_beforeOf s m args below meth c H locs 0 0 Q (F0 m 13 ls []) := by
          intro k
          induction k with
          | zero =>
            intro x2_403 x4_404 o_402 hf
            exact absurd (((f_JoinOrderModel_beforeOf_L1_z n x1 R_hints x2_403 x4_404).symm.trans hf)) (fun h => by cases h)
          | succ k ih =>
            intro x2_403 x4_404 o_402 hf H locs hP hD hS ls hl hX_402
            have hf := (f_JoinOrderModel_beforeOf_L1_s n x1 R_hints k x2_403 x4_404).symm.trans hf
            refine lv_iload hx hb dX7_beforeOf_13 (lv_at hl 4 rfl) ?_
            refine lv_bipush (v := (8 : Int32)) hx hb dX7_beforeOf_15 (by decide) ?_
            refine lv_icmp_ge (tgt := 97) hx hb dX7_beforeOf_17 (by decide) (fun c_406 => ?_) (fun c_406 => ?_)
            · have hf := xb_t c_406 hf
              exact hX_402 x2_403 hf _ _ hP hD hS _ (lv_sub hl [0, 1, 2, 3] rfl)
            · have hf := xb_f c_406 hf
              refine lv_iconst (v := (0 : Int32)) hx hb dX7_beforeOf_20 (by decide) ?_
              refine lv_istore (lv' := [(5, .int (0 : Int32)), (0, .ref aR), (1, .int x1), (2, .int x2_403), (3, .int x3_303), (4, .int x4_404)]) hx hb dX7_beforeOf_21 hl (by decide) rfl (fun ls hl => ?_)
              have L_23_435 : ∀ (k : Nat) (x2_436 : Int32) (x5_437 : Int32) (o_435 : Int32), f_JoinOrderModel_beforeOf_L2 n x1 R_hints x4_404 k x2_436 x5_437 = some o_435 → ∀ (H : Heap) (locs : List Loc), va_P D vwCl [(aR, .inr (7, [.int R_triples, .ref aR_facts, .int R_patterns, .ref aR_cells, .ref aR_told, .ref aR_of, .ref aR_hints, .int R_filters, .ref aR_looks, .ref aR_kinds, .ref aR_values, .ref aR_isSafe, .ref aR_sizes, .ref aR_spreads, .ref aR_isSeen, .ref aR_estimates, .ref aR_rest, .int R_steps, .ref aR_order, .ref aR_joins, .ref aR_actsBehind, .ref aR_upTo, .int R_filtersThen, .ref aR_behind, .int R_rows, .ref aR_row, .ref aR_found, .int R_comes, .ref aR_next, .ref aR_nextFound, .int R_kept, .int R_hasRoom, .ref aR_keep, .ref aR_isTaken])), (aR_hints, .inl (cZ, 64, .inl R_hints))] H → va_D A [(aR, .inr (7, [.int R_triples, .ref aR_facts, .int R_patterns, .ref aR_cells, .ref aR_told, .ref aR_of, .ref aR_hints, .int R_filters, .ref aR_looks, .ref aR_kinds, .ref aR_values, .ref aR_isSafe, .ref aR_sizes, .ref aR_spreads, .ref aR_isSeen, .ref aR_estimates, .ref aR_rest, .int R_steps, .ref aR_order, .ref aR_joins, .ref aR_actsBehind, .ref aR_upTo, .int R_filtersThen, .ref aR_behind, .int R_rows, .ref aR_row, .ref aR_found, .int R_comes, .ref aR_next, .ref aR_nextFound, .int R_kept, .int R_hasRoom, .ref aR_keep, .ref aR_isTaken])), (aR_hints, .inl (cZ, 64, .inl R_hints))] → va_S A s.heap H locs → ∀ ls : Array Slot, lv_has ls 7 [(0, .ref aR), (1, .int x1), (2, .int x2_436), (3, .int x3_303), (4, .int x4_404), (5, .int x5_437)] → (∀ (x2_438 : Int32), some (x2_438) = some o_435 → ∀ (H : Heap) (locs : List Loc), va_P D vwCl [(aR, .inr (7, [.int R_triples, .ref aR_facts, .int R_patterns, .ref aR_cells, .ref aR_told, .ref aR_of, .ref aR_hints, .int R_filters, .ref aR_looks, .ref aR_kinds, .ref aR_values, .ref aR_isSafe, .ref aR_sizes, .ref aR_spreads, .ref aR_isSeen, .ref aR_estimates, .ref aR_rest, .int R_steps, .ref aR_order, .ref aR_joins, .ref aR_actsBehind, .ref aR_upTo, .int R_filtersThen, .ref aR_behind, .int R_rows, .ref aR_row, .ref aR_found, .int R_comes, .ref aR_next, .ref aR_nextFound, .int R_kept, .int R_hasRoom, .ref aR_keep, .ref aR_isTaken])), (aR_hints, .inl (cZ, 64, .inl R_hints))] H → va_D A [(aR, .inr (7, [.int R_triples, .ref aR_facts, .int R_patterns, .ref aR_cells, .ref aR_told, .ref aR_of, .ref aR_hints, .int R_filters, .ref aR_looks, .ref aR_kinds, .ref aR_values, .ref aR_isSafe, .ref aR_sizes, .ref aR_spreads, .ref aR_isSeen, .ref aR_estimates, .ref aR_rest, .int R_steps, .ref aR_order, .ref aR_joins, .ref aR_actsBehind, .ref aR_upTo, .int R_filtersThen, .ref aR_behind, .int R_rows, .ref aR_row, .ref aR_found, .int R_comes, .ref aR_next, .ref aR_nextFound, .int R_kept, .int R_hasRoom, .ref aR_keep, .ref aR_isTaken])), (aR_hints, .inl (cZ, 64, .inl R_hints))] → va_S A s.heap H locs → ∀ ls : Array Slot, lv_has ls 7 [(0, .ref aR), (1, .int x1), (2, .int x2_438), (3, .int x3_303), (4, .int x4_404)] → W p l e rm_f_JoinOrderModel_beforeOf s m args below meth c H locs 0 0 Q (F0 m 91 ls [])) → W p l e rm_f_JoinOrderModel_beforeOf s m args below meth c H locs 0 0 Q (F0 m 23 ls []) := by
                intro k
                induction k with
                | zero =>
                  intro x2_436 x5_437 o_435 hf
                  exact absurd (((f_JoinOrderModel_beforeOf_L2_z n x1 R_hints x4_404 x2_436 x5_437).symm.trans hf)) (fun h => by cases h)
                | succ k ih =>
                  intro x2_436 x5_437 o_435 hf H locs hP hD hS ls hl hX_435
                  have hf := (f_JoinOrderModel_beforeOf_L2_s n x1 R_hints x4_404 k x2_436 x5_437).symm.trans hf
                  refine lv_iload hx hb dX7_beforeOf_23 (lv_at hl 5 rfl) ?_
                  refine lv_bipush (v := (8 : Int32)) hx hb dX7_beforeOf_25 (by decide) ?_
                  refine lv_icmp_ge (tgt := 91) hx hb dX7_beforeOf_27 (by decide) (fun c_439 => ?_) (fun c_439 => ?_)
                  · have hf := xb_t c_439 hf
                    exact hX_435 x2_436 hf _ _ hP hD hS _ (lv_sub hl [0, 1, 2, 3, 4] rfl)
                  · have hf := xb_f c_439 hf
                    refine lv_aload_n hx hb dX7_beforeOf_30 rfl (lv_at hl 0 rfl) ?_
                    refine va_get (D := D) (ci := 7) (v := .ref aR_hints) (C := RX7) (T := TX7) (N := 34) hx hb htg giX7 hown hK hP 0 rfl rfl 6 (by decide) (htg _ kw_569) (fun _ h9 => h9) rfl dX7_beforeOf_31 ?_
                    refine lv_bipush (v := (8 : Int32)) hx hb dX7_beforeOf_34 (by decide) ?_
                    refine lv_iload hx hb dX7_beforeOf_36 (lv_at hl 4 rfl) ?_
                    refine lv_imul hx hb dX7_beforeOf_38 ?_
                    refine lv_iload hx hb dX7_beforeOf_39 (lv_at hl 5 rfl) ?_
                    refine lv_iadd hx hb dX7_beforeOf_41 ?_
                    have g_440 : vp_in (((8 : Int32) * x4_404) + x5_437) 64 := gd_in hf
                    have hf := gd_el hf
                    refine va_zald hx hb hK hP 1 2 rfl rfl g_440 dX7_beforeOf_42 ?_
                    obtain ⟨o_444, ho_444, hk_444⟩ := bn1_s hf
                    have J_67_444 : ∀ (z_445 : Int32), some (z_445) = some o_444 → ∀ (H : Heap) (locs : List Loc), va_P D vwCl [(aR, .inr (7, [.int R_triples, .ref aR_facts, .int R_patterns, .ref aR_cells, .ref aR_told, .ref aR_of, .ref aR_hints, .int R_filters, .ref aR_looks, .ref aR_kinds, .ref aR_values, .ref aR_isSafe, .ref aR_sizes, .ref aR_spreads, .ref aR_isSeen, .ref aR_estimates, .ref aR_rest, .int R_steps, .ref aR_order, .ref aR_joins, .ref aR_actsBehind, .ref aR_upTo, .int R_filtersThen, .ref aR_behind, .int R_rows, .ref aR_row, .ref aR_found, .int R_comes, .ref aR_next, .ref aR_nextFound, .int R_kept, .int R_hasRoom, .ref aR_keep, .ref aR_isTaken])), (aR_hints, .inl (cZ, 64, .inl R_hints))] H → va_D A [(aR, .inr (7, [.int R_triples, .ref aR_facts, .int R_patterns, .ref aR_cells, .ref aR_told, .ref aR_of, .ref aR_hints, .int R_filters, .ref aR_looks, .ref aR_kinds, .ref aR_values, .ref aR_isSafe, .ref aR_sizes, .ref aR_spreads, .ref aR_isSeen, .ref aR_estimates, .ref aR_rest, .int R_steps, .ref aR_order, .ref aR_joins, .ref aR_actsBehind, .ref aR_upTo, .int R_filtersThen, .ref aR_behind, .int R_rows, .ref aR_row, .ref aR_found, .int R_comes, .ref aR_next, .ref aR_nextFound, .int R_kept, .int R_hasRoom, .ref aR_keep, .ref aR_isTaken])), (aR_hints, .inl (cZ, 64, .inl R_hints))] → va_S A s.heap H locs → ∀ ls : Array Slot, lv_has ls 7 [(0, .ref aR), (1, .int x1), (2, .int x2_436), (3, .int x3_303), (4, .int x4_404), (5, .int x5_437)] → W p l e rm_f_JoinOrderModel_beforeOf s m args below meth c H locs 0 0 Q (F0 m 67 ls [.int z_445]) := by
                      intro z_445 hf H locs hP hD hS ls hl
                      have hf := hk_444 _ hf
                      refine lv_istore (lv' := [(6, .int z_445), (0, .ref aR), (1, .int x1), (2, .int x2_436), (3, .int x3_303), (4, .int x4_404), (5, .int x5_437)]) hx hb dX7_beforeOf_67 hl (by decide) rfl (fun ls hl => ?_)
                      refine lv_iload hx hb dX7_beforeOf_69 (lv_at hl 0 rfl) ?_
                      refine lv_if_eq (tgt := 83) hx hb dX7_beforeOf_71 (by decide) (fun c_446 => ?_) (fun c_446 => ?_)
                      · have hf := xb_t c_446 hf
                        refine lv_iload_n hx hb dX7_beforeOf_83 rfl (lv_at hl 3 rfl) ?_
                        refine lv_istore_n (lv' := [(2, .int x2_436), (6, .int z_445), (0, .ref aR), (1, .int x1), (3, .int x3_303), (4, .int x4_404), (5, .int x5_437)]) hx hb dX7_beforeOf_84 rfl hl (by decide) rfl (fun ls hl => ?_)
                        obtain ⟨x5_447, ex5_447⟩ : ∃ y : Int32, y = x5_437 + (1 : Int32) := ⟨_, rfl⟩
                        have hf := nm_nm ex5_447 hf
                        refine lv_iinc (v := x5_447) (lv' := [(5, .int x5_447), (2, .int x2_436), (6, .int z_445), (0, .ref aR), (1, .int x1), (3, .int x3_303), (4, .int x4_404)]) hx hb dX7_beforeOf_85 hl (k := 6) rfl (by rw [ex5_447]; rfl) (by decide) rfl (fun ls hl => ?_)
                        refine lv_goto (tgt := 23) hx hb dX7_beforeOf_88 (by decide) ?_
                        exact ih x2_436 x5_447 o_435 hf _ _ hP hD hS _ (lv_sub hl [3, 4, 1, 5, 6, 0] rfl) hX_435
                      · have hf := xb_f c_446 hf
                        refine lv_iload_n hx hb dX7_beforeOf_74 rfl (lv_at hl 3 rfl) ?_
                        refine lv_iconst (v := (1 : Int32)) hx hb dX7_beforeOf_75 (by decide) ?_
                        refine lv_iload hx hb dX7_beforeOf_76 (lv_at hl 5 rfl) ?_
                        refine lv_ishl hx hb dX7_beforeOf_78 ?_
                        refine lv_ior hx hb dX7_beforeOf_79 ?_
                        refine lv_goto (tgt := 84) hx hb dX7_beforeOf_80 (by decide) ?_
                        refine lv_topi (fun x2_448 ex2_448 => ?_)
                        have hf := nm_nm ex2_448 hf
                        refine lv_istore_n (lv' := [(2, .int x2_448), (6, .int z_445), (0, .ref aR), (1, .int x1), (3, .int x3_303), (4, .int x4_404), (5, .int x5_437)]) hx hb dX7_beforeOf_84 rfl hl (by decide) rfl (fun ls hl => ?_)
                        obtain ⟨x5_449, ex5_449⟩ : ∃ y : Int32, y = x5_437 + (1 : Int32) := ⟨_, rfl⟩
                        have hf := nm_nm ex5_449 hf
                        refine lv_iinc (v := x5_449) (lv' := [(5, .int x5_449), (2, .int x2_448), (6, .int z_445), (0, .ref aR), (1, .int x1), (3, .int x3_303), (4, .int x4_404)]) hx hb dX7_beforeOf_85 hl (k := 6) rfl (by rw [ex5_449]; rfl) (by decide) rfl (fun ls hl => ?_)
                        refine lv_goto (tgt := 23) hx hb dX7_beforeOf_88 (by decide) ?_
                        exact ih x2_448 x5_449 o_435 hf _ _ hP hD hS _ (lv_sub hl [3, 4, 1, 5, 6, 0] rfl) hX_435
                    have hf := ho_444
                    refine lv_if_eq (tgt := 66) hx hb dX7_beforeOf_43 (by decide) (fun c_441 => ?_) (fun c_441 => ?_)
                    · have hf := xb_t c_441 hf
                      refine lv_iconst (v := (0 : Int32)) hx hb dX7_beforeOf_66 (by decide) ?_
                      exact J_67_444 (0 : Int32) hf _ _ hP hD hS _ hl
                    · have hf := xb_f c_441 hf
                      refine lv_iload hx hb dX7_beforeOf_46 (lv_at hl 5 rfl) ?_
                      refine lv_iload_n hx hb dX7_beforeOf_48 rfl (lv_at hl 1 rfl) ?_
                      refine lv_icmp_eq (tgt := 62) hx hb dX7_beforeOf_49 (by decide) (fun c_450 => ?_) (fun c_450 => ?_)
                      · have hf := xb_t c_450 hf
                        refine lv_iconst (v := (1 : Int32)) hx hb dX7_beforeOf_62 (by decide) ?_
                        refine lv_goto (tgt := 67) hx hb dX7_beforeOf_63 (by decide) ?_
                        exact J_67_444 (1 : Int32) hf _ _ hP hD hS _ hl
                      · have hf := xb_f c_450 hf
                        refine lv_iload_n hx hb dX7_beforeOf_52 rfl (lv_at hl 2 rfl) ?_
                        refine lv_iload hx hb dX7_beforeOf_53 (lv_at hl 5 rfl) ?_
                        refine lv_ishr hx hb dX7_beforeOf_55 ?_
                        refine lv_iconst (v := (1 : Int32)) hx hb dX7_beforeOf_56 (by decide) ?_
                        refine lv_iand hx hb dX7_beforeOf_57 ?_
                        refine lv_iconst (v := (1 : Int32)) hx hb dX7_beforeOf_58 (by decide) ?_
                        refine lv_icmp_ne (tgt := 66) hx hb dX7_beforeOf_59 (by decide) (fun c_451 => ?_) (fun c_451 => ?_)
                        · have hf := xb_f c_451 hf
                          refine lv_iconst (v := (0 : Int32)) hx hb dX7_beforeOf_66 (by decide) ?_
                          exact J_67_444 (0 : Int32) hf _ _ hP hD hS _ hl
                        · have hf := xb_t c_451 hf
                          refine lv_iconst (v := (1 : Int32)) hx hb dX7_beforeOf_62 (by decide) ?_
                          refine lv_goto (tgt := 67) hx hb dX7_beforeOf_63 (by decide) ?_
                          exact J_67_444 (1 : Int32) hf _ _ hP hD hS _ hl
              obtain ⟨o_435, ho_435, hk_435⟩ := bn1_s hf
              refine L_23_435 n x2_403 (0 : Int32) o_435 ho_435 _ _ hP hD hS _ (lv_sub hl [1, 2, 3, 4, 5, 0] rfl) (fun x2_438 hf H locs hP hD hS ls hl => ?_)
              have hf := hk_435 _ hf
              obtain ⟨x4_452, ex4_452⟩ : ∃ y : Int32, y = x4_404 + (1 : Int32) := ⟨_, rfl⟩
              have hf := nm_nm ex4_452 hf
              refine lv_iinc (v := x4_452) (lv' := [(4, .int x4_452), (0, .ref aR), (1, .int x1), (2, .int x2_438), (3, .int x3_303)]) hx hb dX7_beforeOf_91 hl (k := 4) rfl (by rw [ex4_452]; rfl) (by decide) rfl (fun ls hl => ?_)
              refine lv_goto (tgt := 13) hx hb dX7_beforeOf_94 (by decide) ?_
              exact ih x2_438 x4_452 o_402 hf _ _ hP hD hS _ (lv_sub hl [1, 2, 3, 4, 0] rfl) hX_402
        obtain ⟨o_402, ho_402, hk_402⟩ := bn1_s hf
        refine L_13_402 n x2_302 (0 : Int32) o_402 ho_402 _ _ hP hD hS _ (lv_sub hl [1, 2, 3, 4, 0] rfl) (fun x2_405 hf H locs hP hD hS ls hl => ?_)
        have hf := hk_402 _ hf
        obtain ⟨x3_453, ex3_453⟩ : ∃ y : Int32, y = x3_303 + (1 : Int32) := ⟨_, rfl⟩
        have hf := nm_nm ex3_453 hf
        refine lv_iinc (v := x3_453) (lv' := [(3, .int x3_453), (0, .ref aR), (1, .int x1), (2, .int x2_405)]) hx hb dX7_beforeOf_97 hl (k := 3) rfl (by rw [ex3_453]; rfl) (by decide) rfl (fun ls hl => ?_)
        refine lv_goto (tgt := 4) hx hb dX7_beforeOf_100 (by decide) ?_
        exact ih x2_405 x3_453 o_301 hf _ _ hP hD hS _ (lv_sub hl [1, 2, 3, 0] rfl) hX_301
  obtain ⟨o_301, ho_301, hk_301⟩ := bn1_s hf
  refine L_4_301 n (0 : Int32) (0 : Int32) o_301 ho_301 _ _ hP hD hS _ (lv_sub hl [2, 3, 1, 0] rfl) (fun x2_304 hf H locs hP hD hS ls hl => ?_)
  have hf := hk_301 _ hf
  refine lv_iload_n hx hb dX7_beforeOf_103 rfl (lv_at hl 0 rfl) ?_
  have hf := Option.some.inj hf
  subst hf
  exact x_iret (fun _ => 0) hQ hx hb hr hlk hK hP hD hS dX7_beforeOf_104
