abbrev rm_f_JoinOrderModel_beforeOf : Room := { frames := 0, cells := 0, slots := 0, locals := 0 }
set_option maxHeartbeats 4000000 in
set_option maxRecDepth 100000 in
theorem c_f_JoinOrderModel_beforeOf (l : Launch) (D : va_G) (cI cJ cZ : ClassId) (sz : Nat) (n : Nat) (aR : Nat) (x1 : Int32) (R_triples : Int32) (aR_facts : Nat) (R_patterns : Int32) (aR_cells : Nat) (aR_told : Nat) (aR_of : Nat) (aR_hints : Nat) (R_filters : Int32) (aR_looks : Nat) (aR_kinds : Nat) (aR_values : Nat) (aR_isSafe : Nat) (aR_sizes : Nat) (aR_spreads : Nat) (aR_isSeen : Nat) (aR_estimates : Nat) (aR_rest : Nat) (R_steps : Int32) (aR_order : Nat) (aR_joins : Nat) (aR_actsBehind : Nat) (aR_upTo : Nat) (R_filtersThen : Int32) (aR_behind : Nat) (R_rows : Int32) (aR_row : Nat) (aR_found : Nat) (R_comes : Int32) (aR_next : Nat) (aR_nextFound : Nat) (R_kept : Int32) (R_hasRoom : Int32) (aR_keep : Nat) (aR_isTaken : Nat) (R_hints : Nat → Int32) {r : Int32} (hf : f_JoinOrderModel_beforeOf n x1 R_hints = some r) : Met l yX7_beforeOf (.code yX7_beforeOf cX7_beforeOf 7 (some .int) :: GW) rm_f_JoinOrderModel_beforeOf (va_Pc [.ref aR, .int x1] (xP D (xT cI cJ cZ) sz [(aR, .inr (7, [.int R_triples, .ref aR_facts, .int R_patterns, .ref aR_cells, .ref aR_told, .ref aR_of, .ref aR_hints, .int R_filters, .ref aR_looks, .ref aR_kinds, .ref aR_values, .ref aR_isSafe, .ref aR_sizes, .ref aR_spreads, .ref aR_isSeen, .ref aR_estimates, .ref aR_rest, .int R_steps, .ref aR_order, .ref aR_joins, .ref aR_actsBehind, .ref aR_upTo, .int R_filtersThen, .ref aR_behind, .int R_rows, .ref aR_row, .ref aR_found, .int R_comes, .ref aR_next, .ref aR_nextFound, .int R_kept, .int R_hasRoom, .ref aR_keep, .ref aR_isTaken])), (aR_hints, .inl (cZ, 64, .inl R_hints))])) (va_Qi (fun r2 (_ : Nat → Nat) => r2 = r) (bB D (xT cI cJ cZ) (fun _ => [(aR, .inr (7, [.int R_triples, .ref aR_facts, .int R_patterns, .ref aR_cells, .ref aR_told, .ref aR_of, .ref aR_hints, .int R_filters, .ref aR_looks, .ref aR_kinds, .ref aR_values, .ref aR_isSafe, .ref aR_sizes, .ref aR_spreads, .ref aR_isSeen, .ref aR_estimates, .ref aR_rest, .int R_steps, .ref aR_order, .ref aR_joins, .ref aR_actsBehind, .ref aR_upTo, .int R_filtersThen, .ref aR_behind, .int R_rows, .ref aR_row, .ref aR_found, .int R_comes, .ref aR_next, .ref aR_nextFound, .int R_kept, .int R_hasRoom, .ref aR_keep, .ref aR_isTaken])), (aR_hints, .inl (cZ, 64, .inl R_hints))]) (va_A [(aR, .inr (7, [.int R_triples, .ref aR_facts, .int R_patterns, .ref aR_cells, .ref aR_told, .ref aR_of, .ref aR_hints, .int R_filters, .ref aR_looks, .ref aR_kinds, .ref aR_values, .ref aR_isSafe, .ref aR_sizes, .ref aR_spreads, .ref aR_isSeen, .ref aR_estimates, .ref aR_rest, .int R_steps, .ref aR_order, .ref aR_joins, .ref aR_actsBehind, .ref aR_upTo, .int R_filtersThen, .ref aR_behind, .int R_rows, .ref aR_row, .ref aR_found, .int R_comes, .ref aR_next, .ref aR_nextFound, .int R_kept, .int R_hasRoom, .ref aR_keep, .ref aR_isTaken])), (aR_hints, .inl (cZ, 64, .inl R_hints))] sz)) (va_A [(aR, .inr (7, [.int R_triples, .ref aR_facts, .int R_patterns, .ref aR_cells, .ref aR_told, .ref aR_of, .ref aR_hints, .int R_filters, .ref aR_looks, .ref aR_kinds, .ref aR_values, .ref aR_isSafe, .ref aR_sizes, .ref aR_spreads, .ref aR_isSeen, .ref aR_estimates, .ref aR_rest, .int R_steps, .ref aR_order, .ref aR_joins, .ref aR_actsBehind, .ref aR_upTo, .int R_filtersThen, .ref aR_behind, .int R_rows, .ref aR_row, .ref aR_found, .int R_comes, .ref aR_next, .ref aR_nextFound, .int R_kept, .int R_hasRoom, .ref aR_keep, .ref aR_isTaken])), (aR_hints, .inl (cZ, 64, .inl R_hints))] sz)) 0 0 (va_A [(aR, .inr (7, [.int R_triples, .ref aR_facts, .int R_patterns, .ref aR_cells, .ref aR_told, .ref aR_of, .ref aR_hints, .int R_filters, .ref aR_looks, .ref aR_kinds, .ref aR_values, .ref aR_isSafe, .ref aR_sizes, .ref aR_spreads, .ref aR_isSeen, .ref aR_estimates, .ref aR_rest, .int R_steps, .ref aR_order, .ref aR_joins, .ref aR_actsBehind, .ref aR_upTo, .int R_filtersThen, .ref aR_behind, .int R_rows, .ref aR_row, .ref aR_found, .int R_comes, .ref aR_next, .ref aR_nextFound, .int R_kept, .int R_hasRoom, .ref aR_keep, .ref aR_isTaken])), (aR_hints, .inl (cZ, 64, .inl R_hints))] sz) := by
  refine con_start (Qc := fun A => va_Qi (fun r2 (_ : Nat → Nat) => r2 = r) (bB D (xT cI cJ cZ) (fun _ => [(aR, .inr (7, [.int R_triples, .ref aR_facts, .int R_patterns, .ref aR_cells, .ref aR_told, .ref aR_of, .ref aR_hints, .int R_filters, .ref aR_looks, .ref aR_kinds, .ref aR_values, .ref aR_isSafe, .ref aR_sizes, .ref aR_spreads, .ref aR_isSeen, .ref aR_estimates, .ref aR_rest, .int R_steps, .ref aR_order, .ref aR_joins, .ref aR_actsBehind, .ref aR_upTo, .int R_filtersThen, .ref aR_behind, .int R_rows, .ref aR_row, .ref aR_found, .int R_comes, .ref aR_next, .ref aR_nextFound, .int R_kept, .int R_hasRoom, .ref aR_keep, .ref aR_isTaken])), (aR_hints, .inl (cZ, 64, .inl R_hints))]) A) A) (by decide) (Nat.le_of_ble_eq_true rfl) ?_
  intro p e s m args below meth c Q A hx hb hr hlk hml hown hin htg hN hK hQ hA hP hD hS ls hl
  have hl : lv_has ls 7 [(0, .ref aR), (1, .int x1)] := hl
  have hown : s.vm.findClass RX7 = some m.cls := hown
  have hf := (f_JoinOrderModel_beforeOf_u n x1 R_hints).symm.trans hf
  refine lv_iconst (v := (0 : Int32)) hx hb dX7_beforeOf_0 (by decide) ?_
  refine lv_istore_n (lv' := [(2, .int (0 : Int32)), (0, .ref aR), (1, .int x1)]) hx hb dX7_beforeOf_1 rfl hl (by decide) rfl (fun ls hl => ?_)
  refine lv_iconst (v := (0 : Int32)) hx hb dX7_beforeOf_2 (by decide) ?_
  refine lv_istore_n (lv' := [(3, .int (0 : Int32)), (2, .int (0 : Int32)), (0, .ref aR), (1, .int x1)]) hx hb dX7_beforeOf_3 rfl hl (by decide) rfl (fun ls hl => ?_)
  have L_4_301 : ∀ (k : Nat) (x2_302 : Int32) (x3_303 : Int32) (o_301 : Int32), f_JoinOrderModel_beforeOf_L0 n x1 R_hints k x2_302 x3_303 = some o_301 → ∀ (H : Heap) (locs : List Loc), va_P D vwCl [(aR, .inr (7, [.int R_triples, .ref aR_facts, .int R_patterns, .ref aR_cells, .ref aR_told, .ref aR_of, .ref aR_hints, .int R_filters, .ref aR_looks, .ref aR_kinds, .ref aR_values, .ref aR_isSafe, .ref aR_sizes, .ref aR_spreads, .ref aR_isSeen, .ref aR_estimates, .ref aR_rest, .int R_steps, .ref aR_order, .ref aR_joins, .ref aR_actsBehind, .ref aR_upTo, .int R_filtersThen, .ref aR_behind, .int R_rows, .ref aR_row, .ref aR_found, .int R_comes, .ref aR_next, .ref aR_nextFound, .int R_kept, .int R_hasRoom, .ref aR_keep, .ref aR_isTaken])), (aR_hints, .inl (cZ, 64, .inl R_hints))] H → va_D A [(aR, .inr (7, [.int R_triples, .ref aR_facts, .int R_patterns, .ref aR_cells, .ref aR_told, .ref aR_of, .ref aR_hints, .int R_filters, .ref aR_looks, .ref aR_kinds, .ref aR_values, .ref aR_isSafe, .ref aR_sizes, .ref aR_spreads, .ref aR_isSeen, .ref aR_estimates, .ref aR_rest, .int R_steps, .ref aR_order, .ref aR_joins, .ref aR_actsBehind, .ref aR_upTo, .int R_filtersThen, .ref aR_behind, .int R_rows, .ref aR_row, .ref aR_found, .int R_comes, .ref aR_next, .ref aR_nextFound, .int R_kept, .int R_hasRoom, .ref aR_keep, .ref aR_isTaken])), (aR_hints, .inl (cZ, 64, .inl R_hints))] → va_S A s.heap H locs → ∀ ls : Array Slot, lv_has ls 7 [(0, .ref aR), (1, .int x1), (2, .int x2_302), (3, .int x3_303)] → (∀ (x2_304 : Int32), some (x2_304) = some o_301 → ∀ (H : Heap) (locs : List Loc), va_P D vwCl [(aR, .inr (7, [.int R_triples, .ref aR_facts, .int R_patterns, .ref aR_cells, .ref aR_told, .ref aR_of, .ref aR_hints, .int R_filters, .ref aR_looks, .ref aR_kinds, .ref aR_values, .ref aR_isSafe, .ref aR_sizes, .ref aR_spreads, .ref aR_isSeen, .ref aR_estimates, .ref aR_rest, .int R_steps, .ref aR_order, .ref aR_joins, .ref aR_actsBehind, .ref aR_upTo, .int R_filtersThen, .ref aR_behind, .int R_rows, .ref aR_row, .ref aR_found, .int R_comes, .ref aR_next, .ref aR_nextFound, .int R_kept, .int R_hasRoom, .ref aR_keep, .ref aR_isTaken])), (aR_hints, .inl (cZ, 64, .inl R_hints))] H → va_D A [(aR, .inr (7, [.int R_triples, .ref aR_facts, .int R_patterns, .ref aR_cells, .ref aR_told, .ref aR_of, .ref aR_hints, .int R_filters, .ref aR_looks, .ref aR_kinds, .ref aR_values, .ref aR_isSafe, .ref aR_sizes, .ref aR_spreads, .ref aR_isSeen, .ref aR_estimates, .ref aR_rest, .int R_steps, .ref aR_order, .ref aR_joins, .ref aR_actsBehind, .ref aR_upTo, .int R_filtersThen, .ref aR_behind, .int R_rows, .ref aR_row, .ref aR_found, .int R_comes, .ref aR_next, .ref aR_nextFound, .int R_kept, .int R_hasRoom, .ref aR_keep, .ref aR_isTaken])), (aR_hints, .inl (cZ, 64, .inl R_hints))] → va_S A s.heap H locs → ∀ ls : Array Slot, lv_has ls 7 [(2, .int x2_304)] → W p l e rm_f_JoinOrderModel_beforeOf s m args below meth c H locs 0 0 Q (F0 m 103 ls [])) → W p l e rm_f_JoinOrderModel_beforeOf s m args below meth c H locs 0 0 Q (F0 m 4 ls []) := by
    intro k
    induction k with
    | zero =>
      intro x2_302 x3_303 o_301 hf
      exact absurd (((f_JoinOrderModel_beforeOf_L0_z n x1 R_hints x2_302 x3_303).symm.trans hf)) (fun h => by cases h)
    | succ k ih =>
      intro x2_302 x3_303 o_301 hf H locs hP hD hS ls hl hX_301
      have hf := (f_JoinOrderModel_beforeOf_L0_s n x1 R_hints k x2_302 x3_303).symm.trans hf
      refine lv_iload_n hx hb dX7_beforeOf_4 rfl (lv_at hl 3 rfl) ?_
      refine lv_bipush (v := (8 : Int32)) hx hb dX7_beforeOf_5 (by decide) ?_
      refine lv_icmp_ge (tgt := 103) hx hb dX7_beforeOf_7 (by decide) (fun c_305 => ?_) (fun c_305 => ?_)
      · have hf := xb_t c_305 hf
        exact hX_301 x2_302 hf _ _ hP hD hS _ (lv_sub hl [2] rfl)
      · have hf := xb_f c_305 hf
        refine lv_iconst (v := (0 : Int32)) hx hb dX7_beforeOf_10 (by decide) ?_
        refine lv_istore (lv' := [(4, .int (0 : Int32)), (0, .ref aR), (1, .int x1), (2, .int x2_302), (3, .int x3_303)]) hx hb dX7_beforeOf_11 hl (by decide) rfl (fun ls hl => ?_)
        have L_13_402 : ∀ (k : Nat) (x2_403 : Int32) (x4_404 : Int32) (o_402 : Int32), f_JoinOrderModel_beforeOf_L1 n x1 R_hints k x2_403 x4_404 = some o_402 → ∀ (H : Heap) (locs : List Loc), va_P D vwCl [(aR, .inr (7, [.int R_triples, .ref aR_facts, .int R_patterns, .ref aR_cells, .ref aR_told, .ref aR_of, .ref aR_hints, .int R_filters, .ref aR_looks, .ref aR_kinds, .ref aR_values, .ref aR_isSafe, .ref aR_sizes, .ref aR_spreads, .ref aR_isSeen, .ref aR_estimates, .ref aR_rest, .int R_steps, .ref aR_order, .ref aR_joins, .ref aR_actsBehind, .ref aR_upTo, .int R_filtersThen, .ref aR_behind, .int R_rows, .ref aR_row, .ref aR_found, .int R_comes, .ref aR_next, .ref aR_nextFound, .int R_kept, .int R_hasRoom, .ref aR_keep, .ref aR_isTaken])), (aR_hints, .inl (cZ, 64, .inl R_hints))] H → va_D A [(aR, .inr (7, [.int R_triples, .ref aR_facts, .int R_patterns, .ref aR_cells, .ref aR_told, .ref aR_of, .ref aR_hints, .int R_filters, .ref aR_looks, .ref aR_kinds, .ref aR_values, .ref aR_isSafe, .ref aR_sizes, .ref aR_spreads, .ref aR_isSeen, .ref aR_estimates, .ref aR_rest, .int R_steps, .ref aR_order, .ref aR_joins, .ref aR_actsBehind, .ref aR_upTo, .int R_filtersThen, .ref aR_behind, .int R_rows, .ref aR_row, .ref aR_found, .int R_comes, .ref aR_next, .ref aR_nextFound, .int R_kept, .int R_hasRoom, .ref aR_keep, .ref aR_isTaken])), (aR_hints, .inl (cZ, 64, .inl R_hints))] → va_S A s.heap H locs → ∀ ls : Array Slot, lv_has ls 7 [(0, .ref aR), (1, .int x1), (2, .int x2_403), (3, .int x3_303), (4, .int x4_404)] → (∀ (x2_405 : Int32), some (x2_405) = some o_402 → ∀ (H : Heap) (locs : List Loc), va_P D vwCl [(aR, .inr (7, [.int R_triples, .ref aR_facts, .int R_patterns, .ref aR_cells, .ref aR_told, .ref aR_of, .ref aR_hints, .int R_filters, .ref aR_looks, .ref aR_kinds, .ref aR_values, .ref aR_isSafe, .ref aR_sizes, .ref aR_spreads, .ref aR_isSeen, .ref aR_estimates, .ref aR_rest, .int R_steps, .ref aR_order, .ref aR_joins, .ref aR_actsBehind, .ref aR_upTo, .int R_filtersThen, .ref aR_behind, .int R_rows, .ref aR_row, .ref aR_found, .int R_comes, .ref aR_next, .ref aR_nextFound, .int R_kept, .int R_hasRoom, .ref aR_keep, .ref aR_isTaken])), (aR_hints, .inl (cZ, 64, .inl R_hints))] H → va_D A [(aR, .inr (7, [.int R_triples, .ref aR_facts, .int R_patterns, .ref aR_cells, .ref aR_told, .ref aR_of, .ref aR_hints, .int R_filters, .ref aR_looks, .ref aR_kinds, .ref aR_values, .ref aR_isSafe, .ref aR_sizes, .ref aR_spreads, .ref aR_isSeen, .ref aR_estimates, .ref aR_rest, .int R_steps, .ref aR_order, .ref aR_joins, .ref aR_actsBehind, .ref aR_upTo, .int R_filtersThen, .ref aR_behind, .int R_rows, .ref aR_row, .ref aR_found, .int R_comes, .ref aR_next, .ref aR_nextFound, .int R_kept, .int R_hasRoom, .ref aR_keep, .ref aR_isTaken])), (aR_hints, .inl (cZ, 64, .inl R_hints))] → va_S A s.heap H locs → ∀ ls : Array Slot, lv_has ls 7 [(0, .ref aR), (1, .int x1), (2, .int x2_405), (3, .int x3_303)] → W p l e rm_f_JoinOrderModel_beforeOf s m args below meth c H locs 0 0 Q (F0 m 97 ls [])) → W p l e rm_f_JoinOrderModel_beforeOf s m args below meth c H locs 0 0 Q (F0 m 13 ls []) := by
          intro k
          induction k with
          | zero =>
            intro x2_403 x4_404 o_402 hf
            exact absurd (((f_JoinOrderModel_beforeOf_L1_z n x1 R_hints x2_403 x4_404).symm.trans hf)) (fun h => by cases h)
          | succ k ih =>
            intro x2_403 x4_404 o_402 hf H locs hP hD hS ls hl hX_402
            have hf := (f_JoinOrderModel_beforeOf_L1_s n x1 R_hints k x2_403 x4_404).symm.trans hf
            refine lv_iload hx hb dX7_beforeOf_13 (lv_at hl 4 rfl) ?_
            refine lv_bipush (v := (8 : Int32)) hx hb dX7_beforeOf_15 (by decide) ?_
            refine lv_icmp_ge (tgt := 97) hx hb dX7_beforeOf_17 (by decide) (fun c_406 => ?_) (fun c_406 => ?_)
            · have hf := xb_t c_406 hf
              exact hX_402 x2_403 hf _ _ hP hD hS _ (lv_sub hl [0, 1, 2, 3] rfl)
            · have hf := xb_f c_406 hf
              refine lv_iconst (v := (0 : Int32)) hx hb dX7_beforeOf_20 (by decide) ?_
              refine lv_istore (lv' := [(5, .int (0 : Int32)), (0, .ref aR), (1, .int x1), (2, .int x2_403), (3, .int x3_303), (4, .int x4_404)]) hx hb dX7_beforeOf_21 hl (by decide) rfl (fun ls hl => ?_)
              have L_23_435 : ∀ (k : Nat) (x2_436 : Int32) (x5_437 : Int32) (o_435 : Int32), f_JoinOrderModel_beforeOf_L2 n x1 R_hints x4_404 k x2_436 x5_437 = some o_435 → ∀ (H : Heap) (locs : List Loc), va_P D vwCl [(aR, .inr (7, [.int R_triples, .ref aR_facts, .int R_patterns, .ref aR_cells, .ref aR_told, .ref aR_of, .ref aR_hints, .int R_filters, .ref aR_looks, .ref aR_kinds, .ref aR_values, .ref aR_isSafe, .ref aR_sizes, .ref aR_spreads, .ref aR_isSeen, .ref aR_estimates, .ref aR_rest, .int R_steps, .ref aR_order, .ref aR_joins, .ref aR_actsBehind, .ref aR_upTo, .int R_filtersThen, .ref aR_behind, .int R_rows, .ref aR_row, .ref aR_found, .int R_comes, .ref aR_next, .ref aR_nextFound, .int R_kept, .int R_hasRoom, .ref aR_keep, .ref aR_isTaken])), (aR_hints, .inl (cZ, 64, .inl R_hints))] H → va_D A [(aR, .inr (7, [.int R_triples, .ref aR_facts, .int R_patterns, .ref aR_cells, .ref aR_told, .ref aR_of, .ref aR_hints, .int R_filters, .ref aR_looks, .ref aR_kinds, .ref aR_values, .ref aR_isSafe, .ref aR_sizes, .ref aR_spreads, .ref aR_isSeen, .ref aR_estimates, .ref aR_rest, .int R_steps, .ref aR_order, .ref aR_joins, .ref aR_actsBehind, .ref aR_upTo, .int R_filtersThen, .ref aR_behind, .int R_rows, .ref aR_row, .ref aR_found, .int R_comes, .ref aR_next, .ref aR_nextFound, .int R_kept, .int R_hasRoom, .ref aR_keep, .ref aR_isTaken])), (aR_hints, .inl (cZ, 64, .inl R_hints))] → va_S A s.heap H locs → ∀ ls : Array Slot, lv_has ls 7 [(0, .ref aR), (1, .int x1), (2, .int x2_436), (3, .int x3_303), (4, .int x4_404), (5, .int x5_437)] → (∀ (x2_438 : Int32), some (x2_438) = some o_435 → ∀ (H : Heap) (locs : List Loc), va_P D vwCl [(aR, .inr (7, [.int R_triples, .ref aR_facts, .int R_patterns, .ref aR_cells, .ref aR_told, .ref aR_of, .ref aR_hints, .int R_filters, .ref aR_looks, .ref aR_kinds, .ref aR_values, .ref aR_isSafe, .ref aR_sizes, .ref aR_spreads, .ref aR_isSeen, .ref aR_estimates, .ref aR_rest, .int R_steps, .ref aR_order, .ref aR_joins, .ref aR_actsBehind, .ref aR_upTo, .int R_filtersThen, .ref aR_behind, .int R_rows, .ref aR_row, .ref aR_found, .int R_comes, .ref aR_next, .ref aR_nextFound, .int R_kept, .int R_hasRoom, .ref aR_keep, .ref aR_isTaken])), (aR_hints, .inl (cZ, 64, .inl R_hints))] H → va_D A [(aR, .inr (7, [.int R_triples, .ref aR_facts, .int R_patterns, .ref aR_cells, .ref aR_told, .ref aR_of, .ref aR_hints, .int R_filters, .ref aR_looks, .ref aR_kinds, .ref aR_values, .ref aR_isSafe, .ref aR_sizes, .ref aR_spreads, .ref aR_isSeen, .ref aR_estimates, .ref aR_rest, .int R_steps, .ref aR_order, .ref aR_joins, .ref aR_actsBehind, .ref aR_upTo, .int R_filtersThen, .ref aR_behind, .int R_rows, .ref aR_row, .ref aR_found, .int R_comes, .ref aR_next, .ref aR_nextFound, .int R_kept, .int R_hasRoom, .ref aR_keep, .ref aR_isTaken])), (aR_hints, .inl (cZ, 64, .inl R_hints))] → va_S A s.heap H locs → ∀ ls : Array Slot, lv_has ls 7 [(0, .ref aR), (1, .int x1), (2, .int x2_438), (3, .int x3_303), (4, .int x4_404)] → W p l e rm_f_JoinOrderModel_beforeOf s m args below meth c H locs 0 0 Q (F0 m 91 ls [])) → W p l e rm_f_JoinOrderModel_beforeOf s m args below meth c H locs 0 0 Q (F0 m 23 ls []) := by
                intro k
                induction k with
                | zero =>
                  intro x2_436 x5_437 o_435 hf
                  exact absurd (((f_JoinOrderModel_beforeOf_L2_z n x1 R_hints x4_404 x2_436 x5_437).symm.trans hf)) (fun h => by cases h)
                | succ k ih =>
                  intro x2_436 x5_437 o_435 hf H locs hP hD hS ls hl hX_435
                  have hf := (f_JoinOrderModel_beforeOf_L2_s n x1 R_hints x4_404 k x2_436 x5_437).symm.trans hf
                  refine lv_iload hx hb dX7_beforeOf_23 (lv_at hl 5 rfl) ?_
                  refine lv_bipush (v := (8 : Int32)) hx hb dX7_beforeOf_25 (by decide) ?_
                  refine lv_icmp_ge (tgt := 91) hx hb dX7_beforeOf_27 (by decide) (fun c_439 => ?_) (fun c_439 => ?_)
                  · have hf := xb_t c_439 hf
                    exact hX_435 x2_436 hf _ _ hP hD hS _ (lv_sub hl [0, 1, 2, 3, 4] rfl)
                  · have hf := xb_f c_439 hf
                    refine lv_aload_n hx hb dX7_beforeOf_30 rfl (lv_at hl 0 rfl) ?_
                    refine va_get (D := D) (ci := 7) (v := .ref aR_hints) (C := RX7) (T := TX7) (N := 34) hx hb htg giX7 hown hK hP 0 rfl rfl 6 (by decide) (htg _ kw_569) (fun _ h9 => h9) rfl dX7_beforeOf_31 ?_
                    refine lv_bipush (v := (8 : Int32)) hx hb dX7_beforeOf_34 (by decide) ?_
                    refine lv_iload hx hb dX7_beforeOf_36 (lv_at hl 4 rfl) ?_
                    refine lv_imul hx hb dX7_beforeOf_38 ?_
                    refine lv_iload hx hb dX7_beforeOf_39 (lv_at hl 5 rfl) ?_
                    refine lv_iadd hx hb dX7_beforeOf_41 ?_
                    have g_440 : vp_in (((8 : Int32) * x4_404) + x5_437) 64 := gd_in hf
                    have hf := gd_el hf
                    refine va_zald hx hb hK hP 1 2 rfl rfl g_440 dX7_beforeOf_42 ?_
                    obtain ⟨o_444, ho_444, hk_444⟩ := bn1_s hf
                    have J_67_444 : ∀ (z_445 : Int32), some (z_445) = some o_444 → ∀ (H : Heap) (locs : List Loc), va_P D vwCl [(aR, .inr (7, [.int R_triples, .ref aR_facts, .int R_patterns, .ref aR_cells, .ref aR_told, .ref aR_of, .ref aR_hints, .int R_filters, .ref aR_looks, .ref aR_kinds, .ref aR_values, .ref aR_isSafe, .ref aR_sizes, .ref aR_spreads, .ref aR_isSeen, .ref aR_estimates, .ref aR_rest, .int R_steps, .ref aR_order, .ref aR_joins, .ref aR_actsBehind, .ref aR_upTo, .int R_filtersThen, .ref aR_behind, .int R_rows, .ref aR_row, .ref aR_found, .int R_comes, .ref aR_next, .ref aR_nextFound, .int R_kept, .int R_hasRoom, .ref aR_keep, .ref aR_isTaken])), (aR_hints, .inl (cZ, 64, .inl R_hints))] H → va_D A [(aR, .inr (7, [.int R_triples, .ref aR_facts, .int R_patterns, .ref aR_cells, .ref aR_told, .ref aR_of, .ref aR_hints, .int R_filters, .ref aR_looks, .ref aR_kinds, .ref aR_values, .ref aR_isSafe, .ref aR_sizes, .ref aR_spreads, .ref aR_isSeen, .ref aR_estimates, .ref aR_rest, .int R_steps, .ref aR_order, .ref aR_joins, .ref aR_actsBehind, .ref aR_upTo, .int R_filtersThen, .ref aR_behind, .int R_rows, .ref aR_row, .ref aR_found, .int R_comes, .ref aR_next, .ref aR_nextFound, .int R_kept, .int R_hasRoom, .ref aR_keep, .ref aR_isTaken])), (aR_hints, .inl (cZ, 64, .inl R_hints))] → va_S A s.heap H locs → ∀ ls : Array Slot, lv_has ls 7 [(0, .ref aR), (1, .int x1), (2, .int x2_436), (3, .int x3_303), (4, .int x4_404), (5, .int x5_437)] → W p l e rm_f_JoinOrderModel_beforeOf s m args below meth c H locs 0 0 Q (F0 m 67 ls [.int z_445]) := by
                      intro z_445 hf H locs hP hD hS ls hl
                      have hf := hk_444 _ hf
                      refine lv_istore (lv' := [(6, .int z_445), (0, .ref aR), (1, .int x1), (2, .int x2_436), (3, .int x3_303), (4, .int x4_404), (5, .int x5_437)]) hx hb dX7_beforeOf_67 hl (by decide) rfl (fun ls hl => ?_)
                      refine lv_iload hx hb dX7_beforeOf_69 (lv_at hl 0 rfl) ?_
                      refine lv_if_eq (tgt := 83) hx hb dX7_beforeOf_71 (by decide) (fun c_446 => ?_) (fun c_446 => ?_)
                      · have hf := xb_t c_446 hf
                        refine lv_iload_n hx hb dX7_beforeOf_83 rfl (lv_at hl 3 rfl) ?_
                        refine lv_istore_n (lv' := [(2, .int x2_436), (6, .int z_445), (0, .ref aR), (1, .int x1), (3, .int x3_303), (4, .int x4_404), (5, .int x5_437)]) hx hb dX7_beforeOf_84 rfl hl (by decide) rfl (fun ls hl => ?_)
                        obtain ⟨x5_447, ex5_447⟩ : ∃ y : Int32, y = x5_437 + (1 : Int32) := ⟨_, rfl⟩
                        have hf := nm_nm ex5_447 hf
                        refine lv_iinc (v := x5_447) (lv' := [(5, .int x5_447), (2, .int x2_436), (6, .int z_445), (0, .ref aR), (1, .int x1), (3, .int x3_303), (4, .int x4_404)]) hx hb dX7_beforeOf_85 hl (k := 6) rfl (by rw [ex5_447]; rfl) (by decide) rfl (fun ls hl => ?_)
                        refine lv_goto (tgt := 23) hx hb dX7_beforeOf_88 (by decide) ?_
                        exact ih x2_436 x5_447 o_435 hf _ _ hP hD hS _ (lv_sub hl [3, 4, 1, 5, 6, 0] rfl) hX_435
                      · have hf := xb_f c_446 hf
                        refine lv_iload_n hx hb dX7_beforeOf_74 rfl (lv_at hl 3 rfl) ?_
                        refine lv_iconst (v := (1 : Int32)) hx hb dX7_beforeOf_75 (by decide) ?_
                        refine lv_iload hx hb dX7_beforeOf_76 (lv_at hl 5 rfl) ?_
                        refine lv_ishl hx hb dX7_beforeOf_78 ?_
                        refine lv_ior hx hb dX7_beforeOf_79 ?_
                        refine lv_goto (tgt := 84) hx hb dX7_beforeOf_80 (by decide) ?_
                        refine lv_topi (fun x2_448 ex2_448 => ?_)
                        have hf := nm_nm ex2_448 hf
                        refine lv_istore_n (lv' := [(2, .int x2_448), (6, .int z_445), (0, .ref aR), (1, .int x1), (3, .int x3_303), (4, .int x4_404), (5, .int x5_437)]) hx hb dX7_beforeOf_84 rfl hl (by decide) rfl (fun ls hl => ?_)
                        obtain ⟨x5_449, ex5_449⟩ : ∃ y : Int32, y = x5_437 + (1 : Int32) := ⟨_, rfl⟩
                        have hf := nm_nm ex5_449 hf
                        refine lv_iinc (v := x5_449) (lv' := [(5, .int x5_449), (2, .int x2_448), (6, .int z_445), (0, .ref aR), (1, .int x1), (3, .int x3_303), (4, .int x4_404)]) hx hb dX7_beforeOf_85 hl (k := 6) rfl (by rw [ex5_449]; rfl) (by decide) rfl (fun ls hl => ?_)
                        refine lv_goto (tgt := 23) hx hb dX7_beforeOf_88 (by decide) ?_
                        exact ih x2_448 x5_449 o_435 hf _ _ hP hD hS _ (lv_sub hl [3, 4, 1, 5, 6, 0] rfl) hX_435
                    have hf := ho_444
                    refine lv_if_eq (tgt := 66) hx hb dX7_beforeOf_43 (by decide) (fun c_441 => ?_) (fun c_441 => ?_)
                    · have hf := xb_t c_441 hf
                      refine lv_iconst (v := (0 : Int32)) hx hb dX7_beforeOf_66 (by decide) ?_
                      exact J_67_444 (0 : Int32) hf _ _ hP hD hS _ hl
                    · have hf := xb_f c_441 hf
                      refine lv_iload hx hb dX7_beforeOf_46 (lv_at hl 5 rfl) ?_
                      refine lv_iload_n hx hb dX7_beforeOf_48 rfl (lv_at hl 1 rfl) ?_
                      refine lv_icmp_eq (tgt := 62) hx hb dX7_beforeOf_49 (by decide) (fun c_450 => ?_) (fun c_450 => ?_)
                      · have hf := xb_t c_450 hf
                        refine lv_iconst (v := (1 : Int32)) hx hb dX7_beforeOf_62 (by decide) ?_
                        refine lv_goto (tgt := 67) hx hb dX7_beforeOf_63 (by decide) ?_
                        exact J_67_444 (1 : Int32) hf _ _ hP hD hS _ hl
                      · have hf := xb_f c_450 hf
                        refine lv_iload_n hx hb dX7_beforeOf_52 rfl (lv_at hl 2 rfl) ?_
                        refine lv_iload hx hb dX7_beforeOf_53 (lv_at hl 5 rfl) ?_
                        refine lv_ishr hx hb dX7_beforeOf_55 ?_
                        refine lv_iconst (v := (1 : Int32)) hx hb dX7_beforeOf_56 (by decide) ?_
                        refine lv_iand hx hb dX7_beforeOf_57 ?_
                        refine lv_iconst (v := (1 : Int32)) hx hb dX7_beforeOf_58 (by decide) ?_
                        refine lv_icmp_ne (tgt := 66) hx hb dX7_beforeOf_59 (by decide) (fun c_451 => ?_) (fun c_451 => ?_)
                        · have hf := xb_f c_451 hf
                          refine lv_iconst (v := (0 : Int32)) hx hb dX7_beforeOf_66 (by decide) ?_
                          exact J_67_444 (0 : Int32) hf _ _ hP hD hS _ hl
                        · have hf := xb_t c_451 hf
                          refine lv_iconst (v := (1 : Int32)) hx hb dX7_beforeOf_62 (by decide) ?_
                          refine lv_goto (tgt := 67) hx hb dX7_beforeOf_63 (by decide) ?_
                          exact J_67_444 (1 : Int32) hf _ _ hP hD hS _ hl
              obtain ⟨o_435, ho_435, hk_435⟩ := bn1_s hf
              refine L_23_435 n x2_403 (0 : Int32) o_435 ho_435 _ _ hP hD hS _ (lv_sub hl [1, 2, 3, 4, 5, 0] rfl) (fun x2_438 hf H locs hP hD hS ls hl => ?_)
              have hf := hk_435 _ hf
              obtain ⟨x4_452, ex4_452⟩ : ∃ y : Int32, y = x4_404 + (1 : Int32) := ⟨_, rfl⟩
              have hf := nm_nm ex4_452 hf
              refine lv_iinc (v := x4_452) (lv' := [(4, .int x4_452), (0, .ref aR), (1, .int x1), (2, .int x2_438), (3, .int x3_303)]) hx hb dX7_beforeOf_91 hl (k := 4) rfl (by rw [ex4_452]; rfl) (by decide) rfl (fun ls hl => ?_)
              refine lv_goto (tgt := 13) hx hb dX7_beforeOf_94 (by decide) ?_
              exact ih x2_438 x4_452 o_402 hf _ _ hP hD hS _ (lv_sub hl [1, 2, 3, 4, 0] rfl) hX_402
        obtain ⟨o_402, ho_402, hk_402⟩ := bn1_s hf
        refine L_13_402 n x2_302 (0 : Int32) o_402 ho_402 _ _ hP hD hS _ (lv_sub hl [1, 2, 3, 4, 0] rfl) (fun x2_405 hf H locs hP hD hS ls hl => ?_)
        have hf := hk_402 _ hf
        obtain ⟨x3_453, ex3_453⟩ : ∃ y : Int32, y = x3_303 + (1 : Int32) := ⟨_, rfl⟩
        have hf := nm_nm ex3_453 hf
        refine lv_iinc (v := x3_453) (lv' := [(3, .int x3_453), (0, .ref aR), (1, .int x1), (2, .int x2_405)]) hx hb dX7_beforeOf_97 hl (k := 3) rfl (by rw [ex3_453]; rfl) (by decide) rfl (fun ls hl => ?_)
        refine lv_goto (tgt := 4) hx hb dX7_beforeOf_100 (by decide) ?_
        exact ih x2_405 x3_453 o_301 hf _ _ hP hD hS _ (lv_sub hl [1, 2, 3, 0] rfl) hX_301
  obtain ⟨o_301, ho_301, hk_301⟩ := bn1_s hf
  refine L_4_301 n (0 : Int32) (0 : Int32) o_301 ho_301 _ _ hP hD hS _ (lv_sub hl [2, 3, 1, 0] rfl) (fun x2_304 hf H locs hP hD hS ls hl => ?_)
  have hf := hk_301 _ hf
  refine lv_iload_n hx hb dX7_beforeOf_103 rfl (lv_at hl 0 rfl) ?_
  have hf := Option.some.inj hf
  cases hf
  exact x_iret (fun _ => 0) hQ hx hb hr hlk hK hP hD hS dX7_beforeOf_104
abbrev rm_f_JoinOrderModel_hint : Room := { frames := 1, cells := 0, slots := 0, locals := 26 }
set_option maxHeartbeats 4000000 in
set_option maxRecDepth 100000 in
theorem c_f_JoinOrderModel_hint (l : Launch) (D : va_G) (cI cJ cZ : ClassId) (sz : Nat) (n : Nat) (aR : Nat) (x1 : Int32) (x2 : Int32) (R_triples : Int32) (aR_facts : Nat) (R_patterns : Int32) (aR_cells : Nat) (aR_told : Nat) (aR_of : Nat) (aR_hints : Nat) (R_filters : Int32) (aR_looks : Nat) (aR_kinds : Nat) (aR_values : Nat) (aR_isSafe : Nat) (aR_sizes : Nat) (aR_spreads : Nat) (aR_isSeen : Nat) (aR_estimates : Nat) (aR_rest : Nat) (R_steps : Int32) (aR_order : Nat) (aR_joins : Nat) (aR_actsBehind : Nat) (aR_upTo : Nat) (R_filtersThen : Int32) (aR_behind : Nat) (R_rows : Int32) (aR_row : Nat) (aR_found : Nat) (R_comes : Int32) (aR_next : Nat) (aR_nextFound : Nat) (R_kept : Int32) (R_hasRoom : Int32) (aR_keep : Nat) (aR_isTaken : Nat) (R_of : Nat → Int32) (R_hints : Nat → Int32) {r : Int32} {R_hints' : Nat → Int32} (hf : f_JoinOrderModel_hint n x1 x2 R_patterns R_of R_hints = some (r, R_hints')) : Met l yX7_hint (.code yX7_hint cX7_hint 3 (some .int) :: GW) rm_f_JoinOrderModel_hint (va_Pc [.ref aR, .int x1, .int x2] (xP D (xT cI cJ cZ) sz [(aR, .inr (7, [.int R_triples, .ref aR_facts, .int R_patterns, .ref aR_cells, .ref aR_told, .ref aR_of, .ref aR_hints, .int R_filters, .ref aR_looks, .ref aR_kinds, .ref aR_values, .ref aR_isSafe, .ref aR_sizes, .ref aR_spreads, .ref aR_isSeen, .ref aR_estimates, .ref aR_rest, .int R_steps, .ref aR_order, .ref aR_joins, .ref aR_actsBehind, .ref aR_upTo, .int R_filtersThen, .ref aR_behind, .int R_rows, .ref aR_row, .ref aR_found, .int R_comes, .ref aR_next, .ref aR_nextFound, .int R_kept, .int R_hasRoom, .ref aR_keep, .ref aR_isTaken])), (aR_of, .inl (cI, 8, .inl R_of)), (aR_hints, .inl (cZ, 64, .inl R_hints))])) (va_Qi (fun r2 (_ : Nat → Nat) => r2 = r) (bB D (xT cI cJ cZ) (fun _ => [(aR, .inr (7, [.int R_triples, .ref aR_facts, .int R_patterns, .ref aR_cells, .ref aR_told, .ref aR_of, .ref aR_hints, .int R_filters, .ref aR_looks, .ref aR_kinds, .ref aR_values, .ref aR_isSafe, .ref aR_sizes, .ref aR_spreads, .ref aR_isSeen, .ref aR_estimates, .ref aR_rest, .int R_steps, .ref aR_order, .ref aR_joins, .ref aR_actsBehind, .ref aR_upTo, .int R_filtersThen, .ref aR_behind, .int R_rows, .ref aR_row, .ref aR_found, .int R_comes, .ref aR_next, .ref aR_nextFound, .int R_kept, .int R_hasRoom, .ref aR_keep, .ref aR_isTaken])), (aR_of, .inl (cI, 8, .inl R_of)), (aR_hints, .inl (cZ, 64, .inl R_hints'))]) (va_A [(aR, .inr (7, [.int R_triples, .ref aR_facts, .int R_patterns, .ref aR_cells, .ref aR_told, .ref aR_of, .ref aR_hints, .int R_filters, .ref aR_looks, .ref aR_kinds, .ref aR_values, .ref aR_isSafe, .ref aR_sizes, .ref aR_spreads, .ref aR_isSeen, .ref aR_estimates, .ref aR_rest, .int R_steps, .ref aR_order, .ref aR_joins, .ref aR_actsBehind, .ref aR_upTo, .int R_filtersThen, .ref aR_behind, .int R_rows, .ref aR_row, .ref aR_found, .int R_comes, .ref aR_next, .ref aR_nextFound, .int R_kept, .int R_hasRoom, .ref aR_keep, .ref aR_isTaken])), (aR_of, .inl (cI, 8, .inl R_of)), (aR_hints, .inl (cZ, 64, .inl R_hints))] sz)) (va_A [(aR, .inr (7, [.int R_triples, .ref aR_facts, .int R_patterns, .ref aR_cells, .ref aR_told, .ref aR_of, .ref aR_hints, .int R_filters, .ref aR_looks, .ref aR_kinds, .ref aR_values, .ref aR_isSafe, .ref aR_sizes, .ref aR_spreads, .ref aR_isSeen, .ref aR_estimates, .ref aR_rest, .int R_steps, .ref aR_order, .ref aR_joins, .ref aR_actsBehind, .ref aR_upTo, .int R_filtersThen, .ref aR_behind, .int R_rows, .ref aR_row, .ref aR_found, .int R_comes, .ref aR_next, .ref aR_nextFound, .int R_kept, .int R_hasRoom, .ref aR_keep, .ref aR_isTaken])), (aR_of, .inl (cI, 8, .inl R_of)), (aR_hints, .inl (cZ, 64, .inl R_hints))] sz)) 0 0 (va_A [(aR, .inr (7, [.int R_triples, .ref aR_facts, .int R_patterns, .ref aR_cells, .ref aR_told, .ref aR_of, .ref aR_hints, .int R_filters, .ref aR_looks, .ref aR_kinds, .ref aR_values, .ref aR_isSafe, .ref aR_sizes, .ref aR_spreads, .ref aR_isSeen, .ref aR_estimates, .ref aR_rest, .int R_steps, .ref aR_order, .ref aR_joins, .ref aR_actsBehind, .ref aR_upTo, .int R_filtersThen, .ref aR_behind, .int R_rows, .ref aR_row, .ref aR_found, .int R_comes, .ref aR_next, .ref aR_nextFound, .int R_kept, .int R_hasRoom, .ref aR_keep, .ref aR_isTaken])), (aR_of, .inl (cI, 8, .inl R_of)), (aR_hints, .inl (cZ, 64, .inl R_hints))] sz) := by
  refine con_start (Qc := fun A => va_Qi (fun r2 (_ : Nat → Nat) => r2 = r) (bB D (xT cI cJ cZ) (fun _ => [(aR, .inr (7, [.int R_triples, .ref aR_facts, .int R_patterns, .ref aR_cells, .ref aR_told, .ref aR_of, .ref aR_hints, .int R_filters, .ref aR_looks, .ref aR_kinds, .ref aR_values, .ref aR_isSafe, .ref aR_sizes, .ref aR_spreads, .ref aR_isSeen, .ref aR_estimates, .ref aR_rest, .int R_steps, .ref aR_order, .ref aR_joins, .ref aR_actsBehind, .ref aR_upTo, .int R_filtersThen, .ref aR_behind, .int R_rows, .ref aR_row, .ref aR_found, .int R_comes, .ref aR_next, .ref aR_nextFound, .int R_kept, .int R_hasRoom, .ref aR_keep, .ref aR_isTaken])), (aR_of, .inl (cI, 8, .inl R_of)), (aR_hints, .inl (cZ, 64, .inl R_hints'))]) A) A) (by decide) (Nat.le_of_ble_eq_true rfl) ?_
  intro p e s m args below meth c Q A hx hb hr hlk hml hown hin htg hN hK hQ hA hP hD hS ls hl
  have hl : lv_has ls 3 [(0, .ref aR), (1, .int x1), (2, .int x2)] := hl
  have hown : s.vm.findClass RX7 = some m.cls := hown
  have hf := (f_JoinOrderModel_hint_u n x1 x2 R_patterns R_of R_hints).symm.trans hf
  refine lv_aload_n hx hb dX7_hint_0 rfl (lv_at hl 0 rfl) ?_
  refine lv_iload_n hx hb dX7_hint_1 rfl (lv_at hl 1 rfl) ?_
  refine x_z (xrV (As := [.int x1]) (b := aR) (rest := []) ⟨hx, hb, hml, hown, htg⟩ (c_f_JoinOrderModel_isPattern l D cI cJ cZ _ aR x1 R_triples aR_facts R_patterns aR_cells aR_told aR_of aR_hints R_filters aR_looks aR_kinds aR_values aR_isSafe aR_sizes aR_spreads aR_isSeen aR_estimates aR_rest R_steps aR_order aR_joins aR_actsBehind aR_upTo R_filtersThen aR_behind R_rows aR_row aR_found R_comes aR_next aR_nextFound R_kept R_hasRoom aR_keep aR_isTaken rfl) kc_f_JoinOrderModel_isPattern kw_688 kw_690 kp_20 kw_8 dd_f_JoinOrderModel_isPattern ⟨Nat.le_of_ble_eq_true rfl, Nat.le_of_ble_eq_true rfl⟩ rfl rfl (hP.sub [0] rfl) (hD.sub [0] (by decide) rfl) hK hN hP (q0 := 0) rfl rfl rfl hl.1 rfl (Nat.le_of_ble_eq_true rfl) dX7_hint_2 ⟨Nat.le_of_ble_eq_true rfl, Nat.le_of_ble_eq_true rfl⟩) hP hD hS hA [0] [1, 2] rfl rfl (by decide) (by decide) (fun _ H locs bz_1 hP hD hS => ?_)
  have hP : va_P D vwCl [(aR_of, .inl (cI, 8, .inl R_of)), (aR_hints, .inl (cZ, 64, .inl R_hints)), (aR, .inr (7, [.int R_triples, .ref aR_facts, .int R_patterns, .ref aR_cells, .ref aR_told, .ref aR_of, .ref aR_hints, .int R_filters, .ref aR_looks, .ref aR_kinds, .ref aR_values, .ref aR_isSafe, .ref aR_sizes, .ref aR_spreads, .ref aR_isSeen, .ref aR_estimates, .ref aR_rest, .int R_steps, .ref aR_order, .ref aR_joins, .ref aR_actsBehind, .ref aR_upTo, .int R_filtersThen, .ref aR_behind, .int R_rows, .ref aR_row, .ref aR_found, .int R_comes, .ref aR_next, .ref aR_nextFound, .int R_kept, .int R_hasRoom, .ref aR_keep, .ref aR_isTaken]))] H := hP
  have hD : va_D A [(aR_of, .inl (cI, 8, .inl R_of)), (aR_hints, .inl (cZ, 64, .inl R_hints)), (aR, .inr (7, [.int R_triples, .ref aR_facts, .int R_patterns, .ref aR_cells, .ref aR_told, .ref aR_of, .ref aR_hints, .int R_filters, .ref aR_looks, .ref aR_kinds, .ref aR_values, .ref aR_isSafe, .ref aR_sizes, .ref aR_spreads, .ref aR_isSeen, .ref aR_estimates, .ref aR_rest, .int R_steps, .ref aR_order, .ref aR_joins, .ref aR_actsBehind, .ref aR_upTo, .int R_filtersThen, .ref aR_behind, .int R_rows, .ref aR_row, .ref aR_found, .int R_comes, .ref aR_next, .ref aR_nextFound, .int R_kept, .int R_hasRoom, .ref aR_keep, .ref aR_isTaken]))] := hD
  refine lv_if_eq (tgt := 16) hx hb dX7_hint_5 (by decide) (fun c_2 => ?_) (fun c_2 => ?_)
  · have hf := xb_t c_2 hf
    refine lv_iconst (v := (-1 : Int32)) hx hb dX7_hint_16 (by decide) ?_
    have hf := Option.some.inj hf
    cases hf
    exact x_iret (fun _ => 0) hQ hx hb hr hlk hK (hP.sub [2, 0, 1] rfl) (hD.sub [2, 0, 1] (by decide) rfl) hS dX7_hint_17
  · have hf := xb_f c_2 hf
    refine lv_aload_n hx hb dX7_hint_8 rfl (lv_at hl 0 rfl) ?_
    refine lv_iload_n hx hb dX7_hint_9 rfl (lv_at hl 2 rfl) ?_
    refine x_z (xrV (As := [.int x2]) (b := aR) (rest := []) ⟨hx, hb, hml, hown, htg⟩ (c_f_JoinOrderModel_isPattern l D cI cJ cZ _ aR x2 R_triples aR_facts R_patterns aR_cells aR_told aR_of aR_hints R_filters aR_looks aR_kinds aR_values aR_isSafe aR_sizes aR_spreads aR_isSeen aR_estimates aR_rest R_steps aR_order aR_joins aR_actsBehind aR_upTo R_filtersThen aR_behind R_rows aR_row aR_found R_comes aR_next aR_nextFound R_kept R_hasRoom aR_keep aR_isTaken rfl) kc_f_JoinOrderModel_isPattern kw_688 kw_690 kp_20 kw_8 dd_f_JoinOrderModel_isPattern ⟨Nat.le_of_ble_eq_true rfl, Nat.le_of_ble_eq_true rfl⟩ rfl rfl (hP.sub [2] rfl) (hD.sub [2] (by decide) rfl) hK hN hP (q0 := 2) rfl rfl rfl hl.1 rfl (Nat.le_of_ble_eq_true rfl) dX7_hint_10 ⟨Nat.le_of_ble_eq_true rfl, Nat.le_of_ble_eq_true rfl⟩) hP hD hS hA [2] [0, 1] rfl rfl (by decide) (by decide) (fun _ H locs bz_3 hP hD hS => ?_)
    have hP : va_P D vwCl [(aR_of, .inl (cI, 8, .inl R_of)), (aR_hints, .inl (cZ, 64, .inl R_hints)), (aR, .inr (7, [.int R_triples, .ref aR_facts, .int R_patterns, .ref aR_cells, .ref aR_told, .ref aR_of, .ref aR_hints, .int R_filters, .ref aR_looks, .ref aR_kinds, .ref aR_values, .ref aR_isSafe, .ref aR_sizes, .ref aR_spreads, .ref aR_isSeen, .ref aR_estimates, .ref aR_rest, .int R_steps, .ref aR_order, .ref aR_joins, .ref aR_actsBehind, .ref aR_upTo, .int R_filtersThen, .ref aR_behind, .int R_rows, .ref aR_row, .ref aR_found, .int R_comes, .ref aR_next, .ref aR_nextFound, .int R_kept, .int R_hasRoom, .ref aR_keep, .ref aR_isTaken]))] H := hP
    have hD : va_D A [(aR_of, .inl (cI, 8, .inl R_of)), (aR_hints, .inl (cZ, 64, .inl R_hints)), (aR, .inr (7, [.int R_triples, .ref aR_facts, .int R_patterns, .ref aR_cells, .ref aR_told, .ref aR_of, .ref aR_hints, .int R_filters, .ref aR_looks, .ref aR_kinds, .ref aR_values, .ref aR_isSafe, .ref aR_sizes, .ref aR_spreads, .ref aR_isSeen, .ref aR_estimates, .ref aR_rest, .int R_steps, .ref aR_order, .ref aR_joins, .ref aR_actsBehind, .ref aR_upTo, .int R_filtersThen, .ref aR_behind, .int R_rows, .ref aR_row, .ref aR_found, .int R_comes, .ref aR_next, .ref aR_nextFound, .int R_kept, .int R_hasRoom, .ref aR_keep, .ref aR_isTaken]))] := hD
    refine lv_if_ne (tgt := 18) hx hb dX7_hint_13 (by decide) (fun c_4 => ?_) (fun c_4 => ?_)
    · have hf := xb_f c_4 hf
      refine lv_aload_n hx hb dX7_hint_18 rfl (lv_at hl 0 rfl) ?_
      refine lv_iload_n hx hb dX7_hint_19 rfl (lv_at hl 1 rfl) ?_
      obtain ⟨r_6, hq_5, hf⟩ := bn1_c hf
      refine x_z (xrV (As := [.int x1]) (b := aR) (rest := []) ⟨hx, hb, hml, hown, htg⟩ (c_f_JoinOrderModel_isRequired l D cI cJ cZ _ aR x1 R_triples aR_facts R_patterns aR_cells aR_told aR_of aR_hints R_filters aR_looks aR_kinds aR_values aR_isSafe aR_sizes aR_spreads aR_isSeen aR_estimates aR_rest R_steps aR_order aR_joins aR_actsBehind aR_upTo R_filtersThen aR_behind R_rows aR_row aR_found R_comes aR_next aR_nextFound R_kept R_hasRoom aR_keep aR_isTaken R_of hq_5) kc_f_JoinOrderModel_isRequired kw_692 kw_694 kp_21 kw_8 dd_f_JoinOrderModel_isRequired ⟨Nat.le_of_ble_eq_true rfl, Nat.le_of_ble_eq_true rfl⟩ rfl rfl (hP.sub [2, 0] rfl) (hD.sub [2, 0] (by decide) rfl) hK hN hP (q0 := 2) rfl rfl rfl hl.1 rfl (Nat.le_of_ble_eq_true rfl) dX7_hint_20 ⟨Nat.le_of_ble_eq_true rfl, Nat.le_of_ble_eq_true rfl⟩) hP hD hS hA [2, 0] [1] rfl rfl (by decide) (by decide) (fun _ H locs bz_5 hP hD hS => ?_)
      have hP : va_P D vwCl [(aR_hints, .inl (cZ, 64, .inl R_hints)), (aR, .inr (7, [.int R_triples, .ref aR_facts, .int R_patterns, .ref aR_cells, .ref aR_told, .ref aR_of, .ref aR_hints, .int R_filters, .ref aR_looks, .ref aR_kinds, .ref aR_values, .ref aR_isSafe, .ref aR_sizes, .ref aR_spreads, .ref aR_isSeen, .ref aR_estimates, .ref aR_rest, .int R_steps, .ref aR_order, .ref aR_joins, .ref aR_actsBehind, .ref aR_upTo, .int R_filtersThen, .ref aR_behind, .int R_rows, .ref aR_row, .ref aR_found, .int R_comes, .ref aR_next, .ref aR_nextFound, .int R_kept, .int R_hasRoom, .ref aR_keep, .ref aR_isTaken])), (aR_of, .inl (cI, 8, .inl R_of))] H := hP
      have hD : va_D A [(aR_hints, .inl (cZ, 64, .inl R_hints)), (aR, .inr (7, [.int R_triples, .ref aR_facts, .int R_patterns, .ref aR_cells, .ref aR_told, .ref aR_of, .ref aR_hints, .int R_filters, .ref aR_looks, .ref aR_kinds, .ref aR_values, .ref aR_isSafe, .ref aR_sizes, .ref aR_spreads, .ref aR_isSeen, .ref aR_estimates, .ref aR_rest, .int R_steps, .ref aR_order, .ref aR_joins, .ref aR_actsBehind, .ref aR_upTo, .int R_filtersThen, .ref aR_behind, .int R_rows, .ref aR_row, .ref aR_found, .int R_comes, .ref aR_next, .ref aR_nextFound, .int R_kept, .int R_hasRoom, .ref aR_keep, .ref aR_isTaken])), (aR_of, .inl (cI, 8, .inl R_of))] := hD
      refine lv_if_eq (tgt := 52) hx hb dX7_hint_23 (by decide) (fun c_7 => ?_) (fun c_7 => ?_)
      · have hf := xb_t c_7 hf
        refine lv_bipush (v := (-3 : Int32)) hx hb dX7_hint_52 (by decide) ?_
        have hf := Option.some.inj hf
        cases hf
        exact x_iret (fun _ => 0) hQ hx hb hr hlk hK (hP.sub [1, 2, 0] rfl) (hD.sub [1, 2, 0] (by decide) rfl) hS dX7_hint_54
      · have hf := xb_f c_7 hf
        refine lv_aload_n hx hb dX7_hint_26 rfl (lv_at hl 0 rfl) ?_
        refine lv_iload_n hx hb dX7_hint_27 rfl (lv_at hl 2 rfl) ?_
        obtain ⟨r_9, hq_8, hf⟩ := bn1_c hf
        refine x_z (xrV (As := [.int x2]) (b := aR) (rest := []) ⟨hx, hb, hml, hown, htg⟩ (c_f_JoinOrderModel_isRequired l D cI cJ cZ _ aR x2 R_triples aR_facts R_patterns aR_cells aR_told aR_of aR_hints R_filters aR_looks aR_kinds aR_values aR_isSafe aR_sizes aR_spreads aR_isSeen aR_estimates aR_rest R_steps aR_order aR_joins aR_actsBehind aR_upTo R_filtersThen aR_behind R_rows aR_row aR_found R_comes aR_next aR_nextFound R_kept R_hasRoom aR_keep aR_isTaken R_of hq_8) kc_f_JoinOrderModel_isRequired kw_692 kw_694 kp_21 kw_8 dd_f_JoinOrderModel_isRequired ⟨Nat.le_of_ble_eq_true rfl, Nat.le_of_ble_eq_true rfl⟩ rfl rfl (hP.sub [1, 2] rfl) (hD.sub [1, 2] (by decide) rfl) hK hN hP (q0 := 1) rfl rfl rfl hl.1 rfl (Nat.le_of_ble_eq_true rfl) dX7_hint_28 ⟨Nat.le_of_ble_eq_true rfl, Nat.le_of_ble_eq_true rfl⟩) hP hD hS hA [1, 2] [0] rfl rfl (by decide) (by decide) (fun _ H locs bz_8 hP hD hS => ?_)
        have hP : va_P D vwCl [(aR_hints, .inl (cZ, 64, .inl R_hints)), (aR, .inr (7, [.int R_triples, .ref aR_facts, .int R_patterns, .ref aR_cells, .ref aR_told, .ref aR_of, .ref aR_hints, .int R_filters, .ref aR_looks, .ref aR_kinds, .ref aR_values, .ref aR_isSafe, .ref aR_sizes, .ref aR_spreads, .ref aR_isSeen, .ref aR_estimates, .ref aR_rest, .int R_steps, .ref aR_order, .ref aR_joins, .ref aR_actsBehind, .ref aR_upTo, .int R_filtersThen, .ref aR_behind, .int R_rows, .ref aR_row, .ref aR_found, .int R_comes, .ref aR_next, .ref aR_nextFound, .int R_kept, .int R_hasRoom, .ref aR_keep, .ref aR_isTaken])), (aR_of, .inl (cI, 8, .inl R_of))] H := hP
        have hD : va_D A [(aR_hints, .inl (cZ, 64, .inl R_hints)), (aR, .inr (7, [.int R_triples, .ref aR_facts, .int R_patterns, .ref aR_cells, .ref aR_told, .ref aR_of, .ref aR_hints, .int R_filters, .ref aR_looks, .ref aR_kinds, .ref aR_values, .ref aR_isSafe, .ref aR_sizes, .ref aR_spreads, .ref aR_isSeen, .ref aR_estimates, .ref aR_rest, .int R_steps, .ref aR_order, .ref aR_joins, .ref aR_actsBehind, .ref aR_upTo, .int R_filtersThen, .ref aR_behind, .int R_rows, .ref aR_row, .ref aR_found, .int R_comes, .ref aR_next, .ref aR_nextFound, .int R_kept, .int R_hasRoom, .ref aR_keep, .ref aR_isTaken])), (aR_of, .inl (cI, 8, .inl R_of))] := hD
        refine lv_if_eq (tgt := 52) hx hb dX7_hint_31 (by decide) (fun c_10 => ?_) (fun c_10 => ?_)
        · have hf := xb_t c_10 hf
          refine lv_bipush (v := (-3 : Int32)) hx hb dX7_hint_52 (by decide) ?_
          have hf := Option.some.inj hf
          cases hf
          exact x_iret (fun _ => 0) hQ hx hb hr hlk hK (hP.sub [1, 2, 0] rfl) (hD.sub [1, 2, 0] (by decide) rfl) hS dX7_hint_54
        · have hf := xb_f c_10 hf
          refine lv_iload_n hx hb dX7_hint_34 rfl (lv_at hl 1 rfl) ?_
          refine lv_iload_n hx hb dX7_hint_35 rfl (lv_at hl 2 rfl) ?_
          refine lv_icmp_eq (tgt := 52) hx hb dX7_hint_36 (by decide) (fun c_11 => ?_) (fun c_11 => ?_)
          · have hf := xb_t c_11 hf
            refine lv_bipush (v := (-3 : Int32)) hx hb dX7_hint_52 (by decide) ?_
            have hf := Option.some.inj hf
            cases hf
            exact x_iret (fun _ => 0) hQ hx hb hr hlk hK (hP.sub [1, 2, 0] rfl) (hD.sub [1, 2, 0] (by decide) rfl) hS dX7_hint_54
          · have hf := xb_f c_11 hf
            refine lv_aload_n hx hb dX7_hint_39 rfl (lv_at hl 0 rfl) ?_
            refine lv_iload_n hx hb dX7_hint_40 rfl (lv_at hl 1 rfl) ?_
            obtain ⟨r_13, hq_12, hf⟩ := bn1_c hf
            refine x_i (xrV (As := [.int x1]) (b := aR) (rest := []) ⟨hx, hb, hml, hown, htg⟩ (c_f_JoinOrderModel_beforeOf l D cI cJ cZ _ n aR x1 R_triples aR_facts R_patterns aR_cells aR_told aR_of aR_hints R_filters aR_looks aR_kinds aR_values aR_isSafe aR_sizes aR_spreads aR_isSeen aR_estimates aR_rest R_steps aR_order aR_joins aR_actsBehind aR_upTo R_filtersThen aR_behind R_rows aR_row aR_found R_comes aR_next aR_nextFound R_kept R_hasRoom aR_keep aR_isTaken R_hints hq_12) kc_f_JoinOrderModel_beforeOf kw_716 kw_718 kp_24 kw_8 dd_f_JoinOrderModel_beforeOf ⟨Nat.le_of_ble_eq_true rfl, Nat.le_of_ble_eq_true rfl⟩ rfl rfl (hP.sub [1, 0] rfl) (hD.sub [1, 0] (by decide) rfl) hK hN hP (q0 := 1) rfl rfl rfl hl.1 rfl (Nat.le_of_ble_eq_true rfl) dX7_hint_41 ⟨Nat.le_of_ble_eq_true rfl, Nat.le_of_ble_eq_true rfl⟩) hP hD hS hA [1, 0] [2] rfl rfl (by decide) (by decide) (fun _ H locs hP hD hS => ?_)
            have hP : va_P D vwCl [(aR_of, .inl (cI, 8, .inl R_of)), (aR, .inr (7, [.int R_triples, .ref aR_facts, .int R_patterns, .ref aR_cells, .ref aR_told, .ref aR_of, .ref aR_hints, .int R_filters, .ref aR_looks, .ref aR_kinds, .ref aR_values, .ref aR_isSafe, .ref aR_sizes, .ref aR_spreads, .ref aR_isSeen, .ref aR_estimates, .ref aR_rest, .int R_steps, .ref aR_order, .ref aR_joins, .ref aR_actsBehind, .ref aR_upTo, .int R_filtersThen, .ref aR_behind, .int R_rows, .ref aR_row, .ref aR_found, .int R_comes, .ref aR_next, .ref aR_nextFound, .int R_kept, .int R_hasRoom, .ref aR_keep, .ref aR_isTaken])), (aR_hints, .inl (cZ, 64, .inl R_hints))] H := hP
            have hD : va_D A [(aR_of, .inl (cI, 8, .inl R_of)), (aR, .inr (7, [.int R_triples, .ref aR_facts, .int R_patterns, .ref aR_cells, .ref aR_told, .ref aR_of, .ref aR_hints, .int R_filters, .ref aR_looks, .ref aR_kinds, .ref aR_values, .ref aR_isSafe, .ref aR_sizes, .ref aR_spreads, .ref aR_isSeen, .ref aR_estimates, .ref aR_rest, .int R_steps, .ref aR_order, .ref aR_joins, .ref aR_actsBehind, .ref aR_upTo, .int R_filtersThen, .ref aR_behind, .int R_rows, .ref aR_row, .ref aR_found, .int R_comes, .ref aR_next, .ref aR_nextFound, .int R_kept, .int R_hasRoom, .ref aR_keep, .ref aR_isTaken])), (aR_hints, .inl (cZ, 64, .inl R_hints))] := hD
            refine lv_iload_n hx hb dX7_hint_44 rfl (lv_at hl 2 rfl) ?_
            refine lv_ishr hx hb dX7_hint_45 ?_
            refine lv_iconst (v := (1 : Int32)) hx hb dX7_hint_46 (by decide) ?_
            refine lv_iand hx hb dX7_hint_47 ?_
            refine lv_iconst (v := (1 : Int32)) hx hb dX7_hint_48 (by decide) ?_
            refine lv_icmp_ne (tgt := 55) hx hb dX7_hint_49 (by decide) (fun c_14 => ?_) (fun c_14 => ?_)
            · have hf := xb_f c_14 hf
              refine lv_aload_n hx hb dX7_hint_55 rfl (lv_at hl 0 rfl) ?_
              refine va_get (D := D) (ci := 7) (v := .ref aR_hints) (C := RX7) (T := TX7) (N := 34) hx hb htg giX7 hown hK hP 1 rfl rfl 6 (by decide) (htg _ kw_569) (fun _ h9 => h9) rfl dX7_hint_56 ?_
              refine lv_bipush (v := (8 : Int32)) hx hb dX7_hint_59 (by decide) ?_
              refine lv_iload_n hx hb dX7_hint_61 rfl (lv_at hl 1 rfl) ?_
              refine lv_imul hx hb dX7_hint_62 ?_
              refine lv_iload_n hx hb dX7_hint_63 rfl (lv_at hl 2 rfl) ?_
              refine lv_iadd hx hb dX7_hint_64 ?_
              refine lv_iconst (v := (1 : Int32)) hx hb dX7_hint_65 (by decide) ?_
              have g_15 : vp_in (((8 : Int32) * x1) + x2) 64 := gd_in hf
              have hf := gd_el hf
              refine x_zast hx hb hK hP hD hS 2 2 rfl rfl g_15 dX7_hint_66 (fun R_hints_16 eR_hints_16 H locs hP hD hS => ?_)
              have hf := nm_nm eR_hints_16 hf
              have hP : va_P D vwCl [(aR_of, .inl (cI, 8, .inl R_of)), (aR, .inr (7, [.int R_triples, .ref aR_facts, .int R_patterns, .ref aR_cells, .ref aR_told, .ref aR_of, .ref aR_hints, .int R_filters, .ref aR_looks, .ref aR_kinds, .ref aR_values, .ref aR_isSafe, .ref aR_sizes, .ref aR_spreads, .ref aR_isSeen, .ref aR_estimates, .ref aR_rest, .int R_steps, .ref aR_order, .ref aR_joins, .ref aR_actsBehind, .ref aR_upTo, .int R_filtersThen, .ref aR_behind, .int R_rows, .ref aR_row, .ref aR_found, .int R_comes, .ref aR_next, .ref aR_nextFound, .int R_kept, .int R_hasRoom, .ref aR_keep, .ref aR_isTaken])), (aR_hints, .inl (cZ, 64, .inl R_hints_16))] H := hP
              have hD : va_D A [(aR_of, .inl (cI, 8, .inl R_of)), (aR, .inr (7, [.int R_triples, .ref aR_facts, .int R_patterns, .ref aR_cells, .ref aR_told, .ref aR_of, .ref aR_hints, .int R_filters, .ref aR_looks, .ref aR_kinds, .ref aR_values, .ref aR_isSafe, .ref aR_sizes, .ref aR_spreads, .ref aR_isSeen, .ref aR_estimates, .ref aR_rest, .int R_steps, .ref aR_order, .ref aR_joins, .ref aR_actsBehind, .ref aR_upTo, .int R_filtersThen, .ref aR_behind, .int R_rows, .ref aR_row, .ref aR_found, .int R_comes, .ref aR_next, .ref aR_nextFound, .int R_kept, .int R_hasRoom, .ref aR_keep, .ref aR_isTaken])), (aR_hints, .inl (cZ, 64, .inl R_hints_16))] := hD
              refine lv_iconst (v := (1 : Int32)) hx hb dX7_hint_67 (by decide) ?_
              have hf := Option.some.inj hf
              cases hf
              exact x_iret (fun _ => 0) hQ hx hb hr hlk hK (hP.sub [1, 0, 2] rfl) (hD.sub [1, 0, 2] (by decide) rfl) hS dX7_hint_68
            · have hf := xb_t c_14 hf
              refine lv_bipush (v := (-3 : Int32)) hx hb dX7_hint_52 (by decide) ?_
              have hf := Option.some.inj hf
              cases hf
              exact x_iret (fun _ => 0) hQ hx hb hr hlk hK (hP.sub [1, 0, 2] rfl) (hD.sub [1, 0, 2] (by decide) rfl) hS dX7_hint_54
    · have hf := xb_t c_4 hf
      refine lv_iconst (v := (-1 : Int32)) hx hb dX7_hint_16 (by decide) ?_
      have hf := Option.some.inj hf
      cases hf
      exact x_iret (fun _ => 0) hQ hx hb hr hlk hK (hP.sub [2, 0, 1] rfl) (hD.sub [2, 0, 1] (by decide) rfl) hS dX7_hint_17
abbrev rm_f_Patterns_size : Room := { frames := 0, cells := 0, slots := 0, locals := 0 }
set_option maxHeartbeats 4000000 in
set_option maxRecDepth 100000 in
theorem c_f_Patterns_size (l : Launch) (D : va_G) (cI cJ cZ : ClassId) (sz : Nat) (aP : Nat) (x1 : Int32) (aP_slots : Nat) (aP_termsSeen : Nat) (aP_matches : Nat) (aP_matchCount : Nat) (aP_variables : Nat) (aP_havingVariable : Nat) (aP_told : Nat) (aP_parent : Nat) (aP_allBefore : Nat) (P_required : Int32) (P_hinted : Int32) (P_count : Int32) (P_told : Nat → Int32) (P_matchCount : Nat → Int32) {r : Int32} (hf : f_Patterns_size x1 P_told P_matchCount = some r) : Met l yX2_size (.code yX2_size cX2_size 2 (some .int) :: GW) rm_f_Patterns_size (va_Pc [.ref aP, .int x1] (xP D (xT cI cJ cZ) sz [(aP, .inr (2, [.ref aP_slots, .ref aP_termsSeen, .ref aP_matches, .ref aP_matchCount, .ref aP_variables, .ref aP_havingVariable, .ref aP_told, .ref aP_parent, .ref aP_allBefore, .int P_required, .int P_hinted, .int P_count])), (aP_told, .inl (cI, 8, .inl P_told)), (aP_matchCount, .inl (cI, 8, .inl P_matchCount))])) (va_Qi (fun r2 (_ : Nat → Nat) => r2 = r) (bB D (xT cI cJ cZ) (fun _ => [(aP, .inr (2, [.ref aP_slots, .ref aP_termsSeen, .ref aP_matches, .ref aP_matchCount, .ref aP_variables, .ref aP_havingVariable, .ref aP_told, .ref aP_parent, .ref aP_allBefore, .int P_required, .int P_hinted, .int P_count])), (aP_told, .inl (cI, 8, .inl P_told)), (aP_matchCount, .inl (cI, 8, .inl P_matchCount))]) (va_A [(aP, .inr (2, [.ref aP_slots, .ref aP_termsSeen, .ref aP_matches, .ref aP_matchCount, .ref aP_variables, .ref aP_havingVariable, .ref aP_told, .ref aP_parent, .ref aP_allBefore, .int P_required, .int P_hinted, .int P_count])), (aP_told, .inl (cI, 8, .inl P_told)), (aP_matchCount, .inl (cI, 8, .inl P_matchCount))] sz)) (va_A [(aP, .inr (2, [.ref aP_slots, .ref aP_termsSeen, .ref aP_matches, .ref aP_matchCount, .ref aP_variables, .ref aP_havingVariable, .ref aP_told, .ref aP_parent, .ref aP_allBefore, .int P_required, .int P_hinted, .int P_count])), (aP_told, .inl (cI, 8, .inl P_told)), (aP_matchCount, .inl (cI, 8, .inl P_matchCount))] sz)) 0 0 (va_A [(aP, .inr (2, [.ref aP_slots, .ref aP_termsSeen, .ref aP_matches, .ref aP_matchCount, .ref aP_variables, .ref aP_havingVariable, .ref aP_told, .ref aP_parent, .ref aP_allBefore, .int P_required, .int P_hinted, .int P_count])), (aP_told, .inl (cI, 8, .inl P_told)), (aP_matchCount, .inl (cI, 8, .inl P_matchCount))] sz) := by
  refine con_start (Qc := fun A => va_Qi (fun r2 (_ : Nat → Nat) => r2 = r) (bB D (xT cI cJ cZ) (fun _ => [(aP, .inr (2, [.ref aP_slots, .ref aP_termsSeen, .ref aP_matches, .ref aP_matchCount, .ref aP_variables, .ref aP_havingVariable, .ref aP_told, .ref aP_parent, .ref aP_allBefore, .int P_required, .int P_hinted, .int P_count])), (aP_told, .inl (cI, 8, .inl P_told)), (aP_matchCount, .inl (cI, 8, .inl P_matchCount))]) A) A) (by decide) (Nat.le_of_ble_eq_true rfl) ?_
  intro p e s m args below meth c Q A hx hb hr hlk hml hown hin htg hN hK hQ hA hP hD hS ls hl
  have hl : lv_has ls 2 [(0, .ref aP), (1, .int x1)] := hl
  have hown : s.vm.findClass RX2 = some m.cls := hown
  have hf := (f_Patterns_size_u x1 P_told P_matchCount).symm.trans hf
  refine lv_aload_n hx hb dX2_size_0 rfl (lv_at hl 0 rfl) ?_
  refine va_get (D := D) (ci := 2) (v := .ref aP_told) (C := RX2) (T := TX2) (N := 12) hx hb htg giX2 hown hK hP 0 rfl rfl 6 (by decide) (htg _ kw_53) (fun _ h9 => h9) rfl dX2_size_1 ?_
  refine lv_iload_n hx hb dX2_size_4 rfl (lv_at hl 1 rfl) ?_
  have g_1 : vp_in x1 8 := gd_in hf
  have hf := gd_el hf
  refine va_iald hx hb hK hP 1 0 rfl rfl g_1 dX2_size_5 ?_
  refine lv_iconst (v := (-1 : Int32)) hx hb dX2_size_6 (by decide) ?_
  refine lv_icmp_eq (tgt := 19) hx hb dX2_size_7 (by decide) (fun c_2 => ?_) (fun c_2 => ?_)
  · have hf := xb_t c_2 hf
    refine lv_aload_n hx hb dX2_size_19 rfl (lv_at hl 0 rfl) ?_
    refine va_get (D := D) (ci := 2) (v := .ref aP_matchCount) (C := RX2) (T := TX2) (N := 12) hx hb htg giX2 hown hK hP 0 rfl rfl 3 (by decide) (htg _ kw_46) (fun _ h9 => h9) rfl dX2_size_20 ?_
    refine lv_iload_n hx hb dX2_size_23 rfl (lv_at hl 1 rfl) ?_
    refine va_iald hx hb hK hP 2 0 rfl rfl g_1 dX2_size_24 ?_
    have hf := Option.some.inj hf
    cases hf
    exact x_iret (fun _ => 0) hQ hx hb hr hlk hK hP hD hS dX2_size_25
  · have hf := xb_f c_2 hf
    refine lv_aload_n hx hb dX2_size_10 rfl (lv_at hl 0 rfl) ?_
    refine va_get (D := D) (ci := 2) (v := .ref aP_told) (C := RX2) (T := TX2) (N := 12) hx hb htg giX2 hown hK hP 0 rfl rfl 6 (by decide) (htg _ kw_53) (fun _ h9 => h9) rfl dX2_size_11 ?_
    refine lv_iload_n hx hb dX2_size_14 rfl (lv_at hl 1 rfl) ?_
    refine va_iald hx hb hK hP 1 0 rfl rfl g_1 dX2_size_15 ?_
    refine lv_goto (tgt := 25) hx hb dX2_size_16 (by decide) ?_
    have hf := Option.some.inj hf
    cases hf
    exact x_iret (fun _ => 0) hQ hx hb hr hlk hK hP hD hS dX2_size_25
abbrev rm_f_Integer_bitCount : Room := { frames := 0, cells := 0, slots := 0, locals := 0 }
set_option maxHeartbeats 4000000 in
set_option maxRecDepth 100000 in
theorem c_f_Integer_bitCount (l : Launch) (D : va_G) (cI cJ cZ : ClassId) (sz : Nat) (x0 : Int32) {r : Int32} (hf : f_Integer_bitCount x0 = r) : Met l yJI_bitCount (.code yJI_bitCount cJI_bitCount 1 (some .int) :: GW) rm_f_Integer_bitCount (va_Pc [.int x0] (xP D (xT cI cJ cZ) sz [])) (va_Qi (fun r2 (_ : Nat → Nat) => r2 = r) (bB D (xT cI cJ cZ) (fun _ => []) (va_A [] sz)) (va_A [] sz)) 0 0 (va_A [] sz) := by
  refine con_start (Qc := fun A => va_Qi (fun r2 (_ : Nat → Nat) => r2 = r) (bB D (xT cI cJ cZ) (fun _ => []) A) A) (by decide) (Nat.le_of_ble_eq_true rfl) ?_
  intro p e s m args below meth c Q A hx hb hr hlk hml hown hin htg hN hK hQ hA hP hD hS ls hl
  have hl : lv_has ls 1 [(0, .int x0)] := hl
  have hown : s.vm.findClass RJI = some m.cls := hown
  have hf := (f_Integer_bitCount_u x0).symm.trans hf
  refine lv_iload_n hx hb dJI_bitCount_0 rfl (lv_at hl 0 rfl) ?_
  refine lv_iload_n hx hb dJI_bitCount_1 rfl (lv_at hl 0 rfl) ?_
  refine lv_iconst (v := (1 : Int32)) hx hb dJI_bitCount_2 (by decide) ?_
  refine lv_iushr hx hb dJI_bitCount_3 rfl ?_
  refine lv_ldcw (v := (1431655765 : Int32)) hx hb hown (htg _ kw_371) dJI_bitCount_4 ?_
  refine lv_iand hx hb dJI_bitCount_7 ?_
  refine lv_isub hx hb dJI_bitCount_8 ?_
  refine lv_topi (fun x0_1 ex0_1 => ?_)
  have hf := nm_nm ex0_1 hf
  refine lv_istore_n (lv' := [(0, .int x0_1)]) hx hb dJI_bitCount_9 rfl hl (by decide) rfl (fun ls hl => ?_)
  refine lv_iload_n hx hb dJI_bitCount_10 rfl (lv_at hl 0 rfl) ?_
  refine lv_ldcw (v := (858993459 : Int32)) hx hb hown (htg _ kw_372) dJI_bitCount_11 ?_
  refine lv_iand hx hb dJI_bitCount_14 ?_
  refine lv_iload_n hx hb dJI_bitCount_15 rfl (lv_at hl 0 rfl) ?_
  refine lv_iconst (v := (2 : Int32)) hx hb dJI_bitCount_16 (by decide) ?_
  refine lv_iushr hx hb dJI_bitCount_17 rfl ?_
  refine lv_ldcw (v := (858993459 : Int32)) hx hb hown (htg _ kw_372) dJI_bitCount_18 ?_
  refine lv_iand hx hb dJI_bitCount_21 ?_
  refine lv_iadd hx hb dJI_bitCount_22 ?_
  refine lv_topi (fun x0_2 ex0_2 => ?_)
  have hf := nm_nm ex0_2 hf
  refine lv_istore_n (lv' := [(0, .int x0_2)]) hx hb dJI_bitCount_23 rfl hl (by decide) rfl (fun ls hl => ?_)
  refine lv_iload_n hx hb dJI_bitCount_24 rfl (lv_at hl 0 rfl) ?_
  refine lv_iload_n hx hb dJI_bitCount_25 rfl (lv_at hl 0 rfl) ?_
  refine lv_iconst (v := (4 : Int32)) hx hb dJI_bitCount_26 (by decide) ?_
  refine lv_iushr hx hb dJI_bitCount_27 rfl ?_
  refine lv_iadd hx hb dJI_bitCount_28 ?_
  refine lv_ldcw (v := (252645135 : Int32)) hx hb hown (htg _ kw_373) dJI_bitCount_29 ?_
  refine lv_iand hx hb dJI_bitCount_32 ?_
  refine lv_topi (fun x0_3 ex0_3 => ?_)
  have hf := nm_nm ex0_3 hf
  refine lv_istore_n (lv' := [(0, .int x0_3)]) hx hb dJI_bitCount_33 rfl hl (by decide) rfl (fun ls hl => ?_)
  refine lv_iload_n hx hb dJI_bitCount_34 rfl (lv_at hl 0 rfl) ?_
  refine lv_iload_n hx hb dJI_bitCount_35 rfl (lv_at hl 0 rfl) ?_
  refine lv_bipush (v := (8 : Int32)) hx hb dJI_bitCount_36 (by decide) ?_
  refine lv_iushr hx hb dJI_bitCount_38 rfl ?_
  refine lv_iadd hx hb dJI_bitCount_39 ?_
  refine lv_topi (fun x0_4 ex0_4 => ?_)
  have hf := nm_nm ex0_4 hf
  refine lv_istore_n (lv' := [(0, .int x0_4)]) hx hb dJI_bitCount_40 rfl hl (by decide) rfl (fun ls hl => ?_)
  refine lv_iload_n hx hb dJI_bitCount_41 rfl (lv_at hl 0 rfl) ?_
  refine lv_iload_n hx hb dJI_bitCount_42 rfl (lv_at hl 0 rfl) ?_
  refine lv_bipush (v := (16 : Int32)) hx hb dJI_bitCount_43 (by decide) ?_
  refine lv_iushr hx hb dJI_bitCount_45 rfl ?_
  refine lv_iadd hx hb dJI_bitCount_46 ?_
  refine lv_topi (fun x0_5 ex0_5 => ?_)
  have hf := nm_nm ex0_5 hf
  refine lv_istore_n (lv' := [(0, .int x0_5)]) hx hb dJI_bitCount_47 rfl hl (by decide) rfl (fun ls hl => ?_)
  refine lv_iload_n hx hb dJI_bitCount_48 rfl (lv_at hl 0 rfl) ?_
  refine lv_bipush (v := (63 : Int32)) hx hb dJI_bitCount_49 (by decide) ?_
  refine lv_iand hx hb dJI_bitCount_51 ?_
  have hf := hf
  cases hf
  exact x_iret (fun _ => 0) hQ hx hb hr hlk hK hP hD hS dJI_bitCount_52
abbrev rm_f_Math_max : Room := { frames := 0, cells := 0, slots := 0, locals := 0 }
set_option maxHeartbeats 4000000 in
set_option maxRecDepth 100000 in
theorem c_f_Math_max (l : Launch) (D : va_G) (cI cJ cZ : ClassId) (sz : Nat) (x0 : Int32) (x1 : Int32) {r : Int32} (hf : f_Math_max x0 x1 = r) : Met l yJM_max (.code yJM_max cJM_max 2 (some .int) :: GW) rm_f_Math_max (va_Pc [.int x0, .int x1] (xP D (xT cI cJ cZ) sz [])) (va_Qi (fun r2 (_ : Nat → Nat) => r2 = r) (bB D (xT cI cJ cZ) (fun _ => []) (va_A [] sz)) (va_A [] sz)) 0 0 (va_A [] sz) := by
  refine con_start (Qc := fun A => va_Qi (fun r2 (_ : Nat → Nat) => r2 = r) (bB D (xT cI cJ cZ) (fun _ => []) A) A) (by decide) (Nat.le_of_ble_eq_true rfl) ?_
  intro p e s m args below meth c Q A hx hb hr hlk hml hown hin htg hN hK hQ hA hP hD hS ls hl
  have hl : lv_has ls 2 [(0, .int x0), (1, .int x1)] := hl
  have hown : s.vm.findClass RJM = some m.cls := hown
  have hf := (f_Math_max_u x0 x1).symm.trans hf
  refine lv_iload_n hx hb dJM_max_0 rfl (lv_at hl 0 rfl) ?_
  refine lv_iload_n hx hb dJM_max_1 rfl (lv_at hl 1 rfl) ?_
  refine lv_icmp_lt (tgt := 9) hx hb dJM_max_2 (by decide) (fun c_1 => ?_) (fun c_1 => ?_)
  · have hf := xb_t c_1 hf
    refine lv_iload_n hx hb dJM_max_9 rfl (lv_at hl 1 rfl) ?_
    have hf := hf
    cases hf
    exact x_iret (fun _ => 0) hQ hx hb hr hlk hK hP hD hS dJM_max_10
  · have hf := xb_f c_1 hf
    refine lv_iload_n hx hb dJM_max_5 rfl (lv_at hl 0 rfl) ?_
    refine lv_goto (tgt := 10) hx hb dJM_max_6 (by decide) ?_
    have hf := hf
    cases hf
    exact x_iret (fun _ => 0) hQ hx hb hr hlk hK hP hD hS dJM_max_10
abbrev rm_f_Patterns_spreadAt : Room := { frames := 1, cells := 0, slots := 0, locals := 21 }
set_option maxHeartbeats 4000000 in
set_option maxRecDepth 100000 in
theorem c_f_Patterns_spreadAt (l : Launch) (D : va_G) (cI cJ cZ : ClassId) (sz : Nat) (aP : Nat) (x1 : Int32) (x2 : Int32) (aP_slots : Nat) (aP_termsSeen : Nat) (aP_matches : Nat) (aP_matchCount : Nat) (aP_variables : Nat) (aP_havingVariable : Nat) (aP_told : Nat) (aP_parent : Nat) (aP_allBefore : Nat) (P_required : Int32) (P_hinted : Int32) (P_count : Int32) (P_termsSeen : Nat → Int32) {r : Int32} (hf : f_Patterns_spreadAt x1 x2 P_termsSeen = some r) : Met l yX2_spreadAt (.code yX2_spreadAt cX2_spreadAt 3 (some .int) :: GW) rm_f_Patterns_spreadAt (va_Pc [.ref aP, .int x1, .int x2] (xP D (xT cI cJ cZ) sz [(aP, .inr (2, [.ref aP_slots, .ref aP_termsSeen, .ref aP_matches, .ref aP_matchCount, .ref aP_variables, .ref aP_havingVariable, .ref aP_told, .ref aP_parent, .ref aP_allBefore, .int P_required, .int P_hinted, .int P_count])), (aP_termsSeen, .inl (cI, 24, .inl P_termsSeen))])) (va_Qi (fun r2 (_ : Nat → Nat) => r2 = r) (bB D (xT cI cJ cZ) (fun _ => [(aP, .inr (2, [.ref aP_slots, .ref aP_termsSeen, .ref aP_matches, .ref aP_matchCount, .ref aP_variables, .ref aP_havingVariable, .ref aP_told, .ref aP_parent, .ref aP_allBefore, .int P_required, .int P_hinted, .int P_count])), (aP_termsSeen, .inl (cI, 24, .inl P_termsSeen))]) (va_A [(aP, .inr (2, [.ref aP_slots, .ref aP_termsSeen, .ref aP_matches, .ref aP_matchCount, .ref aP_variables, .ref aP_havingVariable, .ref aP_told, .ref aP_parent, .ref aP_allBefore, .int P_required, .int P_hinted, .int P_count])), (aP_termsSeen, .inl (cI, 24, .inl P_termsSeen))] sz)) (va_A [(aP, .inr (2, [.ref aP_slots, .ref aP_termsSeen, .ref aP_matches, .ref aP_matchCount, .ref aP_variables, .ref aP_havingVariable, .ref aP_told, .ref aP_parent, .ref aP_allBefore, .int P_required, .int P_hinted, .int P_count])), (aP_termsSeen, .inl (cI, 24, .inl P_termsSeen))] sz)) 0 0 (va_A [(aP, .inr (2, [.ref aP_slots, .ref aP_termsSeen, .ref aP_matches, .ref aP_matchCount, .ref aP_variables, .ref aP_havingVariable, .ref aP_told, .ref aP_parent, .ref aP_allBefore, .int P_required, .int P_hinted, .int P_count])), (aP_termsSeen, .inl (cI, 24, .inl P_termsSeen))] sz) := by
  refine con_start (Qc := fun A => va_Qi (fun r2 (_ : Nat → Nat) => r2 = r) (bB D (xT cI cJ cZ) (fun _ => [(aP, .inr (2, [.ref aP_slots, .ref aP_termsSeen, .ref aP_matches, .ref aP_matchCount, .ref aP_variables, .ref aP_havingVariable, .ref aP_told, .ref aP_parent, .ref aP_allBefore, .int P_required, .int P_hinted, .int P_count])), (aP_termsSeen, .inl (cI, 24, .inl P_termsSeen))]) A) A) (by decide) (Nat.le_of_ble_eq_true rfl) ?_
  intro p e s m args below meth c Q A hx hb hr hlk hml hown hin htg hN hK hQ hA hP hD hS ls hl
  have hl : lv_has ls 3 [(0, .ref aP), (1, .int x1), (2, .int x2)] := hl
  have hown : s.vm.findClass RX2 = some m.cls := hown
  have hf := (f_Patterns_spreadAt_u x1 x2 P_termsSeen).symm.trans hf
  refine lv_iconst (v := (1 : Int32)) hx hb dX2_spreadAt_0 (by decide) ?_
  refine lv_aload_n hx hb dX2_spreadAt_1 rfl (lv_at hl 0 rfl) ?_
  refine va_get (D := D) (ci := 2) (v := .ref aP_termsSeen) (C := RX2) (T := TX2) (N := 12) hx hb htg giX2 hown hK hP 0 rfl rfl 1 (by decide) (htg _ kw_43) (fun _ h9 => h9) rfl dX2_spreadAt_2 ?_
  refine lv_iload_n hx hb dX2_spreadAt_5 rfl (lv_at hl 1 rfl) ?_
  refine lv_iconst (v := (3 : Int32)) hx hb dX2_spreadAt_6 (by decide) ?_
  refine lv_imul hx hb dX2_spreadAt_7 ?_
  refine lv_iload_n hx hb dX2_spreadAt_8 rfl (lv_at hl 2 rfl) ?_
  refine lv_iadd hx hb dX2_spreadAt_9 ?_
  have g_1 : vp_in ((x1 * (3 : Int32)) + x2) 24 := gd_in hf
  have hf := gd_el hf
  refine va_iald hx hb hK hP 1 0 rfl rfl g_1 dX2_spreadAt_10 ?_
  refine x_i (xrS (As := [.int (P_termsSeen ((x1 * (3 : Int32)) + x2).toNatClampNeg)]) (rest := [.int (1 : Int32)]) ⟨hx, hb, hml, hown, htg⟩ (c_f_Integer_bitCount l D cI cJ cZ _ (P_termsSeen ((x1 * (3 : Int32)) + x2).toNatClampNeg) rfl) kc_f_Integer_bitCount kw_368 kw_369 kw_9 dd_f_Integer_bitCount ⟨Nat.le_of_ble_eq_true rfl, Nat.le_of_ble_eq_true rfl⟩ rfl rfl (hP.sub [] rfl) (hD.sub [] (by decide) rfl) hK hN rfl hl.1 rfl (Nat.le_of_ble_eq_true rfl) dX2_spreadAt_11 ⟨Nat.le_of_ble_eq_true rfl, Nat.le_of_ble_eq_true rfl⟩) hP hD hS hA [] [0, 1] rfl rfl (by decide) (by decide) (fun _ H locs hP hD hS => ?_)
  have hP : va_P D vwCl [(aP, .inr (2, [.ref aP_slots, .ref aP_termsSeen, .ref aP_matches, .ref aP_matchCount, .ref aP_variables, .ref aP_havingVariable, .ref aP_told, .ref aP_parent, .ref aP_allBefore, .int P_required, .int P_hinted, .int P_count])), (aP_termsSeen, .inl (cI, 24, .inl P_termsSeen))] H := hP
  have hD : va_D A [(aP, .inr (2, [.ref aP_slots, .ref aP_termsSeen, .ref aP_matches, .ref aP_matchCount, .ref aP_variables, .ref aP_havingVariable, .ref aP_told, .ref aP_parent, .ref aP_allBefore, .int P_required, .int P_hinted, .int P_count])), (aP_termsSeen, .inl (cI, 24, .inl P_termsSeen))] := hD
  refine x_i (xrS (As := [.int (1 : Int32), .int (f_Integer_bitCount (P_termsSeen ((x1 * (3 : Int32)) + x2).toNatClampNeg))]) (rest := []) ⟨hx, hb, hml, hown, htg⟩ (c_f_Math_max l D cI cJ cZ _ (1 : Int32) (f_Integer_bitCount (P_termsSeen ((x1 * (3 : Int32)) + x2).toNatClampNeg)) rfl) kc_f_Math_max kw_374 kw_375 kw_10 dd_f_Math_max ⟨Nat.le_of_ble_eq_true rfl, Nat.le_of_ble_eq_true rfl⟩ rfl rfl (hP.sub [] rfl) (hD.sub [] (by decide) rfl) hK hN rfl hl.1 rfl (Nat.le_of_ble_eq_true rfl) dX2_spreadAt_14 ⟨Nat.le_of_ble_eq_true rfl, Nat.le_of_ble_eq_true rfl⟩) hP hD hS hA [] [0, 1] rfl rfl (by decide) (by decide) (fun _ H locs hP hD hS => ?_)
  have hP : va_P D vwCl [(aP, .inr (2, [.ref aP_slots, .ref aP_termsSeen, .ref aP_matches, .ref aP_matchCount, .ref aP_variables, .ref aP_havingVariable, .ref aP_told, .ref aP_parent, .ref aP_allBefore, .int P_required, .int P_hinted, .int P_count])), (aP_termsSeen, .inl (cI, 24, .inl P_termsSeen))] H := hP
  have hD : va_D A [(aP, .inr (2, [.ref aP_slots, .ref aP_termsSeen, .ref aP_matches, .ref aP_matchCount, .ref aP_variables, .ref aP_havingVariable, .ref aP_told, .ref aP_parent, .ref aP_allBefore, .int P_required, .int P_hinted, .int P_count])), (aP_termsSeen, .inl (cI, 24, .inl P_termsSeen))] := hD
  have hf := Option.some.inj hf
  cases hf
  exact x_iret (fun _ => 0) hQ hx hb hr hlk hK hP hD hS dX2_spreadAt_17
abbrev rm_f_Planner_measure : Room := { frames := 2, cells := 0, slots := 0, locals := 43 }
set_option maxHeartbeats 4000000 in
set_option maxRecDepth 100000 in
theorem c_f_Planner_measure (l : Launch) (D : va_G) (cI cJ cZ : ClassId) (sz : Nat) (n : Nat) (aQ : Nat) (aP : Nat) (aP_slots : Nat) (aP_termsSeen : Nat) (aP_matches : Nat) (aP_matchCount : Nat) (aP_variables : Nat) (aP_havingVariable : Nat) (aP_told : Nat) (aP_parent : Nat) (aP_allBefore : Nat) (P_required : Int32) (P_hinted : Int32) (P_count : Int32) (aQ_spreads : Nat) (aQ_sizes : Nat) (aQ_estimates : Nat) (aQ_costAhead : Nat) (P_told : Nat → Int32) (P_matchCount : Nat → Int32) (Q_sizes : Nat → Int32) (P_slots : Nat → Int32) (P_termsSeen : Nat → Int32) (Q_spreads : Nat → Int32) {Q_sizes' : Nat → Int32} {Q_spreads' : Nat → Int32} (hf : f_Planner_measure n P_count P_told P_matchCount Q_sizes P_slots P_termsSeen Q_spreads = some (Q_sizes', Q_spreads')) : Met l yX4_measure (.code yX4_measure cX4_measure 5 none :: GW) rm_f_Planner_measure (va_Pc [.ref aQ, .ref aP] (xP D (xT cI cJ cZ) sz [(aP, .inr (2, [.ref aP_slots, .ref aP_termsSeen, .ref aP_matches, .ref aP_matchCount, .ref aP_variables, .ref aP_havingVariable, .ref aP_told, .ref aP_parent, .ref aP_allBefore, .int P_required, .int P_hinted, .int P_count])), (aQ, .inr (4, [.ref aQ_spreads, .ref aQ_sizes, .ref aQ_estimates, .ref aQ_costAhead])), (aP_told, .inl (cI, 8, .inl P_told)), (aP_matchCount, .inl (cI, 8, .inl P_matchCount)), (aQ_sizes, .inl (cI, 8, .inl Q_sizes)), (aP_slots, .inl (cI, 24, .inl P_slots)), (aP_termsSeen, .inl (cI, 24, .inl P_termsSeen)), (aQ_spreads, .inl (cI, 64, .inl Q_spreads))])) (va_Qv (fun (_ : Nat → Nat) => True) (bB D (xT cI cJ cZ) (fun _ => [(aP, .inr (2, [.ref aP_slots, .ref aP_termsSeen, .ref aP_matches, .ref aP_matchCount, .ref aP_variables, .ref aP_havingVariable, .ref aP_told, .ref aP_parent, .ref aP_allBefore, .int P_required, .int P_hinted, .int P_count])), (aQ, .inr (4, [.ref aQ_spreads, .ref aQ_sizes, .ref aQ_estimates, .ref aQ_costAhead])), (aP_told, .inl (cI, 8, .inl P_told)), (aP_matchCount, .inl (cI, 8, .inl P_matchCount)), (aQ_sizes, .inl (cI, 8, .inl Q_sizes')), (aP_slots, .inl (cI, 24, .inl P_slots)), (aP_termsSeen, .inl (cI, 24, .inl P_termsSeen)), (aQ_spreads, .inl (cI, 64, .inl Q_spreads'))]) (va_A [(aP, .inr (2, [.ref aP_slots, .ref aP_termsSeen, .ref aP_matches, .ref aP_matchCount, .ref aP_variables, .ref aP_havingVariable, .ref aP_told, .ref aP_parent, .ref aP_allBefore, .int P_required, .int P_hinted, .int P_count])), (aQ, .inr (4, [.ref aQ_spreads, .ref aQ_sizes, .ref aQ_estimates, .ref aQ_costAhead])), (aP_told, .inl (cI, 8, .inl P_told)), (aP_matchCount, .inl (cI, 8, .inl P_matchCount)), (aQ_sizes, .inl (cI, 8, .inl Q_sizes)), (aP_slots, .inl (cI, 24, .inl P_slots)), (aP_termsSeen, .inl (cI, 24, .inl P_termsSeen)), (aQ_spreads, .inl (cI, 64, .inl Q_spreads))] sz)) (va_A [(aP, .inr (2, [.ref aP_slots, .ref aP_termsSeen, .ref aP_matches, .ref aP_matchCount, .ref aP_variables, .ref aP_havingVariable, .ref aP_told, .ref aP_parent, .ref aP_allBefore, .int P_required, .int P_hinted, .int P_count])), (aQ, .inr (4, [.ref aQ_spreads, .ref aQ_sizes, .ref aQ_estimates, .ref aQ_costAhead])), (aP_told, .inl (cI, 8, .inl P_told)), (aP_matchCount, .inl (cI, 8, .inl P_matchCount)), (aQ_sizes, .inl (cI, 8, .inl Q_sizes)), (aP_slots, .inl (cI, 24, .inl P_slots)), (aP_termsSeen, .inl (cI, 24, .inl P_termsSeen)), (aQ_spreads, .inl (cI, 64, .inl Q_spreads))] sz)) 0 0 (va_A [(aP, .inr (2, [.ref aP_slots, .ref aP_termsSeen, .ref aP_matches, .ref aP_matchCount, .ref aP_variables, .ref aP_havingVariable, .ref aP_told, .ref aP_parent, .ref aP_allBefore, .int P_required, .int P_hinted, .int P_count])), (aQ, .inr (4, [.ref aQ_spreads, .ref aQ_sizes, .ref aQ_estimates, .ref aQ_costAhead])), (aP_told, .inl (cI, 8, .inl P_told)), (aP_matchCount, .inl (cI, 8, .inl P_matchCount)), (aQ_sizes, .inl (cI, 8, .inl Q_sizes)), (aP_slots, .inl (cI, 24, .inl P_slots)), (aP_termsSeen, .inl (cI, 24, .inl P_termsSeen)), (aQ_spreads, .inl (cI, 64, .inl Q_spreads))] sz) := by
  refine con_start (Qc := fun A => va_Qv (fun (_ : Nat → Nat) => True) (bB D (xT cI cJ cZ) (fun _ => [(aP, .inr (2, [.ref aP_slots, .ref aP_termsSeen, .ref aP_matches, .ref aP_matchCount, .ref aP_variables, .ref aP_havingVariable, .ref aP_told, .ref aP_parent, .ref aP_allBefore, .int P_required, .int P_hinted, .int P_count])), (aQ, .inr (4, [.ref aQ_spreads, .ref aQ_sizes, .ref aQ_estimates, .ref aQ_costAhead])), (aP_told, .inl (cI, 8, .inl P_told)), (aP_matchCount, .inl (cI, 8, .inl P_matchCount)), (aQ_sizes, .inl (cI, 8, .inl Q_sizes')), (aP_slots, .inl (cI, 24, .inl P_slots)), (aP_termsSeen, .inl (cI, 24, .inl P_termsSeen)), (aQ_spreads, .inl (cI, 64, .inl Q_spreads'))]) A) A) (by decide) (Nat.le_of_ble_eq_true rfl) ?_
  intro p e s m args below meth c Q A hx hb hr hlk hml hown hin htg hN hK hQ hA hP hD hS ls hl
  have hl : lv_has ls 5 [(0, .ref aQ), (1, .ref aP)] := hl
  have hown : s.vm.findClass RX4 = some m.cls := hown
  have hf := (f_Planner_measure_u n P_count P_told P_matchCount Q_sizes P_slots P_termsSeen Q_spreads).symm.trans hf
  refine lv_iconst (v := (0 : Int32)) hx hb dX4_measure_0 (by decide) ?_
  refine lv_istore_n (lv' := [(2, .int (0 : Int32)), (0, .ref aQ), (1, .ref aP)]) hx hb dX4_measure_1 rfl hl (by decide) rfl (fun ls hl => ?_)
  have L_2_93 : ∀ (k : Nat) (Q_sizes_94 : Nat → Int32) (Q_spreads_95 : Nat → Int32) (x2_96 : Int32) (o_93 : ((Nat → Int32) × (Nat → Int32))), f_Planner_measure_L0 n P_count P_told P_matchCount P_slots P_termsSeen k Q_sizes_94 Q_spreads_95 x2_96 = some o_93 → ∀ (H : Heap) (locs : List Loc), va_P D vwCl [(aP, .inr (2, [.ref aP_slots, .ref aP_termsSeen, .ref aP_matches, .ref aP_matchCount, .ref aP_variables, .ref aP_havingVariable, .ref aP_told, .ref aP_parent, .ref aP_allBefore, .int P_required, .int P_hinted, .int P_count])), (aQ, .inr (4, [.ref aQ_spreads, .ref aQ_sizes, .ref aQ_estimates, .ref aQ_costAhead])), (aP_told, .inl (cI, 8, .inl P_told)), (aP_matchCount, .inl (cI, 8, .inl P_matchCount)), (aQ_sizes, .inl (cI, 8, .inl Q_sizes_94)), (aP_slots, .inl (cI, 24, .inl P_slots)), (aP_termsSeen, .inl (cI, 24, .inl P_termsSeen)), (aQ_spreads, .inl (cI, 64, .inl Q_spreads_95))] H → va_D A [(aP, .inr (2, [.ref aP_slots, .ref aP_termsSeen, .ref aP_matches, .ref aP_matchCount, .ref aP_variables, .ref aP_havingVariable, .ref aP_told, .ref aP_parent, .ref aP_allBefore, .int P_required, .int P_hinted, .int P_count])), (aQ, .inr (4, [.ref aQ_spreads, .ref aQ_sizes, .ref aQ_estimates, .ref aQ_costAhead])), (aP_told, .inl (cI, 8, .inl P_told)), (aP_matchCount, .inl (cI, 8, .inl P_matchCount)), (aQ_sizes, .inl (cI, 8, .inl Q_sizes_94)), (aP_slots, .inl (cI, 24, .inl P_slots)), (aP_termsSeen, .inl (cI, 24, .inl P_termsSeen)), (aQ_spreads, .inl (cI, 64, .inl Q_spreads_95))] → va_S A s.heap H locs → ∀ ls : Array Slot, lv_has ls 5 [(0, .ref aQ), (1, .ref aP), (2, .int x2_96)] → (∀ (Q_sizes_97 : Nat → Int32) (Q_spreads_98 : Nat → Int32), some ((Q_sizes_97, Q_spreads_98)) = some o_93 → ∀ (H : Heap) (locs : List Loc), va_P D vwCl [(aP, .inr (2, [.ref aP_slots, .ref aP_termsSeen, .ref aP_matches, .ref aP_matchCount, .ref aP_variables, .ref aP_havingVariable, .ref aP_told, .ref aP_parent, .ref aP_allBefore, .int P_required, .int P_hinted, .int P_count])), (aQ, .inr (4, [.ref aQ_spreads, .ref aQ_sizes, .ref aQ_estimates, .ref aQ_costAhead])), (aP_told, .inl (cI, 8, .inl P_told)), (aP_matchCount, .inl (cI, 8, .inl P_matchCount)), (aQ_sizes, .inl (cI, 8, .inl Q_sizes_97)), (aP_slots, .inl (cI, 24, .inl P_slots)), (aP_termsSeen, .inl (cI, 24, .inl P_termsSeen)), (aQ_spreads, .inl (cI, 64, .inl Q_spreads_98))] H → va_D A [(aP, .inr (2, [.ref aP_slots, .ref aP_termsSeen, .ref aP_matches, .ref aP_matchCount, .ref aP_variables, .ref aP_havingVariable, .ref aP_told, .ref aP_parent, .ref aP_allBefore, .int P_required, .int P_hinted, .int P_count])), (aQ, .inr (4, [.ref aQ_spreads, .ref aQ_sizes, .ref aQ_estimates, .ref aQ_costAhead])), (aP_told, .inl (cI, 8, .inl P_told)), (aP_matchCount, .inl (cI, 8, .inl P_matchCount)), (aQ_sizes, .inl (cI, 8, .inl Q_sizes_97)), (aP_slots, .inl (cI, 24, .inl P_slots)), (aP_termsSeen, .inl (cI, 24, .inl P_termsSeen)), (aQ_spreads, .inl (cI, 64, .inl Q_spreads_98))] → va_S A s.heap H locs → ∀ ls : Array Slot, lv_has ls 5 [] → W p l e rm_f_Planner_measure s m args below meth c H locs 0 0 Q (F0 m 74 ls [])) → W p l e rm_f_Planner_measure s m args below meth c H locs 0 0 Q (F0 m 2 ls []) := by
    intro k
    induction k with
    | zero =>
      intro Q_sizes_94 Q_spreads_95 x2_96 o_93 hf
      exact absurd (((f_Planner_measure_L0_z n P_count P_told P_matchCount P_slots P_termsSeen Q_sizes_94 Q_spreads_95 x2_96).symm.trans hf)) (fun h => by cases h)
    | succ k ih =>
      intro Q_sizes_94 Q_spreads_95 x2_96 o_93 hf H locs hP hD hS ls hl hX_93
      have hf := (f_Planner_measure_L0_s n P_count P_told P_matchCount P_slots P_termsSeen k Q_sizes_94 Q_spreads_95 x2_96).symm.trans hf
      refine lv_iload_n hx hb dX4_measure_2 rfl (lv_at hl 2 rfl) ?_
      refine lv_aload_n hx hb dX4_measure_3 rfl (lv_at hl 1 rfl) ?_
      refine va_getN (D := D) (ci := 2) (v := .int P_count) (C := RX2) (T := TX2) (N := 12) hx hb htg giX2 hown hK hP 0 rfl rfl 11 (by decide) (va_Nw.use rfl (hN _ kn_63)) (fun _ h9 => h9) rfl dX4_measure_4 ?_
      refine lv_icmp_ge (tgt := 74) hx hb dX4_measure_7 (by decide) (fun c_99 => ?_) (fun c_99 => ?_)
      · have hf := xb_t c_99 hf
        exact hX_93 Q_sizes_94 Q_spreads_95 hf _ _ hP hD hS _ (lv_sub hl [] rfl)
      · have hf := xb_f c_99 hf
        refine lv_aload_n hx hb dX4_measure_10 rfl (lv_at hl 0 rfl) ?_
        refine va_get (D := D) (ci := 4) (v := .ref aQ_sizes) (C := RX4) (T := TX4) (N := 4) hx hb htg giX4 hown hK hP 1 rfl rfl 1 (by decide) (htg _ kw_123) (fun _ h9 => h9) rfl dX4_measure_11 ?_
        refine lv_iload_n hx hb dX4_measure_14 rfl (lv_at hl 2 rfl) ?_
        refine lv_aload_n hx hb dX4_measure_15 rfl (lv_at hl 1 rfl) ?_
        refine lv_iload_n hx hb dX4_measure_16 rfl (lv_at hl 2 rfl) ?_
        obtain ⟨r_101, hq_100, hf⟩ := bn1_c hf
        refine x_i (xrV (As := [.int x2_96]) (b := aP) (rest := [.int x2_96, .ref aQ_sizes]) ⟨hx, hb, hml, hown, htg⟩ (c_f_Patterns_size l D cI cJ cZ _ aP x2_96 aP_slots aP_termsSeen aP_matches aP_matchCount aP_variables aP_havingVariable aP_told aP_parent aP_allBefore P_required P_hinted P_count P_told P_matchCount hq_100) kc_f_Patterns_size kw_358 kw_359 kw_360 kw_3 dd_f_Patterns_size ⟨Nat.le_of_ble_eq_true rfl, Nat.le_of_ble_eq_true rfl⟩ rfl rfl (hP.sub [0, 2, 3] rfl) (hD.sub [0, 2, 3] (by decide) rfl) hK hN hP (q0 := 0) rfl rfl rfl hl.1 rfl (Nat.le_of_ble_eq_true rfl) dX4_measure_17 ⟨Nat.le_of_ble_eq_true rfl, Nat.le_of_ble_eq_true rfl⟩) hP hD hS hA [0, 2, 3] [1, 4, 5, 6, 7] rfl rfl (by decide) (by decide) (fun _ H locs hP hD hS => ?_)
        have hP : va_P D vwCl [(aQ, .inr (4, [.ref aQ_spreads, .ref aQ_sizes, .ref aQ_estimates, .ref aQ_costAhead])), (aQ_sizes, .inl (cI, 8, .inl Q_sizes_94)), (aP_slots, .inl (cI, 24, .inl P_slots)), (aP_termsSeen, .inl (cI, 24, .inl P_termsSeen)), (aQ_spreads, .inl (cI, 64, .inl Q_spreads_95)), (aP, .inr (2, [.ref aP_slots, .ref aP_termsSeen, .ref aP_matches, .ref aP_matchCount, .ref aP_variables, .ref aP_havingVariable, .ref aP_told, .ref aP_parent, .ref aP_allBefore, .int P_required, .int P_hinted, .int P_count])), (aP_told, .inl (cI, 8, .inl P_told)), (aP_matchCount, .inl (cI, 8, .inl P_matchCount))] H := hP
        have hD : va_D A [(aQ, .inr (4, [.ref aQ_spreads, .ref aQ_sizes, .ref aQ_estimates, .ref aQ_costAhead])), (aQ_sizes, .inl (cI, 8, .inl Q_sizes_94)), (aP_slots, .inl (cI, 24, .inl P_slots)), (aP_termsSeen, .inl (cI, 24, .inl P_termsSeen)), (aQ_spreads, .inl (cI, 64, .inl Q_spreads_95)), (aP, .inr (2, [.ref aP_slots, .ref aP_termsSeen, .ref aP_matches, .ref aP_matchCount, .ref aP_variables, .ref aP_havingVariable, .ref aP_told, .ref aP_parent, .ref aP_allBefore, .int P_required, .int P_hinted, .int P_count])), (aP_told, .inl (cI, 8, .inl P_told)), (aP_matchCount, .inl (cI, 8, .inl P_matchCount))] := hD
        have g_102 : vp_in x2_96 8 := gd_in hf
        have hf := gd_el hf
        refine x_iast hx hb hK hP hD hS 1 0 rfl rfl g_102 dX4_measure_20 (fun Q_sizes_103 eQ_sizes_103 H locs hP hD hS => ?_)
        have hf := nm_nm eQ_sizes_103 hf
        have hP : va_P D vwCl [(aQ, .inr (4, [.ref aQ_spreads, .ref aQ_sizes, .ref aQ_estimates, .ref aQ_costAhead])), (aQ_sizes, .inl (cI, 8, .inl Q_sizes_103)), (aP_slots, .inl (cI, 24, .inl P_slots)), (aP_termsSeen, .inl (cI, 24, .inl P_termsSeen)), (aQ_spreads, .inl (cI, 64, .inl Q_spreads_95)), (aP, .inr (2, [.ref aP_slots, .ref aP_termsSeen, .ref aP_matches, .ref aP_matchCount, .ref aP_variables, .ref aP_havingVariable, .ref aP_told, .ref aP_parent, .ref aP_allBefore, .int P_required, .int P_hinted, .int P_count])), (aP_told, .inl (cI, 8, .inl P_told)), (aP_matchCount, .inl (cI, 8, .inl P_matchCount))] H := hP
        have hD : va_D A [(aQ, .inr (4, [.ref aQ_spreads, .ref aQ_sizes, .ref aQ_estimates, .ref aQ_costAhead])), (aQ_sizes, .inl (cI, 8, .inl Q_sizes_103)), (aP_slots, .inl (cI, 24, .inl P_slots)), (aP_termsSeen, .inl (cI, 24, .inl P_termsSeen)), (aQ_spreads, .inl (cI, 64, .inl Q_spreads_95)), (aP, .inr (2, [.ref aP_slots, .ref aP_termsSeen, .ref aP_matches, .ref aP_matchCount, .ref aP_variables, .ref aP_havingVariable, .ref aP_told, .ref aP_parent, .ref aP_allBefore, .int P_required, .int P_hinted, .int P_count])), (aP_told, .inl (cI, 8, .inl P_told)), (aP_matchCount, .inl (cI, 8, .inl P_matchCount))] := hD
        refine lv_iconst (v := (0 : Int32)) hx hb dX4_measure_21 (by decide) ?_
        refine lv_istore_n (lv' := [(3, .int (0 : Int32)), (0, .ref aQ), (1, .ref aP), (2, .int x2_96)]) hx hb dX4_measure_22 rfl hl (by decide) rfl (fun ls hl => ?_)
        have L_23_128 : ∀ (k : Nat) (Q_spreads_129 : Nat → Int32) (x3_130 : Int32) (o_128 : (Nat → Int32)), f_Planner_measure_L1 n P_slots P_termsSeen x2_96 k Q_spreads_129 x3_130 = some o_128 → ∀ (H : Heap) (locs : List Loc), va_P D vwCl [(aP, .inr (2, [.ref aP_slots, .ref aP_termsSeen, .ref aP_matches, .ref aP_matchCount, .ref aP_variables, .ref aP_havingVariable, .ref aP_told, .ref aP_parent, .ref aP_allBefore, .int P_required, .int P_hinted, .int P_count])), (aQ, .inr (4, [.ref aQ_spreads, .ref aQ_sizes, .ref aQ_estimates, .ref aQ_costAhead])), (aP_told, .inl (cI, 8, .inl P_told)), (aP_matchCount, .inl (cI, 8, .inl P_matchCount)), (aQ_sizes, .inl (cI, 8, .inl Q_sizes_103)), (aP_slots, .inl (cI, 24, .inl P_slots)), (aP_termsSeen, .inl (cI, 24, .inl P_termsSeen)), (aQ_spreads, .inl (cI, 64, .inl Q_spreads_129))] H → va_D A [(aP, .inr (2, [.ref aP_slots, .ref aP_termsSeen, .ref aP_matches, .ref aP_matchCount, .ref aP_variables, .ref aP_havingVariable, .ref aP_told, .ref aP_parent, .ref aP_allBefore, .int P_required, .int P_hinted, .int P_count])), (aQ, .inr (4, [.ref aQ_spreads, .ref aQ_sizes, .ref aQ_estimates, .ref aQ_costAhead])), (aP_told, .inl (cI, 8, .inl P_told)), (aP_matchCount, .inl (cI, 8, .inl P_matchCount)), (aQ_sizes, .inl (cI, 8, .inl Q_sizes_103)), (aP_slots, .inl (cI, 24, .inl P_slots)), (aP_termsSeen, .inl (cI, 24, .inl P_termsSeen)), (aQ_spreads, .inl (cI, 64, .inl Q_spreads_129))] → va_S A s.heap H locs → ∀ ls : Array Slot, lv_has ls 5 [(0, .ref aQ), (1, .ref aP), (2, .int x2_96), (3, .int x3_130)] → (∀ (Q_spreads_131 : Nat → Int32), some (Q_spreads_131) = some o_128 → ∀ (H : Heap) (locs : List Loc), va_P D vwCl [(aP, .inr (2, [.ref aP_slots, .ref aP_termsSeen, .ref aP_matches, .ref aP_matchCount, .ref aP_variables, .ref aP_havingVariable, .ref aP_told, .ref aP_parent, .ref aP_allBefore, .int P_required, .int P_hinted, .int P_count])), (aQ, .inr (4, [.ref aQ_spreads, .ref aQ_sizes, .ref aQ_estimates, .ref aQ_costAhead])), (aP_told, .inl (cI, 8, .inl P_told)), (aP_matchCount, .inl (cI, 8, .inl P_matchCount)), (aQ_sizes, .inl (cI, 8, .inl Q_sizes_103)), (aP_slots, .inl (cI, 24, .inl P_slots)), (aP_termsSeen, .inl (cI, 24, .inl P_termsSeen)), (aQ_spreads, .inl (cI, 64, .inl Q_spreads_131))] H → va_D A [(aP, .inr (2, [.ref aP_slots, .ref aP_termsSeen, .ref aP_matches, .ref aP_matchCount, .ref aP_variables, .ref aP_havingVariable, .ref aP_told, .ref aP_parent, .ref aP_allBefore, .int P_required, .int P_hinted, .int P_count])), (aQ, .inr (4, [.ref aQ_spreads, .ref aQ_sizes, .ref aQ_estimates, .ref aQ_costAhead])), (aP_told, .inl (cI, 8, .inl P_told)), (aP_matchCount, .inl (cI, 8, .inl P_matchCount)), (aQ_sizes, .inl (cI, 8, .inl Q_sizes_103)), (aP_slots, .inl (cI, 24, .inl P_slots)), (aP_termsSeen, .inl (cI, 24, .inl P_termsSeen)), (aQ_spreads, .inl (cI, 64, .inl Q_spreads_131))] → va_S A s.heap H locs → ∀ ls : Array Slot, lv_has ls 5 [(0, .ref aQ), (1, .ref aP), (2, .int x2_96)] → W p l e rm_f_Planner_measure s m args below meth c H locs 0 0 Q (F0 m 68 ls [])) → W p l e rm_f_Planner_measure s m args below meth c H locs 0 0 Q (F0 m 23 ls []) := by
          intro k
          induction k with
          | zero =>
            intro Q_spreads_129 x3_130 o_128 hf
            exact absurd (((f_Planner_measure_L1_z n P_slots P_termsSeen x2_96 Q_spreads_129 x3_130).symm.trans hf)) (fun h => by cases h)
          | succ k ih =>
            intro Q_spreads_129 x3_130 o_128 hf H locs hP hD hS ls hl hX_128
            have hf := (f_Planner_measure_L1_s n P_slots P_termsSeen x2_96 k Q_spreads_129 x3_130).symm.trans hf
            refine lv_iload_n hx hb dX4_measure_23 rfl (lv_at hl 3 rfl) ?_
            refine lv_iconst (v := (3 : Int32)) hx hb dX4_measure_24 (by decide) ?_
            refine lv_icmp_ge (tgt := 68) hx hb dX4_measure_25 (by decide) (fun c_132 => ?_) (fun c_132 => ?_)
            · have hf := xb_t c_132 hf
              exact hX_128 Q_spreads_129 hf _ _ hP hD hS _ (lv_sub hl [0, 1, 2] rfl)
            · have hf := xb_f c_132 hf
              refine lv_aload_n hx hb dX4_measure_28 rfl (lv_at hl 1 rfl) ?_
              refine lv_iload_n hx hb dX4_measure_29 rfl (lv_at hl 2 rfl) ?_
              refine lv_iload_n hx hb dX4_measure_30 rfl (lv_at hl 3 rfl) ?_
              obtain ⟨r_134, hq_133, hf⟩ := bn1_c hf
              refine x_i (xrV (As := [.int x2_96, .int x3_130]) (b := aP) (rest := []) ⟨hx, hb, hml, hown, htg⟩ (c_f_Patterns_slot l D cI cJ cZ _ aP x2_96 x3_130 aP_slots aP_termsSeen aP_matches aP_matchCount aP_variables aP_havingVariable aP_told aP_parent aP_allBefore P_required P_hinted P_count P_slots hq_133) kc_f_Patterns_slot kw_362 kw_262 kw_263 kw_3 dd_f_Patterns_slot ⟨Nat.le_of_ble_eq_true rfl, Nat.le_of_ble_eq_true rfl⟩ rfl rfl (hP.sub [0, 5] rfl) (hD.sub [0, 5] (by decide) rfl) hK hN hP (q0 := 0) rfl rfl rfl hl.1 rfl (Nat.le_of_ble_eq_true rfl) dX4_measure_31 ⟨Nat.le_of_ble_eq_true rfl, Nat.le_of_ble_eq_true rfl⟩) hP hD hS hA [0, 5] [1, 2, 3, 4, 6, 7] rfl rfl (by decide) (by decide) (fun _ H locs hP hD hS => ?_)
              have hP : va_P D vwCl [(aQ, .inr (4, [.ref aQ_spreads, .ref aQ_sizes, .ref aQ_estimates, .ref aQ_costAhead])), (aP_told, .inl (cI, 8, .inl P_told)), (aP_matchCount, .inl (cI, 8, .inl P_matchCount)), (aQ_sizes, .inl (cI, 8, .inl Q_sizes_103)), (aP_termsSeen, .inl (cI, 24, .inl P_termsSeen)), (aQ_spreads, .inl (cI, 64, .inl Q_spreads_129)), (aP, .inr (2, [.ref aP_slots, .ref aP_termsSeen, .ref aP_matches, .ref aP_matchCount, .ref aP_variables, .ref aP_havingVariable, .ref aP_told, .ref aP_parent, .ref aP_allBefore, .int P_required, .int P_hinted, .int P_count])), (aP_slots, .inl (cI, 24, .inl P_slots))] H := hP
              have hD : va_D A [(aQ, .inr (4, [.ref aQ_spreads, .ref aQ_sizes, .ref aQ_estimates, .ref aQ_costAhead])), (aP_told, .inl (cI, 8, .inl P_told)), (aP_matchCount, .inl (cI, 8, .inl P_matchCount)), (aQ_sizes, .inl (cI, 8, .inl Q_sizes_103)), (aP_termsSeen, .inl (cI, 24, .inl P_termsSeen)), (aQ_spreads, .inl (cI, 64, .inl Q_spreads_129)), (aP, .inr (2, [.ref aP_slots, .ref aP_termsSeen, .ref aP_matches, .ref aP_matchCount, .ref aP_variables, .ref aP_havingVariable, .ref aP_told, .ref aP_parent, .ref aP_allBefore, .int P_required, .int P_hinted, .int P_count])), (aP_slots, .inl (cI, 24, .inl P_slots))] := hD
              refine lv_istore (lv' := [(4, .int r_134), (0, .ref aQ), (1, .ref aP), (2, .int x2_96), (3, .int x3_130)]) hx hb dX4_measure_34 hl (by decide) rfl (fun ls hl => ?_)
              refine lv_iload hx hb dX4_measure_36 (lv_at hl 0 rfl) ?_
              refine lv_if_ge (tgt := 62) hx hb dX4_measure_38 (by decide) (fun c_135 => ?_) (fun c_135 => ?_)
              · have hf := xb_t c_135 hf
                obtain ⟨x3_136, ex3_136⟩ : ∃ y : Int32, y = x3_130 + (1 : Int32) := ⟨_, rfl⟩
                have hf := nm_nm ex3_136 hf
                refine lv_iinc (v := x3_136) (lv' := [(3, .int x3_136), (4, .int r_134), (0, .ref aQ), (1, .ref aP), (2, .int x2_96)]) hx hb dX4_measure_62 hl (k := 4) rfl (by rw [ex3_136]; rfl) (by decide) rfl (fun ls hl => ?_)
                refine lv_goto (tgt := 23) hx hb dX4_measure_65 (by decide) ?_
                exact ih Q_spreads_129 x3_136 o_128 hf _ _ (hP.sub [6, 0, 1, 2, 3, 7, 4, 5] rfl) (hD.sub [6, 0, 1, 2, 3, 7, 4, 5] (by decide) rfl) hS _ (lv_sub hl [2, 3, 4, 0] rfl) hX_128
              · have hf := xb_f c_135 hf
                refine lv_aload_n hx hb dX4_measure_41 rfl (lv_at hl 1 rfl) ?_
                refine va_get (D := D) (ci := 4) (v := .ref aQ_spreads) (C := RX4) (T := TX4) (N := 4) hx hb htg giX4 hown hK hP 0 rfl rfl 0 (by decide) (htg _ kw_122) (fun _ h9 => h9) rfl dX4_measure_42 ?_
                refine lv_iload_n hx hb dX4_measure_45 rfl (lv_at hl 3 rfl) ?_
                refine lv_bipush (v := (8 : Int32)) hx hb dX4_measure_46 (by decide) ?_
                refine lv_imul hx hb dX4_measure_48 ?_
                refine lv_iload hx hb dX4_measure_49 (lv_at hl 0 rfl) ?_
                refine x_i (xrSN (As := [.int r_134]) (rest := [.int (x2_96 * (8 : Int32)), .ref aQ_spreads]) ⟨hx, hb, hml, hown, htg⟩ (c_f_JoinOrder_indexOf l D cI cJ cZ _ r_134 rfl) kc_f_JoinOrder_indexOf kn_363 kw_291 kw_1 dd_f_JoinOrder_indexOf ⟨Nat.le_of_ble_eq_true rfl, Nat.le_of_ble_eq_true rfl⟩ rfl rfl (hP.sub [] rfl) (hD.sub [] (by decide) rfl) hK hN rfl hl.1 rfl (Nat.le_of_ble_eq_true rfl) dX4_measure_51 ⟨Nat.le_of_ble_eq_true rfl, Nat.le_of_ble_eq_true rfl⟩) hP hD hS hA [] [0, 1, 2, 3, 4, 5, 6, 7] rfl rfl (by decide) (by decide) (fun _ H locs hP hD hS => ?_)
                have hP : va_P D vwCl [(aQ, .inr (4, [.ref aQ_spreads, .ref aQ_sizes, .ref aQ_estimates, .ref aQ_costAhead])), (aP_told, .inl (cI, 8, .inl P_told)), (aP_matchCount, .inl (cI, 8, .inl P_matchCount)), (aQ_sizes, .inl (cI, 8, .inl Q_sizes_103)), (aP_termsSeen, .inl (cI, 24, .inl P_termsSeen)), (aQ_spreads, .inl (cI, 64, .inl Q_spreads_129)), (aP, .inr (2, [.ref aP_slots, .ref aP_termsSeen, .ref aP_matches, .ref aP_matchCount, .ref aP_variables, .ref aP_havingVariable, .ref aP_told, .ref aP_parent, .ref aP_allBefore, .int P_required, .int P_hinted, .int P_count])), (aP_slots, .inl (cI, 24, .inl P_slots))] H := hP
                have hD : va_D A [(aQ, .inr (4, [.ref aQ_spreads, .ref aQ_sizes, .ref aQ_estimates, .ref aQ_costAhead])), (aP_told, .inl (cI, 8, .inl P_told)), (aP_matchCount, .inl (cI, 8, .inl P_matchCount)), (aQ_sizes, .inl (cI, 8, .inl Q_sizes_103)), (aP_termsSeen, .inl (cI, 24, .inl P_termsSeen)), (aQ_spreads, .inl (cI, 64, .inl Q_spreads_129)), (aP, .inr (2, [.ref aP_slots, .ref aP_termsSeen, .ref aP_matches, .ref aP_matchCount, .ref aP_variables, .ref aP_havingVariable, .ref aP_told, .ref aP_parent, .ref aP_allBefore, .int P_required, .int P_hinted, .int P_count])), (aP_slots, .inl (cI, 24, .inl P_slots))] := hD
                refine lv_iadd hx hb dX4_measure_54 ?_
                refine lv_aload_n hx hb dX4_measure_55 rfl (lv_at hl 2 rfl) ?_
                refine lv_iload_n hx hb dX4_measure_56 rfl (lv_at hl 3 rfl) ?_
                refine lv_iload_n hx hb dX4_measure_57 rfl (lv_at hl 4 rfl) ?_
                obtain ⟨r_139, hq_138, hf⟩ := bn1_c hf
                refine x_i (xrV (As := [.int x2_96, .int x3_130]) (b := aP) (rest := [.int ((x2_96 * (8 : Int32)) + (f_JoinOrder_indexOf r_134)), .ref aQ_spreads]) ⟨hx, hb, hml, hown, htg⟩ (c_f_Patterns_spreadAt l D cI cJ cZ _ aP x2_96 x3_130 aP_slots aP_termsSeen aP_matches aP_matchCount aP_variables aP_havingVariable aP_told aP_parent aP_allBefore P_required P_hinted P_count P_termsSeen hq_138) kc_f_Patterns_spreadAt kw_364 kw_365 kw_366 kw_3 dd_f_Patterns_spreadAt ⟨Nat.le_of_ble_eq_true rfl, Nat.le_of_ble_eq_true rfl⟩ rfl rfl (hP.sub [6, 4] rfl) (hD.sub [6, 4] (by decide) rfl) hK hN hP (q0 := 6) rfl rfl rfl hl.1 rfl (Nat.le_of_ble_eq_true rfl) dX4_measure_58 ⟨Nat.le_of_ble_eq_true rfl, Nat.le_of_ble_eq_true rfl⟩) hP hD hS hA [6, 4] [0, 1, 2, 3, 5, 7] rfl rfl (by decide) (by decide) (fun _ H locs hP hD hS => ?_)
                have hP : va_P D vwCl [(aQ, .inr (4, [.ref aQ_spreads, .ref aQ_sizes, .ref aQ_estimates, .ref aQ_costAhead])), (aP_told, .inl (cI, 8, .inl P_told)), (aP_matchCount, .inl (cI, 8, .inl P_matchCount)), (aQ_sizes, .inl (cI, 8, .inl Q_sizes_103)), (aQ_spreads, .inl (cI, 64, .inl Q_spreads_129)), (aP_slots, .inl (cI, 24, .inl P_slots)), (aP, .inr (2, [.ref aP_slots, .ref aP_termsSeen, .ref aP_matches, .ref aP_matchCount, .ref aP_variables, .ref aP_havingVariable, .ref aP_told, .ref aP_parent, .ref aP_allBefore, .int P_required, .int P_hinted, .int P_count])), (aP_termsSeen, .inl (cI, 24, .inl P_termsSeen))] H := hP
                have hD : va_D A [(aQ, .inr (4, [.ref aQ_spreads, .ref aQ_sizes, .ref aQ_estimates, .ref aQ_costAhead])), (aP_told, .inl (cI, 8, .inl P_told)), (aP_matchCount, .inl (cI, 8, .inl P_matchCount)), (aQ_sizes, .inl (cI, 8, .inl Q_sizes_103)), (aQ_spreads, .inl (cI, 64, .inl Q_spreads_129)), (aP_slots, .inl (cI, 24, .inl P_slots)), (aP, .inr (2, [.ref aP_slots, .ref aP_termsSeen, .ref aP_matches, .ref aP_matchCount, .ref aP_variables, .ref aP_havingVariable, .ref aP_told, .ref aP_parent, .ref aP_allBefore, .int P_required, .int P_hinted, .int P_count])), (aP_termsSeen, .inl (cI, 24, .inl P_termsSeen))] := hD
                have g_140 : vp_in ((x2_96 * (8 : Int32)) + (f_JoinOrder_indexOf r_134)) 64 := gd_in hf
                have hf := gd_el hf
                refine x_iast hx hb hK hP hD hS 4 0 rfl rfl g_140 dX4_measure_61 (fun Q_spreads_141 eQ_spreads_141 H locs hP hD hS => ?_)
                have hf := nm_nm eQ_spreads_141 hf
                have hP : va_P D vwCl [(aQ, .inr (4, [.ref aQ_spreads, .ref aQ_sizes, .ref aQ_estimates, .ref aQ_costAhead])), (aP_told, .inl (cI, 8, .inl P_told)), (aP_matchCount, .inl (cI, 8, .inl P_matchCount)), (aQ_sizes, .inl (cI, 8, .inl Q_sizes_103)), (aQ_spreads, .inl (cI, 64, .inl Q_spreads_141)), (aP_slots, .inl (cI, 24, .inl P_slots)), (aP, .inr (2, [.ref aP_slots, .ref aP_termsSeen, .ref aP_matches, .ref aP_matchCount, .ref aP_variables, .ref aP_havingVariable, .ref aP_told, .ref aP_parent, .ref aP_allBefore, .int P_required, .int P_hinted, .int P_count])), (aP_termsSeen, .inl (cI, 24, .inl P_termsSeen))] H := hP
                have hD : va_D A [(aQ, .inr (4, [.ref aQ_spreads, .ref aQ_sizes, .ref aQ_estimates, .ref aQ_costAhead])), (aP_told, .inl (cI, 8, .inl P_told)), (aP_matchCount, .inl (cI, 8, .inl P_matchCount)), (aQ_sizes, .inl (cI, 8, .inl Q_sizes_103)), (aQ_spreads, .inl (cI, 64, .inl Q_spreads_141)), (aP_slots, .inl (cI, 24, .inl P_slots)), (aP, .inr (2, [.ref aP_slots, .ref aP_termsSeen, .ref aP_matches, .ref aP_matchCount, .ref aP_variables, .ref aP_havingVariable, .ref aP_told, .ref aP_parent, .ref aP_allBefore, .int P_required, .int P_hinted, .int P_count])), (aP_termsSeen, .inl (cI, 24, .inl P_termsSeen))] := hD
                obtain ⟨x3_142, ex3_142⟩ : ∃ y : Int32, y = x3_130 + (1 : Int32) := ⟨_, rfl⟩
                have hf := nm_nm ex3_142 hf
                refine lv_iinc (v := x3_142) (lv' := [(3, .int x3_142), (4, .int r_134), (0, .ref aQ), (1, .ref aP), (2, .int x2_96)]) hx hb dX4_measure_62 hl (k := 4) rfl (by rw [ex3_142]; rfl) (by decide) rfl (fun ls hl => ?_)
                refine lv_goto (tgt := 23) hx hb dX4_measure_65 (by decide) ?_
                exact ih Q_spreads_141 x3_142 o_128 hf _ _ (hP.sub [6, 0, 1, 2, 3, 5, 7, 4] rfl) (hD.sub [6, 0, 1, 2, 3, 5, 7, 4] (by decide) rfl) hS _ (lv_sub hl [2, 3, 4, 0] rfl) hX_128
        obtain ⟨o_128, ho_128, hk_128⟩ := bn1_s hf
        refine L_23_128 n Q_spreads_95 (0 : Int32) o_128 ho_128 _ _ (hP.sub [5, 0, 6, 7, 1, 2, 3, 4] rfl) (hD.sub [5, 0, 6, 7, 1, 2, 3, 4] (by decide) rfl) hS _ (lv_sub hl [1, 2, 3, 0] rfl) (fun Q_spreads_131 hf H locs hP hD hS ls hl => ?_)
        have hf := hk_128 _ hf
        obtain ⟨x2_143, ex2_143⟩ : ∃ y : Int32, y = x2_96 + (1 : Int32) := ⟨_, rfl⟩
        have hf := nm_nm ex2_143 hf
        refine lv_iinc (v := x2_143) (lv' := [(2, .int x2_143), (0, .ref aQ), (1, .ref aP)]) hx hb dX4_measure_68 hl (k := 2) rfl (by rw [ex2_143]; rfl) (by decide) rfl (fun ls hl => ?_)
        refine lv_goto (tgt := 2) hx hb dX4_measure_71 (by decide) ?_
        exact ih Q_sizes_103 Q_spreads_131 x2_143 o_93 hf _ _ hP hD hS _ (lv_sub hl [1, 2, 0] rfl) hX_93
  obtain ⟨o_93, ho_93, hk_93⟩ := bn2_s hf
  refine L_2_93 n Q_sizes Q_spreads (0 : Int32) o_93 ho_93 _ _ hP hD hS _ (lv_sub hl [1, 2, 0] rfl) (fun Q_sizes_97 Q_spreads_98 hf H locs hP hD hS ls hl => ?_)
  have hf := hk_93 _ _ hf
  have hf := Option.some.inj hf
  cases hf
  exact x_vret (fun _ => 0) hQ hx hb hr hlk hK hP hD hS dX4_measure_74
abbrev rm_f_Planner_dividedUp : Room := { frames := 0, cells := 0, slots := 0, locals := 0 }
set_option maxHeartbeats 4000000 in
set_option maxRecDepth 100000 in
theorem c_f_Planner_dividedUp (l : Launch) (D : va_G) (cI cJ cZ : ClassId) (sz : Nat) (x0 : Int64) (x2 : Int32) {r : Int64} (hf : f_Planner_dividedUp x0 x2 = some r) : Met l yX4_dividedUp (.code yX4_dividedUp cX4_dividedUp 3 (some .long) :: GW) rm_f_Planner_dividedUp (va_Pc [.long x0, .int x2] (xP D (xT cI cJ cZ) sz [])) (va_Ql (fun r2 (_ : Nat → Nat) => r2 = r) (bB D (xT cI cJ cZ) (fun _ => []) (va_A [] sz)) (va_A [] sz)) 0 0 (va_A [] sz) := by
  refine con_start (Qc := fun A => va_Ql (fun r2 (_ : Nat → Nat) => r2 = r) (bB D (xT cI cJ cZ) (fun _ => []) A) A) (by decide) (Nat.le_of_ble_eq_true rfl) ?_
  intro p e s m args below meth c Q A hx hb hr hlk hml hown hin htg hN hK hQ hA hP hD hS ls hl
  have hl : lv_has ls 3 [(0, .long x0), (2, .int x2)] := hl
  have hown : s.vm.findClass RX4 = some m.cls := hown
  have hf := (f_Planner_dividedUp_u x0 x2).symm.trans hf
  refine lv_iload_n hx hb dX4_dividedUp_0 rfl (lv_at hl 1 rfl) ?_
  refine lv_iconst (v := (1 : Int32)) hx hb dX4_dividedUp_1 (by decide) ?_
  refine lv_icmp_le (tgt := 17) hx hb dX4_dividedUp_2 (by decide) (fun c_1 => ?_) (fun c_1 => ?_)
  · have hf := xb_t c_1 hf
    refine lv_lload_n hx hb dX4_dividedUp_17 rfl (lv_at hl 0 rfl) ?_
    have hf := Option.some.inj hf
    cases hf
    exact x_lret (fun _ => 0) hQ hx hb hr hlk hK hP hD hS dX4_dividedUp_18
  · have hf := xb_f c_1 hf
    refine lv_lload_n hx hb dX4_dividedUp_5 rfl (lv_at hl 0 rfl) ?_
    refine lv_iload_n hx hb dX4_dividedUp_6 rfl (lv_at hl 1 rfl) ?_
    refine lv_i2l hx hb dX4_dividedUp_7 rfl ?_
    refine lv_ladd hx hb dX4_dividedUp_8 ?_
    refine lv_lconst (v := (1 : Int64)) hx hb dX4_dividedUp_9 (by decide) ?_
    refine lv_lsub hx hb dX4_dividedUp_10 ?_
    refine lv_iload_n hx hb dX4_dividedUp_11 rfl (lv_at hl 1 rfl) ?_
    refine lv_i2l hx hb dX4_dividedUp_12 rfl ?_
    have g_2 : ¬ x2.toInt64 = 0 := gz_in hf
    have hf := gz_el hf
    refine lv_ldiv hx hb dX4_dividedUp_13 g_2 ?_
    refine lv_goto (tgt := 18) hx hb dX4_dividedUp_14 (by decide) ?_
    have hf := Option.some.inj hf
    cases hf
    exact x_lret (fun _ => 0) hQ hx hb hr hlk hK hP hD hS dX4_dividedUp_18
abbrev rm_f_Math_min : Room := { frames := 0, cells := 0, slots := 0, locals := 0 }
set_option maxHeartbeats 4000000 in
set_option maxRecDepth 100000 in
theorem c_f_Math_min (l : Launch) (D : va_G) (cI cJ cZ : ClassId) (sz : Nat) (x0 : Int32) (x1 : Int32) {r : Int32} (hf : f_Math_min x0 x1 = r) : Met l yJM_min (.code yJM_min cJM_min 2 (some .int) :: GW) rm_f_Math_min (va_Pc [.int x0, .int x1] (xP D (xT cI cJ cZ) sz [])) (va_Qi (fun r2 (_ : Nat → Nat) => r2 = r) (bB D (xT cI cJ cZ) (fun _ => []) (va_A [] sz)) (va_A [] sz)) 0 0 (va_A [] sz) := by
  refine con_start (Qc := fun A => va_Qi (fun r2 (_ : Nat → Nat) => r2 = r) (bB D (xT cI cJ cZ) (fun _ => []) A) A) (by decide) (Nat.le_of_ble_eq_true rfl) ?_
  intro p e s m args below meth c Q A hx hb hr hlk hml hown hin htg hN hK hQ hA hP hD hS ls hl
  have hl : lv_has ls 2 [(0, .int x0), (1, .int x1)] := hl
  have hown : s.vm.findClass RJM = some m.cls := hown
  have hf := (f_Math_min_u x0 x1).symm.trans hf
  refine lv_iload_n hx hb dJM_min_0 rfl (lv_at hl 0 rfl) ?_
  refine lv_iload_n hx hb dJM_min_1 rfl (lv_at hl 1 rfl) ?_
  refine lv_icmp_gt (tgt := 9) hx hb dJM_min_2 (by decide) (fun c_1 => ?_) (fun c_1 => ?_)
  · have hf := xb_t c_1 hf
    refine lv_iload_n hx hb dJM_min_9 rfl (lv_at hl 1 rfl) ?_
    have hf := hf
    cases hf
    exact x_iret (fun _ => 0) hQ hx hb hr hlk hK hP hD hS dJM_min_10
  · have hf := xb_f c_1 hf
    refine lv_iload_n hx hb dJM_min_5 rfl (lv_at hl 0 rfl) ?_
    refine lv_goto (tgt := 10) hx hb dJM_min_6 (by decide) ?_
    have hf := hf
    cases hf
    exact x_iret (fun _ => 0) hQ hx hb hr hlk hK hP hD hS dJM_min_10
abbrev rm_f_Planner_dividedBySpreads : Room := { frames := 1, cells := 0, slots := 0, locals := 22 }
set_option maxHeartbeats 4000000 in
set_option maxRecDepth 100000 in
theorem c_f_Planner_dividedBySpreads (l : Launch) (D : va_G) (cI cJ cZ : ClassId) (sz : Nat) (n : Nat) (aQ : Nat) (x1 : Int64) (x3 : Int32) (x4 : Int32) (aQ_spreads : Nat) (aQ_sizes : Nat) (aQ_estimates : Nat) (aQ_costAhead : Nat) (Q_spreads : Nat → Int32) {r : Int64} (hf : f_Planner_dividedBySpreads n x1 x3 x4 Q_spreads = some r) : Met l yX4_dividedBySpreads (.code yX4_dividedBySpreads cX4_dividedBySpreads 10 (some .long) :: GW) rm_f_Planner_dividedBySpreads (va_Pc [.ref aQ, .long x1, .int x3, .int x4] (xP D (xT cI cJ cZ) sz [(aQ, .inr (4, [.ref aQ_spreads, .ref aQ_sizes, .ref aQ_estimates, .ref aQ_costAhead])), (aQ_spreads, .inl (cI, 64, .inl Q_spreads))])) (va_Ql (fun r2 (_ : Nat → Nat) => r2 = r) (bB D (xT cI cJ cZ) (fun _ => [(aQ, .inr (4, [.ref aQ_spreads, .ref aQ_sizes, .ref aQ_estimates, .ref aQ_costAhead])), (aQ_spreads, .inl (cI, 64, .inl Q_spreads))]) (va_A [(aQ, .inr (4, [.ref aQ_spreads, .ref aQ_sizes, .ref aQ_estimates, .ref aQ_costAhead])), (aQ_spreads, .inl (cI, 64, .inl Q_spreads))] sz)) (va_A [(aQ, .inr (4, [.ref aQ_spreads, .ref aQ_sizes, .ref aQ_estimates, .ref aQ_costAhead])), (aQ_spreads, .inl (cI, 64, .inl Q_spreads))] sz)) 0 0 (va_A [(aQ, .inr (4, [.ref aQ_spreads, .ref aQ_sizes, .ref aQ_estimates, .ref aQ_costAhead])), (aQ_spreads, .inl (cI, 64, .inl Q_spreads))] sz) := by
  refine con_start (Qc := fun A => va_Ql (fun r2 (_ : Nat → Nat) => r2 = r) (bB D (xT cI cJ cZ) (fun _ => [(aQ, .inr (4, [.ref aQ_spreads, .ref aQ_sizes, .ref aQ_estimates, .ref aQ_costAhead])), (aQ_spreads, .inl (cI, 64, .inl Q_spreads))]) A) A) (by decide) (Nat.le_of_ble_eq_true rfl) ?_
  intro p e s m args below meth c Q A hx hb hr hlk hml hown hin htg hN hK hQ hA hP hD hS ls hl
  have hl : lv_has ls 10 [(0, .ref aQ), (1, .long x1), (3, .int x3), (4, .int x4)] := hl
  have hown : s.vm.findClass RX4 = some m.cls := hown
  have hf := (f_Planner_dividedBySpreads_u n x1 x3 x4 Q_spreads).symm.trans hf
  refine lv_lload_n hx hb dX4_dividedBySpreads_0 rfl (lv_at hl 1 rfl) ?_
  refine lv_lstore (lv' := [(5, .long x1), (0, .ref aQ), (1, .long x1), (3, .int x3), (4, .int x4)]) hx hb dX4_dividedBySpreads_1 hl (by decide) rfl (fun ls hl => ?_)
  refine lv_iconst (v := (0 : Int32)) hx hb dX4_dividedBySpreads_3 (by decide) ?_
  refine lv_istore (lv' := [(7, .int (0 : Int32)), (5, .long x1), (0, .ref aQ), (1, .long x1), (3, .int x3), (4, .int x4)]) hx hb dX4_dividedBySpreads_4 hl (by decide) rfl (fun ls hl => ?_)
  refine lv_iconst (v := (0 : Int32)) hx hb dX4_dividedBySpreads_6 (by decide) ?_
  refine lv_istore (lv' := [(8, .int (0 : Int32)), (7, .int (0 : Int32)), (5, .long x1), (0, .ref aQ), (1, .long x1), (3, .int x3), (4, .int x4)]) hx hb dX4_dividedBySpreads_7 hl (by decide) rfl (fun ls hl => ?_)
  have L_9_34 : ∀ (k : Nat) (x5_35 : Int64) (x7_36 : Int32) (x8_37 : Int32) (o_34 : Int64), f_Planner_dividedBySpreads_L0 n x3 x4 Q_spreads k x5_35 x7_36 x8_37 = some o_34 → ∀ (H : Heap) (locs : List Loc), va_P D vwCl [(aQ, .inr (4, [.ref aQ_spreads, .ref aQ_sizes, .ref aQ_estimates, .ref aQ_costAhead])), (aQ_spreads, .inl (cI, 64, .inl Q_spreads))] H → va_D A [(aQ, .inr (4, [.ref aQ_spreads, .ref aQ_sizes, .ref aQ_estimates, .ref aQ_costAhead])), (aQ_spreads, .inl (cI, 64, .inl Q_spreads))] → va_S A s.heap H locs → ∀ ls : Array Slot, lv_has ls 10 [(0, .ref aQ), (3, .int x3), (4, .int x4), (5, .long x5_35), (7, .int x7_36), (8, .int x8_37)] → (∀ (x5_38 : Int64), some (x5_38) = some o_34 → ∀ (H : Heap) (locs : List Loc), va_P D vwCl [(aQ, .inr (4, [.ref aQ_spreads, .ref aQ_sizes, .ref aQ_estimates, .ref aQ_costAhead])), (aQ_spreads, .inl (cI, 64, .inl Q_spreads))] H → va_D A [(aQ, .inr (4, [.ref aQ_spreads, .ref aQ_sizes, .ref aQ_estimates, .ref aQ_costAhead])), (aQ_spreads, .inl (cI, 64, .inl Q_spreads))] → va_S A s.heap H locs → ∀ ls : Array Slot, lv_has ls 10 [(5, .long x5_38)] → W p l e rm_f_Planner_dividedBySpreads s m args below meth c H locs 0 0 Q (F0 m 89 ls [])) → W p l e rm_f_Planner_dividedBySpreads s m args below meth c H locs 0 0 Q (F0 m 9 ls []) := by
    intro k
    induction k with
    | zero =>
      intro x5_35 x7_36 x8_37 o_34 hf
      exact absurd (((f_Planner_dividedBySpreads_L0_z n x3 x4 Q_spreads x5_35 x7_36 x8_37).symm.trans hf)) (fun h => by cases h)
    | succ k ih =>
      intro x5_35 x7_36 x8_37 o_34 hf H locs hP hD hS ls hl hX_34
      have hf := (f_Planner_dividedBySpreads_L0_s n x3 x4 Q_spreads k x5_35 x7_36 x8_37).symm.trans hf
      refine lv_iload hx hb dX4_dividedBySpreads_9 (lv_at hl 5 rfl) ?_
      refine lv_bipush (v := (8 : Int32)) hx hb dX4_dividedBySpreads_11 (by decide) ?_
      refine lv_icmp_ge (tgt := 89) hx hb dX4_dividedBySpreads_13 (by decide) (fun c_39 => ?_) (fun c_39 => ?_)
      · have hf := xb_t c_39 hf
        exact hX_34 x5_35 hf _ _ hP hD hS _ (lv_sub hl [3] rfl)
      · have hf := xb_f c_39 hf
        refine lv_iload hx hb dX4_dividedBySpreads_16 (lv_at hl 2 rfl) ?_
        refine lv_iload hx hb dX4_dividedBySpreads_18 (lv_at hl 5 rfl) ?_
        refine lv_ishr hx hb dX4_dividedBySpreads_20 ?_
        refine lv_if_eq (tgt := 89) hx hb dX4_dividedBySpreads_21 (by decide) (fun c_40 => ?_) (fun c_40 => ?_)
        · have hf := xb_t c_40 hf
          exact hX_34 x5_35 hf _ _ hP hD hS _ (lv_sub hl [3] rfl)
        · have hf := xb_f c_40 hf
          refine lv_iload hx hb dX4_dividedBySpreads_24 (lv_at hl 2 rfl) ?_
          refine lv_iload hx hb dX4_dividedBySpreads_26 (lv_at hl 5 rfl) ?_
          refine x_z (xrSN (As := [.int x4, .int x8_37]) (rest := []) ⟨hx, hb, hml, hown, htg⟩ (c_f_JoinOrder_inSet l D cI cJ cZ _ x4 x8_37 rfl) kc_f_JoinOrder_inSet kn_385 kw_306 kw_1 dd_f_JoinOrder_inSet ⟨Nat.le_of_ble_eq_true rfl, Nat.le_of_ble_eq_true rfl⟩ rfl rfl (hP.sub [] rfl) (hD.sub [] (by decide) rfl) hK hN rfl hl.1 rfl (Nat.le_of_ble_eq_true rfl) dX4_dividedBySpreads_28 ⟨Nat.le_of_ble_eq_true rfl, Nat.le_of_ble_eq_true rfl⟩) hP hD hS hA [] [0, 1] rfl rfl (by decide) (by decide) (fun _ H locs bz_41 hP hD hS => ?_)
          have hP : va_P D vwCl [(aQ, .inr (4, [.ref aQ_spreads, .ref aQ_sizes, .ref aQ_estimates, .ref aQ_costAhead])), (aQ_spreads, .inl (cI, 64, .inl Q_spreads))] H := hP
          have hD : va_D A [(aQ, .inr (4, [.ref aQ_spreads, .ref aQ_sizes, .ref aQ_estimates, .ref aQ_costAhead])), (aQ_spreads, .inl (cI, 64, .inl Q_spreads))] := hD
          refine lv_if_eq (tgt := 83) hx hb dX4_dividedBySpreads_31 (by decide) (fun c_42 => ?_) (fun c_42 => ?_)
          · have hf := xb_t c_42 hf
            obtain ⟨x8_43, ex8_43⟩ : ∃ y : Int32, y = x8_37 + (1 : Int32) := ⟨_, rfl⟩
            have hf := nm_nm ex8_43 hf
            refine lv_iinc (v := x8_43) (lv' := [(8, .int x8_43), (0, .ref aQ), (3, .int x3), (4, .int x4), (5, .long x5_35), (7, .int x7_36)]) hx hb dX4_dividedBySpreads_83 hl (k := 5) rfl (by rw [ex8_43]; rfl) (by decide) rfl (fun ls hl => ?_)
            refine lv_goto (tgt := 9) hx hb dX4_dividedBySpreads_86 (by decide) ?_
            exact ih x5_35 x7_36 x8_43 o_34 hf _ _ hP hD hS _ (lv_sub hl [1, 2, 3, 4, 5, 0] rfl) hX_34
          · have hf := xb_f c_42 hf
            refine lv_aload_n hx hb dX4_dividedBySpreads_34 rfl (lv_at hl 0 rfl) ?_
            refine va_get (D := D) (ci := 4) (v := .ref aQ_spreads) (C := RX4) (T := TX4) (N := 4) hx hb htg giX4 hown hK hP 0 rfl rfl 0 (by decide) (htg _ kw_122) (fun _ h9 => h9) rfl dX4_dividedBySpreads_35 ?_
            refine lv_iload hx hb dX4_dividedBySpreads_38 (lv_at hl 5 rfl) ?_
            refine lv_bipush (v := (8 : Int32)) hx hb dX4_dividedBySpreads_40 (by decide) ?_
            refine lv_imul hx hb dX4_dividedBySpreads_42 ?_
            refine lv_iload_n hx hb dX4_dividedBySpreads_43 rfl (lv_at hl 1 rfl) ?_
            refine lv_iadd hx hb dX4_dividedBySpreads_44 ?_
            have g_44 : vp_in ((x8_37 * (8 : Int32)) + x3) 64 := gd_in hf
            have hf := gd_el hf
            refine va_iald hx hb hK hP 1 0 rfl rfl g_44 dX4_dividedBySpreads_45 ?_
            refine lv_topi (fun x9_45 ex9_45 => ?_)
            have hf := nm_nm ex9_45 hf
            refine lv_istore (lv' := [(9, .int x9_45), (0, .ref aQ), (3, .int x3), (4, .int x4), (5, .long x5_35), (7, .int x7_36), (8, .int x8_37)]) hx hb dX4_dividedBySpreads_46 hl (by decide) rfl (fun ls hl => ?_)
            refine lv_iload hx hb dX4_dividedBySpreads_48 (lv_at hl 5 rfl) ?_
            refine lv_if_ne (tgt := 60) hx hb dX4_dividedBySpreads_50 (by decide) (fun c_46 => ?_) (fun c_46 => ?_)
            · have hf := xb_f c_46 hf
              refine lv_lload hx hb dX4_dividedBySpreads_60 (lv_at hl 4 rfl) ?_
              refine lv_iload hx hb dX4_dividedBySpreads_62 (lv_at hl 5 rfl) ?_
              refine lv_iload hx hb dX4_dividedBySpreads_64 (lv_at hl 0 rfl) ?_
              refine x_i (xrS (As := [.int x7_36, .int x9_45]) (rest := [.long x5_35]) ⟨hx, hb, hml, hown, htg⟩ (c_f_Math_max l D cI cJ cZ _ x7_36 x9_45 rfl) kc_f_Math_max kw_390 kw_375 kw_10 dd_f_Math_max ⟨Nat.le_of_ble_eq_true rfl, Nat.le_of_ble_eq_true rfl⟩ rfl rfl (hP.sub [] rfl) (hD.sub [] (by decide) rfl) hK hN rfl hl.1 rfl (Nat.le_of_ble_eq_true rfl) dX4_dividedBySpreads_66 ⟨Nat.le_of_ble_eq_true rfl, Nat.le_of_ble_eq_true rfl⟩) hP hD hS hA [] [0, 1] rfl rfl (by decide) (by decide) (fun _ H locs hP hD hS => ?_)
              have hP : va_P D vwCl [(aQ, .inr (4, [.ref aQ_spreads, .ref aQ_sizes, .ref aQ_estimates, .ref aQ_costAhead])), (aQ_spreads, .inl (cI, 64, .inl Q_spreads))] H := hP
              have hD : va_D A [(aQ, .inr (4, [.ref aQ_spreads, .ref aQ_sizes, .ref aQ_estimates, .ref aQ_costAhead])), (aQ_spreads, .inl (cI, 64, .inl Q_spreads))] := hD
              obtain ⟨r_49, hq_48, hf⟩ := bn1_c hf
              refine x_l (xrS (As := [.long x5_35, .int (f_Math_max x7_36 x9_45)]) (rest := []) ⟨hx, hb, hml, hown, htg⟩ (c_f_Planner_dividedUp l D cI cJ cZ _ x5_35 (f_Math_max x7_36 x9_45) hq_48) kc_f_Planner_dividedUp kw_391 kw_392 kw_5 dd_f_Planner_dividedUp ⟨Nat.le_of_ble_eq_true rfl, Nat.le_of_ble_eq_true rfl⟩ rfl rfl (hP.sub [] rfl) (hD.sub [] (by decide) rfl) hK hN rfl hl.1 rfl (Nat.le_of_ble_eq_true rfl) dX4_dividedBySpreads_69 ⟨Nat.le_of_ble_eq_true rfl, Nat.le_of_ble_eq_true rfl⟩) hP hD hS hA [] [0, 1] rfl rfl (by decide) (by decide) (fun _ H locs hP hD hS => ?_)
              have hP : va_P D vwCl [(aQ, .inr (4, [.ref aQ_spreads, .ref aQ_sizes, .ref aQ_estimates, .ref aQ_costAhead])), (aQ_spreads, .inl (cI, 64, .inl Q_spreads))] H := hP
              have hD : va_D A [(aQ, .inr (4, [.ref aQ_spreads, .ref aQ_sizes, .ref aQ_estimates, .ref aQ_costAhead])), (aQ_spreads, .inl (cI, 64, .inl Q_spreads))] := hD
              refine lv_lstore (lv' := [(5, .long r_49), (9, .int x9_45), (0, .ref aQ), (3, .int x3), (4, .int x4), (7, .int x7_36), (8, .int x8_37)]) hx hb dX4_dividedBySpreads_72 hl (by decide) rfl (fun ls hl => ?_)
              refine lv_iload hx hb dX4_dividedBySpreads_74 (lv_at hl 5 rfl) ?_
              refine lv_iload hx hb dX4_dividedBySpreads_76 (lv_at hl 1 rfl) ?_
              refine x_i (xrS (As := [.int x7_36, .int x9_45]) (rest := []) ⟨hx, hb, hml, hown, htg⟩ (c_f_Math_min l D cI cJ cZ _ x7_36 x9_45 rfl) kc_f_Math_min kw_394 kw_395 kw_10 dd_f_Math_min ⟨Nat.le_of_ble_eq_true rfl, Nat.le_of_ble_eq_true rfl⟩ rfl rfl (hP.sub [] rfl) (hD.sub [] (by decide) rfl) hK hN rfl hl.1 rfl (Nat.le_of_ble_eq_true rfl) dX4_dividedBySpreads_78 ⟨Nat.le_of_ble_eq_true rfl, Nat.le_of_ble_eq_true rfl⟩) hP hD hS hA [] [0, 1] rfl rfl (by decide) (by decide) (fun _ H locs hP hD hS => ?_)
              have hP : va_P D vwCl [(aQ, .inr (4, [.ref aQ_spreads, .ref aQ_sizes, .ref aQ_estimates, .ref aQ_costAhead])), (aQ_spreads, .inl (cI, 64, .inl Q_spreads))] H := hP
              have hD : va_D A [(aQ, .inr (4, [.ref aQ_spreads, .ref aQ_sizes, .ref aQ_estimates, .ref aQ_costAhead])), (aQ_spreads, .inl (cI, 64, .inl Q_spreads))] := hD
              refine lv_topi (fun x7_51 ex7_51 => ?_)
              have hf := nm_nm ex7_51 hf
              refine lv_istore (lv' := [(7, .int x7_51), (5, .long r_49), (9, .int x9_45), (0, .ref aQ), (3, .int x3), (4, .int x4), (8, .int x8_37)]) hx hb dX4_dividedBySpreads_81 hl (by decide) rfl (fun ls hl => ?_)
              obtain ⟨x8_52, ex8_52⟩ : ∃ y : Int32, y = x8_37 + (1 : Int32) := ⟨_, rfl⟩
              have hf := nm_nm ex8_52 hf
              refine lv_iinc (v := x8_52) (lv' := [(8, .int x8_52), (7, .int x7_51), (5, .long r_49), (9, .int x9_45), (0, .ref aQ), (3, .int x3), (4, .int x4)]) hx hb dX4_dividedBySpreads_83 hl (k := 6) rfl (by rw [ex8_52]; rfl) (by decide) rfl (fun ls hl => ?_)
              refine lv_goto (tgt := 9) hx hb dX4_dividedBySpreads_86 (by decide) ?_
              exact ih r_49 x7_51 x8_52 o_34 hf _ _ hP hD hS _ (lv_sub hl [4, 5, 6, 2, 1, 0] rfl) hX_34
            · have hf := xb_t c_46 hf
              refine lv_iload hx hb dX4_dividedBySpreads_53 (lv_at hl 0 rfl) ?_
              refine lv_istore (lv' := [(7, .int x9_45), (9, .int x9_45), (0, .ref aQ), (3, .int x3), (4, .int x4), (5, .long x5_35), (8, .int x8_37)]) hx hb dX4_dividedBySpreads_55 hl (by decide) rfl (fun ls hl => ?_)
              refine lv_goto (tgt := 83) hx hb dX4_dividedBySpreads_57 (by decide) ?_
              obtain ⟨x8_53, ex8_53⟩ : ∃ y : Int32, y = x8_37 + (1 : Int32) := ⟨_, rfl⟩
              have hf := nm_nm ex8_53 hf
              refine lv_iinc (v := x8_53) (lv' := [(8, .int x8_53), (7, .int x9_45), (9, .int x9_45), (0, .ref aQ), (3, .int x3), (4, .int x4), (5, .long x5_35)]) hx hb dX4_dividedBySpreads_83 hl (k := 6) rfl (by rw [ex8_53]; rfl) (by decide) rfl (fun ls hl => ?_)
              refine lv_goto (tgt := 9) hx hb dX4_dividedBySpreads_86 (by decide) ?_
              exact ih x5_35 x9_45 x8_53 o_34 hf _ _ hP hD hS _ (lv_sub hl [3, 4, 5, 6, 1, 0] rfl) hX_34
  obtain ⟨o_34, ho_34, hk_34⟩ := bn1_s hf
  refine L_9_34 n x1 (0 : Int32) (0 : Int32) o_34 ho_34 _ _ hP hD hS _ (lv_sub hl [3, 5, 6, 2, 1, 0] rfl) (fun x5_38 hf H locs hP hD hS ls hl => ?_)
  have hf := hk_34 _ hf
  refine lv_lload hx hb dX4_dividedBySpreads_89 (lv_at hl 0 rfl) ?_
  have hf := Option.some.inj hf
  cases hf
  exact x_lret (fun _ => 0) hQ hx hb hr hlk hK hP hD hS dX4_dividedBySpreads_91
abbrev rm_f_Planner_estimateOf : Room := { frames := 2, cells := 0, slots := 0, locals := 51 }
set_option maxHeartbeats 4000000 in
set_option maxRecDepth 100000 in
theorem c_f_Planner_estimateOf (l : Launch) (D : va_G) (cI cJ cZ : ClassId) (sz : Nat) (n : Nat) (aQ : Nat) (x1 : Int32) (aP : Nat) (aQ_spreads : Nat) (aQ_sizes : Nat) (aQ_estimates : Nat) (aQ_costAhead : Nat) (Q_sizes : Nat → Int32) (aP_slots : Nat) (aP_termsSeen : Nat) (aP_matches : Nat) (aP_matchCount : Nat) (aP_variables : Nat) (aP_havingVariable : Nat) (aP_told : Nat) (aP_parent : Nat) (aP_allBefore : Nat) (P_required : Int32) (P_hinted : Int32) (P_count : Int32) (P_havingVariable : Nat → Int32) (Q_spreads : Nat → Int32) {r : Int64} (hf : f_Planner_estimateOf n x1 Q_sizes P_havingVariable Q_spreads = some r) : Met l yX4_estimateOf (.code yX4_estimateOf cX4_estimateOf 6 (some .long) :: GW) rm_f_Planner_estimateOf (va_Pc [.ref aQ, .int x1, .ref aP] (xP D (xT cI cJ cZ) sz [(aQ, .inr (4, [.ref aQ_spreads, .ref aQ_sizes, .ref aQ_estimates, .ref aQ_costAhead])), (aQ_sizes, .inl (cI, 8, .inl Q_sizes)), (aP, .inr (2, [.ref aP_slots, .ref aP_termsSeen, .ref aP_matches, .ref aP_matchCount, .ref aP_variables, .ref aP_havingVariable, .ref aP_told, .ref aP_parent, .ref aP_allBefore, .int P_required, .int P_hinted, .int P_count])), (aP_havingVariable, .inl (cI, 8, .inl P_havingVariable)), (aQ_spreads, .inl (cI, 64, .inl Q_spreads))])) (va_Ql (fun r2 (_ : Nat → Nat) => r2 = r) (bB D (xT cI cJ cZ) (fun _ => [(aQ, .inr (4, [.ref aQ_spreads, .ref aQ_sizes, .ref aQ_estimates, .ref aQ_costAhead])), (aQ_sizes, .inl (cI, 8, .inl Q_sizes)), (aP, .inr (2, [.ref aP_slots, .ref aP_termsSeen, .ref aP_matches, .ref aP_matchCount, .ref aP_variables, .ref aP_havingVariable, .ref aP_told, .ref aP_parent, .ref aP_allBefore, .int P_required, .int P_hinted, .int P_count])), (aP_havingVariable, .inl (cI, 8, .inl P_havingVariable)), (aQ_spreads, .inl (cI, 64, .inl Q_spreads))]) (va_A [(aQ, .inr (4, [.ref aQ_spreads, .ref aQ_sizes, .ref aQ_estimates, .ref aQ_costAhead])), (aQ_sizes, .inl (cI, 8, .inl Q_sizes)), (aP, .inr (2, [.ref aP_slots, .ref aP_termsSeen, .ref aP_matches, .ref aP_matchCount, .ref aP_variables, .ref aP_havingVariable, .ref aP_told, .ref aP_parent, .ref aP_allBefore, .int P_required, .int P_hinted, .int P_count])), (aP_havingVariable, .inl (cI, 8, .inl P_havingVariable)), (aQ_spreads, .inl (cI, 64, .inl Q_spreads))] sz)) (va_A [(aQ, .inr (4, [.ref aQ_spreads, .ref aQ_sizes, .ref aQ_estimates, .ref aQ_costAhead])), (aQ_sizes, .inl (cI, 8, .inl Q_sizes)), (aP, .inr (2, [.ref aP_slots, .ref aP_termsSeen, .ref aP_matches, .ref aP_matchCount, .ref aP_variables, .ref aP_havingVariable, .ref aP_told, .ref aP_parent, .ref aP_allBefore, .int P_required, .int P_hinted, .int P_count])), (aP_havingVariable, .inl (cI, 8, .inl P_havingVariable)), (aQ_spreads, .inl (cI, 64, .inl Q_spreads))] sz)) 0 0 (va_A [(aQ, .inr (4, [.ref aQ_spreads, .ref aQ_sizes, .ref aQ_estimates, .ref aQ_costAhead])), (aQ_sizes, .inl (cI, 8, .inl Q_sizes)), (aP, .inr (2, [.ref aP_slots, .ref aP_termsSeen, .ref aP_matches, .ref aP_matchCount, .ref aP_variables, .ref aP_havingVariable, .ref aP_told, .ref aP_parent, .ref aP_allBefore, .int P_required, .int P_hinted, .int P_count])), (aP_havingVariable, .inl (cI, 8, .inl P_havingVariable)), (aQ_spreads, .inl (cI, 64, .inl Q_spreads))] sz) := by
  refine con_start (Qc := fun A => va_Ql (fun r2 (_ : Nat → Nat) => r2 = r) (bB D (xT cI cJ cZ) (fun _ => [(aQ, .inr (4, [.ref aQ_spreads, .ref aQ_sizes, .ref aQ_estimates, .ref aQ_costAhead])), (aQ_sizes, .inl (cI, 8, .inl Q_sizes)), (aP, .inr (2, [.ref aP_slots, .ref aP_termsSeen, .ref aP_matches, .ref aP_matchCount, .ref aP_variables, .ref aP_havingVariable, .ref aP_told, .ref aP_parent, .ref aP_allBefore, .int P_required, .int P_hinted, .int P_count])), (aP_havingVariable, .inl (cI, 8, .inl P_havingVariable)), (aQ_spreads, .inl (cI, 64, .inl Q_spreads))]) A) A) (by decide) (Nat.le_of_ble_eq_true rfl) ?_
  intro p e s m args below meth c Q A hx hb hr hlk hml hown hin htg hN hK hQ hA hP hD hS ls hl
  have hl : lv_has ls 6 [(0, .ref aQ), (1, .int x1), (2, .ref aP)] := hl
  have hown : s.vm.findClass RX4 = some m.cls := hown
  have hf := (f_Planner_estimateOf_u n x1 Q_sizes P_havingVariable Q_spreads).symm.trans hf
  refine lv_lconst (v := (1 : Int64)) hx hb dX4_estimateOf_0 (by decide) ?_
  refine lv_lstore_n (lv' := [(3, .long (1 : Int64)), (0, .ref aQ), (1, .int x1), (2, .ref aP)]) hx hb dX4_estimateOf_1 rfl hl (by decide) rfl (fun ls hl => ?_)
  refine lv_iconst (v := (0 : Int32)) hx hb dX4_estimateOf_2 (by decide) ?_
  refine lv_istore (lv' := [(5, .int (0 : Int32)), (3, .long (1 : Int64)), (0, .ref aQ), (1, .int x1), (2, .ref aP)]) hx hb dX4_estimateOf_3 hl (by decide) rfl (fun ls hl => ?_)
  have L_5_16 : ∀ (k : Nat) (x3_17 : Int64) (x5_18 : Int32) (o_16 : Int64), f_Planner_estimateOf_L0 n x1 Q_sizes k x3_17 x5_18 = some o_16 → ∀ (H : Heap) (locs : List Loc), va_P D vwCl [(aQ, .inr (4, [.ref aQ_spreads, .ref aQ_sizes, .ref aQ_estimates, .ref aQ_costAhead])), (aQ_sizes, .inl (cI, 8, .inl Q_sizes)), (aP, .inr (2, [.ref aP_slots, .ref aP_termsSeen, .ref aP_matches, .ref aP_matchCount, .ref aP_variables, .ref aP_havingVariable, .ref aP_told, .ref aP_parent, .ref aP_allBefore, .int P_required, .int P_hinted, .int P_count])), (aP_havingVariable, .inl (cI, 8, .inl P_havingVariable)), (aQ_spreads, .inl (cI, 64, .inl Q_spreads))] H → va_D A [(aQ, .inr (4, [.ref aQ_spreads, .ref aQ_sizes, .ref aQ_estimates, .ref aQ_costAhead])), (aQ_sizes, .inl (cI, 8, .inl Q_sizes)), (aP, .inr (2, [.ref aP_slots, .ref aP_termsSeen, .ref aP_matches, .ref aP_matchCount, .ref aP_variables, .ref aP_havingVariable, .ref aP_told, .ref aP_parent, .ref aP_allBefore, .int P_required, .int P_hinted, .int P_count])), (aP_havingVariable, .inl (cI, 8, .inl P_havingVariable)), (aQ_spreads, .inl (cI, 64, .inl Q_spreads))] → va_S A s.heap H locs → ∀ ls : Array Slot, lv_has ls 6 [(0, .ref aQ), (1, .int x1), (2, .ref aP), (3, .long x3_17), (5, .int x5_18)] → (∀ (x3_19 : Int64), some (x3_19) = some o_16 → ∀ (H : Heap) (locs : List Loc), va_P D vwCl [(aQ, .inr (4, [.ref aQ_spreads, .ref aQ_sizes, .ref aQ_estimates, .ref aQ_costAhead])), (aQ_sizes, .inl (cI, 8, .inl Q_sizes)), (aP, .inr (2, [.ref aP_slots, .ref aP_termsSeen, .ref aP_matches, .ref aP_matchCount, .ref aP_variables, .ref aP_havingVariable, .ref aP_told, .ref aP_parent, .ref aP_allBefore, .int P_required, .int P_hinted, .int P_count])), (aP_havingVariable, .inl (cI, 8, .inl P_havingVariable)), (aQ_spreads, .inl (cI, 64, .inl Q_spreads))] H → va_D A [(aQ, .inr (4, [.ref aQ_spreads, .ref aQ_sizes, .ref aQ_estimates, .ref aQ_costAhead])), (aQ_sizes, .inl (cI, 8, .inl Q_sizes)), (aP, .inr (2, [.ref aP_slots, .ref aP_termsSeen, .ref aP_matches, .ref aP_matchCount, .ref aP_variables, .ref aP_havingVariable, .ref aP_told, .ref aP_parent, .ref aP_allBefore, .int P_required, .int P_hinted, .int P_count])), (aP_havingVariable, .inl (cI, 8, .inl P_havingVariable)), (aQ_spreads, .inl (cI, 64, .inl Q_spreads))] → va_S A s.heap H locs → ∀ ls : Array Slot, lv_has ls 6 [(0, .ref aQ), (1, .int x1), (2, .ref aP), (3, .long x3_19)] → W p l e rm_f_Planner_estimateOf s m args below meth c H locs 0 0 Q (F0 m 38 ls [])) → W p l e rm_f_Planner_estimateOf s m args below meth c H locs 0 0 Q (F0 m 5 ls []) := by
    intro k
    induction k with
    | zero =>
      intro x3_17 x5_18 o_16 hf
      exact absurd (((f_Planner_estimateOf_L0_z n x1 Q_sizes x3_17 x5_18).symm.trans hf)) (fun h => by cases h)
    | succ k ih =>
      intro x3_17 x5_18 o_16 hf H locs hP hD hS ls hl hX_16
      have hf := (f_Planner_estimateOf_L0_s n x1 Q_sizes k x3_17 x5_18).symm.trans hf
      refine lv_iload hx hb dX4_estimateOf_5 (lv_at hl 4 rfl) ?_
      refine lv_bipush (v := (8 : Int32)) hx hb dX4_estimateOf_7 (by decide) ?_
      refine lv_icmp_ge (tgt := 38) hx hb dX4_estimateOf_9 (by decide) (fun c_20 => ?_) (fun c_20 => ?_)
      · have hf := xb_t c_20 hf
        exact hX_16 x3_17 hf _ _ hP hD hS _ (lv_sub hl [0, 1, 2, 3] rfl)
      · have hf := xb_f c_20 hf
        refine lv_iload_n hx hb dX4_estimateOf_12 rfl (lv_at hl 1 rfl) ?_
        refine lv_iload hx hb dX4_estimateOf_13 (lv_at hl 4 rfl) ?_
        refine x_z (xrSN (As := [.int x1, .int x5_18]) (rest := []) ⟨hx, hb, hml, hown, htg⟩ (c_f_JoinOrder_inSet l D cI cJ cZ _ x1 x5_18 rfl) kc_f_JoinOrder_inSet kn_385 kw_306 kw_1 dd_f_JoinOrder_inSet ⟨Nat.le_of_ble_eq_true rfl, Nat.le_of_ble_eq_true rfl⟩ rfl rfl (hP.sub [] rfl) (hD.sub [] (by decide) rfl) hK hN rfl hl.1 rfl (Nat.le_of_ble_eq_true rfl) dX4_estimateOf_15 ⟨Nat.le_of_ble_eq_true rfl, Nat.le_of_ble_eq_true rfl⟩) hP hD hS hA [] [0, 1, 2, 3, 4] rfl rfl (by decide) (by decide) (fun _ H locs bz_21 hP hD hS => ?_)
        have hP : va_P D vwCl [(aQ, .inr (4, [.ref aQ_spreads, .ref aQ_sizes, .ref aQ_estimates, .ref aQ_costAhead])), (aQ_sizes, .inl (cI, 8, .inl Q_sizes)), (aP, .inr (2, [.ref aP_slots, .ref aP_termsSeen, .ref aP_matches, .ref aP_matchCount, .ref aP_variables, .ref aP_havingVariable, .ref aP_told, .ref aP_parent, .ref aP_allBefore, .int P_required, .int P_hinted, .int P_count])), (aP_havingVariable, .inl (cI, 8, .inl P_havingVariable)), (aQ_spreads, .inl (cI, 64, .inl Q_spreads))] H := hP
        have hD : va_D A [(aQ, .inr (4, [.ref aQ_spreads, .ref aQ_sizes, .ref aQ_estimates, .ref aQ_costAhead])), (aQ_sizes, .inl (cI, 8, .inl Q_sizes)), (aP, .inr (2, [.ref aP_slots, .ref aP_termsSeen, .ref aP_matches, .ref aP_matchCount, .ref aP_variables, .ref aP_havingVariable, .ref aP_told, .ref aP_parent, .ref aP_allBefore, .int P_required, .int P_hinted, .int P_count])), (aP_havingVariable, .inl (cI, 8, .inl P_havingVariable)), (aQ_spreads, .inl (cI, 64, .inl Q_spreads))] := hD
        refine lv_if_eq (tgt := 32) hx hb dX4_estimateOf_18 (by decide) (fun c_22 => ?_) (fun c_22 => ?_)
        · have hf := xb_t c_22 hf
          obtain ⟨x5_23, ex5_23⟩ : ∃ y : Int32, y = x5_18 + (1 : Int32) := ⟨_, rfl⟩
          have hf := nm_nm ex5_23 hf
          refine lv_iinc (v := x5_23) (lv' := [(5, .int x5_23), (0, .ref aQ), (1, .int x1), (2, .ref aP), (3, .long x3_17)]) hx hb dX4_estimateOf_32 hl (k := 4) rfl (by rw [ex5_23]; rfl) (by decide) rfl (fun ls hl => ?_)
          refine lv_goto (tgt := 5) hx hb dX4_estimateOf_35 (by decide) ?_
          exact ih x3_17 x5_23 o_16 hf _ _ hP hD hS _ (lv_sub hl [1, 2, 3, 4, 0] rfl) hX_16
        · have hf := xb_f c_22 hf
          refine lv_lload_n hx hb dX4_estimateOf_21 rfl (lv_at hl 3 rfl) ?_
          refine lv_aload_n hx hb dX4_estimateOf_22 rfl (lv_at hl 0 rfl) ?_
          refine va_get (D := D) (ci := 4) (v := .ref aQ_sizes) (C := RX4) (T := TX4) (N := 4) hx hb htg giX4 hown hK hP 0 rfl rfl 1 (by decide) (htg _ kw_123) (fun _ h9 => h9) rfl dX4_estimateOf_23 ?_
          refine lv_iload hx hb dX4_estimateOf_26 (lv_at hl 4 rfl) ?_
          have g_24 : vp_in x5_18 8 := gd_in hf
          have hf := gd_el hf
          refine va_iald hx hb hK hP 1 0 rfl rfl g_24 dX4_estimateOf_28 ?_
          refine lv_i2l hx hb dX4_estimateOf_29 rfl ?_
          refine lv_lmul hx hb dX4_estimateOf_30 ?_
          refine lv_topl (fun x3_25 ex3_25 => ?_)
          have hf := nm_nm ex3_25 hf
          refine lv_lstore_n (lv' := [(3, .long x3_25), (0, .ref aQ), (1, .int x1), (2, .ref aP), (5, .int x5_18)]) hx hb dX4_estimateOf_31 rfl hl (by decide) rfl (fun ls hl => ?_)
          obtain ⟨x5_26, ex5_26⟩ : ∃ y : Int32, y = x5_18 + (1 : Int32) := ⟨_, rfl⟩
          have hf := nm_nm ex5_26 hf
          refine lv_iinc (v := x5_26) (lv' := [(5, .int x5_26), (3, .long x3_25), (0, .ref aQ), (1, .int x1), (2, .ref aP)]) hx hb dX4_estimateOf_32 hl (k := 4) rfl (by rw [ex5_26]; rfl) (by decide) rfl (fun ls hl => ?_)
          refine lv_goto (tgt := 5) hx hb dX4_estimateOf_35 (by decide) ?_
          exact ih x3_25 x5_26 o_16 hf _ _ hP hD hS _ (lv_sub hl [2, 3, 4, 1, 0] rfl) hX_16
  obtain ⟨o_16, ho_16, hk_16⟩ := bn1_s hf
  refine L_5_16 n (1 : Int64) (0 : Int32) o_16 ho_16 _ _ hP hD hS _ (lv_sub hl [2, 3, 4, 1, 0] rfl) (fun x3_19 hf H locs hP hD hS ls hl => ?_)
  have hf := hk_16 _ hf
  refine lv_iconst (v := (0 : Int32)) hx hb dX4_estimateOf_38 (by decide) ?_
  refine lv_istore (lv' := [(5, .int (0 : Int32)), (0, .ref aQ), (1, .int x1), (2, .ref aP), (3, .long x3_19)]) hx hb dX4_estimateOf_39 hl (by decide) rfl (fun ls hl => ?_)
  have L_41_38 : ∀ (k : Nat) (x3_39 : Int64) (x5_40 : Int32) (o_38 : Int64), f_Planner_estimateOf_L1 n x1 P_havingVariable Q_spreads k x3_39 x5_40 = some o_38 → ∀ (H : Heap) (locs : List Loc), va_P D vwCl [(aQ, .inr (4, [.ref aQ_spreads, .ref aQ_sizes, .ref aQ_estimates, .ref aQ_costAhead])), (aQ_sizes, .inl (cI, 8, .inl Q_sizes)), (aP, .inr (2, [.ref aP_slots, .ref aP_termsSeen, .ref aP_matches, .ref aP_matchCount, .ref aP_variables, .ref aP_havingVariable, .ref aP_told, .ref aP_parent, .ref aP_allBefore, .int P_required, .int P_hinted, .int P_count])), (aP_havingVariable, .inl (cI, 8, .inl P_havingVariable)), (aQ_spreads, .inl (cI, 64, .inl Q_spreads))] H → va_D A [(aQ, .inr (4, [.ref aQ_spreads, .ref aQ_sizes, .ref aQ_estimates, .ref aQ_costAhead])), (aQ_sizes, .inl (cI, 8, .inl Q_sizes)), (aP, .inr (2, [.ref aP_slots, .ref aP_termsSeen, .ref aP_matches, .ref aP_matchCount, .ref aP_variables, .ref aP_havingVariable, .ref aP_told, .ref aP_parent, .ref aP_allBefore, .int P_required, .int P_hinted, .int P_count])), (aP_havingVariable, .inl (cI, 8, .inl P_havingVariable)), (aQ_spreads, .inl (cI, 64, .inl Q_spreads))] → va_S A s.heap H locs → ∀ ls : Array Slot, lv_has ls 6 [(0, .ref aQ), (1, .int x1), (2, .ref aP), (3, .long x3_39), (5, .int x5_40)] → (∀ (x3_41 : Int64), some (x3_41) = some o_38 → ∀ (H : Heap) (locs : List Loc), va_P D vwCl [(aQ, .inr (4, [.ref aQ_spreads, .ref aQ_sizes, .ref aQ_estimates, .ref aQ_costAhead])), (aQ_sizes, .inl (cI, 8, .inl Q_sizes)), (aP, .inr (2, [.ref aP_slots, .ref aP_termsSeen, .ref aP_matches, .ref aP_matchCount, .ref aP_variables, .ref aP_havingVariable, .ref aP_told, .ref aP_parent, .ref aP_allBefore, .int P_required, .int P_hinted, .int P_count])), (aP_havingVariable, .inl (cI, 8, .inl P_havingVariable)), (aQ_spreads, .inl (cI, 64, .inl Q_spreads))] H → va_D A [(aQ, .inr (4, [.ref aQ_spreads, .ref aQ_sizes, .ref aQ_estimates, .ref aQ_costAhead])), (aQ_sizes, .inl (cI, 8, .inl Q_sizes)), (aP, .inr (2, [.ref aP_slots, .ref aP_termsSeen, .ref aP_matches, .ref aP_matchCount, .ref aP_variables, .ref aP_havingVariable, .ref aP_told, .ref aP_parent, .ref aP_allBefore, .int P_required, .int P_hinted, .int P_count])), (aP_havingVariable, .inl (cI, 8, .inl P_havingVariable)), (aQ_spreads, .inl (cI, 64, .inl Q_spreads))] → va_S A s.heap H locs → ∀ ls : Array Slot, lv_has ls 6 [(3, .long x3_41)] → W p l e rm_f_Planner_estimateOf s m args below meth c H locs 0 0 Q (F0 m 71 ls [])) → W p l e rm_f_Planner_estimateOf s m args below meth c H locs 0 0 Q (F0 m 41 ls []) := by
    intro k
    induction k with
    | zero =>
      intro x3_39 x5_40 o_38 hf
      exact absurd (((f_Planner_estimateOf_L1_z n x1 P_havingVariable Q_spreads x3_39 x5_40).symm.trans hf)) (fun h => by cases h)
    | succ k ih =>
      intro x3_39 x5_40 o_38 hf H locs hP hD hS ls hl hX_38
      have hf := (f_Planner_estimateOf_L1_s n x1 P_havingVariable Q_spreads k x3_39 x5_40).symm.trans hf
      refine lv_iload hx hb dX4_estimateOf_41 (lv_at hl 4 rfl) ?_
      refine lv_bipush (v := (8 : Int32)) hx hb dX4_estimateOf_43 (by decide) ?_
      refine lv_icmp_ge (tgt := 71) hx hb dX4_estimateOf_45 (by decide) (fun c_42 => ?_) (fun c_42 => ?_)
      · have hf := xb_t c_42 hf
        exact hX_38 x3_39 hf _ _ hP hD hS _ (lv_sub hl [3] rfl)
      · have hf := xb_f c_42 hf
        refine lv_aload_n hx hb dX4_estimateOf_48 rfl (lv_at hl 0 rfl) ?_
        refine lv_lload_n hx hb dX4_estimateOf_49 rfl (lv_at hl 3 rfl) ?_
        refine lv_iload hx hb dX4_estimateOf_50 (lv_at hl 4 rfl) ?_
        refine lv_iload_n hx hb dX4_estimateOf_52 rfl (lv_at hl 1 rfl) ?_
        refine lv_aload_n hx hb dX4_estimateOf_53 rfl (lv_at hl 2 rfl) ?_
        refine va_getN (D := D) (ci := 2) (v := .ref aP_havingVariable) (C := RX2) (T := TX2) (N := 12) hx hb htg giX2 hown hK hP 2 rfl rfl 5 (by decide) (va_Nw.use rfl (hN _ kn_52)) (fun _ h9 => h9) rfl dX4_estimateOf_54 ?_
        refine lv_iload hx hb dX4_estimateOf_57 (lv_at hl 4 rfl) ?_
        have g_43 : vp_in x5_40 8 := gd_in hf
        have hf := gd_el hf
        refine va_iald hx hb hK hP 3 0 rfl rfl g_43 dX4_estimateOf_59 ?_
        refine lv_iand hx hb dX4_estimateOf_60 ?_
        obtain ⟨r_45, hq_44, hf⟩ := bn1_c hf
        refine x_l (xrV (As := [.long x3_39, .int x5_40, .int (x1 &&& (P_havingVariable x5_40.toNatClampNeg))]) (b := aQ) (rest := []) ⟨hx, hb, hml, hown, htg⟩ (c_f_Planner_dividedBySpreads l D cI cJ cZ _ n aQ x3_39 x5_40 (x1 &&& (P_havingVariable x5_40.toNatClampNeg)) aQ_spreads aQ_sizes aQ_estimates aQ_costAhead Q_spreads hq_44) kc_f_Planner_dividedBySpreads kw_386 kw_388 kp_7 kw_5 dd_f_Planner_dividedBySpreads ⟨Nat.le_of_ble_eq_true rfl, Nat.le_of_ble_eq_true rfl⟩ rfl rfl (hP.sub [0, 4] rfl) (hD.sub [0, 4] (by decide) rfl) hK hN hP (q0 := 0) rfl rfl rfl hl.1 rfl (Nat.le_of_ble_eq_true rfl) dX4_estimateOf_61 ⟨Nat.le_of_ble_eq_true rfl, Nat.le_of_ble_eq_true rfl⟩) hP hD hS hA [0, 4] [1, 2, 3] rfl rfl (by decide) (by decide) (fun _ H locs hP hD hS => ?_)
        have hP : va_P D vwCl [(aQ_sizes, .inl (cI, 8, .inl Q_sizes)), (aP, .inr (2, [.ref aP_slots, .ref aP_termsSeen, .ref aP_matches, .ref aP_matchCount, .ref aP_variables, .ref aP_havingVariable, .ref aP_told, .ref aP_parent, .ref aP_allBefore, .int P_required, .int P_hinted, .int P_count])), (aP_havingVariable, .inl (cI, 8, .inl P_havingVariable)), (aQ, .inr (4, [.ref aQ_spreads, .ref aQ_sizes, .ref aQ_estimates, .ref aQ_costAhead])), (aQ_spreads, .inl (cI, 64, .inl Q_spreads))] H := hP
        have hD : va_D A [(aQ_sizes, .inl (cI, 8, .inl Q_sizes)), (aP, .inr (2, [.ref aP_slots, .ref aP_termsSeen, .ref aP_matches, .ref aP_matchCount, .ref aP_variables, .ref aP_havingVariable, .ref aP_told, .ref aP_parent, .ref aP_allBefore, .int P_required, .int P_hinted, .int P_count])), (aP_havingVariable, .inl (cI, 8, .inl P_havingVariable)), (aQ, .inr (4, [.ref aQ_spreads, .ref aQ_sizes, .ref aQ_estimates, .ref aQ_costAhead])), (aQ_spreads, .inl (cI, 64, .inl Q_spreads))] := hD
        refine lv_lstore_n (lv' := [(3, .long r_45), (0, .ref aQ), (1, .int x1), (2, .ref aP), (5, .int x5_40)]) hx hb dX4_estimateOf_64 rfl hl (by decide) rfl (fun ls hl => ?_)
        obtain ⟨x5_46, ex5_46⟩ : ∃ y : Int32, y = x5_40 + (1 : Int32) := ⟨_, rfl⟩
        have hf := nm_nm ex5_46 hf
        refine lv_iinc (v := x5_46) (lv' := [(5, .int x5_46), (3, .long r_45), (0, .ref aQ), (1, .int x1), (2, .ref aP)]) hx hb dX4_estimateOf_65 hl (k := 4) rfl (by rw [ex5_46]; rfl) (by decide) rfl (fun ls hl => ?_)
        refine lv_goto (tgt := 41) hx hb dX4_estimateOf_68 (by decide) ?_
        exact ih r_45 x5_46 o_38 hf _ _ (hP.sub [3, 0, 1, 2, 4] rfl) (hD.sub [3, 0, 1, 2, 4] (by decide) rfl) hS _ (lv_sub hl [2, 3, 4, 1, 0] rfl) hX_38
  obtain ⟨o_38, ho_38, hk_38⟩ := bn1_s hf
  refine L_41_38 n x3_19 (0 : Int32) o_38 ho_38 _ _ hP hD hS _ (lv_sub hl [1, 2, 3, 4, 0] rfl) (fun x3_41 hf H locs hP hD hS ls hl => ?_)
  have hf := hk_38 _ hf
  refine lv_lload_n hx hb dX4_estimateOf_71 rfl (lv_at hl 0 rfl) ?_
  have hf := Option.some.inj hf
  cases hf
  exact x_lret (fun _ => 0) hQ hx hb hr hlk hK hP hD hS dX4_estimateOf_72
abbrev rm_f_Planner_variablesOf : Room := { frames := 1, cells := 0, slots := 0, locals := 21 }
set_option maxHeartbeats 4000000 in
set_option maxRecDepth 100000 in
theorem c_f_Planner_variablesOf (l : Launch) (D : va_G) (cI cJ cZ : ClassId) (sz : Nat) (n : Nat) (x0 : Int32) (aP : Nat) (aP_slots : Nat) (aP_termsSeen : Nat) (aP_matches : Nat) (aP_matchCount : Nat) (aP_variables : Nat) (aP_havingVariable : Nat) (aP_told : Nat) (aP_parent : Nat) (aP_allBefore : Nat) (P_required : Int32) (P_hinted : Int32) (P_count : Int32) (P_variables : Nat → Int32) {r : Int32} (hf : f_Planner_variablesOf n x0 P_count P_variables = some r) : Met l yX4_variablesOf (.code yX4_variablesOf cX4_variablesOf 4 (some .int) :: GW) rm_f_Planner_variablesOf (va_Pc [.int x0, .ref aP] (xP D (xT cI cJ cZ) sz [(aP, .inr (2, [.ref aP_slots, .ref aP_termsSeen, .ref aP_matches, .ref aP_matchCount, .ref aP_variables, .ref aP_havingVariable, .ref aP_told, .ref aP_parent, .ref aP_allBefore, .int P_required, .int P_hinted, .int P_count])), (aP_variables, .inl (cI, 8, .inl P_variables))])) (va_Qi (fun r2 (_ : Nat → Nat) => r2 = r) (bB D (xT cI cJ cZ) (fun _ => [(aP, .inr (2, [.ref aP_slots, .ref aP_termsSeen, .ref aP_matches, .ref aP_matchCount, .ref aP_variables, .ref aP_havingVariable, .ref aP_told, .ref aP_parent, .ref aP_allBefore, .int P_required, .int P_hinted, .int P_count])), (aP_variables, .inl (cI, 8, .inl P_variables))]) (va_A [(aP, .inr (2, [.ref aP_slots, .ref aP_termsSeen, .ref aP_matches, .ref aP_matchCount, .ref aP_variables, .ref aP_havingVariable, .ref aP_told, .ref aP_parent, .ref aP_allBefore, .int P_required, .int P_hinted, .int P_count])), (aP_variables, .inl (cI, 8, .inl P_variables))] sz)) (va_A [(aP, .inr (2, [.ref aP_slots, .ref aP_termsSeen, .ref aP_matches, .ref aP_matchCount, .ref aP_variables, .ref aP_havingVariable, .ref aP_told, .ref aP_parent, .ref aP_allBefore, .int P_required, .int P_hinted, .int P_count])), (aP_variables, .inl (cI, 8, .inl P_variables))] sz)) 0 0 (va_A [(aP, .inr (2, [.ref aP_slots, .ref aP_termsSeen, .ref aP_matches, .ref aP_matchCount, .ref aP_variables, .ref aP_havingVariable, .ref aP_told, .ref aP_parent, .ref aP_allBefore, .int P_required, .int P_hinted, .int P_count])), (aP_variables, .inl (cI, 8, .inl P_variables))] sz) := by
  refine con_start (Qc := fun A => va_Qi (fun r2 (_ : Nat → Nat) => r2 = r) (bB D (xT cI cJ cZ) (fun _ => [(aP, .inr (2, [.ref aP_slots, .ref aP_termsSeen, .ref aP_matches, .ref aP_matchCount, .ref aP_variables, .ref aP_havingVariable, .ref aP_told, .ref aP_parent, .ref aP_allBefore, .int P_required, .int P_hinted, .int P_count])), (aP_variables, .inl (cI, 8, .inl P_variables))]) A) A) (by decide) (Nat.le_of_ble_eq_true rfl) ?_
  intro p e s m args below meth c Q A hx hb hr hlk hml hown hin htg hN hK hQ hA hP hD hS ls hl
  have hl : lv_has ls 4 [(0, .int x0), (1, .ref aP)] := hl
  have hown : s.vm.findClass RX4 = some m.cls := hown
  have hf := (f_Planner_variablesOf_u n x0 P_count P_variables).symm.trans hf
  refine lv_iconst (v := (0 : Int32)) hx hb dX4_variablesOf_0 (by decide) ?_
  refine lv_istore_n (lv' := [(2, .int (0 : Int32)), (0, .int x0), (1, .ref aP)]) hx hb dX4_variablesOf_1 rfl hl (by decide) rfl (fun ls hl => ?_)
  refine lv_iconst (v := (0 : Int32)) hx hb dX4_variablesOf_2 (by decide) ?_
  refine lv_istore_n (lv' := [(3, .int (0 : Int32)), (2, .int (0 : Int32)), (0, .int x0), (1, .ref aP)]) hx hb dX4_variablesOf_3 rfl hl (by decide) rfl (fun ls hl => ?_)
  have L_4_16 : ∀ (k : Nat) (x2_17 : Int32) (x3_18 : Int32) (o_16 : Int32), f_Planner_variablesOf_L0 n x0 P_count P_variables k x2_17 x3_18 = some o_16 → ∀ (H : Heap) (locs : List Loc), va_P D vwCl [(aP, .inr (2, [.ref aP_slots, .ref aP_termsSeen, .ref aP_matches, .ref aP_matchCount, .ref aP_variables, .ref aP_havingVariable, .ref aP_told, .ref aP_parent, .ref aP_allBefore, .int P_required, .int P_hinted, .int P_count])), (aP_variables, .inl (cI, 8, .inl P_variables))] H → va_D A [(aP, .inr (2, [.ref aP_slots, .ref aP_termsSeen, .ref aP_matches, .ref aP_matchCount, .ref aP_variables, .ref aP_havingVariable, .ref aP_told, .ref aP_parent, .ref aP_allBefore, .int P_required, .int P_hinted, .int P_count])), (aP_variables, .inl (cI, 8, .inl P_variables))] → va_S A s.heap H locs → ∀ ls : Array Slot, lv_has ls 4 [(0, .int x0), (1, .ref aP), (2, .int x2_17), (3, .int x3_18)] → (∀ (x2_19 : Int32), some (x2_19) = some o_16 → ∀ (H : Heap) (locs : List Loc), va_P D vwCl [(aP, .inr (2, [.ref aP_slots, .ref aP_termsSeen, .ref aP_matches, .ref aP_matchCount, .ref aP_variables, .ref aP_havingVariable, .ref aP_told, .ref aP_parent, .ref aP_allBefore, .int P_required, .int P_hinted, .int P_count])), (aP_variables, .inl (cI, 8, .inl P_variables))] H → va_D A [(aP, .inr (2, [.ref aP_slots, .ref aP_termsSeen, .ref aP_matches, .ref aP_matchCount, .ref aP_variables, .ref aP_havingVariable, .ref aP_told, .ref aP_parent, .ref aP_allBefore, .int P_required, .int P_hinted, .int P_count])), (aP_variables, .inl (cI, 8, .inl P_variables))] → va_S A s.heap H locs → ∀ ls : Array Slot, lv_has ls 4 [(2, .int x2_19)] → W p l e rm_f_Planner_variablesOf s m args below meth c H locs 0 0 Q (F0 m 35 ls [])) → W p l e rm_f_Planner_variablesOf s m args below meth c H locs 0 0 Q (F0 m 4 ls []) := by
    intro k
    induction k with
    | zero =>
      intro x2_17 x3_18 o_16 hf
      exact absurd (((f_Planner_variablesOf_L0_z n x0 P_count P_variables x2_17 x3_18).symm.trans hf)) (fun h => by cases h)
    | succ k ih =>
      intro x2_17 x3_18 o_16 hf H locs hP hD hS ls hl hX_16
      have hf := (f_Planner_variablesOf_L0_s n x0 P_count P_variables k x2_17 x3_18).symm.trans hf
      refine lv_iload_n hx hb dX4_variablesOf_4 rfl (lv_at hl 3 rfl) ?_
      refine lv_aload_n hx hb dX4_variablesOf_5 rfl (lv_at hl 1 rfl) ?_
      refine va_getN (D := D) (ci := 2) (v := .int P_count) (C := RX2) (T := TX2) (N := 12) hx hb htg giX2 hown hK hP 0 rfl rfl 11 (by decide) (va_Nw.use rfl (hN _ kn_63)) (fun _ h9 => h9) rfl dX4_variablesOf_6 ?_
      refine lv_icmp_ge (tgt := 35) hx hb dX4_variablesOf_9 (by decide) (fun c_20 => ?_) (fun c_20 => ?_)
      · have hf := xb_t c_20 hf
        exact hX_16 x2_17 hf _ _ hP hD hS _ (lv_sub hl [2] rfl)
      · have hf := xb_f c_20 hf
        refine lv_iload_n hx hb dX4_variablesOf_12 rfl (lv_at hl 0 rfl) ?_
        refine lv_iload_n hx hb dX4_variablesOf_13 rfl (lv_at hl 3 rfl) ?_
        refine x_z (xrSN (As := [.int x0, .int x3_18]) (rest := []) ⟨hx, hb, hml, hown, htg⟩ (c_f_JoinOrder_inSet l D cI cJ cZ _ x0 x3_18 rfl) kc_f_JoinOrder_inSet kn_385 kw_306 kw_1 dd_f_JoinOrder_inSet ⟨Nat.le_of_ble_eq_true rfl, Nat.le_of_ble_eq_true rfl⟩ rfl rfl (hP.sub [] rfl) (hD.sub [] (by decide) rfl) hK hN rfl hl.1 rfl (Nat.le_of_ble_eq_true rfl) dX4_variablesOf_14 ⟨Nat.le_of_ble_eq_true rfl, Nat.le_of_ble_eq_true rfl⟩) hP hD hS hA [] [0, 1] rfl rfl (by decide) (by decide) (fun _ H locs bz_21 hP hD hS => ?_)
        have hP : va_P D vwCl [(aP, .inr (2, [.ref aP_slots, .ref aP_termsSeen, .ref aP_matches, .ref aP_matchCount, .ref aP_variables, .ref aP_havingVariable, .ref aP_told, .ref aP_parent, .ref aP_allBefore, .int P_required, .int P_hinted, .int P_count])), (aP_variables, .inl (cI, 8, .inl P_variables))] H := hP
        have hD : va_D A [(aP, .inr (2, [.ref aP_slots, .ref aP_termsSeen, .ref aP_matches, .ref aP_matchCount, .ref aP_variables, .ref aP_havingVariable, .ref aP_told, .ref aP_parent, .ref aP_allBefore, .int P_required, .int P_hinted, .int P_count])), (aP_variables, .inl (cI, 8, .inl P_variables))] := hD
        refine lv_if_eq (tgt := 29) hx hb dX4_variablesOf_17 (by decide) (fun c_22 => ?_) (fun c_22 => ?_)
        · have hf := xb_t c_22 hf
          obtain ⟨x3_23, ex3_23⟩ : ∃ y : Int32, y = x3_18 + (1 : Int32) := ⟨_, rfl⟩
          have hf := nm_nm ex3_23 hf
          refine lv_iinc (v := x3_23) (lv' := [(3, .int x3_23), (0, .int x0), (1, .ref aP), (2, .int x2_17)]) hx hb dX4_variablesOf_29 hl (k := 3) rfl (by rw [ex3_23]; rfl) (by decide) rfl (fun ls hl => ?_)
          refine lv_goto (tgt := 4) hx hb dX4_variablesOf_32 (by decide) ?_
          exact ih x2_17 x3_23 o_16 hf _ _ hP hD hS _ (lv_sub hl [1, 2, 3, 0] rfl) hX_16
        · have hf := xb_f c_22 hf
          refine lv_iload_n hx hb dX4_variablesOf_20 rfl (lv_at hl 2 rfl) ?_
          refine lv_aload_n hx hb dX4_variablesOf_21 rfl (lv_at hl 1 rfl) ?_
          refine va_getN (D := D) (ci := 2) (v := .ref aP_variables) (C := RX2) (T := TX2) (N := 12) hx hb htg giX2 hown hK hP 0 rfl rfl 4 (by decide) (va_Nw.use rfl (hN _ kn_50)) (fun _ h9 => h9) rfl dX4_variablesOf_22 ?_
          refine lv_iload_n hx hb dX4_variablesOf_25 rfl (lv_at hl 3 rfl) ?_
          have g_24 : vp_in x3_18 8 := gd_in hf
          have hf := gd_el hf
          refine va_iald hx hb hK hP 1 0 rfl rfl g_24 dX4_variablesOf_26 ?_
          refine lv_ior hx hb dX4_variablesOf_27 ?_
          refine lv_topi (fun x2_25 ex2_25 => ?_)
          have hf := nm_nm ex2_25 hf
          refine lv_istore_n (lv' := [(2, .int x2_25), (0, .int x0), (1, .ref aP), (3, .int x3_18)]) hx hb dX4_variablesOf_28 rfl hl (by decide) rfl (fun ls hl => ?_)
          obtain ⟨x3_26, ex3_26⟩ : ∃ y : Int32, y = x3_18 + (1 : Int32) := ⟨_, rfl⟩
          have hf := nm_nm ex3_26 hf
          refine lv_iinc (v := x3_26) (lv' := [(3, .int x3_26), (2, .int x2_25), (0, .int x0), (1, .ref aP)]) hx hb dX4_variablesOf_29 hl (k := 3) rfl (by rw [ex3_26]; rfl) (by decide) rfl (fun ls hl => ?_)
          refine lv_goto (tgt := 4) hx hb dX4_variablesOf_32 (by decide) ?_
          exact ih x2_25 x3_26 o_16 hf _ _ hP hD hS _ (lv_sub hl [2, 3, 1, 0] rfl) hX_16
  obtain ⟨o_16, ho_16, hk_16⟩ := bn1_s hf
  refine L_4_16 n (0 : Int32) (0 : Int32) o_16 ho_16 _ _ hP hD hS _ (lv_sub hl [2, 3, 1, 0] rfl) (fun x2_19 hf H locs hP hD hS ls hl => ?_)
  have hf := hk_16 _ hf
  refine lv_iload_n hx hb dX4_variablesOf_35 rfl (lv_at hl 0 rfl) ?_
  have hf := Option.some.inj hf
  cases hf
  exact x_iret (fun _ => 0) hQ hx hb hr hlk hK hP hD hS dX4_variablesOf_36
abbrev rm_f_Planner_nextOnes : Room := { frames := 2, cells := 0, slots := 0, locals := 44 }
set_option maxHeartbeats 4000000 in
set_option maxRecDepth 100000 in
theorem c_f_Planner_nextOnes (l : Launch) (D : va_G) (cI cJ cZ : ClassId) (sz : Nat) (n : Nat) (x0 : Int32) (aP : Nat) (aP_slots : Nat) (aP_termsSeen : Nat) (aP_matches : Nat) (aP_matchCount : Nat) (aP_variables : Nat) (aP_havingVariable : Nat) (aP_told : Nat) (aP_parent : Nat) (aP_allBefore : Nat) (P_required : Int32) (P_hinted : Int32) (P_count : Int32) (P_variables : Nat → Int32) (P_allBefore : Nat → Int32) {r : Int32} (hf : f_Planner_nextOnes n x0 P_required P_count P_variables P_allBefore = some r) : Met l yX4_nextOnes (.code yX4_nextOnes cX4_nextOnes 7 (some .int) :: GW) rm_f_Planner_nextOnes (va_Pc [.int x0, .ref aP] (xP D (xT cI cJ cZ) sz [(aP, .inr (2, [.ref aP_slots, .ref aP_termsSeen, .ref aP_matches, .ref aP_matchCount, .ref aP_variables, .ref aP_havingVariable, .ref aP_told, .ref aP_parent, .ref aP_allBefore, .int P_required, .int P_hinted, .int P_count])), (aP_variables, .inl (cI, 8, .inl P_variables)), (aP_allBefore, .inl (cI, 8, .inl P_allBefore))])) (va_Qi (fun r2 (_ : Nat → Nat) => r2 = r) (bB D (xT cI cJ cZ) (fun _ => [(aP, .inr (2, [.ref aP_slots, .ref aP_termsSeen, .ref aP_matches, .ref aP_matchCount, .ref aP_variables, .ref aP_havingVariable, .ref aP_told, .ref aP_parent, .ref aP_allBefore, .int P_required, .int P_hinted, .int P_count])), (aP_variables, .inl (cI, 8, .inl P_variables)), (aP_allBefore, .inl (cI, 8, .inl P_allBefore))]) (va_A [(aP, .inr (2, [.ref aP_slots, .ref aP_termsSeen, .ref aP_matches, .ref aP_matchCount, .ref aP_variables, .ref aP_havingVariable, .ref aP_told, .ref aP_parent, .ref aP_allBefore, .int P_required, .int P_hinted, .int P_count])), (aP_variables, .inl (cI, 8, .inl P_variables)), (aP_allBefore, .inl (cI, 8, .inl P_allBefore))] sz)) (va_A [(aP, .inr (2, [.ref aP_slots, .ref aP_termsSeen, .ref aP_matches, .ref aP_matchCount, .ref aP_variables, .ref aP_havingVariable, .ref aP_told, .ref aP_parent, .ref aP_allBefore, .int P_required, .int P_hinted, .int P_count])), (aP_variables, .inl (cI, 8, .inl P_variables)), (aP_allBefore, .inl (cI, 8, .inl P_allBefore))] sz)) 0 0 (va_A [(aP, .inr (2, [.ref aP_slots, .ref aP_termsSeen, .ref aP_matches, .ref aP_matchCount, .ref aP_variables, .ref aP_havingVariable, .ref aP_told, .ref aP_parent, .ref aP_allBefore, .int P_required, .int P_hinted, .int P_count])), (aP_variables, .inl (cI, 8, .inl P_variables)), (aP_allBefore, .inl (cI, 8, .inl P_allBefore))] sz) := by
  refine con_start (Qc := fun A => va_Qi (fun r2 (_ : Nat → Nat) => r2 = r) (bB D (xT cI cJ cZ) (fun _ => [(aP, .inr (2, [.ref aP_slots, .ref aP_termsSeen, .ref aP_matches, .ref aP_matchCount, .ref aP_variables, .ref aP_havingVariable, .ref aP_told, .ref aP_parent, .ref aP_allBefore, .int P_required, .int P_hinted, .int P_count])), (aP_variables, .inl (cI, 8, .inl P_variables)), (aP_allBefore, .inl (cI, 8, .inl P_allBefore))]) A) A) (by decide) (Nat.le_of_ble_eq_true rfl) ?_
  intro p e s m args below meth c Q A hx hb hr hlk hml hown hin htg hN hK hQ hA hP hD hS ls hl
  have hl : lv_has ls 7 [(0, .int x0), (1, .ref aP)] := hl
  have hown : s.vm.findClass RX4 = some m.cls := hown
  have hf := (f_Planner_nextOnes_u n x0 P_required P_count P_variables P_allBefore).symm.trans hf
  refine lv_iload_n hx hb dX4_nextOnes_0 rfl (lv_at hl 0 rfl) ?_
  refine lv_aload_n hx hb dX4_nextOnes_1 rfl (lv_at hl 1 rfl) ?_
  obtain ⟨r_2, hq_1, hf⟩ := bn1_c hf
  refine x_i (xrS (As := [.int x0, .ref aP]) (rest := []) ⟨hx, hb, hml, hown, htg⟩ (c_f_Planner_variablesOf l D cI cJ cZ _ n x0 aP aP_slots aP_termsSeen aP_matches aP_matchCount aP_variables aP_havingVariable aP_told aP_parent aP_allBefore P_required P_hinted P_count P_variables hq_1) kc_f_Planner_variablesOf kw_404 kw_405 kw_5 dd_f_Planner_variablesOf ⟨Nat.le_of_ble_eq_true rfl, Nat.le_of_ble_eq_true rfl⟩ rfl rfl (hP.sub [0, 1] rfl) (hD.sub [0, 1] (by decide) rfl) hK hN rfl hl.1 rfl (Nat.le_of_ble_eq_true rfl) dX4_nextOnes_2 ⟨Nat.le_of_ble_eq_true rfl, Nat.le_of_ble_eq_true rfl⟩) hP hD hS hA [0, 1] [2] rfl rfl (by decide) (by decide) (fun _ H locs hP hD hS => ?_)
  have hP : va_P D vwCl [(aP_allBefore, .inl (cI, 8, .inl P_allBefore)), (aP, .inr (2, [.ref aP_slots, .ref aP_termsSeen, .ref aP_matches, .ref aP_matchCount, .ref aP_variables, .ref aP_havingVariable, .ref aP_told, .ref aP_parent, .ref aP_allBefore, .int P_required, .int P_hinted, .int P_count])), (aP_variables, .inl (cI, 8, .inl P_variables))] H := hP
  have hD : va_D A [(aP_allBefore, .inl (cI, 8, .inl P_allBefore)), (aP, .inr (2, [.ref aP_slots, .ref aP_termsSeen, .ref aP_matches, .ref aP_matchCount, .ref aP_variables, .ref aP_havingVariable, .ref aP_told, .ref aP_parent, .ref aP_allBefore, .int P_required, .int P_hinted, .int P_count])), (aP_variables, .inl (cI, 8, .inl P_variables))] := hD
  refine lv_istore_n (lv' := [(2, .int r_2), (0, .int x0), (1, .ref aP)]) hx hb dX4_nextOnes_5 rfl hl (by decide) rfl (fun ls hl => ?_)
  refine lv_iconst (v := (0 : Int32)) hx hb dX4_nextOnes_6 (by decide) ?_
  refine lv_istore_n (lv' := [(3, .int (0 : Int32)), (2, .int r_2), (0, .int x0), (1, .ref aP)]) hx hb dX4_nextOnes_7 rfl hl (by decide) rfl (fun ls hl => ?_)
  refine lv_iconst (v := (0 : Int32)) hx hb dX4_nextOnes_8 (by decide) ?_
  refine lv_istore (lv' := [(4, .int (0 : Int32)), (3, .int (0 : Int32)), (2, .int r_2), (0, .int x0), (1, .ref aP)]) hx hb dX4_nextOnes_9 hl (by decide) rfl (fun ls hl => ?_)
  refine lv_iconst (v := (0 : Int32)) hx hb dX4_nextOnes_11 (by decide) ?_
  refine lv_istore (lv' := [(5, .int (0 : Int32)), (4, .int (0 : Int32)), (3, .int (0 : Int32)), (2, .int r_2), (0, .int x0), (1, .ref aP)]) hx hb dX4_nextOnes_12 hl (by decide) rfl (fun ls hl => ?_)
  have L_14_31 : ∀ (k : Nat) (x3_32 : Int32) (x4_33 : Int32) (x5_34 : Int32) (o_31 : (Int32 × Int32)), f_Planner_nextOnes_L0 n x0 P_required P_count P_variables P_allBefore r_2 k x3_32 x4_33 x5_34 = some o_31 → ∀ (H : Heap) (locs : List Loc), va_P D vwCl [(aP, .inr (2, [.ref aP_slots, .ref aP_termsSeen, .ref aP_matches, .ref aP_matchCount, .ref aP_variables, .ref aP_havingVariable, .ref aP_told, .ref aP_parent, .ref aP_allBefore, .int P_required, .int P_hinted, .int P_count])), (aP_variables, .inl (cI, 8, .inl P_variables)), (aP_allBefore, .inl (cI, 8, .inl P_allBefore))] H → va_D A [(aP, .inr (2, [.ref aP_slots, .ref aP_termsSeen, .ref aP_matches, .ref aP_matchCount, .ref aP_variables, .ref aP_havingVariable, .ref aP_told, .ref aP_parent, .ref aP_allBefore, .int P_required, .int P_hinted, .int P_count])), (aP_variables, .inl (cI, 8, .inl P_variables)), (aP_allBefore, .inl (cI, 8, .inl P_allBefore))] → va_S A s.heap H locs → ∀ ls : Array Slot, lv_has ls 7 [(0, .int x0), (1, .ref aP), (2, .int r_2), (3, .int x3_32), (4, .int x4_33), (5, .int x5_34)] → (∀ (x3_35 : Int32) (x4_36 : Int32), some ((x3_35, x4_36)) = some o_31 → ∀ (H : Heap) (locs : List Loc), va_P D vwCl [(aP, .inr (2, [.ref aP_slots, .ref aP_termsSeen, .ref aP_matches, .ref aP_matchCount, .ref aP_variables, .ref aP_havingVariable, .ref aP_told, .ref aP_parent, .ref aP_allBefore, .int P_required, .int P_hinted, .int P_count])), (aP_variables, .inl (cI, 8, .inl P_variables)), (aP_allBefore, .inl (cI, 8, .inl P_allBefore))] H → va_D A [(aP, .inr (2, [.ref aP_slots, .ref aP_termsSeen, .ref aP_matches, .ref aP_matchCount, .ref aP_variables, .ref aP_havingVariable, .ref aP_told, .ref aP_parent, .ref aP_allBefore, .int P_required, .int P_hinted, .int P_count])), (aP_variables, .inl (cI, 8, .inl P_variables)), (aP_allBefore, .inl (cI, 8, .inl P_allBefore))] → va_S A s.heap H locs → ∀ ls : Array Slot, lv_has ls 7 [(3, .int x3_35), (4, .int x4_36)] → W p l e rm_f_Planner_nextOnes s m args below meth c H locs 0 0 Q (F0 m 91 ls [])) → W p l e rm_f_Planner_nextOnes s m args below meth c H locs 0 0 Q (F0 m 14 ls []) := by
    intro k
    induction k with
    | zero =>
      intro x3_32 x4_33 x5_34 o_31 hf
      exact absurd (((f_Planner_nextOnes_L0_z n x0 P_required P_count P_variables P_allBefore r_2 x3_32 x4_33 x5_34).symm.trans hf)) (fun h => by cases h)
    | succ k ih =>
      intro x3_32 x4_33 x5_34 o_31 hf H locs hP hD hS ls hl hX_31
      have hf := (f_Planner_nextOnes_L0_s n x0 P_required P_count P_variables P_allBefore r_2 k x3_32 x4_33 x5_34).symm.trans hf
      refine lv_iload hx hb dX4_nextOnes_14 (lv_at hl 5 rfl) ?_
      refine lv_aload_n hx hb dX4_nextOnes_16 rfl (lv_at hl 1 rfl) ?_
      refine va_getN (D := D) (ci := 2) (v := .int P_count) (C := RX2) (T := TX2) (N := 12) hx hb htg giX2 hown hK hP 0 rfl rfl 11 (by decide) (va_Nw.use rfl (hN _ kn_63)) (fun _ h9 => h9) rfl dX4_nextOnes_17 ?_
      refine lv_icmp_ge (tgt := 91) hx hb dX4_nextOnes_20 (by decide) (fun c_37 => ?_) (fun c_37 => ?_)
      · have hf := xb_t c_37 hf
        exact hX_31 x3_32 x4_33 hf _ _ hP hD hS _ (lv_sub hl [3, 4] rfl)
      · have hf := xb_f c_37 hf
        refine lv_aload_n hx hb dX4_nextOnes_23 rfl (lv_at hl 1 rfl) ?_
        refine va_getN (D := D) (ci := 2) (v := .int P_required) (C := RX2) (T := TX2) (N := 12) hx hb htg giX2 hown hK hP 0 rfl rfl 9 (by decide) (va_Nw.use rfl (hN _ kn_59)) (fun _ h9 => h9) rfl dX4_nextOnes_24 ?_
        refine lv_iload_n hx hb dX4_nextOnes_27 rfl (lv_at hl 0 rfl) ?_
        refine lv_iconst (v := (-1 : Int32)) hx hb dX4_nextOnes_28 (by decide) ?_
        refine lv_ixor hx hb dX4_nextOnes_29 ?_
        refine lv_iand hx hb dX4_nextOnes_30 ?_
        refine lv_iload hx hb dX4_nextOnes_31 (lv_at hl 5 rfl) ?_
        refine x_z (xrSN (As := [.int (P_required &&& (x0 ^^^ (-1 : Int32))), .int x5_34]) (rest := []) ⟨hx, hb, hml, hown, htg⟩ (c_f_JoinOrder_inSet l D cI cJ cZ _ (P_required &&& (x0 ^^^ (-1 : Int32))) x5_34 rfl) kc_f_JoinOrder_inSet kn_385 kw_306 kw_1 dd_f_JoinOrder_inSet ⟨Nat.le_of_ble_eq_true rfl, Nat.le_of_ble_eq_true rfl⟩ rfl rfl (hP.sub [] rfl) (hD.sub [] (by decide) rfl) hK hN rfl hl.1 rfl (Nat.le_of_ble_eq_true rfl) dX4_nextOnes_33 ⟨Nat.le_of_ble_eq_true rfl, Nat.le_of_ble_eq_true rfl⟩) hP hD hS hA [] [0, 1, 2] rfl rfl (by decide) (by decide) (fun _ H locs bz_38 hP hD hS => ?_)
        have hP : va_P D vwCl [(aP, .inr (2, [.ref aP_slots, .ref aP_termsSeen, .ref aP_matches, .ref aP_matchCount, .ref aP_variables, .ref aP_havingVariable, .ref aP_told, .ref aP_parent, .ref aP_allBefore, .int P_required, .int P_hinted, .int P_count])), (aP_variables, .inl (cI, 8, .inl P_variables)), (aP_allBefore, .inl (cI, 8, .inl P_allBefore))] H := hP
        have hD : va_D A [(aP, .inr (2, [.ref aP_slots, .ref aP_termsSeen, .ref aP_matches, .ref aP_matchCount, .ref aP_variables, .ref aP_havingVariable, .ref aP_told, .ref aP_parent, .ref aP_allBefore, .int P_required, .int P_hinted, .int P_count])), (aP_variables, .inl (cI, 8, .inl P_variables)), (aP_allBefore, .inl (cI, 8, .inl P_allBefore))] := hD
        refine lv_topi (fun x6_39 ex6_39 => ?_)
        have hf := nm_nm ex6_39 hf
        refine lv_istore (lv' := [(6, .int x6_39), (0, .int x0), (1, .ref aP), (2, .int r_2), (3, .int x3_32), (4, .int x4_33), (5, .int x5_34)]) hx hb dX4_nextOnes_36 hl (by decide) rfl (fun ls hl => ?_)
        refine lv_iload hx hb dX4_nextOnes_38 (lv_at hl 0 rfl) ?_
        refine lv_if_eq (tgt := 85) hx hb dX4_nextOnes_40 (by decide) (fun c_40 => ?_) (fun c_40 => ?_)
        · have hf := xb_t c_40 hf
          obtain ⟨x5_41, ex5_41⟩ : ∃ y : Int32, y = x5_34 + (1 : Int32) := ⟨_, rfl⟩
          have hf := nm_nm ex5_41 hf
          refine lv_iinc (v := x5_41) (lv' := [(5, .int x5_41), (6, .int x6_39), (0, .int x0), (1, .ref aP), (2, .int r_2), (3, .int x3_32), (4, .int x4_33)]) hx hb dX4_nextOnes_85 hl (k := 6) rfl (by rw [ex5_41]; rfl) (by decide) rfl (fun ls hl => ?_)
          refine lv_goto (tgt := 14) hx hb dX4_nextOnes_88 (by decide) ?_
          exact ih x3_32 x4_33 x5_41 o_31 hf _ _ hP hD hS _ (lv_sub hl [2, 3, 4, 5, 6, 0] rfl) hX_31
        · have hf := xb_f c_40 hf
          refine lv_aload_n hx hb dX4_nextOnes_43 rfl (lv_at hl 2 rfl) ?_
          refine va_getN (D := D) (ci := 2) (v := .ref aP_allBefore) (C := RX2) (T := TX2) (N := 12) hx hb htg giX2 hown hK hP 0 rfl rfl 8 (by decide) (va_Nw.use rfl (hN _ kn_58)) (fun _ h9 => h9) rfl dX4_nextOnes_44 ?_
          refine lv_iload hx hb dX4_nextOnes_47 (lv_at hl 6 rfl) ?_
          have g_42 : vp_in x5_34 8 := gd_in hf
          have hf := gd_el hf
          refine va_iald hx hb hK hP 2 0 rfl rfl g_42 dX4_nextOnes_49 ?_
          refine lv_iload_n hx hb dX4_nextOnes_50 rfl (lv_at hl 1 rfl) ?_
          refine lv_iconst (v := (-1 : Int32)) hx hb dX4_nextOnes_51 (by decide) ?_
          refine lv_ixor hx hb dX4_nextOnes_52 ?_
          refine lv_iand hx hb dX4_nextOnes_53 ?_
          refine lv_if_ne (tgt := 85) hx hb dX4_nextOnes_54 (by decide) (fun c_43 => ?_) (fun c_43 => ?_)
          · have hf := xb_f c_43 hf
            obtain ⟨x5_44, ex5_44⟩ : ∃ y : Int32, y = x5_34 + (1 : Int32) := ⟨_, rfl⟩
            have hf := nm_nm ex5_44 hf
            refine lv_iinc (v := x5_44) (lv' := [(5, .int x5_44), (6, .int x6_39), (0, .int x0), (1, .ref aP), (2, .int r_2), (3, .int x3_32), (4, .int x4_33)]) hx hb dX4_nextOnes_85 hl (k := 6) rfl (by rw [ex5_44]; rfl) (by decide) rfl (fun ls hl => ?_)
            refine lv_goto (tgt := 14) hx hb dX4_nextOnes_88 (by decide) ?_
            exact ih x3_32 x4_33 x5_44 o_31 hf _ _ hP hD hS _ (lv_sub hl [2, 3, 4, 5, 6, 0] rfl) hX_31
          · have hf := xb_t c_43 hf
            refine lv_iload_n hx hb dX4_nextOnes_57 rfl (lv_at hl 4 rfl) ?_
            refine lv_iconst (v := (1 : Int32)) hx hb dX4_nextOnes_58 (by decide) ?_
            refine lv_iload hx hb dX4_nextOnes_59 (lv_at hl 6 rfl) ?_
            refine lv_ishl hx hb dX4_nextOnes_61 ?_
            refine lv_ior hx hb dX4_nextOnes_62 ?_
            refine lv_topi (fun x3_45 ex3_45 => ?_)
            have hf := nm_nm ex3_45 hf
            refine lv_istore_n (lv' := [(3, .int x3_45), (6, .int x6_39), (0, .int x0), (1, .ref aP), (2, .int r_2), (4, .int x4_33), (5, .int x5_34)]) hx hb dX4_nextOnes_63 rfl hl (by decide) rfl (fun ls hl => ?_)
            refine lv_aload_n hx hb dX4_nextOnes_64 rfl (lv_at hl 3 rfl) ?_
            refine va_getN (D := D) (ci := 2) (v := .ref aP_variables) (C := RX2) (T := TX2) (N := 12) hx hb htg giX2 hown hK hP 0 rfl rfl 4 (by decide) (va_Nw.use rfl (hN _ kn_50)) (fun _ h9 => h9) rfl dX4_nextOnes_65 ?_
            refine lv_iload hx hb dX4_nextOnes_68 (lv_at hl 6 rfl) ?_
            refine va_iald hx hb hK hP 1 0 rfl rfl g_42 dX4_nextOnes_70 ?_
            refine lv_iload_n hx hb dX4_nextOnes_71 rfl (lv_at hl 4 rfl) ?_
            refine lv_iand hx hb dX4_nextOnes_72 ?_
            refine lv_if_eq (tgt := 85) hx hb dX4_nextOnes_73 (by decide) (fun c_46 => ?_) (fun c_46 => ?_)
            · have hf := xb_t c_46 hf
              obtain ⟨x5_47, ex5_47⟩ : ∃ y : Int32, y = x5_34 + (1 : Int32) := ⟨_, rfl⟩
              have hf := nm_nm ex5_47 hf
              refine lv_iinc (v := x5_47) (lv' := [(5, .int x5_47), (3, .int x3_45), (6, .int x6_39), (0, .int x0), (1, .ref aP), (2, .int r_2), (4, .int x4_33)]) hx hb dX4_nextOnes_85 hl (k := 6) rfl (by rw [ex5_47]; rfl) (by decide) rfl (fun ls hl => ?_)
              refine lv_goto (tgt := 14) hx hb dX4_nextOnes_88 (by decide) ?_
              exact ih x3_45 x4_33 x5_47 o_31 hf _ _ hP hD hS _ (lv_sub hl [3, 4, 5, 1, 6, 0] rfl) hX_31
            · have hf := xb_f c_46 hf
              refine lv_iload hx hb dX4_nextOnes_76 (lv_at hl 5 rfl) ?_
              refine lv_iconst (v := (1 : Int32)) hx hb dX4_nextOnes_78 (by decide) ?_
              refine lv_iload hx hb dX4_nextOnes_79 (lv_at hl 6 rfl) ?_
              refine lv_ishl hx hb dX4_nextOnes_81 ?_
              refine lv_ior hx hb dX4_nextOnes_82 ?_
              refine lv_topi (fun x4_48 ex4_48 => ?_)
              have hf := nm_nm ex4_48 hf
              refine lv_istore (lv' := [(4, .int x4_48), (3, .int x3_45), (6, .int x6_39), (0, .int x0), (1, .ref aP), (2, .int r_2), (5, .int x5_34)]) hx hb dX4_nextOnes_83 hl (by decide) rfl (fun ls hl => ?_)
              obtain ⟨x5_49, ex5_49⟩ : ∃ y : Int32, y = x5_34 + (1 : Int32) := ⟨_, rfl⟩
              have hf := nm_nm ex5_49 hf
              refine lv_iinc (v := x5_49) (lv' := [(5, .int x5_49), (4, .int x4_48), (3, .int x3_45), (6, .int x6_39), (0, .int x0), (1, .ref aP), (2, .int r_2)]) hx hb dX4_nextOnes_85 hl (k := 6) rfl (by rw [ex5_49]; rfl) (by decide) rfl (fun ls hl => ?_)
              refine lv_goto (tgt := 14) hx hb dX4_nextOnes_88 (by decide) ?_
              exact ih x3_45 x4_48 x5_49 o_31 hf _ _ hP hD hS _ (lv_sub hl [4, 5, 6, 2, 1, 0] rfl) hX_31
  obtain ⟨o_31, ho_31, hk_31⟩ := bn2_s hf
  refine L_14_31 n (0 : Int32) (0 : Int32) (0 : Int32) o_31 ho_31 _ _ (hP.sub [1, 2, 0] rfl) (hD.sub [1, 2, 0] (by decide) rfl) hS _ (lv_sub hl [4, 5, 3, 2, 1, 0] rfl) (fun x3_35 x4_36 hf H locs hP hD hS ls hl => ?_)
  have hf := hk_31 _ _ hf
  refine lv_iload hx hb dX4_nextOnes_91 (lv_at hl 1 rfl) ?_
  refine lv_if_eq (tgt := 101) hx hb dX4_nextOnes_93 (by decide) (fun c_50 => ?_) (fun c_50 => ?_)
  · have hf := xb_t c_50 hf
    refine lv_iload_n hx hb dX4_nextOnes_101 rfl (lv_at hl 0 rfl) ?_
    have hf := Option.some.inj hf
    cases hf
    exact x_iret (fun _ => 0) hQ hx hb hr hlk hK hP hD hS dX4_nextOnes_102
  · have hf := xb_f c_50 hf
    refine lv_iload hx hb dX4_nextOnes_96 (lv_at hl 1 rfl) ?_
    refine lv_goto (tgt := 102) hx hb dX4_nextOnes_98 (by decide) ?_
    have hf := Option.some.inj hf
    cases hf
    exact x_iret (fun _ => 0) hQ hx hb hr hlk hK hP hD hS dX4_nextOnes_102
abbrev rm_f_Planner_costThrough : Room := { frames := 0, cells := 0, slots := 0, locals := 0 }
set_option maxHeartbeats 4000000 in
set_option maxRecDepth 100000 in
theorem c_f_Planner_costThrough (l : Launch) (D : va_G) (cI cJ cZ : ClassId) (sz : Nat) (aQ : Nat) (x1 : Int32) (x2 : Int32) (aQ_spreads : Nat) (aQ_sizes : Nat) (aQ_estimates : Nat) (aQ_costAhead : Nat) (Q_estimates : Nat → Int64) (Q_costAhead : Nat → Int64) {r : Int64} (hf : f_Planner_costThrough x1 x2 Q_estimates Q_costAhead = some r) : Met l yX4_costThrough (.code yX4_costThrough cX4_costThrough 4 (some .long) :: GW) rm_f_Planner_costThrough (va_Pc [.ref aQ, .int x1, .int x2] (xP D (xT cI cJ cZ) sz [(aQ, .inr (4, [.ref aQ_spreads, .ref aQ_sizes, .ref aQ_estimates, .ref aQ_costAhead])), (aQ_estimates, .inl (cJ, 256, .inr (.inl Q_estimates))), (aQ_costAhead, .inl (cJ, 256, .inr (.inl Q_costAhead)))])) (va_Ql (fun r2 (_ : Nat → Nat) => r2 = r) (bB D (xT cI cJ cZ) (fun _ => [(aQ, .inr (4, [.ref aQ_spreads, .ref aQ_sizes, .ref aQ_estimates, .ref aQ_costAhead])), (aQ_estimates, .inl (cJ, 256, .inr (.inl Q_estimates))), (aQ_costAhead, .inl (cJ, 256, .inr (.inl Q_costAhead)))]) (va_A [(aQ, .inr (4, [.ref aQ_spreads, .ref aQ_sizes, .ref aQ_estimates, .ref aQ_costAhead])), (aQ_estimates, .inl (cJ, 256, .inr (.inl Q_estimates))), (aQ_costAhead, .inl (cJ, 256, .inr (.inl Q_costAhead)))] sz)) (va_A [(aQ, .inr (4, [.ref aQ_spreads, .ref aQ_sizes, .ref aQ_estimates, .ref aQ_costAhead])), (aQ_estimates, .inl (cJ, 256, .inr (.inl Q_estimates))), (aQ_costAhead, .inl (cJ, 256, .inr (.inl Q_costAhead)))] sz)) 0 0 (va_A [(aQ, .inr (4, [.ref aQ_spreads, .ref aQ_sizes, .ref aQ_estimates, .ref aQ_costAhead])), (aQ_estimates, .inl (cJ, 256, .inr (.inl Q_estimates))), (aQ_costAhead, .inl (cJ, 256, .inr (.inl Q_costAhead)))] sz) := by
  refine con_start (Qc := fun A => va_Ql (fun r2 (_ : Nat → Nat) => r2 = r) (bB D (xT cI cJ cZ) (fun _ => [(aQ, .inr (4, [.ref aQ_spreads, .ref aQ_sizes, .ref aQ_estimates, .ref aQ_costAhead])), (aQ_estimates, .inl (cJ, 256, .inr (.inl Q_estimates))), (aQ_costAhead, .inl (cJ, 256, .inr (.inl Q_costAhead)))]) A) A) (by decide) (Nat.le_of_ble_eq_true rfl) ?_
  intro p e s m args below meth c Q A hx hb hr hlk hml hown hin htg hN hK hQ hA hP hD hS ls hl
  have hl : lv_has ls 4 [(0, .ref aQ), (1, .int x1), (2, .int x2)] := hl
  have hown : s.vm.findClass RX4 = some m.cls := hown
  have hf := (f_Planner_costThrough_u x1 x2 Q_estimates Q_costAhead).symm.trans hf
  refine lv_iload_n hx hb dX4_costThrough_0 rfl (lv_at hl 1 rfl) ?_
  refine lv_iconst (v := (1 : Int32)) hx hb dX4_costThrough_1 (by decide) ?_
  refine lv_iload_n hx hb dX4_costThrough_2 rfl (lv_at hl 2 rfl) ?_
  refine lv_ishl hx hb dX4_costThrough_3 ?_
  refine lv_ior hx hb dX4_costThrough_4 ?_
  refine lv_topi (fun x3_1 ex3_1 => ?_)
  have hf := nm_nm ex3_1 hf
  refine lv_istore_n (lv' := [(3, .int x3_1), (0, .ref aQ), (1, .int x1), (2, .int x2)]) hx hb dX4_costThrough_5 rfl hl (by decide) rfl (fun ls hl => ?_)
  refine lv_aload_n hx hb dX4_costThrough_6 rfl (lv_at hl 1 rfl) ?_
  refine va_get (D := D) (ci := 4) (v := .ref aQ_estimates) (C := RX4) (T := TX4) (N := 4) hx hb htg giX4 hown hK hP 0 rfl rfl 2 (by decide) (htg _ kw_124) (fun _ h9 => h9) rfl dX4_costThrough_7 ?_
  refine lv_iload_n hx hb dX4_costThrough_10 rfl (lv_at hl 0 rfl) ?_
  have g_2 : vp_in x3_1 256 := gd_in hf
  have hf := gd_el hf
  refine va_lald hx hb hK hP 1 1 rfl rfl g_2 dX4_costThrough_11 ?_
  refine lv_aload_n hx hb dX4_costThrough_12 rfl (lv_at hl 1 rfl) ?_
  refine va_get (D := D) (ci := 4) (v := .ref aQ_costAhead) (C := RX4) (T := TX4) (N := 4) hx hb htg giX4 hown hK hP 0 rfl rfl 3 (by decide) (htg _ kw_125) (fun _ h9 => h9) rfl dX4_costThrough_13 ?_
  refine lv_iload_n hx hb dX4_costThrough_16 rfl (lv_at hl 0 rfl) ?_
  refine va_lald hx hb hK hP 2 1 rfl rfl g_2 dX4_costThrough_17 ?_
  refine lv_ladd hx hb dX4_costThrough_18 ?_
  have hf := Option.some.inj hf
  cases hf
  exact x_lret (fun _ => 0) hQ hx hb hr hlk hK hP hD hS dX4_costThrough_19
abbrev rm_f_Math_minL : Room := { frames := 0, cells := 0, slots := 0, locals := 0 }
set_option maxHeartbeats 4000000 in
set_option maxRecDepth 100000 in
theorem c_f_Math_minL (l : Launch) (D : va_G) (cI cJ cZ : ClassId) (sz : Nat) (x0 : Int64) (x2 : Int64) {r : Int64} (hf : f_Math_minL x0 x2 = r) : Met l yJM_min_ (.code yJM_min_ cJM_min_ 4 (some .long) :: GW) rm_f_Math_minL (va_Pc [.long x0, .long x2] (xP D (xT cI cJ cZ) sz [])) (va_Ql (fun r2 (_ : Nat → Nat) => r2 = r) (bB D (xT cI cJ cZ) (fun _ => []) (va_A [] sz)) (va_A [] sz)) 0 0 (va_A [] sz) := by
  refine con_start (Qc := fun A => va_Ql (fun r2 (_ : Nat → Nat) => r2 = r) (bB D (xT cI cJ cZ) (fun _ => []) A) A) (by decide) (Nat.le_of_ble_eq_true rfl) ?_
  intro p e s m args below meth c Q A hx hb hr hlk hml hown hin htg hN hK hQ hA hP hD hS ls hl
  have hl : lv_has ls 4 [(0, .long x0), (2, .long x2)] := hl
  have hown : s.vm.findClass RJM = some m.cls := hown
  have hf := (f_Math_minL_u x0 x2).symm.trans hf
  refine lv_lload_n hx hb dJM_min__0 rfl (lv_at hl 0 rfl) ?_
  refine lv_lload_n hx hb dJM_min__1 rfl (lv_at hl 1 rfl) ?_
  refine W.lcmp hx hb dJM_min__2 ?_
  refine lv_if_gt (tgt := 10) hx hb dJM_min__3 (by decide) (fun c_1 => ?_) (fun c_1 => ?_)
  · have hf := xb_t c_1 hf
    refine lv_lload_n hx hb dJM_min__10 rfl (lv_at hl 1 rfl) ?_
    have hf := hf
    cases hf
    exact x_lret (fun _ => 0) hQ hx hb hr hlk hK hP hD hS dJM_min__11
  · have hf := xb_f c_1 hf
    refine lv_lload_n hx hb dJM_min__6 rfl (lv_at hl 0 rfl) ?_
    refine lv_goto (tgt := 11) hx hb dJM_min__7 (by decide) ?_
    have hf := hf
    cases hf
    exact x_lret (fun _ => 0) hQ hx hb hr hlk hK hP hD hS dJM_min__11
