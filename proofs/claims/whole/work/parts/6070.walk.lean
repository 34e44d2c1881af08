abbrev rm_f_JoinOrderModel_mayCome : Room := { frames := 1, cells := 0, slots := 0, locals := 24 }
set_option maxHeartbeats 4000000 in
set_option maxRecDepth 100000 in
theorem c_f_JoinOrderModel_mayCome (l : Launch) (D : va_G) (cI cJ cZ : ClassId) (sz : Nat) (n : Nat) (aR : Nat) (x1 : Int32) (x2 : Int32) (R_triples : Int32) (aR_facts : Nat) (R_patterns : Int32) (aR_cells : Nat) (aR_told : Nat) (aR_of : Nat) (aR_hints : Nat) (R_filters : Int32) (aR_looks : Nat) (aR_kinds : Nat) (aR_values : Nat) (aR_isSafe : Nat) (aR_sizes : Nat) (aR_spreads : Nat) (aR_isSeen : Nat) (aR_estimates : Nat) (aR_rest : Nat) (R_steps : Int32) (aR_order : Nat) (aR_joins : Nat) (aR_actsBehind : Nat) (aR_upTo : Nat) (R_filtersThen : Int32) (aR_behind : Nat) (R_rows : Int32) (aR_row : Nat) (aR_found : Nat) (R_comes : Int32) (aR_next : Nat) (aR_nextFound : Nat) (R_kept : Int32) (R_hasRoom : Int32) (aR_keep : Nat) (aR_isTaken : Nat) (R_hints : Nat → Int32) (R_spreads : Nat → Int32) {r : Int32} (hf : f_JoinOrderModel_mayCome n x1 x2 R_patterns R_hints R_spreads = some r) : Met l yX7_mayCome (.code yX7_mayCome cX7_mayCome 8 (some .int) :: GW) rm_f_JoinOrderModel_mayCome (va_Pc [.ref aR, .int x1, .int x2] (xP D (xT cI cJ cZ) sz [(aR, .inr (7, [.int R_triples, .ref aR_facts, .int R_patterns, .ref aR_cells, .ref aR_told, .ref aR_of, .ref aR_hints, .int R_filters, .ref aR_looks, .ref aR_kinds, .ref aR_values, .ref aR_isSafe, .ref aR_sizes, .ref aR_spreads, .ref aR_isSeen, .ref aR_estimates, .ref aR_rest, .int R_steps, .ref aR_order, .ref aR_joins, .ref aR_actsBehind, .ref aR_upTo, .int R_filtersThen, .ref aR_behind, .int R_rows, .ref aR_row, .ref aR_found, .int R_comes, .ref aR_next, .ref aR_nextFound, .int R_kept, .int R_hasRoom, .ref aR_keep, .ref aR_isTaken])), (aR_hints, .inl (cZ, 64, .inl R_hints)), (aR_spreads, .inl (cI, 64, .inl R_spreads))])) (va_Qi (fun r2 (_ : Nat → Nat) => r2 = r) (bB D (xT cI cJ cZ) (fun _ => [(aR, .inr (7, [.int R_triples, .ref aR_facts, .int R_patterns, .ref aR_cells, .ref aR_told, .ref aR_of, .ref aR_hints, .int R_filters, .ref aR_looks, .ref aR_kinds, .ref aR_values, .ref aR_isSafe, .ref aR_sizes, .ref aR_spreads, .ref aR_isSeen, .ref aR_estimates, .ref aR_rest, .int R_steps, .ref aR_order, .ref aR_joins, .ref aR_actsBehind, .ref aR_upTo, .int R_filtersThen, .ref aR_behind, .int R_rows, .ref aR_row, .ref aR_found, .int R_comes, .ref aR_next, .ref aR_nextFound, .int R_kept, .int R_hasRoom, .ref aR_keep, .ref aR_isTaken])), (aR_hints, .inl (cZ, 64, .inl R_hints)), (aR_spreads, .inl (cI, 64, .inl R_spreads))]) (va_A [(aR, .inr (7, [.int R_triples, .ref aR_facts, .int R_patterns, .ref aR_cells, .ref aR_told, .ref aR_of, .ref aR_hints, .int R_filters, .ref aR_looks, .ref aR_kinds, .ref aR_values, .ref aR_isSafe, .ref aR_sizes, .ref aR_spreads, .ref aR_isSeen, .ref aR_estimates, .ref aR_rest, .int R_steps, .ref aR_order, .ref aR_joins, .ref aR_actsBehind, .ref aR_upTo, .int R_filtersThen, .ref aR_behind, .int R_rows, .ref aR_row, .ref aR_found, .int R_comes, .ref aR_next, .ref aR_nextFound, .int R_kept, .int R_hasRoom, .ref aR_keep, .ref aR_isTaken])), (aR_hints, .inl (cZ, 64, .inl R_hints)), (aR_spreads, .inl (cI, 64, .inl R_spreads))] sz)) (va_A [(aR, .inr (7, [.int R_triples, .ref aR_facts, .int R_patterns, .ref aR_cells, .ref aR_told, .ref aR_of, .ref aR_hints, .int R_filters, .ref aR_looks, .ref aR_kinds, .ref aR_values, .ref aR_isSafe, .ref aR_sizes, .ref aR_spreads, .ref aR_isSeen, .ref aR_estimates, .ref aR_rest, .int R_steps, .ref aR_order, .ref aR_joins, .ref aR_actsBehind, .ref aR_upTo, .int R_filtersThen, .ref aR_behind, .int R_rows, .ref aR_row, .ref aR_found, .int R_comes, .ref aR_next, .ref aR_nextFound, .int R_kept, .int R_hasRoom, .ref aR_keep, .ref aR_isTaken])), (aR_hints, .inl (cZ, 64, .inl R_hints)), (aR_spreads, .inl (cI, 64, .inl R_spreads))] sz)) 0 0 (va_A [(aR, .inr (7, [.int R_triples, .ref aR_facts, .int R_patterns, .ref aR_cells, .ref aR_told, .ref aR_of, .ref aR_hints, .int R_filters, .ref aR_looks, .ref aR_kinds, .ref aR_values, .ref aR_isSafe, .ref aR_sizes, .ref aR_spreads, .ref aR_isSeen, .ref aR_estimates, .ref aR_rest, .int R_steps, .ref aR_order, .ref aR_joins, .ref aR_actsBehind, .ref aR_upTo, .int R_filtersThen, .ref aR_behind, .int R_rows, .ref aR_row, .ref aR_found, .int R_comes, .ref aR_next, .ref aR_nextFound, .int R_kept, .int R_hasRoom, .ref aR_keep, .ref aR_isTaken])), (aR_hints, .inl (cZ, 64, .inl R_hints)), (aR_spreads, .inl (cI, 64, .inl R_spreads))] sz) := by
  refine con_start (y := yX7_mayCome) (bytes := cX7_mayCome) (maxL := 8) (av := [.ref aR, .int x1, .int x2]) (Qc := fun A => va_Qi (fun r2 (_ : Nat → Nat) => r2 = r) (bB D (xT cI cJ cZ) (fun _ => [(aR, .inr (7, [.int R_triples, .ref aR_facts, .int R_patterns, .ref aR_cells, .ref aR_told, .ref aR_of, .ref aR_hints, .int R_filters, .ref aR_looks, .ref aR_kinds, .ref aR_values, .ref aR_isSafe, .ref aR_sizes, .ref aR_spreads, .ref aR_isSeen, .ref aR_estimates, .ref aR_rest, .int R_steps, .ref aR_order, .ref aR_joins, .ref aR_actsBehind, .ref aR_upTo, .int R_filtersThen, .ref aR_behind, .int R_rows, .ref aR_row, .ref aR_found, .int R_comes, .ref aR_next, .ref aR_nextFound, .int R_kept, .int R_hasRoom, .ref aR_keep, .ref aR_isTaken])), (aR_hints, .inl (cZ, 64, .inl R_hints)), (aR_spreads, .inl (cI, 64, .inl R_spreads))]) A) A) (by decide) (Nat.le_of_ble_eq_true rfl) ?_
  intro p e s m args below meth c Q A hx hb hr hlk hml hown hin htg hN hK hQ hA hP hD hS ls hl
  have hl : lv_has ls 8 [(0, .ref aR), (1, .int x1), (2, .int x2)] := hl
  have hown : s.vm.findClass RX7 = some m.cls := hown
  have hf := (f_JoinOrderModel_mayCome_u n x1 x2 R_patterns R_hints R_spreads).symm.trans hf
  refine lv_iconst (v := (0 : Int32)) hx hb dX7_mayCome_0 (by decide) ?_
  refine lv_istore_n (lv' := [(3, .int (0 : Int32)), (0, .ref aR), (1, .int x1), (2, .int x2)]) hx hb dX7_mayCome_1 rfl hl (by decide) rfl (fun ls hl => ?_)
  refine lv_iconst (v := (0 : Int32)) hx hb dX7_mayCome_2 (by decide) ?_
  refine lv_istore (lv' := [(4, .int (0 : Int32)), (3, .int (0 : Int32)), (0, .ref aR), (1, .int x1), (2, .int x2)]) hx hb dX7_mayCome_3 hl (by decide) rfl (fun ls hl => ?_)
  refine lv_iconst (v := (0 : Int32)) hx hb dX7_mayCome_5 (by decide) ?_
  refine lv_istore (lv' := [(5, .int (0 : Int32)), (4, .int (0 : Int32)), (3, .int (0 : Int32)), (0, .ref aR), (1, .int x1), (2, .int x2)]) hx hb dX7_mayCome_6 hl (by decide) rfl (fun ls hl => ?_)
  have L_8_108 : ∀ (k : Nat) (x3_109 : Int32) (x4_110 : Int32) (x5_111 : Int32) (o_108 : (Int32 × Int32)), f_JoinOrderModel_mayCome_L0 n x1 x2 R_patterns R_hints R_spreads k x3_109 x4_110 x5_111 = some o_108 → ∀ (H : Heap) (locs : List Loc), va_P D vwCl [(aR, .inr (7, [.int R_triples, .ref aR_facts, .int R_patterns, .ref aR_cells, .ref aR_told, .ref aR_of, .ref aR_hints, .int R_filters, .ref aR_looks, .ref aR_kinds, .ref aR_values, .ref aR_isSafe, .ref aR_sizes, .ref aR_spreads, .ref aR_isSeen, .ref aR_estimates, .ref aR_rest, .int R_steps, .ref aR_order, .ref aR_joins, .ref aR_actsBehind, .ref aR_upTo, .int R_filtersThen, .ref aR_behind, .int R_rows, .ref aR_row, .ref aR_found, .int R_comes, .ref aR_next, .ref aR_nextFound, .int R_kept, .int R_hasRoom, .ref aR_keep, .ref aR_isTaken])), (aR_hints, .inl (cZ, 64, .inl R_hints)), (aR_spreads, .inl (cI, 64, .inl R_spreads))] H → va_D A [(aR, .inr (7, [.int R_triples, .ref aR_facts, .int R_patterns, .ref aR_cells, .ref aR_told, .ref aR_of, .ref aR_hints, .int R_filters, .ref aR_looks, .ref aR_kinds, .ref aR_values, .ref aR_isSafe, .ref aR_sizes, .ref aR_spreads, .ref aR_isSeen, .ref aR_estimates, .ref aR_rest, .int R_steps, .ref aR_order, .ref aR_joins, .ref aR_actsBehind, .ref aR_upTo, .int R_filtersThen, .ref aR_behind, .int R_rows, .ref aR_row, .ref aR_found, .int R_comes, .ref aR_next, .ref aR_nextFound, .int R_kept, .int R_hasRoom, .ref aR_keep, .ref aR_isTaken])), (aR_hints, .inl (cZ, 64, .inl R_hints)), (aR_spreads, .inl (cI, 64, .inl R_spreads))] → va_S A s.heap H locs → ∀ ls : Array Slot, lv_has ls 8 [(0, .ref aR), (1, .int x1), (2, .int x2), (3, .int x3_109), (4, .int x4_110), (5, .int x5_111)] → (∀ (x3_112 : Int32) (x4_113 : Int32), some ((x3_112, x4_113)) = some o_108 → ∀ (H : Heap) (locs : List Loc), va_P D vwCl [(aR, .inr (7, [.int R_triples, .ref aR_facts, .int R_patterns, .ref aR_cells, .ref aR_told, .ref aR_of, .ref aR_hints, .int R_filters, .ref aR_looks, .ref aR_kinds, .ref aR_values, .ref aR_isSafe, .ref aR_sizes, .ref aR_spreads, .ref aR_isSeen, .ref aR_estimates, .ref aR_rest, .int R_steps, .ref aR_order, .ref aR_joins, .ref aR_actsBehind, .ref aR_upTo, .int R_filtersThen, .ref aR_behind, .int R_rows, .ref aR_row, .ref aR_found, .int R_comes, .ref aR_next, .ref aR_nextFound, .int R_kept, .int R_hasRoom, .ref aR_keep, .ref aR_isTaken])), (aR_hints, .inl (cZ, 64, .inl R_hints)), (aR_spreads, .inl (cI, 64, .inl R_spreads))] H → va_D A [(aR, .inr (7, [.int R_triples, .ref aR_facts, .int R_patterns, .ref aR_cells, .ref aR_told, .ref aR_of, .ref aR_hints, .int R_filters, .ref aR_looks, .ref aR_kinds, .ref aR_values, .ref aR_isSafe, .ref aR_sizes, .ref aR_spreads, .ref aR_isSeen, .ref aR_estimates, .ref aR_rest, .int R_steps, .ref aR_order, .ref aR_joins, .ref aR_actsBehind, .ref aR_upTo, .int R_filtersThen, .ref aR_behind, .int R_rows, .ref aR_row, .ref aR_found, .int R_comes, .ref aR_next, .ref aR_nextFound, .int R_kept, .int R_hasRoom, .ref aR_keep, .ref aR_isTaken])), (aR_hints, .inl (cZ, 64, .inl R_hints)), (aR_spreads, .inl (cI, 64, .inl R_spreads))] → va_S A s.heap H locs → ∀ ls : Array Slot, lv_has ls 8 [(3, .int x3_112), (4, .int x4_113)] → W p l e rm_f_JoinOrderModel_mayCome s m args below meth c H locs 0 0 Q (F0 m 157 ls [])) → W p l e rm_f_JoinOrderModel_mayCome s m args below meth c H locs 0 0 Q (F0 m 8 ls []) := by
    intro k
    induction k with
    | zero =>
      intro x3_109 x4_110 x5_111 o_108 hf
      exact absurd (((f_JoinOrderModel_mayCome_L0_z n x1 x2 R_patterns R_hints R_spreads x3_109 x4_110 x5_111).symm.trans hf)) (fun h => by cases h)
    | succ k ih =>
      intro x3_109 x4_110 x5_111 o_108 hf H locs hP hD hS ls hl hX_108
      have hf := (f_JoinOrderModel_mayCome_L0_s n x1 x2 R_patterns R_hints R_spreads k x3_109 x4_110 x5_111).symm.trans hf
      refine lv_iload hx hb dX7_mayCome_8 (lv_at hl 5 rfl) ?_
      refine lv_aload_n hx hb dX7_mayCome_10 rfl (lv_at hl 0 rfl) ?_
      refine va_get (D := D) (ci := 7) (v := .int R_patterns) (C := RX7) (T := TX7) (N := 34) hx hb htg giX7 hown hK hP 0 rfl rfl 2 (by decide) (htg _ kw_565) (fun _ h9 => h9) rfl dX7_mayCome_11 ?_
      refine lv_icmp_ge (tgt := 157) hx hb dX7_mayCome_14 (by decide) (fun c_114 => ?_) (fun c_114 => ?_)
      · have hf := xb_t c_114 hf
        exact hX_108 x3_109 x4_110 hf _ _ hP hD hS _ (lv_sub hl [3, 4] rfl)
      · have hf := xb_f c_114 hf
        refine lv_iload_n hx hb dX7_mayCome_17 rfl (lv_at hl 2 rfl) ?_
        refine lv_iload hx hb dX7_mayCome_18 (lv_at hl 5 rfl) ?_
        refine lv_ishr hx hb dX7_mayCome_20 ?_
        refine lv_iconst (v := (1 : Int32)) hx hb dX7_mayCome_21 (by decide) ?_
        refine lv_iand hx hb dX7_mayCome_22 ?_
        refine lv_iconst (v := (1 : Int32)) hx hb dX7_mayCome_23 (by decide) ?_
        obtain ⟨o_117, ho_117, hk_117⟩ := bn1_s hf
        have J_41_117 : ∀ (z_118 : Int32), some (z_118) = some o_117 → ∀ (H : Heap) (locs : List Loc), va_P D vwCl [(aR, .inr (7, [.int R_triples, .ref aR_facts, .int R_patterns, .ref aR_cells, .ref aR_told, .ref aR_of, .ref aR_hints, .int R_filters, .ref aR_looks, .ref aR_kinds, .ref aR_values, .ref aR_isSafe, .ref aR_sizes, .ref aR_spreads, .ref aR_isSeen, .ref aR_estimates, .ref aR_rest, .int R_steps, .ref aR_order, .ref aR_joins, .ref aR_actsBehind, .ref aR_upTo, .int R_filtersThen, .ref aR_behind, .int R_rows, .ref aR_row, .ref aR_found, .int R_comes, .ref aR_next, .ref aR_nextFound, .int R_kept, .int R_hasRoom, .ref aR_keep, .ref aR_isTaken])), (aR_hints, .inl (cZ, 64, .inl R_hints)), (aR_spreads, .inl (cI, 64, .inl R_spreads))] H → va_D A [(aR, .inr (7, [.int R_triples, .ref aR_facts, .int R_patterns, .ref aR_cells, .ref aR_told, .ref aR_of, .ref aR_hints, .int R_filters, .ref aR_looks, .ref aR_kinds, .ref aR_values, .ref aR_isSafe, .ref aR_sizes, .ref aR_spreads, .ref aR_isSeen, .ref aR_estimates, .ref aR_rest, .int R_steps, .ref aR_order, .ref aR_joins, .ref aR_actsBehind, .ref aR_upTo, .int R_filtersThen, .ref aR_behind, .int R_rows, .ref aR_row, .ref aR_found, .int R_comes, .ref aR_next, .ref aR_nextFound, .int R_kept, .int R_hasRoom, .ref aR_keep, .ref aR_isTaken])), (aR_hints, .inl (cZ, 64, .inl R_hints)), (aR_spreads, .inl (cI, 64, .inl R_spreads))] → va_S A s.heap H locs → ∀ ls : Array Slot, lv_has ls 8 [(0, .ref aR), (1, .int x1), (2, .int x2), (3, .int x3_109), (4, .int x4_110), (5, .int x5_111)] → W p l e rm_f_JoinOrderModel_mayCome s m args below meth c H locs 0 0 Q (F0 m 41 ls [.int z_118]) := by
          intro z_118 hf H locs hP hD hS ls hl
          have hf := hk_117 _ hf
          refine lv_istore (lv' := [(6, .int z_118), (0, .ref aR), (1, .int x1), (2, .int x2), (3, .int x3_109), (4, .int x4_110), (5, .int x5_111)]) hx hb dX7_mayCome_41 hl (by decide) rfl (fun ls hl => ?_)
          refine lv_iconst (v := (0 : Int32)) hx hb dX7_mayCome_43 (by decide) ?_
          refine lv_istore (lv' := [(7, .int (0 : Int32)), (6, .int z_118), (0, .ref aR), (1, .int x1), (2, .int x2), (3, .int x3_109), (4, .int x4_110), (5, .int x5_111)]) hx hb dX7_mayCome_44 hl (by decide) rfl (fun ls hl => ?_)
          have L_46_139 : ∀ (k : Nat) (x6_140 : Int32) (x7_141 : Int32) (o_139 : Int32), f_JoinOrderModel_mayCome_L1 n x1 R_patterns R_hints x5_111 k x6_140 x7_141 = some o_139 → ∀ (H : Heap) (locs : List Loc), va_P D vwCl [(aR, .inr (7, [.int R_triples, .ref aR_facts, .int R_patterns, .ref aR_cells, .ref aR_told, .ref aR_of, .ref aR_hints, .int R_filters, .ref aR_looks, .ref aR_kinds, .ref aR_values, .ref aR_isSafe, .ref aR_sizes, .ref aR_spreads, .ref aR_isSeen, .ref aR_estimates, .ref aR_rest, .int R_steps, .ref aR_order, .ref aR_joins, .ref aR_actsBehind, .ref aR_upTo, .int R_filtersThen, .ref aR_behind, .int R_rows, .ref aR_row, .ref aR_found, .int R_comes, .ref aR_next, .ref aR_nextFound, .int R_kept, .int R_hasRoom, .ref aR_keep, .ref aR_isTaken])), (aR_hints, .inl (cZ, 64, .inl R_hints)), (aR_spreads, .inl (cI, 64, .inl R_spreads))] H → va_D A [(aR, .inr (7, [.int R_triples, .ref aR_facts, .int R_patterns, .ref aR_cells, .ref aR_told, .ref aR_of, .ref aR_hints, .int R_filters, .ref aR_looks, .ref aR_kinds, .ref aR_values, .ref aR_isSafe, .ref aR_sizes, .ref aR_spreads, .ref aR_isSeen, .ref aR_estimates, .ref aR_rest, .int R_steps, .ref aR_order, .ref aR_joins, .ref aR_actsBehind, .ref aR_upTo, .int R_filtersThen, .ref aR_behind, .int R_rows, .ref aR_row, .ref aR_found, .int R_comes, .ref aR_next, .ref aR_nextFound, .int R_kept, .int R_hasRoom, .ref aR_keep, .ref aR_isTaken])), (aR_hints, .inl (cZ, 64, .inl R_hints)), (aR_spreads, .inl (cI, 64, .inl R_spreads))] → va_S A s.heap H locs → ∀ ls : Array Slot, lv_has ls 8 [(0, .ref aR), (1, .int x1), (2, .int x2), (3, .int x3_109), (4, .int x4_110), (5, .int x5_111), (6, .int x6_140), (7, .int x7_141)] → (∀ (x6_142 : Int32), some (x6_142) = some o_139 → ∀ (H : Heap) (locs : List Loc), va_P D vwCl [(aR, .inr (7, [.int R_triples, .ref aR_facts, .int R_patterns, .ref aR_cells, .ref aR_told, .ref aR_of, .ref aR_hints, .int R_filters, .ref aR_looks, .ref aR_kinds, .ref aR_values, .ref aR_isSafe, .ref aR_sizes, .ref aR_spreads, .ref aR_isSeen, .ref aR_estimates, .ref aR_rest, .int R_steps, .ref aR_order, .ref aR_joins, .ref aR_actsBehind, .ref aR_upTo, .int R_filtersThen, .ref aR_behind, .int R_rows, .ref aR_row, .ref aR_found, .int R_comes, .ref aR_next, .ref aR_nextFound, .int R_kept, .int R_hasRoom, .ref aR_keep, .ref aR_isTaken])), (aR_hints, .inl (cZ, 64, .inl R_hints)), (aR_spreads, .inl (cI, 64, .inl R_spreads))] H → va_D A [(aR, .inr (7, [.int R_triples, .ref aR_facts, .int R_patterns, .ref aR_cells, .ref aR_told, .ref aR_of, .ref aR_hints, .int R_filters, .ref aR_looks, .ref aR_kinds, .ref aR_values, .ref aR_isSafe, .ref aR_sizes, .ref aR_spreads, .ref aR_isSeen, .ref aR_estimates, .ref aR_rest, .int R_steps, .ref aR_order, .ref aR_joins, .ref aR_actsBehind, .ref aR_upTo, .int R_filtersThen, .ref aR_behind, .int R_rows, .ref aR_row, .ref aR_found, .int R_comes, .ref aR_next, .ref aR_nextFound, .int R_kept, .int R_hasRoom, .ref aR_keep, .ref aR_isTaken])), (aR_hints, .inl (cZ, 64, .inl R_hints)), (aR_spreads, .inl (cI, 64, .inl R_spreads))] → va_S A s.heap H locs → ∀ ls : Array Slot, lv_has ls 8 [(0, .ref aR), (1, .int x1), (2, .int x2), (3, .int x3_109), (4, .int x4_110), (5, .int x5_111), (6, .int x6_142)] → W p l e rm_f_JoinOrderModel_mayCome s m args below meth c H locs 0 0 Q (F0 m 99 ls [])) → W p l e rm_f_JoinOrderModel_mayCome s m args below meth c H locs 0 0 Q (F0 m 46 ls []) := by
            intro k
            induction k with
            | zero =>
              intro x6_140 x7_141 o_139 hf
              exact absurd (((f_JoinOrderModel_mayCome_L1_z n x1 R_patterns R_hints x5_111 x6_140 x7_141).symm.trans hf)) (fun h => by cases h)
            | succ k ih =>
              intro x6_140 x7_141 o_139 hf H locs hP hD hS ls hl hX_139
              have hf := (f_JoinOrderModel_mayCome_L1_s n x1 R_patterns R_hints x5_111 k x6_140 x7_141).symm.trans hf
              refine lv_iload hx hb dX7_mayCome_46 (lv_at hl 7 rfl) ?_
              refine lv_aload_n hx hb dX7_mayCome_48 rfl (lv_at hl 0 rfl) ?_
              refine va_get (D := D) (ci := 7) (v := .int R_patterns) (C := RX7) (T := TX7) (N := 34) hx hb htg giX7 hown hK hP 0 rfl rfl 2 (by decide) (htg _ kw_565) (fun _ h9 => h9) rfl dX7_mayCome_49 ?_
              refine lv_icmp_ge (tgt := 99) hx hb dX7_mayCome_52 (by decide) (fun c_143 => ?_) (fun c_143 => ?_)
              · have hf := xb_t c_143 hf
                exact hX_139 x6_140 hf _ _ hP hD hS _ (lv_sub hl [0, 1, 2, 3, 4, 5, 6] rfl)
              · have hf := xb_f c_143 hf
                refine lv_iload hx hb dX7_mayCome_55 (lv_at hl 6 rfl) ?_
                refine lv_if_eq (tgt := 90) hx hb dX7_mayCome_57 (by decide) (fun c_144 => ?_) (fun c_144 => ?_)
                · have hf := xb_t c_144 hf
                  refine lv_iconst (v := (0 : Int32)) hx hb dX7_mayCome_90 (by decide) ?_
                  refine lv_istore (lv' := [(6, .int (0 : Int32)), (0, .ref aR), (1, .int x1), (2, .int x2), (3, .int x3_109), (4, .int x4_110), (5, .int x5_111), (7, .int x7_141)]) hx hb dX7_mayCome_91 hl (by decide) rfl (fun ls hl => ?_)
                  obtain ⟨x7_145, ex7_145⟩ : ∃ y : Int32, y = x7_141 + (1 : Int32) := ⟨_, rfl⟩
                  have hf := nm_nm ex7_145 hf
                  refine lv_iinc (v := x7_145) (lv' := [(7, .int x7_145), (6, .int (0 : Int32)), (0, .ref aR), (1, .int x1), (2, .int x2), (3, .int x3_109), (4, .int x4_110), (5, .int x5_111)]) hx hb dX7_mayCome_93 hl (k := 7) rfl (by rw [ex7_145]; rfl) (by decide) rfl (fun ls hl => ?_)
                  refine lv_goto (tgt := 46) hx hb dX7_mayCome_96 (by decide) ?_
                  exact ih (0 : Int32) x7_145 o_139 hf _ _ hP hD hS _ (lv_sub hl [2, 3, 4, 5, 6, 7, 1, 0] rfl) hX_139
                · have hf := xb_f c_144 hf
                  refine lv_aload_n hx hb dX7_mayCome_60 rfl (lv_at hl 0 rfl) ?_
                  refine va_get (D := D) (ci := 7) (v := .ref aR_hints) (C := RX7) (T := TX7) (N := 34) hx hb htg giX7 hown hK hP 0 rfl rfl 6 (by decide) (htg _ kw_569) (fun _ h9 => h9) rfl dX7_mayCome_61 ?_
                  refine lv_bipush (v := (8 : Int32)) hx hb dX7_mayCome_64 (by decide) ?_
                  refine lv_iload hx hb dX7_mayCome_66 (lv_at hl 7 rfl) ?_
                  refine lv_imul hx hb dX7_mayCome_68 ?_
                  refine lv_iload hx hb dX7_mayCome_69 (lv_at hl 5 rfl) ?_
                  refine lv_iadd hx hb dX7_mayCome_71 ?_
                  have g_146 : vp_in (((8 : Int32) * x7_141) + x5_111) 64 := gd_in hf
                  have hf := gd_el hf
                  refine va_zald hx hb hK hP 1 2 rfl rfl g_146 dX7_mayCome_72 ?_
                  refine lv_if_eq (tgt := 86) hx hb dX7_mayCome_73 (by decide) (fun c_147 => ?_) (fun c_147 => ?_)
                  · have hf := xb_t c_147 hf
                    refine lv_iconst (v := (1 : Int32)) hx hb dX7_mayCome_86 (by decide) ?_
                    refine lv_goto (tgt := 91) hx hb dX7_mayCome_87 (by decide) ?_
                    refine lv_istore (lv' := [(6, .int (1 : Int32)), (0, .ref aR), (1, .int x1), (2, .int x2), (3, .int x3_109), (4, .int x4_110), (5, .int x5_111), (7, .int x7_141)]) hx hb dX7_mayCome_91 hl (by decide) rfl (fun ls hl => ?_)
                    obtain ⟨x7_148, ex7_148⟩ : ∃ y : Int32, y = x7_141 + (1 : Int32) := ⟨_, rfl⟩
                    have hf := nm_nm ex7_148 hf
                    refine lv_iinc (v := x7_148) (lv' := [(7, .int x7_148), (6, .int (1 : Int32)), (0, .ref aR), (1, .int x1), (2, .int x2), (3, .int x3_109), (4, .int x4_110), (5, .int x5_111)]) hx hb dX7_mayCome_93 hl (k := 7) rfl (by rw [ex7_148]; rfl) (by decide) rfl (fun ls hl => ?_)
                    refine lv_goto (tgt := 46) hx hb dX7_mayCome_96 (by decide) ?_
                    exact ih (1 : Int32) x7_148 o_139 hf _ _ hP hD hS _ (lv_sub hl [2, 3, 4, 5, 6, 7, 1, 0] rfl) hX_139
                  · have hf := xb_f c_147 hf
                    refine lv_iload_n hx hb dX7_mayCome_76 rfl (lv_at hl 1 rfl) ?_
                    refine lv_iload hx hb dX7_mayCome_77 (lv_at hl 7 rfl) ?_
                    refine lv_ishr hx hb dX7_mayCome_79 ?_
                    refine lv_iconst (v := (1 : Int32)) hx hb dX7_mayCome_80 (by decide) ?_
                    refine lv_iand hx hb dX7_mayCome_81 ?_
                    refine lv_iconst (v := (1 : Int32)) hx hb dX7_mayCome_82 (by decide) ?_
                    refine lv_icmp_ne (tgt := 90) hx hb dX7_mayCome_83 (by decide) (fun c_149 => ?_) (fun c_149 => ?_)
                    · have hf := xb_f c_149 hf
                      refine lv_iconst (v := (0 : Int32)) hx hb dX7_mayCome_90 (by decide) ?_
                      refine lv_istore (lv' := [(6, .int (0 : Int32)), (0, .ref aR), (1, .int x1), (2, .int x2), (3, .int x3_109), (4, .int x4_110), (5, .int x5_111), (7, .int x7_141)]) hx hb dX7_mayCome_91 hl (by decide) rfl (fun ls hl => ?_)
                      obtain ⟨x7_150, ex7_150⟩ : ∃ y : Int32, y = x7_141 + (1 : Int32) := ⟨_, rfl⟩
                      have hf := nm_nm ex7_150 hf
                      refine lv_iinc (v := x7_150) (lv' := [(7, .int x7_150), (6, .int (0 : Int32)), (0, .ref aR), (1, .int x1), (2, .int x2), (3, .int x3_109), (4, .int x4_110), (5, .int x5_111)]) hx hb dX7_mayCome_93 hl (k := 7) rfl (by rw [ex7_150]; rfl) (by decide) rfl (fun ls hl => ?_)
                      refine lv_goto (tgt := 46) hx hb dX7_mayCome_96 (by decide) ?_
                      exact ih (0 : Int32) x7_150 o_139 hf _ _ hP hD hS _ (lv_sub hl [2, 3, 4, 5, 6, 7, 1, 0] rfl) hX_139
                    · have hf := xb_t c_149 hf
                      refine lv_iconst (v := (1 : Int32)) hx hb dX7_mayCome_86 (by decide) ?_
                      refine lv_goto (tgt := 91) hx hb dX7_mayCome_87 (by decide) ?_
                      refine lv_istore (lv' := [(6, .int (1 : Int32)), (0, .ref aR), (1, .int x1), (2, .int x2), (3, .int x3_109), (4, .int x4_110), (5, .int x5_111), (7, .int x7_141)]) hx hb dX7_mayCome_91 hl (by decide) rfl (fun ls hl => ?_)
                      obtain ⟨x7_151, ex7_151⟩ : ∃ y : Int32, y = x7_141 + (1 : Int32) := ⟨_, rfl⟩
                      have hf := nm_nm ex7_151 hf
                      refine lv_iinc (v := x7_151) (lv' := [(7, .int x7_151), (6, .int (1 : Int32)), (0, .ref aR), (1, .int x1), (2, .int x2), (3, .int x3_109), (4, .int x4_110), (5, .int x5_111)]) hx hb dX7_mayCome_93 hl (k := 7) rfl (by rw [ex7_151]; rfl) (by decide) rfl (fun ls hl => ?_)
                      refine lv_goto (tgt := 46) hx hb dX7_mayCome_96 (by decide) ?_
                      exact ih (1 : Int32) x7_151 o_139 hf _ _ hP hD hS _ (lv_sub hl [2, 3, 4, 5, 6, 7, 1, 0] rfl) hX_139
          obtain ⟨o_139, ho_139, hk_139⟩ := bn1_s hf
          refine L_46_139 n z_118 (0 : Int32) o_139 ho_139 _ _ hP hD hS _ (lv_sub hl [2, 3, 4, 5, 6, 7, 1, 0] rfl) (fun x6_142 hf H locs hP hD hS ls hl => ?_)
          have hf := hk_139 _ hf
          refine lv_iload hx hb dX7_mayCome_99 (lv_at hl 6 rfl) ?_
          obtain ⟨o_153, ho_153, hk_153⟩ := bn1_s hf
          have J_114_153 : ∀ (z_154 : Int32), some (z_154) = some o_153 → ∀ (H : Heap) (locs : List Loc), va_P D vwCl [(aR, .inr (7, [.int R_triples, .ref aR_facts, .int R_patterns, .ref aR_cells, .ref aR_told, .ref aR_of, .ref aR_hints, .int R_filters, .ref aR_looks, .ref aR_kinds, .ref aR_values, .ref aR_isSafe, .ref aR_sizes, .ref aR_spreads, .ref aR_isSeen, .ref aR_estimates, .ref aR_rest, .int R_steps, .ref aR_order, .ref aR_joins, .ref aR_actsBehind, .ref aR_upTo, .int R_filtersThen, .ref aR_behind, .int R_rows, .ref aR_row, .ref aR_found, .int R_comes, .ref aR_next, .ref aR_nextFound, .int R_kept, .int R_hasRoom, .ref aR_keep, .ref aR_isTaken])), (aR_hints, .inl (cZ, 64, .inl R_hints)), (aR_spreads, .inl (cI, 64, .inl R_spreads))] H → va_D A [(aR, .inr (7, [.int R_triples, .ref aR_facts, .int R_patterns, .ref aR_cells, .ref aR_told, .ref aR_of, .ref aR_hints, .int R_filters, .ref aR_looks, .ref aR_kinds, .ref aR_values, .ref aR_isSafe, .ref aR_sizes, .ref aR_spreads, .ref aR_isSeen, .ref aR_estimates, .ref aR_rest, .int R_steps, .ref aR_order, .ref aR_joins, .ref aR_actsBehind, .ref aR_upTo, .int R_filtersThen, .ref aR_behind, .int R_rows, .ref aR_row, .ref aR_found, .int R_comes, .ref aR_next, .ref aR_nextFound, .int R_kept, .int R_hasRoom, .ref aR_keep, .ref aR_isTaken])), (aR_hints, .inl (cZ, 64, .inl R_hints)), (aR_spreads, .inl (cI, 64, .inl R_spreads))] → va_S A s.heap H locs → ∀ ls : Array Slot, lv_has ls 8 [(0, .ref aR), (1, .int x1), (2, .int x2), (4, .int x4_110), (5, .int x5_111), (6, .int x6_142)] → W p l e rm_f_JoinOrderModel_mayCome s m args below meth c H locs 0 0 Q (F0 m 114 ls [.int z_154]) := by
            intro z_154 hf H locs hP hD hS ls hl
            have hf := hk_153 _ hf
            refine lv_istore_n (lv' := [(3, .int z_154), (0, .ref aR), (1, .int x1), (2, .int x2), (4, .int x4_110), (5, .int x5_111), (6, .int x6_142)]) hx hb dX7_mayCome_114 rfl hl (by decide) rfl (fun ls hl => ?_)
            refine lv_iload hx hb dX7_mayCome_115 (lv_at hl 6 rfl) ?_
            refine lv_if_eq (tgt := 147) hx hb dX7_mayCome_117 (by decide) (fun c_155 => ?_) (fun c_155 => ?_)
            · have hf := xb_t c_155 hf
              refine lv_iload hx hb dX7_mayCome_147 (lv_at hl 4 rfl) ?_
              refine lv_istore (lv' := [(4, .int x4_110), (3, .int z_154), (0, .ref aR), (1, .int x1), (2, .int x2), (5, .int x5_111), (6, .int x6_142)]) hx hb dX7_mayCome_149 hl (by decide) rfl (fun ls hl => ?_)
              obtain ⟨x5_156, ex5_156⟩ : ∃ y : Int32, y = x5_111 + (1 : Int32) := ⟨_, rfl⟩
              have hf := nm_nm ex5_156 hf
              refine lv_iinc (v := x5_156) (lv' := [(5, .int x5_156), (4, .int x4_110), (3, .int z_154), (0, .ref aR), (1, .int x1), (2, .int x2), (6, .int x6_142)]) hx hb dX7_mayCome_151 hl (k := 5) rfl (by rw [ex5_156]; rfl) (by decide) rfl (fun ls hl => ?_)
              refine lv_goto (tgt := 8) hx hb dX7_mayCome_154 (by decide) ?_
              exact ih z_154 x4_110 x5_156 o_108 hf _ _ hP hD hS _ (lv_sub hl [3, 4, 5, 2, 1, 0] rfl) hX_108
            · have hf := xb_f c_155 hf
              refine lv_aload_n hx hb dX7_mayCome_120 rfl (lv_at hl 1 rfl) ?_
              refine lv_iload_n hx hb dX7_mayCome_121 rfl (lv_at hl 2 rfl) ?_
              obtain ⟨r_158, hq_157, hf⟩ := bn1_c hf
              refine x_i (xrV (As := [.int x1]) (b := aR) (rest := []) ⟨hx, hb, hml, hown, htg⟩ (c_f_JoinOrderModel_variablesOf l D cI cJ cZ _ n aR x1 R_triples aR_facts R_patterns aR_cells aR_told aR_of aR_hints R_filters aR_looks aR_kinds aR_values aR_isSafe aR_sizes aR_spreads aR_isSeen aR_estimates aR_rest R_steps aR_order aR_joins aR_actsBehind aR_upTo R_filtersThen aR_behind R_rows aR_row aR_found R_comes aR_next aR_nextFound R_kept R_hasRoom aR_keep aR_isTaken R_spreads hq_157) kc_f_JoinOrderModel_variablesOf kw_758 kw_760 kp_33 kw_8 dd_f_JoinOrderModel_variablesOf ⟨Nat.le_of_ble_eq_true rfl, Nat.le_of_ble_eq_true rfl⟩ rfl rfl (hP.sub [0, 2] rfl) (hD.sub [0, 2] (by decide) rfl) hK hN hP (q0 := 0) rfl rfl rfl hl.1 rfl (Nat.le_of_ble_eq_true rfl) dX7_mayCome_122 ⟨Nat.le_of_ble_eq_true rfl, Nat.le_of_ble_eq_true rfl⟩) hP hD hS hA [0, 2] [1] rfl rfl (by decide) (by decide) (fun _ H locs hP hD hS => ?_)
              have hP : va_P D vwCl [(aR_hints, .inl (cZ, 64, .inl R_hints)), (aR, .inr (7, [.int R_triples, .ref aR_facts, .int R_patterns, .ref aR_cells, .ref aR_told, .ref aR_of, .ref aR_hints, .int R_filters, .ref aR_looks, .ref aR_kinds, .ref aR_values, .ref aR_isSafe, .ref aR_sizes, .ref aR_spreads, .ref aR_isSeen, .ref aR_estimates, .ref aR_rest, .int R_steps, .ref aR_order, .ref aR_joins, .ref aR_actsBehind, .ref aR_upTo, .int R_filtersThen, .ref aR_behind, .int R_rows, .ref aR_row, .ref aR_found, .int R_comes, .ref aR_next, .ref aR_nextFound, .int R_kept, .int R_hasRoom, .ref aR_keep, .ref aR_isTaken])), (aR_spreads, .inl (cI, 64, .inl R_spreads))] H := hP
              have hD : va_D A [(aR_hints, .inl (cZ, 64, .inl R_hints)), (aR, .inr (7, [.int R_triples, .ref aR_facts, .int R_patterns, .ref aR_cells, .ref aR_told, .ref aR_of, .ref aR_hints, .int R_filters, .ref aR_looks, .ref aR_kinds, .ref aR_values, .ref aR_isSafe, .ref aR_sizes, .ref aR_spreads, .ref aR_isSeen, .ref aR_estimates, .ref aR_rest, .int R_steps, .ref aR_order, .ref aR_joins, .ref aR_actsBehind, .ref aR_upTo, .int R_filtersThen, .ref aR_behind, .int R_rows, .ref aR_row, .ref aR_found, .int R_comes, .ref aR_next, .ref aR_nextFound, .int R_kept, .int R_hasRoom, .ref aR_keep, .ref aR_isTaken])), (aR_spreads, .inl (cI, 64, .inl R_spreads))] := hD
              refine lv_aload_n hx hb dX7_mayCome_125 rfl (lv_at hl 1 rfl) ?_
              refine lv_iconst (v := (1 : Int32)) hx hb dX7_mayCome_126 (by decide) ?_
              refine lv_iload hx hb dX7_mayCome_127 (lv_at hl 5 rfl) ?_
              refine lv_ishl hx hb dX7_mayCome_129 ?_
              obtain ⟨r_160, hq_159, hf⟩ := bn1_c hf
              refine x_i (xrV (As := [.int ((1 : Int32) <<< (x5_111 &&& 31))]) (b := aR) (rest := [.int r_158]) ⟨hx, hb, hml, hown, htg⟩ (c_f_JoinOrderModel_variablesOf l D cI cJ cZ _ n aR ((1 : Int32) <<< (x5_111 &&& 31)) R_triples aR_facts R_patterns aR_cells aR_told aR_of aR_hints R_filters aR_looks aR_kinds aR_values aR_isSafe aR_sizes aR_spreads aR_isSeen aR_estimates aR_rest R_steps aR_order aR_joins aR_actsBehind aR_upTo R_filtersThen aR_behind R_rows aR_row aR_found R_comes aR_next aR_nextFound R_kept R_hasRoom aR_keep aR_isTaken R_spreads hq_159) kc_f_JoinOrderModel_variablesOf kw_758 kw_760 kp_33 kw_8 dd_f_JoinOrderModel_variablesOf ⟨Nat.le_of_ble_eq_true rfl, Nat.le_of_ble_eq_true rfl⟩ rfl rfl (hP.sub [1, 2] rfl) (hD.sub [1, 2] (by decide) rfl) hK hN hP (q0 := 1) rfl rfl rfl hl.1 rfl (Nat.le_of_ble_eq_true rfl) dX7_mayCome_130 ⟨Nat.le_of_ble_eq_true rfl, Nat.le_of_ble_eq_true rfl⟩) hP hD hS hA [1, 2] [0] rfl rfl (by decide) (by decide) (fun _ H locs hP hD hS => ?_)
              have hP : va_P D vwCl [(aR_hints, .inl (cZ, 64, .inl R_hints)), (aR, .inr (7, [.int R_triples, .ref aR_facts, .int R_patterns, .ref aR_cells, .ref aR_told, .ref aR_of, .ref aR_hints, .int R_filters, .ref aR_looks, .ref aR_kinds, .ref aR_values, .ref aR_isSafe, .ref aR_sizes, .ref aR_spreads, .ref aR_isSeen, .ref aR_estimates, .ref aR_rest, .int R_steps, .ref aR_order, .ref aR_joins, .ref aR_actsBehind, .ref aR_upTo, .int R_filtersThen, .ref aR_behind, .int R_rows, .ref aR_row, .ref aR_found, .int R_comes, .ref aR_next, .ref aR_nextFound, .int R_kept, .int R_hasRoom, .ref aR_keep, .ref aR_isTaken])), (aR_spreads, .inl (cI, 64, .inl R_spreads))] H := hP
              have hD : va_D A [(aR_hints, .inl (cZ, 64, .inl R_hints)), (aR, .inr (7, [.int R_triples, .ref aR_facts, .int R_patterns, .ref aR_cells, .ref aR_told, .ref aR_of, .ref aR_hints, .int R_filters, .ref aR_looks, .ref aR_kinds, .ref aR_values, .ref aR_isSafe, .ref aR_sizes, .ref aR_spreads, .ref aR_isSeen, .ref aR_estimates, .ref aR_rest, .int R_steps, .ref aR_order, .ref aR_joins, .ref aR_actsBehind, .ref aR_upTo, .int R_filtersThen, .ref aR_behind, .int R_rows, .ref aR_row, .ref aR_found, .int R_comes, .ref aR_next, .ref aR_nextFound, .int R_kept, .int R_hasRoom, .ref aR_keep, .ref aR_isTaken])), (aR_spreads, .inl (cI, 64, .inl R_spreads))] := hD
              refine lv_iand hx hb dX7_mayCome_133 ?_
              refine lv_if_eq (tgt := 147) hx hb dX7_mayCome_134 (by decide) (fun c_161 => ?_) (fun c_161 => ?_)
              · have hf := xb_t c_161 hf
                refine lv_iload hx hb dX7_mayCome_147 (lv_at hl 4 rfl) ?_
                refine lv_istore (lv' := [(4, .int x4_110), (3, .int z_154), (0, .ref aR), (1, .int x1), (2, .int x2), (5, .int x5_111), (6, .int x6_142)]) hx hb dX7_mayCome_149 hl (by decide) rfl (fun ls hl => ?_)
                obtain ⟨x5_162, ex5_162⟩ : ∃ y : Int32, y = x5_111 + (1 : Int32) := ⟨_, rfl⟩
                have hf := nm_nm ex5_162 hf
                refine lv_iinc (v := x5_162) (lv' := [(5, .int x5_162), (4, .int x4_110), (3, .int z_154), (0, .ref aR), (1, .int x1), (2, .int x2), (6, .int x6_142)]) hx hb dX7_mayCome_151 hl (k := 5) rfl (by rw [ex5_162]; rfl) (by decide) rfl (fun ls hl => ?_)
                refine lv_goto (tgt := 8) hx hb dX7_mayCome_154 (by decide) ?_
                exact ih z_154 x4_110 x5_162 o_108 hf _ _ (hP.sub [1, 0, 2] rfl) (hD.sub [1, 0, 2] (by decide) rfl) hS _ (lv_sub hl [3, 4, 5, 2, 1, 0] rfl) hX_108
              · have hf := xb_f c_161 hf
                refine lv_iload hx hb dX7_mayCome_137 (lv_at hl 4 rfl) ?_
                refine lv_iconst (v := (1 : Int32)) hx hb dX7_mayCome_139 (by decide) ?_
                refine lv_iload hx hb dX7_mayCome_140 (lv_at hl 5 rfl) ?_
                refine lv_ishl hx hb dX7_mayCome_142 ?_
                refine lv_ior hx hb dX7_mayCome_143 ?_
                refine lv_goto (tgt := 149) hx hb dX7_mayCome_144 (by decide) ?_
                refine lv_topi (fun x4_163 ex4_163 => ?_)
                have hf := nm_nm ex4_163 hf
                refine lv_istore (lv' := [(4, .int x4_163), (3, .int z_154), (0, .ref aR), (1, .int x1), (2, .int x2), (5, .int x5_111), (6, .int x6_142)]) hx hb dX7_mayCome_149 hl (by decide) rfl (fun ls hl => ?_)
                obtain ⟨x5_164, ex5_164⟩ : ∃ y : Int32, y = x5_111 + (1 : Int32) := ⟨_, rfl⟩
                have hf := nm_nm ex5_164 hf
                refine lv_iinc (v := x5_164) (lv' := [(5, .int x5_164), (4, .int x4_163), (3, .int z_154), (0, .ref aR), (1, .int x1), (2, .int x2), (6, .int x6_142)]) hx hb dX7_mayCome_151 hl (k := 5) rfl (by rw [ex5_164]; rfl) (by decide) rfl (fun ls hl => ?_)
                refine lv_goto (tgt := 8) hx hb dX7_mayCome_154 (by decide) ?_
                exact ih z_154 x4_163 x5_164 o_108 hf _ _ (hP.sub [1, 0, 2] rfl) (hD.sub [1, 0, 2] (by decide) rfl) hS _ (lv_sub hl [3, 4, 5, 2, 1, 0] rfl) hX_108
          have hf := ho_153
          refine lv_if_eq (tgt := 113) hx hb dX7_mayCome_101 (by decide) (fun c_152 => ?_) (fun c_152 => ?_)
          · have hf := xb_t c_152 hf
            refine lv_iload_n hx hb dX7_mayCome_113 rfl (lv_at hl 3 rfl) ?_
            exact J_114_153 x3_109 hf _ _ hP hD hS _ (lv_sub hl [0, 1, 2, 4, 5, 6] rfl)
          · have hf := xb_f c_152 hf
            refine lv_iload_n hx hb dX7_mayCome_104 rfl (lv_at hl 3 rfl) ?_
            refine lv_iconst (v := (1 : Int32)) hx hb dX7_mayCome_105 (by decide) ?_
            refine lv_iload hx hb dX7_mayCome_106 (lv_at hl 5 rfl) ?_
            refine lv_ishl hx hb dX7_mayCome_108 ?_
            refine lv_ior hx hb dX7_mayCome_109 ?_
            refine lv_goto (tgt := 114) hx hb dX7_mayCome_110 (by decide) ?_
            exact J_114_153 (x3_109 ||| ((1 : Int32) <<< (x5_111 &&& 31))) hf _ _ hP hD hS _ (lv_sub hl [0, 1, 2, 4, 5, 6] rfl)
        have hf := ho_117
        refine lv_icmp_ne (tgt := 40) hx hb dX7_mayCome_24 (by decide) (fun c_115 => ?_) (fun c_115 => ?_)
        · have hf := xb_f c_115 hf
          refine lv_iconst (v := (0 : Int32)) hx hb dX7_mayCome_40 (by decide) ?_
          exact J_41_117 (0 : Int32) hf _ _ hP hD hS _ hl
        · have hf := xb_t c_115 hf
          refine lv_iload_n hx hb dX7_mayCome_27 rfl (lv_at hl 1 rfl) ?_
          refine lv_iload hx hb dX7_mayCome_28 (lv_at hl 5 rfl) ?_
          refine lv_ishr hx hb dX7_mayCome_30 ?_
          refine lv_iconst (v := (1 : Int32)) hx hb dX7_mayCome_31 (by decide) ?_
          refine lv_iand hx hb dX7_mayCome_32 ?_
          refine lv_if_ne (tgt := 40) hx hb dX7_mayCome_33 (by decide) (fun c_165 => ?_) (fun c_165 => ?_)
          · have hf := xb_f c_165 hf
            refine lv_iconst (v := (0 : Int32)) hx hb dX7_mayCome_40 (by decide) ?_
            exact J_41_117 (0 : Int32) hf _ _ hP hD hS _ hl
          · have hf := xb_t c_165 hf
            refine lv_iconst (v := (1 : Int32)) hx hb dX7_mayCome_36 (by decide) ?_
            refine lv_goto (tgt := 41) hx hb dX7_mayCome_37 (by decide) ?_
            exact J_41_117 (1 : Int32) hf _ _ hP hD hS _ hl
  obtain ⟨o_108, ho_108, hk_108⟩ := bn2_s hf
  refine L_8_108 n (0 : Int32) (0 : Int32) (0 : Int32) o_108 ho_108 _ _ hP hD hS _ (lv_sub hl [3, 4, 5, 2, 1, 0] rfl) (fun x3_112 x4_113 hf H locs hP hD hS ls hl => ?_)
  have hf := hk_108 _ _ hf
  refine lv_iload hx hb dX7_mayCome_157 (lv_at hl 1 rfl) ?_
  refine lv_if_eq (tgt := 167) hx hb dX7_mayCome_159 (by decide) (fun c_166 => ?_) (fun c_166 => ?_)
  · have hf := xb_t c_166 hf
    refine lv_iload_n hx hb dX7_mayCome_167 rfl (lv_at hl 0 rfl) ?_
    have hf := Option.some.inj hf
    subst hf
    exact x_iret (fun _ => 0) hQ hx hb hr hlk hK hP hD hS dX7_mayCome_168
  · have hf := xb_f c_166 hf
    refine lv_iload hx hb dX7_mayCome_162 (lv_at hl 1 rfl) ?_
    refine lv_goto (tgt := 168) hx hb dX7_mayCome_164 (by decide) ?_
    have hf := Option.some.inj hf
    subst hf
    exact x_iret (fun _ => 0) hQ hx hb hr hlk hK hP hD hS dX7_mayCome_168
