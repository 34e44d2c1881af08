abbrev rm_f_JoinOrderModel_matches : Room := { frames := 0, cells := 0, slots := 0, locals := 0 }
set_option maxHeartbeats 4000000 in
set_option maxRecDepth 100000 in
theorem c_f_JoinOrderModel_matches (l : Launch) (D : va_G) (cI cJ cZ : ClassId) (sz : Nat) (n : Nat) (aR : Nat) (x1 : Int32) (x2 : Int32) (R_triples : Int32) (aR_facts : Nat) (R_patterns : Int32) (aR_cells : Nat) (aR_told : Nat) (aR_of : Nat) (aR_hints : Nat) (R_filters : Int32) (aR_looks : Nat) (aR_kinds : Nat) (aR_values : Nat) (aR_isSafe : Nat) (aR_sizes : Nat) (aR_spreads : Nat) (aR_isSeen : Nat) (aR_estimates : Nat) (aR_rest : Nat) (R_steps : Int32) (aR_order : Nat) (aR_joins : Nat) (aR_actsBehind : Nat) (aR_upTo : Nat) (R_filtersThen : Int32) (aR_behind : Nat) (R_rows : Int32) (aR_row : Nat) (aR_found : Nat) (R_comes : Int32) (aR_next : Nat) (aR_nextFound : Nat) (R_kept : Int32) (R_hasRoom : Int32) (aR_keep : Nat) (aR_isTaken : Nat) (R_cells : Nat → Int32) (R_facts : Nat → Int32) {r : Int32} (hf : f_JoinOrderModel_matches n x1 x2 R_cells R_facts = some r) : Met l yX7_matches (.code yX7_matches cX7_matches 8 (some .boolean) :: GW) rm_f_JoinOrderModel_matches (va_Pc [.ref aR, .int x1, .int x2] (xP D (xT cI cJ cZ) sz [(aR, .inr (7, [.int R_triples, .ref aR_facts, .int R_patterns, .ref aR_cells, .ref aR_told, .ref aR_of, .ref aR_hints, .int R_filters, .ref aR_looks, .ref aR_kinds, .ref aR_values, .ref aR_isSafe, .ref aR_sizes, .ref aR_spreads, .ref aR_isSeen, .ref aR_estimates, .ref aR_rest, .int R_steps, .ref aR_order, .ref aR_joins, .ref aR_actsBehind, .ref aR_upTo, .int R_filtersThen, .ref aR_behind, .int R_rows, .ref aR_row, .ref aR_found, .int R_comes, .ref aR_next, .ref aR_nextFound, .int R_kept, .int R_hasRoom, .ref aR_keep, .ref aR_isTaken])), (aR_cells, .inl (cI, 24, .inl R_cells)), (aR_facts, .inl (cI, 240, .inl R_facts))])) (va_Qi (fun r2 (_ : Nat → Nat) => r2 = r ∧ (r = 0 ∨ r = 1)) (bB D (xT cI cJ cZ) (fun _ => [(aR, .inr (7, [.int R_triples, .ref aR_facts, .int R_patterns, .ref aR_cells, .ref aR_told, .ref aR_of, .ref aR_hints, .int R_filters, .ref aR_looks, .ref aR_kinds, .ref aR_values, .ref aR_isSafe, .ref aR_sizes, .ref aR_spreads, .ref aR_isSeen, .ref aR_estimates, .ref aR_rest, .int R_steps, .ref aR_order, .ref aR_joins, .ref aR_actsBehind, .ref aR_upTo, .int R_filtersThen, .ref aR_behind, .int R_rows, .ref aR_row, .ref aR_found, .int R_comes, .ref aR_next, .ref aR_nextFound, .int R_kept, .int R_hasRoom, .ref aR_keep, .ref aR_isTaken])), (aR_cells, .inl (cI, 24, .inl R_cells)), (aR_facts, .inl (cI, 240, .inl R_facts))]) (va_A [(aR, .inr (7, [.int R_triples, .ref aR_facts, .int R_patterns, .ref aR_cells, .ref aR_told, .ref aR_of, .ref aR_hints, .int R_filters, .ref aR_looks, .ref aR_kinds, .ref aR_values, .ref aR_isSafe, .ref aR_sizes, .ref aR_spreads, .ref aR_isSeen, .ref aR_estimates, .ref aR_rest, .int R_steps, .ref aR_order, .ref aR_joins, .ref aR_actsBehind, .ref aR_upTo, .int R_filtersThen, .ref aR_behind, .int R_rows, .ref aR_row, .ref aR_found, .int R_comes, .ref aR_next, .ref aR_nextFound, .int R_kept, .int R_hasRoom, .ref aR_keep, .ref aR_isTaken])), (aR_cells, .inl (cI, 24, .inl R_cells)), (aR_facts, .inl (cI, 240, .inl R_facts))] sz)) (va_A [(aR, .inr (7, [.int R_triples, .ref aR_facts, .int R_patterns, .ref aR_cells, .ref aR_told, .ref aR_of, .ref aR_hints, .int R_filters, .ref aR_looks, .ref aR_kinds, .ref aR_values, .ref aR_isSafe, .ref aR_sizes, .ref aR_spreads, .ref aR_isSeen, .ref aR_estimates, .ref aR_rest, .int R_steps, .ref aR_order, .ref aR_joins, .ref aR_actsBehind, .ref aR_upTo, .int R_filtersThen, .ref aR_behind, .int R_rows, .ref aR_row, .ref aR_found, .int R_comes, .ref aR_next, .ref aR_nextFound, .int R_kept, .int R_hasRoom, .ref aR_keep, .ref aR_isTaken])), (aR_cells, .inl (cI, 24, .inl R_cells)), (aR_facts, .inl (cI, 240, .inl R_facts))] sz)) 0 0 (va_A [(aR, .inr (7, [.int R_triples, .ref aR_facts, .int R_patterns, .ref aR_cells, .ref aR_told, .ref aR_of, .ref aR_hints, .int R_filters, .ref aR_looks, .ref aR_kinds, .ref aR_values, .ref aR_isSafe, .ref aR_sizes, .ref aR_spreads, .ref aR_isSeen, .ref aR_estimates, .ref aR_rest, .int R_steps, .ref aR_order, .ref aR_joins, .ref aR_actsBehind, .ref aR_upTo, .int R_filtersThen, .ref aR_behind, .int R_rows, .ref aR_row, .ref aR_found, .int R_comes, .ref aR_next, .ref aR_nextFound, .int R_kept, .int R_hasRoom, .ref aR_keep, .ref aR_isTaken])), (aR_cells, .inl (cI, 24, .inl R_cells)), (aR_facts, .inl (cI, 240, .inl R_facts))] sz) := by
  refine con_start (y := yX7_matches) (bytes := cX7_matches) (maxL := 8) (av := [.ref aR, .int x1, .int x2]) (Qc := fun A => va_Qi (fun r2 (_ : Nat → Nat) => r2 = r ∧ (r = 0 ∨ r = 1)) (bB D (xT cI cJ cZ) (fun _ => [(aR, .inr (7, [.int R_triples, .ref aR_facts, .int R_patterns, .ref aR_cells, .ref aR_told, .ref aR_of, .ref aR_hints, .int R_filters, .ref aR_looks, .ref aR_kinds, .ref aR_values, .ref aR_isSafe, .ref aR_sizes, .ref aR_spreads, .ref aR_isSeen, .ref aR_estimates, .ref aR_rest, .int R_steps, .ref aR_order, .ref aR_joins, .ref aR_actsBehind, .ref aR_upTo, .int R_filtersThen, .ref aR_behind, .int R_rows, .ref aR_row, .ref aR_found, .int R_comes, .ref aR_next, .ref aR_nextFound, .int R_kept, .int R_hasRoom, .ref aR_keep, .ref aR_isTaken])), (aR_cells, .inl (cI, 24, .inl R_cells)), (aR_facts, .inl (cI, 240, .inl R_facts))]) A) A) (by decide) (Nat.le_of_ble_eq_true rfl) ?_
  intro p e s m args below meth c Q A hx hb hr hlk hml hown hin htg hN hK hQ hA hP hD hS ls hl
  have hl : lv_has ls 8 [(0, .ref aR), (1, .int x1), (2, .int x2)] := hl
  have hown : s.vm.findClass RX7 = some m.cls := hown
  have hf := (f_JoinOrderModel_matches_u n x1 x2 R_cells R_facts).symm.trans hf
  refine lv_iconst (v := (1 : Int32)) hx hb dX7_matches_0 (by decide) ?_
  refine lv_istore_n (lv' := [(3, .int (1 : Int32)), (0, .ref aR), (1, .int x1), (2, .int x2)]) hx hb dX7_matches_1 rfl hl (by decide) rfl (fun ls hl => ?_)
  refine lv_iconst (v := (0 : Int32)) hx hb dX7_matches_2 (by decide) ?_
  refine lv_istore (lv' := [(4, .int (0 : Int32)), (3, .int (1 : Int32)), (0, .ref aR), (1, .int x1), (2, .int x2)]) hx hb dX7_matches_3 hl (by decide) rfl (fun ls hl => ?_)
  have L_5_111 : ∀ (k : Nat) (x3_112 : Int32) (x4_113 : Int32) (o_111 : Int32), f_JoinOrderModel_matches_L0 n x1 x2 R_cells R_facts k x3_112 x4_113 = some o_111 → ∀ (H : Heap) (locs : List Loc), va_P D vwCl [(aR, .inr (7, [.int R_triples, .ref aR_facts, .int R_patterns, .ref aR_cells, .ref aR_told, .ref aR_of, .ref aR_hints, .int R_filters, .ref aR_looks, .ref aR_kinds, .ref aR_values, .ref aR_isSafe, .ref aR_sizes, .ref aR_spreads, .ref aR_isSeen, .ref aR_estimates, .ref aR_rest, .int R_steps, .ref aR_order, .ref aR_joins, .ref aR_actsBehind, .ref aR_upTo, .int R_filtersThen, .ref aR_behind, .int R_rows, .ref aR_row, .ref aR_found, .int R_comes, .ref aR_next, .ref aR_nextFound, .int R_kept, .int R_hasRoom, .ref aR_keep, .ref aR_isTaken])), (aR_cells, .inl (cI, 24, .inl R_cells)), (aR_facts, .inl (cI, 240, .inl R_facts))] H → va_D A [(aR, .inr (7, [.int R_triples, .ref aR_facts, .int R_patterns, .ref aR_cells, .ref aR_told, .ref aR_of, .ref aR_hints, .int R_filters, .ref aR_looks, .ref aR_kinds, .ref aR_values, .ref aR_isSafe, .ref aR_sizes, .ref aR_spreads, .ref aR_isSeen, .ref aR_estimates, .ref aR_rest, .int R_steps, .ref aR_order, .ref aR_joins, .ref aR_actsBehind, .ref aR_upTo, .int R_filtersThen, .ref aR_behind, .int R_rows, .ref aR_row, .ref aR_found, .int R_comes, .ref aR_next, .ref aR_nextFound, .int R_kept, .int R_hasRoom, .ref aR_keep, .ref aR_isTaken])), (aR_cells, .inl (cI, 24, .inl R_cells)), (aR_facts, .inl (cI, 240, .inl R_facts))] → va_S A s.heap H locs → ∀ ls : Array Slot, lv_has ls 8 [(0, .ref aR), (1, .int x1), (2, .int x2), (3, .int x3_112), (4, .int x4_113)] → (∀ (x3_114 : Int32), some (x3_114) = some o_111 → ∀ (H : Heap) (locs : List Loc), va_P D vwCl [(aR, .inr (7, [.int R_triples, .ref aR_facts, .int R_patterns, .ref aR_cells, .ref aR_told, .ref aR_of, .ref aR_hints, .int R_filters, .ref aR_looks, .ref aR_kinds, .ref aR_values, .ref aR_isSafe, .ref aR_sizes, .ref aR_spreads, .ref aR_isSeen, .ref aR_estimates, .ref aR_rest, .int R_steps, .ref aR_order, .ref aR_joins, .ref aR_actsBehind, .ref aR_upTo, .int R_filtersThen, .ref aR_behind, .int R_rows, .ref aR_row, .ref aR_found, .int R_comes, .ref aR_next, .ref aR_nextFound, .int R_kept, .int R_hasRoom, .ref aR_keep, .ref aR_isTaken])), (aR_cells, .inl (cI, 24, .inl R_cells)), (aR_facts, .inl (cI, 240, .inl R_facts))] H → va_D A [(aR, .inr (7, [.int R_triples, .ref aR_facts, .int R_patterns, .ref aR_cells, .ref aR_told, .ref aR_of, .ref aR_hints, .int R_filters, .ref aR_looks, .ref aR_kinds, .ref aR_values, .ref aR_isSafe, .ref aR_sizes, .ref aR_spreads, .ref aR_isSeen, .ref aR_estimates, .ref aR_rest, .int R_steps, .ref aR_order, .ref aR_joins, .ref aR_actsBehind, .ref aR_upTo, .int R_filtersThen, .ref aR_behind, .int R_rows, .ref aR_row, .ref aR_found, .int R_comes, .ref aR_next, .ref aR_nextFound, .int R_kept, .int R_hasRoom, .ref aR_keep, .ref aR_isTaken])), (aR_cells, .inl (cI, 24, .inl R_cells)), (aR_facts, .inl (cI, 240, .inl R_facts))] → va_S A s.heap H locs → ∀ ls : Array Slot, lv_has ls 8 [(3, .int x3_114)] → W p l e rm_f_JoinOrderModel_matches s m args below meth c H locs 0 0 Q (F0 m 128 ls [])) → W p l e rm_f_JoinOrderModel_matches s m args below meth c H locs 0 0 Q (F0 m 5 ls []) := by
    intro k
    induction k with
    | zero =>
      intro x3_112 x4_113 o_111 hf
      exact absurd (((f_JoinOrderModel_matches_L0_z n x1 x2 R_cells R_facts x3_112 x4_113).symm.trans hf)) (fun h => by cases h)
    | succ k ih =>
      intro x3_112 x4_113 o_111 hf H locs hP hD hS ls hl hX_111
      have hf := (f_JoinOrderModel_matches_L0_s n x1 x2 R_cells R_facts k x3_112 x4_113).symm.trans hf
      refine lv_iload hx hb dX7_matches_5 (lv_at hl 4 rfl) ?_
      refine lv_iconst (v := (3 : Int32)) hx hb dX7_matches_7 (by decide) ?_
      refine lv_icmp_ge (tgt := 128) hx hb dX7_matches_8 (by decide) (fun c_115 => ?_) (fun c_115 => ?_)
      · have hf := xb_t c_115 hf
        exact hX_111 x3_112 hf _ _ hP hD hS _ (lv_sub hl [3] rfl)
      · have hf := xb_f c_115 hf
        refine lv_aload_n hx hb dX7_matches_11 rfl (lv_at hl 0 rfl) ?_
        refine va_get (D := D) (ci := 7) (v := .ref aR_cells) (C := RX7) (T := TX7) (N := 34) hx hb htg giX7 hown hK hP 0 rfl rfl 3 (by decide) (htg _ kw_566) (fun _ h9 => h9) rfl dX7_matches_12 ?_
        refine lv_iconst (v := (3 : Int32)) hx hb dX7_matches_15 (by decide) ?_
        refine lv_iload_n hx hb dX7_matches_16 rfl (lv_at hl 1 rfl) ?_
        refine lv_imul hx hb dX7_matches_17 ?_
        refine lv_iload hx hb dX7_matches_18 (lv_at hl 4 rfl) ?_
        refine lv_iadd hx hb dX7_matches_20 ?_
        have g_116 : vp_in (((3 : Int32) * x1) + x4_113) 24 := gd_in hf
        have hf := gd_el hf
        refine va_iald hx hb hK hP 1 0 rfl rfl g_116 dX7_matches_21 ?_
        refine lv_topi (fun x5_117 ex5_117 => ?_)
        have hf := nm_nm ex5_117 hf
        refine lv_istore (lv' := [(5, .int x5_117), (0, .ref aR), (1, .int x1), (2, .int x2), (3, .int x3_112), (4, .int x4_113)]) hx hb dX7_matches_22 hl (by decide) rfl (fun ls hl => ?_)
        refine lv_aload_n hx hb dX7_matches_24 rfl (lv_at hl 1 rfl) ?_
        refine va_get (D := D) (ci := 7) (v := .ref aR_facts) (C := RX7) (T := TX7) (N := 34) hx hb htg giX7 hown hK hP 0 rfl rfl 1 (by decide) (htg _ kw_564) (fun _ h9 => h9) rfl dX7_matches_25 ?_
        refine lv_iconst (v := (3 : Int32)) hx hb dX7_matches_28 (by decide) ?_
        refine lv_iload_n hx hb dX7_matches_29 rfl (lv_at hl 3 rfl) ?_
        refine lv_imul hx hb dX7_matches_30 ?_
        refine lv_iload hx hb dX7_matches_31 (lv_at hl 5 rfl) ?_
        refine lv_iadd hx hb dX7_matches_33 ?_
        have g_118 : vp_in (((3 : Int32) * x2) + x4_113) 240 := gd_in hf
        have hf := gd_el hf
        refine va_iald hx hb hK hP 2 0 rfl rfl g_118 dX7_matches_34 ?_
        refine lv_topi (fun x6_119 ex6_119 => ?_)
        have hf := nm_nm ex6_119 hf
        refine lv_istore (lv' := [(6, .int x6_119), (5, .int x5_117), (0, .ref aR), (1, .int x1), (2, .int x2), (3, .int x3_112), (4, .int x4_113)]) hx hb dX7_matches_35 hl (by decide) rfl (fun ls hl => ?_)
        refine lv_iload_n hx hb dX7_matches_37 rfl (lv_at hl 5 rfl) ?_
        obtain ⟨o_123, ho_123, hk_123⟩ := bn1_s hf
        have J_58_123 : ∀ (z_124 : Int32), some (z_124) = some o_123 → ∀ (H : Heap) (locs : List Loc), va_P D vwCl [(aR, .inr (7, [.int R_triples, .ref aR_facts, .int R_patterns, .ref aR_cells, .ref aR_told, .ref aR_of, .ref aR_hints, .int R_filters, .ref aR_looks, .ref aR_kinds, .ref aR_values, .ref aR_isSafe, .ref aR_sizes, .ref aR_spreads, .ref aR_isSeen, .ref aR_estimates, .ref aR_rest, .int R_steps, .ref aR_order, .ref aR_joins, .ref aR_actsBehind, .ref aR_upTo, .int R_filtersThen, .ref aR_behind, .int R_rows, .ref aR_row, .ref aR_found, .int R_comes, .ref aR_next, .ref aR_nextFound, .int R_kept, .int R_hasRoom, .ref aR_keep, .ref aR_isTaken])), (aR_cells, .inl (cI, 24, .inl R_cells)), (aR_facts, .inl (cI, 240, .inl R_facts))] H → va_D A [(aR, .inr (7, [.int R_triples, .ref aR_facts, .int R_patterns, .ref aR_cells, .ref aR_told, .ref aR_of, .ref aR_hints, .int R_filters, .ref aR_looks, .ref aR_kinds, .ref aR_values, .ref aR_isSafe, .ref aR_sizes, .ref aR_spreads, .ref aR_isSeen, .ref aR_estimates, .ref aR_rest, .int R_steps, .ref aR_order, .ref aR_joins, .ref aR_actsBehind, .ref aR_upTo, .int R_filtersThen, .ref aR_behind, .int R_rows, .ref aR_row, .ref aR_found, .int R_comes, .ref aR_next, .ref aR_nextFound, .int R_kept, .int R_hasRoom, .ref aR_keep, .ref aR_isTaken])), (aR_cells, .inl (cI, 24, .inl R_cells)), (aR_facts, .inl (cI, 240, .inl R_facts))] → va_S A s.heap H locs → ∀ ls : Array Slot, lv_has ls 8 [(0, .ref aR), (1, .int x1), (2, .int x2), (4, .int x4_113), (5, .int x5_117), (6, .int x6_119)] → W p l e rm_f_JoinOrderModel_matches s m args below meth c H locs 0 0 Q (F0 m 58 ls [.int z_124]) := by
          intro z_124 hf H locs hP hD hS ls hl
          have hf := hk_123 _ hf
          refine lv_istore_n (lv' := [(3, .int z_124), (0, .ref aR), (1, .int x1), (2, .int x2), (4, .int x4_113), (5, .int x5_117), (6, .int x6_119)]) hx hb dX7_matches_58 rfl hl (by decide) rfl (fun ls hl => ?_)
          refine lv_iconst (v := (0 : Int32)) hx hb dX7_matches_59 (by decide) ?_
          refine lv_istore (lv' := [(7, .int (0 : Int32)), (3, .int z_124), (0, .ref aR), (1, .int x1), (2, .int x2), (4, .int x4_113), (5, .int x5_117), (6, .int x6_119)]) hx hb dX7_matches_60 hl (by decide) rfl (fun ls hl => ?_)
          have L_62_151 : ∀ (k : Nat) (x3_152 : Int32) (x7_153 : Int32) (o_151 : Int32), f_JoinOrderModel_matches_L1 n x1 x2 R_cells R_facts x4_113 x5_117 x6_119 k x3_152 x7_153 = some o_151 → ∀ (H : Heap) (locs : List Loc), va_P D vwCl [(aR, .inr (7, [.int R_triples, .ref aR_facts, .int R_patterns, .ref aR_cells, .ref aR_told, .ref aR_of, .ref aR_hints, .int R_filters, .ref aR_looks, .ref aR_kinds, .ref aR_values, .ref aR_isSafe, .ref aR_sizes, .ref aR_spreads, .ref aR_isSeen, .ref aR_estimates, .ref aR_rest, .int R_steps, .ref aR_order, .ref aR_joins, .ref aR_actsBehind, .ref aR_upTo, .int R_filtersThen, .ref aR_behind, .int R_rows, .ref aR_row, .ref aR_found, .int R_comes, .ref aR_next, .ref aR_nextFound, .int R_kept, .int R_hasRoom, .ref aR_keep, .ref aR_isTaken])), (aR_cells, .inl (cI, 24, .inl R_cells)), (aR_facts, .inl (cI, 240, .inl R_facts))] H → va_D A [(aR, .inr (7, [.int R_triples, .ref aR_facts, .int R_patterns, .ref aR_cells, .ref aR_told, .ref aR_of, .ref aR_hints, .int R_filters, .ref aR_looks, .ref aR_kinds, .ref aR_values, .ref aR_isSafe, .ref aR_sizes, .ref aR_spreads, .ref aR_isSeen, .ref aR_estimates, .ref aR_rest, .int R_steps, .ref aR_order, .ref aR_joins, .ref aR_actsBehind, .ref aR_upTo, .int R_filtersThen, .ref aR_behind, .int R_rows, .ref aR_row, .ref aR_found, .int R_comes, .ref aR_next, .ref aR_nextFound, .int R_kept, .int R_hasRoom, .ref aR_keep, .ref aR_isTaken])), (aR_cells, .inl (cI, 24, .inl R_cells)), (aR_facts, .inl (cI, 240, .inl R_facts))] → va_S A s.heap H locs → ∀ ls : Array Slot, lv_has ls 8 [(0, .ref aR), (1, .int x1), (2, .int x2), (3, .int x3_152), (4, .int x4_113), (5, .int x5_117), (6, .int x6_119), (7, .int x7_153)] → (∀ (x3_154 : Int32), some (x3_154) = some o_151 → ∀ (H : Heap) (locs : List Loc), va_P D vwCl [(aR, .inr (7, [.int R_triples, .ref aR_facts, .int R_patterns, .ref aR_cells, .ref aR_told, .ref aR_of, .ref aR_hints, .int R_filters, .ref aR_looks, .ref aR_kinds, .ref aR_values, .ref aR_isSafe, .ref aR_sizes, .ref aR_spreads, .ref aR_isSeen, .ref aR_estimates, .ref aR_rest, .int R_steps, .ref aR_order, .ref aR_joins, .ref aR_actsBehind, .ref aR_upTo, .int R_filtersThen, .ref aR_behind, .int R_rows, .ref aR_row, .ref aR_found, .int R_comes, .ref aR_next, .ref aR_nextFound, .int R_kept, .int R_hasRoom, .ref aR_keep, .ref aR_isTaken])), (aR_cells, .inl (cI, 24, .inl R_cells)), (aR_facts, .inl (cI, 240, .inl R_facts))] H → va_D A [(aR, .inr (7, [.int R_triples, .ref aR_facts, .int R_patterns, .ref aR_cells, .ref aR_told, .ref aR_of, .ref aR_hints, .int R_filters, .ref aR_looks, .ref aR_kinds, .ref aR_values, .ref aR_isSafe, .ref aR_sizes, .ref aR_spreads, .ref aR_isSeen, .ref aR_estimates, .ref aR_rest, .int R_steps, .ref aR_order, .ref aR_joins, .ref aR_actsBehind, .ref aR_upTo, .int R_filtersThen, .ref aR_behind, .int R_rows, .ref aR_row, .ref aR_found, .int R_comes, .ref aR_next, .ref aR_nextFound, .int R_kept, .int R_hasRoom, .ref aR_keep, .ref aR_isTaken])), (aR_cells, .inl (cI, 24, .inl R_cells)), (aR_facts, .inl (cI, 240, .inl R_facts))] → va_S A s.heap H locs → ∀ ls : Array Slot, lv_has ls 8 [(0, .ref aR), (1, .int x1), (2, .int x2), (3, .int x3_154), (4, .int x4_113)] → W p l e rm_f_JoinOrderModel_matches s m args below meth c H locs 0 0 Q (F0 m 122 ls [])) → W p l e rm_f_JoinOrderModel_matches s m args below meth c H locs 0 0 Q (F0 m 62 ls []) := by
            intro k
            induction k with
            | zero =>
              intro x3_152 x7_153 o_151 hf
              exact absurd (((f_JoinOrderModel_matches_L1_z n x1 x2 R_cells R_facts x4_113 x5_117 x6_119 x3_152 x7_153).symm.trans hf)) (fun h => by cases h)
            | succ k ih =>
              intro x3_152 x7_153 o_151 hf H locs hP hD hS ls hl hX_151
              have hf := (f_JoinOrderModel_matches_L1_s n x1 x2 R_cells R_facts x4_113 x5_117 x6_119 k x3_152 x7_153).symm.trans hf
              refine lv_iload hx hb dX7_matches_62 (lv_at hl 7 rfl) ?_
              refine lv_iload hx hb dX7_matches_64 (lv_at hl 4 rfl) ?_
              refine lv_icmp_ge (tgt := 122) hx hb dX7_matches_66 (by decide) (fun c_155 => ?_) (fun c_155 => ?_)
              · have hf := xb_t c_155 hf
                exact hX_151 x3_152 hf _ _ hP hD hS _ (lv_sub hl [0, 1, 2, 3, 4] rfl)
              · have hf := xb_f c_155 hf
                refine lv_iload_n hx hb dX7_matches_69 rfl (lv_at hl 3 rfl) ?_
                refine lv_if_eq (tgt := 114) hx hb dX7_matches_70 (by decide) (fun c_156 => ?_) (fun c_156 => ?_)
                · have hf := xb_t c_156 hf
                  refine lv_iconst (v := (0 : Int32)) hx hb dX7_matches_114 (by decide) ?_
                  refine lv_istore_n (lv' := [(3, .int (0 : Int32)), (0, .ref aR), (1, .int x1), (2, .int x2), (4, .int x4_113), (5, .int x5_117), (6, .int x6_119), (7, .int x7_153)]) hx hb dX7_matches_115 rfl hl (by decide) rfl (fun ls hl => ?_)
                  obtain ⟨x7_157, ex7_157⟩ : ∃ y : Int32, y = x7_153 + (1 : Int32) := ⟨_, rfl⟩
                  have hf := nm_nm ex7_157 hf
                  refine lv_iinc (v := x7_157) (lv' := [(7, .int x7_157), (3, .int (0 : Int32)), (0, .ref aR), (1, .int x1), (2, .int x2), (4, .int x4_113), (5, .int x5_117), (6, .int x6_119)]) hx hb dX7_matches_116 hl (k := 7) rfl (by rw [ex7_157]; rfl) (by decide) rfl (fun ls hl => ?_)
                  refine lv_goto (tgt := 62) hx hb dX7_matches_119 (by decide) ?_
                  exact ih (0 : Int32) x7_157 o_151 hf _ _ hP hD hS _ (lv_sub hl [2, 3, 4, 1, 5, 6, 7, 0] rfl) hX_151
                · have hf := xb_f c_156 hf
                  refine lv_iload hx hb dX7_matches_73 (lv_at hl 5 rfl) ?_
                  refine lv_if_ge (tgt := 110) hx hb dX7_matches_75 (by decide) (fun c_158 => ?_) (fun c_158 => ?_)
                  · have hf := xb_t c_158 hf
                    refine lv_iconst (v := (1 : Int32)) hx hb dX7_matches_110 (by decide) ?_
                    refine lv_goto (tgt := 115) hx hb dX7_matches_111 (by decide) ?_
                    refine lv_istore_n (lv' := [(3, .int (1 : Int32)), (0, .ref aR), (1, .int x1), (2, .int x2), (4, .int x4_113), (5, .int x5_117), (6, .int x6_119), (7, .int x7_153)]) hx hb dX7_matches_115 rfl hl (by decide) rfl (fun ls hl => ?_)
                    obtain ⟨x7_159, ex7_159⟩ : ∃ y : Int32, y = x7_153 + (1 : Int32) := ⟨_, rfl⟩
                    have hf := nm_nm ex7_159 hf
                    refine lv_iinc (v := x7_159) (lv' := [(7, .int x7_159), (3, .int (1 : Int32)), (0, .ref aR), (1, .int x1), (2, .int x2), (4, .int x4_113), (5, .int x5_117), (6, .int x6_119)]) hx hb dX7_matches_116 hl (k := 7) rfl (by rw [ex7_159]; rfl) (by decide) rfl (fun ls hl => ?_)
                    refine lv_goto (tgt := 62) hx hb dX7_matches_119 (by decide) ?_
                    exact ih (1 : Int32) x7_159 o_151 hf _ _ hP hD hS _ (lv_sub hl [2, 3, 4, 1, 5, 6, 7, 0] rfl) hX_151
                  · have hf := xb_f c_158 hf
                    refine lv_aload_n hx hb dX7_matches_78 rfl (lv_at hl 0 rfl) ?_
                    refine va_get (D := D) (ci := 7) (v := .ref aR_cells) (C := RX7) (T := TX7) (N := 34) hx hb htg giX7 hown hK hP 0 rfl rfl 3 (by decide) (htg _ kw_566) (fun _ h9 => h9) rfl dX7_matches_79 ?_
                    refine lv_iconst (v := (3 : Int32)) hx hb dX7_matches_82 (by decide) ?_
                    refine lv_iload_n hx hb dX7_matches_83 rfl (lv_at hl 1 rfl) ?_
                    refine lv_imul hx hb dX7_matches_84 ?_
                    refine lv_iload hx hb dX7_matches_85 (lv_at hl 7 rfl) ?_
                    refine lv_iadd hx hb dX7_matches_87 ?_
                    have g_160 : vp_in (((3 : Int32) * x1) + x7_153) 24 := gd_in hf
                    have hf := gd_el hf
                    refine va_iald hx hb hK hP 1 0 rfl rfl g_160 dX7_matches_88 ?_
                    refine lv_iload hx hb dX7_matches_89 (lv_at hl 5 rfl) ?_
                    refine lv_icmp_ne (tgt := 110) hx hb dX7_matches_91 (by decide) (fun c_161 => ?_) (fun c_161 => ?_)
                    · have hf := xb_f c_161 hf
                      refine lv_iconst (v := (1 : Int32)) hx hb dX7_matches_110 (by decide) ?_
                      refine lv_goto (tgt := 115) hx hb dX7_matches_111 (by decide) ?_
                      refine lv_istore_n (lv' := [(3, .int (1 : Int32)), (0, .ref aR), (1, .int x1), (2, .int x2), (4, .int x4_113), (5, .int x5_117), (6, .int x6_119), (7, .int x7_153)]) hx hb dX7_matches_115 rfl hl (by decide) rfl (fun ls hl => ?_)
                      obtain ⟨x7_162, ex7_162⟩ : ∃ y : Int32, y = x7_153 + (1 : Int32) := ⟨_, rfl⟩
                      have hf := nm_nm ex7_162 hf
                      refine lv_iinc (v := x7_162) (lv' := [(7, .int x7_162), (3, .int (1 : Int32)), (0, .ref aR), (1, .int x1), (2, .int x2), (4, .int x4_113), (5, .int x5_117), (6, .int x6_119)]) hx hb dX7_matches_116 hl (k := 7) rfl (by rw [ex7_162]; rfl) (by decide) rfl (fun ls hl => ?_)
                      refine lv_goto (tgt := 62) hx hb dX7_matches_119 (by decide) ?_
                      exact ih (1 : Int32) x7_162 o_151 hf _ _ hP hD hS _ (lv_sub hl [2, 3, 4, 1, 5, 6, 7, 0] rfl) hX_151
                    · have hf := xb_t c_161 hf
                      refine lv_aload_n hx hb dX7_matches_94 rfl (lv_at hl 0 rfl) ?_
                      refine va_get (D := D) (ci := 7) (v := .ref aR_facts) (C := RX7) (T := TX7) (N := 34) hx hb htg giX7 hown hK hP 0 rfl rfl 1 (by decide) (htg _ kw_564) (fun _ h9 => h9) rfl dX7_matches_95 ?_
                      refine lv_iconst (v := (3 : Int32)) hx hb dX7_matches_98 (by decide) ?_
                      refine lv_iload_n hx hb dX7_matches_99 rfl (lv_at hl 2 rfl) ?_
                      refine lv_imul hx hb dX7_matches_100 ?_
                      refine lv_iload hx hb dX7_matches_101 (lv_at hl 7 rfl) ?_
                      refine lv_iadd hx hb dX7_matches_103 ?_
                      have g_163 : vp_in (((3 : Int32) * x2) + x7_153) 240 := gd_in hf
                      have hf := gd_el hf
                      refine va_iald hx hb hK hP 2 0 rfl rfl g_163 dX7_matches_104 ?_
                      refine lv_iload hx hb dX7_matches_105 (lv_at hl 6 rfl) ?_
                      refine lv_icmp_ne (tgt := 114) hx hb dX7_matches_107 (by decide) (fun c_164 => ?_) (fun c_164 => ?_)
                      · have hf := xb_f c_164 hf
                        refine lv_iconst (v := (0 : Int32)) hx hb dX7_matches_114 (by decide) ?_
                        refine lv_istore_n (lv' := [(3, .int (0 : Int32)), (0, .ref aR), (1, .int x1), (2, .int x2), (4, .int x4_113), (5, .int x5_117), (6, .int x6_119), (7, .int x7_153)]) hx hb dX7_matches_115 rfl hl (by decide) rfl (fun ls hl => ?_)
                        obtain ⟨x7_165, ex7_165⟩ : ∃ y : Int32, y = x7_153 + (1 : Int32) := ⟨_, rfl⟩
                        have hf := nm_nm ex7_165 hf
                        refine lv_iinc (v := x7_165) (lv' := [(7, .int x7_165), (3, .int (0 : Int32)), (0, .ref aR), (1, .int x1), (2, .int x2), (4, .int x4_113), (5, .int x5_117), (6, .int x6_119)]) hx hb dX7_matches_116 hl (k := 7) rfl (by rw [ex7_165]; rfl) (by decide) rfl (fun ls hl => ?_)
                        refine lv_goto (tgt := 62) hx hb dX7_matches_119 (by decide) ?_
                        exact ih (0 : Int32) x7_165 o_151 hf _ _ hP hD hS _ (lv_sub hl [2, 3, 4, 1, 5, 6, 7, 0] rfl) hX_151
                      · have hf := xb_t c_164 hf
                        refine lv_iconst (v := (1 : Int32)) hx hb dX7_matches_110 (by decide) ?_
                        refine lv_goto (tgt := 115) hx hb dX7_matches_111 (by decide) ?_
                        refine lv_istore_n (lv' := [(3, .int (1 : Int32)), (0, .ref aR), (1, .int x1), (2, .int x2), (4, .int x4_113), (5, .int x5_117), (6, .int x6_119), (7, .int x7_153)]) hx hb dX7_matches_115 rfl hl (by decide) rfl (fun ls hl => ?_)
                        obtain ⟨x7_166, ex7_166⟩ : ∃ y : Int32, y = x7_153 + (1 : Int32) := ⟨_, rfl⟩
                        have hf := nm_nm ex7_166 hf
                        refine lv_iinc (v := x7_166) (lv' := [(7, .int x7_166), (3, .int (1 : Int32)), (0, .ref aR), (1, .int x1), (2, .int x2), (4, .int x4_113), (5, .int x5_117), (6, .int x6_119)]) hx hb dX7_matches_116 hl (k := 7) rfl (by rw [ex7_166]; rfl) (by decide) rfl (fun ls hl => ?_)
                        refine lv_goto (tgt := 62) hx hb dX7_matches_119 (by decide) ?_
                        exact ih (1 : Int32) x7_166 o_151 hf _ _ hP hD hS _ (lv_sub hl [2, 3, 4, 1, 5, 6, 7, 0] rfl) hX_151
          obtain ⟨o_151, ho_151, hk_151⟩ := bn1_s hf
          refine L_62_151 n z_124 (0 : Int32) o_151 ho_151 _ _ hP hD hS _ (lv_sub hl [2, 3, 4, 1, 5, 6, 7, 0] rfl) (fun x3_154 hf H locs hP hD hS ls hl => ?_)
          have hf := hk_151 _ hf
          obtain ⟨x4_167, ex4_167⟩ : ∃ y : Int32, y = x4_113 + (1 : Int32) := ⟨_, rfl⟩
          have hf := nm_nm ex4_167 hf
          refine lv_iinc (v := x4_167) (lv' := [(4, .int x4_167), (0, .ref aR), (1, .int x1), (2, .int x2), (3, .int x3_154)]) hx hb dX7_matches_122 hl (k := 4) rfl (by rw [ex4_167]; rfl) (by decide) rfl (fun ls hl => ?_)
          refine lv_goto (tgt := 5) hx hb dX7_matches_125 (by decide) ?_
          exact ih x3_154 x4_167 o_111 hf _ _ hP hD hS _ (lv_sub hl [1, 2, 3, 4, 0] rfl) hX_111
        have hf := ho_123
        refine lv_if_eq (tgt := 57) hx hb dX7_matches_38 (by decide) (fun c_120 => ?_) (fun c_120 => ?_)
        · have hf := xb_t c_120 hf
          refine lv_iconst (v := (0 : Int32)) hx hb dX7_matches_57 (by decide) ?_
          exact J_58_123 (0 : Int32) hf _ _ hP hD hS _ (lv_sub hl [2, 3, 4, 6, 1, 0] rfl)
        · have hf := xb_f c_120 hf
          refine lv_iload hx hb dX7_matches_41 (lv_at hl 1 rfl) ?_
          refine lv_if_lt (tgt := 53) hx hb dX7_matches_43 (by decide) (fun c_168 => ?_) (fun c_168 => ?_)
          · have hf := xb_t c_168 hf
            refine lv_iconst (v := (1 : Int32)) hx hb dX7_matches_53 (by decide) ?_
            refine lv_goto (tgt := 58) hx hb dX7_matches_54 (by decide) ?_
            exact J_58_123 (1 : Int32) hf _ _ hP hD hS _ (lv_sub hl [2, 3, 4, 6, 1, 0] rfl)
          · have hf := xb_f c_168 hf
            refine lv_iload hx hb dX7_matches_46 (lv_at hl 1 rfl) ?_
            refine lv_iload hx hb dX7_matches_48 (lv_at hl 0 rfl) ?_
            refine lv_icmp_ne (tgt := 57) hx hb dX7_matches_50 (by decide) (fun c_169 => ?_) (fun c_169 => ?_)
            · have hf := xb_f c_169 hf
              refine lv_iconst (v := (0 : Int32)) hx hb dX7_matches_57 (by decide) ?_
              exact J_58_123 (0 : Int32) hf _ _ hP hD hS _ (lv_sub hl [2, 3, 4, 6, 1, 0] rfl)
            · have hf := xb_t c_169 hf
              refine lv_iconst (v := (1 : Int32)) hx hb dX7_matches_53 (by decide) ?_
              refine lv_goto (tgt := 58) hx hb dX7_matches_54 (by decide) ?_
              exact J_58_123 (1 : Int32) hf _ _ hP hD hS _ (lv_sub hl [2, 3, 4, 6, 1, 0] rfl)
  obtain ⟨o_111, ho_111, hk_111⟩ := bn1_s hf
  refine L_5_111 n (1 : Int32) (0 : Int32) o_111 ho_111 _ _ hP hD hS _ (lv_sub hl [2, 3, 4, 1, 0] rfl) (fun x3_114 hf H locs hP hD hS ls hl => ?_)
  have hf := hk_111 _ hf
  refine lv_iload_n hx hb dX7_matches_128 rfl (lv_at hl 0 rfl) ?_
  have gb_170 := gb_in hf
  have hf := gb_el hf
  have hf := Option.some.inj hf
  subst hf
  exact x_zret (fun _ => 0) hQ hx hb hr hlk gb_170 hK hP hD hS dX7_matches_129
