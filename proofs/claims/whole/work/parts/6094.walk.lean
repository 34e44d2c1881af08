abbrev rm_f_JoinOrderModel_comesBy : Room := { frames := 0, cells := 0, slots := 0, locals := 0 }
set_option maxHeartbeats 4000000 in
set_option maxRecDepth 100000 in
theorem c_f_JoinOrderModel_comesBy (l : Launch) (D : va_G) (cI cJ cZ : ClassId) (sz : Nat) (n : Nat) (aR : Nat) (x1 : Int32) (x2 : Int32) (x3 : Int32) (R_triples : Int32) (aR_facts : Nat) (R_patterns : Int32) (aR_cells : Nat) (aR_told : Nat) (aR_of : Nat) (aR_hints : Nat) (R_filters : Int32) (aR_looks : Nat) (aR_kinds : Nat) (aR_values : Nat) (aR_isSafe : Nat) (aR_sizes : Nat) (aR_spreads : Nat) (aR_isSeen : Nat) (aR_estimates : Nat) (aR_rest : Nat) (R_steps : Int32) (aR_order : Nat) (aR_joins : Nat) (aR_actsBehind : Nat) (aR_upTo : Nat) (R_filtersThen : Int32) (aR_behind : Nat) (R_rows : Int32) (aR_row : Nat) (aR_found : Nat) (R_comes : Int32) (aR_next : Nat) (aR_nextFound : Nat) (R_kept : Int32) (R_hasRoom : Int32) (aR_keep : Nat) (aR_isTaken : Nat) (R_row : Nat → Int32) (R_next : Nat → Int32) (R_cells : Nat → Int32) (R_facts : Nat → Int32) {r : Int32} {R_next' : Nat → Int32} (hf : f_JoinOrderModel_comesBy n x1 x2 x3 R_comes R_row R_next R_cells R_facts = some (r, R_next')) : Met l yX7_comesBy (.code yX7_comesBy cX7_comesBy 8 (some .boolean) :: GW) rm_f_JoinOrderModel_comesBy (va_Pc [.ref aR, .int x1, .int x2, .int x3] (xP D (xT cI cJ cZ) sz [(aR, .inr (7, [.int R_triples, .ref aR_facts, .int R_patterns, .ref aR_cells, .ref aR_told, .ref aR_of, .ref aR_hints, .int R_filters, .ref aR_looks, .ref aR_kinds, .ref aR_values, .ref aR_isSafe, .ref aR_sizes, .ref aR_spreads, .ref aR_isSeen, .ref aR_estimates, .ref aR_rest, .int R_steps, .ref aR_order, .ref aR_joins, .ref aR_actsBehind, .ref aR_upTo, .int R_filtersThen, .ref aR_behind, .int R_rows, .ref aR_row, .ref aR_found, .int R_comes, .ref aR_next, .ref aR_nextFound, .int R_kept, .int R_hasRoom, .ref aR_keep, .ref aR_isTaken])), (aR_row, .inl (cI, 4008, .inl R_row)), (aR_next, .inl (cI, 4008, .inl R_next)), (aR_cells, .inl (cI, 24, .inl R_cells)), (aR_facts, .inl (cI, 240, .inl R_facts))])) (va_Qi (fun r2 (_ : Nat → Nat) => r2 = r ∧ (r = 0 ∨ r = 1)) (bB D (xT cI cJ cZ) (fun _ => [(aR, .inr (7, [.int R_triples, .ref aR_facts, .int R_patterns, .ref aR_cells, .ref aR_told, .ref aR_of, .ref aR_hints, .int R_filters, .ref aR_looks, .ref aR_kinds, .ref aR_values, .ref aR_isSafe, .ref aR_sizes, .ref aR_spreads, .ref aR_isSeen, .ref aR_estimates, .ref aR_rest, .int R_steps, .ref aR_order, .ref aR_joins, .ref aR_actsBehind, .ref aR_upTo, .int R_filtersThen, .ref aR_behind, .int R_rows, .ref aR_row, .ref aR_found, .int R_comes, .ref aR_next, .ref aR_nextFound, .int R_kept, .int R_hasRoom, .ref aR_keep, .ref aR_isTaken])), (aR_row, .inl (cI, 4008, .inl R_row)), (aR_next, .inl (cI, 4008, .inl R_next')), (aR_cells, .inl (cI, 24, .inl R_cells)), (aR_facts, .inl (cI, 240, .inl R_facts))]) (va_A [(aR, .inr (7, [.int R_triples, .ref aR_facts, .int R_patterns, .ref aR_cells, .ref aR_told, .ref aR_of, .ref aR_hints, .int R_filters, .ref aR_looks, .ref aR_kinds, .ref aR_values, .ref aR_isSafe, .ref aR_sizes, .ref aR_spreads, .ref aR_isSeen, .ref aR_estimates, .ref aR_rest, .int R_steps, .ref aR_order, .ref aR_joins, .ref aR_actsBehind, .ref aR_upTo, .int R_filtersThen, .ref aR_behind, .int R_rows, .ref aR_row, .ref aR_found, .int R_comes, .ref aR_next, .ref aR_nextFound, .int R_kept, .int R_hasRoom, .ref aR_keep, .ref aR_isTaken])), (aR_row, .inl (cI, 4008, .inl R_row)), (aR_next, .inl (cI, 4008, .inl R_next)), (aR_cells, .inl (cI, 24, .inl R_cells)), (aR_facts, .inl (cI, 240, .inl R_facts))] sz)) (va_A [(aR, .inr (7, [.int R_triples, .ref aR_facts, .int R_patterns, .ref aR_cells, .ref aR_told, .ref aR_of, .ref aR_hints, .int R_filters, .ref aR_looks, .ref aR_kinds, .ref aR_values, .ref aR_isSafe, .ref aR_sizes, .ref aR_spreads, .ref aR_isSeen, .ref aR_estimates, .ref aR_rest, .int R_steps, .ref aR_order, .ref aR_joins, .ref aR_actsBehind, .ref aR_upTo, .int R_filtersThen, .ref aR_behind, .int R_rows, .ref aR_row, .ref aR_found, .int R_comes, .ref aR_next, .ref aR_nextFound, .int R_kept, .int R_hasRoom, .ref aR_keep, .ref aR_isTaken])), (aR_row, .inl (cI, 4008, .inl R_row)), (aR_next, .inl (cI, 4008, .inl R_next)), (aR_cells, .inl (cI, 24, .inl R_cells)), (aR_facts, .inl (cI, 240, .inl R_facts))] sz)) 0 0 (va_A [(aR, .inr (7, [.int R_triples, .ref aR_facts, .int R_patterns, .ref aR_cells, .ref aR_told, .ref aR_of, .ref aR_hints, .int R_filters, .ref aR_looks, .ref aR_kinds, .ref aR_values, .ref aR_isSafe, .ref aR_sizes, .ref aR_spreads, .ref aR_isSeen, .ref aR_estimates, .ref aR_rest, .int R_steps, .ref aR_order, .ref aR_joins, .ref aR_actsBehind, .ref aR_upTo, .int R_filtersThen, .ref aR_behind, .int R_rows, .ref aR_row, .ref aR_found, .int R_comes, .ref aR_next, .ref aR_nextFound, .int R_kept, .int R_hasRoom, .ref aR_keep, .ref aR_isTaken])), (aR_row, .inl (cI, 4008, .inl R_row)), (aR_next, .inl (cI, 4008, .inl R_next)), (aR_cells, .inl (cI, 24, .inl R_cells)), (aR_facts, .inl (cI, 240, .inl R_facts))] sz) := by
  refine con_start (y := yX7_comesBy) (bytes := cX7_comesBy) (maxL := 8) (av := [.ref aR, .int x1, .int x2, .int x3]) (Qc := fun A => va_Qi (fun r2 (_ : Nat → Nat) => r2 = r ∧ (r = 0 ∨ r = 1)) (bB D (xT cI cJ cZ) (fun _ => [(aR, .inr (7, [.int R_triples, .ref aR_facts, .int R_patterns, .ref aR_cells, .ref aR_told, .ref aR_of, .ref aR_hints, .int R_filters, .ref aR_looks, .ref aR_kinds, .ref aR_values, .ref aR_isSafe, .ref aR_sizes, .ref aR_spreads, .ref aR_isSeen, .ref aR_estimates, .ref aR_rest, .int R_steps, .ref aR_order, .ref aR_joins, .ref aR_actsBehind, .ref aR_upTo, .int R_filtersThen, .ref aR_behind, .int R_rows, .ref aR_row, .ref aR_found, .int R_comes, .ref aR_next, .ref aR_nextFound, .int R_kept, .int R_hasRoom, .ref aR_keep, .ref aR_isTaken])), (aR_row, .inl (cI, 4008, .inl R_row)), (aR_next, .inl (cI, 4008, .inl R_next')), (aR_cells, .inl (cI, 24, .inl R_cells)), (aR_facts, .inl (cI, 240, .inl R_facts))]) A) A) (by decide) (Nat.le_of_ble_eq_true rfl) ?_
  intro p e s m args below meth c Q A hx hb hr hlk hml hown hin htg hN hK hQ hA hP hD hS ls hl
  have hl : lv_has ls 8 [(0, .ref aR), (1, .int x1), (2, .int x2), (3, .int x3)] := hl
  have hown : s.vm.findClass RX7 = some m.cls := hown
  have hf := (f_JoinOrderModel_comesBy_u n x1 x2 x3 R_comes R_row R_next R_cells R_facts).symm.trans hf
  refine lv_bipush (v := (8 : Int32)) hx hb dX7_comesBy_0 (by decide) ?_
  refine lv_aload_n hx hb dX7_comesBy_2 rfl (lv_at hl 0 rfl) ?_
  refine va_get (D := D) (ci := 7) (v := .int R_comes) (C := RX7) (T := TX7) (N := 34) hx hb htg giX7 hown hK hP 0 rfl rfl 27 (by decide) (htg _ kw_590) (fun _ h9 => h9) rfl dX7_comesBy_3 ?_
  refine lv_sipush (v := (500 : Int32)) hx hb dX7_comesBy_6 (by decide) ?_
  obtain ⟨o_2, ho_2, hk_2⟩ := bn1_s hf
  have J_22_2 : ∀ (z_3 : Int32), some (z_3) = some o_2 → ∀ (H : Heap) (locs : List Loc), va_P D vwCl [(aR, .inr (7, [.int R_triples, .ref aR_facts, .int R_patterns, .ref aR_cells, .ref aR_told, .ref aR_of, .ref aR_hints, .int R_filters, .ref aR_looks, .ref aR_kinds, .ref aR_values, .ref aR_isSafe, .ref aR_sizes, .ref aR_spreads, .ref aR_isSeen, .ref aR_estimates, .ref aR_rest, .int R_steps, .ref aR_order, .ref aR_joins, .ref aR_actsBehind, .ref aR_upTo, .int R_filtersThen, .ref aR_behind, .int R_rows, .ref aR_row, .ref aR_found, .int R_comes, .ref aR_next, .ref aR_nextFound, .int R_kept, .int R_hasRoom, .ref aR_keep, .ref aR_isTaken])), (aR_row, .inl (cI, 4008, .inl R_row)), (aR_next, .inl (cI, 4008, .inl R_next)), (aR_cells, .inl (cI, 24, .inl R_cells)), (aR_facts, .inl (cI, 240, .inl R_facts))] H → va_D A [(aR, .inr (7, [.int R_triples, .ref aR_facts, .int R_patterns, .ref aR_cells, .ref aR_told, .ref aR_of, .ref aR_hints, .int R_filters, .ref aR_looks, .ref aR_kinds, .ref aR_values, .ref aR_isSafe, .ref aR_sizes, .ref aR_spreads, .ref aR_isSeen, .ref aR_estimates, .ref aR_rest, .int R_steps, .ref aR_order, .ref aR_joins, .ref aR_actsBehind, .ref aR_upTo, .int R_filtersThen, .ref aR_behind, .int R_rows, .ref aR_row, .ref aR_found, .int R_comes, .ref aR_next, .ref aR_nextFound, .int R_kept, .int R_hasRoom, .ref aR_keep, .ref aR_isTaken])), (aR_row, .inl (cI, 4008, .inl R_row)), (aR_next, .inl (cI, 4008, .inl R_next)), (aR_cells, .inl (cI, 24, .inl R_cells)), (aR_facts, .inl (cI, 240, .inl R_facts))] → va_S A s.heap H locs → ∀ ls : Array Slot, lv_has ls 8 [(0, .ref aR), (1, .int x1), (2, .int x2), (3, .int x3)] → W p l e rm_f_JoinOrderModel_comesBy s m args below meth c H locs 0 0 Q (F0 m 22 ls [.int z_3, .int (8 : Int32)]) := by
    intro z_3 hf H locs hP hD hS ls hl
    have hf := hk_2 _ hf
    refine lv_imul hx hb dX7_comesBy_22 ?_
    refine lv_topi (fun x4_4 ex4_4 => ?_)
    have hf := nm_nm ex4_4 hf
    refine lv_istore (lv' := [(4, .int x4_4), (0, .ref aR), (1, .int x1), (2, .int x2), (3, .int x3)]) hx hb dX7_comesBy_23 hl (by decide) rfl (fun ls hl => ?_)
    refine lv_iconst (v := (0 : Int32)) hx hb dX7_comesBy_25 (by decide) ?_
    refine lv_istore (lv' := [(5, .int (0 : Int32)), (4, .int x4_4), (0, .ref aR), (1, .int x1), (2, .int x2), (3, .int x3)]) hx hb dX7_comesBy_26 hl (by decide) rfl (fun ls hl => ?_)
    have L_28_19 : ∀ (k : Nat) (R_next_20 : Nat → Int32) (x5_21 : Int32) (o_19 : (Nat → Int32)), f_JoinOrderModel_comesBy_L0 n x1 R_row x4_4 k R_next_20 x5_21 = some o_19 → ∀ (H : Heap) (locs : List Loc), va_P D vwCl [(aR, .inr (7, [.int R_triples, .ref aR_facts, .int R_patterns, .ref aR_cells, .ref aR_told, .ref aR_of, .ref aR_hints, .int R_filters, .ref aR_looks, .ref aR_kinds, .ref aR_values, .ref aR_isSafe, .ref aR_sizes, .ref aR_spreads, .ref aR_isSeen, .ref aR_estimates, .ref aR_rest, .int R_steps, .ref aR_order, .ref aR_joins, .ref aR_actsBehind, .ref aR_upTo, .int R_filtersThen, .ref aR_behind, .int R_rows, .ref aR_row, .ref aR_found, .int R_comes, .ref aR_next, .ref aR_nextFound, .int R_kept, .int R_hasRoom, .ref aR_keep, .ref aR_isTaken])), (aR_row, .inl (cI, 4008, .inl R_row)), (aR_next, .inl (cI, 4008, .inl R_next_20)), (aR_cells, .inl (cI, 24, .inl R_cells)), (aR_facts, .inl (cI, 240, .inl R_facts))] H → va_D A [(aR, .inr (7, [.int R_triples, .ref aR_facts, .int R_patterns, .ref aR_cells, .ref aR_told, .ref aR_of, .ref aR_hints, .int R_filters, .ref aR_looks, .ref aR_kinds, .ref aR_values, .ref aR_isSafe, .ref aR_sizes, .ref aR_spreads, .ref aR_isSeen, .ref aR_estimates, .ref aR_rest, .int R_steps, .ref aR_order, .ref aR_joins, .ref aR_actsBehind, .ref aR_upTo, .int R_filtersThen, .ref aR_behind, .int R_rows, .ref aR_row, .ref aR_found, .int R_comes, .ref aR_next, .ref aR_nextFound, .int R_kept, .int R_hasRoom, .ref aR_keep, .ref aR_isTaken])), (aR_row, .inl (cI, 4008, .inl R_row)), (aR_next, .inl (cI, 4008, .inl R_next_20)), (aR_cells, .inl (cI, 24, .inl R_cells)), (aR_facts, .inl (cI, 240, .inl R_facts))] → va_S A s.heap H locs → ∀ ls : Array Slot, lv_has ls 8 [(0, .ref aR), (1, .int x1), (2, .int x2), (3, .int x3), (4, .int x4_4), (5, .int x5_21)] → (∀ (R_next_22 : Nat → Int32), some (R_next_22) = some o_19 → ∀ (H : Heap) (locs : List Loc), va_P D vwCl [(aR, .inr (7, [.int R_triples, .ref aR_facts, .int R_patterns, .ref aR_cells, .ref aR_told, .ref aR_of, .ref aR_hints, .int R_filters, .ref aR_looks, .ref aR_kinds, .ref aR_values, .ref aR_isSafe, .ref aR_sizes, .ref aR_spreads, .ref aR_isSeen, .ref aR_estimates, .ref aR_rest, .int R_steps, .ref aR_order, .ref aR_joins, .ref aR_actsBehind, .ref aR_upTo, .int R_filtersThen, .ref aR_behind, .int R_rows, .ref aR_row, .ref aR_found, .int R_comes, .ref aR_next, .ref aR_nextFound, .int R_kept, .int R_hasRoom, .ref aR_keep, .ref aR_isTaken])), (aR_row, .inl (cI, 4008, .inl R_row)), (aR_next, .inl (cI, 4008, .inl R_next_22)), (aR_cells, .inl (cI, 24, .inl R_cells)), (aR_facts, .inl (cI, 240, .inl R_facts))] H → va_D A [(aR, .inr (7, [.int R_triples, .ref aR_facts, .int R_patterns, .ref aR_cells, .ref aR_told, .ref aR_of, .ref aR_hints, .int R_filters, .ref aR_looks, .ref aR_kinds, .ref aR_values, .ref aR_isSafe, .ref aR_sizes, .ref aR_spreads, .ref aR_isSeen, .ref aR_estimates, .ref aR_rest, .int R_steps, .ref aR_order, .ref aR_joins, .ref aR_actsBehind, .ref aR_upTo, .int R_filtersThen, .ref aR_behind, .int R_rows, .ref aR_row, .ref aR_found, .int R_comes, .ref aR_next, .ref aR_nextFound, .int R_kept, .int R_hasRoom, .ref aR_keep, .ref aR_isTaken])), (aR_row, .inl (cI, 4008, .inl R_row)), (aR_next, .inl (cI, 4008, .inl R_next_22)), (aR_cells, .inl (cI, 24, .inl R_cells)), (aR_facts, .inl (cI, 240, .inl R_facts))] → va_S A s.heap H locs → ∀ ls : Array Slot, lv_has ls 8 [(0, .ref aR), (2, .int x2), (3, .int x3), (4, .int x4_4)] → W p l e rm_f_JoinOrderModel_comesBy s m args below meth c H locs 0 0 Q (F0 m 63 ls [])) → W p l e rm_f_JoinOrderModel_comesBy s m args below meth c H locs 0 0 Q (F0 m 28 ls []) := by
      intro k
      induction k with
      | zero =>
        intro R_next_20 x5_21 o_19 hf
        exact absurd (((f_JoinOrderModel_comesBy_L0_z n x1 R_row x4_4 R_next_20 x5_21).symm.trans hf)) (fun h => by cases h)
      | succ k ih =>
        intro R_next_20 x5_21 o_19 hf H locs hP hD hS ls hl hX_19
        have hf := (f_JoinOrderModel_comesBy_L0_s n x1 R_row x4_4 k R_next_20 x5_21).symm.trans hf
        refine lv_iload hx hb dX7_comesBy_28 (lv_at hl 5 rfl) ?_
        refine lv_bipush (v := (8 : Int32)) hx hb dX7_comesBy_30 (by decide) ?_
        refine lv_icmp_ge (tgt := 63) hx hb dX7_comesBy_32 (by decide) (fun c_23 => ?_) (fun c_23 => ?_)
        · have hf := xb_t c_23 hf
          exact hX_19 R_next_20 hf _ _ hP hD hS _ (lv_sub hl [0, 2, 3, 4] rfl)
        · have hf := xb_f c_23 hf
          refine lv_aload_n hx hb dX7_comesBy_35 rfl (lv_at hl 0 rfl) ?_
          refine va_get (D := D) (ci := 7) (v := .ref aR_next) (C := RX7) (T := TX7) (N := 34) hx hb htg giX7 hown hK hP 0 rfl rfl 28 (by decide) (htg _ kw_591) (fun _ h9 => h9) rfl dX7_comesBy_36 ?_
          refine lv_iload hx hb dX7_comesBy_39 (lv_at hl 4 rfl) ?_
          refine lv_iload hx hb dX7_comesBy_41 (lv_at hl 5 rfl) ?_
          refine lv_iadd hx hb dX7_comesBy_43 ?_
          refine lv_aload_n hx hb dX7_comesBy_44 rfl (lv_at hl 0 rfl) ?_
          refine va_get (D := D) (ci := 7) (v := .ref aR_row) (C := RX7) (T := TX7) (N := 34) hx hb htg giX7 hown hK hP 0 rfl rfl 25 (by decide) (htg _ kw_588) (fun _ h9 => h9) rfl dX7_comesBy_45 ?_
          refine lv_bipush (v := (8 : Int32)) hx hb dX7_comesBy_48 (by decide) ?_
          refine lv_iload_n hx hb dX7_comesBy_50 rfl (lv_at hl 1 rfl) ?_
          refine lv_imul hx hb dX7_comesBy_51 ?_
          refine lv_iload hx hb dX7_comesBy_52 (lv_at hl 5 rfl) ?_
          refine lv_iadd hx hb dX7_comesBy_54 ?_
          have g_24 : vp_in (((8 : Int32) * x1) + x5_21) 4008 := gd_in hf
          have hf := gd_el hf
          refine va_iald hx hb hK hP 1 0 rfl rfl g_24 dX7_comesBy_55 ?_
          refine lv_topi (fun v_25 ev_25 => ?_)
          have hf := nm_nm ev_25 hf
          have g_26 : vp_in (x4_4 + x5_21) 4008 := gd_in hf
          have hf := gd_el hf
          refine x_iast hx hb hK hP hD hS 2 0 rfl rfl g_26 dX7_comesBy_56 (fun R_next_27 eR_next_27 H locs hP hD hS => ?_)
          have hf := nm_nm eR_next_27 hf
          have hP : va_P D vwCl [(aR, .inr (7, [.int R_triples, .ref aR_facts, .int R_patterns, .ref aR_cells, .ref aR_told, .ref aR_of, .ref aR_hints, .int R_filters, .ref aR_looks, .ref aR_kinds, .ref aR_values, .ref aR_isSafe, .ref aR_sizes, .ref aR_spreads, .ref aR_isSeen, .ref aR_estimates, .ref aR_rest, .int R_steps, .ref aR_order, .ref aR_joins, .ref aR_actsBehind, .ref aR_upTo, .int R_filtersThen, .ref aR_behind, .int R_rows, .ref aR_row, .ref aR_found, .int R_comes, .ref aR_next, .ref aR_nextFound, .int R_kept, .int R_hasRoom, .ref aR_keep, .ref aR_isTaken])), (aR_row, .inl (cI, 4008, .inl R_row)), (aR_next, .inl (cI, 4008, .inl R_next_27)), (aR_cells, .inl (cI, 24, .inl R_cells)), (aR_facts, .inl (cI, 240, .inl R_facts))] H := hP
          have hD : va_D A [(aR, .inr (7, [.int R_triples, .ref aR_facts, .int R_patterns, .ref aR_cells, .ref aR_told, .ref aR_of, .ref aR_hints, .int R_filters, .ref aR_looks, .ref aR_kinds, .ref aR_values, .ref aR_isSafe, .ref aR_sizes, .ref aR_spreads, .ref aR_isSeen, .ref aR_estimates, .ref aR_rest, .int R_steps, .ref aR_order, .ref aR_joins, .ref aR_actsBehind, .ref aR_upTo, .int R_filtersThen, .ref aR_behind, .int R_rows, .ref aR_row, .ref aR_found, .int R_comes, .ref aR_next, .ref aR_nextFound, .int R_kept, .int R_hasRoom, .ref aR_keep, .ref aR_isTaken])), (aR_row, .inl (cI, 4008, .inl R_row)), (aR_next, .inl (cI, 4008, .inl R_next_27)), (aR_cells, .inl (cI, 24, .inl R_cells)), (aR_facts, .inl (cI, 240, .inl R_facts))] := hD
          obtain ⟨x5_28, ex5_28⟩ : ∃ y : Int32, y = x5_21 + (1 : Int32) := ⟨_, rfl⟩
          have hf := nm_nm ex5_28 hf
          refine lv_iinc (v := x5_28) (lv' := [(5, .int x5_28), (0, .ref aR), (1, .int x1), (2, .int x2), (3, .int x3), (4, .int x4_4)]) hx hb dX7_comesBy_57 hl (k := 5) rfl (by rw [ex5_28]; rfl) (by decide) rfl (fun ls hl => ?_)
          refine lv_goto (tgt := 28) hx hb dX7_comesBy_60 (by decide) ?_
          exact ih R_next_27 x5_28 o_19 hf _ _ hP hD hS _ (lv_sub hl [1, 2, 3, 4, 5, 0] rfl) hX_19
    obtain ⟨o_19, ho_19, hk_19⟩ := bn1_s hf
    refine L_28_19 n R_next (0 : Int32) o_19 ho_19 _ _ hP hD hS _ (lv_sub hl [2, 3, 4, 5, 1, 0] rfl) (fun R_next_22 hf H locs hP hD hS ls hl => ?_)
    have hf := hk_19 _ hf
    refine lv_iconst (v := (0 : Int32)) hx hb dX7_comesBy_63 (by decide) ?_
    refine lv_istore (lv' := [(5, .int (0 : Int32)), (0, .ref aR), (2, .int x2), (3, .int x3), (4, .int x4_4)]) hx hb dX7_comesBy_64 hl (by decide) rfl (fun ls hl => ?_)
    have L_66_71 : ∀ (k : Nat) (R_next_72 : Nat → Int32) (x5_73 : Int32) (o_71 : ((Int32 × (Nat → Int32)) ⊕ (Nat → Int32))), f_JoinOrderModel_comesBy_L1 n x2 x3 R_cells R_facts x4_4 k R_next_72 x5_73 = some o_71 → (∀ z : (Int32 × (Nat → Int32)), some (Sum.inl z) = some o_71 → z = (r, R_next')) → ∀ (H : Heap) (locs : List Loc), va_P D vwCl [(aR, .inr (7, [.int R_triples, .ref aR_facts, .int R_patterns, .ref aR_cells, .ref aR_told, .ref aR_of, .ref aR_hints, .int R_filters, .ref aR_looks, .ref aR_kinds, .ref aR_values, .ref aR_isSafe, .ref aR_sizes, .ref aR_spreads, .ref aR_isSeen, .ref aR_estimates, .ref aR_rest, .int R_steps, .ref aR_order, .ref aR_joins, .ref aR_actsBehind, .ref aR_upTo, .int R_filtersThen, .ref aR_behind, .int R_rows, .ref aR_row, .ref aR_found, .int R_comes, .ref aR_next, .ref aR_nextFound, .int R_kept, .int R_hasRoom, .ref aR_keep, .ref aR_isTaken])), (aR_row, .inl (cI, 4008, .inl R_row)), (aR_next, .inl (cI, 4008, .inl R_next_72)), (aR_cells, .inl (cI, 24, .inl R_cells)), (aR_facts, .inl (cI, 240, .inl R_facts))] H → va_D A [(aR, .inr (7, [.int R_triples, .ref aR_facts, .int R_patterns, .ref aR_cells, .ref aR_told, .ref aR_of, .ref aR_hints, .int R_filters, .ref aR_looks, .ref aR_kinds, .ref aR_values, .ref aR_isSafe, .ref aR_sizes, .ref aR_spreads, .ref aR_isSeen, .ref aR_estimates, .ref aR_rest, .int R_steps, .ref aR_order, .ref aR_joins, .ref aR_actsBehind, .ref aR_upTo, .int R_filtersThen, .ref aR_behind, .int R_rows, .ref aR_row, .ref aR_found, .int R_comes, .ref aR_next, .ref aR_nextFound, .int R_kept, .int R_hasRoom, .ref aR_keep, .ref aR_isTaken])), (aR_row, .inl (cI, 4008, .inl R_row)), (aR_next, .inl (cI, 4008, .inl R_next_72)), (aR_cells, .inl (cI, 24, .inl R_cells)), (aR_facts, .inl (cI, 240, .inl R_facts))] → va_S A s.heap H locs → ∀ ls : Array Slot, lv_has ls 8 [(0, .ref aR), (2, .int x2), (3, .int x3), (4, .int x4_4), (5, .int x5_73)] → (∀ (R_next_74 : Nat → Int32), some (Sum.inr R_next_74) = some o_71 → ∀ (H : Heap) (locs : List Loc), va_P D vwCl [(aR, .inr (7, [.int R_triples, .ref aR_facts, .int R_patterns, .ref aR_cells, .ref aR_told, .ref aR_of, .ref aR_hints, .int R_filters, .ref aR_looks, .ref aR_kinds, .ref aR_values, .ref aR_isSafe, .ref aR_sizes, .ref aR_spreads, .ref aR_isSeen, .ref aR_estimates, .ref aR_rest, .int R_steps, .ref aR_order, .ref aR_joins, .ref aR_actsBehind, .ref aR_upTo, .int R_filtersThen, .ref aR_behind, .int R_rows, .ref aR_row, .ref aR_found, .int R_comes, .ref aR_next, .ref aR_nextFound, .int R_kept, .int R_hasRoom, .ref aR_keep, .ref aR_isTaken])), (aR_row, .inl (cI, 4008, .inl R_row)), (aR_next, .inl (cI, 4008, .inl R_next_74)), (aR_cells, .inl (cI, 24, .inl R_cells)), (aR_facts, .inl (cI, 240, .inl R_facts))] H → va_D A [(aR, .inr (7, [.int R_triples, .ref aR_facts, .int R_patterns, .ref aR_cells, .ref aR_told, .ref aR_of, .ref aR_hints, .int R_filters, .ref aR_looks, .ref aR_kinds, .ref aR_values, .ref aR_isSafe, .ref aR_sizes, .ref aR_spreads, .ref aR_isSeen, .ref aR_estimates, .ref aR_rest, .int R_steps, .ref aR_order, .ref aR_joins, .ref aR_actsBehind, .ref aR_upTo, .int R_filtersThen, .ref aR_behind, .int R_rows, .ref aR_row, .ref aR_found, .int R_comes, .ref aR_next, .ref aR_nextFound, .int R_kept, .int R_hasRoom, .ref aR_keep, .ref aR_isTaken])), (aR_row, .inl (cI, 4008, .inl R_row)), (aR_next, .inl (cI, 4008, .inl R_next_74)), (aR_cells, .inl (cI, 24, .inl R_cells)), (aR_facts, .inl (cI, 240, .inl R_facts))] → va_S A s.heap H locs → ∀ ls : Array Slot, lv_has ls 8 [] → W p l e rm_f_JoinOrderModel_comesBy s m args below meth c H locs 0 0 Q (F0 m 173 ls [])) → W p l e rm_f_JoinOrderModel_comesBy s m args below meth c H locs 0 0 Q (F0 m 66 ls []) := by
      intro k
      induction k with
      | zero =>
        intro R_next_72 x5_73 o_71 hf
        exact absurd (((f_JoinOrderModel_comesBy_L1_z n x2 x3 R_cells R_facts x4_4 R_next_72 x5_73).symm.trans hf)) (fun h => by cases h)
      | succ k ih =>
        intro R_next_72 x5_73 o_71 hf hret_71 H locs hP hD hS ls hl hX_71
        have hf := (f_JoinOrderModel_comesBy_L1_s n x2 x3 R_cells R_facts x4_4 k R_next_72 x5_73).symm.trans hf
        refine lv_iload hx hb dX7_comesBy_66 (lv_at hl 4 rfl) ?_
        refine lv_iconst (v := (3 : Int32)) hx hb dX7_comesBy_68 (by decide) ?_
        refine lv_icmp_ge (tgt := 173) hx hb dX7_comesBy_69 (by decide) (fun c_75 => ?_) (fun c_75 => ?_)
        · have hf := xb_t c_75 hf
          exact hX_71 R_next_72 hf _ _ hP hD hS _ (lv_sub hl [] rfl)
        · have hf := xb_f c_75 hf
          refine lv_aload_n hx hb dX7_comesBy_72 rfl (lv_at hl 0 rfl) ?_
          refine va_get (D := D) (ci := 7) (v := .ref aR_cells) (C := RX7) (T := TX7) (N := 34) hx hb htg giX7 hown hK hP 0 rfl rfl 3 (by decide) (htg _ kw_566) (fun _ h9 => h9) rfl dX7_comesBy_73 ?_
          refine lv_iconst (v := (3 : Int32)) hx hb dX7_comesBy_76 (by decide) ?_
          refine lv_iload_n hx hb dX7_comesBy_77 rfl (lv_at hl 1 rfl) ?_
          refine lv_imul hx hb dX7_comesBy_78 ?_
          refine lv_iload hx hb dX7_comesBy_79 (lv_at hl 4 rfl) ?_
          refine lv_iadd hx hb dX7_comesBy_81 ?_
          have g_76 : vp_in (((3 : Int32) * x2) + x5_73) 24 := gd_in hf
          have hf := gd_el hf
          refine va_iald hx hb hK hP 3 0 rfl rfl g_76 dX7_comesBy_82 ?_
          refine lv_topi (fun x6_77 ex6_77 => ?_)
          have hf := nm_nm ex6_77 hf
          refine lv_istore (lv' := [(6, .int x6_77), (0, .ref aR), (2, .int x2), (3, .int x3), (4, .int x4_4), (5, .int x5_73)]) hx hb dX7_comesBy_83 hl (by decide) rfl (fun ls hl => ?_)
          refine lv_aload_n hx hb dX7_comesBy_85 rfl (lv_at hl 1 rfl) ?_
          refine va_get (D := D) (ci := 7) (v := .ref aR_facts) (C := RX7) (T := TX7) (N := 34) hx hb htg giX7 hown hK hP 0 rfl rfl 1 (by decide) (htg _ kw_564) (fun _ h9 => h9) rfl dX7_comesBy_86 ?_
          refine lv_iconst (v := (3 : Int32)) hx hb dX7_comesBy_89 (by decide) ?_
          refine lv_iload_n hx hb dX7_comesBy_90 rfl (lv_at hl 3 rfl) ?_
          refine lv_imul hx hb dX7_comesBy_91 ?_
          refine lv_iload hx hb dX7_comesBy_92 (lv_at hl 5 rfl) ?_
          refine lv_iadd hx hb dX7_comesBy_94 ?_
          have g_78 : vp_in (((3 : Int32) * x3) + x5_73) 240 := gd_in hf
          have hf := gd_el hf
          refine va_iald hx hb hK hP 4 0 rfl rfl g_78 dX7_comesBy_95 ?_
          refine lv_topi (fun x7_79 ex7_79 => ?_)
          have hf := nm_nm ex7_79 hf
          refine lv_istore (lv' := [(7, .int x7_79), (6, .int x6_77), (0, .ref aR), (2, .int x2), (3, .int x3), (4, .int x4_4), (5, .int x5_73)]) hx hb dX7_comesBy_96 hl (by decide) rfl (fun ls hl => ?_)
          refine lv_iload hx hb dX7_comesBy_98 (lv_at hl 1 rfl) ?_
          obtain ⟨o_85, ho_85, hret_85, hk_85⟩ := bd0_s hf
          have J_148_85 : some (Sum.inr ()) = some o_85 → ∀ (H : Heap) (locs : List Loc), va_P D vwCl [(aR, .inr (7, [.int R_triples, .ref aR_facts, .int R_patterns, .ref aR_cells, .ref aR_told, .ref aR_of, .ref aR_hints, .int R_filters, .ref aR_looks, .ref aR_kinds, .ref aR_values, .ref aR_isSafe, .ref aR_sizes, .ref aR_spreads, .ref aR_isSeen, .ref aR_estimates, .ref aR_rest, .int R_steps, .ref aR_order, .ref aR_joins, .ref aR_actsBehind, .ref aR_upTo, .int R_filtersThen, .ref aR_behind, .int R_rows, .ref aR_row, .ref aR_found, .int R_comes, .ref aR_next, .ref aR_nextFound, .int R_kept, .int R_hasRoom, .ref aR_keep, .ref aR_isTaken])), (aR_row, .inl (cI, 4008, .inl R_row)), (aR_next, .inl (cI, 4008, .inl R_next_72)), (aR_cells, .inl (cI, 24, .inl R_cells)), (aR_facts, .inl (cI, 240, .inl R_facts))] H → va_D A [(aR, .inr (7, [.int R_triples, .ref aR_facts, .int R_patterns, .ref aR_cells, .ref aR_told, .ref aR_of, .ref aR_hints, .int R_filters, .ref aR_looks, .ref aR_kinds, .ref aR_values, .ref aR_isSafe, .ref aR_sizes, .ref aR_spreads, .ref aR_isSeen, .ref aR_estimates, .ref aR_rest, .int R_steps, .ref aR_order, .ref aR_joins, .ref aR_actsBehind, .ref aR_upTo, .int R_filtersThen, .ref aR_behind, .int R_rows, .ref aR_row, .ref aR_found, .int R_comes, .ref aR_next, .ref aR_nextFound, .int R_kept, .int R_hasRoom, .ref aR_keep, .ref aR_isTaken])), (aR_row, .inl (cI, 4008, .inl R_row)), (aR_next, .inl (cI, 4008, .inl R_next_72)), (aR_cells, .inl (cI, 24, .inl R_cells)), (aR_facts, .inl (cI, 240, .inl R_facts))] → va_S A s.heap H locs → ∀ ls : Array Slot, lv_has ls 8 [(0, .ref aR), (2, .int x2), (3, .int x3), (4, .int x4_4), (5, .int x5_73), (6, .int x6_77), (7, .int x7_79)] → W p l e rm_f_JoinOrderModel_comesBy s m args below meth c H locs 0 0 Q (F0 m 148 ls []) := by
            intro  hf H locs hP hD hS ls hl
            have hf := hk_85  hf
            refine lv_iload hx hb dX7_comesBy_148 (lv_at hl 5 rfl) ?_
            refine lv_if_ge (tgt := 167) hx hb dX7_comesBy_150 (by decide) (fun c_86 => ?_) (fun c_86 => ?_)
            · have hf := xb_t c_86 hf
              obtain ⟨x5_87, ex5_87⟩ : ∃ y : Int32, y = x5_73 + (1 : Int32) := ⟨_, rfl⟩
              have hf := nm_nm ex5_87 hf
              refine lv_iinc (v := x5_87) (lv' := [(5, .int x5_87), (0, .ref aR), (2, .int x2), (3, .int x3), (4, .int x4_4), (6, .int x6_77), (7, .int x7_79)]) hx hb dX7_comesBy_167 hl (k := 4) rfl (by rw [ex5_87]; rfl) (by decide) rfl (fun ls hl => ?_)
              refine lv_goto (tgt := 66) hx hb dX7_comesBy_170 (by decide) ?_
              exact ih R_next_72 x5_87 o_71 hf hret_71 _ _ hP hD hS _ (lv_sub hl [1, 2, 3, 4, 0] rfl) hX_71
            · have hf := xb_f c_86 hf
              refine lv_aload_n hx hb dX7_comesBy_153 rfl (lv_at hl 0 rfl) ?_
              refine va_get (D := D) (ci := 7) (v := .ref aR_next) (C := RX7) (T := TX7) (N := 34) hx hb htg giX7 hown hK hP 0 rfl rfl 28 (by decide) (htg _ kw_591) (fun _ h9 => h9) rfl dX7_comesBy_154 ?_
              refine lv_iload hx hb dX7_comesBy_157 (lv_at hl 3 rfl) ?_
              refine lv_iconst (v := (1 : Int32)) hx hb dX7_comesBy_159 (by decide) ?_
              refine lv_isub hx hb dX7_comesBy_160 ?_
              refine lv_iload hx hb dX7_comesBy_161 (lv_at hl 5 rfl) ?_
              refine lv_isub hx hb dX7_comesBy_163 ?_
              refine lv_iload hx hb dX7_comesBy_164 (lv_at hl 6 rfl) ?_
              have g_88 : vp_in ((x4_4 - (1 : Int32)) - x6_77) 4008 := gd_in hf
              have hf := gd_el hf
              refine x_iast hx hb hK hP hD hS 2 0 rfl rfl g_88 dX7_comesBy_166 (fun R_next_89 eR_next_89 H locs hP hD hS => ?_)
              have hf := nm_nm eR_next_89 hf
              have hP : va_P D vwCl [(aR, .inr (7, [.int R_triples, .ref aR_facts, .int R_patterns, .ref aR_cells, .ref aR_told, .ref aR_of, .ref aR_hints, .int R_filters, .ref aR_looks, .ref aR_kinds, .ref aR_values, .ref aR_isSafe, .ref aR_sizes, .ref aR_spreads, .ref aR_isSeen, .ref aR_estimates, .ref aR_rest, .int R_steps, .ref aR_order, .ref aR_joins, .ref aR_actsBehind, .ref aR_upTo, .int R_filtersThen, .ref aR_behind, .int R_rows, .ref aR_row, .ref aR_found, .int R_comes, .ref aR_next, .ref aR_nextFound, .int R_kept, .int R_hasRoom, .ref aR_keep, .ref aR_isTaken])), (aR_row, .inl (cI, 4008, .inl R_row)), (aR_next, .inl (cI, 4008, .inl R_next_89)), (aR_cells, .inl (cI, 24, .inl R_cells)), (aR_facts, .inl (cI, 240, .inl R_facts))] H := hP
              have hD : va_D A [(aR, .inr (7, [.int R_triples, .ref aR_facts, .int R_patterns, .ref aR_cells, .ref aR_told, .ref aR_of, .ref aR_hints, .int R_filters, .ref aR_looks, .ref aR_kinds, .ref aR_values, .ref aR_isSafe, .ref aR_sizes, .ref aR_spreads, .ref aR_isSeen, .ref aR_estimates, .ref aR_rest, .int R_steps, .ref aR_order, .ref aR_joins, .ref aR_actsBehind, .ref aR_upTo, .int R_filtersThen, .ref aR_behind, .int R_rows, .ref aR_row, .ref aR_found, .int R_comes, .ref aR_next, .ref aR_nextFound, .int R_kept, .int R_hasRoom, .ref aR_keep, .ref aR_isTaken])), (aR_row, .inl (cI, 4008, .inl R_row)), (aR_next, .inl (cI, 4008, .inl R_next_89)), (aR_cells, .inl (cI, 24, .inl R_cells)), (aR_facts, .inl (cI, 240, .inl R_facts))] := hD
              obtain ⟨x5_90, ex5_90⟩ : ∃ y : Int32, y = x5_73 + (1 : Int32) := ⟨_, rfl⟩
              have hf := nm_nm ex5_90 hf
              refine lv_iinc (v := x5_90) (lv' := [(5, .int x5_90), (0, .ref aR), (2, .int x2), (3, .int x3), (4, .int x4_4), (6, .int x6_77), (7, .int x7_79)]) hx hb dX7_comesBy_167 hl (k := 4) rfl (by rw [ex5_90]; rfl) (by decide) rfl (fun ls hl => ?_)
              refine lv_goto (tgt := 66) hx hb dX7_comesBy_170 (by decide) ?_
              exact ih R_next_89 x5_90 o_71 hf hret_71 _ _ hP hD hS _ (lv_sub hl [1, 2, 3, 4, 0] rfl) hX_71
          have hf := ho_85
          refine lv_if_lt (tgt := 113) hx hb dX7_comesBy_100 (by decide) (fun c_80 => ?_) (fun c_80 => ?_)
          · have hf := xb_t c_80 hf
            refine lv_aload_n hx hb dX7_comesBy_113 rfl (lv_at hl 2 rfl) ?_
            refine va_get (D := D) (ci := 7) (v := .ref aR_next) (C := RX7) (T := TX7) (N := 34) hx hb htg giX7 hown hK hP 0 rfl rfl 28 (by decide) (htg _ kw_591) (fun _ h9 => h9) rfl dX7_comesBy_114 ?_
            refine lv_iload hx hb dX7_comesBy_117 (lv_at hl 5 rfl) ?_
            refine lv_iconst (v := (1 : Int32)) hx hb dX7_comesBy_119 (by decide) ?_
            refine lv_isub hx hb dX7_comesBy_120 ?_
            refine lv_iload hx hb dX7_comesBy_121 (lv_at hl 1 rfl) ?_
            refine lv_isub hx hb dX7_comesBy_123 ?_
            have g_91 : vp_in ((x4_4 - (1 : Int32)) - x6_77) 4008 := gd_in hf
            have hf := gd_el hf
            refine va_iald hx hb hK hP 2 0 rfl rfl g_91 dX7_comesBy_124 ?_
            refine lv_iconst (v := (-1 : Int32)) hx hb dX7_comesBy_125 (by decide) ?_
            refine lv_icmp_eq (tgt := 148) hx hb dX7_comesBy_126 (by decide) (fun c_92 => ?_) (fun c_92 => ?_)
            · have hf := xb_t c_92 hf
              exact J_148_85  hf _ _ hP hD hS _ (lv_sub hl [2, 3, 4, 5, 6, 1, 0] rfl)
            · have hf := xb_f c_92 hf
              refine lv_aload_n hx hb dX7_comesBy_129 rfl (lv_at hl 2 rfl) ?_
              refine va_get (D := D) (ci := 7) (v := .ref aR_next) (C := RX7) (T := TX7) (N := 34) hx hb htg giX7 hown hK hP 0 rfl rfl 28 (by decide) (htg _ kw_591) (fun _ h9 => h9) rfl dX7_comesBy_130 ?_
              refine lv_iload hx hb dX7_comesBy_133 (lv_at hl 5 rfl) ?_
              refine lv_iconst (v := (1 : Int32)) hx hb dX7_comesBy_135 (by decide) ?_
              refine lv_isub hx hb dX7_comesBy_136 ?_
              refine lv_iload hx hb dX7_comesBy_137 (lv_at hl 1 rfl) ?_
              refine lv_isub hx hb dX7_comesBy_139 ?_
              refine va_iald hx hb hK hP 2 0 rfl rfl g_91 dX7_comesBy_140 ?_
              refine lv_iload hx hb dX7_comesBy_141 (lv_at hl 0 rfl) ?_
              refine lv_icmp_eq (tgt := 148) hx hb dX7_comesBy_143 (by decide) (fun c_93 => ?_) (fun c_93 => ?_)
              · have hf := xb_t c_93 hf
                exact J_148_85  hf _ _ hP hD hS _ (lv_sub hl [2, 3, 4, 5, 6, 1, 0] rfl)
              · have hf := xb_f c_93 hf
                refine lv_iconst (v := (0 : Int32)) hx hb dX7_comesBy_146 (by decide) ?_
                have hf := congrArg some (hret_85 _ hf)
                have hf := congrArg some (hret_71 _ hf)
                have hf := Option.some.inj hf
                obtain ⟨k9_0, f9_0⟩ := Prod.mk.inj hf
                subst k9_0
                subst f9_0
                exact x_zret (fun _ => 0) hQ hx hb hr hlk (by decide) hK hP hD hS dX7_comesBy_147
          · have hf := xb_f c_80 hf
            refine lv_iload hx hb dX7_comesBy_103 (lv_at hl 1 rfl) ?_
            refine lv_iload hx hb dX7_comesBy_105 (lv_at hl 0 rfl) ?_
            refine lv_icmp_eq (tgt := 148) hx hb dX7_comesBy_107 (by decide) (fun c_94 => ?_) (fun c_94 => ?_)
            · have hf := xb_t c_94 hf
              exact J_148_85  hf _ _ hP hD hS _ (lv_sub hl [2, 3, 4, 5, 6, 1, 0] rfl)
            · have hf := xb_f c_94 hf
              refine lv_goto (tgt := 146) hx hb dX7_comesBy_110 (by decide) ?_
              refine lv_iconst (v := (0 : Int32)) hx hb dX7_comesBy_146 (by decide) ?_
              have hf := congrArg some (hret_85 _ hf)
              have hf := congrArg some (hret_71 _ hf)
              have hf := Option.some.inj hf
              obtain ⟨k9_0, f9_0⟩ := Prod.mk.inj hf
              subst k9_0
              subst f9_0
              exact x_zret (fun _ => 0) hQ hx hb hr hlk (by decide) hK hP hD hS dX7_comesBy_147
    obtain ⟨o_71, ho_71, hret_71, hk_71⟩ := bd1_s hf
    refine L_66_71 n R_next_22 (0 : Int32) o_71 ho_71 hret_71 _ _ hP hD hS _ (lv_sub hl [1, 2, 3, 4, 0] rfl) (fun R_next_74 hf H locs hP hD hS ls hl => ?_)
    have hf := hk_71 _ hf
    refine lv_iconst (v := (1 : Int32)) hx hb dX7_comesBy_173 (by decide) ?_
    have hf := Option.some.inj hf
    obtain ⟨k9_0, f9_0⟩ := Prod.mk.inj hf
    subst k9_0
    subst f9_0
    exact x_zret (fun _ => 0) hQ hx hb hr hlk (by decide) hK hP hD hS dX7_comesBy_174
  have hf := ho_2
  refine lv_icmp_ge (tgt := 19) hx hb dX7_comesBy_9 (by decide) (fun c_1 => ?_) (fun c_1 => ?_)
  · have hf := xb_t c_1 hf
    refine lv_sipush (v := (500 : Int32)) hx hb dX7_comesBy_19 (by decide) ?_
    exact J_22_2 (500 : Int32) hf _ _ hP hD hS _ hl
  · have hf := xb_f c_1 hf
    refine lv_aload_n hx hb dX7_comesBy_12 rfl (lv_at hl 0 rfl) ?_
    refine va_get (D := D) (ci := 7) (v := .int R_comes) (C := RX7) (T := TX7) (N := 34) hx hb htg giX7 hown hK hP 0 rfl rfl 27 (by decide) (htg _ kw_590) (fun _ h9 => h9) rfl dX7_comesBy_13 ?_
    refine lv_goto (tgt := 22) hx hb dX7_comesBy_16 (by decide) ?_
    exact J_22_2 R_comes hf _ _ hP hD hS _ hl
