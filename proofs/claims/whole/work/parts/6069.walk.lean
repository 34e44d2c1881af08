abbrev rm_f_JoinOrderModel_variablesOf : Room := { frames := 0, cells := 0, slots := 0, locals := 0 }
set_option maxHeartbeats 4000000 in
set_option maxRecDepth 100000 in
theorem c_f_JoinOrderModel_variablesOf (l : Launch) (D : va_G) (cI cJ cZ : ClassId) (sz : Nat) (n : Nat) (aR : Nat) (x1 : Int32) (R_triples : Int32) (aR_facts : Nat) (R_patterns : Int32) (aR_cells : Nat) (aR_told : Nat) (aR_of : Nat) (aR_hints : Nat) (R_filters : Int32) (aR_looks : Nat) (aR_kinds : Nat) (aR_values : Nat) (aR_isSafe : Nat) (aR_sizes : Nat) (aR_spreads : Nat) (aR_isSeen : Nat) (aR_estimates : Nat) (aR_rest : Nat) (R_steps : Int32) (aR_order : Nat) (aR_joins : Nat) (aR_actsBehind : Nat) (aR_upTo : Nat) (R_filtersThen : Int32) (aR_behind : Nat) (R_rows : Int32) (aR_row : Nat) (aR_found : Nat) (R_comes : Int32) (aR_next : Nat) (aR_nextFound : Nat) (R_kept : Int32) (R_hasRoom : Int32) (aR_keep : Nat) (aR_isTaken : Nat) (R_spreads : Nat → Int32) {r : Int32} (hf : f_JoinOrderModel_variablesOf n x1 R_patterns R_spreads = some r) : Met l yX7_variablesOf (.code yX7_variablesOf cX7_variablesOf 5 (some .int) :: GW) rm_f_JoinOrderModel_variablesOf (va_Pc [.ref aR, .int x1] (xP D (xT cI cJ cZ) sz [(aR, .inr (7, [.int R_triples, .ref aR_facts, .int R_patterns, .ref aR_cells, .ref aR_told, .ref aR_of, .ref aR_hints, .int R_filters, .ref aR_looks, .ref aR_kinds, .ref aR_values, .ref aR_isSafe, .ref aR_sizes, .ref aR_spreads, .ref aR_isSeen, .ref aR_estimates, .ref aR_rest, .int R_steps, .ref aR_order, .ref aR_joins, .ref aR_actsBehind, .ref aR_upTo, .int R_filtersThen, .ref aR_behind, .int R_rows, .ref aR_row, .ref aR_found, .int R_comes, .ref aR_next, .ref aR_nextFound, .int R_kept, .int R_hasRoom, .ref aR_keep, .ref aR_isTaken])), (aR_spreads, .inl (cI, 64, .inl R_spreads))])) (va_Qi (fun r2 (_ : Nat → Nat) => r2 = r) (bB D (xT cI cJ cZ) (fun _ => [(aR, .inr (7, [.int R_triples, .ref aR_facts, .int R_patterns, .ref aR_cells, .ref aR_told, .ref aR_of, .ref aR_hints, .int R_filters, .ref aR_looks, .ref aR_kinds, .ref aR_values, .ref aR_isSafe, .ref aR_sizes, .ref aR_spreads, .ref aR_isSeen, .ref aR_estimates, .ref aR_rest, .int R_steps, .ref aR_order, .ref aR_joins, .ref aR_actsBehind, .ref aR_upTo, .int R_filtersThen, .ref aR_behind, .int R_rows, .ref aR_row, .ref aR_found, .int R_comes, .ref aR_next, .ref aR_nextFound, .int R_kept, .int R_hasRoom, .ref aR_keep, .ref aR_isTaken])), (aR_spreads, .inl (cI, 64, .inl R_spreads))]) (va_A [(aR, .inr (7, [.int R_triples, .ref aR_facts, .int R_patterns, .ref aR_cells, .ref aR_told, .ref aR_of, .ref aR_hints, .int R_filters, .ref aR_looks, .ref aR_kinds, .ref aR_values, .ref aR_isSafe, .ref aR_sizes, .ref aR_spreads, .ref aR_isSeen, .ref aR_estimates, .ref aR_rest, .int R_steps, .ref aR_order, .ref aR_joins, .ref aR_actsBehind, .ref aR_upTo, .int R_filtersThen, .ref aR_behind, .int R_rows, .ref aR_row, .ref aR_found, .int R_comes, .ref aR_next, .ref aR_nextFound, .int R_kept, .int R_hasRoom, .ref aR_keep, .ref aR_isTaken])), (aR_spreads, .inl (cI, 64, .inl R_spreads))] sz)) (va_A [(aR, .inr (7, [.int R_triples, .ref aR_facts, .int R_patterns, .ref aR_cells, .ref aR_told, .ref aR_of, .ref aR_hints, .int R_filters, .ref aR_looks, .ref aR_kinds, .ref aR_values, .ref aR_isSafe, .ref aR_sizes, .ref aR_spreads, .ref aR_isSeen, .ref aR_estimates, .ref aR_rest, .int R_steps, .ref aR_order, .ref aR_joins, .ref aR_actsBehind, .ref aR_upTo, .int R_filtersThen, .ref aR_behind, .int R_rows, .ref aR_row, .ref aR_found, .int R_comes, .ref aR_next, .ref aR_nextFound, .int R_kept, .int R_hasRoom, .ref aR_keep, .ref aR_isTaken])), (aR_spreads, .inl (cI, 64, .inl R_spreads))] sz)) 0 0 (va_A [(aR, .inr (7, [.int R_triples, .ref aR_facts, .int R_patterns, .ref aR_cells, .ref aR_told, .ref aR_of, .ref aR_hints, .int R_filters, .ref aR_looks, .ref aR_kinds, .ref aR_values, .ref aR_isSafe, .ref aR_sizes, .ref aR_spreads, .ref aR_isSeen, .ref aR_estimates, .ref aR_rest, .int R_steps, .ref aR_order, .ref aR_joins, .ref aR_actsBehind, .ref aR_upTo, .int R_filtersThen, .ref aR_behind, .int R_rows, .ref aR_row, .ref aR_found, .int R_comes, .ref aR_next, .ref aR_nextFound, .int R_kept, .int R_hasRoom, .ref aR_keep, .ref aR_isTaken])), (aR_spreads, .inl (cI, 64, .inl R_spreads))] sz) := by
  refine con_start (y := yX7_variablesOf) (bytes := cX7_variablesOf) (maxL := 5) (av := [.ref aR, .int x1]) (Qc := fun A => va_Qi (fun r2 (_ : Nat → Nat) => r2 = r) (bB D (xT cI cJ cZ) (fun _ => [(aR, .inr (7, [.int R_triples, .ref aR_facts, .int R_patterns, .ref aR_cells, .ref aR_told, .ref aR_of, .ref aR_hints, .int R_filters, .ref aR_looks, .ref aR_kinds, .ref aR_values, .ref aR_isSafe, .ref aR_sizes, .ref aR_spreads, .ref aR_isSeen, .ref aR_estimates, .ref aR_rest, .int R_steps, .ref aR_order, .ref aR_joins, .ref aR_actsBehind, .ref aR_upTo, .int R_filtersThen, .ref aR_behind, .int R_rows, .ref aR_row, .ref aR_found, .int R_comes, .ref aR_next, .ref aR_nextFound, .int R_kept, .int R_hasRoom, .ref aR_keep, .ref aR_isTaken])), (aR_spreads, .inl (cI, 64, .inl R_spreads))]) A) A) (by decide) (Nat.le_of_ble_eq_true rfl) ?_
  intro p e s m args below meth c Q A hx hb hr hlk hml hown hin htg hN hK hQ hA hP hD hS ls hl
  have hl : lv_has ls 5 [(0, .ref aR), (1, .int x1)] := hl
  have hown : s.vm.findClass RX7 = some m.cls := hown
  have hf := (f_JoinOrderModel_variablesOf_u n x1 R_patterns R_spreads).symm.trans hf
  refine lv_iconst (v := (0 : Int32)) hx hb dX7_variablesOf_0 (by decide) ?_
  refine lv_istore_n (lv' := [(2, .int (0 : Int32)), (0, .ref aR), (1, .int x1)]) hx hb dX7_variablesOf_1 rfl hl (by decide) rfl (fun ls hl => ?_)
  refine lv_iconst (v := (0 : Int32)) hx hb dX7_variablesOf_2 (by decide) ?_
  refine lv_istore_n (lv' := [(3, .int (0 : Int32)), (2, .int (0 : Int32)), (0, .ref aR), (1, .int x1)]) hx hb dX7_variablesOf_3 rfl hl (by decide) rfl (fun ls hl => ?_)
  have L_4_67 : ∀ (k : Nat) (x2_68 : Int32) (x3_69 : Int32) (o_67 : Int32), f_JoinOrderModel_variablesOf_L0 n x1 R_patterns R_spreads k x2_68 x3_69 = some o_67 → ∀ (H : Heap) (locs : List Loc), va_P D vwCl [(aR, .inr (7, [.int R_triples, .ref aR_facts, .int R_patterns, .ref aR_cells, .ref aR_told, .ref aR_of, .ref aR_hints, .int R_filters, .ref aR_looks, .ref aR_kinds, .ref aR_values, .ref aR_isSafe, .ref aR_sizes, .ref aR_spreads, .ref aR_isSeen, .ref aR_estimates, .ref aR_rest, .int R_steps, .ref aR_order, .ref aR_joins, .ref aR_actsBehind, .ref aR_upTo, .int R_filtersThen, .ref aR_behind, .int R_rows, .ref aR_row, .ref aR_found, .int R_comes, .ref aR_next, .ref aR_nextFound, .int R_kept, .int R_hasRoom, .ref aR_keep, .ref aR_isTaken])), (aR_spreads, .inl (cI, 64, .inl R_spreads))] H → va_D A [(aR, .inr (7, [.int R_triples, .ref aR_facts, .int R_patterns, .ref aR_cells, .ref aR_told, .ref aR_of, .ref aR_hints, .int R_filters, .ref aR_looks, .ref aR_kinds, .ref aR_values, .ref aR_isSafe, .ref aR_sizes, .ref aR_spreads, .ref aR_isSeen, .ref aR_estimates, .ref aR_rest, .int R_steps, .ref aR_order, .ref aR_joins, .ref aR_actsBehind, .ref aR_upTo, .int R_filtersThen, .ref aR_behind, .int R_rows, .ref aR_row, .ref aR_found, .int R_comes, .ref aR_next, .ref aR_nextFound, .int R_kept, .int R_hasRoom, .ref aR_keep, .ref aR_isTaken])), (aR_spreads, .inl (cI, 64, .inl R_spreads))] → va_S A s.heap H locs → ∀ ls : Array Slot, lv_has ls 5 [(0, .ref aR), (1, .int x1), (2, .int x2_68), (3, .int x3_69)] → (∀ (x2_70 : Int32), some (x2_70) = some o_67 → ∀ (H : Heap) (locs : List Loc), va_P D vwCl [(aR, .inr (7, [.int R_triples, .ref aR_facts, .int R_patterns, .ref aR_cells, .ref aR_told, .ref aR_of, .ref aR_hints, .int R_filters, .ref aR_looks, .ref aR_kinds, .ref aR_values, .ref aR_isSafe, .ref aR_sizes, .ref aR_spreads, .ref aR_isSeen, .ref aR_estimates, .ref aR_rest, .int R_steps, .ref aR_order, .ref aR_joins, .ref aR_actsBehind, .ref aR_upTo, .int R_filtersThen, .ref aR_behind, .int R_rows, .ref aR_row, .ref aR_found, .int R_comes, .ref aR_next, .ref aR_nextFound, .int R_kept, .int R_hasRoom, .ref aR_keep, .ref aR_isTaken])), (aR_spreads, .inl (cI, 64, .inl R_spreads))] H → va_D A [(aR, .inr (7, [.int R_triples, .ref aR_facts, .int R_patterns, .ref aR_cells, .ref aR_told, .ref aR_of, .ref aR_hints, .int R_filters, .ref aR_looks, .ref aR_kinds, .ref aR_values, .ref aR_isSafe, .ref aR_sizes, .ref aR_spreads, .ref aR_isSeen, .ref aR_estimates, .ref aR_rest, .int R_steps, .ref aR_order, .ref aR_joins, .ref aR_actsBehind, .ref aR_upTo, .int R_filtersThen, .ref aR_behind, .int R_rows, .ref aR_row, .ref aR_found, .int R_comes, .ref aR_next, .ref aR_nextFound, .int R_kept, .int R_hasRoom, .ref aR_keep, .ref aR_isTaken])), (aR_spreads, .inl (cI, 64, .inl R_spreads))] → va_S A s.heap H locs → ∀ ls : Array Slot, lv_has ls 5 [(2, .int x2_70)] → W p l e rm_f_JoinOrderModel_variablesOf s m args below meth c H locs 0 0 Q (F0 m 69 ls [])) → W p l e rm_f_JoinOrderModel_variablesOf s m args below meth c H locs 0 0 Q (F0 m 4 ls []) := by
    intro k
    induction k with
    | zero =>
      intro x2_68 x3_69 o_67 hf
      exact absurd (((f_JoinOrderModel_variablesOf_L0_z n x1 R_patterns R_spreads x2_68 x3_69).symm.trans hf)) (fun h => by cases h)
    | succ k ih =>
      intro x2_68 x3_69 o_67 hf H locs hP hD hS ls hl hX_67
      have hf := (f_JoinOrderModel_variablesOf_L0_s n x1 R_patterns R_spreads k x2_68 x3_69).symm.trans hf
      refine lv_iload_n hx hb dX7_variablesOf_4 rfl (lv_at hl 3 rfl) ?_
      refine lv_aload_n hx hb dX7_variablesOf_5 rfl (lv_at hl 0 rfl) ?_
      refine va_get (D := D) (ci := 7) (v := .int R_patterns) (C := RX7) (T := TX7) (N := 34) hx hb htg giX7 hown hK hP 0 rfl rfl 2 (by decide) (htg _ kw_565) (fun _ h9 => h9) rfl dX7_variablesOf_6 ?_
      refine lv_icmp_ge (tgt := 69) hx hb dX7_variablesOf_9 (by decide) (fun c_71 => ?_) (fun c_71 => ?_)
      · have hf := xb_t c_71 hf
        exact hX_67 x2_68 hf _ _ hP hD hS _ (lv_sub hl [2] rfl)
      · have hf := xb_f c_71 hf
        refine lv_iconst (v := (0 : Int32)) hx hb dX7_variablesOf_12 (by decide) ?_
        refine lv_istore (lv' := [(4, .int (0 : Int32)), (0, .ref aR), (1, .int x1), (2, .int x2_68), (3, .int x3_69)]) hx hb dX7_variablesOf_13 hl (by decide) rfl (fun ls hl => ?_)
        have L_15_90 : ∀ (k : Nat) (x2_91 : Int32) (x4_92 : Int32) (o_90 : Int32), f_JoinOrderModel_variablesOf_L1 n x1 R_spreads x3_69 k x2_91 x4_92 = some o_90 → ∀ (H : Heap) (locs : List Loc), va_P D vwCl [(aR, .inr (7, [.int R_triples, .ref aR_facts, .int R_patterns, .ref aR_cells, .ref aR_told, .ref aR_of, .ref aR_hints, .int R_filters, .ref aR_looks, .ref aR_kinds, .ref aR_values, .ref aR_isSafe, .ref aR_sizes, .ref aR_spreads, .ref aR_isSeen, .ref aR_estimates, .ref aR_rest, .int R_steps, .ref aR_order, .ref aR_joins, .ref aR_actsBehind, .ref aR_upTo, .int R_filtersThen, .ref aR_behind, .int R_rows, .ref aR_row, .ref aR_found, .int R_comes, .ref aR_next, .ref aR_nextFound, .int R_kept, .int R_hasRoom, .ref aR_keep, .ref aR_isTaken])), (aR_spreads, .inl (cI, 64, .inl R_spreads))] H → va_D A [(aR, .inr (7, [.int R_triples, .ref aR_facts, .int R_patterns, .ref aR_cells, .ref aR_told, .ref aR_of, .ref aR_hints, .int R_filters, .ref aR_looks, .ref aR_kinds, .ref aR_values, .ref aR_isSafe, .ref aR_sizes, .ref aR_spreads, .ref aR_isSeen, .ref aR_estimates, .ref aR_rest, .int R_steps, .ref aR_order, .ref aR_joins, .ref aR_actsBehind, .ref aR_upTo, .int R_filtersThen, .ref aR_behind, .int R_rows, .ref aR_row, .ref aR_found, .int R_comes, .ref aR_next, .ref aR_nextFound, .int R_kept, .int R_hasRoom, .ref aR_keep, .ref aR_isTaken])), (aR_spreads, .inl (cI, 64, .inl R_spreads))] → va_S A s.heap H locs → ∀ ls : Array Slot, lv_has ls 5 [(0, .ref aR), (1, .int x1), (2, .int x2_91), (3, .int x3_69), (4, .int x4_92)] → (∀ (x2_93 : Int32), some (x2_93) = some o_90 → ∀ (H : Heap) (locs : List Loc), va_P D vwCl [(aR, .inr (7, [.int R_triples, .ref aR_facts, .int R_patterns, .ref aR_cells, .ref aR_told, .ref aR_of, .ref aR_hints, .int R_filters, .ref aR_looks, .ref aR_kinds, .ref aR_values, .ref aR_isSafe, .ref aR_sizes, .ref aR_spreads, .ref aR_isSeen, .ref aR_estimates, .ref aR_rest, .int R_steps, .ref aR_order, .ref aR_joins, .ref aR_actsBehind, .ref aR_upTo, .int R_filtersThen, .ref aR_behind, .int R_rows, .ref aR_row, .ref aR_found, .int R_comes, .ref aR_next, .ref aR_nextFound, .int R_kept, .int R_hasRoom, .ref aR_keep, .ref aR_isTaken])), (aR_spreads, .inl (cI, 64, .inl R_spreads))] H → va_D A [(aR, .inr (7, [.int R_triples, .ref aR_facts, .int R_patterns, .ref aR_cells, .ref aR_told, .ref aR_of, .ref aR_hints, .int R_filters, .ref aR_looks, .ref aR_kinds, .ref aR_values, .ref aR_isSafe, .ref aR_sizes, .ref aR_spreads, .ref aR_isSeen, .ref aR_estimates, .ref aR_rest, .int R_steps, .ref aR_order, .ref aR_joins, .ref aR_actsBehind, .ref aR_upTo, .int R_filtersThen, .ref aR_behind, .int R_rows, .ref aR_row, .ref aR_found, .int R_comes, .ref aR_next, .ref aR_nextFound, .int R_kept, .int R_hasRoom, .ref aR_keep, .ref aR_isTaken])), (aR_spreads, .inl (cI, 64, .inl R_spreads))] → va_S A s.heap H locs → ∀ ls : Array Slot, lv_has ls 5 [(0, .ref aR), (1, .int x1), (2, .int x2_93), (3, .int x3_69)] → W p l e rm_f_JoinOrderModel_variablesOf s m args below meth c H locs 0 0 Q (F0 m 63 ls [])) → W p l e rm_f_JoinOrderModel_variablesOf s m args below meth c H locs 0 0 Q (F0 m 15 ls []) := by
          intro k
          induction k with
          | zero =>
            intro x2_91 x4_92 o_90 hf
            exact absurd (((f_JoinOrderModel_variablesOf_L1_z n x1 R_spreads x3_69 x2_91 x4_92).symm.trans hf)) (fun h => by cases h)
          | succ k ih =>
            intro x2_91 x4_92 o_90 hf H locs hP hD hS ls hl hX_90
            have hf := (f_JoinOrderModel_variablesOf_L1_s n x1 R_spreads x3_69 k x2_91 x4_92).symm.trans hf
            refine lv_iload hx hb dX7_variablesOf_15 (lv_at hl 4 rfl) ?_
            refine lv_bipush (v := (8 : Int32)) hx hb dX7_variablesOf_17 (by decide) ?_
            refine lv_icmp_ge (tgt := 63) hx hb dX7_variablesOf_19 (by decide) (fun c_94 => ?_) (fun c_94 => ?_)
            · have hf := xb_t c_94 hf
              exact hX_90 x2_91 hf _ _ hP hD hS _ (lv_sub hl [0, 1, 2, 3] rfl)
            · have hf := xb_f c_94 hf
              refine lv_iload_n hx hb dX7_variablesOf_22 rfl (lv_at hl 1 rfl) ?_
              refine lv_iload_n hx hb dX7_variablesOf_23 rfl (lv_at hl 3 rfl) ?_
              refine lv_ishr hx hb dX7_variablesOf_24 ?_
              refine lv_iconst (v := (1 : Int32)) hx hb dX7_variablesOf_25 (by decide) ?_
              refine lv_iand hx hb dX7_variablesOf_26 ?_
              refine lv_iconst (v := (1 : Int32)) hx hb dX7_variablesOf_27 (by decide) ?_
              refine lv_icmp_ne (tgt := 55) hx hb dX7_variablesOf_28 (by decide) (fun c_95 => ?_) (fun c_95 => ?_)
              · have hf := xb_f c_95 hf
                refine lv_iload_n hx hb dX7_variablesOf_55 rfl (lv_at hl 2 rfl) ?_
                refine lv_istore_n (lv' := [(2, .int x2_91), (0, .ref aR), (1, .int x1), (3, .int x3_69), (4, .int x4_92)]) hx hb dX7_variablesOf_56 rfl hl (by decide) rfl (fun ls hl => ?_)
                obtain ⟨x4_96, ex4_96⟩ : ∃ y : Int32, y = x4_92 + (1 : Int32) := ⟨_, rfl⟩
                have hf := nm_nm ex4_96 hf
                refine lv_iinc (v := x4_96) (lv' := [(4, .int x4_96), (2, .int x2_91), (0, .ref aR), (1, .int x1), (3, .int x3_69)]) hx hb dX7_variablesOf_57 hl (k := 4) rfl (by rw [ex4_96]; rfl) (by decide) rfl (fun ls hl => ?_)
                refine lv_goto (tgt := 15) hx hb dX7_variablesOf_60 (by decide) ?_
                exact ih x2_91 x4_96 o_90 hf _ _ hP hD hS _ (lv_sub hl [2, 3, 1, 4, 0] rfl) hX_90
              · have hf := xb_t c_95 hf
                refine lv_aload_n hx hb dX7_variablesOf_31 rfl (lv_at hl 0 rfl) ?_
                refine va_get (D := D) (ci := 7) (v := .ref aR_spreads) (C := RX7) (T := TX7) (N := 34) hx hb htg giX7 hown hK hP 0 rfl rfl 13 (by decide) (htg _ kw_576) (fun _ h9 => h9) rfl dX7_variablesOf_32 ?_
                refine lv_bipush (v := (8 : Int32)) hx hb dX7_variablesOf_35 (by decide) ?_
                refine lv_iload_n hx hb dX7_variablesOf_37 rfl (lv_at hl 3 rfl) ?_
                refine lv_imul hx hb dX7_variablesOf_38 ?_
                refine lv_iload hx hb dX7_variablesOf_39 (lv_at hl 4 rfl) ?_
                refine lv_iadd hx hb dX7_variablesOf_41 ?_
                have g_97 : vp_in (((8 : Int32) * x3_69) + x4_92) 64 := gd_in hf
                have hf := gd_el hf
                refine va_iald hx hb hK hP 1 0 rfl rfl g_97 dX7_variablesOf_42 ?_
                refine lv_if_le (tgt := 55) hx hb dX7_variablesOf_43 (by decide) (fun c_98 => ?_) (fun c_98 => ?_)
                · have hf := xb_t c_98 hf
                  refine lv_iload_n hx hb dX7_variablesOf_55 rfl (lv_at hl 2 rfl) ?_
                  refine lv_istore_n (lv' := [(2, .int x2_91), (0, .ref aR), (1, .int x1), (3, .int x3_69), (4, .int x4_92)]) hx hb dX7_variablesOf_56 rfl hl (by decide) rfl (fun ls hl => ?_)
                  obtain ⟨x4_99, ex4_99⟩ : ∃ y : Int32, y = x4_92 + (1 : Int32) := ⟨_, rfl⟩
                  have hf := nm_nm ex4_99 hf
                  refine lv_iinc (v := x4_99) (lv' := [(4, .int x4_99), (2, .int x2_91), (0, .ref aR), (1, .int x1), (3, .int x3_69)]) hx hb dX7_variablesOf_57 hl (k := 4) rfl (by rw [ex4_99]; rfl) (by decide) rfl (fun ls hl => ?_)
                  refine lv_goto (tgt := 15) hx hb dX7_variablesOf_60 (by decide) ?_
                  exact ih x2_91 x4_99 o_90 hf _ _ hP hD hS _ (lv_sub hl [2, 3, 1, 4, 0] rfl) hX_90
                · have hf := xb_f c_98 hf
                  refine lv_iload_n hx hb dX7_variablesOf_46 rfl (lv_at hl 2 rfl) ?_
                  refine lv_iconst (v := (1 : Int32)) hx hb dX7_variablesOf_47 (by decide) ?_
                  refine lv_iload hx hb dX7_variablesOf_48 (lv_at hl 4 rfl) ?_
                  refine lv_ishl hx hb dX7_variablesOf_50 ?_
                  refine lv_ior hx hb dX7_variablesOf_51 ?_
                  refine lv_goto (tgt := 56) hx hb dX7_variablesOf_52 (by decide) ?_
                  refine lv_topi (fun x2_100 ex2_100 => ?_)
                  have hf := nm_nm ex2_100 hf
                  refine lv_istore_n (lv' := [(2, .int x2_100), (0, .ref aR), (1, .int x1), (3, .int x3_69), (4, .int x4_92)]) hx hb dX7_variablesOf_56 rfl hl (by decide) rfl (fun ls hl => ?_)
                  obtain ⟨x4_101, ex4_101⟩ : ∃ y : Int32, y = x4_92 + (1 : Int32) := ⟨_, rfl⟩
                  have hf := nm_nm ex4_101 hf
                  refine lv_iinc (v := x4_101) (lv' := [(4, .int x4_101), (2, .int x2_100), (0, .ref aR), (1, .int x1), (3, .int x3_69)]) hx hb dX7_variablesOf_57 hl (k := 4) rfl (by rw [ex4_101]; rfl) (by decide) rfl (fun ls hl => ?_)
                  refine lv_goto (tgt := 15) hx hb dX7_variablesOf_60 (by decide) ?_
                  exact ih x2_100 x4_101 o_90 hf _ _ hP hD hS _ (lv_sub hl [2, 3, 1, 4, 0] rfl) hX_90
        obtain ⟨o_90, ho_90, hk_90⟩ := bn1_s hf
        refine L_15_90 n x2_68 (0 : Int32) o_90 ho_90 _ _ hP hD hS _ (lv_sub hl [1, 2, 3, 4, 0] rfl) (fun x2_93 hf H locs hP hD hS ls hl => ?_)
        have hf := hk_90 _ hf
        obtain ⟨x3_102, ex3_102⟩ : ∃ y : Int32, y = x3_69 + (1 : Int32) := ⟨_, rfl⟩
        have hf := nm_nm ex3_102 hf
        refine lv_iinc (v := x3_102) (lv' := [(3, .int x3_102), (0, .ref aR), (1, .int x1), (2, .int x2_93)]) hx hb dX7_variablesOf_63 hl (k := 3) rfl (by rw [ex3_102]; rfl) (by decide) rfl (fun ls hl => ?_)
        refine lv_goto (tgt := 4) hx hb dX7_variablesOf_66 (by decide) ?_
        exact ih x2_93 x3_102 o_67 hf _ _ hP hD hS _ (lv_sub hl [1, 2, 3, 0] rfl) hX_67
  obtain ⟨o_67, ho_67, hk_67⟩ := bn1_s hf
  refine L_4_67 n (0 : Int32) (0 : Int32) o_67 ho_67 _ _ hP hD hS _ (lv_sub hl [2, 3, 1, 0] rfl) (fun x2_70 hf H locs hP hD hS ls hl => ?_)
  have hf := hk_67 _ hf
  refine lv_iload_n hx hb dX7_variablesOf_69 rfl (lv_at hl 0 rfl) ?_
  have hf := Option.some.inj hf
  subst hf
  exact x_iret (fun _ => 0) hQ hx hb hr hlk hK hP hD hS dX7_variablesOf_70
