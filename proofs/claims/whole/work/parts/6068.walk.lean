abbrev rm_f_JoinOrderModel_estimateOf : Room := { frames := 1, cells := 0, slots := 0, locals := 30 }
set_option maxHeartbeats 4000000 in
set_option maxRecDepth 100000 in
theorem c_f_JoinOrderModel_estimateOf (l : Launch) (D : va_G) (cI cJ cZ : ClassId) (sz : Nat) (n : Nat) (aR : Nat) (x1 : Int32) (R_triples : Int32) (aR_facts : Nat) (R_patterns : Int32) (aR_cells : Nat) (aR_told : Nat) (aR_of : Nat) (aR_hints : Nat) (R_filters : Int32) (aR_looks : Nat) (aR_kinds : Nat) (aR_values : Nat) (aR_isSafe : Nat) (aR_sizes : Nat) (aR_spreads : Nat) (aR_isSeen : Nat) (aR_estimates : Nat) (aR_rest : Nat) (R_steps : Int32) (aR_order : Nat) (aR_joins : Nat) (aR_actsBehind : Nat) (aR_upTo : Nat) (R_filtersThen : Int32) (aR_behind : Nat) (R_rows : Int32) (aR_row : Nat) (aR_found : Nat) (R_comes : Int32) (aR_next : Nat) (aR_nextFound : Nat) (R_kept : Int32) (R_hasRoom : Int32) (aR_keep : Nat) (aR_isTaken : Nat) (R_sizes : Nat → Int32) (R_spreads : Nat → Int32) {r : Int64} (hf : f_JoinOrderModel_estimateOf n x1 R_patterns R_sizes R_spreads = some r) : Met l yX7_estimateOf (.code yX7_estimateOf cX7_estimateOf 7 (some .long) :: GW) rm_f_JoinOrderModel_estimateOf (va_Pc [.ref aR, .int x1] (xP D (xT cI cJ cZ) sz [(aR, .inr (7, [.int R_triples, .ref aR_facts, .int R_patterns, .ref aR_cells, .ref aR_told, .ref aR_of, .ref aR_hints, .int R_filters, .ref aR_looks, .ref aR_kinds, .ref aR_values, .ref aR_isSafe, .ref aR_sizes, .ref aR_spreads, .ref aR_isSeen, .ref aR_estimates, .ref aR_rest, .int R_steps, .ref aR_order, .ref aR_joins, .ref aR_actsBehind, .ref aR_upTo, .int R_filtersThen, .ref aR_behind, .int R_rows, .ref aR_row, .ref aR_found, .int R_comes, .ref aR_next, .ref aR_nextFound, .int R_kept, .int R_hasRoom, .ref aR_keep, .ref aR_isTaken])), (aR_sizes, .inl (cI, 8, .inl R_sizes)), (aR_spreads, .inl (cI, 64, .inl R_spreads))])) (va_Ql (fun r2 (_ : Nat → Nat) => r2 = r) (bB D (xT cI cJ cZ) (fun _ => [(aR, .inr (7, [.int R_triples, .ref aR_facts, .int R_patterns, .ref aR_cells, .ref aR_told, .ref aR_of, .ref aR_hints, .int R_filters, .ref aR_looks, .ref aR_kinds, .ref aR_values, .ref aR_isSafe, .ref aR_sizes, .ref aR_spreads, .ref aR_isSeen, .ref aR_estimates, .ref aR_rest, .int R_steps, .ref aR_order, .ref aR_joins, .ref aR_actsBehind, .ref aR_upTo, .int R_filtersThen, .ref aR_behind, .int R_rows, .ref aR_row, .ref aR_found, .int R_comes, .ref aR_next, .ref aR_nextFound, .int R_kept, .int R_hasRoom, .ref aR_keep, .ref aR_isTaken])), (aR_sizes, .inl (cI, 8, .inl R_sizes)), (aR_spreads, .inl (cI, 64, .inl R_spreads))]) (va_A [(aR, .inr (7, [.int R_triples, .ref aR_facts, .int R_patterns, .ref aR_cells, .ref aR_told, .ref aR_of, .ref aR_hints, .int R_filters, .ref aR_looks, .ref aR_kinds, .ref aR_values, .ref aR_isSafe, .ref aR_sizes, .ref aR_spreads, .ref aR_isSeen, .ref aR_estimates, .ref aR_rest, .int R_steps, .ref aR_order, .ref aR_joins, .ref aR_actsBehind, .ref aR_upTo, .int R_filtersThen, .ref aR_behind, .int R_rows, .ref aR_row, .ref aR_found, .int R_comes, .ref aR_next, .ref aR_nextFound, .int R_kept, .int R_hasRoom, .ref aR_keep, .ref aR_isTaken])), (aR_sizes, .inl (cI, 8, .inl R_sizes)), (aR_spreads, .inl (cI, 64, .inl R_spreads))] sz)) (va_A [(aR, .inr (7, [.int R_triples, .ref aR_facts, .int R_patterns, .ref aR_cells, .ref aR_told, .ref aR_of, .ref aR_hints, .int R_filters, .ref aR_looks, .ref aR_kinds, .ref aR_values, .ref aR_isSafe, .ref aR_sizes, .ref aR_spreads, .ref aR_isSeen, .ref aR_estimates, .ref aR_rest, .int R_steps, .ref aR_order, .ref aR_joins, .ref aR_actsBehind, .ref aR_upTo, .int R_filtersThen, .ref aR_behind, .int R_rows, .ref aR_row, .ref aR_found, .int R_comes, .ref aR_next, .ref aR_nextFound, .int R_kept, .int R_hasRoom, .ref aR_keep, .ref aR_isTaken])), (aR_sizes, .inl (cI, 8, .inl R_sizes)), (aR_spreads, .inl (cI, 64, .inl R_spreads))] sz)) 0 0 (va_A [(aR, .inr (7, [.int R_triples, .ref aR_facts, .int R_patterns, .ref aR_cells, .ref aR_told, .ref aR_of, .ref aR_hints, .int R_filters, .ref aR_looks, .ref aR_kinds, .ref aR_values, .ref aR_isSafe, .ref aR_sizes, .ref aR_spreads, .ref aR_isSeen, .ref aR_estimates, .ref aR_rest, .int R_steps, .ref aR_order, .ref aR_joins, .ref aR_actsBehind, .ref aR_upTo, .int R_filtersThen, .ref aR_behind, .int R_rows, .ref aR_row, .ref aR_found, .int R_comes, .ref aR_next, .ref aR_nextFound, .int R_kept, .int R_hasRoom, .ref aR_keep, .ref aR_isTaken])), (aR_sizes, .inl (cI, 8, .inl R_sizes)), (aR_spreads, .inl (cI, 64, .inl R_spreads))] sz) := by
  refine con_start (y := yX7_estimateOf) (bytes := cX7_estimateOf) (maxL := 7) (av := [.ref aR, .int x1]) (Qc := fun A => va_Ql (fun r2 (_ : Nat → Nat) => r2 = r) (bB D (xT cI cJ cZ) (fun _ => [(aR, .inr (7, [.int R_triples, .ref aR_facts, .int R_patterns, .ref aR_cells, .ref aR_told, .ref aR_of, .ref aR_hints, .int R_filters, .ref aR_looks, .ref aR_kinds, .ref aR_values, .ref aR_isSafe, .ref aR_sizes, .ref aR_spreads, .ref aR_isSeen, .ref aR_estimates, .ref aR_rest, .int R_steps, .ref aR_order, .ref aR_joins, .ref aR_actsBehind, .ref aR_upTo, .int R_filtersThen, .ref aR_behind, .int R_rows, .ref aR_row, .ref aR_found, .int R_comes, .ref aR_next, .ref aR_nextFound, .int R_kept, .int R_hasRoom, .ref aR_keep, .ref aR_isTaken])), (aR_sizes, .inl (cI, 8, .inl R_sizes)), (aR_spreads, .inl (cI, 64, .inl R_spreads))]) A) A) (by decide) (Nat.le_of_ble_eq_true rfl) ?_
  intro p e s m args below meth c Q A hx hb hr hlk hml hown hin htg hN hK hQ hA hP hD hS ls hl
  have hl : lv_has ls 7 [(0, .ref aR), (1, .int x1)] := hl
  have hown : s.vm.findClass RX7 = some m.cls := hown
  have hf := (f_JoinOrderModel_estimateOf_u n x1 R_patterns R_sizes R_spreads).symm.trans hf
  refine lv_lconst (v := (1 : Int64)) hx hb dX7_estimateOf_0 (by decide) ?_
  refine lv_lstore_n (lv' := [(2, .long (1 : Int64)), (0, .ref aR), (1, .int x1)]) hx hb dX7_estimateOf_1 rfl hl (by decide) rfl (fun ls hl => ?_)
  refine lv_lconst (v := (1 : Int64)) hx hb dX7_estimateOf_2 (by decide) ?_
  refine lv_lstore (lv' := [(4, .long (1 : Int64)), (2, .long (1 : Int64)), (0, .ref aR), (1, .int x1)]) hx hb dX7_estimateOf_3 hl (by decide) rfl (fun ls hl => ?_)
  refine lv_iconst (v := (0 : Int32)) hx hb dX7_estimateOf_5 (by decide) ?_
  refine lv_istore (lv' := [(6, .int (0 : Int32)), (4, .long (1 : Int64)), (2, .long (1 : Int64)), (0, .ref aR), (1, .int x1)]) hx hb dX7_estimateOf_6 hl (by decide) rfl (fun ls hl => ?_)
  have L_8_14 : ∀ (k : Nat) (x2_15 : Int64) (x6_16 : Int32) (o_14 : Int64), f_JoinOrderModel_estimateOf_L0 n x1 R_patterns R_sizes k x2_15 x6_16 = some o_14 → ∀ (H : Heap) (locs : List Loc), va_P D vwCl [(aR, .inr (7, [.int R_triples, .ref aR_facts, .int R_patterns, .ref aR_cells, .ref aR_told, .ref aR_of, .ref aR_hints, .int R_filters, .ref aR_looks, .ref aR_kinds, .ref aR_values, .ref aR_isSafe, .ref aR_sizes, .ref aR_spreads, .ref aR_isSeen, .ref aR_estimates, .ref aR_rest, .int R_steps, .ref aR_order, .ref aR_joins, .ref aR_actsBehind, .ref aR_upTo, .int R_filtersThen, .ref aR_behind, .int R_rows, .ref aR_row, .ref aR_found, .int R_comes, .ref aR_next, .ref aR_nextFound, .int R_kept, .int R_hasRoom, .ref aR_keep, .ref aR_isTaken])), (aR_sizes, .inl (cI, 8, .inl R_sizes)), (aR_spreads, .inl (cI, 64, .inl R_spreads))] H → va_D A [(aR, .inr (7, [.int R_triples, .ref aR_facts, .int R_patterns, .ref aR_cells, .ref aR_told, .ref aR_of, .ref aR_hints, .int R_filters, .ref aR_looks, .ref aR_kinds, .ref aR_values, .ref aR_isSafe, .ref aR_sizes, .ref aR_spreads, .ref aR_isSeen, .ref aR_estimates, .ref aR_rest, .int R_steps, .ref aR_order, .ref aR_joins, .ref aR_actsBehind, .ref aR_upTo, .int R_filtersThen, .ref aR_behind, .int R_rows, .ref aR_row, .ref aR_found, .int R_comes, .ref aR_next, .ref aR_nextFound, .int R_kept, .int R_hasRoom, .ref aR_keep, .ref aR_isTaken])), (aR_sizes, .inl (cI, 8, .inl R_sizes)), (aR_spreads, .inl (cI, 64, .inl R_spreads))] → va_S A s.heap H locs → ∀ ls : Array Slot, lv_has ls 7 [(0, .ref aR), (1, .int x1), (2, .long x2_15), (4, .long (1 : Int64)), (6, .int x6_16)] → (∀ (x2_17 : Int64), some (x2_17) = some o_14 → ∀ (H : Heap) (locs : List Loc), va_P D vwCl [(aR, .inr (7, [.int R_triples, .ref aR_facts, .int R_patterns, .ref aR_cells, .ref aR_told, .ref aR_of, .ref aR_hints, .int R_filters, .ref aR_looks, .ref aR_kinds, .ref aR_values, .ref aR_isSafe, .ref aR_sizes, .ref aR_spreads, .ref aR_isSeen, .ref aR_estimates, .ref aR_rest, .int R_steps, .ref aR_order, .ref aR_joins, .ref aR_actsBehind, .ref aR_upTo, .int R_filtersThen, .ref aR_behind, .int R_rows, .ref aR_row, .ref aR_found, .int R_comes, .ref aR_next, .ref aR_nextFound, .int R_kept, .int R_hasRoom, .ref aR_keep, .ref aR_isTaken])), (aR_sizes, .inl (cI, 8, .inl R_sizes)), (aR_spreads, .inl (cI, 64, .inl R_spreads))] H → va_D A [(aR, .inr (7, [.int R_triples, .ref aR_facts, .int R_patterns, .ref aR_cells, .ref aR_told, .ref aR_of, .ref aR_hints, .int R_filters, .ref aR_looks, .ref aR_kinds, .ref aR_values, .ref aR_isSafe, .ref aR_sizes, .ref aR_spreads, .ref aR_isSeen, .ref aR_estimates, .ref aR_rest, .int R_steps, .ref aR_order, .ref aR_joins, .ref aR_actsBehind, .ref aR_upTo, .int R_filtersThen, .ref aR_behind, .int R_rows, .ref aR_row, .ref aR_found, .int R_comes, .ref aR_next, .ref aR_nextFound, .int R_kept, .int R_hasRoom, .ref aR_keep, .ref aR_isTaken])), (aR_sizes, .inl (cI, 8, .inl R_sizes)), (aR_spreads, .inl (cI, 64, .inl R_spreads))] → va_S A s.heap H locs → ∀ ls : Array Slot, lv_has ls 7 [(0, .ref aR), (1, .int x1), (2, .long x2_17), (4, .long (1 : Int64))] → W p l e rm_f_JoinOrderModel_estimateOf s m args below meth c H locs 0 0 Q (F0 m 48 ls [])) → W p l e rm_f_JoinOrderModel_estimateOf s m args below meth c H locs 0 0 Q (F0 m 8 ls []) := by
    intro k
    induction k with
    | zero =>
      intro x2_15 x6_16 o_14 hf
      exact absurd (((f_JoinOrderModel_estimateOf_L0_z n x1 R_patterns R_sizes x2_15 x6_16).symm.trans hf)) (fun h => by cases h)
    | succ k ih =>
      intro x2_15 x6_16 o_14 hf H locs hP hD hS ls hl hX_14
      have hf := (f_JoinOrderModel_estimateOf_L0_s n x1 R_patterns R_sizes k x2_15 x6_16).symm.trans hf
      refine lv_iload hx hb dX7_estimateOf_8 (lv_at hl 4 rfl) ?_
      refine lv_aload_n hx hb dX7_estimateOf_10 rfl (lv_at hl 0 rfl) ?_
      refine va_get (D := D) (ci := 7) (v := .int R_patterns) (C := RX7) (T := TX7) (N := 34) hx hb htg giX7 hown hK hP 0 rfl rfl 2 (by decide) (htg _ kw_565) (fun _ h9 => h9) rfl dX7_estimateOf_11 ?_
      refine lv_icmp_ge (tgt := 48) hx hb dX7_estimateOf_14 (by decide) (fun c_18 => ?_) (fun c_18 => ?_)
      · have hf := xb_t c_18 hf
        exact hX_14 x2_15 hf _ _ hP hD hS _ (lv_sub hl [0, 1, 2, 3] rfl)
      · have hf := xb_f c_18 hf
        refine lv_iload_n hx hb dX7_estimateOf_17 rfl (lv_at hl 1 rfl) ?_
        refine lv_iload hx hb dX7_estimateOf_18 (lv_at hl 4 rfl) ?_
        refine lv_ishr hx hb dX7_estimateOf_20 ?_
        refine lv_iconst (v := (1 : Int32)) hx hb dX7_estimateOf_21 (by decide) ?_
        refine lv_iand hx hb dX7_estimateOf_22 ?_
        refine lv_iconst (v := (1 : Int32)) hx hb dX7_estimateOf_23 (by decide) ?_
        refine lv_icmp_ne (tgt := 40) hx hb dX7_estimateOf_24 (by decide) (fun c_19 => ?_) (fun c_19 => ?_)
        · have hf := xb_f c_19 hf
          refine lv_lload_n hx hb dX7_estimateOf_40 rfl (lv_at hl 2 rfl) ?_
          refine lv_lstore_n (lv' := [(2, .long x2_15), (0, .ref aR), (1, .int x1), (4, .long (1 : Int64)), (6, .int x6_16)]) hx hb dX7_estimateOf_41 rfl hl (by decide) rfl (fun ls hl => ?_)
          obtain ⟨x6_20, ex6_20⟩ : ∃ y : Int32, y = x6_16 + (1 : Int32) := ⟨_, rfl⟩
          have hf := nm_nm ex6_20 hf
          refine lv_iinc (v := x6_20) (lv' := [(6, .int x6_20), (2, .long x2_15), (0, .ref aR), (1, .int x1), (4, .long (1 : Int64))]) hx hb dX7_estimateOf_42 hl (k := 4) rfl (by rw [ex6_20]; rfl) (by decide) rfl (fun ls hl => ?_)
          refine lv_goto (tgt := 8) hx hb dX7_estimateOf_45 (by decide) ?_
          exact ih x2_15 x6_20 o_14 hf _ _ hP hD hS _ (lv_sub hl [2, 3, 1, 4, 0] rfl) hX_14
        · have hf := xb_t c_19 hf
          refine lv_lload_n hx hb dX7_estimateOf_27 rfl (lv_at hl 2 rfl) ?_
          refine lv_aload_n hx hb dX7_estimateOf_28 rfl (lv_at hl 0 rfl) ?_
          refine va_get (D := D) (ci := 7) (v := .ref aR_sizes) (C := RX7) (T := TX7) (N := 34) hx hb htg giX7 hown hK hP 0 rfl rfl 12 (by decide) (htg _ kw_575) (fun _ h9 => h9) rfl dX7_estimateOf_29 ?_
          refine lv_iload hx hb dX7_estimateOf_32 (lv_at hl 4 rfl) ?_
          have g_21 : vp_in x6_16 8 := gd_in hf
          have hf := gd_el hf
          refine va_iald hx hb hK hP 1 0 rfl rfl g_21 dX7_estimateOf_34 ?_
          refine lv_i2l hx hb dX7_estimateOf_35 rfl ?_
          refine lv_lmul hx hb dX7_estimateOf_36 ?_
          refine lv_goto (tgt := 41) hx hb dX7_estimateOf_37 (by decide) ?_
          refine lv_topl (fun x2_22 ex2_22 => ?_)
          have hf := nm_nm ex2_22 hf
          refine lv_lstore_n (lv' := [(2, .long x2_22), (0, .ref aR), (1, .int x1), (4, .long (1 : Int64)), (6, .int x6_16)]) hx hb dX7_estimateOf_41 rfl hl (by decide) rfl (fun ls hl => ?_)
          obtain ⟨x6_23, ex6_23⟩ : ∃ y : Int32, y = x6_16 + (1 : Int32) := ⟨_, rfl⟩
          have hf := nm_nm ex6_23 hf
          refine lv_iinc (v := x6_23) (lv' := [(6, .int x6_23), (2, .long x2_22), (0, .ref aR), (1, .int x1), (4, .long (1 : Int64))]) hx hb dX7_estimateOf_42 hl (k := 4) rfl (by rw [ex6_23]; rfl) (by decide) rfl (fun ls hl => ?_)
          refine lv_goto (tgt := 8) hx hb dX7_estimateOf_45 (by decide) ?_
          exact ih x2_22 x6_23 o_14 hf _ _ hP hD hS _ (lv_sub hl [2, 3, 1, 4, 0] rfl) hX_14
  obtain ⟨o_14, ho_14, hk_14⟩ := bn1_s hf
  refine L_8_14 n (1 : Int64) (0 : Int32) o_14 ho_14 _ _ hP hD hS _ (lv_sub hl [3, 4, 2, 1, 0] rfl) (fun x2_17 hf H locs hP hD hS ls hl => ?_)
  have hf := hk_14 _ hf
  refine lv_iconst (v := (0 : Int32)) hx hb dX7_estimateOf_48 (by decide) ?_
  refine lv_istore (lv' := [(6, .int (0 : Int32)), (0, .ref aR), (1, .int x1), (2, .long x2_17), (4, .long (1 : Int64))]) hx hb dX7_estimateOf_49 hl (by decide) rfl (fun ls hl => ?_)
  have L_51_34 : ∀ (k : Nat) (x4_35 : Int64) (x6_36 : Int32) (o_34 : Int64), f_JoinOrderModel_estimateOf_L1 n x1 R_patterns R_spreads k x4_35 x6_36 = some o_34 → ∀ (H : Heap) (locs : List Loc), va_P D vwCl [(aR, .inr (7, [.int R_triples, .ref aR_facts, .int R_patterns, .ref aR_cells, .ref aR_told, .ref aR_of, .ref aR_hints, .int R_filters, .ref aR_looks, .ref aR_kinds, .ref aR_values, .ref aR_isSafe, .ref aR_sizes, .ref aR_spreads, .ref aR_isSeen, .ref aR_estimates, .ref aR_rest, .int R_steps, .ref aR_order, .ref aR_joins, .ref aR_actsBehind, .ref aR_upTo, .int R_filtersThen, .ref aR_behind, .int R_rows, .ref aR_row, .ref aR_found, .int R_comes, .ref aR_next, .ref aR_nextFound, .int R_kept, .int R_hasRoom, .ref aR_keep, .ref aR_isTaken])), (aR_sizes, .inl (cI, 8, .inl R_sizes)), (aR_spreads, .inl (cI, 64, .inl R_spreads))] H → va_D A [(aR, .inr (7, [.int R_triples, .ref aR_facts, .int R_patterns, .ref aR_cells, .ref aR_told, .ref aR_of, .ref aR_hints, .int R_filters, .ref aR_looks, .ref aR_kinds, .ref aR_values, .ref aR_isSafe, .ref aR_sizes, .ref aR_spreads, .ref aR_isSeen, .ref aR_estimates, .ref aR_rest, .int R_steps, .ref aR_order, .ref aR_joins, .ref aR_actsBehind, .ref aR_upTo, .int R_filtersThen, .ref aR_behind, .int R_rows, .ref aR_row, .ref aR_found, .int R_comes, .ref aR_next, .ref aR_nextFound, .int R_kept, .int R_hasRoom, .ref aR_keep, .ref aR_isTaken])), (aR_sizes, .inl (cI, 8, .inl R_sizes)), (aR_spreads, .inl (cI, 64, .inl R_spreads))] → va_S A s.heap H locs → ∀ ls : Array Slot, lv_has ls 7 [(0, .ref aR), (1, .int x1), (2, .long x2_17), (4, .long x4_35), (6, .int x6_36)] → (∀ (x4_37 : Int64), some (x4_37) = some o_34 → ∀ (H : Heap) (locs : List Loc), va_P D vwCl [(aR, .inr (7, [.int R_triples, .ref aR_facts, .int R_patterns, .ref aR_cells, .ref aR_told, .ref aR_of, .ref aR_hints, .int R_filters, .ref aR_looks, .ref aR_kinds, .ref aR_values, .ref aR_isSafe, .ref aR_sizes, .ref aR_spreads, .ref aR_isSeen, .ref aR_estimates, .ref aR_rest, .int R_steps, .ref aR_order, .ref aR_joins, .ref aR_actsBehind, .ref aR_upTo, .int R_filtersThen, .ref aR_behind, .int R_rows, .ref aR_row, .ref aR_found, .int R_comes, .ref aR_next, .ref aR_nextFound, .int R_kept, .int R_hasRoom, .ref aR_keep, .ref aR_isTaken])), (aR_sizes, .inl (cI, 8, .inl R_sizes)), (aR_spreads, .inl (cI, 64, .inl R_spreads))] H → va_D A [(aR, .inr (7, [.int R_triples, .ref aR_facts, .int R_patterns, .ref aR_cells, .ref aR_told, .ref aR_of, .ref aR_hints, .int R_filters, .ref aR_looks, .ref aR_kinds, .ref aR_values, .ref aR_isSafe, .ref aR_sizes, .ref aR_spreads, .ref aR_isSeen, .ref aR_estimates, .ref aR_rest, .int R_steps, .ref aR_order, .ref aR_joins, .ref aR_actsBehind, .ref aR_upTo, .int R_filtersThen, .ref aR_behind, .int R_rows, .ref aR_row, .ref aR_found, .int R_comes, .ref aR_next, .ref aR_nextFound, .int R_kept, .int R_hasRoom, .ref aR_keep, .ref aR_isTaken])), (aR_sizes, .inl (cI, 8, .inl R_sizes)), (aR_spreads, .inl (cI, 64, .inl R_spreads))] → va_S A s.heap H locs → ∀ ls : Array Slot, lv_has ls 7 [(2, .long x2_17), (4, .long x4_37)] → W p l e rm_f_JoinOrderModel_estimateOf s m args below meth c H locs 0 0 Q (F0 m 75 ls [])) → W p l e rm_f_JoinOrderModel_estimateOf s m args below meth c H locs 0 0 Q (F0 m 51 ls []) := by
    intro k
    induction k with
    | zero =>
      intro x4_35 x6_36 o_34 hf
      exact absurd (((f_JoinOrderModel_estimateOf_L1_z n x1 R_patterns R_spreads x4_35 x6_36).symm.trans hf)) (fun h => by cases h)
    | succ k ih =>
      intro x4_35 x6_36 o_34 hf H locs hP hD hS ls hl hX_34
      have hf := (f_JoinOrderModel_estimateOf_L1_s n x1 R_patterns R_spreads k x4_35 x6_36).symm.trans hf
      refine lv_iload hx hb dX7_estimateOf_51 (lv_at hl 4 rfl) ?_
      refine lv_bipush (v := (8 : Int32)) hx hb dX7_estimateOf_53 (by decide) ?_
      refine lv_icmp_ge (tgt := 75) hx hb dX7_estimateOf_55 (by decide) (fun c_38 => ?_) (fun c_38 => ?_)
      · have hf := xb_t c_38 hf
        exact hX_34 x4_35 hf _ _ hP hD hS _ (lv_sub hl [2, 3] rfl)
      · have hf := xb_f c_38 hf
        refine lv_aload_n hx hb dX7_estimateOf_58 rfl (lv_at hl 0 rfl) ?_
        refine lv_iload_n hx hb dX7_estimateOf_59 rfl (lv_at hl 1 rfl) ?_
        refine lv_iload hx hb dX7_estimateOf_60 (lv_at hl 4 rfl) ?_
        refine lv_lload hx hb dX7_estimateOf_62 (lv_at hl 3 rfl) ?_
        obtain ⟨r_40, hq_39, hf⟩ := bn1_c hf
        refine x_l (xrV (As := [.int x1, .int x6_36, .long x4_35]) (b := aR) (rest := []) ⟨hx, hb, hml, hown, htg⟩ (c_f_JoinOrderModel_divisor l D cI cJ cZ _ n aR x1 x6_36 x4_35 R_triples aR_facts R_patterns aR_cells aR_told aR_of aR_hints R_filters aR_looks aR_kinds aR_values aR_isSafe aR_sizes aR_spreads aR_isSeen aR_estimates aR_rest R_steps aR_order aR_joins aR_actsBehind aR_upTo R_filtersThen aR_behind R_rows aR_row aR_found R_comes aR_next aR_nextFound R_kept R_hasRoom aR_keep aR_isTaken R_spreads hq_39) kc_f_JoinOrderModel_divisor kw_748 kw_750 kp_31 kw_8 dd_f_JoinOrderModel_divisor ⟨Nat.le_of_ble_eq_true rfl, Nat.le_of_ble_eq_true rfl⟩ rfl rfl (hP.sub [0, 2] rfl) (hD.sub [0, 2] (by decide) rfl) hK hN hP (q0 := 0) rfl rfl rfl hl.1 rfl (Nat.le_of_ble_eq_true rfl) dX7_estimateOf_64 ⟨Nat.le_of_ble_eq_true rfl, Nat.le_of_ble_eq_true rfl⟩) hP hD hS hA [0, 2] [1] rfl rfl (by decide) (by decide) (fun _ H locs hP hD hS => ?_)
        have hP : va_P D vwCl [(aR_sizes, .inl (cI, 8, .inl R_sizes)), (aR, .inr (7, [.int R_triples, .ref aR_facts, .int R_patterns, .ref aR_cells, .ref aR_told, .ref aR_of, .ref aR_hints, .int R_filters, .ref aR_looks, .ref aR_kinds, .ref aR_values, .ref aR_isSafe, .ref aR_sizes, .ref aR_spreads, .ref aR_isSeen, .ref aR_estimates, .ref aR_rest, .int R_steps, .ref aR_order, .ref aR_joins, .ref aR_actsBehind, .ref aR_upTo, .int R_filtersThen, .ref aR_behind, .int R_rows, .ref aR_row, .ref aR_found, .int R_comes, .ref aR_next, .ref aR_nextFound, .int R_kept, .int R_hasRoom, .ref aR_keep, .ref aR_isTaken])), (aR_spreads, .inl (cI, 64, .inl R_spreads))] H := hP
        have hD : va_D A [(aR_sizes, .inl (cI, 8, .inl R_sizes)), (aR, .inr (7, [.int R_triples, .ref aR_facts, .int R_patterns, .ref aR_cells, .ref aR_told, .ref aR_of, .ref aR_hints, .int R_filters, .ref aR_looks, .ref aR_kinds, .ref aR_values, .ref aR_isSafe, .ref aR_sizes, .ref aR_spreads, .ref aR_isSeen, .ref aR_estimates, .ref aR_rest, .int R_steps, .ref aR_order, .ref aR_joins, .ref aR_actsBehind, .ref aR_upTo, .int R_filtersThen, .ref aR_behind, .int R_rows, .ref aR_row, .ref aR_found, .int R_comes, .ref aR_next, .ref aR_nextFound, .int R_kept, .int R_hasRoom, .ref aR_keep, .ref aR_isTaken])), (aR_spreads, .inl (cI, 64, .inl R_spreads))] := hD
        refine lv_lstore (lv' := [(4, .long r_40), (0, .ref aR), (1, .int x1), (2, .long x2_17), (6, .int x6_36)]) hx hb dX7_estimateOf_67 hl (by decide) rfl (fun ls hl => ?_)
        obtain ⟨x6_41, ex6_41⟩ : ∃ y : Int32, y = x6_36 + (1 : Int32) := ⟨_, rfl⟩
        have hf := nm_nm ex6_41 hf
        refine lv_iinc (v := x6_41) (lv' := [(6, .int x6_41), (4, .long r_40), (0, .ref aR), (1, .int x1), (2, .long x2_17)]) hx hb dX7_estimateOf_69 hl (k := 4) rfl (by rw [ex6_41]; rfl) (by decide) rfl (fun ls hl => ?_)
        refine lv_goto (tgt := 51) hx hb dX7_estimateOf_72 (by decide) ?_
        exact ih r_40 x6_41 o_34 hf _ _ (hP.sub [1, 0, 2] rfl) (hD.sub [1, 0, 2] (by decide) rfl) hS _ (lv_sub hl [2, 3, 4, 1, 0] rfl) hX_34
  obtain ⟨o_34, ho_34, hk_34⟩ := bn1_s hf
  refine L_51_34 n (1 : Int64) (0 : Int32) o_34 ho_34 _ _ hP hD hS _ (lv_sub hl [1, 2, 3, 4, 0] rfl) (fun x4_37 hf H locs hP hD hS ls hl => ?_)
  have hf := hk_34 _ hf
  refine lv_lload_n hx hb dX7_estimateOf_75 rfl (lv_at hl 0 rfl) ?_
  refine lv_lload hx hb dX7_estimateOf_76 (lv_at hl 1 rfl) ?_
  have g_42 : ¬ x4_37 = 0 := gz_in hf
  have hf := gz_el hf
  refine lv_ldiv hx hb dX7_estimateOf_78 g_42 ?_
  refine lv_lload_n hx hb dX7_estimateOf_79 rfl (lv_at hl 0 rfl) ?_
  refine lv_lload hx hb dX7_estimateOf_80 (lv_at hl 1 rfl) ?_
  refine lv_lrem hx hb dX7_estimateOf_82 g_42 ?_
  refine lv_lconst (v := (0 : Int64)) hx hb dX7_estimateOf_83 (by decide) ?_
  refine W.lcmp hx hb dX7_estimateOf_84 ?_
  refine lv_if_le (tgt := 92) hx hb dX7_estimateOf_85 (by decide) (fun c_43 => ?_) (fun c_43 => ?_)
  · have hf := xb_t c_43 hf
    refine lv_lconst (v := (0 : Int64)) hx hb dX7_estimateOf_92 (by decide) ?_
    refine lv_ladd hx hb dX7_estimateOf_93 ?_
    have hf := Option.some.inj hf
    subst hf
    exact x_lret (fun _ => 0) hQ hx hb hr hlk hK hP hD hS dX7_estimateOf_94
  · have hf := xb_f c_43 hf
    refine lv_lconst (v := (1 : Int64)) hx hb dX7_estimateOf_88 (by decide) ?_
    refine lv_goto (tgt := 93) hx hb dX7_estimateOf_89 (by decide) ?_
    refine lv_ladd hx hb dX7_estimateOf_93 ?_
    have hf := Option.some.inj hf
    subst hf
    exact x_lret (fun _ => 0) hQ hx hb hr hlk hK hP hD hS dX7_estimateOf_94
