abbrev rm_f_JoinOrderModel_divisor : Room := { frames := 0, cells := 0, slots := 0, locals := 0 }
set_option maxHeartbeats 4000000 in
set_option maxRecDepth 100000 in
theorem c_f_JoinOrderModel_divisor (l : Launch) (D : va_G) (cI cJ cZ : ClassId) (sz : Nat) (n : Nat) (aR : Nat) (x1 : Int32) (x2 : Int32) (x3 : Int64) (R_triples : Int32) (aR_facts : Nat) (R_patterns : Int32) (aR_cells : Nat) (aR_told : Nat) (aR_of : Nat) (aR_hints : Nat) (R_filters : Int32) (aR_looks : Nat) (aR_kinds : Nat) (aR_values : Nat) (aR_isSafe : Nat) (aR_sizes : Nat) (aR_spreads : Nat) (aR_isSeen : Nat) (aR_estimates : Nat) (aR_rest : Nat) (R_steps : Int32) (aR_order : Nat) (aR_joins : Nat) (aR_actsBehind : Nat) (aR_upTo : Nat) (R_filtersThen : Int32) (aR_behind : Nat) (R_rows : Int32) (aR_row : Nat) (aR_found : Nat) (R_comes : Int32) (aR_next : Nat) (aR_nextFound : Nat) (R_kept : Int32) (R_hasRoom : Int32) (aR_keep : Nat) (aR_isTaken : Nat) (R_spreads : Nat → Int32) {r : Int64} (hf : f_JoinOrderModel_divisor n x1 x2 x3 R_patterns R_spreads = some r) : Met l yX7_divisor (.code yX7_divisor cX7_divisor 11 (some .long) :: GW) rm_f_JoinOrderModel_divisor (va_Pc [.ref aR, .int x1, .int x2, .long x3] (xP D (xT cI cJ cZ) sz [(aR, .inr (7, [.int R_triples, .ref aR_facts, .int R_patterns, .ref aR_cells, .ref aR_told, .ref aR_of, .ref aR_hints, .int R_filters, .ref aR_looks, .ref aR_kinds, .ref aR_values, .ref aR_isSafe, .ref aR_sizes, .ref aR_spreads, .ref aR_isSeen, .ref aR_estimates, .ref aR_rest, .int R_steps, .ref aR_order, .ref aR_joins, .ref aR_actsBehind, .ref aR_upTo, .int R_filtersThen, .ref aR_behind, .int R_rows, .ref aR_row, .ref aR_found, .int R_comes, .ref aR_next, .ref aR_nextFound, .int R_kept, .int R_hasRoom, .ref aR_keep, .ref aR_isTaken])), (aR_spreads, .inl (cI, 64, .inl R_spreads))])) (va_Ql (fun r2 (_ : Nat → Nat) => r2 = r) (bB D (xT cI cJ cZ) (fun _ => [(aR, .inr (7, [.int R_triples, .ref aR_facts, .int R_patterns, .ref aR_cells, .ref aR_told, .ref aR_of, .ref aR_hints, .int R_filters, .ref aR_looks, .ref aR_kinds, .ref aR_values, .ref aR_isSafe, .ref aR_sizes, .ref aR_spreads, .ref aR_isSeen, .ref aR_estimates, .ref aR_rest, .int R_steps, .ref aR_order, .ref aR_joins, .ref aR_actsBehind, .ref aR_upTo, .int R_filtersThen, .ref aR_behind, .int R_rows, .ref aR_row, .ref aR_found, .int R_comes, .ref aR_next, .ref aR_nextFound, .int R_kept, .int R_hasRoom, .ref aR_keep, .ref aR_isTaken])), (aR_spreads, .inl (cI, 64, .inl R_spreads))]) (va_A [(aR, .inr (7, [.int R_triples, .ref aR_facts, .int R_patterns, .ref aR_cells, .ref aR_told, .ref aR_of, .ref aR_hints, .int R_filters, .ref aR_looks, .ref aR_kinds, .ref aR_values, .ref aR_isSafe, .ref aR_sizes, .ref aR_spreads, .ref aR_isSeen, .ref aR_estimates, .ref aR_rest, .int R_steps, .ref aR_order, .ref aR_joins, .ref aR_actsBehind, .ref aR_upTo, .int R_filtersThen, .ref aR_behind, .int R_rows, .ref aR_row, .ref aR_found, .int R_comes, .ref aR_next, .ref aR_nextFound, .int R_kept, .int R_hasRoom, .ref aR_keep, .ref aR_isTaken])), (aR_spreads, .inl (cI, 64, .inl R_spreads))] sz)) (va_A [(aR, .inr (7, [.int R_triples, .ref aR_facts, .int R_patterns, .ref aR_cells, .ref aR_told, .ref aR_of, .ref aR_hints, .int R_filters, .ref aR_looks, .ref aR_kinds, .ref aR_values, .ref aR_isSafe, .ref aR_sizes, .ref aR_spreads, .ref aR_isSeen, .ref aR_estimates, .ref aR_rest, .int R_steps, .ref aR_order, .ref aR_joins, .ref aR_actsBehind, .ref aR_upTo, .int R_filtersThen, .ref aR_behind, .int R_rows, .ref aR_row, .ref aR_found, .int R_comes, .ref aR_next, .ref aR_nextFound, .int R_kept, .int R_hasRoom, .ref aR_keep, .ref aR_isTaken])), (aR_spreads, .inl (cI, 64, .inl R_spreads))] sz)) 0 0 (va_A [(aR, .inr (7, [.int R_triples, .ref aR_facts, .int R_patterns, .ref aR_cells, .ref aR_told, .ref aR_of, .ref aR_hints, .int R_filters, .ref aR_looks, .ref aR_kinds, .ref aR_values, .ref aR_isSafe, .ref aR_sizes, .ref aR_spreads, .ref aR_isSeen, .ref aR_estimates, .ref aR_rest, .int R_steps, .ref aR_order, .ref aR_joins, .ref aR_actsBehind, .ref aR_upTo, .int R_filtersThen, .ref aR_behind, .int R_rows, .ref aR_row, .ref aR_found, .int R_comes, .ref aR_next, .ref aR_nextFound, .int R_kept, .int R_hasRoom, .ref aR_keep, .ref aR_isTaken])), (aR_spreads, .inl (cI, 64, .inl R_spreads))] sz) := by
  refine con_start (y := yX7_divisor) (bytes := cX7_divisor) (maxL := 11) (av := [.ref aR, .int x1, .int x2, .long x3]) (Qc := fun A => va_Ql (fun r2 (_ : Nat → Nat) => r2 = r) (bB D (xT cI cJ cZ) (fun _ => [(aR, .inr (7, [.int R_triples, .ref aR_facts, .int R_patterns, .ref aR_cells, .ref aR_told, .ref aR_of, .ref aR_hints, .int R_filters, .ref aR_looks, .ref aR_kinds, .ref aR_values, .ref aR_isSafe, .ref aR_sizes, .ref aR_spreads, .ref aR_isSeen, .ref aR_estimates, .ref aR_rest, .int R_steps, .ref aR_order, .ref aR_joins, .ref aR_actsBehind, .ref aR_upTo, .int R_filtersThen, .ref aR_behind, .int R_rows, .ref aR_row, .ref aR_found, .int R_comes, .ref aR_next, .ref aR_nextFound, .int R_kept, .int R_hasRoom, .ref aR_keep, .ref aR_isTaken])), (aR_spreads, .inl (cI, 64, .inl R_spreads))]) A) A) (by decide) (Nat.le_of_ble_eq_true rfl) ?_
  intro p e s m args below meth c Q A hx hb hr hlk hml hown hin htg hN hK hQ hA hP hD hS ls hl
  have hl : lv_has ls 11 [(0, .ref aR), (1, .int x1), (2, .int x2), (3, .long x3)] := hl
  have hown : s.vm.findClass RX7 = some m.cls := hown
  have hf := (f_JoinOrderModel_divisor_u n x1 x2 x3 R_patterns R_spreads).symm.trans hf
  refine lv_lload_n hx hb dX7_divisor_0 rfl (lv_at hl 3 rfl) ?_
  refine lv_lstore (lv' := [(5, .long x3), (0, .ref aR), (1, .int x1), (2, .int x2), (3, .long x3)]) hx hb dX7_divisor_1 hl (by decide) rfl (fun ls hl => ?_)
  refine lv_iconst (v := (0 : Int32)) hx hb dX7_divisor_3 (by decide) ?_
  refine lv_istore (lv' := [(7, .int (0 : Int32)), (5, .long x3), (0, .ref aR), (1, .int x1), (2, .int x2), (3, .long x3)]) hx hb dX7_divisor_4 hl (by decide) rfl (fun ls hl => ?_)
  refine lv_iconst (v := (0 : Int32)) hx hb dX7_divisor_6 (by decide) ?_
  refine lv_istore (lv' := [(8, .int (0 : Int32)), (7, .int (0 : Int32)), (5, .long x3), (0, .ref aR), (1, .int x1), (2, .int x2), (3, .long x3)]) hx hb dX7_divisor_7 hl (by decide) rfl (fun ls hl => ?_)
  have L_9_48 : ∀ (k : Nat) (x5_49 : Int64) (x7_50 : Int32) (x8_51 : Int32) (o_48 : Int64), f_JoinOrderModel_divisor_L0 n x1 x2 R_patterns R_spreads k x5_49 x7_50 x8_51 = some o_48 → ∀ (H : Heap) (locs : List Loc), va_P D vwCl [(aR, .inr (7, [.int R_triples, .ref aR_facts, .int R_patterns, .ref aR_cells, .ref aR_told, .ref aR_of, .ref aR_hints, .int R_filters, .ref aR_looks, .ref aR_kinds, .ref aR_values, .ref aR_isSafe, .ref aR_sizes, .ref aR_spreads, .ref aR_isSeen, .ref aR_estimates, .ref aR_rest, .int R_steps, .ref aR_order, .ref aR_joins, .ref aR_actsBehind, .ref aR_upTo, .int R_filtersThen, .ref aR_behind, .int R_rows, .ref aR_row, .ref aR_found, .int R_comes, .ref aR_next, .ref aR_nextFound, .int R_kept, .int R_hasRoom, .ref aR_keep, .ref aR_isTaken])), (aR_spreads, .inl (cI, 64, .inl R_spreads))] H → va_D A [(aR, .inr (7, [.int R_triples, .ref aR_facts, .int R_patterns, .ref aR_cells, .ref aR_told, .ref aR_of, .ref aR_hints, .int R_filters, .ref aR_looks, .ref aR_kinds, .ref aR_values, .ref aR_isSafe, .ref aR_sizes, .ref aR_spreads, .ref aR_isSeen, .ref aR_estimates, .ref aR_rest, .int R_steps, .ref aR_order, .ref aR_joins, .ref aR_actsBehind, .ref aR_upTo, .int R_filtersThen, .ref aR_behind, .int R_rows, .ref aR_row, .ref aR_found, .int R_comes, .ref aR_next, .ref aR_nextFound, .int R_kept, .int R_hasRoom, .ref aR_keep, .ref aR_isTaken])), (aR_spreads, .inl (cI, 64, .inl R_spreads))] → va_S A s.heap H locs → ∀ ls : Array Slot, lv_has ls 11 [(0, .ref aR), (1, .int x1), (2, .int x2), (5, .long x5_49), (7, .int x7_50), (8, .int x8_51)] → (∀ (x5_52 : Int64), some (x5_52) = some o_48 → ∀ (H : Heap) (locs : List Loc), va_P D vwCl [(aR, .inr (7, [.int R_triples, .ref aR_facts, .int R_patterns, .ref aR_cells, .ref aR_told, .ref aR_of, .ref aR_hints, .int R_filters, .ref aR_looks, .ref aR_kinds, .ref aR_values, .ref aR_isSafe, .ref aR_sizes, .ref aR_spreads, .ref aR_isSeen, .ref aR_estimates, .ref aR_rest, .int R_steps, .ref aR_order, .ref aR_joins, .ref aR_actsBehind, .ref aR_upTo, .int R_filtersThen, .ref aR_behind, .int R_rows, .ref aR_row, .ref aR_found, .int R_comes, .ref aR_next, .ref aR_nextFound, .int R_kept, .int R_hasRoom, .ref aR_keep, .ref aR_isTaken])), (aR_spreads, .inl (cI, 64, .inl R_spreads))] H → va_D A [(aR, .inr (7, [.int R_triples, .ref aR_facts, .int R_patterns, .ref aR_cells, .ref aR_told, .ref aR_of, .ref aR_hints, .int R_filters, .ref aR_looks, .ref aR_kinds, .ref aR_values, .ref aR_isSafe, .ref aR_sizes, .ref aR_spreads, .ref aR_isSeen, .ref aR_estimates, .ref aR_rest, .int R_steps, .ref aR_order, .ref aR_joins, .ref aR_actsBehind, .ref aR_upTo, .int R_filtersThen, .ref aR_behind, .int R_rows, .ref aR_row, .ref aR_found, .int R_comes, .ref aR_next, .ref aR_nextFound, .int R_kept, .int R_hasRoom, .ref aR_keep, .ref aR_isTaken])), (aR_spreads, .inl (cI, 64, .inl R_spreads))] → va_S A s.heap H locs → ∀ ls : Array Slot, lv_has ls 11 [(5, .long x5_52)] → W p l e rm_f_JoinOrderModel_divisor s m args below meth c H locs 0 0 Q (F0 m 125 ls [])) → W p l e rm_f_JoinOrderModel_divisor s m args below meth c H locs 0 0 Q (F0 m 9 ls []) := by
    intro k
    induction k with
    | zero =>
      intro x5_49 x7_50 x8_51 o_48 hf
      exact absurd (((f_JoinOrderModel_divisor_L0_z n x1 x2 R_patterns R_spreads x5_49 x7_50 x8_51).symm.trans hf)) (fun h => by cases h)
    | succ k ih =>
      intro x5_49 x7_50 x8_51 o_48 hf H locs hP hD hS ls hl hX_48
      have hf := (f_JoinOrderModel_divisor_L0_s n x1 x2 R_patterns R_spreads k x5_49 x7_50 x8_51).symm.trans hf
      refine lv_iload hx hb dX7_divisor_9 (lv_at hl 5 rfl) ?_
      refine lv_aload_n hx hb dX7_divisor_11 rfl (lv_at hl 0 rfl) ?_
      refine va_get (D := D) (ci := 7) (v := .int R_patterns) (C := RX7) (T := TX7) (N := 34) hx hb htg giX7 hown hK hP 0 rfl rfl 2 (by decide) (htg _ kw_565) (fun _ h9 => h9) rfl dX7_divisor_12 ?_
      refine lv_icmp_ge (tgt := 125) hx hb dX7_divisor_15 (by decide) (fun c_53 => ?_) (fun c_53 => ?_)
      · have hf := xb_t c_53 hf
        exact hX_48 x5_49 hf _ _ hP hD hS _ (lv_sub hl [3] rfl)
      · have hf := xb_f c_53 hf
        refine lv_iload_n hx hb dX7_divisor_18 rfl (lv_at hl 1 rfl) ?_
        refine lv_iload hx hb dX7_divisor_19 (lv_at hl 5 rfl) ?_
        refine lv_ishr hx hb dX7_divisor_21 ?_
        refine lv_iconst (v := (1 : Int32)) hx hb dX7_divisor_22 (by decide) ?_
        refine lv_iand hx hb dX7_divisor_23 ?_
        refine lv_iconst (v := (1 : Int32)) hx hb dX7_divisor_24 (by decide) ?_
        obtain ⟨o_56, ho_56, hk_56⟩ := bn1_s hf
        have J_44_56 : ∀ (z_57 : Int32), some (z_57) = some o_56 → ∀ (H : Heap) (locs : List Loc), va_P D vwCl [(aR, .inr (7, [.int R_triples, .ref aR_facts, .int R_patterns, .ref aR_cells, .ref aR_told, .ref aR_of, .ref aR_hints, .int R_filters, .ref aR_looks, .ref aR_kinds, .ref aR_values, .ref aR_isSafe, .ref aR_sizes, .ref aR_spreads, .ref aR_isSeen, .ref aR_estimates, .ref aR_rest, .int R_steps, .ref aR_order, .ref aR_joins, .ref aR_actsBehind, .ref aR_upTo, .int R_filtersThen, .ref aR_behind, .int R_rows, .ref aR_row, .ref aR_found, .int R_comes, .ref aR_next, .ref aR_nextFound, .int R_kept, .int R_hasRoom, .ref aR_keep, .ref aR_isTaken])), (aR_spreads, .inl (cI, 64, .inl R_spreads))] H → va_D A [(aR, .inr (7, [.int R_triples, .ref aR_facts, .int R_patterns, .ref aR_cells, .ref aR_told, .ref aR_of, .ref aR_hints, .int R_filters, .ref aR_looks, .ref aR_kinds, .ref aR_values, .ref aR_isSafe, .ref aR_sizes, .ref aR_spreads, .ref aR_isSeen, .ref aR_estimates, .ref aR_rest, .int R_steps, .ref aR_order, .ref aR_joins, .ref aR_actsBehind, .ref aR_upTo, .int R_filtersThen, .ref aR_behind, .int R_rows, .ref aR_row, .ref aR_found, .int R_comes, .ref aR_next, .ref aR_nextFound, .int R_kept, .int R_hasRoom, .ref aR_keep, .ref aR_isTaken])), (aR_spreads, .inl (cI, 64, .inl R_spreads))] → va_S A s.heap H locs → ∀ ls : Array Slot, lv_has ls 11 [(0, .ref aR), (1, .int x1), (2, .int x2), (5, .long x5_49), (7, .int x7_50), (8, .int x8_51)] → W p l e rm_f_JoinOrderModel_divisor s m args below meth c H locs 0 0 Q (F0 m 44 ls [.int z_57]) := by
          intro z_57 hf H locs hP hD hS ls hl
          have hf := hk_56 _ hf
          refine lv_istore (lv' := [(9, .int z_57), (0, .ref aR), (1, .int x1), (2, .int x2), (5, .long x5_49), (7, .int x7_50), (8, .int x8_51)]) hx hb dX7_divisor_44 hl (by decide) rfl (fun ls hl => ?_)
          refine lv_iload hx hb dX7_divisor_46 (lv_at hl 0 rfl) ?_
          refine lv_if_le (tgt := 119) hx hb dX7_divisor_48 (by decide) (fun c_58 => ?_) (fun c_58 => ?_)
          · have hf := xb_t c_58 hf
            obtain ⟨x8_59, ex8_59⟩ : ∃ y : Int32, y = x8_51 + (1 : Int32) := ⟨_, rfl⟩
            have hf := nm_nm ex8_59 hf
            refine lv_iinc (v := x8_59) (lv' := [(8, .int x8_59), (9, .int z_57), (0, .ref aR), (1, .int x1), (2, .int x2), (5, .long x5_49), (7, .int x7_50)]) hx hb dX7_divisor_119 hl (k := 6) rfl (by rw [ex8_59]; rfl) (by decide) rfl (fun ls hl => ?_)
            refine lv_goto (tgt := 9) hx hb dX7_divisor_122 (by decide) ?_
            exact ih x5_49 x7_50 x8_59 o_48 hf _ _ hP hD hS _ (lv_sub hl [2, 3, 4, 5, 6, 0] rfl) hX_48
          · have hf := xb_f c_58 hf
            refine lv_iload hx hb dX7_divisor_51 (lv_at hl 5 rfl) ?_
            obtain ⟨o_62, ho_62, hk_62⟩ := bn1_s hf
            have J_74_62 : ∀ (z_63 : Int32), some (z_63) = some o_62 → ∀ (H : Heap) (locs : List Loc), va_P D vwCl [(aR, .inr (7, [.int R_triples, .ref aR_facts, .int R_patterns, .ref aR_cells, .ref aR_told, .ref aR_of, .ref aR_hints, .int R_filters, .ref aR_looks, .ref aR_kinds, .ref aR_values, .ref aR_isSafe, .ref aR_sizes, .ref aR_spreads, .ref aR_isSeen, .ref aR_estimates, .ref aR_rest, .int R_steps, .ref aR_order, .ref aR_joins, .ref aR_actsBehind, .ref aR_upTo, .int R_filtersThen, .ref aR_behind, .int R_rows, .ref aR_row, .ref aR_found, .int R_comes, .ref aR_next, .ref aR_nextFound, .int R_kept, .int R_hasRoom, .ref aR_keep, .ref aR_isTaken])), (aR_spreads, .inl (cI, 64, .inl R_spreads))] H → va_D A [(aR, .inr (7, [.int R_triples, .ref aR_facts, .int R_patterns, .ref aR_cells, .ref aR_told, .ref aR_of, .ref aR_hints, .int R_filters, .ref aR_looks, .ref aR_kinds, .ref aR_values, .ref aR_isSafe, .ref aR_sizes, .ref aR_spreads, .ref aR_isSeen, .ref aR_estimates, .ref aR_rest, .int R_steps, .ref aR_order, .ref aR_joins, .ref aR_actsBehind, .ref aR_upTo, .int R_filtersThen, .ref aR_behind, .int R_rows, .ref aR_row, .ref aR_found, .int R_comes, .ref aR_next, .ref aR_nextFound, .int R_kept, .int R_hasRoom, .ref aR_keep, .ref aR_isTaken])), (aR_spreads, .inl (cI, 64, .inl R_spreads))] → va_S A s.heap H locs → ∀ ls : Array Slot, lv_has ls 11 [(0, .ref aR), (1, .int x1), (2, .int x2), (5, .long x5_49), (7, .int x7_50), (8, .int x8_51), (9, .int z_57)] → W p l e rm_f_JoinOrderModel_divisor s m args below meth c H locs 0 0 Q (F0 m 74 ls [.int z_63]) := by
              intro z_63 hf H locs hP hD hS ls hl
              have hf := hk_62 _ hf
              refine lv_istore (lv' := [(10, .int z_63), (0, .ref aR), (1, .int x1), (2, .int x2), (5, .long x5_49), (7, .int x7_50), (8, .int x8_51), (9, .int z_57)]) hx hb dX7_divisor_74 hl (by decide) rfl (fun ls hl => ?_)
              refine lv_iload hx hb dX7_divisor_76 (lv_at hl 5 rfl) ?_
              obtain ⟨o_66, ho_66, hk_66⟩ := bn1_s hf
              have J_95_66 : ∀ (z_67 : Int32), some (z_67) = some o_66 → ∀ (H : Heap) (locs : List Loc), va_P D vwCl [(aR, .inr (7, [.int R_triples, .ref aR_facts, .int R_patterns, .ref aR_cells, .ref aR_told, .ref aR_of, .ref aR_hints, .int R_filters, .ref aR_looks, .ref aR_kinds, .ref aR_values, .ref aR_isSafe, .ref aR_sizes, .ref aR_spreads, .ref aR_isSeen, .ref aR_estimates, .ref aR_rest, .int R_steps, .ref aR_order, .ref aR_joins, .ref aR_actsBehind, .ref aR_upTo, .int R_filtersThen, .ref aR_behind, .int R_rows, .ref aR_row, .ref aR_found, .int R_comes, .ref aR_next, .ref aR_nextFound, .int R_kept, .int R_hasRoom, .ref aR_keep, .ref aR_isTaken])), (aR_spreads, .inl (cI, 64, .inl R_spreads))] H → va_D A [(aR, .inr (7, [.int R_triples, .ref aR_facts, .int R_patterns, .ref aR_cells, .ref aR_told, .ref aR_of, .ref aR_hints, .int R_filters, .ref aR_looks, .ref aR_kinds, .ref aR_values, .ref aR_isSafe, .ref aR_sizes, .ref aR_spreads, .ref aR_isSeen, .ref aR_estimates, .ref aR_rest, .int R_steps, .ref aR_order, .ref aR_joins, .ref aR_actsBehind, .ref aR_upTo, .int R_filtersThen, .ref aR_behind, .int R_rows, .ref aR_row, .ref aR_found, .int R_comes, .ref aR_next, .ref aR_nextFound, .int R_kept, .int R_hasRoom, .ref aR_keep, .ref aR_isTaken])), (aR_spreads, .inl (cI, 64, .inl R_spreads))] → va_S A s.heap H locs → ∀ ls : Array Slot, lv_has ls 11 [(0, .ref aR), (1, .int x1), (2, .int x2), (5, .long x5_49), (8, .int x8_51), (10, .int z_63)] → W p l e rm_f_JoinOrderModel_divisor s m args below meth c H locs 0 0 Q (F0 m 95 ls [.int z_67]) := by
                intro z_67 hf H locs hP hD hS ls hl
                have hf := hk_66 _ hf
                refine lv_istore (lv' := [(7, .int z_67), (0, .ref aR), (1, .int x1), (2, .int x2), (5, .long x5_49), (8, .int x8_51), (10, .int z_63)]) hx hb dX7_divisor_95 hl (by decide) rfl (fun ls hl => ?_)
                refine lv_lload hx hb dX7_divisor_97 (lv_at hl 4 rfl) ?_
                refine lv_ldc2 (v := (10000000000000000 : Int64)) hx hb hown (htg _ kw_752) dX7_divisor_99 ?_
                refine W.lcmp hx hb dX7_divisor_102 ?_
                refine lv_if_le (tgt := 111) hx hb dX7_divisor_103 (by decide) (fun c_68 => ?_) (fun c_68 => ?_)
                · have hf := xb_t c_68 hf
                  refine lv_lload hx hb dX7_divisor_111 (lv_at hl 4 rfl) ?_
                  refine lv_iload hx hb dX7_divisor_113 (lv_at hl 6 rfl) ?_
                  refine lv_i2l hx hb dX7_divisor_115 rfl ?_
                  refine lv_lmul hx hb dX7_divisor_116 ?_
                  refine lv_topl (fun x5_69 ex5_69 => ?_)
                  have hf := nm_nm ex5_69 hf
                  refine lv_lstore (lv' := [(5, .long x5_69), (7, .int z_67), (0, .ref aR), (1, .int x1), (2, .int x2), (8, .int x8_51), (10, .int z_63)]) hx hb dX7_divisor_117 hl (by decide) rfl (fun ls hl => ?_)
                  obtain ⟨x8_70, ex8_70⟩ : ∃ y : Int32, y = x8_51 + (1 : Int32) := ⟨_, rfl⟩
                  have hf := nm_nm ex8_70 hf
                  refine lv_iinc (v := x8_70) (lv' := [(8, .int x8_70), (5, .long x5_69), (7, .int z_67), (0, .ref aR), (1, .int x1), (2, .int x2), (10, .int z_63)]) hx hb dX7_divisor_119 hl (k := 5) rfl (by rw [ex8_70]; rfl) (by decide) rfl (fun ls hl => ?_)
                  refine lv_goto (tgt := 9) hx hb dX7_divisor_122 (by decide) ?_
                  exact ih x5_69 z_67 x8_70 o_48 hf _ _ hP hD hS _ (lv_sub hl [3, 4, 5, 1, 2, 0] rfl) hX_48
                · have hf := xb_f c_68 hf
                  refine lv_lload hx hb dX7_divisor_106 (lv_at hl 4 rfl) ?_
                  refine lv_goto (tgt := 117) hx hb dX7_divisor_108 (by decide) ?_
                  refine lv_lstore (lv' := [(5, .long x5_49), (7, .int z_67), (0, .ref aR), (1, .int x1), (2, .int x2), (8, .int x8_51), (10, .int z_63)]) hx hb dX7_divisor_117 hl (by decide) rfl (fun ls hl => ?_)
                  obtain ⟨x8_71, ex8_71⟩ : ∃ y : Int32, y = x8_51 + (1 : Int32) := ⟨_, rfl⟩
                  have hf := nm_nm ex8_71 hf
                  refine lv_iinc (v := x8_71) (lv' := [(8, .int x8_71), (5, .long x5_49), (7, .int z_67), (0, .ref aR), (1, .int x1), (2, .int x2), (10, .int z_63)]) hx hb dX7_divisor_119 hl (k := 5) rfl (by rw [ex8_71]; rfl) (by decide) rfl (fun ls hl => ?_)
                  refine lv_goto (tgt := 9) hx hb dX7_divisor_122 (by decide) ?_
                  exact ih x5_49 z_67 x8_71 o_48 hf _ _ hP hD hS _ (lv_sub hl [3, 4, 5, 1, 2, 0] rfl) hX_48
              have hf := ho_66
              refine lv_if_eq (tgt := 88) hx hb dX7_divisor_78 (by decide) (fun c_64 => ?_) (fun c_64 => ?_)
              · have hf := xb_t c_64 hf
                refine lv_iload hx hb dX7_divisor_88 (lv_at hl 7 rfl) ?_
                refine lv_goto (tgt := 95) hx hb dX7_divisor_90 (by decide) ?_
                exact J_95_66 z_57 hf _ _ hP hD hS _ (lv_sub hl [1, 2, 3, 4, 6, 0] rfl)
              · have hf := xb_f c_64 hf
                refine lv_iload hx hb dX7_divisor_81 (lv_at hl 7 rfl) ?_
                refine lv_iload hx hb dX7_divisor_83 (lv_at hl 5 rfl) ?_
                refine lv_icmp_ge (tgt := 93) hx hb dX7_divisor_85 (by decide) (fun c_72 => ?_) (fun c_72 => ?_)
                · have hf := xb_t c_72 hf
                  refine lv_iload hx hb dX7_divisor_93 (lv_at hl 5 rfl) ?_
                  exact J_95_66 x7_50 hf _ _ hP hD hS _ (lv_sub hl [1, 2, 3, 4, 6, 0] rfl)
                · have hf := xb_f c_72 hf
                  refine lv_iload hx hb dX7_divisor_88 (lv_at hl 7 rfl) ?_
                  refine lv_goto (tgt := 95) hx hb dX7_divisor_90 (by decide) ?_
                  exact J_95_66 z_57 hf _ _ hP hD hS _ (lv_sub hl [1, 2, 3, 4, 6, 0] rfl)
            have hf := ho_62
            refine lv_if_ne (tgt := 60) hx hb dX7_divisor_53 (by decide) (fun c_60 => ?_) (fun c_60 => ?_)
            · have hf := xb_f c_60 hf
              refine lv_iload hx hb dX7_divisor_60 (lv_at hl 0 rfl) ?_
              refine lv_iload hx hb dX7_divisor_62 (lv_at hl 5 rfl) ?_
              refine lv_icmp_le (tgt := 72) hx hb dX7_divisor_64 (by decide) (fun c_73 => ?_) (fun c_73 => ?_)
              · have hf := xb_t c_73 hf
                refine lv_iload hx hb dX7_divisor_72 (lv_at hl 5 rfl) ?_
                exact J_74_62 x7_50 hf _ _ hP hD hS _ (lv_sub hl [1, 2, 3, 4, 5, 6, 0] rfl)
              · have hf := xb_f c_73 hf
                refine lv_iload hx hb dX7_divisor_67 (lv_at hl 0 rfl) ?_
                refine lv_goto (tgt := 74) hx hb dX7_divisor_69 (by decide) ?_
                exact J_74_62 z_57 hf _ _ hP hD hS _ (lv_sub hl [1, 2, 3, 4, 5, 6, 0] rfl)
            · have hf := xb_t c_60 hf
              refine lv_iconst (v := (1 : Int32)) hx hb dX7_divisor_56 (by decide) ?_
              refine lv_goto (tgt := 74) hx hb dX7_divisor_57 (by decide) ?_
              exact J_74_62 (1 : Int32) hf _ _ hP hD hS _ (lv_sub hl [1, 2, 3, 4, 5, 6, 0] rfl)
        have hf := ho_56
        refine lv_icmp_ne (tgt := 43) hx hb dX7_divisor_25 (by decide) (fun c_54 => ?_) (fun c_54 => ?_)
        · have hf := xb_f c_54 hf
          refine lv_iconst (v := (0 : Int32)) hx hb dX7_divisor_43 (by decide) ?_
          exact J_44_56 (0 : Int32) hf _ _ hP hD hS _ hl
        · have hf := xb_t c_54 hf
          refine lv_aload_n hx hb dX7_divisor_28 rfl (lv_at hl 0 rfl) ?_
          refine va_get (D := D) (ci := 7) (v := .ref aR_spreads) (C := RX7) (T := TX7) (N := 34) hx hb htg giX7 hown hK hP 0 rfl rfl 13 (by decide) (htg _ kw_576) (fun _ h9 => h9) rfl dX7_divisor_29 ?_
          refine lv_bipush (v := (8 : Int32)) hx hb dX7_divisor_32 (by decide) ?_
          refine lv_iload hx hb dX7_divisor_34 (lv_at hl 5 rfl) ?_
          refine lv_imul hx hb dX7_divisor_36 ?_
          refine lv_iload_n hx hb dX7_divisor_37 rfl (lv_at hl 2 rfl) ?_
          refine lv_iadd hx hb dX7_divisor_38 ?_
          have g_74 : vp_in (((8 : Int32) * x8_51) + x2) 64 := gd_in hf
          have hf := gd_el hf
          refine va_iald hx hb hK hP 1 0 rfl rfl g_74 dX7_divisor_39 ?_
          refine lv_goto (tgt := 44) hx hb dX7_divisor_40 (by decide) ?_
          exact J_44_56 (R_spreads (((8 : Int32) * x8_51) + x2).toNatClampNeg) hf _ _ hP hD hS _ hl
  obtain ⟨o_48, ho_48, hk_48⟩ := bn1_s hf
  refine L_9_48 n x3 (0 : Int32) (0 : Int32) o_48 ho_48 _ _ hP hD hS _ (lv_sub hl [3, 4, 5, 2, 1, 0] rfl) (fun x5_52 hf H locs hP hD hS ls hl => ?_)
  have hf := hk_48 _ hf
  refine lv_lload hx hb dX7_divisor_125 (lv_at hl 0 rfl) ?_
  have hf := Option.some.inj hf
  subst hf
  exact x_lret (fun _ => 0) hQ hx hb hr hlk hK hP hD hS dX7_divisor_127
