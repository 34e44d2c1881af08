abbrev rm_f_JoinOrderModel_placeOf : Room := { frames := 0, cells := 0, slots := 0, locals := 0 }
set_option maxHeartbeats 4000000 in
set_option maxRecDepth 100000 in
theorem c_f_JoinOrderModel_placeOf (l : Launch) (D : va_G) (cI cJ cZ : ClassId) (sz : Nat) (n : Nat) (aR : Nat) (x1 : Int32) (x2 : Int32) (R_triples : Int32) (aR_facts : Nat) (R_patterns : Int32) (aR_cells : Nat) (aR_told : Nat) (aR_of : Nat) (aR_hints : Nat) (R_filters : Int32) (aR_looks : Nat) (aR_kinds : Nat) (aR_values : Nat) (aR_isSafe : Nat) (aR_sizes : Nat) (aR_spreads : Nat) (aR_isSeen : Nat) (aR_estimates : Nat) (aR_rest : Nat) (R_steps : Int32) (aR_order : Nat) (aR_joins : Nat) (aR_actsBehind : Nat) (aR_upTo : Nat) (R_filtersThen : Int32) (aR_behind : Nat) (R_rows : Int32) (aR_row : Nat) (aR_found : Nat) (R_comes : Int32) (aR_next : Nat) (aR_nextFound : Nat) (R_kept : Int32) (R_hasRoom : Int32) (aR_keep : Nat) (aR_isTaken : Nat) (R_cells : Nat → Int32) {r : Int32} (hf : f_JoinOrderModel_placeOf n x1 x2 R_cells = some r) : Met l yX7_placeOf (.code yX7_placeOf cX7_placeOf 5 (some .int) :: GW) rm_f_JoinOrderModel_placeOf (va_Pc [.ref aR, .int x1, .int x2] (xP D (xT cI cJ cZ) sz [(aR, .inr (7, [.int R_triples, .ref aR_facts, .int R_patterns, .ref aR_cells, .ref aR_told, .ref aR_of, .ref aR_hints, .int R_filters, .ref aR_looks, .ref aR_kinds, .ref aR_values, .ref aR_isSafe, .ref aR_sizes, .ref aR_spreads, .ref aR_isSeen, .ref aR_estimates, .ref aR_rest, .int R_steps, .ref aR_order, .ref aR_joins, .ref aR_actsBehind, .ref aR_upTo, .int R_filtersThen, .ref aR_behind, .int R_rows, .ref aR_row, .ref aR_found, .int R_comes, .ref aR_next, .ref aR_nextFound, .int R_kept, .int R_hasRoom, .ref aR_keep, .ref aR_isTaken])), (aR_cells, .inl (cI, 24, .inl R_cells))])) (va_Qi (fun r2 (_ : Nat → Nat) => r2 = r) (bB D (xT cI cJ cZ) (fun _ => [(aR, .inr (7, [.int R_triples, .ref aR_facts, .int R_patterns, .ref aR_cells, .ref aR_told, .ref aR_of, .ref aR_hints, .int R_filters, .ref aR_looks, .ref aR_kinds, .ref aR_values, .ref aR_isSafe, .ref aR_sizes, .ref aR_spreads, .ref aR_isSeen, .ref aR_estimates, .ref aR_rest, .int R_steps, .ref aR_order, .ref aR_joins, .ref aR_actsBehind, .ref aR_upTo, .int R_filtersThen, .ref aR_behind, .int R_rows, .ref aR_row, .ref aR_found, .int R_comes, .ref aR_next, .ref aR_nextFound, .int R_kept, .int R_hasRoom, .ref aR_keep, .ref aR_isTaken])), (aR_cells, .inl (cI, 24, .inl R_cells))]) (va_A [(aR, .inr (7, [.int R_triples, .ref aR_facts, .int R_patterns, .ref aR_cells, .ref aR_told, .ref aR_of, .ref aR_hints, .int R_filters, .ref aR_looks, .ref aR_kinds, .ref aR_values, .ref aR_isSafe, .ref aR_sizes, .ref aR_spreads, .ref aR_isSeen, .ref aR_estimates, .ref aR_rest, .int R_steps, .ref aR_order, .ref aR_joins, .ref aR_actsBehind, .ref aR_upTo, .int R_filtersThen, .ref aR_behind, .int R_rows, .ref aR_row, .ref aR_found, .int R_comes, .ref aR_next, .ref aR_nextFound, .int R_kept, .int R_hasRoom, .ref aR_keep, .ref aR_isTaken])), (aR_cells, .inl (cI, 24, .inl R_cells))] sz)) (va_A [(aR, .inr (7, [.int R_triples, .ref aR_facts, .int R_patterns, .ref aR_cells, .ref aR_told, .ref aR_of, .ref aR_hints, .int R_filters, .ref aR_looks, .ref aR_kinds, .ref aR_values, .ref aR_isSafe, .ref aR_sizes, .ref aR_spreads, .ref aR_isSeen, .ref aR_estimates, .ref aR_rest, .int R_steps, .ref aR_order, .ref aR_joins, .ref aR_actsBehind, .ref aR_upTo, .int R_filtersThen, .ref aR_behind, .int R_rows, .ref aR_row, .ref aR_found, .int R_comes, .ref aR_next, .ref aR_nextFound, .int R_kept, .int R_hasRoom, .ref aR_keep, .ref aR_isTaken])), (aR_cells, .inl (cI, 24, .inl R_cells))] sz)) 0 0 (va_A [(aR, .inr (7, [.int R_triples, .ref aR_facts, .int R_patterns, .ref aR_cells, .ref aR_told, .ref aR_of, .ref aR_hints, .int R_filters, .ref aR_looks, .ref aR_kinds, .ref aR_values, .ref aR_isSafe, .ref aR_sizes, .ref aR_spreads, .ref aR_isSeen, .ref aR_estimates, .ref aR_rest, .int R_steps, .ref aR_order, .ref aR_joins, .ref aR_actsBehind, .ref aR_upTo, .int R_filtersThen, .ref aR_behind, .int R_rows, .ref aR_row, .ref aR_found, .int R_comes, .ref aR_next, .ref aR_nextFound, .int R_kept, .int R_hasRoom, .ref aR_keep, .ref aR_isTaken])), (aR_cells, .inl (cI, 24, .inl R_cells))] sz) := by
  refine con_start (y := yX7_placeOf) (bytes := cX7_placeOf) (maxL := 5) (av := [.ref aR, .int x1, .int x2]) (Qc := fun A => va_Qi (fun r2 (_ : Nat → Nat) => r2 = r) (bB D (xT cI cJ cZ) (fun _ => [(aR, .inr (7, [.int R_triples, .ref aR_facts, .int R_patterns, .ref aR_cells, .ref aR_told, .ref aR_of, .ref aR_hints, .int R_filters, .ref aR_looks, .ref aR_kinds, .ref aR_values, .ref aR_isSafe, .ref aR_sizes, .ref aR_spreads, .ref aR_isSeen, .ref aR_estimates, .ref aR_rest, .int R_steps, .ref aR_order, .ref aR_joins, .ref aR_actsBehind, .ref aR_upTo, .int R_filtersThen, .ref aR_behind, .int R_rows, .ref aR_row, .ref aR_found, .int R_comes, .ref aR_next, .ref aR_nextFound, .int R_kept, .int R_hasRoom, .ref aR_keep, .ref aR_isTaken])), (aR_cells, .inl (cI, 24, .inl R_cells))]) A) A) (by decide) (Nat.le_of_ble_eq_true rfl) ?_
  intro p e s m args below meth c Q A hx hb hr hlk hml hown hin htg hN hK hQ hA hP hD hS ls hl
  have hl : lv_has ls 5 [(0, .ref aR), (1, .int x1), (2, .int x2)] := hl
  have hown : s.vm.findClass RX7 = some m.cls := hown
  have hf := (f_JoinOrderModel_placeOf_u n x1 x2 R_cells).symm.trans hf
  refine lv_iconst (v := (-1 : Int32)) hx hb dX7_placeOf_0 (by decide) ?_
  refine lv_istore_n (lv' := [(3, .int (-1 : Int32)), (0, .ref aR), (1, .int x1), (2, .int x2)]) hx hb dX7_placeOf_1 rfl hl (by decide) rfl (fun ls hl => ?_)
  refine lv_iconst (v := (2 : Int32)) hx hb dX7_placeOf_2 (by decide) ?_
  refine lv_istore (lv' := [(4, .int (2 : Int32)), (3, .int (-1 : Int32)), (0, .ref aR), (1, .int x1), (2, .int x2)]) hx hb dX7_placeOf_3 hl (by decide) rfl (fun ls hl => ?_)
  have L_5_13 : ∀ (k : Nat) (x3_14 : Int32) (x4_15 : Int32) (o_13 : Int32), f_JoinOrderModel_placeOf_L0 n x1 x2 R_cells k x3_14 x4_15 = some o_13 → ∀ (H : Heap) (locs : List Loc), va_P D vwCl [(aR, .inr (7, [.int R_triples, .ref aR_facts, .int R_patterns, .ref aR_cells, .ref aR_told, .ref aR_of, .ref aR_hints, .int R_filters, .ref aR_looks, .ref aR_kinds, .ref aR_values, .ref aR_isSafe, .ref aR_sizes, .ref aR_spreads, .ref aR_isSeen, .ref aR_estimates, .ref aR_rest, .int R_steps, .ref aR_order, .ref aR_joins, .ref aR_actsBehind, .ref aR_upTo, .int R_filtersThen, .ref aR_behind, .int R_rows, .ref aR_row, .ref aR_found, .int R_comes, .ref aR_next, .ref aR_nextFound, .int R_kept, .int R_hasRoom, .ref aR_keep, .ref aR_isTaken])), (aR_cells, .inl (cI, 24, .inl R_cells))] H → va_D A [(aR, .inr (7, [.int R_triples, .ref aR_facts, .int R_patterns, .ref aR_cells, .ref aR_told, .ref aR_of, .ref aR_hints, .int R_filters, .ref aR_looks, .ref aR_kinds, .ref aR_values, .ref aR_isSafe, .ref aR_sizes, .ref aR_spreads, .ref aR_isSeen, .ref aR_estimates, .ref aR_rest, .int R_steps, .ref aR_order, .ref aR_joins, .ref aR_actsBehind, .ref aR_upTo, .int R_filtersThen, .ref aR_behind, .int R_rows, .ref aR_row, .ref aR_found, .int R_comes, .ref aR_next, .ref aR_nextFound, .int R_kept, .int R_hasRoom, .ref aR_keep, .ref aR_isTaken])), (aR_cells, .inl (cI, 24, .inl R_cells))] → va_S A s.heap H locs → ∀ ls : Array Slot, lv_has ls 5 [(0, .ref aR), (1, .int x1), (2, .int x2), (3, .int x3_14), (4, .int x4_15)] → (∀ (x3_16 : Int32), some (x3_16) = some o_13 → ∀ (H : Heap) (locs : List Loc), va_P D vwCl [(aR, .inr (7, [.int R_triples, .ref aR_facts, .int R_patterns, .ref aR_cells, .ref aR_told, .ref aR_of, .ref aR_hints, .int R_filters, .ref aR_looks, .ref aR_kinds, .ref aR_values, .ref aR_isSafe, .ref aR_sizes, .ref aR_spreads, .ref aR_isSeen, .ref aR_estimates, .ref aR_rest, .int R_steps, .ref aR_order, .ref aR_joins, .ref aR_actsBehind, .ref aR_upTo, .int R_filtersThen, .ref aR_behind, .int R_rows, .ref aR_row, .ref aR_found, .int R_comes, .ref aR_next, .ref aR_nextFound, .int R_kept, .int R_hasRoom, .ref aR_keep, .ref aR_isTaken])), (aR_cells, .inl (cI, 24, .inl R_cells))] H → va_D A [(aR, .inr (7, [.int R_triples, .ref aR_facts, .int R_patterns, .ref aR_cells, .ref aR_told, .ref aR_of, .ref aR_hints, .int R_filters, .ref aR_looks, .ref aR_kinds, .ref aR_values, .ref aR_isSafe, .ref aR_sizes, .ref aR_spreads, .ref aR_isSeen, .ref aR_estimates, .ref aR_rest, .int R_steps, .ref aR_order, .ref aR_joins, .ref aR_actsBehind, .ref aR_upTo, .int R_filtersThen, .ref aR_behind, .int R_rows, .ref aR_row, .ref aR_found, .int R_comes, .ref aR_next, .ref aR_nextFound, .int R_kept, .int R_hasRoom, .ref aR_keep, .ref aR_isTaken])), (aR_cells, .inl (cI, 24, .inl R_cells))] → va_S A s.heap H locs → ∀ ls : Array Slot, lv_has ls 5 [(3, .int x3_16)] → W p l e rm_f_JoinOrderModel_placeOf s m args below meth c H locs 0 0 Q (F0 m 38 ls [])) → W p l e rm_f_JoinOrderModel_placeOf s m args below meth c H locs 0 0 Q (F0 m 5 ls []) := by
    intro k
    induction k with
    | zero =>
      intro x3_14 x4_15 o_13 hf
      exact absurd (((f_JoinOrderModel_placeOf_L0_z n x1 x2 R_cells x3_14 x4_15).symm.trans hf)) (fun h => by cases h)
    | succ k ih =>
      intro x3_14 x4_15 o_13 hf H locs hP hD hS ls hl hX_13
      have hf := (f_JoinOrderModel_placeOf_L0_s n x1 x2 R_cells k x3_14 x4_15).symm.trans hf
      refine lv_iload hx hb dX7_placeOf_5 (lv_at hl 4 rfl) ?_
      refine lv_if_lt (tgt := 38) hx hb dX7_placeOf_7 (by decide) (fun c_17 => ?_) (fun c_17 => ?_)
      · have hf := xb_t c_17 hf
        exact hX_13 x3_14 hf _ _ hP hD hS _ (lv_sub hl [3] rfl)
      · have hf := xb_f c_17 hf
        refine lv_aload_n hx hb dX7_placeOf_10 rfl (lv_at hl 0 rfl) ?_
        refine va_get (D := D) (ci := 7) (v := .ref aR_cells) (C := RX7) (T := TX7) (N := 34) hx hb htg giX7 hown hK hP 0 rfl rfl 3 (by decide) (htg _ kw_566) (fun _ h9 => h9) rfl dX7_placeOf_11 ?_
        refine lv_iconst (v := (3 : Int32)) hx hb dX7_placeOf_14 (by decide) ?_
        refine lv_iload_n hx hb dX7_placeOf_15 rfl (lv_at hl 1 rfl) ?_
        refine lv_imul hx hb dX7_placeOf_16 ?_
        refine lv_iload hx hb dX7_placeOf_17 (lv_at hl 4 rfl) ?_
        refine lv_iadd hx hb dX7_placeOf_19 ?_
        have g_18 : vp_in (((3 : Int32) * x1) + x4_15) 24 := gd_in hf
        have hf := gd_el hf
        refine va_iald hx hb hK hP 1 0 rfl rfl g_18 dX7_placeOf_20 ?_
        refine lv_iload_n hx hb dX7_placeOf_21 rfl (lv_at hl 2 rfl) ?_
        refine lv_icmp_ne (tgt := 30) hx hb dX7_placeOf_22 (by decide) (fun c_19 => ?_) (fun c_19 => ?_)
        · have hf := xb_f c_19 hf
          refine lv_iload_n hx hb dX7_placeOf_30 rfl (lv_at hl 3 rfl) ?_
          refine lv_istore_n (lv' := [(3, .int x3_14), (0, .ref aR), (1, .int x1), (2, .int x2), (4, .int x4_15)]) hx hb dX7_placeOf_31 rfl hl (by decide) rfl (fun ls hl => ?_)
          obtain ⟨x4_20, ex4_20⟩ : ∃ y : Int32, y = x4_15 + (-1 : Int32) := ⟨_, rfl⟩
          have hf := nm_nm ex4_20 hf
          refine lv_iinc (v := x4_20) (lv' := [(4, .int x4_20), (3, .int x3_14), (0, .ref aR), (1, .int x1), (2, .int x2)]) hx hb dX7_placeOf_32 hl (k := 4) rfl (by rw [ex4_20]; rfl) (by decide) rfl (fun ls hl => ?_)
          refine lv_goto (tgt := 5) hx hb dX7_placeOf_35 (by decide) ?_
          exact ih x3_14 x4_20 o_13 hf _ _ hP hD hS _ (lv_sub hl [2, 3, 4, 1, 0] rfl) hX_13
        · have hf := xb_t c_19 hf
          refine lv_iload hx hb dX7_placeOf_25 (lv_at hl 4 rfl) ?_
          refine lv_goto (tgt := 31) hx hb dX7_placeOf_27 (by decide) ?_
          refine lv_istore_n (lv' := [(3, .int x4_15), (0, .ref aR), (1, .int x1), (2, .int x2), (4, .int x4_15)]) hx hb dX7_placeOf_31 rfl hl (by decide) rfl (fun ls hl => ?_)
          obtain ⟨x4_21, ex4_21⟩ : ∃ y : Int32, y = x4_15 + (-1 : Int32) := ⟨_, rfl⟩
          have hf := nm_nm ex4_21 hf
          refine lv_iinc (v := x4_21) (lv' := [(4, .int x4_21), (3, .int x4_15), (0, .ref aR), (1, .int x1), (2, .int x2)]) hx hb dX7_placeOf_32 hl (k := 4) rfl (by rw [ex4_21]; rfl) (by decide) rfl (fun ls hl => ?_)
          refine lv_goto (tgt := 5) hx hb dX7_placeOf_35 (by decide) ?_
          exact ih x4_15 x4_21 o_13 hf _ _ hP hD hS _ (lv_sub hl [2, 3, 4, 1, 0] rfl) hX_13
  obtain ⟨o_13, ho_13, hk_13⟩ := bn1_s hf
  refine L_5_13 n (-1 : Int32) (2 : Int32) o_13 ho_13 _ _ hP hD hS _ (lv_sub hl [2, 3, 4, 1, 0] rfl) (fun x3_16 hf H locs hP hD hS ls hl => ?_)
  have hf := hk_13 _ hf
  refine lv_iload_n hx hb dX7_placeOf_38 rfl (lv_at hl 0 rfl) ?_
  have hf := Option.some.inj hf
  subst hf
  exact x_iret (fun _ => 0) hQ hx hb hr hlk hK hP hD hS dX7_placeOf_39
