abbrev rm_f_JoinOrderModel_isOf : Room := { frames := 0, cells := 0, slots := 0, locals := 0 }
set_option maxHeartbeats 4000000 in
set_option maxRecDepth 100000 in
theorem c_f_JoinOrderModel_isOf (l : Launch) (D : va_G) (cI cJ cZ : ClassId) (sz : Nat) (n : Nat) (aR : Nat) (x1 : Int32) (x2 : Int32) (R_triples : Int32) (aR_facts : Nat) (R_patterns : Int32) (aR_cells : Nat) (aR_told : Nat) (aR_of : Nat) (aR_hints : Nat) (R_filters : Int32) (aR_looks : Nat) (aR_kinds : Nat) (aR_values : Nat) (aR_isSafe : Nat) (aR_sizes : Nat) (aR_spreads : Nat) (aR_isSeen : Nat) (aR_estimates : Nat) (aR_rest : Nat) (R_steps : Int32) (aR_order : Nat) (aR_joins : Nat) (aR_actsBehind : Nat) (aR_upTo : Nat) (R_filtersThen : Int32) (aR_behind : Nat) (R_rows : Int32) (aR_row : Nat) (aR_found : Nat) (R_comes : Int32) (aR_next : Nat) (aR_nextFound : Nat) (R_kept : Int32) (R_hasRoom : Int32) (aR_keep : Nat) (aR_isTaken : Nat) (R_of : Nat → Int32) {r : Int32} (hf : f_JoinOrderModel_isOf n x1 x2 R_of = some r) : Met l yX7_isOf (.code yX7_isOf cX7_isOf 4 (some .boolean) :: GW) rm_f_JoinOrderModel_isOf (va_Pc [.ref aR, .int x1, .int x2] (xP D (xT cI cJ cZ) sz [(aR, .inr (7, [.int R_triples, .ref aR_facts, .int R_patterns, .ref aR_cells, .ref aR_told, .ref aR_of, .ref aR_hints, .int R_filters, .ref aR_looks, .ref aR_kinds, .ref aR_values, .ref aR_isSafe, .ref aR_sizes, .ref aR_spreads, .ref aR_isSeen, .ref aR_estimates, .ref aR_rest, .int R_steps, .ref aR_order, .ref aR_joins, .ref aR_actsBehind, .ref aR_upTo, .int R_filtersThen, .ref aR_behind, .int R_rows, .ref aR_row, .ref aR_found, .int R_comes, .ref aR_next, .ref aR_nextFound, .int R_kept, .int R_hasRoom, .ref aR_keep, .ref aR_isTaken])), (aR_of, .inl (cI, 8, .inl R_of))])) (va_Qi (fun r2 (_ : Nat → Nat) => r2 = r ∧ (r = 0 ∨ r = 1)) (bB D (xT cI cJ cZ) (fun _ => [(aR, .inr (7, [.int R_triples, .ref aR_facts, .int R_patterns, .ref aR_cells, .ref aR_told, .ref aR_of, .ref aR_hints, .int R_filters, .ref aR_looks, .ref aR_kinds, .ref aR_values, .ref aR_isSafe, .ref aR_sizes, .ref aR_spreads, .ref aR_isSeen, .ref aR_estimates, .ref aR_rest, .int R_steps, .ref aR_order, .ref aR_joins, .ref aR_actsBehind, .ref aR_upTo, .int R_filtersThen, .ref aR_behind, .int R_rows, .ref aR_row, .ref aR_found, .int R_comes, .ref aR_next, .ref aR_nextFound, .int R_kept, .int R_hasRoom, .ref aR_keep, .ref aR_isTaken])), (aR_of, .inl (cI, 8, .inl R_of))]) (va_A [(aR, .inr (7, [.int R_triples, .ref aR_facts, .int R_patterns, .ref aR_cells, .ref aR_told, .ref aR_of, .ref aR_hints, .int R_filters, .ref aR_looks, .ref aR_kinds, .ref aR_values, .ref aR_isSafe, .ref aR_sizes, .ref aR_spreads, .ref aR_isSeen, .ref aR_estimates, .ref aR_rest, .int R_steps, .ref aR_order, .ref aR_joins, .ref aR_actsBehind, .ref aR_upTo, .int R_filtersThen, .ref aR_behind, .int R_rows, .ref aR_row, .ref aR_found, .int R_comes, .ref aR_next, .ref aR_nextFound, .int R_kept, .int R_hasRoom, .ref aR_keep, .ref aR_isTaken])), (aR_of, .inl (cI, 8, .inl R_of))] sz)) (va_A [(aR, .inr (7, [.int R_triples, .ref aR_facts, .int R_patterns, .ref aR_cells, .ref aR_told, .ref aR_of, .ref aR_hints, .int R_filters, .ref aR_looks, .ref aR_kinds, .ref aR_values, .ref aR_isSafe, .ref aR_sizes, .ref aR_spreads, .ref aR_isSeen, .ref aR_estimates, .ref aR_rest, .int R_steps, .ref aR_order, .ref aR_joins, .ref aR_actsBehind, .ref aR_upTo, .int R_filtersThen, .ref aR_behind, .int R_rows, .ref aR_row, .ref aR_found, .int R_comes, .ref aR_next, .ref aR_nextFound, .int R_kept, .int R_hasRoom, .ref aR_keep, .ref aR_isTaken])), (aR_of, .inl (cI, 8, .inl R_of))] sz)) 0 0 (va_A [(aR, .inr (7, [.int R_triples, .ref aR_facts, .int R_patterns, .ref aR_cells, .ref aR_told, .ref aR_of, .ref aR_hints, .int R_filters, .ref aR_looks, .ref aR_kinds, .ref aR_values, .ref aR_isSafe, .ref aR_sizes, .ref aR_spreads, .ref aR_isSeen, .ref aR_estimates, .ref aR_rest, .int R_steps, .ref aR_order, .ref aR_joins, .ref aR_actsBehind, .ref aR_upTo, .int R_filtersThen, .ref aR_behind, .int R_rows, .ref aR_row, .ref aR_found, .int R_comes, .ref aR_next, .ref aR_nextFound, .int R_kept, .int R_hasRoom, .ref aR_keep, .ref aR_isTaken])), (aR_of, .inl (cI, 8, .inl R_of))] sz) := by
  refine con_start (y := yX7_isOf) (bytes := cX7_isOf) (maxL := 4) (av := [.ref aR, .int x1, .int x2]) (Qc := fun A => va_Qi (fun r2 (_ : Nat → Nat) => r2 = r ∧ (r = 0 ∨ r = 1)) (bB D (xT cI cJ cZ) (fun _ => [(aR, .inr (7, [.int R_triples, .ref aR_facts, .int R_patterns, .ref aR_cells, .ref aR_told, .ref aR_of, .ref aR_hints, .int R_filters, .ref aR_looks, .ref aR_kinds, .ref aR_values, .ref aR_isSafe, .ref aR_sizes, .ref aR_spreads, .ref aR_isSeen, .ref aR_estimates, .ref aR_rest, .int R_steps, .ref aR_order, .ref aR_joins, .ref aR_actsBehind, .ref aR_upTo, .int R_filtersThen, .ref aR_behind, .int R_rows, .ref aR_row, .ref aR_found, .int R_comes, .ref aR_next, .ref aR_nextFound, .int R_kept, .int R_hasRoom, .ref aR_keep, .ref aR_isTaken])), (aR_of, .inl (cI, 8, .inl R_of))]) A) A) (by decide) (Nat.le_of_ble_eq_true rfl) ?_
  intro p e s m args below meth c Q A hx hb hr hlk hml hown hin htg hN hK hQ hA hP hD hS ls hl
  have hl : lv_has ls 4 [(0, .ref aR), (1, .int x1), (2, .int x2)] := hl
  have hown : s.vm.findClass RX7 = some m.cls := hown
  have hf := (f_JoinOrderModel_isOf_u n x1 x2 R_of).symm.trans hf
  refine lv_aload_n hx hb dX7_isOf_0 rfl (lv_at hl 0 rfl) ?_
  refine va_get (D := D) (ci := 7) (v := .ref aR_of) (C := RX7) (T := TX7) (N := 34) hx hb htg giX7 hown hK hP 0 rfl rfl 5 (by decide) (htg _ kw_568) (fun _ h9 => h9) rfl dX7_isOf_1 ?_
  refine lv_iload_n hx hb dX7_isOf_4 rfl (lv_at hl 1 rfl) ?_
  have g_1 : vp_in x1 8 := gd_in hf
  have hf := gd_el hf
  refine va_iald hx hb hK hP 1 0 rfl rfl g_1 dX7_isOf_5 ?_
  refine lv_topi (fun x3_2 ex3_2 => ?_)
  have hf := nm_nm ex3_2 hf
  refine lv_istore_n (lv' := [(3, .int x3_2), (0, .ref aR), (1, .int x1), (2, .int x2)]) hx hb dX7_isOf_6 rfl hl (by decide) rfl (fun ls hl => ?_)
  have L_7_12 : ∀ (k : Nat) (x3_13 : Int32) (o_12 : Int32), f_JoinOrderModel_isOf_L0 n x2 R_of k x3_13 = some o_12 → ∀ (H : Heap) (locs : List Loc), va_P D vwCl [(aR, .inr (7, [.int R_triples, .ref aR_facts, .int R_patterns, .ref aR_cells, .ref aR_told, .ref aR_of, .ref aR_hints, .int R_filters, .ref aR_looks, .ref aR_kinds, .ref aR_values, .ref aR_isSafe, .ref aR_sizes, .ref aR_spreads, .ref aR_isSeen, .ref aR_estimates, .ref aR_rest, .int R_steps, .ref aR_order, .ref aR_joins, .ref aR_actsBehind, .ref aR_upTo, .int R_filtersThen, .ref aR_behind, .int R_rows, .ref aR_row, .ref aR_found, .int R_comes, .ref aR_next, .ref aR_nextFound, .int R_kept, .int R_hasRoom, .ref aR_keep, .ref aR_isTaken])), (aR_of, .inl (cI, 8, .inl R_of))] H → va_D A [(aR, .inr (7, [.int R_triples, .ref aR_facts, .int R_patterns, .ref aR_cells, .ref aR_told, .ref aR_of, .ref aR_hints, .int R_filters, .ref aR_looks, .ref aR_kinds, .ref aR_values, .ref aR_isSafe, .ref aR_sizes, .ref aR_spreads, .ref aR_isSeen, .ref aR_estimates, .ref aR_rest, .int R_steps, .ref aR_order, .ref aR_joins, .ref aR_actsBehind, .ref aR_upTo, .int R_filtersThen, .ref aR_behind, .int R_rows, .ref aR_row, .ref aR_found, .int R_comes, .ref aR_next, .ref aR_nextFound, .int R_kept, .int R_hasRoom, .ref aR_keep, .ref aR_isTaken])), (aR_of, .inl (cI, 8, .inl R_of))] → va_S A s.heap H locs → ∀ ls : Array Slot, lv_has ls 4 [(0, .ref aR), (2, .int x2), (3, .int x3_13)] → (∀ (x3_14 : Int32), some (x3_14) = some o_12 → ∀ (H : Heap) (locs : List Loc), va_P D vwCl [(aR, .inr (7, [.int R_triples, .ref aR_facts, .int R_patterns, .ref aR_cells, .ref aR_told, .ref aR_of, .ref aR_hints, .int R_filters, .ref aR_looks, .ref aR_kinds, .ref aR_values, .ref aR_isSafe, .ref aR_sizes, .ref aR_spreads, .ref aR_isSeen, .ref aR_estimates, .ref aR_rest, .int R_steps, .ref aR_order, .ref aR_joins, .ref aR_actsBehind, .ref aR_upTo, .int R_filtersThen, .ref aR_behind, .int R_rows, .ref aR_row, .ref aR_found, .int R_comes, .ref aR_next, .ref aR_nextFound, .int R_kept, .int R_hasRoom, .ref aR_keep, .ref aR_isTaken])), (aR_of, .inl (cI, 8, .inl R_of))] H → va_D A [(aR, .inr (7, [.int R_triples, .ref aR_facts, .int R_patterns, .ref aR_cells, .ref aR_told, .ref aR_of, .ref aR_hints, .int R_filters, .ref aR_looks, .ref aR_kinds, .ref aR_values, .ref aR_isSafe, .ref aR_sizes, .ref aR_spreads, .ref aR_isSeen, .ref aR_estimates, .ref aR_rest, .int R_steps, .ref aR_order, .ref aR_joins, .ref aR_actsBehind, .ref aR_upTo, .int R_filtersThen, .ref aR_behind, .int R_rows, .ref aR_row, .ref aR_found, .int R_comes, .ref aR_next, .ref aR_nextFound, .int R_kept, .int R_hasRoom, .ref aR_keep, .ref aR_isTaken])), (aR_of, .inl (cI, 8, .inl R_of))] → va_S A s.heap H locs → ∀ ls : Array Slot, lv_has ls 4 [(2, .int x2), (3, .int x3_14)] → W p l e rm_f_JoinOrderModel_isOf s m args below meth c H locs 0 0 Q (F0 m 27 ls [])) → W p l e rm_f_JoinOrderModel_isOf s m args below meth c H locs 0 0 Q (F0 m 7 ls []) := by
    intro k
    induction k with
    | zero =>
      intro x3_13 o_12 hf
      exact absurd (((f_JoinOrderModel_isOf_L0_z n x2 R_of x3_13).symm.trans hf)) (fun h => by cases h)
    | succ k ih =>
      intro x3_13 o_12 hf H locs hP hD hS ls hl hX_12
      have hf := (f_JoinOrderModel_isOf_L0_s n x2 R_of k x3_13).symm.trans hf
      refine lv_iload_n hx hb dX7_isOf_7 rfl (lv_at hl 2 rfl) ?_
      refine lv_iconst (v := (-1 : Int32)) hx hb dX7_isOf_8 (by decide) ?_
      refine lv_icmp_eq (tgt := 27) hx hb dX7_isOf_9 (by decide) (fun c_15 => ?_) (fun c_15 => ?_)
      · have hf := xb_t c_15 hf
        exact hX_12 x3_13 hf _ _ hP hD hS _ (lv_sub hl [1, 2] rfl)
      · have hf := xb_f c_15 hf
        refine lv_iload_n hx hb dX7_isOf_12 rfl (lv_at hl 2 rfl) ?_
        refine lv_iload_n hx hb dX7_isOf_13 rfl (lv_at hl 1 rfl) ?_
        refine lv_icmp_eq (tgt := 27) hx hb dX7_isOf_14 (by decide) (fun c_16 => ?_) (fun c_16 => ?_)
        · have hf := xb_t c_16 hf
          exact hX_12 x3_13 hf _ _ hP hD hS _ (lv_sub hl [1, 2] rfl)
        · have hf := xb_f c_16 hf
          refine lv_aload_n hx hb dX7_isOf_17 rfl (lv_at hl 0 rfl) ?_
          refine va_get (D := D) (ci := 7) (v := .ref aR_of) (C := RX7) (T := TX7) (N := 34) hx hb htg giX7 hown hK hP 0 rfl rfl 5 (by decide) (htg _ kw_568) (fun _ h9 => h9) rfl dX7_isOf_18 ?_
          refine lv_iload_n hx hb dX7_isOf_21 rfl (lv_at hl 2 rfl) ?_
          have g_17 : vp_in x3_13 8 := gd_in hf
          have hf := gd_el hf
          refine va_iald hx hb hK hP 1 0 rfl rfl g_17 dX7_isOf_22 ?_
          refine lv_topi (fun x3_18 ex3_18 => ?_)
          have hf := nm_nm ex3_18 hf
          refine lv_istore_n (lv' := [(3, .int x3_18), (0, .ref aR), (2, .int x2)]) hx hb dX7_isOf_23 rfl hl (by decide) rfl (fun ls hl => ?_)
          refine lv_goto (tgt := 7) hx hb dX7_isOf_24 (by decide) ?_
          exact ih x3_18 o_12 hf _ _ hP hD hS _ (lv_sub hl [1, 2, 0] rfl) hX_12
  obtain ⟨o_12, ho_12, hk_12⟩ := bn1_s hf
  refine L_7_12 n x3_2 o_12 ho_12 _ _ hP hD hS _ (lv_sub hl [1, 3, 0] rfl) (fun x3_14 hf H locs hP hD hS ls hl => ?_)
  have hf := hk_12 _ hf
  refine lv_iload_n hx hb dX7_isOf_27 rfl (lv_at hl 1 rfl) ?_
  refine lv_iload_n hx hb dX7_isOf_28 rfl (lv_at hl 0 rfl) ?_
  refine lv_icmp_ne (tgt := 36) hx hb dX7_isOf_29 (by decide) (fun c_19 => ?_) (fun c_19 => ?_)
  · have hf := xb_f c_19 hf
    refine lv_iconst (v := (0 : Int32)) hx hb dX7_isOf_36 (by decide) ?_
    have hf := Option.some.inj hf
    subst hf
    exact x_zret (fun _ => 0) hQ hx hb hr hlk (by decide) hK hP hD hS dX7_isOf_37
  · have hf := xb_t c_19 hf
    refine lv_iconst (v := (1 : Int32)) hx hb dX7_isOf_32 (by decide) ?_
    refine lv_goto (tgt := 37) hx hb dX7_isOf_33 (by decide) ?_
    have hf := Option.some.inj hf
    subst hf
    exact x_zret (fun _ => 0) hQ hx hb hr hlk (by decide) hK hP hD hS dX7_isOf_37
