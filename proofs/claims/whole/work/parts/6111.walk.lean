abbrev rm_f_JoinOrderModel_isAlike : Room := { frames := 0, cells := 0, slots := 0, locals := 0 }
set_option maxHeartbeats 4000000 in
set_option maxRecDepth 100000 in
theorem c_f_JoinOrderModel_isAlike (l : Launch) (D : va_G) (cI cJ cZ : ClassId) (sz : Nat) (n : Nat) (aR : Nat) (x1 : Int32) (x2 : Int32) (R_triples : Int32) (aR_facts : Nat) (R_patterns : Int32) (aR_cells : Nat) (aR_told : Nat) (aR_of : Nat) (aR_hints : Nat) (R_filters : Int32) (aR_looks : Nat) (aR_kinds : Nat) (aR_values : Nat) (aR_isSafe : Nat) (aR_sizes : Nat) (aR_spreads : Nat) (aR_isSeen : Nat) (aR_estimates : Nat) (aR_rest : Nat) (R_steps : Int32) (aR_order : Nat) (aR_joins : Nat) (aR_actsBehind : Nat) (aR_upTo : Nat) (R_filtersThen : Int32) (aR_behind : Nat) (R_rows : Int32) (aR_row : Nat) (aR_found : Nat) (R_comes : Int32) (aR_next : Nat) (aR_nextFound : Nat) (R_kept : Int32) (R_hasRoom : Int32) (aR_keep : Nat) (aR_isTaken : Nat) (R_row : Nat → Int32) (R_keep : Nat → Int32) {r : Int32} (hf : f_JoinOrderModel_isAlike n x1 x2 R_row R_keep = some r) : Met l yX7_isAlike (.code yX7_isAlike cX7_isAlike 5 (some .boolean) :: GW) rm_f_JoinOrderModel_isAlike (va_Pc [.ref aR, .int x1, .int x2] (xP D (xT cI cJ cZ) sz [(aR, .inr (7, [.int R_triples, .ref aR_facts, .int R_patterns, .ref aR_cells, .ref aR_told, .ref aR_of, .ref aR_hints, .int R_filters, .ref aR_looks, .ref aR_kinds, .ref aR_values, .ref aR_isSafe, .ref aR_sizes, .ref aR_spreads, .ref aR_isSeen, .ref aR_estimates, .ref aR_rest, .int R_steps, .ref aR_order, .ref aR_joins, .ref aR_actsBehind, .ref aR_upTo, .int R_filtersThen, .ref aR_behind, .int R_rows, .ref aR_row, .ref aR_found, .int R_comes, .ref aR_next, .ref aR_nextFound, .int R_kept, .int R_hasRoom, .ref aR_keep, .ref aR_isTaken])), (aR_row, .inl (cI, 4008, .inl R_row)), (aR_keep, .inl (cI, 4008, .inl R_keep))])) (va_Qi (fun r2 (_ : Nat → Nat) => r2 = r ∧ (r = 0 ∨ r = 1)) (bB D (xT cI cJ cZ) (fun _ => [(aR, .inr (7, [.int R_triples, .ref aR_facts, .int R_patterns, .ref aR_cells, .ref aR_told, .ref aR_of, .ref aR_hints, .int R_filters, .ref aR_looks, .ref aR_kinds, .ref aR_values, .ref aR_isSafe, .ref aR_sizes, .ref aR_spreads, .ref aR_isSeen, .ref aR_estimates, .ref aR_rest, .int R_steps, .ref aR_order, .ref aR_joins, .ref aR_actsBehind, .ref aR_upTo, .int R_filtersThen, .ref aR_behind, .int R_rows, .ref aR_row, .ref aR_found, .int R_comes, .ref aR_next, .ref aR_nextFound, .int R_kept, .int R_hasRoom, .ref aR_keep, .ref aR_isTaken])), (aR_row, .inl (cI, 4008, .inl R_row)), (aR_keep, .inl (cI, 4008, .inl R_keep))]) (va_A [(aR, .inr (7, [.int R_triples, .ref aR_facts, .int R_patterns, .ref aR_cells, .ref aR_told, .ref aR_of, .ref aR_hints, .int R_filters, .ref aR_looks, .ref aR_kinds, .ref aR_values, .ref aR_isSafe, .ref aR_sizes, .ref aR_spreads, .ref aR_isSeen, .ref aR_estimates, .ref aR_rest, .int R_steps, .ref aR_order, .ref aR_joins, .ref aR_actsBehind, .ref aR_upTo, .int R_filtersThen, .ref aR_behind, .int R_rows, .ref aR_row, .ref aR_found, .int R_comes, .ref aR_next, .ref aR_nextFound, .int R_kept, .int R_hasRoom, .ref aR_keep, .ref aR_isTaken])), (aR_row, .inl (cI, 4008, .inl R_row)), (aR_keep, .inl (cI, 4008, .inl R_keep))] sz)) (va_A [(aR, .inr (7, [.int R_triples, .ref aR_facts, .int R_patterns, .ref aR_cells, .ref aR_told, .ref aR_of, .ref aR_hints, .int R_filters, .ref aR_looks, .ref aR_kinds, .ref aR_values, .ref aR_isSafe, .ref aR_sizes, .ref aR_spreads, .ref aR_isSeen, .ref aR_estimates, .ref aR_rest, .int R_steps, .ref aR_order, .ref aR_joins, .ref aR_actsBehind, .ref aR_upTo, .int R_filtersThen, .ref aR_behind, .int R_rows, .ref aR_row, .ref aR_found, .int R_comes, .ref aR_next, .ref aR_nextFound, .int R_kept, .int R_hasRoom, .ref aR_keep, .ref aR_isTaken])), (aR_row, .inl (cI, 4008, .inl R_row)), (aR_keep, .inl (cI, 4008, .inl R_keep))] sz)) 0 0 (va_A [(aR, .inr (7, [.int R_triples, .ref aR_facts, .int R_patterns, .ref aR_cells, .ref aR_told, .ref aR_of, .ref aR_hints, .int R_filters, .ref aR_looks, .ref aR_kinds, .ref aR_values, .ref aR_isSafe, .ref aR_sizes, .ref aR_spreads, .ref aR_isSeen, .ref aR_estimates, .ref aR_rest, .int R_steps, .ref aR_order, .ref aR_joins, .ref aR_actsBehind, .ref aR_upTo, .int R_filtersThen, .ref aR_behind, .int R_rows, .ref aR_row, .ref aR_found, .int R_comes, .ref aR_next, .ref aR_nextFound, .int R_kept, .int R_hasRoom, .ref aR_keep, .ref aR_isTaken])), (aR_row, .inl (cI, 4008, .inl R_row)), (aR_keep, .inl (cI, 4008, .inl R_keep))] sz) := by
  refine con_start (y := yX7_isAlike) (bytes := cX7_isAlike) (maxL := 5) (av := [.ref aR, .int x1, .int x2]) (Qc := fun A => va_Qi (fun r2 (_ : Nat → Nat) => r2 = r ∧ (r = 0 ∨ r = 1)) (bB D (xT cI cJ cZ) (fun _ => [(aR, .inr (7, [.int R_triples, .ref aR_facts, .int R_patterns, .ref aR_cells, .ref aR_told, .ref aR_of, .ref aR_hints, .int R_filters, .ref aR_looks, .ref aR_kinds, .ref aR_values, .ref aR_isSafe, .ref aR_sizes, .ref aR_spreads, .ref aR_isSeen, .ref aR_estimates, .ref aR_rest, .int R_steps, .ref aR_order, .ref aR_joins, .ref aR_actsBehind, .ref aR_upTo, .int R_filtersThen, .ref aR_behind, .int R_rows, .ref aR_row, .ref aR_found, .int R_comes, .ref aR_next, .ref aR_nextFound, .int R_kept, .int R_hasRoom, .ref aR_keep, .ref aR_isTaken])), (aR_row, .inl (cI, 4008, .inl R_row)), (aR_keep, .inl (cI, 4008, .inl R_keep))]) A) A) (by decide) (Nat.le_of_ble_eq_true rfl) ?_
  intro p e s m args below meth c Q A hx hb hr hlk hml hown hin htg hN hK hQ hA hP hD hS ls hl
  have hl : lv_has ls 5 [(0, .ref aR), (1, .int x1), (2, .int x2)] := hl
  have hown : s.vm.findClass RX7 = some m.cls := hown
  have hf := (f_JoinOrderModel_isAlike_u n x1 x2 R_row R_keep).symm.trans hf
  refine lv_iconst (v := (1 : Int32)) hx hb dX7_isAlike_0 (by decide) ?_
  refine lv_istore_n (lv' := [(3, .int (1 : Int32)), (0, .ref aR), (1, .int x1), (2, .int x2)]) hx hb dX7_isAlike_1 rfl hl (by decide) rfl (fun ls hl => ?_)
  refine lv_iconst (v := (0 : Int32)) hx hb dX7_isAlike_2 (by decide) ?_
  refine lv_istore (lv' := [(4, .int (0 : Int32)), (3, .int (1 : Int32)), (0, .ref aR), (1, .int x1), (2, .int x2)]) hx hb dX7_isAlike_3 hl (by decide) rfl (fun ls hl => ?_)
  have L_5_19 : ∀ (k : Nat) (x3_20 : Int32) (x4_21 : Int32) (o_19 : Int32), f_JoinOrderModel_isAlike_L0 n x1 x2 R_row R_keep k x3_20 x4_21 = some o_19 → ∀ (H : Heap) (locs : List Loc), va_P D vwCl [(aR, .inr (7, [.int R_triples, .ref aR_facts, .int R_patterns, .ref aR_cells, .ref aR_told, .ref aR_of, .ref aR_hints, .int R_filters, .ref aR_looks, .ref aR_kinds, .ref aR_values, .ref aR_isSafe, .ref aR_sizes, .ref aR_spreads, .ref aR_isSeen, .ref aR_estimates, .ref aR_rest, .int R_steps, .ref aR_order, .ref aR_joins, .ref aR_actsBehind, .ref aR_upTo, .int R_filtersThen, .ref aR_behind, .int R_rows, .ref aR_row, .ref aR_found, .int R_comes, .ref aR_next, .ref aR_nextFound, .int R_kept, .int R_hasRoom, .ref aR_keep, .ref aR_isTaken])), (aR_row, .inl (cI, 4008, .inl R_row)), (aR_keep, .inl (cI, 4008, .inl R_keep))] H → va_D A [(aR, .inr (7, [.int R_triples, .ref aR_facts, .int R_patterns, .ref aR_cells, .ref aR_told, .ref aR_of, .ref aR_hints, .int R_filters, .ref aR_looks, .ref aR_kinds, .ref aR_values, .ref aR_isSafe, .ref aR_sizes, .ref aR_spreads, .ref aR_isSeen, .ref aR_estimates, .ref aR_rest, .int R_steps, .ref aR_order, .ref aR_joins, .ref aR_actsBehind, .ref aR_upTo, .int R_filtersThen, .ref aR_behind, .int R_rows, .ref aR_row, .ref aR_found, .int R_comes, .ref aR_next, .ref aR_nextFound, .int R_kept, .int R_hasRoom, .ref aR_keep, .ref aR_isTaken])), (aR_row, .inl (cI, 4008, .inl R_row)), (aR_keep, .inl (cI, 4008, .inl R_keep))] → va_S A s.heap H locs → ∀ ls : Array Slot, lv_has ls 5 [(0, .ref aR), (1, .int x1), (2, .int x2), (3, .int x3_20), (4, .int x4_21)] → (∀ (x3_22 : Int32), some (x3_22) = some o_19 → ∀ (H : Heap) (locs : List Loc), va_P D vwCl [(aR, .inr (7, [.int R_triples, .ref aR_facts, .int R_patterns, .ref aR_cells, .ref aR_told, .ref aR_of, .ref aR_hints, .int R_filters, .ref aR_looks, .ref aR_kinds, .ref aR_values, .ref aR_isSafe, .ref aR_sizes, .ref aR_spreads, .ref aR_isSeen, .ref aR_estimates, .ref aR_rest, .int R_steps, .ref aR_order, .ref aR_joins, .ref aR_actsBehind, .ref aR_upTo, .int R_filtersThen, .ref aR_behind, .int R_rows, .ref aR_row, .ref aR_found, .int R_comes, .ref aR_next, .ref aR_nextFound, .int R_kept, .int R_hasRoom, .ref aR_keep, .ref aR_isTaken])), (aR_row, .inl (cI, 4008, .inl R_row)), (aR_keep, .inl (cI, 4008, .inl R_keep))] H → va_D A [(aR, .inr (7, [.int R_triples, .ref aR_facts, .int R_patterns, .ref aR_cells, .ref aR_told, .ref aR_of, .ref aR_hints, .int R_filters, .ref aR_looks, .ref aR_kinds, .ref aR_values, .ref aR_isSafe, .ref aR_sizes, .ref aR_spreads, .ref aR_isSeen, .ref aR_estimates, .ref aR_rest, .int R_steps, .ref aR_order, .ref aR_joins, .ref aR_actsBehind, .ref aR_upTo, .int R_filtersThen, .ref aR_behind, .int R_rows, .ref aR_row, .ref aR_found, .int R_comes, .ref aR_next, .ref aR_nextFound, .int R_kept, .int R_hasRoom, .ref aR_keep, .ref aR_isTaken])), (aR_row, .inl (cI, 4008, .inl R_row)), (aR_keep, .inl (cI, 4008, .inl R_keep))] → va_S A s.heap H locs → ∀ ls : Array Slot, lv_has ls 5 [(3, .int x3_22)] → W p l e rm_f_JoinOrderModel_isAlike s m args below meth c H locs 0 0 Q (F0 m 55 ls [])) → W p l e rm_f_JoinOrderModel_isAlike s m args below meth c H locs 0 0 Q (F0 m 5 ls []) := by
    intro k
    induction k with
    | zero =>
      intro x3_20 x4_21 o_19 hf
      exact absurd (((f_JoinOrderModel_isAlike_L0_z n x1 x2 R_row R_keep x3_20 x4_21).symm.trans hf)) (fun h => by cases h)
    | succ k ih =>
      intro x3_20 x4_21 o_19 hf H locs hP hD hS ls hl hX_19
      have hf := (f_JoinOrderModel_isAlike_L0_s n x1 x2 R_row R_keep k x3_20 x4_21).symm.trans hf
      refine lv_iload hx hb dX7_isAlike_5 (lv_at hl 4 rfl) ?_
      refine lv_bipush (v := (8 : Int32)) hx hb dX7_isAlike_7 (by decide) ?_
      refine lv_icmp_ge (tgt := 55) hx hb dX7_isAlike_9 (by decide) (fun c_23 => ?_) (fun c_23 => ?_)
      · have hf := xb_t c_23 hf
        exact hX_19 x3_20 hf _ _ hP hD hS _ (lv_sub hl [3] rfl)
      · have hf := xb_f c_23 hf
        refine lv_iload_n hx hb dX7_isAlike_12 rfl (lv_at hl 3 rfl) ?_
        refine lv_if_eq (tgt := 47) hx hb dX7_isAlike_13 (by decide) (fun c_24 => ?_) (fun c_24 => ?_)
        · have hf := xb_t c_24 hf
          refine lv_iconst (v := (0 : Int32)) hx hb dX7_isAlike_47 (by decide) ?_
          refine lv_istore_n (lv' := [(3, .int (0 : Int32)), (0, .ref aR), (1, .int x1), (2, .int x2), (4, .int x4_21)]) hx hb dX7_isAlike_48 rfl hl (by decide) rfl (fun ls hl => ?_)
          obtain ⟨x4_25, ex4_25⟩ : ∃ y : Int32, y = x4_21 + (1 : Int32) := ⟨_, rfl⟩
          have hf := nm_nm ex4_25 hf
          refine lv_iinc (v := x4_25) (lv' := [(4, .int x4_25), (3, .int (0 : Int32)), (0, .ref aR), (1, .int x1), (2, .int x2)]) hx hb dX7_isAlike_49 hl (k := 4) rfl (by rw [ex4_25]; rfl) (by decide) rfl (fun ls hl => ?_)
          refine lv_goto (tgt := 5) hx hb dX7_isAlike_52 (by decide) ?_
          exact ih (0 : Int32) x4_25 o_19 hf _ _ hP hD hS _ (lv_sub hl [2, 3, 4, 1, 0] rfl) hX_19
        · have hf := xb_f c_24 hf
          refine lv_aload_n hx hb dX7_isAlike_16 rfl (lv_at hl 0 rfl) ?_
          refine va_get (D := D) (ci := 7) (v := .ref aR_row) (C := RX7) (T := TX7) (N := 34) hx hb htg giX7 hown hK hP 0 rfl rfl 25 (by decide) (htg _ kw_588) (fun _ h9 => h9) rfl dX7_isAlike_17 ?_
          refine lv_bipush (v := (8 : Int32)) hx hb dX7_isAlike_20 (by decide) ?_
          refine lv_iload_n hx hb dX7_isAlike_22 rfl (lv_at hl 1 rfl) ?_
          refine lv_imul hx hb dX7_isAlike_23 ?_
          refine lv_iload hx hb dX7_isAlike_24 (lv_at hl 4 rfl) ?_
          refine lv_iadd hx hb dX7_isAlike_26 ?_
          have g_26 : vp_in (((8 : Int32) * x1) + x4_21) 4008 := gd_in hf
          have hf := gd_el hf
          refine va_iald hx hb hK hP 1 0 rfl rfl g_26 dX7_isAlike_27 ?_
          refine lv_aload_n hx hb dX7_isAlike_28 rfl (lv_at hl 0 rfl) ?_
          refine va_get (D := D) (ci := 7) (v := .ref aR_keep) (C := RX7) (T := TX7) (N := 34) hx hb htg giX7 hown hK hP 0 rfl rfl 32 (by decide) (htg _ kw_595) (fun _ h9 => h9) rfl dX7_isAlike_29 ?_
          refine lv_bipush (v := (8 : Int32)) hx hb dX7_isAlike_32 (by decide) ?_
          refine lv_iload_n hx hb dX7_isAlike_34 rfl (lv_at hl 2 rfl) ?_
          refine lv_imul hx hb dX7_isAlike_35 ?_
          refine lv_iload hx hb dX7_isAlike_36 (lv_at hl 4 rfl) ?_
          refine lv_iadd hx hb dX7_isAlike_38 ?_
          have g_27 : vp_in (((8 : Int32) * x2) + x4_21) 4008 := gd_in hf
          have hf := gd_el hf
          refine va_iald hx hb hK hP 2 0 rfl rfl g_27 dX7_isAlike_39 ?_
          refine lv_icmp_ne (tgt := 47) hx hb dX7_isAlike_40 (by decide) (fun c_28 => ?_) (fun c_28 => ?_)
          · have hf := xb_f c_28 hf
            refine lv_iconst (v := (0 : Int32)) hx hb dX7_isAlike_47 (by decide) ?_
            refine lv_istore_n (lv' := [(3, .int (0 : Int32)), (0, .ref aR), (1, .int x1), (2, .int x2), (4, .int x4_21)]) hx hb dX7_isAlike_48 rfl hl (by decide) rfl (fun ls hl => ?_)
            obtain ⟨x4_29, ex4_29⟩ : ∃ y : Int32, y = x4_21 + (1 : Int32) := ⟨_, rfl⟩
            have hf := nm_nm ex4_29 hf
            refine lv_iinc (v := x4_29) (lv' := [(4, .int x4_29), (3, .int (0 : Int32)), (0, .ref aR), (1, .int x1), (2, .int x2)]) hx hb dX7_isAlike_49 hl (k := 4) rfl (by rw [ex4_29]; rfl) (by decide) rfl (fun ls hl => ?_)
            refine lv_goto (tgt := 5) hx hb dX7_isAlike_52 (by decide) ?_
            exact ih (0 : Int32) x4_29 o_19 hf _ _ hP hD hS _ (lv_sub hl [2, 3, 4, 1, 0] rfl) hX_19
          · have hf := xb_t c_28 hf
            refine lv_iconst (v := (1 : Int32)) hx hb dX7_isAlike_43 (by decide) ?_
            refine lv_goto (tgt := 48) hx hb dX7_isAlike_44 (by decide) ?_
            refine lv_istore_n (lv' := [(3, .int (1 : Int32)), (0, .ref aR), (1, .int x1), (2, .int x2), (4, .int x4_21)]) hx hb dX7_isAlike_48 rfl hl (by decide) rfl (fun ls hl => ?_)
            obtain ⟨x4_30, ex4_30⟩ : ∃ y : Int32, y = x4_21 + (1 : Int32) := ⟨_, rfl⟩
            have hf := nm_nm ex4_30 hf
            refine lv_iinc (v := x4_30) (lv' := [(4, .int x4_30), (3, .int (1 : Int32)), (0, .ref aR), (1, .int x1), (2, .int x2)]) hx hb dX7_isAlike_49 hl (k := 4) rfl (by rw [ex4_30]; rfl) (by decide) rfl (fun ls hl => ?_)
            refine lv_goto (tgt := 5) hx hb dX7_isAlike_52 (by decide) ?_
            exact ih (1 : Int32) x4_30 o_19 hf _ _ hP hD hS _ (lv_sub hl [2, 3, 4, 1, 0] rfl) hX_19
  obtain ⟨o_19, ho_19, hk_19⟩ := bn1_s hf
  refine L_5_19 n (1 : Int32) (0 : Int32) o_19 ho_19 _ _ hP hD hS _ (lv_sub hl [2, 3, 4, 1, 0] rfl) (fun x3_22 hf H locs hP hD hS ls hl => ?_)
  have hf := hk_19 _ hf
  refine lv_iload_n hx hb dX7_isAlike_55 rfl (lv_at hl 0 rfl) ?_
  have gb_31 := gb_in hf
  have hf := gb_el hf
  have hf := Option.some.inj hf
  subst hf
  exact x_zret (fun _ => 0) hQ hx hb hr hlk gb_31 hK hP hD hS dX7_isAlike_56
