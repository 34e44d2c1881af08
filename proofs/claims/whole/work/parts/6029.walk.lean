abbrev rm_f_JoinOrderModel_isHinted : Room := { frames := 0, cells := 0, slots := 0, locals := 0 }
set_option maxHeartbeats 4000000 in
set_option maxRecDepth 100000 in
theorem c_f_JoinOrderModel_isHinted (l : Launch) (D : va_G) (cI cJ cZ : ClassId) (sz : Nat) (n : Nat) (aR : Nat) (x1 : Int32) (R_triples : Int32) (aR_facts : Nat) (R_patterns : Int32) (aR_cells : Nat) (aR_told : Nat) (aR_of : Nat) (aR_hints : Nat) (R_filters : Int32) (aR_looks : Nat) (aR_kinds : Nat) (aR_values : Nat) (aR_isSafe : Nat) (aR_sizes : Nat) (aR_spreads : Nat) (aR_isSeen : Nat) (aR_estimates : Nat) (aR_rest : Nat) (R_steps : Int32) (aR_order : Nat) (aR_joins : Nat) (aR_actsBehind : Nat) (aR_upTo : Nat) (R_filtersThen : Int32) (aR_behind : Nat) (R_rows : Int32) (aR_row : Nat) (aR_found : Nat) (R_comes : Int32) (aR_next : Nat) (aR_nextFound : Nat) (R_kept : Int32) (R_hasRoom : Int32) (aR_keep : Nat) (aR_isTaken : Nat) (R_hints : Nat → Int32) {r : Int32} (hf : f_JoinOrderModel_isHinted n x1 R_hints = some r) : Met l yX7_isHinted (.code yX7_isHinted cX7_isHinted 4 (some .boolean) :: GW) rm_f_JoinOrderModel_isHinted (va_Pc [.ref aR, .int x1] (xP D (xT cI cJ cZ) sz [(aR, .inr (7, [.int R_triples, .ref aR_facts, .int R_patterns, .ref aR_cells, .ref aR_told, .ref aR_of, .ref aR_hints, .int R_filters, .ref aR_looks, .ref aR_kinds, .ref aR_values, .ref aR_isSafe, .ref aR_sizes, .ref aR_spreads, .ref aR_isSeen, .ref aR_estimates, .ref aR_rest, .int R_steps, .ref aR_order, .ref aR_joins, .ref aR_actsBehind, .ref aR_upTo, .int R_filtersThen, .ref aR_behind, .int R_rows, .ref aR_row, .ref aR_found, .int R_comes, .ref aR_next, .ref aR_nextFound, .int R_kept, .int R_hasRoom, .ref aR_keep, .ref aR_isTaken])), (aR_hints, .inl (cZ, 64, .inl R_hints))])) (va_Qi (fun r2 (_ : Nat → Nat) => r2 = r ∧ (r = 0 ∨ r = 1)) (bB D (xT cI cJ cZ) (fun _ => [(aR, .inr (7, [.int R_triples, .ref aR_facts, .int R_patterns, .ref aR_cells, .ref aR_told, .ref aR_of, .ref aR_hints, .int R_filters, .ref aR_looks, .ref aR_kinds, .ref aR_values, .ref aR_isSafe, .ref aR_sizes, .ref aR_spreads, .ref aR_isSeen, .ref aR_estimates, .ref aR_rest, .int R_steps, .ref aR_order, .ref aR_joins, .ref aR_actsBehind, .ref aR_upTo, .int R_filtersThen, .ref aR_behind, .int R_rows, .ref aR_row, .ref aR_found, .int R_comes, .ref aR_next, .ref aR_nextFound, .int R_kept, .int R_hasRoom, .ref aR_keep, .ref aR_isTaken])), (aR_hints, .inl (cZ, 64, .inl R_hints))]) (va_A [(aR, .inr (7, [.int R_triples, .ref aR_facts, .int R_patterns, .ref aR_cells, .ref aR_told, .ref aR_of, .ref aR_hints, .int R_filters, .ref aR_looks, .ref aR_kinds, .ref aR_values, .ref aR_isSafe, .ref aR_sizes, .ref aR_spreads, .ref aR_isSeen, .ref aR_estimates, .ref aR_rest, .int R_steps, .ref aR_order, .ref aR_joins, .ref aR_actsBehind, .ref aR_upTo, .int R_filtersThen, .ref aR_behind, .int R_rows, .ref aR_row, .ref aR_found, .int R_comes, .ref aR_next, .ref aR_nextFound, .int R_kept, .int R_hasRoom, .ref aR_keep, .ref aR_isTaken])), (aR_hints, .inl (cZ, 64, .inl R_hints))] sz)) (va_A [(aR, .inr (7, [.int R_triples, .ref aR_facts, .int R_patterns, .ref aR_cells, .ref aR_told, .ref aR_of, .ref aR_hints, .int R_filters, .ref aR_looks, .ref aR_kinds, .ref aR_values, .ref aR_isSafe, .ref aR_sizes, .ref aR_spreads, .ref aR_isSeen, .ref aR_estimates, .ref aR_rest, .int R_steps, .ref aR_order, .ref aR_joins, .ref aR_actsBehind, .ref aR_upTo, .int R_filtersThen, .ref aR_behind, .int R_rows, .ref aR_row, .ref aR_found, .int R_comes, .ref aR_next, .ref aR_nextFound, .int R_kept, .int R_hasRoom, .ref aR_keep, .ref aR_isTaken])), (aR_hints, .inl (cZ, 64, .inl R_hints))] sz)) 0 0 (va_A [(aR, .inr (7, [.int R_triples, .ref aR_facts, .int R_patterns, .ref aR_cells, .ref aR_told, .ref aR_of, .ref aR_hints, .int R_filters, .ref aR_looks, .ref aR_kinds, .ref aR_values, .ref aR_isSafe, .ref aR_sizes, .ref aR_spreads, .ref aR_isSeen, .ref aR_estimates, .ref aR_rest, .int R_steps, .ref aR_order, .ref aR_joins, .ref aR_actsBehind, .ref aR_upTo, .int R_filtersThen, .ref aR_behind, .int R_rows, .ref aR_row, .ref aR_found, .int R_comes, .ref aR_next, .ref aR_nextFound, .int R_kept, .int R_hasRoom, .ref aR_keep, .ref aR_isTaken])), (aR_hints, .inl (cZ, 64, .inl R_hints))] sz) := by
  refine con_start (y := yX7_isHinted) (bytes := cX7_isHinted) (maxL := 4) (av := [.ref aR, .int x1]) (Qc := fun A => va_Qi (fun r2 (_ : Nat → Nat) => r2 = r ∧ (r = 0 ∨ r = 1)) (bB D (xT cI cJ cZ) (fun _ => [(aR, .inr (7, [.int R_triples, .ref aR_facts, .int R_patterns, .ref aR_cells, .ref aR_told, .ref aR_of, .ref aR_hints, .int R_filters, .ref aR_looks, .ref aR_kinds, .ref aR_values, .ref aR_isSafe, .ref aR_sizes, .ref aR_spreads, .ref aR_isSeen, .ref aR_estimates, .ref aR_rest, .int R_steps, .ref aR_order, .ref aR_joins, .ref aR_actsBehind, .ref aR_upTo, .int R_filtersThen, .ref aR_behind, .int R_rows, .ref aR_row, .ref aR_found, .int R_comes, .ref aR_next, .ref aR_nextFound, .int R_kept, .int R_hasRoom, .ref aR_keep, .ref aR_isTaken])), (aR_hints, .inl (cZ, 64, .inl R_hints))]) A) A) (by decide) (Nat.le_of_ble_eq_true rfl) ?_
  intro p e s m args below meth c Q A hx hb hr hlk hml hown hin htg hN hK hQ hA hP hD hS ls hl
  have hl : lv_has ls 4 [(0, .ref aR), (1, .int x1)] := hl
  have hown : s.vm.findClass RX7 = some m.cls := hown
  have hf := (f_JoinOrderModel_isHinted_u n x1 R_hints).symm.trans hf
  refine lv_iconst (v := (0 : Int32)) hx hb dX7_isHinted_0 (by decide) ?_
  refine lv_istore_n (lv' := [(2, .int (0 : Int32)), (0, .ref aR), (1, .int x1)]) hx hb dX7_isHinted_1 rfl hl (by decide) rfl (fun ls hl => ?_)
  refine lv_iconst (v := (0 : Int32)) hx hb dX7_isHinted_2 (by decide) ?_
  refine lv_istore_n (lv' := [(3, .int (0 : Int32)), (2, .int (0 : Int32)), (0, .ref aR), (1, .int x1)]) hx hb dX7_isHinted_3 rfl hl (by decide) rfl (fun ls hl => ?_)
  have L_4_23 : ∀ (k : Nat) (x2_24 : Int32) (x3_25 : Int32) (o_23 : Int32), f_JoinOrderModel_isHinted_L0 n x1 R_hints k x2_24 x3_25 = some o_23 → ∀ (H : Heap) (locs : List Loc), va_P D vwCl [(aR, .inr (7, [.int R_triples, .ref aR_facts, .int R_patterns, .ref aR_cells, .ref aR_told, .ref aR_of, .ref aR_hints, .int R_filters, .ref aR_looks, .ref aR_kinds, .ref aR_values, .ref aR_isSafe, .ref aR_sizes, .ref aR_spreads, .ref aR_isSeen, .ref aR_estimates, .ref aR_rest, .int R_steps, .ref aR_order, .ref aR_joins, .ref aR_actsBehind, .ref aR_upTo, .int R_filtersThen, .ref aR_behind, .int R_rows, .ref aR_row, .ref aR_found, .int R_comes, .ref aR_next, .ref aR_nextFound, .int R_kept, .int R_hasRoom, .ref aR_keep, .ref aR_isTaken])), (aR_hints, .inl (cZ, 64, .inl R_hints))] H → va_D A [(aR, .inr (7, [.int R_triples, .ref aR_facts, .int R_patterns, .ref aR_cells, .ref aR_told, .ref aR_of, .ref aR_hints, .int R_filters, .ref aR_looks, .ref aR_kinds, .ref aR_values, .ref aR_isSafe, .ref aR_sizes, .ref aR_spreads, .ref aR_isSeen, .ref aR_estimates, .ref aR_rest, .int R_steps, .ref aR_order, .ref aR_joins, .ref aR_actsBehind, .ref aR_upTo, .int R_filtersThen, .ref aR_behind, .int R_rows, .ref aR_row, .ref aR_found, .int R_comes, .ref aR_next, .ref aR_nextFound, .int R_kept, .int R_hasRoom, .ref aR_keep, .ref aR_isTaken])), (aR_hints, .inl (cZ, 64, .inl R_hints))] → va_S A s.heap H locs → ∀ ls : Array Slot, lv_has ls 4 [(0, .ref aR), (1, .int x1), (2, .int x2_24), (3, .int x3_25)] → (∀ (x2_26 : Int32), some (x2_26) = some o_23 → ∀ (H : Heap) (locs : List Loc), va_P D vwCl [(aR, .inr (7, [.int R_triples, .ref aR_facts, .int R_patterns, .ref aR_cells, .ref aR_told, .ref aR_of, .ref aR_hints, .int R_filters, .ref aR_looks, .ref aR_kinds, .ref aR_values, .ref aR_isSafe, .ref aR_sizes, .ref aR_spreads, .ref aR_isSeen, .ref aR_estimates, .ref aR_rest, .int R_steps, .ref aR_order, .ref aR_joins, .ref aR_actsBehind, .ref aR_upTo, .int R_filtersThen, .ref aR_behind, .int R_rows, .ref aR_row, .ref aR_found, .int R_comes, .ref aR_next, .ref aR_nextFound, .int R_kept, .int R_hasRoom, .ref aR_keep, .ref aR_isTaken])), (aR_hints, .inl (cZ, 64, .inl R_hints))] H → va_D A [(aR, .inr (7, [.int R_triples, .ref aR_facts, .int R_patterns, .ref aR_cells, .ref aR_told, .ref aR_of, .ref aR_hints, .int R_filters, .ref aR_looks, .ref aR_kinds, .ref aR_values, .ref aR_isSafe, .ref aR_sizes, .ref aR_spreads, .ref aR_isSeen, .ref aR_estimates, .ref aR_rest, .int R_steps, .ref aR_order, .ref aR_joins, .ref aR_actsBehind, .ref aR_upTo, .int R_filtersThen, .ref aR_behind, .int R_rows, .ref aR_row, .ref aR_found, .int R_comes, .ref aR_next, .ref aR_nextFound, .int R_kept, .int R_hasRoom, .ref aR_keep, .ref aR_isTaken])), (aR_hints, .inl (cZ, 64, .inl R_hints))] → va_S A s.heap H locs → ∀ ls : Array Slot, lv_has ls 4 [(2, .int x2_26)] → W p l e rm_f_JoinOrderModel_isHinted s m args below meth c H locs 0 0 Q (F0 m 54 ls [])) → W p l e rm_f_JoinOrderModel_isHinted s m args below meth c H locs 0 0 Q (F0 m 4 ls []) := by
    intro k
    induction k with
    | zero =>
      intro x2_24 x3_25 o_23 hf
      exact absurd (((f_JoinOrderModel_isHinted_L0_z n x1 R_hints x2_24 x3_25).symm.trans hf)) (fun h => by cases h)
    | succ k ih =>
      intro x2_24 x3_25 o_23 hf H locs hP hD hS ls hl hX_23
      have hf := (f_JoinOrderModel_isHinted_L0_s n x1 R_hints k x2_24 x3_25).symm.trans hf
      refine lv_iload_n hx hb dX7_isHinted_4 rfl (lv_at hl 3 rfl) ?_
      refine lv_bipush (v := (8 : Int32)) hx hb dX7_isHinted_5 (by decide) ?_
      refine lv_icmp_ge (tgt := 54) hx hb dX7_isHinted_7 (by decide) (fun c_27 => ?_) (fun c_27 => ?_)
      · have hf := xb_t c_27 hf
        exact hX_23 x2_24 hf _ _ hP hD hS _ (lv_sub hl [2] rfl)
      · have hf := xb_f c_27 hf
        refine lv_iload_n hx hb dX7_isHinted_10 rfl (lv_at hl 2 rfl) ?_
        refine lv_if_ne (tgt := 42) hx hb dX7_isHinted_11 (by decide) (fun c_28 => ?_) (fun c_28 => ?_)
        · have hf := xb_f c_28 hf
          refine lv_iconst (v := (1 : Int32)) hx hb dX7_isHinted_42 (by decide) ?_
          refine lv_goto (tgt := 47) hx hb dX7_isHinted_43 (by decide) ?_
          refine lv_istore_n (lv' := [(2, .int (1 : Int32)), (0, .ref aR), (1, .int x1), (3, .int x3_25)]) hx hb dX7_isHinted_47 rfl hl (by decide) rfl (fun ls hl => ?_)
          obtain ⟨x3_29, ex3_29⟩ : ∃ y : Int32, y = x3_25 + (1 : Int32) := ⟨_, rfl⟩
          have hf := nm_nm ex3_29 hf
          refine lv_iinc (v := x3_29) (lv' := [(3, .int x3_29), (2, .int (1 : Int32)), (0, .ref aR), (1, .int x1)]) hx hb dX7_isHinted_48 hl (k := 3) rfl (by rw [ex3_29]; rfl) (by decide) rfl (fun ls hl => ?_)
          refine lv_goto (tgt := 4) hx hb dX7_isHinted_51 (by decide) ?_
          exact ih (1 : Int32) x3_29 o_23 hf _ _ hP hD hS _ (lv_sub hl [2, 3, 1, 0] rfl) hX_23
        · have hf := xb_t c_28 hf
          refine lv_aload_n hx hb dX7_isHinted_14 rfl (lv_at hl 0 rfl) ?_
          refine va_get (D := D) (ci := 7) (v := .ref aR_hints) (C := RX7) (T := TX7) (N := 34) hx hb htg giX7 hown hK hP 0 rfl rfl 6 (by decide) (htg _ kw_569) (fun _ h9 => h9) rfl dX7_isHinted_15 ?_
          refine lv_bipush (v := (8 : Int32)) hx hb dX7_isHinted_18 (by decide) ?_
          refine lv_iload_n hx hb dX7_isHinted_20 rfl (lv_at hl 1 rfl) ?_
          refine lv_imul hx hb dX7_isHinted_21 ?_
          refine lv_iload_n hx hb dX7_isHinted_22 rfl (lv_at hl 3 rfl) ?_
          refine lv_iadd hx hb dX7_isHinted_23 ?_
          have g_30 : vp_in (((8 : Int32) * x1) + x3_25) 64 := gd_in hf
          have hf := gd_el hf
          refine va_zald hx hb hK hP 1 2 rfl rfl g_30 dX7_isHinted_24 ?_
          refine lv_if_ne (tgt := 42) hx hb dX7_isHinted_25 (by decide) (fun c_31 => ?_) (fun c_31 => ?_)
          · have hf := xb_f c_31 hf
            refine lv_iconst (v := (1 : Int32)) hx hb dX7_isHinted_42 (by decide) ?_
            refine lv_goto (tgt := 47) hx hb dX7_isHinted_43 (by decide) ?_
            refine lv_istore_n (lv' := [(2, .int (1 : Int32)), (0, .ref aR), (1, .int x1), (3, .int x3_25)]) hx hb dX7_isHinted_47 rfl hl (by decide) rfl (fun ls hl => ?_)
            obtain ⟨x3_32, ex3_32⟩ : ∃ y : Int32, y = x3_25 + (1 : Int32) := ⟨_, rfl⟩
            have hf := nm_nm ex3_32 hf
            refine lv_iinc (v := x3_32) (lv' := [(3, .int x3_32), (2, .int (1 : Int32)), (0, .ref aR), (1, .int x1)]) hx hb dX7_isHinted_48 hl (k := 3) rfl (by rw [ex3_32]; rfl) (by decide) rfl (fun ls hl => ?_)
            refine lv_goto (tgt := 4) hx hb dX7_isHinted_51 (by decide) ?_
            exact ih (1 : Int32) x3_32 o_23 hf _ _ hP hD hS _ (lv_sub hl [2, 3, 1, 0] rfl) hX_23
          · have hf := xb_t c_31 hf
            refine lv_aload_n hx hb dX7_isHinted_28 rfl (lv_at hl 0 rfl) ?_
            refine va_get (D := D) (ci := 7) (v := .ref aR_hints) (C := RX7) (T := TX7) (N := 34) hx hb htg giX7 hown hK hP 0 rfl rfl 6 (by decide) (htg _ kw_569) (fun _ h9 => h9) rfl dX7_isHinted_29 ?_
            refine lv_bipush (v := (8 : Int32)) hx hb dX7_isHinted_32 (by decide) ?_
            refine lv_iload_n hx hb dX7_isHinted_34 rfl (lv_at hl 3 rfl) ?_
            refine lv_imul hx hb dX7_isHinted_35 ?_
            refine lv_iload_n hx hb dX7_isHinted_36 rfl (lv_at hl 1 rfl) ?_
            refine lv_iadd hx hb dX7_isHinted_37 ?_
            have g_33 : vp_in (((8 : Int32) * x3_25) + x1) 64 := gd_in hf
            have hf := gd_el hf
            refine va_zald hx hb hK hP 1 2 rfl rfl g_33 dX7_isHinted_38 ?_
            refine lv_if_eq (tgt := 46) hx hb dX7_isHinted_39 (by decide) (fun c_34 => ?_) (fun c_34 => ?_)
            · have hf := xb_t c_34 hf
              refine lv_iconst (v := (0 : Int32)) hx hb dX7_isHinted_46 (by decide) ?_
              refine lv_istore_n (lv' := [(2, .int (0 : Int32)), (0, .ref aR), (1, .int x1), (3, .int x3_25)]) hx hb dX7_isHinted_47 rfl hl (by decide) rfl (fun ls hl => ?_)
              obtain ⟨x3_35, ex3_35⟩ : ∃ y : Int32, y = x3_25 + (1 : Int32) := ⟨_, rfl⟩
              have hf := nm_nm ex3_35 hf
              refine lv_iinc (v := x3_35) (lv' := [(3, .int x3_35), (2, .int (0 : Int32)), (0, .ref aR), (1, .int x1)]) hx hb dX7_isHinted_48 hl (k := 3) rfl (by rw [ex3_35]; rfl) (by decide) rfl (fun ls hl => ?_)
              refine lv_goto (tgt := 4) hx hb dX7_isHinted_51 (by decide) ?_
              exact ih (0 : Int32) x3_35 o_23 hf _ _ hP hD hS _ (lv_sub hl [2, 3, 1, 0] rfl) hX_23
            · have hf := xb_f c_34 hf
              refine lv_iconst (v := (1 : Int32)) hx hb dX7_isHinted_42 (by decide) ?_
              refine lv_goto (tgt := 47) hx hb dX7_isHinted_43 (by decide) ?_
              refine lv_istore_n (lv' := [(2, .int (1 : Int32)), (0, .ref aR), (1, .int x1), (3, .int x3_25)]) hx hb dX7_isHinted_47 rfl hl (by decide) rfl (fun ls hl => ?_)
              obtain ⟨x3_36, ex3_36⟩ : ∃ y : Int32, y = x3_25 + (1 : Int32) := ⟨_, rfl⟩
              have hf := nm_nm ex3_36 hf
              refine lv_iinc (v := x3_36) (lv' := [(3, .int x3_36), (2, .int (1 : Int32)), (0, .ref aR), (1, .int x1)]) hx hb dX7_isHinted_48 hl (k := 3) rfl (by rw [ex3_36]; rfl) (by decide) rfl (fun ls hl => ?_)
              refine lv_goto (tgt := 4) hx hb dX7_isHinted_51 (by decide) ?_
              exact ih (1 : Int32) x3_36 o_23 hf _ _ hP hD hS _ (lv_sub hl [2, 3, 1, 0] rfl) hX_23
  obtain ⟨o_23, ho_23, hk_23⟩ := bn1_s hf
  refine L_4_23 n (0 : Int32) (0 : Int32) o_23 ho_23 _ _ hP hD hS _ (lv_sub hl [2, 3, 1, 0] rfl) (fun x2_26 hf H locs hP hD hS ls hl => ?_)
  have hf := hk_23 _ hf
  refine lv_iload_n hx hb dX7_isHinted_54 rfl (lv_at hl 0 rfl) ?_
  have gb_37 := gb_in hf
  have hf := gb_el hf
  have hf := Option.some.inj hf
  subst hf
  exact x_zret (fun _ => 0) hQ hx hb hr hlk gb_37 hK hP hD hS dX7_isHinted_55
