abbrev rm_f_JoinOrderModel_triple : Room := { frames := 1, cells := 0, slots := 0, locals := 20 }
set_option maxHeartbeats 4000000 in
set_option maxRecDepth 100000 in
theorem c_f_JoinOrderModel_triple (l : Launch) (D : va_G) (cI cJ cZ : ClassId) (sz : Nat) (n : Nat) (aR : Nat) (x1 : Int32) (x2 : Int32) (x3 : Int32) (R_triples : Int32) (aR_facts : Nat) (R_patterns : Int32) (aR_cells : Nat) (aR_told : Nat) (aR_of : Nat) (aR_hints : Nat) (R_filters : Int32) (aR_looks : Nat) (aR_kinds : Nat) (aR_values : Nat) (aR_isSafe : Nat) (aR_sizes : Nat) (aR_spreads : Nat) (aR_isSeen : Nat) (aR_estimates : Nat) (aR_rest : Nat) (R_steps : Int32) (aR_order : Nat) (aR_joins : Nat) (aR_actsBehind : Nat) (aR_upTo : Nat) (R_filtersThen : Int32) (aR_behind : Nat) (R_rows : Int32) (aR_row : Nat) (aR_found : Nat) (R_comes : Int32) (aR_next : Nat) (aR_nextFound : Nat) (R_kept : Int32) (R_hasRoom : Int32) (aR_keep : Nat) (aR_isTaken : Nat) (R_facts : Nat → Int32) {r : Int32} {R_triples' : Int32} {R_facts' : Nat → Int32} (hf : f_JoinOrderModel_triple n x1 x2 x3 R_triples R_facts = some (r, R_triples', R_facts')) : Met l yX7_triple (.code yX7_triple cX7_triple 5 (some .int) :: GW) rm_f_JoinOrderModel_triple (va_Pc [.ref aR, .int x1, .int x2, .int x3] (xP D (xT cI cJ cZ) sz [(aR, .inr (7, [.int R_triples, .ref aR_facts, .int R_patterns, .ref aR_cells, .ref aR_told, .ref aR_of, .ref aR_hints, .int R_filters, .ref aR_looks, .ref aR_kinds, .ref aR_values, .ref aR_isSafe, .ref aR_sizes, .ref aR_spreads, .ref aR_isSeen, .ref aR_estimates, .ref aR_rest, .int R_steps, .ref aR_order, .ref aR_joins, .ref aR_actsBehind, .ref aR_upTo, .int R_filtersThen, .ref aR_behind, .int R_rows, .ref aR_row, .ref aR_found, .int R_comes, .ref aR_next, .ref aR_nextFound, .int R_kept, .int R_hasRoom, .ref aR_keep, .ref aR_isTaken])), (aR_facts, .inl (cI, 240, .inl R_facts))])) (va_Qi (fun r2 (_ : Nat → Nat) => r2 = r) (bB D (xT cI cJ cZ) (fun _ => [(aR, .inr (7, [.int R_triples', .ref aR_facts, .int R_patterns, .ref aR_cells, .ref aR_told, .ref aR_of, .ref aR_hints, .int R_filters, .ref aR_looks, .ref aR_kinds, .ref aR_values, .ref aR_isSafe, .ref aR_sizes, .ref aR_spreads, .ref aR_isSeen, .ref aR_estimates, .ref aR_rest, .int R_steps, .ref aR_order, .ref aR_joins, .ref aR_actsBehind, .ref aR_upTo, .int R_filtersThen, .ref aR_behind, .int R_rows, .ref aR_row, .ref aR_found, .int R_comes, .ref aR_next, .ref aR_nextFound, .int R_kept, .int R_hasRoom, .ref aR_keep, .ref aR_isTaken])), (aR_facts, .inl (cI, 240, .inl R_facts'))]) (va_A [(aR, .inr (7, [.int R_triples, .ref aR_facts, .int R_patterns, .ref aR_cells, .ref aR_told, .ref aR_of, .ref aR_hints, .int R_filters, .ref aR_looks, .ref aR_kinds, .ref aR_values, .ref aR_isSafe, .ref aR_sizes, .ref aR_spreads, .ref aR_isSeen, .ref aR_estimates, .ref aR_rest, .int R_steps, .ref aR_order, .ref aR_joins, .ref aR_actsBehind, .ref aR_upTo, .int R_filtersThen, .ref aR_behind, .int R_rows, .ref aR_row, .ref aR_found, .int R_comes, .ref aR_next, .ref aR_nextFound, .int R_kept, .int R_hasRoom, .ref aR_keep, .ref aR_isTaken])), (aR_facts, .inl (cI, 240, .inl R_facts))] sz)) (va_A [(aR, .inr (7, [.int R_triples, .ref aR_facts, .int R_patterns, .ref aR_cells, .ref aR_told, .ref aR_of, .ref aR_hints, .int R_filters, .ref aR_looks, .ref aR_kinds, .ref aR_values, .ref aR_isSafe, .ref aR_sizes, .ref aR_spreads, .ref aR_isSeen, .ref aR_estimates, .ref aR_rest, .int R_steps, .ref aR_order, .ref aR_joins, .ref aR_actsBehind, .ref aR_upTo, .int R_filtersThen, .ref aR_behind, .int R_rows, .ref aR_row, .ref aR_found, .int R_comes, .ref aR_next, .ref aR_nextFound, .int R_kept, .int R_hasRoom, .ref aR_keep, .ref aR_isTaken])), (aR_facts, .inl (cI, 240, .inl R_facts))] sz)) 0 0 (va_A [(aR, .inr (7, [.int R_triples, .ref aR_facts, .int R_patterns, .ref aR_cells, .ref aR_told, .ref aR_of, .ref aR_hints, .int R_filters, .ref aR_looks, .ref aR_kinds, .ref aR_values, .ref aR_isSafe, .ref aR_sizes, .ref aR_spreads, .ref aR_isSeen, .ref aR_estimates, .ref aR_rest, .int R_steps, .ref aR_order, .ref aR_joins, .ref aR_actsBehind, .ref aR_upTo, .int R_filtersThen, .ref aR_behind, .int R_rows, .ref aR_row, .ref aR_found, .int R_comes, .ref aR_next, .ref aR_nextFound, .int R_kept, .int R_hasRoom, .ref aR_keep, .ref aR_isTaken])), (aR_facts, .inl (cI, 240, .inl R_facts))] sz) := by
  refine con_start (y := yX7_triple) (bytes := cX7_triple) (maxL := 5) (av := [.ref aR, .int x1, .int x2, .int x3]) (Qc := fun A => va_Qi (fun r2 (_ : Nat → Nat) => r2 = r) (bB D (xT cI cJ cZ) (fun _ => [(aR, .inr (7, [.int R_triples', .ref aR_facts, .int R_patterns, .ref aR_cells, .ref aR_told, .ref aR_of, .ref aR_hints, .int R_filters, .ref aR_looks, .ref aR_kinds, .ref aR_values, .ref aR_isSafe, .ref aR_sizes, .ref aR_spreads, .ref aR_isSeen, .ref aR_estimates, .ref aR_rest, .int R_steps, .ref aR_order, .ref aR_joins, .ref aR_actsBehind, .ref aR_upTo, .int R_filtersThen, .ref aR_behind, .int R_rows, .ref aR_row, .ref aR_found, .int R_comes, .ref aR_next, .ref aR_nextFound, .int R_kept, .int R_hasRoom, .ref aR_keep, .ref aR_isTaken])), (aR_facts, .inl (cI, 240, .inl R_facts'))]) A) A) (by decide) (Nat.le_of_ble_eq_true rfl) ?_
  intro p e s m args below meth c Q A hx hb hr hlk hml hown hin htg hN hK hQ hA hP hD hS ls hl
  have hl : lv_has ls 5 [(0, .ref aR), (1, .int x1), (2, .int x2), (3, .int x3)] := hl
  have hown : s.vm.findClass RX7 = some m.cls := hown
  have hf := (f_JoinOrderModel_triple_u n x1 x2 x3 R_triples R_facts).symm.trans hf
  refine lv_iload_n hx hb dX7_triple_0 rfl (lv_at hl 1 rfl) ?_
  refine x_z (xrS (As := [.int x1]) (rest := []) ⟨hx, hb, hml, hown, htg⟩ (c_f_JoinOrderModel_isTerm l D cI cJ cZ _ x1 rfl) kc_f_JoinOrderModel_isTerm kw_671 kw_672 kw_8 dd_f_JoinOrderModel_isTerm ⟨Nat.le_of_ble_eq_true rfl, Nat.le_of_ble_eq_true rfl⟩ rfl rfl (hP.sub [] rfl) (hD.sub [] (by decide) rfl) hK hN rfl hl.1 rfl (Nat.le_of_ble_eq_true rfl) dX7_triple_1 ⟨Nat.le_of_ble_eq_true rfl, Nat.le_of_ble_eq_true rfl⟩) hP hD hS hA [] [0, 1] rfl rfl (by decide) (by decide) (fun _ H locs bz_1 hP hD hS => ?_)
  have hP : va_P D vwCl [(aR, .inr (7, [.int R_triples, .ref aR_facts, .int R_patterns, .ref aR_cells, .ref aR_told, .ref aR_of, .ref aR_hints, .int R_filters, .ref aR_looks, .ref aR_kinds, .ref aR_values, .ref aR_isSafe, .ref aR_sizes, .ref aR_spreads, .ref aR_isSeen, .ref aR_estimates, .ref aR_rest, .int R_steps, .ref aR_order, .ref aR_joins, .ref aR_actsBehind, .ref aR_upTo, .int R_filtersThen, .ref aR_behind, .int R_rows, .ref aR_row, .ref aR_found, .int R_comes, .ref aR_next, .ref aR_nextFound, .int R_kept, .int R_hasRoom, .ref aR_keep, .ref aR_isTaken])), (aR_facts, .inl (cI, 240, .inl R_facts))] H := hP
  have hD : va_D A [(aR, .inr (7, [.int R_triples, .ref aR_facts, .int R_patterns, .ref aR_cells, .ref aR_told, .ref aR_of, .ref aR_hints, .int R_filters, .ref aR_looks, .ref aR_kinds, .ref aR_values, .ref aR_isSafe, .ref aR_sizes, .ref aR_spreads, .ref aR_isSeen, .ref aR_estimates, .ref aR_rest, .int R_steps, .ref aR_order, .ref aR_joins, .ref aR_actsBehind, .ref aR_upTo, .int R_filtersThen, .ref aR_behind, .int R_rows, .ref aR_row, .ref aR_found, .int R_comes, .ref aR_next, .ref aR_nextFound, .int R_kept, .int R_hasRoom, .ref aR_keep, .ref aR_isTaken])), (aR_facts, .inl (cI, 240, .inl R_facts))] := hD
  refine lv_if_eq (tgt := 21) hx hb dX7_triple_4 (by decide) (fun c_2 => ?_) (fun c_2 => ?_)
  · have hf := xb_t c_2 hf
    refine lv_bipush (v := (-2 : Int32)) hx hb dX7_triple_21 (by decide) ?_
    have hf := Option.some.inj hf
    obtain ⟨k9_0, f9_0⟩ := Prod.mk.inj hf
    obtain ⟨k9_1, f9_1⟩ := Prod.mk.inj f9_0
    subst k9_0
    subst k9_1
    subst f9_1
    exact x_iret (fun _ => 0) hQ hx hb hr hlk hK hP hD hS dX7_triple_23
  · have hf := xb_f c_2 hf
    refine lv_iload_n hx hb dX7_triple_7 rfl (lv_at hl 2 rfl) ?_
    refine x_z (xrS (As := [.int x2]) (rest := []) ⟨hx, hb, hml, hown, htg⟩ (c_f_JoinOrderModel_isTerm l D cI cJ cZ _ x2 rfl) kc_f_JoinOrderModel_isTerm kw_671 kw_672 kw_8 dd_f_JoinOrderModel_isTerm ⟨Nat.le_of_ble_eq_true rfl, Nat.le_of_ble_eq_true rfl⟩ rfl rfl (hP.sub [] rfl) (hD.sub [] (by decide) rfl) hK hN rfl hl.1 rfl (Nat.le_of_ble_eq_true rfl) dX7_triple_8 ⟨Nat.le_of_ble_eq_true rfl, Nat.le_of_ble_eq_true rfl⟩) hP hD hS hA [] [0, 1] rfl rfl (by decide) (by decide) (fun _ H locs bz_3 hP hD hS => ?_)
    have hP : va_P D vwCl [(aR, .inr (7, [.int R_triples, .ref aR_facts, .int R_patterns, .ref aR_cells, .ref aR_told, .ref aR_of, .ref aR_hints, .int R_filters, .ref aR_looks, .ref aR_kinds, .ref aR_values, .ref aR_isSafe, .ref aR_sizes, .ref aR_spreads, .ref aR_isSeen, .ref aR_estimates, .ref aR_rest, .int R_steps, .ref aR_order, .ref aR_joins, .ref aR_actsBehind, .ref aR_upTo, .int R_filtersThen, .ref aR_behind, .int R_rows, .ref aR_row, .ref aR_found, .int R_comes, .ref aR_next, .ref aR_nextFound, .int R_kept, .int R_hasRoom, .ref aR_keep, .ref aR_isTaken])), (aR_facts, .inl (cI, 240, .inl R_facts))] H := hP
    have hD : va_D A [(aR, .inr (7, [.int R_triples, .ref aR_facts, .int R_patterns, .ref aR_cells, .ref aR_told, .ref aR_of, .ref aR_hints, .int R_filters, .ref aR_looks, .ref aR_kinds, .ref aR_values, .ref aR_isSafe, .ref aR_sizes, .ref aR_spreads, .ref aR_isSeen, .ref aR_estimates, .ref aR_rest, .int R_steps, .ref aR_order, .ref aR_joins, .ref aR_actsBehind, .ref aR_upTo, .int R_filtersThen, .ref aR_behind, .int R_rows, .ref aR_row, .ref aR_found, .int R_comes, .ref aR_next, .ref aR_nextFound, .int R_kept, .int R_hasRoom, .ref aR_keep, .ref aR_isTaken])), (aR_facts, .inl (cI, 240, .inl R_facts))] := hD
    refine lv_if_eq (tgt := 21) hx hb dX7_triple_11 (by decide) (fun c_4 => ?_) (fun c_4 => ?_)
    · have hf := xb_t c_4 hf
      refine lv_bipush (v := (-2 : Int32)) hx hb dX7_triple_21 (by decide) ?_
      have hf := Option.some.inj hf
      obtain ⟨k9_0, f9_0⟩ := Prod.mk.inj hf
      obtain ⟨k9_1, f9_1⟩ := Prod.mk.inj f9_0
      subst k9_0
      subst k9_1
      subst f9_1
      exact x_iret (fun _ => 0) hQ hx hb hr hlk hK hP hD hS dX7_triple_23
    · have hf := xb_f c_4 hf
      refine lv_iload_n hx hb dX7_triple_14 rfl (lv_at hl 3 rfl) ?_
      refine x_z (xrS (As := [.int x3]) (rest := []) ⟨hx, hb, hml, hown, htg⟩ (c_f_JoinOrderModel_isTerm l D cI cJ cZ _ x3 rfl) kc_f_JoinOrderModel_isTerm kw_671 kw_672 kw_8 dd_f_JoinOrderModel_isTerm ⟨Nat.le_of_ble_eq_true rfl, Nat.le_of_ble_eq_true rfl⟩ rfl rfl (hP.sub [] rfl) (hD.sub [] (by decide) rfl) hK hN rfl hl.1 rfl (Nat.le_of_ble_eq_true rfl) dX7_triple_15 ⟨Nat.le_of_ble_eq_true rfl, Nat.le_of_ble_eq_true rfl⟩) hP hD hS hA [] [0, 1] rfl rfl (by decide) (by decide) (fun _ H locs bz_5 hP hD hS => ?_)
      have hP : va_P D vwCl [(aR, .inr (7, [.int R_triples, .ref aR_facts, .int R_patterns, .ref aR_cells, .ref aR_told, .ref aR_of, .ref aR_hints, .int R_filters, .ref aR_looks, .ref aR_kinds, .ref aR_values, .ref aR_isSafe, .ref aR_sizes, .ref aR_spreads, .ref aR_isSeen, .ref aR_estimates, .ref aR_rest, .int R_steps, .ref aR_order, .ref aR_joins, .ref aR_actsBehind, .ref aR_upTo, .int R_filtersThen, .ref aR_behind, .int R_rows, .ref aR_row, .ref aR_found, .int R_comes, .ref aR_next, .ref aR_nextFound, .int R_kept, .int R_hasRoom, .ref aR_keep, .ref aR_isTaken])), (aR_facts, .inl (cI, 240, .inl R_facts))] H := hP
      have hD : va_D A [(aR, .inr (7, [.int R_triples, .ref aR_facts, .int R_patterns, .ref aR_cells, .ref aR_told, .ref aR_of, .ref aR_hints, .int R_filters, .ref aR_looks, .ref aR_kinds, .ref aR_values, .ref aR_isSafe, .ref aR_sizes, .ref aR_spreads, .ref aR_isSeen, .ref aR_estimates, .ref aR_rest, .int R_steps, .ref aR_order, .ref aR_joins, .ref aR_actsBehind, .ref aR_upTo, .int R_filtersThen, .ref aR_behind, .int R_rows, .ref aR_row, .ref aR_found, .int R_comes, .ref aR_next, .ref aR_nextFound, .int R_kept, .int R_hasRoom, .ref aR_keep, .ref aR_isTaken])), (aR_facts, .inl (cI, 240, .inl R_facts))] := hD
      refine lv_if_ne (tgt := 24) hx hb dX7_triple_18 (by decide) (fun c_6 => ?_) (fun c_6 => ?_)
      · have hf := xb_f c_6 hf
        refine lv_iconst (v := (0 : Int32)) hx hb dX7_triple_24 (by decide) ?_
        refine lv_istore (lv' := [(4, .int (0 : Int32)), (0, .ref aR), (1, .int x1), (2, .int x2), (3, .int x3)]) hx hb dX7_triple_25 hl (by decide) rfl (fun ls hl => ?_)
        have L_27_28 : ∀ (k : Nat) (x4_29 : Int32) (o_28 : ((Int32 × Int32 × (Nat → Int32)) ⊕ Unit)), f_JoinOrderModel_triple_L0 n x1 x2 x3 R_triples R_facts k x4_29 = some o_28 → (∀ z : (Int32 × Int32 × (Nat → Int32)), some (Sum.inl z) = some o_28 → z = (r, R_triples', R_facts')) → ∀ (H : Heap) (locs : List Loc), va_P D vwCl [(aR, .inr (7, [.int R_triples, .ref aR_facts, .int R_patterns, .ref aR_cells, .ref aR_told, .ref aR_of, .ref aR_hints, .int R_filters, .ref aR_looks, .ref aR_kinds, .ref aR_values, .ref aR_isSafe, .ref aR_sizes, .ref aR_spreads, .ref aR_isSeen, .ref aR_estimates, .ref aR_rest, .int R_steps, .ref aR_order, .ref aR_joins, .ref aR_actsBehind, .ref aR_upTo, .int R_filtersThen, .ref aR_behind, .int R_rows, .ref aR_row, .ref aR_found, .int R_comes, .ref aR_next, .ref aR_nextFound, .int R_kept, .int R_hasRoom, .ref aR_keep, .ref aR_isTaken])), (aR_facts, .inl (cI, 240, .inl R_facts))] H → va_D A [(aR, .inr (7, [.int R_triples, .ref aR_facts, .int R_patterns, .ref aR_cells, .ref aR_told, .ref aR_of, .ref aR_hints, .int R_filters, .ref aR_looks, .ref aR_kinds, .ref aR_values, .ref aR_isSafe, .ref aR_sizes, .ref aR_spreads, .ref aR_isSeen, .ref aR_estimates, .ref aR_rest, .int R_steps, .ref aR_order, .ref aR_joins, .ref aR_actsBehind, .ref aR_upTo, .int R_filtersThen, .ref aR_behind, .int R_rows, .ref aR_row, .ref aR_found, .int R_comes, .ref aR_next, .ref aR_nextFound, .int R_kept, .int R_hasRoom, .ref aR_keep, .ref aR_isTaken])), (aR_facts, .inl (cI, 240, .inl R_facts))] → va_S A s.heap H locs → ∀ ls : Array Slot, lv_has ls 5 [(0, .ref aR), (1, .int x1), (2, .int x2), (3, .int x3), (4, .int x4_29)] → (some (Sum.inr ()) = some o_28 → ∀ (H : Heap) (locs : List Loc), va_P D vwCl [(aR, .inr (7, [.int R_triples, .ref aR_facts, .int R_patterns, .ref aR_cells, .ref aR_told, .ref aR_of, .ref aR_hints, .int R_filters, .ref aR_looks, .ref aR_kinds, .ref aR_values, .ref aR_isSafe, .ref aR_sizes, .ref aR_spreads, .ref aR_isSeen, .ref aR_estimates, .ref aR_rest, .int R_steps, .ref aR_order, .ref aR_joins, .ref aR_actsBehind, .ref aR_upTo, .int R_filtersThen, .ref aR_behind, .int R_rows, .ref aR_row, .ref aR_found, .int R_comes, .ref aR_next, .ref aR_nextFound, .int R_kept, .int R_hasRoom, .ref aR_keep, .ref aR_isTaken])), (aR_facts, .inl (cI, 240, .inl R_facts))] H → va_D A [(aR, .inr (7, [.int R_triples, .ref aR_facts, .int R_patterns, .ref aR_cells, .ref aR_told, .ref aR_of, .ref aR_hints, .int R_filters, .ref aR_looks, .ref aR_kinds, .ref aR_values, .ref aR_isSafe, .ref aR_sizes, .ref aR_spreads, .ref aR_isSeen, .ref aR_estimates, .ref aR_rest, .int R_steps, .ref aR_order, .ref aR_joins, .ref aR_actsBehind, .ref aR_upTo, .int R_filtersThen, .ref aR_behind, .int R_rows, .ref aR_row, .ref aR_found, .int R_comes, .ref aR_next, .ref aR_nextFound, .int R_kept, .int R_hasRoom, .ref aR_keep, .ref aR_isTaken])), (aR_facts, .inl (cI, 240, .inl R_facts))] → va_S A s.heap H locs → ∀ ls : Array Slot, lv_has ls 5 [(0, .ref aR), (1, .int x1), (2, .int x2), (3, .int x3)] → W p l e rm_f_JoinOrderModel_triple s m args below meth c H locs 0 0 Q (F0 m 90 ls [])) → W p l e rm_f_JoinOrderModel_triple s m args below meth c H locs 0 0 Q (F0 m 27 ls []) := by
          intro k
          induction k with
          | zero =>
            intro x4_29 o_28 hf
            exact absurd (((f_JoinOrderModel_triple_L0_z n x1 x2 x3 R_triples R_facts x4_29).symm.trans hf)) (fun h => by cases h)
          | succ k ih =>
            intro x4_29 o_28 hf hret_28 H locs hP hD hS ls hl hX_28
            have hf := (f_JoinOrderModel_triple_L0_s n x1 x2 x3 R_triples R_facts k x4_29).symm.trans hf
            refine lv_iload hx hb dX7_triple_27 (lv_at hl 4 rfl) ?_
            refine lv_aload_n hx hb dX7_triple_29 rfl (lv_at hl 0 rfl) ?_
            refine va_get (D := D) (ci := 7) (v := .int R_triples) (C := RX7) (T := TX7) (N := 34) hx hb htg giX7 hown hK hP 0 rfl rfl 0 (by decide) (htg _ kw_563) (fun _ h9 => h9) rfl dX7_triple_30 ?_
            refine lv_icmp_ge (tgt := 90) hx hb dX7_triple_33 (by decide) (fun c_30 => ?_) (fun c_30 => ?_)
            · have hf := xb_t c_30 hf
              exact hX_28  hf _ _ hP hD hS _ (lv_sub hl [0, 1, 2, 3] rfl)
            · have hf := xb_f c_30 hf
              refine lv_aload_n hx hb dX7_triple_36 rfl (lv_at hl 0 rfl) ?_
              refine va_get (D := D) (ci := 7) (v := .ref aR_facts) (C := RX7) (T := TX7) (N := 34) hx hb htg giX7 hown hK hP 0 rfl rfl 1 (by decide) (htg _ kw_564) (fun _ h9 => h9) rfl dX7_triple_37 ?_
              refine lv_iconst (v := (3 : Int32)) hx hb dX7_triple_40 (by decide) ?_
              refine lv_iload hx hb dX7_triple_41 (lv_at hl 4 rfl) ?_
              refine lv_imul hx hb dX7_triple_43 ?_
              have g_31 : vp_in ((3 : Int32) * x4_29) 240 := gd_in hf
              have hf := gd_el hf
              refine va_iald hx hb hK hP 1 0 rfl rfl g_31 dX7_triple_44 ?_
              refine lv_iload_n hx hb dX7_triple_45 rfl (lv_at hl 1 rfl) ?_
              refine lv_icmp_ne (tgt := 84) hx hb dX7_triple_46 (by decide) (fun c_32 => ?_) (fun c_32 => ?_)
              · have hf := xb_f c_32 hf
                obtain ⟨x4_33, ex4_33⟩ : ∃ y : Int32, y = x4_29 + (1 : Int32) := ⟨_, rfl⟩
                have hf := nm_nm ex4_33 hf
                refine lv_iinc (v := x4_33) (lv' := [(4, .int x4_33), (0, .ref aR), (1, .int x1), (2, .int x2), (3, .int x3)]) hx hb dX7_triple_84 hl (k := 4) rfl (by rw [ex4_33]; rfl) (by decide) rfl (fun ls hl => ?_)
                refine lv_goto (tgt := 27) hx hb dX7_triple_87 (by decide) ?_
                exact ih x4_33 o_28 hf hret_28 _ _ hP hD hS _ (lv_sub hl [1, 2, 3, 4, 0] rfl) hX_28
              · have hf := xb_t c_32 hf
                refine lv_aload_n hx hb dX7_triple_49 rfl (lv_at hl 0 rfl) ?_
                refine va_get (D := D) (ci := 7) (v := .ref aR_facts) (C := RX7) (T := TX7) (N := 34) hx hb htg giX7 hown hK hP 0 rfl rfl 1 (by decide) (htg _ kw_564) (fun _ h9 => h9) rfl dX7_triple_50 ?_
                refine lv_iconst (v := (3 : Int32)) hx hb dX7_triple_53 (by decide) ?_
                refine lv_iload hx hb dX7_triple_54 (lv_at hl 4 rfl) ?_
                refine lv_imul hx hb dX7_triple_56 ?_
                refine lv_iconst (v := (1 : Int32)) hx hb dX7_triple_57 (by decide) ?_
                refine lv_iadd hx hb dX7_triple_58 ?_
                have g_34 : vp_in (((3 : Int32) * x4_29) + (1 : Int32)) 240 := gd_in hf
                have hf := gd_el hf
                refine va_iald hx hb hK hP 1 0 rfl rfl g_34 dX7_triple_59 ?_
                refine lv_iload_n hx hb dX7_triple_60 rfl (lv_at hl 2 rfl) ?_
                refine lv_icmp_ne (tgt := 84) hx hb dX7_triple_61 (by decide) (fun c_35 => ?_) (fun c_35 => ?_)
                · have hf := xb_f c_35 hf
                  obtain ⟨x4_36, ex4_36⟩ : ∃ y : Int32, y = x4_29 + (1 : Int32) := ⟨_, rfl⟩
                  have hf := nm_nm ex4_36 hf
                  refine lv_iinc (v := x4_36) (lv' := [(4, .int x4_36), (0, .ref aR), (1, .int x1), (2, .int x2), (3, .int x3)]) hx hb dX7_triple_84 hl (k := 4) rfl (by rw [ex4_36]; rfl) (by decide) rfl (fun ls hl => ?_)
                  refine lv_goto (tgt := 27) hx hb dX7_triple_87 (by decide) ?_
                  exact ih x4_36 o_28 hf hret_28 _ _ hP hD hS _ (lv_sub hl [1, 2, 3, 4, 0] rfl) hX_28
                · have hf := xb_t c_35 hf
                  refine lv_aload_n hx hb dX7_triple_64 rfl (lv_at hl 0 rfl) ?_
                  refine va_get (D := D) (ci := 7) (v := .ref aR_facts) (C := RX7) (T := TX7) (N := 34) hx hb htg giX7 hown hK hP 0 rfl rfl 1 (by decide) (htg _ kw_564) (fun _ h9 => h9) rfl dX7_triple_65 ?_
                  refine lv_iconst (v := (3 : Int32)) hx hb dX7_triple_68 (by decide) ?_
                  refine lv_iload hx hb dX7_triple_69 (lv_at hl 4 rfl) ?_
                  refine lv_imul hx hb dX7_triple_71 ?_
                  refine lv_iconst (v := (2 : Int32)) hx hb dX7_triple_72 (by decide) ?_
                  refine lv_iadd hx hb dX7_triple_73 ?_
                  have g_37 : vp_in (((3 : Int32) * x4_29) + (2 : Int32)) 240 := gd_in hf
                  have hf := gd_el hf
                  refine va_iald hx hb hK hP 1 0 rfl rfl g_37 dX7_triple_74 ?_
                  refine lv_iload_n hx hb dX7_triple_75 rfl (lv_at hl 3 rfl) ?_
                  refine lv_icmp_ne (tgt := 84) hx hb dX7_triple_76 (by decide) (fun c_38 => ?_) (fun c_38 => ?_)
                  · have hf := xb_f c_38 hf
                    obtain ⟨x4_39, ex4_39⟩ : ∃ y : Int32, y = x4_29 + (1 : Int32) := ⟨_, rfl⟩
                    have hf := nm_nm ex4_39 hf
                    refine lv_iinc (v := x4_39) (lv' := [(4, .int x4_39), (0, .ref aR), (1, .int x1), (2, .int x2), (3, .int x3)]) hx hb dX7_triple_84 hl (k := 4) rfl (by rw [ex4_39]; rfl) (by decide) rfl (fun ls hl => ?_)
                    refine lv_goto (tgt := 27) hx hb dX7_triple_87 (by decide) ?_
                    exact ih x4_39 o_28 hf hret_28 _ _ hP hD hS _ (lv_sub hl [1, 2, 3, 4, 0] rfl) hX_28
                  · have hf := xb_t c_38 hf
                    refine lv_aload_n hx hb dX7_triple_79 rfl (lv_at hl 0 rfl) ?_
                    refine va_get (D := D) (ci := 7) (v := .int R_triples) (C := RX7) (T := TX7) (N := 34) hx hb htg giX7 hown hK hP 0 rfl rfl 0 (by decide) (htg _ kw_563) (fun _ h9 => h9) rfl dX7_triple_80 ?_
                    have hf := congrArg some (hret_28 _ hf)
                    have hf := Option.some.inj hf
                    obtain ⟨k9_0, f9_0⟩ := Prod.mk.inj hf
                    obtain ⟨k9_1, f9_1⟩ := Prod.mk.inj f9_0
                    subst k9_0
                    subst k9_1
                    subst f9_1
                    exact x_iret (fun _ => 0) hQ hx hb hr hlk hK hP hD hS dX7_triple_83
        obtain ⟨o_28, ho_28, hret_28, hk_28⟩ := bd0_s hf
        refine L_27_28 n (0 : Int32) o_28 ho_28 hret_28 _ _ hP hD hS _ (lv_sub hl [1, 2, 3, 4, 0] rfl) (fun  hf H locs hP hD hS ls hl => ?_)
        have hf := hk_28  hf
        refine lv_aload_n hx hb dX7_triple_90 rfl (lv_at hl 0 rfl) ?_
        refine va_get (D := D) (ci := 7) (v := .int R_triples) (C := RX7) (T := TX7) (N := 34) hx hb htg giX7 hown hK hP 0 rfl rfl 0 (by decide) (htg _ kw_563) (fun _ h9 => h9) rfl dX7_triple_91 ?_
        refine lv_bipush (v := (80 : Int32)) hx hb dX7_triple_94 (by decide) ?_
        refine lv_icmp_ne (tgt := 102) hx hb dX7_triple_96 (by decide) (fun c_40 => ?_) (fun c_40 => ?_)
        · have hf := xb_f c_40 hf
          refine lv_aload_n hx hb dX7_triple_102 rfl (lv_at hl 0 rfl) ?_
          refine va_get (D := D) (ci := 7) (v := .ref aR_facts) (C := RX7) (T := TX7) (N := 34) hx hb htg giX7 hown hK hP 0 rfl rfl 1 (by decide) (htg _ kw_564) (fun _ h9 => h9) rfl dX7_triple_103 ?_
          refine lv_iconst (v := (3 : Int32)) hx hb dX7_triple_106 (by decide) ?_
          refine lv_aload_n hx hb dX7_triple_107 rfl (lv_at hl 0 rfl) ?_
          refine va_get (D := D) (ci := 7) (v := .int R_triples) (C := RX7) (T := TX7) (N := 34) hx hb htg giX7 hown hK hP 0 rfl rfl 0 (by decide) (htg _ kw_563) (fun _ h9 => h9) rfl dX7_triple_108 ?_
          refine lv_imul hx hb dX7_triple_111 ?_
          refine lv_iload_n hx hb dX7_triple_112 rfl (lv_at hl 1 rfl) ?_
          have g_41 : vp_in ((3 : Int32) * R_triples) 240 := gd_in hf
          have hf := gd_el hf
          refine x_iast hx hb hK hP hD hS 1 0 rfl rfl g_41 dX7_triple_113 (fun R_facts_42 eR_facts_42 H locs hP hD hS => ?_)
          have hf := nm_nm eR_facts_42 hf
          have hP : va_P D vwCl [(aR, .inr (7, [.int R_triples, .ref aR_facts, .int R_patterns, .ref aR_cells, .ref aR_told, .ref aR_of, .ref aR_hints, .int R_filters, .ref aR_looks, .ref aR_kinds, .ref aR_values, .ref aR_isSafe, .ref aR_sizes, .ref aR_spreads, .ref aR_isSeen, .ref aR_estimates, .ref aR_rest, .int R_steps, .ref aR_order, .ref aR_joins, .ref aR_actsBehind, .ref aR_upTo, .int R_filtersThen, .ref aR_behind, .int R_rows, .ref aR_row, .ref aR_found, .int R_comes, .ref aR_next, .ref aR_nextFound, .int R_kept, .int R_hasRoom, .ref aR_keep, .ref aR_isTaken])), (aR_facts, .inl (cI, 240, .inl R_facts_42))] H := hP
          have hD : va_D A [(aR, .inr (7, [.int R_triples, .ref aR_facts, .int R_patterns, .ref aR_cells, .ref aR_told, .ref aR_of, .ref aR_hints, .int R_filters, .ref aR_looks, .ref aR_kinds, .ref aR_values, .ref aR_isSafe, .ref aR_sizes, .ref aR_spreads, .ref aR_isSeen, .ref aR_estimates, .ref aR_rest, .int R_steps, .ref aR_order, .ref aR_joins, .ref aR_actsBehind, .ref aR_upTo, .int R_filtersThen, .ref aR_behind, .int R_rows, .ref aR_row, .ref aR_found, .int R_comes, .ref aR_next, .ref aR_nextFound, .int R_kept, .int R_hasRoom, .ref aR_keep, .ref aR_isTaken])), (aR_facts, .inl (cI, 240, .inl R_facts_42))] := hD
          refine lv_aload_n hx hb dX7_triple_114 rfl (lv_at hl 0 rfl) ?_
          refine va_get (D := D) (ci := 7) (v := .ref aR_facts) (C := RX7) (T := TX7) (N := 34) hx hb htg giX7 hown hK hP 0 rfl rfl 1 (by decide) (htg _ kw_564) (fun _ h9 => h9) rfl dX7_triple_115 ?_
          refine lv_iconst (v := (3 : Int32)) hx hb dX7_triple_118 (by decide) ?_
          refine lv_aload_n hx hb dX7_triple_119 rfl (lv_at hl 0 rfl) ?_
          refine va_get (D := D) (ci := 7) (v := .int R_triples) (C := RX7) (T := TX7) (N := 34) hx hb htg giX7 hown hK hP 0 rfl rfl 0 (by decide) (htg _ kw_563) (fun _ h9 => h9) rfl dX7_triple_120 ?_
          refine lv_imul hx hb dX7_triple_123 ?_
          refine lv_iconst (v := (1 : Int32)) hx hb dX7_triple_124 (by decide) ?_
          refine lv_iadd hx hb dX7_triple_125 ?_
          refine lv_iload_n hx hb dX7_triple_126 rfl (lv_at hl 2 rfl) ?_
          have g_43 : vp_in (((3 : Int32) * R_triples) + (1 : Int32)) 240 := gd_in hf
          have hf := gd_el hf
          refine x_iast hx hb hK hP hD hS 1 0 rfl rfl g_43 dX7_triple_127 (fun R_facts_44 eR_facts_44 H locs hP hD hS => ?_)
          have hf := nm_nm eR_facts_44 hf
          have hP : va_P D vwCl [(aR, .inr (7, [.int R_triples, .ref aR_facts, .int R_patterns, .ref aR_cells, .ref aR_told, .ref aR_of, .ref aR_hints, .int R_filters, .ref aR_looks, .ref aR_kinds, .ref aR_values, .ref aR_isSafe, .ref aR_sizes, .ref aR_spreads, .ref aR_isSeen, .ref aR_estimates, .ref aR_rest, .int R_steps, .ref aR_order, .ref aR_joins, .ref aR_actsBehind, .ref aR_upTo, .int R_filtersThen, .ref aR_behind, .int R_rows, .ref aR_row, .ref aR_found, .int R_comes, .ref aR_next, .ref aR_nextFound, .int R_kept, .int R_hasRoom, .ref aR_keep, .ref aR_isTaken])), (aR_facts, .inl (cI, 240, .inl R_facts_44))] H := hP
          have hD : va_D A [(aR, .inr (7, [.int R_triples, .ref aR_facts, .int R_patterns, .ref aR_cells, .ref aR_told, .ref aR_of, .ref aR_hints, .int R_filters, .ref aR_looks, .ref aR_kinds, .ref aR_values, .ref aR_isSafe, .ref aR_sizes, .ref aR_spreads, .ref aR_isSeen, .ref aR_estimates, .ref aR_rest, .int R_steps, .ref aR_order, .ref aR_joins, .ref aR_actsBehind, .ref aR_upTo, .int R_filtersThen, .ref aR_behind, .int R_rows, .ref aR_row, .ref aR_found, .int R_comes, .ref aR_next, .ref aR_nextFound, .int R_kept, .int R_hasRoom, .ref aR_keep, .ref aR_isTaken])), (aR_facts, .inl (cI, 240, .inl R_facts_44))] := hD
          refine lv_aload_n hx hb dX7_triple_128 rfl (lv_at hl 0 rfl) ?_
          refine va_get (D := D) (ci := 7) (v := .ref aR_facts) (C := RX7) (T := TX7) (N := 34) hx hb htg giX7 hown hK hP 0 rfl rfl 1 (by decide) (htg _ kw_564) (fun _ h9 => h9) rfl dX7_triple_129 ?_
          refine lv_iconst (v := (3 : Int32)) hx hb dX7_triple_132 (by decide) ?_
          refine lv_aload_n hx hb dX7_triple_133 rfl (lv_at hl 0 rfl) ?_
          refine va_get (D := D) (ci := 7) (v := .int R_triples) (C := RX7) (T := TX7) (N := 34) hx hb htg giX7 hown hK hP 0 rfl rfl 0 (by decide) (htg _ kw_563) (fun _ h9 => h9) rfl dX7_triple_134 ?_
          refine lv_imul hx hb dX7_triple_137 ?_
          refine lv_iconst (v := (2 : Int32)) hx hb dX7_triple_138 (by decide) ?_
          refine lv_iadd hx hb dX7_triple_139 ?_
          refine lv_iload_n hx hb dX7_triple_140 rfl (lv_at hl 3 rfl) ?_
          have g_45 : vp_in (((3 : Int32) * R_triples) + (2 : Int32)) 240 := gd_in hf
          have hf := gd_el hf
          refine x_iast hx hb hK hP hD hS 1 0 rfl rfl g_45 dX7_triple_141 (fun R_facts_46 eR_facts_46 H locs hP hD hS => ?_)
          have hf := nm_nm eR_facts_46 hf
          have hP : va_P D vwCl [(aR, .inr (7, [.int R_triples, .ref aR_facts, .int R_patterns, .ref aR_cells, .ref aR_told, .ref aR_of, .ref aR_hints, .int R_filters, .ref aR_looks, .ref aR_kinds, .ref aR_values, .ref aR_isSafe, .ref aR_sizes, .ref aR_spreads, .ref aR_isSeen, .ref aR_estimates, .ref aR_rest, .int R_steps, .ref aR_order, .ref aR_joins, .ref aR_actsBehind, .ref aR_upTo, .int R_filtersThen, .ref aR_behind, .int R_rows, .ref aR_row, .ref aR_found, .int R_comes, .ref aR_next, .ref aR_nextFound, .int R_kept, .int R_hasRoom, .ref aR_keep, .ref aR_isTaken])), (aR_facts, .inl (cI, 240, .inl R_facts_46))] H := hP
          have hD : va_D A [(aR, .inr (7, [.int R_triples, .ref aR_facts, .int R_patterns, .ref aR_cells, .ref aR_told, .ref aR_of, .ref aR_hints, .int R_filters, .ref aR_looks, .ref aR_kinds, .ref aR_values, .ref aR_isSafe, .ref aR_sizes, .ref aR_spreads, .ref aR_isSeen, .ref aR_estimates, .ref aR_rest, .int R_steps, .ref aR_order, .ref aR_joins, .ref aR_actsBehind, .ref aR_upTo, .int R_filtersThen, .ref aR_behind, .int R_rows, .ref aR_row, .ref aR_found, .int R_comes, .ref aR_next, .ref aR_nextFound, .int R_kept, .int R_hasRoom, .ref aR_keep, .ref aR_isTaken])), (aR_facts, .inl (cI, 240, .inl R_facts_46))] := hD
          refine lv_aload_n hx hb dX7_triple_142 rfl (lv_at hl 0 rfl) ?_
          refine lv_dup hx hb dX7_triple_143 rfl ?_
          refine va_get (D := D) (ci := 7) (v := .int R_triples) (C := RX7) (T := TX7) (N := 34) hx hb htg giX7 hown hK hP 0 rfl rfl 0 (by decide) (htg _ kw_563) (fun _ h9 => h9) rfl dX7_triple_144 ?_
          refine lv_iconst (v := (1 : Int32)) hx hb dX7_triple_147 (by decide) ?_
          refine lv_iadd hx hb dX7_triple_148 ?_
          refine lv_topi (fun v_47 ev_47 => ?_)
          have hf := nm_nm ev_47 hf
          refine va_put (D := D) (ci := 7) (v := .int v_47) (ty := .int) (C := RX7) (T := TX7) (N := 34) hx hb htg giX7 tyX7 tyX7_ok nmX7 hown hK hP hD hS 0 rfl rfl 0 (by decide) (htg _ kw_563) (fun _ h9 => h9) rfl (by decide +kernel) rfl rfl (Nat.le_of_ble_eq_true rfl) dX7_triple_149 (fun H locs hP hD hS => ?_)
          have hP : va_P D vwCl [(aR, .inr (7, [.int v_47, .ref aR_facts, .int R_patterns, .ref aR_cells, .ref aR_told, .ref aR_of, .ref aR_hints, .int R_filters, .ref aR_looks, .ref aR_kinds, .ref aR_values, .ref aR_isSafe, .ref aR_sizes, .ref aR_spreads, .ref aR_isSeen, .ref aR_estimates, .ref aR_rest, .int R_steps, .ref aR_order, .ref aR_joins, .ref aR_actsBehind, .ref aR_upTo, .int R_filtersThen, .ref aR_behind, .int R_rows, .ref aR_row, .ref aR_found, .int R_comes, .ref aR_next, .ref aR_nextFound, .int R_kept, .int R_hasRoom, .ref aR_keep, .ref aR_isTaken])), (aR_facts, .inl (cI, 240, .inl R_facts_46))] H := hP
          have hD : va_D A [(aR, .inr (7, [.int v_47, .ref aR_facts, .int R_patterns, .ref aR_cells, .ref aR_told, .ref aR_of, .ref aR_hints, .int R_filters, .ref aR_looks, .ref aR_kinds, .ref aR_values, .ref aR_isSafe, .ref aR_sizes, .ref aR_spreads, .ref aR_isSeen, .ref aR_estimates, .ref aR_rest, .int R_steps, .ref aR_order, .ref aR_joins, .ref aR_actsBehind, .ref aR_upTo, .int R_filtersThen, .ref aR_behind, .int R_rows, .ref aR_row, .ref aR_found, .int R_comes, .ref aR_next, .ref aR_nextFound, .int R_kept, .int R_hasRoom, .ref aR_keep, .ref aR_isTaken])), (aR_facts, .inl (cI, 240, .inl R_facts_46))] := hD
          refine lv_aload_n hx hb dX7_triple_152 rfl (lv_at hl 0 rfl) ?_
          refine va_get (D := D) (ci := 7) (v := .int v_47) (C := RX7) (T := TX7) (N := 34) hx hb htg giX7 hown hK hP 0 rfl rfl 0 (by decide) (htg _ kw_563) (fun _ h9 => h9) rfl dX7_triple_153 ?_
          have hf := Option.some.inj hf
          obtain ⟨k9_0, f9_0⟩ := Prod.mk.inj hf
          obtain ⟨k9_1, f9_1⟩ := Prod.mk.inj f9_0
          subst k9_0
          subst k9_1
          subst f9_1
          exact x_iret (fun _ => 0) hQ hx hb hr hlk hK hP hD hS dX7_triple_156
        · have hf := xb_t c_40 hf
          refine lv_bipush (v := (-4 : Int32)) hx hb dX7_triple_99 (by decide) ?_
          have hf := Option.some.inj hf
          obtain ⟨k9_0, f9_0⟩ := Prod.mk.inj hf
          obtain ⟨k9_1, f9_1⟩ := Prod.mk.inj f9_0
          subst k9_0
          subst k9_1
          subst f9_1
          exact x_iret (fun _ => 0) hQ hx hb hr hlk hK hP hD hS dX7_triple_101
      · have hf := xb_t c_6 hf
        refine lv_bipush (v := (-2 : Int32)) hx hb dX7_triple_21 (by decide) ?_
        have hf := Option.some.inj hf
        obtain ⟨k9_0, f9_0⟩ := Prod.mk.inj hf
        obtain ⟨k9_1, f9_1⟩ := Prod.mk.inj f9_0
        subst k9_0
        subst k9_1
        subst f9_1
        exact x_iret (fun _ => 0) hQ hx hb hr hlk hK hP hD hS dX7_triple_23
