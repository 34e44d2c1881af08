abbrev rm_f_Planner_estimateOf : Room := { frames := 2, cells := 0, slots := 0, locals := 51 }
set_option maxHeartbeats 4000000 in
set_option maxRecDepth 100000 in
theorem c_f_Planner_estimateOf (l : Launch) (D : va_G) (cI cJ cZ : ClassId) (sz : Nat) (n : Nat) (aQ : Nat) (x1 : Int32) (aP : Nat) (aQ_spreads : Nat) (aQ_sizes : Nat) (aQ_estimates : Nat) (aQ_costAhead : Nat) (Q_sizes : Nat → Int32) (aP_slots : Nat) (aP_termsSeen : Nat) (aP_matches : Nat) (aP_matchCount : Nat) (aP_variables : Nat) (aP_havingVariable : Nat) (aP_told : Nat) (aP_parent : Nat) (aP_allBefore : Nat) (P_required : Int32) (P_hinted : Int32) (P_count : Int32) (P_havingVariable : Nat → Int32) (Q_spreads : Nat → Int32) {r : Int64} (hf : f_Planner_estimateOf n x1 Q_sizes P_havingVariable Q_spreads = some r) : Met l yX4_estimateOf (.code yX4_estimateOf cX4_estimateOf 6 (some .long) :: GW) rm_f_Planner_estimateOf (va_Pc [.ref aQ, .int x1, .ref aP] (xP D (xT cI cJ cZ) sz [(aQ, .inr (4, [.ref aQ_spreads, .ref aQ_sizes, .ref aQ_estimates, .ref aQ_costAhead])), (aQ_sizes, .inl (cI, 8, .inl Q_sizes)), (aP, .inr (2, [.ref aP_slots, .ref aP_termsSeen, .ref aP_matches, .ref aP_matchCount, .ref aP_variables, .ref aP_havingVariable, .ref aP_told, .ref aP_parent, .ref aP_allBefore, .int P_required, .int P_hinted, .int P_count])), (aP_havingVariable, .inl (cI, 8, .inl P_havingVariable)), (aQ_spreads, .inl (cI, 64, .inl Q_spreads))])) (va_Ql (fun r2 (_ : Nat → Nat) => r2 = r) (bB D (xT cI cJ cZ) (fun _ => [(aQ, .inr (4, [.ref aQ_spreads, .ref aQ_sizes, .ref aQ_estimates, .ref aQ_costAhead])), (aQ_sizes, .inl (cI, 8, .inl Q_sizes)), (aP, .inr (2, [.ref aP_slots, .ref aP_termsSeen, .ref aP_matches, .ref aP_matchCount, .ref aP_variables, .ref aP_havingVariable, .ref aP_told, .ref aP_parent, .ref aP_allBefore, .int P_required, .int P_hinted, .int P_count])), (aP_havingVariable, .inl (cI, 8, .inl P_havingVariable)), (aQ_spreads, .inl (cI, 64, .inl Q_spreads))]) (va_A [(aQ, .inr (4, [.ref aQ_spreads, .ref aQ_sizes, .ref aQ_estimates, .ref aQ_costAhead])), (aQ_sizes, .inl (cI, 8, .inl Q_sizes)), (aP, .inr (2, [.ref aP_slots, .ref aP_termsSeen, .ref aP_matches, .ref aP_matchCount, .ref aP_variables, .ref aP_havingVariable, .ref aP_told, .ref aP_parent, .ref aP_allBefore, .int P_required, .int P_hinted, .int P_count])), (aP_havingVariable, .inl (cI, 8, .inl P_havingVariable)), (aQ_spreads, .inl (cI, 64, .inl Q_spreads))] sz)) (va_A [(aQ, .inr (4, [.ref aQ_spreads, .ref aQ_sizes, .ref aQ_estimates, .ref aQ_costAhead])), (aQ_sizes, .inl (cI, 8, .inl Q_sizes)), (aP, .inr (2, [.ref aP_slots, .ref aP_termsSeen, .ref aP_matches, .ref aP_matchCount, .ref aP_variables, .ref aP_havingVariable, .ref aP_told, .ref aP_parent, .ref aP_allBefore, .int P_required, .int P_hinted, .int P_count])), (aP_havingVariable, .inl (cI, 8, .inl P_havingVariable)), (aQ_spreads, .inl (cI, 64, .inl Q_spreads))] sz)) 0 0 (va_A [(aQ, .inr (4, [.ref aQ_spreads, .ref aQ_sizes, .ref aQ_estimates, .ref aQ_costAhead])), (aQ_sizes, .inl (cI, 8, .inl Q_sizes)), (aP, .inr (2, [.ref aP_slots, .ref aP_termsSeen, .ref aP_matches, .ref aP_matchCount, .ref aP_variables, .ref aP_havingVariable, .ref aP_told, .ref aP_parent, .ref aP_allBefore, .int P_required, .int P_hinted, .int P_count])), (aP_havingVariable, .inl (cI, 8, .inl P_havingVariable)), (aQ_spreads, .inl (cI, 64, .inl Q_spreads))] sz) := by
  refine con_start (y := yX4_estimateOf) (bytes := cX4_estimateOf) (maxL := 6) (av := [.ref aQ, .int x1, .ref aP]) (Qc := fun A => va_Ql (fun r2 (_ : Nat → Nat) => r2 = r) (bB D (xT cI cJ cZ) (fun _ => [(aQ, .inr (4, [.ref aQ_spreads, .ref aQ_sizes, .ref aQ_estimates, .ref aQ_costAhead])), (aQ_sizes, .inl (cI, 8, .inl Q_sizes)), (aP, .inr (2, [.ref aP_slots, .ref aP_termsSeen, .ref aP_matches, .ref aP_matchCount, .ref aP_variables, .ref aP_havingVariable, .ref aP_told, .ref aP_parent, .ref aP_allBefore, .int P_required, .int P_hinted, .int P_count])), (aP_havingVariable, .inl (cI, 8, .inl P_havingVariable)), (aQ_spreads, .inl (cI, 64, .inl Q_spreads))]) A) A) (by decide) (Nat.le_of_ble_eq_true rfl) ?_
  intro p e s m args below meth c Q A hx hb hr hlk hml hown hin htg hN hK hQ hA hP hD hS ls hl
  have hl : lv_has ls 6 [(0, .ref aQ), (1, .int x1), (2, .ref aP)] := hl
  have hown : s.vm.findClass RX4 = some m.cls := hown
  have hf := (f_Planner_estimateOf_u n x1 Q_sizes P_havingVariable Q_spreads).symm.trans hf
  refine lv_lconst (v := (1 : Int64)) hx hb dX4_estimateOf_0 (by decide) ?_
  refine lv_lstore_n (lv' := [(3, .long (1 : Int64)), (0, .ref aQ), (1, .int x1), (2, .ref aP)]) hx hb dX4_estimateOf_1 rfl hl (by decide) rfl (fun ls hl => ?_)
  refine lv_iconst (v := (0 : Int32)) hx hb dX4_estimateOf_2 (by decide) ?_
  refine lv_istore (lv' := [(5, .int (0 : Int32)), (3, .long (1 : Int64)), (0, .ref aQ), (1, .int x1), (2, .ref aP)]) hx hb dX4_estimateOf_3 hl (by decide) rfl (fun ls hl => ?_)
  have L_5_16 : ∀ (k : Nat) (x3_17 : Int64) (x5_18 : Int32) (o_16 : Int64), f_Planner_estimateOf_L0 n x1 Q_sizes k x3_17 x5_18 = some o_16 → ∀ (H : Heap) (locs : List Loc), va_P D vwCl [(aQ, .inr (4, [.ref aQ_spreads, .ref aQ_sizes, .ref aQ_estimates, .ref aQ_costAhead])), (aQ_sizes, .inl (cI, 8, .inl Q_sizes)), (aP, .inr (2, [.ref aP_slots, .ref aP_termsSeen, .ref aP_matches, .ref aP_matchCount, .ref aP_variables, .ref aP_havingVariable, .ref aP_told, .ref aP_parent, .ref aP_allBefore, .int P_required, .int P_hinted, .int P_count])), (aP_havingVariable, .inl (cI, 8, .inl P_havingVariable)), (aQ_spreads, .inl (cI, 64, .inl Q_spreads))] H → va_D A [(aQ, .inr (4, [.ref aQ_spreads, .ref aQ_sizes, .ref aQ_estimates, .ref aQ_costAhead])), (aQ_sizes, .inl (cI, 8, .inl Q_sizes)), (aP, .inr (2, [.ref aP_slots, .ref aP_termsSeen, .ref aP_matches, .ref aP_matchCount, .ref aP_variables, .ref aP_havingVariable, .ref aP_told, .ref aP_parent, .ref aP_allBefore, .int P_required, .int P_hinted, .int P_count])), (aP_havingVariable, .inl (cI, 8, .inl P_havingVariable)), (aQ_spreads, .inl (cI, 64, .inl Q_spreads))] → va_S A s.heap H locs → ∀ ls : Array Slot, lv_has ls 6 [(0, .ref aQ), (1, .int x1), (2, .ref aP), (3, .long x3_17), (5, .int x5_18)] → (∀ (x3_19 : Int64), some (x3_19) = some o_16 → ∀ (H : Heap) (locs : List Loc), va_P D vwCl [(aQ, .inr (4, [.ref aQ_spreads, .ref aQ_sizes, .ref aQ_estimates, .ref aQ_costAhead])), (aQ_sizes, .inl (cI, 8, .inl Q_sizes)), (aP, .inr (2, [.ref aP_slots, .ref aP_termsSeen, .ref aP_matches, .ref aP_matchCount, .ref aP_variables, .ref aP_havingVariable, .ref aP_told, .ref aP_parent, .ref aP_allBefore, .int P_required, .int P_hinted, .int P_count])), (aP_havingVariable, .inl (cI, 8, .inl P_havingVariable)), (aQ_spreads, .inl (cI, 64, .inl Q_spreads))] H → va_D A [(aQ, .inr (4, [.ref aQ_spreads, .ref aQ_sizes, .ref aQ_estimates, .ref aQ_costAhead])), (aQ_sizes, .inl (cI, 8, .inl Q_sizes)), (aP, .inr (2, [.ref aP_slots, .ref aP_termsSeen, .ref aP_matches, .ref aP_matchCount, .ref aP_variables, .ref aP_havingVariable, .ref aP_told, .ref aP_parent, .ref aP_allBefore, .int P_required, .int P_hinted, .int P_count])), (aP_havingVariable, .inl (cI, 8, .inl P_havingVariable)), (aQ_spreads, .inl (cI, 64, .inl Q_spreads))] → va_S A s.heap H locs → ∀ ls : Array Slot, lv_has ls 6 [(0, .ref aQ), (1, .int x1), (2, .ref aP), (3, .long x3_19)] → W p l e rm_f_Planner_estimateOf s m args below meth c H locs 0 0 Q (F0 m 38 ls [])) → W p l e rm_f_Planner_estimateOf s m args below meth c H locs 0 0 Q (F0 m 5 ls []) := by
    intro k
    induction k with
    | zero =>
      intro x3_17 x5_18 o_16 hf
      exact absurd (((f_Planner_estimateOf_L0_z n x1 Q_sizes x3_17 x5_18).symm.trans hf)) (fun h => by cases h)
    | succ k ih =>
      intro x3_17 x5_18 o_16 hf H locs hP hD hS ls hl hX_16
      have hf := (f_Planner_estimateOf_L0_s n x1 Q_sizes k x3_17 x5_18).symm.trans hf
      refine lv_iload hx hb dX4_estimateOf_5 (lv_at hl 4 rfl) ?_
      refine lv_bipush (v := (8 : Int32)) hx hb dX4_estimateOf_7 (by decide) ?_
      refine lv_icmp_ge (tgt := 38) hx hb dX4_estimateOf_9 (by decide) (fun c_20 => ?_) (fun c_20 => ?_)
      · have hf := xb_t c_20 hf
        exact hX_16 x3_17 hf _ _ hP hD hS _ (lv_sub hl [0, 1, 2, 3] rfl)
      · have hf := xb_f c_20 hf
        refine lv_iload_n hx hb dX4_estimateOf_12 rfl (lv_at hl 1 rfl) ?_
        refine lv_iload hx hb dX4_estimateOf_13 (lv_at hl 4 rfl) ?_
        refine x_z (xrSN (As := [.int x1, .int x5_18]) (rest := []) ⟨hx, hb, hml, hown, htg⟩ (c_f_JoinOrder_inSet l D cI cJ cZ _ x1 x5_18 rfl) kc_f_JoinOrder_inSet kn_385 kw_306 kw_1 dd_f_JoinOrder_inSet ⟨Nat.le_of_ble_eq_true rfl, Nat.le_of_ble_eq_true rfl⟩ rfl rfl (hP.sub [] rfl) (hD.sub [] (by decide) rfl) hK hN rfl hl.1 rfl (Nat.le_of_ble_eq_true rfl) dX4_estimateOf_15 ⟨Nat.le_of_ble_eq_true rfl, Nat.le_of_ble_eq_true rfl⟩) hP hD hS hA [] [0, 1, 2, 3, 4] rfl rfl (by decide) (by decide) (fun _ H locs bz_21 hP hD hS => ?_)
        have hP : va_P D vwCl [(aQ, .inr (4, [.ref aQ_spreads, .ref aQ_sizes, .ref aQ_estimates, .ref aQ_costAhead])), (aQ_sizes, .inl (cI, 8, .inl Q_sizes)), (aP, .inr (2, [.ref aP_slots, .ref aP_termsSeen, .ref aP_matches, .ref aP_matchCount, .ref aP_variables, .ref aP_havingVariable, .ref aP_told, .ref aP_parent, .ref aP_allBefore, .int P_required, .int P_hinted, .int P_count])), (aP_havingVariable, .inl (cI, 8, .inl P_havingVariable)), (aQ_spreads, .inl (cI, 64, .inl Q_spreads))] H := hP
        have hD : va_D A [(aQ, .inr (4, [.ref aQ_spreads, .ref aQ_sizes, .ref aQ_estimates, .ref aQ_costAhead])), (aQ_sizes, .inl (cI, 8, .inl Q_sizes)), (aP, .inr (2, [.ref aP_slots, .ref aP_termsSeen, .ref aP_matches, .ref aP_matchCount, .ref aP_variables, .ref aP_havingVariable, .ref aP_told, .ref aP_parent, .ref aP_allBefore, .int P_required, .int P_hinted, .int P_count])), (aP_havingVariable, .inl (cI, 8, .inl P_havingVariable)), (aQ_spreads, .inl (cI, 64, .inl Q_spreads))] := hD
        refine lv_if_eq (tgt := 32) hx hb dX4_estimateOf_18 (by decide) (fun c_22 => ?_) (fun c_22 => ?_)
        · have hf := xb_t c_22 hf
          obtain ⟨x5_23, ex5_23⟩ : ∃ y : Int32, y = x5_18 + (1 : Int32) := ⟨_, rfl⟩
          have hf := nm_nm ex5_23 hf
          refine lv_iinc (v := x5_23) (lv' := [(5, .int x5_23), (0, .ref aQ), (1, .int x1), (2, .ref aP), (3, .long x3_17)]) hx hb dX4_estimateOf_32 hl (k := 4) rfl (by rw [ex5_23]; rfl) (by decide) rfl (fun ls hl => ?_)
          refine lv_goto (tgt := 5) hx hb dX4_estimateOf_35 (by decide) ?_
          exact ih x3_17 x5_23 o_16 hf _ _ hP hD hS _ (lv_sub hl [1, 2, 3, 4, 0] rfl) hX_16
        · have hf := xb_f c_22 hf
          refine lv_lload_n hx hb dX4_estimateOf_21 rfl (lv_at hl 3 rfl) ?_
          refine lv_aload_n hx hb dX4_estimateOf_22 rfl (lv_at hl 0 rfl) ?_
          refine va_get (D := D) (ci := 4) (v := .ref aQ_sizes) (C := RX4) (T := TX4) (N := 4) hx hb htg giX4 hown hK hP 0 rfl rfl 1 (by decide) (htg _ kw_123) (fun _ h9 => h9) rfl dX4_estimateOf_23 ?_
          refine lv_iload hx hb dX4_estimateOf_26 (lv_at hl 4 rfl) ?_
          have g_24 : vp_in x5_18 8 := gd_in hf
          have hf := gd_el hf
          refine va_iald hx hb hK hP 1 0 rfl rfl g_24 dX4_estimateOf_28 ?_
          refine lv_i2l hx hb dX4_estimateOf_29 rfl ?_
          refine lv_lmul hx hb dX4_estimateOf_30 ?_
          refine lv_topl (fun x3_25 ex3_25 => ?_)
          have hf := nm_nm ex3_25 hf
          refine lv_lstore_n (lv' := [(3, .long x3_25), (0, .ref aQ), (1, .int x1), (2, .ref aP), (5, .int x5_18)]) hx hb dX4_estimateOf_31 rfl hl (by decide) rfl (fun ls hl => ?_)
          obtain ⟨x5_26, ex5_26⟩ : ∃ y : Int32, y = x5_18 + (1 : Int32) := ⟨_, rfl⟩
          have hf := nm_nm ex5_26 hf
          refine lv_iinc (v := x5_26) (lv' := [(5, .int x5_26), (3, .long x3_25), (0, .ref aQ), (1, .int x1), (2, .ref aP)]) hx hb dX4_estimateOf_32 hl (k := 4) rfl (by rw [ex5_26]; rfl) (by decide) rfl (fun ls hl => ?_)
          refine lv_goto (tgt := 5) hx hb dX4_estimateOf_35 (by decide) ?_
          exact ih x3_25 x5_26 o_16 hf _ _ hP hD hS _ (lv_sub hl [2, 3, 4, 1, 0] rfl) hX_16
  obtain ⟨o_16, ho_16, hk_16⟩ := bn1_s hf
  refine L_5_16 n (1 : Int64) (0 : Int32) o_16 ho_16 _ _ hP hD hS _ (lv_sub hl [2, 3, 4, 1, 0] rfl) (fun x3_19 hf H locs hP hD hS ls hl => ?_)
  have hf := hk_16 _ hf
  refine lv_iconst (v := (0 : Int32)) hx hb dX4_estimateOf_38 (by decide) ?_
  refine lv_istore (lv' := [(5, .int (0 : Int32)), (0, .ref aQ), (1, .int x1), (2, .ref aP), (3, .long x3_19)]) hx hb dX4_estimateOf_39 hl (by decide) rfl (fun ls hl => ?_)
  have L_41_38 : ∀ (k : Nat) (x3_39 : Int64) (x5_40 : Int32) (o_38 : Int64), f_Planner_estimateOf_L1 n x1 P_havingVariable Q_spreads k x3_39 x5_40 = some o_38 → ∀ (H : Heap) (locs : List Loc), va_P D vwCl [(aQ, .inr (4, [.ref aQ_spreads, .ref aQ_sizes, .ref aQ_estimates, .ref aQ_costAhead])), (aQ_sizes, .inl (cI, 8, .inl Q_sizes)), (aP, .inr (2, [.ref aP_slots, .ref aP_termsSeen, .ref aP_matches, .ref aP_matchCount, .ref aP_variables, .ref aP_havingVariable, .ref aP_told, .ref aP_parent, .ref aP_allBefore, .int P_required, .int P_hinted, .int P_count])), (aP_havingVariable, .inl (cI, 8, .inl P_havingVariable)), (aQ_spreads, .inl (cI, 64, .inl Q_spreads))] H → va_D A [(aQ, .inr (4, [.ref aQ_spreads, .ref aQ_sizes, .ref aQ_estimates, .ref aQ_costAhead])), (aQ_sizes, .inl (cI, 8, .inl Q_sizes)), (aP, .inr (2, [.ref aP_slots, .ref aP_termsSeen, .ref aP_matches, .ref aP_matchCount, .ref aP_variables, .ref aP_havingVariable, .ref aP_told, .ref aP_parent, .ref aP_allBefore, .int P_required, .int P_hinted, .int P_count])), (aP_havingVariable, .inl (cI, 8, .inl P_havingVariable)), (aQ_spreads, .inl (cI, 64, .inl Q_spreads))] → va_S A s.heap H locs → ∀ ls : Array Slot, lv_has ls 6 [(0, .ref aQ), (1, .int x1), (2, .ref aP), (3, .long x3_39), (5, .int x5_40)] → (∀ (x3_41 : Int64), some (x3_41) = some o_38 → ∀ (H : Heap) (locs : List Loc), va_P D vwCl [(aQ, .inr (4, [.ref aQ_spreads, .ref aQ_sizes, .ref aQ_estimates, .ref aQ_costAhead])), (aQ_sizes, .inl (cI, 8, .inl Q_sizes)), (aP, .inr (2, [.ref aP_slots, .ref aP_termsSeen, .ref aP_matches, .ref aP_matchCount, .ref aP_variables, .ref aP_havingVariable, .ref aP_told, .ref aP_parent, .ref aP_allBefore, .int P_required, .int P_hinted, .int P_count])), (aP_havingVariable, .inl (cI, 8, .inl P_havingVariable)), (aQ_spreads, .inl (cI, 64, .inl Q_spreads))] H → va_D A [(aQ, .inr (4, [.ref aQ_spreads, .ref aQ_sizes, .ref aQ_estimates, .ref aQ_costAhead])), (aQ_sizes, .inl (cI, 8, .inl Q_sizes)), (aP, .inr (2, [.ref aP_slots, .ref aP_termsSeen, .ref aP_matches, .ref aP_matchCount, .ref aP_variables, .ref aP_havingVariable, .ref aP_told, .ref aP_parent, .ref aP_allBefore, .int P_required, .int P_hinted, .int P_count])), (aP_havingVariable, .inl (cI, 8, .inl P_havingVariable)), (aQ_spreads, .inl (cI, 64, .inl Q_spreads))] → va_S A s.heap H locs → ∀ ls : Array Slot, lv_has ls 6 [(3, .long x3_41)] → W p l e rm_f_Planner_estimateOf s m args below meth c H locs 0 0 Q (F0 m 71 ls [])) → W p l e rm_f_Planner_estimateOf s m args below meth c H locs 0 0 Q (F0 m 41 ls []) := by
    intro k
    induction k with
    | zero =>
      intro x3_39 x5_40 o_38 hf
      exact absurd (((f_Planner_estimateOf_L1_z n x1 P_havingVariable Q_spreads x3_39 x5_40).symm.trans hf)) (fun h => by cases h)
    | succ k ih =>
      intro x3_39 x5_40 o_38 hf H locs hP hD hS ls hl hX_38
      have hf := (f_Planner_estimateOf_L1_s n x1 P_havingVariable Q_spreads k x3_39 x5_40).symm.trans hf
      refine lv_iload hx hb dX4_estimateOf_41 (lv_at hl 4 rfl) ?_
      refine lv_bipush (v := (8 : Int32)) hx hb dX4_estimateOf_43 (by decide) ?_
      refine lv_icmp_ge (tgt := 71) hx hb dX4_estimateOf_45 (by decide) (fun c_42 => ?_) (fun c_42 => ?_)
      · have hf := xb_t c_42 hf
        exact hX_38 x3_39 hf _ _ hP hD hS _ (lv_sub hl [3] rfl)
      · have hf := xb_f c_42 hf
        refine lv_aload_n hx hb dX4_estimateOf_48 rfl (lv_at hl 0 rfl) ?_
        refine lv_lload_n hx hb dX4_estimateOf_49 rfl (lv_at hl 3 rfl) ?_
        refine lv_iload hx hb dX4_estimateOf_50 (lv_at hl 4 rfl) ?_
        refine lv_iload_n hx hb dX4_estimateOf_52 rfl (lv_at hl 1 rfl) ?_
        refine lv_aload_n hx hb dX4_estimateOf_53 rfl (lv_at hl 2 rfl) ?_
        refine va_getN (D := D) (ci := 2) (v := .ref aP_havingVariable) (C := RX2) (T := TX2) (N := 12) hx hb htg giX2 hown hK hP 2 rfl rfl 5 (by decide) (va_Nw.use rfl (hN _ kn_52)) (fun _ h9 => h9) rfl dX4_estimateOf_54 ?_
        refine lv_iload hx hb dX4_estimateOf_57 (lv_at hl 4 rfl) ?_
        have g_43 : vp_in x5_40 8 := gd_in hf
        have hf := gd_el hf
        refine va_iald hx hb hK hP 3 0 rfl rfl g_43 dX4_estimateOf_59 ?_
        refine lv_iand hx hb dX4_estimateOf_60 ?_
        obtain ⟨r_45, hq_44, hf⟩ := bn1_c hf
        refine x_l (xrV (As := [.long x3_39, .int x5_40, .int (x1 &&& (P_havingVariable x5_40.toNatClampNeg))]) (b := aQ) (rest := []) ⟨hx, hb, hml, hown, htg⟩ (c_f_Planner_dividedBySpreads l D cI cJ cZ _ n aQ x3_39 x5_40 (x1 &&& (P_havingVariable x5_40.toNatClampNeg)) aQ_spreads aQ_sizes aQ_estimates aQ_costAhead Q_spreads hq_44) kc_f_Planner_dividedBySpreads kw_386 kw_388 kp_7 kw_5 dd_f_Planner_dividedBySpreads ⟨Nat.le_of_ble_eq_true rfl, Nat.le_of_ble_eq_true rfl⟩ rfl rfl (hP.sub [0, 4] rfl) (hD.sub [0, 4] (by decide) rfl) hK hN hP (q0 := 0) rfl rfl rfl hl.1 rfl (Nat.le_of_ble_eq_true rfl) dX4_estimateOf_61 ⟨Nat.le_of_ble_eq_true rfl, Nat.le_of_ble_eq_true rfl⟩) hP hD hS hA [0, 4] [1, 2, 3] rfl rfl (by decide) (by decide) (fun _ H locs hP hD hS => ?_)
        have hP : va_P D vwCl [(aQ_sizes, .inl (cI, 8, .inl Q_sizes)), (aP, .inr (2, [.ref aP_slots, .ref aP_termsSeen, .ref aP_matches, .ref aP_matchCount, .ref aP_variables, .ref aP_havingVariable, .ref aP_told, .ref aP_parent, .ref aP_allBefore, .int P_required, .int P_hinted, .int P_count])), (aP_havingVariable, .inl (cI, 8, .inl P_havingVariable)), (aQ, .inr (4, [.ref aQ_spreads, .ref aQ_sizes, .ref aQ_estimates, .ref aQ_costAhead])), (aQ_spreads, .inl (cI, 64, .inl Q_spreads))] H := hP
        have hD : va_D A [(aQ_sizes, .inl (cI, 8, .inl Q_sizes)), (aP, .inr (2, [.ref aP_slots, .ref aP_termsSeen, .ref aP_matches, .ref aP_matchCount, .ref aP_variables, .ref aP_havingVariable, .ref aP_told, .ref aP_parent, .ref aP_allBefore, .int P_required, .int P_hinted, .int P_count])), (aP_havingVariable, .inl (cI, 8, .inl P_havingVariable)), (aQ, .inr (4, [.ref aQ_spreads, .ref aQ_sizes, .ref aQ_estimates, .ref aQ_costAhead])), (aQ_spreads, .inl (cI, 64, .inl Q_spreads))] := hD
        refine lv_lstore_n (lv' := [(3, .long r_45), (0, .ref aQ), (1, .int x1), (2, .ref aP), (5, .int x5_40)]) hx hb dX4_estimateOf_64 rfl hl (by decide) rfl (fun ls hl => ?_)
        obtain ⟨x5_46, ex5_46⟩ : ∃ y : Int32, y = x5_40 + (1 : Int32) := ⟨_, rfl⟩
        have hf := nm_nm ex5_46 hf
        refine lv_iinc (v := x5_46) (lv' := [(5, .int x5_46), (3, .long r_45), (0, .ref aQ), (1, .int x1), (2, .ref aP)]) hx hb dX4_estimateOf_65 hl (k := 4) rfl (by rw [ex5_46]; rfl) (by decide) rfl (fun ls hl => ?_)
        refine lv_goto (tgt := 41) hx hb dX4_estimateOf_68 (by decide) ?_
        exact ih r_45 x5_46 o_38 hf _ _ (hP.sub [3, 0, 1, 2, 4] rfl) (hD.sub [3, 0, 1, 2, 4] (by decide) rfl) hS _ (lv_sub hl [2, 3, 4, 1, 0] rfl) hX_38
  obtain ⟨o_38, ho_38, hk_38⟩ := bn1_s hf
  refine L_41_38 n x3_19 (0 : Int32) o_38 ho_38 _ _ hP hD hS _ (lv_sub hl [1, 2, 3, 4, 0] rfl) (fun x3_41 hf H locs hP hD hS ls hl => ?_)
  have hf := hk_38 _ hf
  refine lv_lload_n hx hb dX4_estimateOf_71 rfl (lv_at hl 0 rfl) ?_
  have hf := Option.some.inj hf
  subst hf
  exact x_lret (fun _ => 0) hQ hx hb hr hlk hK hP hD hS dX4_estimateOf_72
