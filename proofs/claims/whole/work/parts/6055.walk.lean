abbrev rm_f_Planner_joinOf : Room := { frames := 2, cells := 0, slots := 0, locals := 44 }
set_option maxHeartbeats 4000000 in
set_option maxRecDepth 100000 in
theorem c_f_Planner_joinOf (l : Launch) (D : va_G) (cI cJ cZ : ClassId) (sz : Nat) (n : Nat) (aQ : Nat) (x1 : Int32) (x2 : Int32) (aP : Nat) (aP_slots : Nat) (aP_termsSeen : Nat) (aP_matches : Nat) (aP_matchCount : Nat) (aP_variables : Nat) (aP_havingVariable : Nat) (aP_told : Nat) (aP_parent : Nat) (aP_allBefore : Nat) (P_required : Int32) (P_hinted : Int32) (P_count : Int32) (P_variables : Nat → Int32) (aQ_spreads : Nat) (aQ_sizes : Nat) (aQ_estimates : Nat) (aQ_costAhead : Nat) (Q_estimates : Nat → Int64) (Q_sizes : Nat → Int32) {r : Int32} (hf : f_Planner_joinOf n x1 x2 P_count P_variables Q_estimates Q_sizes = some r) : Met l yX4_joinOf (.code yX4_joinOf cX4_joinOf 4 (some .int) :: GW) rm_f_Planner_joinOf (va_Pc [.ref aQ, .int x1, .int x2, .ref aP] (xP D (xT cI cJ cZ) sz [(aP, .inr (2, [.ref aP_slots, .ref aP_termsSeen, .ref aP_matches, .ref aP_matchCount, .ref aP_variables, .ref aP_havingVariable, .ref aP_told, .ref aP_parent, .ref aP_allBefore, .int P_required, .int P_hinted, .int P_count])), (aP_variables, .inl (cI, 8, .inl P_variables)), (aQ, .inr (4, [.ref aQ_spreads, .ref aQ_sizes, .ref aQ_estimates, .ref aQ_costAhead])), (aQ_estimates, .inl (cJ, 256, .inr (.inl Q_estimates))), (aQ_sizes, .inl (cI, 8, .inl Q_sizes))])) (va_Qi (fun r2 (_ : Nat → Nat) => r2 = r) (bB D (xT cI cJ cZ) (fun _ => [(aP, .inr (2, [.ref aP_slots, .ref aP_termsSeen, .ref aP_matches, .ref aP_matchCount, .ref aP_variables, .ref aP_havingVariable, .ref aP_told, .ref aP_parent, .ref aP_allBefore, .int P_required, .int P_hinted, .int P_count])), (aP_variables, .inl (cI, 8, .inl P_variables)), (aQ, .inr (4, [.ref aQ_spreads, .ref aQ_sizes, .ref aQ_estimates, .ref aQ_costAhead])), (aQ_estimates, .inl (cJ, 256, .inr (.inl Q_estimates))), (aQ_sizes, .inl (cI, 8, .inl Q_sizes))]) (va_A [(aP, .inr (2, [.ref aP_slots, .ref aP_termsSeen, .ref aP_matches, .ref aP_matchCount, .ref aP_variables, .ref aP_havingVariable, .ref aP_told, .ref aP_parent, .ref aP_allBefore, .int P_required, .int P_hinted, .int P_count])), (aP_variables, .inl (cI, 8, .inl P_variables)), (aQ, .inr (4, [.ref aQ_spreads, .ref aQ_sizes, .ref aQ_estimates, .ref aQ_costAhead])), (aQ_estimates, .inl (cJ, 256, .inr (.inl Q_estimates))), (aQ_sizes, .inl (cI, 8, .inl Q_sizes))] sz)) (va_A [(aP, .inr (2, [.ref aP_slots, .ref aP_termsSeen, .ref aP_matches, .ref aP_matchCount, .ref aP_variables, .ref aP_havingVariable, .ref aP_told, .ref aP_parent, .ref aP_allBefore, .int P_required, .int P_hinted, .int P_count])), (aP_variables, .inl (cI, 8, .inl P_variables)), (aQ, .inr (4, [.ref aQ_spreads, .ref aQ_sizes, .ref aQ_estimates, .ref aQ_costAhead])), (aQ_estimates, .inl (cJ, 256, .inr (.inl Q_estimates))), (aQ_sizes, .inl (cI, 8, .inl Q_sizes))] sz)) 0 0 (va_A [(aP, .inr (2, [.ref aP_slots, .ref aP_termsSeen, .ref aP_matches, .ref aP_matchCount, .ref aP_variables, .ref aP_havingVariable, .ref aP_told, .ref aP_parent, .ref aP_allBefore, .int P_required, .int P_hinted, .int P_count])), (aP_variables, .inl (cI, 8, .inl P_variables)), (aQ, .inr (4, [.ref aQ_spreads, .ref aQ_sizes, .ref aQ_estimates, .ref aQ_costAhead])), (aQ_estimates, .inl (cJ, 256, .inr (.inl Q_estimates))), (aQ_sizes, .inl (cI, 8, .inl Q_sizes))] sz) := by
  refine con_start (y := yX4_joinOf) (bytes := cX4_joinOf) (maxL := 4) (av := [.ref aQ, .int x1, .int x2, .ref aP]) (Qc := fun A => va_Qi (fun r2 (_ : Nat → Nat) => r2 = r) (bB D (xT cI cJ cZ) (fun _ => [(aP, .inr (2, [.ref aP_slots, .ref aP_termsSeen, .ref aP_matches, .ref aP_matchCount, .ref aP_variables, .ref aP_havingVariable, .ref aP_told, .ref aP_parent, .ref aP_allBefore, .int P_required, .int P_hinted, .int P_count])), (aP_variables, .inl (cI, 8, .inl P_variables)), (aQ, .inr (4, [.ref aQ_spreads, .ref aQ_sizes, .ref aQ_estimates, .ref aQ_costAhead])), (aQ_estimates, .inl (cJ, 256, .inr (.inl Q_estimates))), (aQ_sizes, .inl (cI, 8, .inl Q_sizes))]) A) A) (by decide) (Nat.le_of_ble_eq_true rfl) ?_
  intro p e s m args below meth c Q A hx hb hr hlk hml hown hin htg hN hK hQ hA hP hD hS ls hl
  have hl : lv_has ls 4 [(0, .ref aQ), (1, .int x1), (2, .int x2), (3, .ref aP)] := hl
  have hown : s.vm.findClass RX4 = some m.cls := hown
  have hf := (f_Planner_joinOf_u n x1 x2 P_count P_variables Q_estimates Q_sizes).symm.trans hf
  refine lv_iload_n hx hb dX4_joinOf_0 rfl (lv_at hl 2 rfl) ?_
  refine lv_if_ne (tgt := 6) hx hb dX4_joinOf_1 (by decide) (fun c_1 => ?_) (fun c_1 => ?_)
  · have hf := xb_f c_1 hf
    refine lv_aload_n hx hb dX4_joinOf_6 rfl (lv_at hl 3 rfl) ?_
    refine va_getN (D := D) (ci := 2) (v := .ref aP_variables) (C := RX2) (T := TX2) (N := 12) hx hb htg giX2 hown hK hP 0 rfl rfl 4 (by decide) (va_Nw.use rfl (hN _ kn_50)) (fun _ h9 => h9) rfl dX4_joinOf_7 ?_
    refine lv_iload_n hx hb dX4_joinOf_10 rfl (lv_at hl 1 rfl) ?_
    have g_2 : vp_in x1 8 := gd_in hf
    have hf := gd_el hf
    refine va_iald hx hb hK hP 1 0 rfl rfl g_2 dX4_joinOf_11 ?_
    refine lv_iload_n hx hb dX4_joinOf_12 rfl (lv_at hl 2 rfl) ?_
    refine lv_aload_n hx hb dX4_joinOf_13 rfl (lv_at hl 3 rfl) ?_
    obtain ⟨r_4, hq_3, hf⟩ := bn1_c hf
    refine x_i (xrS (As := [.int x2, .ref aP]) (rest := [.int (P_variables x1.toNatClampNeg)]) ⟨hx, hb, hml, hown, htg⟩ (c_f_Planner_variablesOf l D cI cJ cZ _ n x2 aP aP_slots aP_termsSeen aP_matches aP_matchCount aP_variables aP_havingVariable aP_told aP_parent aP_allBefore P_required P_hinted P_count P_variables hq_3) kc_f_Planner_variablesOf kw_404 kw_405 kw_5 dd_f_Planner_variablesOf ⟨Nat.le_of_ble_eq_true rfl, Nat.le_of_ble_eq_true rfl⟩ rfl rfl (hP.sub [0, 1] rfl) (hD.sub [0, 1] (by decide) rfl) hK hN rfl hl.1 rfl (Nat.le_of_ble_eq_true rfl) dX4_joinOf_14 ⟨Nat.le_of_ble_eq_true rfl, Nat.le_of_ble_eq_true rfl⟩) hP hD hS hA [0, 1] [2, 3, 4] rfl rfl (by decide) (by decide) (fun _ H locs hP hD hS => ?_)
    have hP : va_P D vwCl [(aQ, .inr (4, [.ref aQ_spreads, .ref aQ_sizes, .ref aQ_estimates, .ref aQ_costAhead])), (aQ_estimates, .inl (cJ, 256, .inr (.inl Q_estimates))), (aQ_sizes, .inl (cI, 8, .inl Q_sizes)), (aP, .inr (2, [.ref aP_slots, .ref aP_termsSeen, .ref aP_matches, .ref aP_matchCount, .ref aP_variables, .ref aP_havingVariable, .ref aP_told, .ref aP_parent, .ref aP_allBefore, .int P_required, .int P_hinted, .int P_count])), (aP_variables, .inl (cI, 8, .inl P_variables))] H := hP
    have hD : va_D A [(aQ, .inr (4, [.ref aQ_spreads, .ref aQ_sizes, .ref aQ_estimates, .ref aQ_costAhead])), (aQ_estimates, .inl (cJ, 256, .inr (.inl Q_estimates))), (aQ_sizes, .inl (cI, 8, .inl Q_sizes)), (aP, .inr (2, [.ref aP_slots, .ref aP_termsSeen, .ref aP_matches, .ref aP_matchCount, .ref aP_variables, .ref aP_havingVariable, .ref aP_told, .ref aP_parent, .ref aP_allBefore, .int P_required, .int P_hinted, .int P_count])), (aP_variables, .inl (cI, 8, .inl P_variables))] := hD
    refine lv_iand hx hb dX4_joinOf_17 ?_
    refine lv_if_ne (tgt := 23) hx hb dX4_joinOf_18 (by decide) (fun c_5 => ?_) (fun c_5 => ?_)
    · have hf := xb_f c_5 hf
      refine lv_aload_n hx hb dX4_joinOf_23 rfl (lv_at hl 0 rfl) ?_
      refine va_get (D := D) (ci := 4) (v := .ref aQ_estimates) (C := RX4) (T := TX4) (N := 4) hx hb htg giX4 hown hK hP 0 rfl rfl 2 (by decide) (htg _ kw_124) (fun _ h9 => h9) rfl dX4_joinOf_24 ?_
      refine lv_iload_n hx hb dX4_joinOf_27 rfl (lv_at hl 2 rfl) ?_
      have g_6 : vp_in x2 256 := gd_in hf
      have hf := gd_el hf
      refine va_lald hx hb hK hP 1 1 rfl rfl g_6 dX4_joinOf_28 ?_
      refine lv_aload_n hx hb dX4_joinOf_29 rfl (lv_at hl 0 rfl) ?_
      refine va_get (D := D) (ci := 4) (v := .ref aQ_sizes) (C := RX4) (T := TX4) (N := 4) hx hb htg giX4 hown hK hP 0 rfl rfl 1 (by decide) (htg _ kw_123) (fun _ h9 => h9) rfl dX4_joinOf_30 ?_
      refine lv_iload_n hx hb dX4_joinOf_33 rfl (lv_at hl 1 rfl) ?_
      refine va_iald hx hb hK hP 2 0 rfl rfl g_2 dX4_joinOf_34 ?_
      refine lv_i2l hx hb dX4_joinOf_35 rfl ?_
      refine W.lcmp hx hb dX4_joinOf_36 ?_
      refine lv_if_gt (tgt := 44) hx hb dX4_joinOf_37 (by decide) (fun c_7 => ?_) (fun c_7 => ?_)
      · have hf := xb_t c_7 hf
        refine lv_iconst (v := (3 : Int32)) hx hb dX4_joinOf_44 (by decide) ?_
        have hf := Option.some.inj hf
        subst hf
        exact x_iret (fun _ => 0) hQ hx hb hr hlk hK (hP.sub [3, 4, 0, 1, 2] rfl) (hD.sub [3, 4, 0, 1, 2] (by decide) rfl) hS dX4_joinOf_45
      · have hf := xb_f c_7 hf
        refine lv_iconst (v := (2 : Int32)) hx hb dX4_joinOf_40 (by decide) ?_
        refine lv_goto (tgt := 45) hx hb dX4_joinOf_41 (by decide) ?_
        have hf := Option.some.inj hf
        subst hf
        exact x_iret (fun _ => 0) hQ hx hb hr hlk hK (hP.sub [3, 4, 0, 1, 2] rfl) (hD.sub [3, 4, 0, 1, 2] (by decide) rfl) hS dX4_joinOf_45
    · have hf := xb_t c_5 hf
      refine lv_iconst (v := (1 : Int32)) hx hb dX4_joinOf_21 (by decide) ?_
      have hf := Option.some.inj hf
      subst hf
      exact x_iret (fun _ => 0) hQ hx hb hr hlk hK (hP.sub [3, 4, 0, 1, 2] rfl) (hD.sub [3, 4, 0, 1, 2] (by decide) rfl) hS dX4_joinOf_22
  · have hf := xb_t c_1 hf
    refine lv_iconst (v := (0 : Int32)) hx hb dX4_joinOf_4 (by decide) ?_
    have hf := Option.some.inj hf
    subst hf
    exact x_iret (fun _ => 0) hQ hx hb hr hlk hK hP hD hS dX4_joinOf_5
