abbrev rm_f_Patterns_putSlot : Room := { frames := 1, cells := 0, slots := 0, locals := 20 }
set_option maxHeartbeats 4000000 in
set_option maxRecDepth 100000 in
theorem c_f_Patterns_putSlot (l : Launch) (D : va_G) (cI cJ cZ : ClassId) (sz : Nat) (aP : Nat) (x1 : Int32) (x2 : Int32) (x3 : Int32) (aP_slots : Nat) (aP_termsSeen : Nat) (aP_matches : Nat) (aP_matchCount : Nat) (aP_variables : Nat) (aP_havingVariable : Nat) (aP_told : Nat) (aP_parent : Nat) (aP_allBefore : Nat) (P_required : Int32) (P_hinted : Int32) (P_count : Int32) (P_slots : Nat → Int32) (P_variables : Nat → Int32) (P_havingVariable : Nat → Int32) {P_slots' : Nat → Int32} {P_variables' : Nat → Int32} {P_havingVariable' : Nat → Int32} (hf : f_Patterns_putSlot x1 x2 x3 P_slots P_variables P_havingVariable = some (P_slots', P_variables', P_havingVariable')) : Met l yX2_putSlot (.code yX2_putSlot cX2_putSlot 4 none :: GW) rm_f_Patterns_putSlot (va_Pc [.ref aP, .int x1, .int x2, .int x3] (xP D (xT cI cJ cZ) sz [(aP, .inr (2, [.ref aP_slots, .ref aP_termsSeen, .ref aP_matches, .ref aP_matchCount, .ref aP_variables, .ref aP_havingVariable, .ref aP_told, .ref aP_parent, .ref aP_allBefore, .int P_required, .int P_hinted, .int P_count])), (aP_slots, .inl (cI, 24, .inl P_slots)), (aP_variables, .inl (cI, 8, .inl P_variables)), (aP_havingVariable, .inl (cI, 8, .inl P_havingVariable))])) (va_Qv (fun (_ : Nat → Nat) => True) (bB D (xT cI cJ cZ) (fun _ => [(aP, .inr (2, [.ref aP_slots, .ref aP_termsSeen, .ref aP_matches, .ref aP_matchCount, .ref aP_variables, .ref aP_havingVariable, .ref aP_told, .ref aP_parent, .ref aP_allBefore, .int P_required, .int P_hinted, .int P_count])), (aP_slots, .inl (cI, 24, .inl P_slots')), (aP_variables, .inl (cI, 8, .inl P_variables')), (aP_havingVariable, .inl (cI, 8, .inl P_havingVariable'))]) (va_A [(aP, .inr (2, [.ref aP_slots, .ref aP_termsSeen, .ref aP_matches, .ref aP_matchCount, .ref aP_variables, .ref aP_havingVariable, .ref aP_told, .ref aP_parent, .ref aP_allBefore, .int P_required, .int P_hinted, .int P_count])), (aP_slots, .inl (cI, 24, .inl P_slots)), (aP_variables, .inl (cI, 8, .inl P_variables)), (aP_havingVariable, .inl (cI, 8, .inl P_havingVariable))] sz)) (va_A [(aP, .inr (2, [.ref aP_slots, .ref aP_termsSeen, .ref aP_matches, .ref aP_matchCount, .ref aP_variables, .ref aP_havingVariable, .ref aP_told, .ref aP_parent, .ref aP_allBefore, .int P_required, .int P_hinted, .int P_count])), (aP_slots, .inl (cI, 24, .inl P_slots)), (aP_variables, .inl (cI, 8, .inl P_variables)), (aP_havingVariable, .inl (cI, 8, .inl P_havingVariable))] sz)) 0 0 (va_A [(aP, .inr (2, [.ref aP_slots, .ref aP_termsSeen, .ref aP_matches, .ref aP_matchCount, .ref aP_variables, .ref aP_havingVariable, .ref aP_told, .ref aP_parent, .ref aP_allBefore, .int P_required, .int P_hinted, .int P_count])), (aP_slots, .inl (cI, 24, .inl P_slots)), (aP_variables, .inl (cI, 8, .inl P_variables)), (aP_havingVariable, .inl (cI, 8, .inl P_havingVariable))] sz) := by
  refine con_start (y := yX2_putSlot) (bytes := cX2_putSlot) (maxL := 4) (av := [.ref aP, .int x1, .int x2, .int x3]) (Qc := fun A => va_Qv (fun (_ : Nat → Nat) => True) (bB D (xT cI cJ cZ) (fun _ => [(aP, .inr (2, [.ref aP_slots, .ref aP_termsSeen, .ref aP_matches, .ref aP_matchCount, .ref aP_variables, .ref aP_havingVariable, .ref aP_told, .ref aP_parent, .ref aP_allBefore, .int P_required, .int P_hinted, .int P_count])), (aP_slots, .inl (cI, 24, .inl P_slots')), (aP_variables, .inl (cI, 8, .inl P_variables')), (aP_havingVariable, .inl (cI, 8, .inl P_havingVariable'))]) A) A) (by decide) (Nat.le_of_ble_eq_true rfl) ?_
  intro p e s m args below meth c Q A hx hb hr hlk hml hown hin htg hN hK hQ hA hP hD hS ls hl
  have hl : lv_has ls 4 [(0, .ref aP), (1, .int x1), (2, .int x2), (3, .int x3)] := hl
  have hown : s.vm.findClass RX2 = some m.cls := hown
  have hf := (f_Patterns_putSlot_u x1 x2 x3 P_slots P_variables P_havingVariable).symm.trans hf
  refine lv_aload_n hx hb dX2_putSlot_0 rfl (lv_at hl 0 rfl) ?_
  refine va_get (D := D) (ci := 2) (v := .ref aP_slots) (C := RX2) (T := TX2) (N := 12) hx hb htg giX2 hown hK hP 0 rfl rfl 0 (by decide) (htg _ kw_42) (fun _ h9 => h9) rfl dX2_putSlot_1 ?_
  refine lv_iload_n hx hb dX2_putSlot_4 rfl (lv_at hl 1 rfl) ?_
  refine lv_iconst (v := (3 : Int32)) hx hb dX2_putSlot_5 (by decide) ?_
  refine lv_imul hx hb dX2_putSlot_6 ?_
  refine lv_iload_n hx hb dX2_putSlot_7 rfl (lv_at hl 2 rfl) ?_
  refine lv_iadd hx hb dX2_putSlot_8 ?_
  refine lv_iload_n hx hb dX2_putSlot_9 rfl (lv_at hl 3 rfl) ?_
  have g_1 : vp_in ((x1 * (3 : Int32)) + x2) 24 := gd_in hf
  have hf := gd_el hf
  refine x_iast hx hb hK hP hD hS 1 0 rfl rfl g_1 dX2_putSlot_10 (fun P_slots_2 eP_slots_2 H locs hP hD hS => ?_)
  have hf := nm_nm eP_slots_2 hf
  have hP : va_P D vwCl [(aP, .inr (2, [.ref aP_slots, .ref aP_termsSeen, .ref aP_matches, .ref aP_matchCount, .ref aP_variables, .ref aP_havingVariable, .ref aP_told, .ref aP_parent, .ref aP_allBefore, .int P_required, .int P_hinted, .int P_count])), (aP_slots, .inl (cI, 24, .inl P_slots_2)), (aP_variables, .inl (cI, 8, .inl P_variables)), (aP_havingVariable, .inl (cI, 8, .inl P_havingVariable))] H := hP
  have hD : va_D A [(aP, .inr (2, [.ref aP_slots, .ref aP_termsSeen, .ref aP_matches, .ref aP_matchCount, .ref aP_variables, .ref aP_havingVariable, .ref aP_told, .ref aP_parent, .ref aP_allBefore, .int P_required, .int P_hinted, .int P_count])), (aP_slots, .inl (cI, 24, .inl P_slots_2)), (aP_variables, .inl (cI, 8, .inl P_variables)), (aP_havingVariable, .inl (cI, 8, .inl P_havingVariable))] := hD
  refine lv_iload_n hx hb dX2_putSlot_11 rfl (lv_at hl 3 rfl) ?_
  refine lv_if_ge (tgt := 45) hx hb dX2_putSlot_12 (by decide) (fun c_3 => ?_) (fun c_3 => ?_)
  · have hf := xb_t c_3 hf
    have hf := Option.some.inj hf
    obtain ⟨k9_0, f9_0⟩ := Prod.mk.inj hf
    obtain ⟨k9_1, f9_1⟩ := Prod.mk.inj f9_0
    subst k9_0
    subst k9_1
    subst f9_1
    exact x_vret (fun _ => 0) hQ hx hb hr hlk hK hP hD hS dX2_putSlot_45
  · have hf := xb_f c_3 hf
    refine lv_aload_n hx hb dX2_putSlot_15 rfl (lv_at hl 0 rfl) ?_
    refine va_get (D := D) (ci := 2) (v := .ref aP_variables) (C := RX2) (T := TX2) (N := 12) hx hb htg giX2 hown hK hP 0 rfl rfl 4 (by decide) (htg _ kw_48) (fun _ h9 => h9) rfl dX2_putSlot_16 ?_
    refine lv_iload_n hx hb dX2_putSlot_19 rfl (lv_at hl 1 rfl) ?_
    refine lv_dup2_11 hx hb dX2_putSlot_20 rfl rfl ?_
    have g_4 : vp_in x1 8 := gd_in hf
    have hf := gd_el hf
    refine va_iald hx hb hK hP 2 0 rfl rfl g_4 dX2_putSlot_21 ?_
    refine lv_iconst (v := (1 : Int32)) hx hb dX2_putSlot_22 (by decide) ?_
    refine lv_iload_n hx hb dX2_putSlot_23 rfl (lv_at hl 3 rfl) ?_
    refine x_i (xrSN (As := [.int x3]) (rest := [.int (1 : Int32), .int (P_variables x1.toNatClampNeg), .int x1, .ref aP_variables]) ⟨hx, hb, hml, hown, htg⟩ (c_f_JoinOrder_indexOf l D cI cJ cZ _ x3 rfl) kc_f_JoinOrder_indexOf kn_290 kw_291 kw_1 dd_f_JoinOrder_indexOf ⟨Nat.le_of_ble_eq_true rfl, Nat.le_of_ble_eq_true rfl⟩ rfl rfl (hP.sub [] rfl) (hD.sub [] (by decide) rfl) hK hN rfl hl.1 rfl (Nat.le_of_ble_eq_true rfl) dX2_putSlot_24 ⟨Nat.le_of_ble_eq_true rfl, Nat.le_of_ble_eq_true rfl⟩) hP hD hS hA [] [0, 1, 2, 3] rfl rfl (by decide) (by decide) (fun _ H locs hP hD hS => ?_)
    have hP : va_P D vwCl [(aP, .inr (2, [.ref aP_slots, .ref aP_termsSeen, .ref aP_matches, .ref aP_matchCount, .ref aP_variables, .ref aP_havingVariable, .ref aP_told, .ref aP_parent, .ref aP_allBefore, .int P_required, .int P_hinted, .int P_count])), (aP_slots, .inl (cI, 24, .inl P_slots_2)), (aP_variables, .inl (cI, 8, .inl P_variables)), (aP_havingVariable, .inl (cI, 8, .inl P_havingVariable))] H := hP
    have hD : va_D A [(aP, .inr (2, [.ref aP_slots, .ref aP_termsSeen, .ref aP_matches, .ref aP_matchCount, .ref aP_variables, .ref aP_havingVariable, .ref aP_told, .ref aP_parent, .ref aP_allBefore, .int P_required, .int P_hinted, .int P_count])), (aP_slots, .inl (cI, 24, .inl P_slots_2)), (aP_variables, .inl (cI, 8, .inl P_variables)), (aP_havingVariable, .inl (cI, 8, .inl P_havingVariable))] := hD
    refine lv_ishl hx hb dX2_putSlot_27 ?_
    refine lv_ior hx hb dX2_putSlot_28 ?_
    refine lv_topi (fun v_6 ev_6 => ?_)
    have hf := nm_nm ev_6 hf
    refine x_iast hx hb hK hP hD hS 2 0 rfl rfl g_4 dX2_putSlot_29 (fun P_variables_7 eP_variables_7 H locs hP hD hS => ?_)
    have hf := nm_nm eP_variables_7 hf
    have hP : va_P D vwCl [(aP, .inr (2, [.ref aP_slots, .ref aP_termsSeen, .ref aP_matches, .ref aP_matchCount, .ref aP_variables, .ref aP_havingVariable, .ref aP_told, .ref aP_parent, .ref aP_allBefore, .int P_required, .int P_hinted, .int P_count])), (aP_slots, .inl (cI, 24, .inl P_slots_2)), (aP_variables, .inl (cI, 8, .inl P_variables_7)), (aP_havingVariable, .inl (cI, 8, .inl P_havingVariable))] H := hP
    have hD : va_D A [(aP, .inr (2, [.ref aP_slots, .ref aP_termsSeen, .ref aP_matches, .ref aP_matchCount, .ref aP_variables, .ref aP_havingVariable, .ref aP_told, .ref aP_parent, .ref aP_allBefore, .int P_required, .int P_hinted, .int P_count])), (aP_slots, .inl (cI, 24, .inl P_slots_2)), (aP_variables, .inl (cI, 8, .inl P_variables_7)), (aP_havingVariable, .inl (cI, 8, .inl P_havingVariable))] := hD
    refine lv_aload_n hx hb dX2_putSlot_30 rfl (lv_at hl 0 rfl) ?_
    refine va_get (D := D) (ci := 2) (v := .ref aP_havingVariable) (C := RX2) (T := TX2) (N := 12) hx hb htg giX2 hown hK hP 0 rfl rfl 5 (by decide) (htg _ kw_51) (fun _ h9 => h9) rfl dX2_putSlot_31 ?_
    refine lv_iload_n hx hb dX2_putSlot_34 rfl (lv_at hl 3 rfl) ?_
    refine x_i (xrSN (As := [.int x3]) (rest := [.ref aP_havingVariable]) ⟨hx, hb, hml, hown, htg⟩ (c_f_JoinOrder_indexOf l D cI cJ cZ _ x3 rfl) kc_f_JoinOrder_indexOf kn_290 kw_291 kw_1 dd_f_JoinOrder_indexOf ⟨Nat.le_of_ble_eq_true rfl, Nat.le_of_ble_eq_true rfl⟩ rfl rfl (hP.sub [] rfl) (hD.sub [] (by decide) rfl) hK hN rfl hl.1 rfl (Nat.le_of_ble_eq_true rfl) dX2_putSlot_35 ⟨Nat.le_of_ble_eq_true rfl, Nat.le_of_ble_eq_true rfl⟩) hP hD hS hA [] [0, 1, 2, 3] rfl rfl (by decide) (by decide) (fun _ H locs hP hD hS => ?_)
    have hP : va_P D vwCl [(aP, .inr (2, [.ref aP_slots, .ref aP_termsSeen, .ref aP_matches, .ref aP_matchCount, .ref aP_variables, .ref aP_havingVariable, .ref aP_told, .ref aP_parent, .ref aP_allBefore, .int P_required, .int P_hinted, .int P_count])), (aP_slots, .inl (cI, 24, .inl P_slots_2)), (aP_variables, .inl (cI, 8, .inl P_variables_7)), (aP_havingVariable, .inl (cI, 8, .inl P_havingVariable))] H := hP
    have hD : va_D A [(aP, .inr (2, [.ref aP_slots, .ref aP_termsSeen, .ref aP_matches, .ref aP_matchCount, .ref aP_variables, .ref aP_havingVariable, .ref aP_told, .ref aP_parent, .ref aP_allBefore, .int P_required, .int P_hinted, .int P_count])), (aP_slots, .inl (cI, 24, .inl P_slots_2)), (aP_variables, .inl (cI, 8, .inl P_variables_7)), (aP_havingVariable, .inl (cI, 8, .inl P_havingVariable))] := hD
    refine lv_dup2_11 hx hb dX2_putSlot_38 rfl rfl ?_
    have g_9 : vp_in (f_JoinOrder_indexOf x3) 8 := gd_in hf
    have hf := gd_el hf
    refine va_iald hx hb hK hP 3 0 rfl rfl g_9 dX2_putSlot_39 ?_
    refine lv_iconst (v := (1 : Int32)) hx hb dX2_putSlot_40 (by decide) ?_
    refine lv_iload_n hx hb dX2_putSlot_41 rfl (lv_at hl 1 rfl) ?_
    refine lv_ishl hx hb dX2_putSlot_42 ?_
    refine lv_ior hx hb dX2_putSlot_43 ?_
    refine lv_topi (fun v_10 ev_10 => ?_)
    have hf := nm_nm ev_10 hf
    refine x_iast hx hb hK hP hD hS 3 0 rfl rfl g_9 dX2_putSlot_44 (fun P_havingVariable_11 eP_havingVariable_11 H locs hP hD hS => ?_)
    have hf := nm_nm eP_havingVariable_11 hf
    have hP : va_P D vwCl [(aP, .inr (2, [.ref aP_slots, .ref aP_termsSeen, .ref aP_matches, .ref aP_matchCount, .ref aP_variables, .ref aP_havingVariable, .ref aP_told, .ref aP_parent, .ref aP_allBefore, .int P_required, .int P_hinted, .int P_count])), (aP_slots, .inl (cI, 24, .inl P_slots_2)), (aP_variables, .inl (cI, 8, .inl P_variables_7)), (aP_havingVariable, .inl (cI, 8, .inl P_havingVariable_11))] H := hP
    have hD : va_D A [(aP, .inr (2, [.ref aP_slots, .ref aP_termsSeen, .ref aP_matches, .ref aP_matchCount, .ref aP_variables, .ref aP_havingVariable, .ref aP_told, .ref aP_parent, .ref aP_allBefore, .int P_required, .int P_hinted, .int P_count])), (aP_slots, .inl (cI, 24, .inl P_slots_2)), (aP_variables, .inl (cI, 8, .inl P_variables_7)), (aP_havingVariable, .inl (cI, 8, .inl P_havingVariable_11))] := hD
    have hf := Option.some.inj hf
    obtain ⟨k9_0, f9_0⟩ := Prod.mk.inj hf
    obtain ⟨k9_1, f9_1⟩ := Prod.mk.inj f9_0
    subst k9_0
    subst k9_1
    subst f9_1
    exact x_vret (fun _ => 0) hQ hx hb hr hlk hK hP hD hS dX2_putSlot_45
