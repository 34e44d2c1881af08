abbrev rm_f_JoinOrder_pattern : Room := { frames := 5, cells := 0, slots := 0, locals := 120 }
set_option maxHeartbeats 4000000 in
set_option maxRecDepth 100000 in
theorem c_f_JoinOrder_pattern (l : Launch) (D : va_G) (cI cJ cZ : ClassId) (sz : Nat) (n : Nat) (aJ : Nat) (x1 : Int32) (x2 : Int32) (x3 : Int32) (aT : Nat) (aP : Nat) (aF : Nat) (aQ : Nat) (aM : Nat) (aB : Nat) (J_hasRun : Int32) (aJ_plainOrder : Nat) (aC : Nat) (aP_slots : Nat) (aP_termsSeen : Nat) (aP_matches : Nat) (aP_matchCount : Nat) (aP_variables : Nat) (aP_havingVariable : Nat) (aP_told : Nat) (aP_parent : Nat) (aP_allBefore : Nat) (P_required : Int32) (P_hinted : Int32) (P_count : Int32) (P_slots : Nat → Int32) (P_variables : Nat → Int32) (P_havingVariable : Nat → Int32) (P_told : Nat → Int32) (P_parent : Nat → Int32) (aT_packed : Nat) (T_count : Int32) (T_packed : Nat → Int32) (P_matchCount : Nat → Int32) (P_matches : Nat → Int32) (P_termsSeen : Nat → Int32) {r : Int32} {P_required' : Int32} {P_count' : Int32} {P_slots' : Nat → Int32} {P_variables' : Nat → Int32} {P_havingVariable' : Nat → Int32} {P_told' : Nat → Int32} {P_parent' : Nat → Int32} {P_matchCount' : Nat → Int32} {P_matches' : Nat → Int32} {P_termsSeen' : Nat → Int32} (hf : f_JoinOrder_pattern n x1 x2 x3 P_required P_count P_slots P_variables P_havingVariable P_told P_parent T_count T_packed P_matchCount P_matches P_termsSeen = some (r, P_required', P_count', P_slots', P_variables', P_havingVariable', P_told', P_parent', P_matchCount', P_matches', P_termsSeen')) : Met l yX0_pattern (.code yX0_pattern cX0_pattern 4 (some .int) :: GW) rm_f_JoinOrder_pattern (va_Pc [.ref aJ, .int x1, .int x2, .int x3] (xP D (xT cI cJ cZ) sz [(aJ, .inr (0, [.ref aT, .ref aP, .ref aF, .ref aQ, .ref aM, .ref aB, .int J_hasRun, .ref aJ_plainOrder, .ref aC])), (aP, .inr (2, [.ref aP_slots, .ref aP_termsSeen, .ref aP_matches, .ref aP_matchCount, .ref aP_variables, .ref aP_havingVariable, .ref aP_told, .ref aP_parent, .ref aP_allBefore, .int P_required, .int P_hinted, .int P_count])), (aP_slots, .inl (cI, 24, .inl P_slots)), (aP_variables, .inl (cI, 8, .inl P_variables)), (aP_havingVariable, .inl (cI, 8, .inl P_havingVariable)), (aP_told, .inl (cI, 8, .inl P_told)), (aP_parent, .inl (cI, 8, .inl P_parent)), (aT, .inr (6, [.ref aT_packed, .int T_count])), (aT_packed, .inl (cI, 80, .inl T_packed)), (aP_matchCount, .inl (cI, 8, .inl P_matchCount)), (aP_matches, .inl (cI, 640, .inl P_matches)), (aP_termsSeen, .inl (cI, 24, .inl P_termsSeen))])) (va_Qi (fun r2 (_ : Nat → Nat) => r2 = r) (bB D (xT cI cJ cZ) (fun _ => [(aJ, .inr (0, [.ref aT, .ref aP, .ref aF, .ref aQ, .ref aM, .ref aB, .int J_hasRun, .ref aJ_plainOrder, .ref aC])), (aP, .inr (2, [.ref aP_slots, .ref aP_termsSeen, .ref aP_matches, .ref aP_matchCount, .ref aP_variables, .ref aP_havingVariable, .ref aP_told, .ref aP_parent, .ref aP_allBefore, .int P_required', .int P_hinted, .int P_count'])), (aP_slots, .inl (cI, 24, .inl P_slots')), (aP_variables, .inl (cI, 8, .inl P_variables')), (aP_havingVariable, .inl (cI, 8, .inl P_havingVariable')), (aP_told, .inl (cI, 8, .inl P_told')), (aP_parent, .inl (cI, 8, .inl P_parent')), (aT, .inr (6, [.ref aT_packed, .int T_count])), (aT_packed, .inl (cI, 80, .inl T_packed)), (aP_matchCount, .inl (cI, 8, .inl P_matchCount')), (aP_matches, .inl (cI, 640, .inl P_matches')), (aP_termsSeen, .inl (cI, 24, .inl P_termsSeen'))]) (va_A [(aJ, .inr (0, [.ref aT, .ref aP, .ref aF, .ref aQ, .ref aM, .ref aB, .int J_hasRun, .ref aJ_plainOrder, .ref aC])), (aP, .inr (2, [.ref aP_slots, .ref aP_termsSeen, .ref aP_matches, .ref aP_matchCount, .ref aP_variables, .ref aP_havingVariable, .ref aP_told, .ref aP_parent, .ref aP_allBefore, .int P_required, .int P_hinted, .int P_count])), (aP_slots, .inl (cI, 24, .inl P_slots)), (aP_variables, .inl (cI, 8, .inl P_variables)), (aP_havingVariable, .inl (cI, 8, .inl P_havingVariable)), (aP_told, .inl (cI, 8, .inl P_told)), (aP_parent, .inl (cI, 8, .inl P_parent)), (aT, .inr (6, [.ref aT_packed, .int T_count])), (aT_packed, .inl (cI, 80, .inl T_packed)), (aP_matchCount, .inl (cI, 8, .inl P_matchCount)), (aP_matches, .inl (cI, 640, .inl P_matches)), (aP_termsSeen, .inl (cI, 24, .inl P_termsSeen))] sz)) (va_A [(aJ, .inr (0, [.ref aT, .ref aP, .ref aF, .ref aQ, .ref aM, .ref aB, .int J_hasRun, .ref aJ_plainOrder, .ref aC])), (aP, .inr (2, [.ref aP_slots, .ref aP_termsSeen, .ref aP_matches, .ref aP_matchCount, .ref aP_variables, .ref aP_havingVariable, .ref aP_told, .ref aP_parent, .ref aP_allBefore, .int P_required, .int P_hinted, .int P_count])), (aP_slots, .inl (cI, 24, .inl P_slots)), (aP_variables, .inl (cI, 8, .inl P_variables)), (aP_havingVariable, .inl (cI, 8, .inl P_havingVariable)), (aP_told, .inl (cI, 8, .inl P_told)), (aP_parent, .inl (cI, 8, .inl P_parent)), (aT, .inr (6, [.ref aT_packed, .int T_count])), (aT_packed, .inl (cI, 80, .inl T_packed)), (aP_matchCount, .inl (cI, 8, .inl P_matchCount)), (aP_matches, .inl (cI, 640, .inl P_matches)), (aP_termsSeen, .inl (cI, 24, .inl P_termsSeen))] sz)) 0 0 (va_A [(aJ, .inr (0, [.ref aT, .ref aP, .ref aF, .ref aQ, .ref aM, .ref aB, .int J_hasRun, .ref aJ_plainOrder, .ref aC])), (aP, .inr (2, [.ref aP_slots, .ref aP_termsSeen, .ref aP_matches, .ref aP_matchCount, .ref aP_variables, .ref aP_havingVariable, .ref aP_told, .ref aP_parent, .ref aP_allBefore, .int P_required, .int P_hinted, .int P_count])), (aP_slots, .inl (cI, 24, .inl P_slots)), (aP_variables, .inl (cI, 8, .inl P_variables)), (aP_havingVariable, .inl (cI, 8, .inl P_havingVariable)), (aP_told, .inl (cI, 8, .inl P_told)), (aP_parent, .inl (cI, 8, .inl P_parent)), (aT, .inr (6, [.ref aT_packed, .int T_count])), (aT_packed, .inl (cI, 80, .inl T_packed)), (aP_matchCount, .inl (cI, 8, .inl P_matchCount)), (aP_matches, .inl (cI, 640, .inl P_matches)), (aP_termsSeen, .inl (cI, 24, .inl P_termsSeen))] sz) := by
  refine con_start (y := yX0_pattern) (bytes := cX0_pattern) (maxL := 4) (av := [.ref aJ, .int x1, .int x2, .int x3]) (Qc := fun A => va_Qi (fun r2 (_ : Nat → Nat) => r2 = r) (bB D (xT cI cJ cZ) (fun _ => [(aJ, .inr (0, [.ref aT, .ref aP, .ref aF, .ref aQ, .ref aM, .ref aB, .int J_hasRun, .ref aJ_plainOrder, .ref aC])), (aP, .inr (2, [.ref aP_slots, .ref aP_termsSeen, .ref aP_matches, .ref aP_matchCount, .ref aP_variables, .ref aP_havingVariable, .ref aP_told, .ref aP_parent, .ref aP_allBefore, .int P_required', .int P_hinted, .int P_count'])), (aP_slots, .inl (cI, 24, .inl P_slots')), (aP_variables, .inl (cI, 8, .inl P_variables')), (aP_havingVariable, .inl (cI, 8, .inl P_havingVariable')), (aP_told, .inl (cI, 8, .inl P_told')), (aP_parent, .inl (cI, 8, .inl P_parent')), (aT, .inr (6, [.ref aT_packed, .int T_count])), (aT_packed, .inl (cI, 80, .inl T_packed)), (aP_matchCount, .inl (cI, 8, .inl P_matchCount')), (aP_matches, .inl (cI, 640, .inl P_matches')), (aP_termsSeen, .inl (cI, 24, .inl P_termsSeen'))]) A) A) (by decide) (Nat.le_of_ble_eq_true rfl) ?_
  intro p e s m args below meth c Q A hx hb hr hlk hml hown hin htg hN hK hQ hA hP hD hS ls hl
  have hl : lv_has ls 4 [(0, .ref aJ), (1, .int x1), (2, .int x2), (3, .int x3)] := hl
  have hown : s.vm.findClass RX0 = some m.cls := hown
  have hf := (f_JoinOrder_pattern_u n x1 x2 x3 P_required P_count P_slots P_variables P_havingVariable P_told P_parent T_count T_packed P_matchCount P_matches P_termsSeen).symm.trans hf
  refine lv_iload_n hx hb dX0_pattern_0 rfl (lv_at hl 1 rfl) ?_
  refine x_z (xrS (As := [.int x1]) (rest := []) ⟨hx, hb, hml, hown, htg⟩ (c_f_JoinOrder_isSlot l D cI cJ cZ _ x1 rfl) kc_f_JoinOrder_isSlot kw_276 kw_277 kw_1 dd_f_JoinOrder_isSlot ⟨Nat.le_of_ble_eq_true rfl, Nat.le_of_ble_eq_true rfl⟩ rfl rfl (hP.sub [] rfl) (hD.sub [] (by decide) rfl) hK hN rfl hl.1 rfl (Nat.le_of_ble_eq_true rfl) dX0_pattern_1 ⟨Nat.le_of_ble_eq_true rfl, Nat.le_of_ble_eq_true rfl⟩) hP hD hS hA [] [0, 1, 2, 3, 4, 5, 6, 7, 8, 9, 10, 11] rfl rfl (by decide) (by decide) (fun _ H locs bz_1 hP hD hS => ?_)
  have hP : va_P D vwCl [(aJ, .inr (0, [.ref aT, .ref aP, .ref aF, .ref aQ, .ref aM, .ref aB, .int J_hasRun, .ref aJ_plainOrder, .ref aC])), (aP, .inr (2, [.ref aP_slots, .ref aP_termsSeen, .ref aP_matches, .ref aP_matchCount, .ref aP_variables, .ref aP_havingVariable, .ref aP_told, .ref aP_parent, .ref aP_allBefore, .int P_required, .int P_hinted, .int P_count])), (aP_slots, .inl (cI, 24, .inl P_slots)), (aP_variables, .inl (cI, 8, .inl P_variables)), (aP_havingVariable, .inl (cI, 8, .inl P_havingVariable)), (aP_told, .inl (cI, 8, .inl P_told)), (aP_parent, .inl (cI, 8, .inl P_parent)), (aT, .inr (6, [.ref aT_packed, .int T_count])), (aT_packed, .inl (cI, 80, .inl T_packed)), (aP_matchCount, .inl (cI, 8, .inl P_matchCount)), (aP_matches, .inl (cI, 640, .inl P_matches)), (aP_termsSeen, .inl (cI, 24, .inl P_termsSeen))] H := hP
  have hD : va_D A [(aJ, .inr (0, [.ref aT, .ref aP, .ref aF, .ref aQ, .ref aM, .ref aB, .int J_hasRun, .ref aJ_plainOrder, .ref aC])), (aP, .inr (2, [.ref aP_slots, .ref aP_termsSeen, .ref aP_matches, .ref aP_matchCount, .ref aP_variables, .ref aP_havingVariable, .ref aP_told, .ref aP_parent, .ref aP_allBefore, .int P_required, .int P_hinted, .int P_count])), (aP_slots, .inl (cI, 24, .inl P_slots)), (aP_variables, .inl (cI, 8, .inl P_variables)), (aP_havingVariable, .inl (cI, 8, .inl P_havingVariable)), (aP_told, .inl (cI, 8, .inl P_told)), (aP_parent, .inl (cI, 8, .inl P_parent)), (aT, .inr (6, [.ref aT_packed, .int T_count])), (aT_packed, .inl (cI, 80, .inl T_packed)), (aP_matchCount, .inl (cI, 8, .inl P_matchCount)), (aP_matches, .inl (cI, 640, .inl P_matches)), (aP_termsSeen, .inl (cI, 24, .inl P_termsSeen))] := hD
  refine lv_if_eq (tgt := 21) hx hb dX0_pattern_4 (by decide) (fun c_2 => ?_) (fun c_2 => ?_)
  · have hf := xb_t c_2 hf
    refine lv_bipush (v := (-2 : Int32)) hx hb dX0_pattern_21 (by decide) ?_
    have hf := Option.some.inj hf
    obtain ⟨k9_0, f9_0⟩ := Prod.mk.inj hf
    obtain ⟨k9_1, f9_1⟩ := Prod.mk.inj f9_0
    obtain ⟨k9_2, f9_2⟩ := Prod.mk.inj f9_1
    obtain ⟨k9_3, f9_3⟩ := Prod.mk.inj f9_2
    obtain ⟨k9_4, f9_4⟩ := Prod.mk.inj f9_3
    obtain ⟨k9_5, f9_5⟩ := Prod.mk.inj f9_4
    obtain ⟨k9_6, f9_6⟩ := Prod.mk.inj f9_5
    obtain ⟨k9_7, f9_7⟩ := Prod.mk.inj f9_6
    obtain ⟨k9_8, f9_8⟩ := Prod.mk.inj f9_7
    obtain ⟨k9_9, f9_9⟩ := Prod.mk.inj f9_8
    subst k9_0
    subst k9_1
    subst k9_2
    subst k9_3
    subst k9_4
    subst k9_5
    subst k9_6
    subst k9_7
    subst k9_8
    subst k9_9
    subst f9_9
    exact x_iret (fun _ => 0) hQ hx hb hr hlk hK hP hD hS dX0_pattern_23
  · have hf := xb_f c_2 hf
    refine lv_iload_n hx hb dX0_pattern_7 rfl (lv_at hl 2 rfl) ?_
    refine x_z (xrS (As := [.int x2]) (rest := []) ⟨hx, hb, hml, hown, htg⟩ (c_f_JoinOrder_isSlot l D cI cJ cZ _ x2 rfl) kc_f_JoinOrder_isSlot kw_276 kw_277 kw_1 dd_f_JoinOrder_isSlot ⟨Nat.le_of_ble_eq_true rfl, Nat.le_of_ble_eq_true rfl⟩ rfl rfl (hP.sub [] rfl) (hD.sub [] (by decide) rfl) hK hN rfl hl.1 rfl (Nat.le_of_ble_eq_true rfl) dX0_pattern_8 ⟨Nat.le_of_ble_eq_true rfl, Nat.le_of_ble_eq_true rfl⟩) hP hD hS hA [] [0, 1, 2, 3, 4, 5, 6, 7, 8, 9, 10, 11] rfl rfl (by decide) (by decide) (fun _ H locs bz_3 hP hD hS => ?_)
    have hP : va_P D vwCl [(aJ, .inr (0, [.ref aT, .ref aP, .ref aF, .ref aQ, .ref aM, .ref aB, .int J_hasRun, .ref aJ_plainOrder, .ref aC])), (aP, .inr (2, [.ref aP_slots, .ref aP_termsSeen, .ref aP_matches, .ref aP_matchCount, .ref aP_variables, .ref aP_havingVariable, .ref aP_told, .ref aP_parent, .ref aP_allBefore, .int P_required, .int P_hinted, .int P_count])), (aP_slots, .inl (cI, 24, .inl P_slots)), (aP_variables, .inl (cI, 8, .inl P_variables)), (aP_havingVariable, .inl (cI, 8, .inl P_havingVariable)), (aP_told, .inl (cI, 8, .inl P_told)), (aP_parent, .inl (cI, 8, .inl P_parent)), (aT, .inr (6, [.ref aT_packed, .int T_count])), (aT_packed, .inl (cI, 80, .inl T_packed)), (aP_matchCount, .inl (cI, 8, .inl P_matchCount)), (aP_matches, .inl (cI, 640, .inl P_matches)), (aP_termsSeen, .inl (cI, 24, .inl P_termsSeen))] H := hP
    have hD : va_D A [(aJ, .inr (0, [.ref aT, .ref aP, .ref aF, .ref aQ, .ref aM, .ref aB, .int J_hasRun, .ref aJ_plainOrder, .ref aC])), (aP, .inr (2, [.ref aP_slots, .ref aP_termsSeen, .ref aP_matches, .ref aP_matchCount, .ref aP_variables, .ref aP_havingVariable, .ref aP_told, .ref aP_parent, .ref aP_allBefore, .int P_required, .int P_hinted, .int P_count])), (aP_slots, .inl (cI, 24, .inl P_slots)), (aP_variables, .inl (cI, 8, .inl P_variables)), (aP_havingVariable, .inl (cI, 8, .inl P_havingVariable)), (aP_told, .inl (cI, 8, .inl P_told)), (aP_parent, .inl (cI, 8, .inl P_parent)), (aT, .inr (6, [.ref aT_packed, .int T_count])), (aT_packed, .inl (cI, 80, .inl T_packed)), (aP_matchCount, .inl (cI, 8, .inl P_matchCount)), (aP_matches, .inl (cI, 640, .inl P_matches)), (aP_termsSeen, .inl (cI, 24, .inl P_termsSeen))] := hD
    refine lv_if_eq (tgt := 21) hx hb dX0_pattern_11 (by decide) (fun c_4 => ?_) (fun c_4 => ?_)
    · have hf := xb_t c_4 hf
      refine lv_bipush (v := (-2 : Int32)) hx hb dX0_pattern_21 (by decide) ?_
      have hf := Option.some.inj hf
      obtain ⟨k9_0, f9_0⟩ := Prod.mk.inj hf
      obtain ⟨k9_1, f9_1⟩ := Prod.mk.inj f9_0
      obtain ⟨k9_2, f9_2⟩ := Prod.mk.inj f9_1
      obtain ⟨k9_3, f9_3⟩ := Prod.mk.inj f9_2
      obtain ⟨k9_4, f9_4⟩ := Prod.mk.inj f9_3
      obtain ⟨k9_5, f9_5⟩ := Prod.mk.inj f9_4
      obtain ⟨k9_6, f9_6⟩ := Prod.mk.inj f9_5
      obtain ⟨k9_7, f9_7⟩ := Prod.mk.inj f9_6
      obtain ⟨k9_8, f9_8⟩ := Prod.mk.inj f9_7
      obtain ⟨k9_9, f9_9⟩ := Prod.mk.inj f9_8
      subst k9_0
      subst k9_1
      subst k9_2
      subst k9_3
      subst k9_4
      subst k9_5
      subst k9_6
      subst k9_7
      subst k9_8
      subst k9_9
      subst f9_9
      exact x_iret (fun _ => 0) hQ hx hb hr hlk hK hP hD hS dX0_pattern_23
    · have hf := xb_f c_4 hf
      refine lv_iload_n hx hb dX0_pattern_14 rfl (lv_at hl 3 rfl) ?_
      refine x_z (xrS (As := [.int x3]) (rest := []) ⟨hx, hb, hml, hown, htg⟩ (c_f_JoinOrder_isSlot l D cI cJ cZ _ x3 rfl) kc_f_JoinOrder_isSlot kw_276 kw_277 kw_1 dd_f_JoinOrder_isSlot ⟨Nat.le_of_ble_eq_true rfl, Nat.le_of_ble_eq_true rfl⟩ rfl rfl (hP.sub [] rfl) (hD.sub [] (by decide) rfl) hK hN rfl hl.1 rfl (Nat.le_of_ble_eq_true rfl) dX0_pattern_15 ⟨Nat.le_of_ble_eq_true rfl, Nat.le_of_ble_eq_true rfl⟩) hP hD hS hA [] [0, 1, 2, 3, 4, 5, 6, 7, 8, 9, 10, 11] rfl rfl (by decide) (by decide) (fun _ H locs bz_5 hP hD hS => ?_)
      have hP : va_P D vwCl [(aJ, .inr (0, [.ref aT, .ref aP, .ref aF, .ref aQ, .ref aM, .ref aB, .int J_hasRun, .ref aJ_plainOrder, .ref aC])), (aP, .inr (2, [.ref aP_slots, .ref aP_termsSeen, .ref aP_matches, .ref aP_matchCount, .ref aP_variables, .ref aP_havingVariable, .ref aP_told, .ref aP_parent, .ref aP_allBefore, .int P_required, .int P_hinted, .int P_count])), (aP_slots, .inl (cI, 24, .inl P_slots)), (aP_variables, .inl (cI, 8, .inl P_variables)), (aP_havingVariable, .inl (cI, 8, .inl P_havingVariable)), (aP_told, .inl (cI, 8, .inl P_told)), (aP_parent, .inl (cI, 8, .inl P_parent)), (aT, .inr (6, [.ref aT_packed, .int T_count])), (aT_packed, .inl (cI, 80, .inl T_packed)), (aP_matchCount, .inl (cI, 8, .inl P_matchCount)), (aP_matches, .inl (cI, 640, .inl P_matches)), (aP_termsSeen, .inl (cI, 24, .inl P_termsSeen))] H := hP
      have hD : va_D A [(aJ, .inr (0, [.ref aT, .ref aP, .ref aF, .ref aQ, .ref aM, .ref aB, .int J_hasRun, .ref aJ_plainOrder, .ref aC])), (aP, .inr (2, [.ref aP_slots, .ref aP_termsSeen, .ref aP_matches, .ref aP_matchCount, .ref aP_variables, .ref aP_havingVariable, .ref aP_told, .ref aP_parent, .ref aP_allBefore, .int P_required, .int P_hinted, .int P_count])), (aP_slots, .inl (cI, 24, .inl P_slots)), (aP_variables, .inl (cI, 8, .inl P_variables)), (aP_havingVariable, .inl (cI, 8, .inl P_havingVariable)), (aP_told, .inl (cI, 8, .inl P_told)), (aP_parent, .inl (cI, 8, .inl P_parent)), (aT, .inr (6, [.ref aT_packed, .int T_count])), (aT_packed, .inl (cI, 80, .inl T_packed)), (aP_matchCount, .inl (cI, 8, .inl P_matchCount)), (aP_matches, .inl (cI, 640, .inl P_matches)), (aP_termsSeen, .inl (cI, 24, .inl P_termsSeen))] := hD
      refine lv_if_ne (tgt := 24) hx hb dX0_pattern_18 (by decide) (fun c_6 => ?_) (fun c_6 => ?_)
      · have hf := xb_f c_6 hf
        refine lv_aload_n hx hb dX0_pattern_24 rfl (lv_at hl 0 rfl) ?_
        refine va_get (D := D) (ci := 0) (v := .ref aP) (C := RX0) (T := TX0) (N := 9) hx hb htg giX0 hown hK hP 0 rfl rfl 1 (by decide) (htg _ kw_201) (fun _ h9 => h9) rfl dX0_pattern_25 ?_
        refine va_getN (D := D) (ci := 2) (v := .int P_count) (C := RX2) (T := TX2) (N := 12) hx hb htg giX2 hown hK hP 1 rfl rfl 11 (by decide) (va_Nw.use rfl (hN _ kn_64)) (fun _ h9 => h9) rfl dX0_pattern_28 ?_
        refine lv_bipush (v := (8 : Int32)) hx hb dX0_pattern_31 (by decide) ?_
        refine lv_icmp_lt (tgt := 39) hx hb dX0_pattern_33 (by decide) (fun c_7 => ?_) (fun c_7 => ?_)
        · have hf := xb_t c_7 hf
          refine lv_aload_n hx hb dX0_pattern_39 rfl (lv_at hl 0 rfl) ?_
          refine va_get (D := D) (ci := 0) (v := .ref aP) (C := RX0) (T := TX0) (N := 9) hx hb htg giX0 hown hK hP 0 rfl rfl 1 (by decide) (htg _ kw_201) (fun _ h9 => h9) rfl dX0_pattern_40 ?_
          refine lv_iload_n hx hb dX0_pattern_43 rfl (lv_at hl 1 rfl) ?_
          refine lv_iload_n hx hb dX0_pattern_44 rfl (lv_at hl 2 rfl) ?_
          refine lv_iload_n hx hb dX0_pattern_45 rfl (lv_at hl 3 rfl) ?_
          refine lv_aload_n hx hb dX0_pattern_46 rfl (lv_at hl 0 rfl) ?_
          refine va_get (D := D) (ci := 0) (v := .ref aT) (C := RX0) (T := TX0) (N := 9) hx hb htg giX0 hown hK hP 0 rfl rfl 0 (by decide) (htg _ kw_200) (fun _ h9 => h9) rfl dX0_pattern_47 ?_
          obtain ⟨r_9, P_required_10, P_count_11, P_slots_12, P_variables_13, P_havingVariable_14, P_told_15, P_parent_16, P_matchCount_17, P_matches_18, P_termsSeen_19, hq_8, hf⟩ := bn11_c hf
          refine x_i (xrV (As := [.int x1, .int x2, .int x3, .ref aT]) (b := aP) (rest := []) ⟨hx, hb, hml, hown, htg⟩ (c_f_Patterns_add l D cI cJ cZ _ n aP x1 x2 x3 aT aP_slots aP_termsSeen aP_matches aP_matchCount aP_variables aP_havingVariable aP_told aP_parent aP_allBefore P_required P_hinted P_count P_slots P_variables P_havingVariable P_told P_parent aT_packed T_count T_packed P_matchCount P_matches P_termsSeen hq_8) kc_f_Patterns_add kw_282 kw_283 kw_284 kw_3 dd_f_Patterns_add ⟨Nat.le_of_ble_eq_true rfl, Nat.le_of_ble_eq_true rfl⟩ rfl rfl (hP.sub [1, 2, 3, 4, 5, 6, 7, 8, 9, 10, 11] rfl) (hD.sub [1, 2, 3, 4, 5, 6, 7, 8, 9, 10, 11] (by decide) rfl) hK hN hP (q0 := 1) rfl rfl rfl hl.1 rfl (Nat.le_of_ble_eq_true rfl) dX0_pattern_50 ⟨Nat.le_of_ble_eq_true rfl, Nat.le_of_ble_eq_true rfl⟩) hP hD hS hA [1, 2, 3, 4, 5, 6, 7, 8, 9, 10, 11] [0] rfl rfl (by decide) (by decide) (fun _ H locs hP hD hS => ?_)
          have hP : va_P D vwCl [(aJ, .inr (0, [.ref aT, .ref aP, .ref aF, .ref aQ, .ref aM, .ref aB, .int J_hasRun, .ref aJ_plainOrder, .ref aC])), (aP, .inr (2, [.ref aP_slots, .ref aP_termsSeen, .ref aP_matches, .ref aP_matchCount, .ref aP_variables, .ref aP_havingVariable, .ref aP_told, .ref aP_parent, .ref aP_allBefore, .int P_required_10, .int P_hinted, .int P_count_11])), (aP_slots, .inl (cI, 24, .inl P_slots_12)), (aP_variables, .inl (cI, 8, .inl P_variables_13)), (aP_havingVariable, .inl (cI, 8, .inl P_havingVariable_14)), (aP_told, .inl (cI, 8, .inl P_told_15)), (aP_parent, .inl (cI, 8, .inl P_parent_16)), (aT, .inr (6, [.ref aT_packed, .int T_count])), (aT_packed, .inl (cI, 80, .inl T_packed)), (aP_matchCount, .inl (cI, 8, .inl P_matchCount_17)), (aP_matches, .inl (cI, 640, .inl P_matches_18)), (aP_termsSeen, .inl (cI, 24, .inl P_termsSeen_19))] H := hP
          have hD : va_D A [(aJ, .inr (0, [.ref aT, .ref aP, .ref aF, .ref aQ, .ref aM, .ref aB, .int J_hasRun, .ref aJ_plainOrder, .ref aC])), (aP, .inr (2, [.ref aP_slots, .ref aP_termsSeen, .ref aP_matches, .ref aP_matchCount, .ref aP_variables, .ref aP_havingVariable, .ref aP_told, .ref aP_parent, .ref aP_allBefore, .int P_required_10, .int P_hinted, .int P_count_11])), (aP_slots, .inl (cI, 24, .inl P_slots_12)), (aP_variables, .inl (cI, 8, .inl P_variables_13)), (aP_havingVariable, .inl (cI, 8, .inl P_havingVariable_14)), (aP_told, .inl (cI, 8, .inl P_told_15)), (aP_parent, .inl (cI, 8, .inl P_parent_16)), (aT, .inr (6, [.ref aT_packed, .int T_count])), (aT_packed, .inl (cI, 80, .inl T_packed)), (aP_matchCount, .inl (cI, 8, .inl P_matchCount_17)), (aP_matches, .inl (cI, 640, .inl P_matches_18)), (aP_termsSeen, .inl (cI, 24, .inl P_termsSeen_19))] := hD
          have hf := Option.some.inj hf
          obtain ⟨k9_0, f9_0⟩ := Prod.mk.inj hf
          obtain ⟨k9_1, f9_1⟩ := Prod.mk.inj f9_0
          obtain ⟨k9_2, f9_2⟩ := Prod.mk.inj f9_1
          obtain ⟨k9_3, f9_3⟩ := Prod.mk.inj f9_2
          obtain ⟨k9_4, f9_4⟩ := Prod.mk.inj f9_3
          obtain ⟨k9_5, f9_5⟩ := Prod.mk.inj f9_4
          obtain ⟨k9_6, f9_6⟩ := Prod.mk.inj f9_5
          obtain ⟨k9_7, f9_7⟩ := Prod.mk.inj f9_6
          obtain ⟨k9_8, f9_8⟩ := Prod.mk.inj f9_7
          obtain ⟨k9_9, f9_9⟩ := Prod.mk.inj f9_8
          subst k9_0
          subst k9_1
          subst k9_2
          subst k9_3
          subst k9_4
          subst k9_5
          subst k9_6
          subst k9_7
          subst k9_8
          subst k9_9
          subst f9_9
          exact x_iret (fun _ => 0) hQ hx hb hr hlk hK hP hD hS dX0_pattern_53
        · have hf := xb_f c_7 hf
          refine lv_bipush (v := (-4 : Int32)) hx hb dX0_pattern_36 (by decide) ?_
          have hf := Option.some.inj hf
          obtain ⟨k9_0, f9_0⟩ := Prod.mk.inj hf
          obtain ⟨k9_1, f9_1⟩ := Prod.mk.inj f9_0
          obtain ⟨k9_2, f9_2⟩ := Prod.mk.inj f9_1
          obtain ⟨k9_3, f9_3⟩ := Prod.mk.inj f9_2
          obtain ⟨k9_4, f9_4⟩ := Prod.mk.inj f9_3
          obtain ⟨k9_5, f9_5⟩ := Prod.mk.inj f9_4
          obtain ⟨k9_6, f9_6⟩ := Prod.mk.inj f9_5
          obtain ⟨k9_7, f9_7⟩ := Prod.mk.inj f9_6
          obtain ⟨k9_8, f9_8⟩ := Prod.mk.inj f9_7
          obtain ⟨k9_9, f9_9⟩ := Prod.mk.inj f9_8
          subst k9_0
          subst k9_1
          subst k9_2
          subst k9_3
          subst k9_4
          subst k9_5
          subst k9_6
          subst k9_7
          subst k9_8
          subst k9_9
          subst f9_9
          exact x_iret (fun _ => 0) hQ hx hb hr hlk hK hP hD hS dX0_pattern_38
      · have hf := xb_t c_6 hf
        refine lv_bipush (v := (-2 : Int32)) hx hb dX0_pattern_21 (by decide) ?_
        have hf := Option.some.inj hf
        obtain ⟨k9_0, f9_0⟩ := Prod.mk.inj hf
        obtain ⟨k9_1, f9_1⟩ := Prod.mk.inj f9_0
        obtain ⟨k9_2, f9_2⟩ := Prod.mk.inj f9_1
        obtain ⟨k9_3, f9_3⟩ := Prod.mk.inj f9_2
        obtain ⟨k9_4, f9_4⟩ := Prod.mk.inj f9_3
        obtain ⟨k9_5, f9_5⟩ := Prod.mk.inj f9_4
        obtain ⟨k9_6, f9_6⟩ := Prod.mk.inj f9_5
        obtain ⟨k9_7, f9_7⟩ := Prod.mk.inj f9_6
        obtain ⟨k9_8, f9_8⟩ := Prod.mk.inj f9_7
        obtain ⟨k9_9, f9_9⟩ := Prod.mk.inj f9_8
        subst k9_0
        subst k9_1
        subst k9_2
        subst k9_3
        subst k9_4
        subst k9_5
        subst k9_6
        subst k9_7
        subst k9_8
        subst k9_9
        subst f9_9
        exact x_iret (fun _ => 0) hQ hx hb hr hlk hK hP hD hS dX0_pattern_23
