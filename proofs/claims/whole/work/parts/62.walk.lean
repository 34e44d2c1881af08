abbrev rm_f_Patterns_hang : Room := { frames := 0, cells := 0, slots := 0, locals := 0 }
set_option maxHeartbeats 4000000 in
set_option maxRecDepth 100000 in
theorem c_f_Patterns_hang (l : Launch) (D : va_G) (cI cJ cZ : ClassId) (sz : Nat) (aP : Nat) (x1 : Int32) (x2 : Int32) (aP_slots : Nat) (aP_termsSeen : Nat) (aP_matches : Nat) (aP_matchCount : Nat) (aP_variables : Nat) (aP_havingVariable : Nat) (aP_told : Nat) (aP_parent : Nat) (aP_allBefore : Nat) (P_required : Int32) (P_hinted : Int32) (P_count : Int32) (P_parent : Nat → Int32) {P_required' : Int32} {P_parent' : Nat → Int32} (hf : f_Patterns_hang x1 x2 P_required P_parent = some (P_required', P_parent')) : Met l yX2_hang (.code yX2_hang cX2_hang 3 none :: GW) rm_f_Patterns_hang (va_Pc [.ref aP, .int x1, .int x2] (xP D (xT cI cJ cZ) sz [(aP, .inr (2, [.ref aP_slots, .ref aP_termsSeen, .ref aP_matches, .ref aP_matchCount, .ref aP_variables, .ref aP_havingVariable, .ref aP_told, .ref aP_parent, .ref aP_allBefore, .int P_required, .int P_hinted, .int P_count])), (aP_parent, .inl (cI, 8, .inl P_parent))])) (va_Qv (fun (_ : Nat → Nat) => True) (bB D (xT cI cJ cZ) (fun _ => [(aP, .inr (2, [.ref aP_slots, .ref aP_termsSeen, .ref aP_matches, .ref aP_matchCount, .ref aP_variables, .ref aP_havingVariable, .ref aP_told, .ref aP_parent, .ref aP_allBefore, .int P_required', .int P_hinted, .int P_count])), (aP_parent, .inl (cI, 8, .inl P_parent'))]) (va_A [(aP, .inr (2, [.ref aP_slots, .ref aP_termsSeen, .ref aP_matches, .ref aP_matchCount, .ref aP_variables, .ref aP_havingVariable, .ref aP_told, .ref aP_parent, .ref aP_allBefore, .int P_required, .int P_hinted, .int P_count])), (aP_parent, .inl (cI, 8, .inl P_parent))] sz)) (va_A [(aP, .inr (2, [.ref aP_slots, .ref aP_termsSeen, .ref aP_matches, .ref aP_matchCount, .ref aP_variables, .ref aP_havingVariable, .ref aP_told, .ref aP_parent, .ref aP_allBefore, .int P_required, .int P_hinted, .int P_count])), (aP_parent, .inl (cI, 8, .inl P_parent))] sz)) 0 0 (va_A [(aP, .inr (2, [.ref aP_slots, .ref aP_termsSeen, .ref aP_matches, .ref aP_matchCount, .ref aP_variables, .ref aP_havingVariable, .ref aP_told, .ref aP_parent, .ref aP_allBefore, .int P_required, .int P_hinted, .int P_count])), (aP_parent, .inl (cI, 8, .inl P_parent))] sz) := by
  refine con_start (Qc := fun A => va_Qv (fun (_ : Nat → Nat) => True) (bB D (xT cI cJ cZ) (fun _ => [(aP, .inr (2, [.ref aP_slots, .ref aP_termsSeen, .ref aP_matches, .ref aP_matchCount, .ref aP_variables, .ref aP_havingVariable, .ref aP_told, .ref aP_parent, .ref aP_allBefore, .int P_required', .int P_hinted, .int P_count])), (aP_parent, .inl (cI, 8, .inl P_parent'))]) A) A) (by decide) (Nat.le_of_ble_eq_true rfl) ?_
  intro p e s m args below meth c Q A hx hb hr hlk hml hown hin htg hN hK hQ hA hP hD hS ls hl
  have hl : lv_has ls 3 [(0, .ref aP), (1, .int x1), (2, .int x2)] := hl
  have hown : s.vm.findClass RX2 = some m.cls := hown
  have hf := (f_Patterns_hang_u x1 x2 P_required P_parent).symm.trans hf
  refine lv_aload_n hx hb dX2_hang_0 rfl (lv_at hl 0 rfl) ?_
  refine va_get (D := D) (ci := 2) (v := .ref aP_parent) (C := RX2) (T := TX2) (N := 12) hx hb htg giX2 hown hK hP 0 rfl rfl 7 (by decide) (htg _ kw_55) (fun _ h9 => h9) rfl dX2_hang_1 ?_
  refine lv_iload_n hx hb dX2_hang_4 rfl (lv_at hl 1 rfl) ?_
  refine lv_iload_n hx hb dX2_hang_5 rfl (lv_at hl 2 rfl) ?_
  have g_1 : vp_in x1 8 := gd_in hf
  have hf := gd_el hf
  refine x_iast hx hb hK hP hD hS 1 0 rfl rfl g_1 dX2_hang_6 (fun P_parent_2 eP_parent_2 H locs hP hD hS => ?_)
  have hf := nm_nm eP_parent_2 hf
  have hP : va_P D vwCl [(aP, .inr (2, [.ref aP_slots, .ref aP_termsSeen, .ref aP_matches, .ref aP_matchCount, .ref aP_variables, .ref aP_havingVariable, .ref aP_told, .ref aP_parent, .ref aP_allBefore, .int P_required, .int P_hinted, .int P_count])), (aP_parent, .inl (cI, 8, .inl P_parent_2))] H := hP
  have hD : va_D A [(aP, .inr (2, [.ref aP_slots, .ref aP_termsSeen, .ref aP_matches, .ref aP_matchCount, .ref aP_variables, .ref aP_havingVariable, .ref aP_told, .ref aP_parent, .ref aP_allBefore, .int P_required, .int P_hinted, .int P_count])), (aP_parent, .inl (cI, 8, .inl P_parent_2))] := hD
  refine lv_aload_n hx hb dX2_hang_7 rfl (lv_at hl 0 rfl) ?_
  refine lv_dup hx hb dX2_hang_8 rfl ?_
  refine va_get (D := D) (ci := 2) (v := .int P_required) (C := RX2) (T := TX2) (N := 12) hx hb htg giX2 hown hK hP 0 rfl rfl 9 (by decide) (htg _ kw_60) (fun _ h9 => h9) rfl dX2_hang_9 ?_
  refine lv_iconst (v := (1 : Int32)) hx hb dX2_hang_12 (by decide) ?_
  refine lv_iload_n hx hb dX2_hang_13 rfl (lv_at hl 1 rfl) ?_
  refine lv_ishl hx hb dX2_hang_14 ?_
  refine lv_iconst (v := (-1 : Int32)) hx hb dX2_hang_15 (by decide) ?_
  refine lv_ixor hx hb dX2_hang_16 ?_
  refine lv_iand hx hb dX2_hang_17 ?_
  refine lv_topi (fun v_3 ev_3 => ?_)
  have hf := nm_nm ev_3 hf
  refine va_put (D := D) (ci := 2) (v := .int v_3) (ty := .int) (C := RX2) (T := TX2) (N := 12) hx hb htg giX2 tyX2 tyX2_ok nmX2 hown hK hP hD hS 0 rfl rfl 9 (by decide) (htg _ kw_60) (fun _ h9 => h9) rfl (by decide +kernel) rfl rfl (Nat.le_of_ble_eq_true rfl) dX2_hang_18 (fun H locs hP hD hS => ?_)
  have hP : va_P D vwCl [(aP, .inr (2, [.ref aP_slots, .ref aP_termsSeen, .ref aP_matches, .ref aP_matchCount, .ref aP_variables, .ref aP_havingVariable, .ref aP_told, .ref aP_parent, .ref aP_allBefore, .int v_3, .int P_hinted, .int P_count])), (aP_parent, .inl (cI, 8, .inl P_parent_2))] H := hP
  have hD : va_D A [(aP, .inr (2, [.ref aP_slots, .ref aP_termsSeen, .ref aP_matches, .ref aP_matchCount, .ref aP_variables, .ref aP_havingVariable, .ref aP_told, .ref aP_parent, .ref aP_allBefore, .int v_3, .int P_hinted, .int P_count])), (aP_parent, .inl (cI, 8, .inl P_parent_2))] := hD
  have hf := Option.some.inj hf
  cases hf
  exact x_vret (fun _ => 0) hQ hx hb hr hlk hK hP hD hS dX2_hang_21
abbrev rm_f_JoinOrder_optional : Room := { frames := 2, cells := 0, slots := 0, locals := 42 }
set_option maxHeartbeats 4000000 in
set_option maxRecDepth 100000 in
theorem c_f_JoinOrder_optional (l : Launch) (D : va_G) (cI cJ cZ : ClassId) (sz : Nat) (n : Nat) (aJ : Nat) (x1 : Int32) (x2 : Int32) (aT : Nat) (aP : Nat) (aF : Nat) (aQ : Nat) (aM : Nat) (aB : Nat) (J_hasRun : Int32) (aJ_plainOrder : Nat) (aC : Nat) (aP_slots : Nat) (aP_termsSeen : Nat) (aP_matches : Nat) (aP_matchCount : Nat) (aP_variables : Nat) (aP_havingVariable : Nat) (aP_told : Nat) (aP_parent : Nat) (aP_allBefore : Nat) (P_required : Int32) (P_hinted : Int32) (P_count : Int32) (P_parent : Nat → Int32) {r : Int32} {P_required' : Int32} {P_parent' : Nat → Int32} (hf : f_JoinOrder_optional n x1 x2 P_required P_hinted P_count P_parent = some (r, P_required', P_parent')) : Met l yX0_optional (.code yX0_optional cX0_optional 3 (some .int) :: GW) rm_f_JoinOrder_optional (va_Pc [.ref aJ, .int x1, .int x2] (xP D (xT cI cJ cZ) sz [(aJ, .inr (0, [.ref aT, .ref aP, .ref aF, .ref aQ, .ref aM, .ref aB, .int J_hasRun, .ref aJ_plainOrder, .ref aC])), (aP, .inr (2, [.ref aP_slots, .ref aP_termsSeen, .ref aP_matches, .ref aP_matchCount, .ref aP_variables, .ref aP_havingVariable, .ref aP_told, .ref aP_parent, .ref aP_allBefore, .int P_required, .int P_hinted, .int P_count])), (aP_parent, .inl (cI, 8, .inl P_parent))])) (va_Qi (fun r2 (_ : Nat → Nat) => r2 = r) (bB D (xT cI cJ cZ) (fun _ => [(aJ, .inr (0, [.ref aT, .ref aP, .ref aF, .ref aQ, .ref aM, .ref aB, .int J_hasRun, .ref aJ_plainOrder, .ref aC])), (aP, .inr (2, [.ref aP_slots, .ref aP_termsSeen, .ref aP_matches, .ref aP_matchCount, .ref aP_variables, .ref aP_havingVariable, .ref aP_told, .ref aP_parent, .ref aP_allBefore, .int P_required', .int P_hinted, .int P_count])), (aP_parent, .inl (cI, 8, .inl P_parent'))]) (va_A [(aJ, .inr (0, [.ref aT, .ref aP, .ref aF, .ref aQ, .ref aM, .ref aB, .int J_hasRun, .ref aJ_plainOrder, .ref aC])), (aP, .inr (2, [.ref aP_slots, .ref aP_termsSeen, .ref aP_matches, .ref aP_matchCount, .ref aP_variables, .ref aP_havingVariable, .ref aP_told, .ref aP_parent, .ref aP_allBefore, .int P_required, .int P_hinted, .int P_count])), (aP_parent, .inl (cI, 8, .inl P_parent))] sz)) (va_A [(aJ, .inr (0, [.ref aT, .ref aP, .ref aF, .ref aQ, .ref aM, .ref aB, .int J_hasRun, .ref aJ_plainOrder, .ref aC])), (aP, .inr (2, [.ref aP_slots, .ref aP_termsSeen, .ref aP_matches, .ref aP_matchCount, .ref aP_variables, .ref aP_havingVariable, .ref aP_told, .ref aP_parent, .ref aP_allBefore, .int P_required, .int P_hinted, .int P_count])), (aP_parent, .inl (cI, 8, .inl P_parent))] sz)) 0 0 (va_A [(aJ, .inr (0, [.ref aT, .ref aP, .ref aF, .ref aQ, .ref aM, .ref aB, .int J_hasRun, .ref aJ_plainOrder, .ref aC])), (aP, .inr (2, [.ref aP_slots, .ref aP_termsSeen, .ref aP_matches, .ref aP_matchCount, .ref aP_variables, .ref aP_havingVariable, .ref aP_told, .ref aP_parent, .ref aP_allBefore, .int P_required, .int P_hinted, .int P_count])), (aP_parent, .inl (cI, 8, .inl P_parent))] sz) := by
  refine con_start (Qc := fun A => va_Qi (fun r2 (_ : Nat → Nat) => r2 = r) (bB D (xT cI cJ cZ) (fun _ => [(aJ, .inr (0, [.ref aT, .ref aP, .ref aF, .ref aQ, .ref aM, .ref aB, .int J_hasRun, .ref aJ_plainOrder, .ref aC])), (aP, .inr (2, [.ref aP_slots, .ref aP_termsSeen, .ref aP_matches, .ref aP_matchCount, .ref aP_variables, .ref aP_havingVariable, .ref aP_told, .ref aP_parent, .ref aP_allBefore, .int P_required', .int P_hinted, .int P_count])), (aP_parent, .inl (cI, 8, .inl P_parent'))]) A) A) (by decide) (Nat.le_of_ble_eq_true rfl) ?_
  intro p e s m args below meth c Q A hx hb hr hlk hml hown hin htg hN hK hQ hA hP hD hS ls hl
  have hl : lv_has ls 3 [(0, .ref aJ), (1, .int x1), (2, .int x2)] := hl
  have hown : s.vm.findClass RX0 = some m.cls := hown
  have hf := (f_JoinOrder_optional_u n x1 x2 P_required P_hinted P_count P_parent).symm.trans hf
  refine lv_aload_n hx hb dX0_optional_0 rfl (lv_at hl 0 rfl) ?_
  refine va_get (D := D) (ci := 0) (v := .ref aP) (C := RX0) (T := TX0) (N := 9) hx hb htg giX0 hown hK hP 0 rfl rfl 1 (by decide) (htg _ kw_201) (fun _ h9 => h9) rfl dX0_optional_1 ?_
  refine lv_iload_n hx hb dX0_optional_4 rfl (lv_at hl 1 rfl) ?_
  refine x_z (xrV (As := [.int x1]) (b := aP) (rest := []) ⟨hx, hb, hml, hown, htg⟩ (c_f_Patterns_has l D cI cJ cZ _ aP x1 aP_slots aP_termsSeen aP_matches aP_matchCount aP_variables aP_havingVariable aP_told aP_parent aP_allBefore P_required P_hinted P_count rfl) kc_f_Patterns_has kw_297 kw_298 kw_299 kw_3 dd_f_Patterns_has ⟨Nat.le_of_ble_eq_true rfl, Nat.le_of_ble_eq_true rfl⟩ rfl rfl (hP.sub [1] rfl) (hD.sub [1] (by decide) rfl) hK hN hP (q0 := 1) rfl rfl rfl hl.1 rfl (Nat.le_of_ble_eq_true rfl) dX0_optional_5 ⟨Nat.le_of_ble_eq_true rfl, Nat.le_of_ble_eq_true rfl⟩) hP hD hS hA [1] [0, 2] rfl rfl (by decide) (by decide) (fun _ H locs bz_1 hP hD hS => ?_)
  have hP : va_P D vwCl [(aJ, .inr (0, [.ref aT, .ref aP, .ref aF, .ref aQ, .ref aM, .ref aB, .int J_hasRun, .ref aJ_plainOrder, .ref aC])), (aP_parent, .inl (cI, 8, .inl P_parent)), (aP, .inr (2, [.ref aP_slots, .ref aP_termsSeen, .ref aP_matches, .ref aP_matchCount, .ref aP_variables, .ref aP_havingVariable, .ref aP_told, .ref aP_parent, .ref aP_allBefore, .int P_required, .int P_hinted, .int P_count]))] H := hP
  have hD : va_D A [(aJ, .inr (0, [.ref aT, .ref aP, .ref aF, .ref aQ, .ref aM, .ref aB, .int J_hasRun, .ref aJ_plainOrder, .ref aC])), (aP_parent, .inl (cI, 8, .inl P_parent)), (aP, .inr (2, [.ref aP_slots, .ref aP_termsSeen, .ref aP_matches, .ref aP_matchCount, .ref aP_variables, .ref aP_havingVariable, .ref aP_told, .ref aP_parent, .ref aP_allBefore, .int P_required, .int P_hinted, .int P_count]))] := hD
  refine lv_if_eq (tgt := 22) hx hb dX0_optional_8 (by decide) (fun c_2 => ?_) (fun c_2 => ?_)
  · have hf := xb_t c_2 hf
    refine lv_iconst (v := (-1 : Int32)) hx hb dX0_optional_22 (by decide) ?_
    have hf := Option.some.inj hf
    cases hf
    exact x_iret (fun _ => 0) hQ hx hb hr hlk hK (hP.sub [0, 2, 1] rfl) (hD.sub [0, 2, 1] (by decide) rfl) hS dX0_optional_23
  · have hf := xb_f c_2 hf
    refine lv_aload_n hx hb dX0_optional_11 rfl (lv_at hl 0 rfl) ?_
    refine va_get (D := D) (ci := 0) (v := .ref aP) (C := RX0) (T := TX0) (N := 9) hx hb htg giX0 hown hK hP 0 rfl rfl 1 (by decide) (htg _ kw_201) (fun _ h9 => h9) rfl dX0_optional_12 ?_
    refine lv_iload_n hx hb dX0_optional_15 rfl (lv_at hl 2 rfl) ?_
    refine x_z (xrV (As := [.int x2]) (b := aP) (rest := []) ⟨hx, hb, hml, hown, htg⟩ (c_f_Patterns_has l D cI cJ cZ _ aP x2 aP_slots aP_termsSeen aP_matches aP_matchCount aP_variables aP_havingVariable aP_told aP_parent aP_allBefore P_required P_hinted P_count rfl) kc_f_Patterns_has kw_297 kw_298 kw_299 kw_3 dd_f_Patterns_has ⟨Nat.le_of_ble_eq_true rfl, Nat.le_of_ble_eq_true rfl⟩ rfl rfl (hP.sub [2] rfl) (hD.sub [2] (by decide) rfl) hK hN hP (q0 := 2) rfl rfl rfl hl.1 rfl (Nat.le_of_ble_eq_true rfl) dX0_optional_16 ⟨Nat.le_of_ble_eq_true rfl, Nat.le_of_ble_eq_true rfl⟩) hP hD hS hA [2] [0, 1] rfl rfl (by decide) (by decide) (fun _ H locs bz_3 hP hD hS => ?_)
    have hP : va_P D vwCl [(aJ, .inr (0, [.ref aT, .ref aP, .ref aF, .ref aQ, .ref aM, .ref aB, .int J_hasRun, .ref aJ_plainOrder, .ref aC])), (aP_parent, .inl (cI, 8, .inl P_parent)), (aP, .inr (2, [.ref aP_slots, .ref aP_termsSeen, .ref aP_matches, .ref aP_matchCount, .ref aP_variables, .ref aP_havingVariable, .ref aP_told, .ref aP_parent, .ref aP_allBefore, .int P_required, .int P_hinted, .int P_count]))] H := hP
    have hD : va_D A [(aJ, .inr (0, [.ref aT, .ref aP, .ref aF, .ref aQ, .ref aM, .ref aB, .int J_hasRun, .ref aJ_plainOrder, .ref aC])), (aP_parent, .inl (cI, 8, .inl P_parent)), (aP, .inr (2, [.ref aP_slots, .ref aP_termsSeen, .ref aP_matches, .ref aP_matchCount, .ref aP_variables, .ref aP_havingVariable, .ref aP_told, .ref aP_parent, .ref aP_allBefore, .int P_required, .int P_hinted, .int P_count]))] := hD
    refine lv_if_ne (tgt := 24) hx hb dX0_optional_19 (by decide) (fun c_4 => ?_) (fun c_4 => ?_)
    · have hf := xb_f c_4 hf
      refine lv_aload_n hx hb dX0_optional_24 rfl (lv_at hl 0 rfl) ?_
      refine va_get (D := D) (ci := 0) (v := .ref aP) (C := RX0) (T := TX0) (N := 9) hx hb htg giX0 hown hK hP 0 rfl rfl 1 (by decide) (htg _ kw_201) (fun _ h9 => h9) rfl dX0_optional_25 ?_
      refine lv_iload_n hx hb dX0_optional_28 rfl (lv_at hl 1 rfl) ?_
      refine x_z (xrV (As := [.int x1]) (b := aP) (rest := []) ⟨hx, hb, hml, hown, htg⟩ (c_f_Patterns_isRequired l D cI cJ cZ _ aP x1 aP_slots aP_termsSeen aP_matches aP_matchCount aP_variables aP_havingVariable aP_told aP_parent aP_allBefore P_required P_hinted P_count rfl) kc_f_Patterns_isRequired kw_301 kw_302 kw_303 kw_3 dd_f_Patterns_isRequired ⟨Nat.le_of_ble_eq_true rfl, Nat.le_of_ble_eq_true rfl⟩ rfl rfl (hP.sub [2] rfl) (hD.sub [2] (by decide) rfl) hK hN hP (q0 := 2) rfl rfl rfl hl.1 rfl (Nat.le_of_ble_eq_true rfl) dX0_optional_29 ⟨Nat.le_of_ble_eq_true rfl, Nat.le_of_ble_eq_true rfl⟩) hP hD hS hA [2] [0, 1] rfl rfl (by decide) (by decide) (fun _ H locs bz_5 hP hD hS => ?_)
      have hP : va_P D vwCl [(aJ, .inr (0, [.ref aT, .ref aP, .ref aF, .ref aQ, .ref aM, .ref aB, .int J_hasRun, .ref aJ_plainOrder, .ref aC])), (aP_parent, .inl (cI, 8, .inl P_parent)), (aP, .inr (2, [.ref aP_slots, .ref aP_termsSeen, .ref aP_matches, .ref aP_matchCount, .ref aP_variables, .ref aP_havingVariable, .ref aP_told, .ref aP_parent, .ref aP_allBefore, .int P_required, .int P_hinted, .int P_count]))] H := hP
      have hD : va_D A [(aJ, .inr (0, [.ref aT, .ref aP, .ref aF, .ref aQ, .ref aM, .ref aB, .int J_hasRun, .ref aJ_plainOrder, .ref aC])), (aP_parent, .inl (cI, 8, .inl P_parent)), (aP, .inr (2, [.ref aP_slots, .ref aP_termsSeen, .ref aP_matches, .ref aP_matchCount, .ref aP_variables, .ref aP_havingVariable, .ref aP_told, .ref aP_parent, .ref aP_allBefore, .int P_required, .int P_hinted, .int P_count]))] := hD
      refine lv_if_eq (tgt := 58) hx hb dX0_optional_32 (by decide) (fun c_6 => ?_) (fun c_6 => ?_)
      · have hf := xb_t c_6 hf
        refine lv_bipush (v := (-3 : Int32)) hx hb dX0_optional_58 (by decide) ?_
        have hf := Option.some.inj hf
        cases hf
        exact x_iret (fun _ => 0) hQ hx hb hr hlk hK (hP.sub [0, 2, 1] rfl) (hD.sub [0, 2, 1] (by decide) rfl) hS dX0_optional_60
      · have hf := xb_f c_6 hf
        refine lv_aload_n hx hb dX0_optional_35 rfl (lv_at hl 0 rfl) ?_
        refine va_get (D := D) (ci := 0) (v := .ref aP) (C := RX0) (T := TX0) (N := 9) hx hb htg giX0 hown hK hP 0 rfl rfl 1 (by decide) (htg _ kw_201) (fun _ h9 => h9) rfl dX0_optional_36 ?_
        refine lv_iload_n hx hb dX0_optional_39 rfl (lv_at hl 1 rfl) ?_
        refine x_z (xrV (As := [.int x1]) (b := aP) (rest := []) ⟨hx, hb, hml, hown, htg⟩ (c_f_Patterns_isHinted l D cI cJ cZ _ aP x1 aP_slots aP_termsSeen aP_matches aP_matchCount aP_variables aP_havingVariable aP_told aP_parent aP_allBefore P_required P_hinted P_count rfl) kc_f_Patterns_isHinted kw_308 kw_309 kw_310 kw_3 dd_f_Patterns_isHinted ⟨Nat.le_of_ble_eq_true rfl, Nat.le_of_ble_eq_true rfl⟩ rfl rfl (hP.sub [2] rfl) (hD.sub [2] (by decide) rfl) hK hN hP (q0 := 2) rfl rfl rfl hl.1 rfl (Nat.le_of_ble_eq_true rfl) dX0_optional_40 ⟨Nat.le_of_ble_eq_true rfl, Nat.le_of_ble_eq_true rfl⟩) hP hD hS hA [2] [0, 1] rfl rfl (by decide) (by decide) (fun _ H locs bz_7 hP hD hS => ?_)
        have hP : va_P D vwCl [(aJ, .inr (0, [.ref aT, .ref aP, .ref aF, .ref aQ, .ref aM, .ref aB, .int J_hasRun, .ref aJ_plainOrder, .ref aC])), (aP_parent, .inl (cI, 8, .inl P_parent)), (aP, .inr (2, [.ref aP_slots, .ref aP_termsSeen, .ref aP_matches, .ref aP_matchCount, .ref aP_variables, .ref aP_havingVariable, .ref aP_told, .ref aP_parent, .ref aP_allBefore, .int P_required, .int P_hinted, .int P_count]))] H := hP
        have hD : va_D A [(aJ, .inr (0, [.ref aT, .ref aP, .ref aF, .ref aQ, .ref aM, .ref aB, .int J_hasRun, .ref aJ_plainOrder, .ref aC])), (aP_parent, .inl (cI, 8, .inl P_parent)), (aP, .inr (2, [.ref aP_slots, .ref aP_termsSeen, .ref aP_matches, .ref aP_matchCount, .ref aP_variables, .ref aP_havingVariable, .ref aP_told, .ref aP_parent, .ref aP_allBefore, .int P_required, .int P_hinted, .int P_count]))] := hD
        refine lv_if_ne (tgt := 58) hx hb dX0_optional_43 (by decide) (fun c_8 => ?_) (fun c_8 => ?_)
        · have hf := xb_f c_8 hf
          refine lv_bipush (v := (-3 : Int32)) hx hb dX0_optional_58 (by decide) ?_
          have hf := Option.some.inj hf
          cases hf
          exact x_iret (fun _ => 0) hQ hx hb hr hlk hK (hP.sub [0, 2, 1] rfl) (hD.sub [0, 2, 1] (by decide) rfl) hS dX0_optional_60
        · have hf := xb_t c_8 hf
          refine lv_aload_n hx hb dX0_optional_46 rfl (lv_at hl 0 rfl) ?_
          refine va_get (D := D) (ci := 0) (v := .ref aP) (C := RX0) (T := TX0) (N := 9) hx hb htg giX0 hown hK hP 0 rfl rfl 1 (by decide) (htg _ kw_201) (fun _ h9 => h9) rfl dX0_optional_47 ?_
          refine lv_iload_n hx hb dX0_optional_50 rfl (lv_at hl 2 rfl) ?_
          refine lv_iload_n hx hb dX0_optional_51 rfl (lv_at hl 1 rfl) ?_
          obtain ⟨r_10, hq_9, hf⟩ := bn1_c hf
          refine x_z (xrV (As := [.int x2, .int x1]) (b := aP) (rest := []) ⟨hx, hb, hml, hown, htg⟩ (c_f_Patterns_hangsOn l D cI cJ cZ _ n aP x2 x1 aP_slots aP_termsSeen aP_matches aP_matchCount aP_variables aP_havingVariable aP_told aP_parent aP_allBefore P_required P_hinted P_count P_parent hq_9) kc_f_Patterns_hangsOn kw_312 kw_313 kw_314 kw_3 dd_f_Patterns_hangsOn ⟨Nat.le_of_ble_eq_true rfl, Nat.le_of_ble_eq_true rfl⟩ rfl rfl (hP.sub [2, 1] rfl) (hD.sub [2, 1] (by decide) rfl) hK hN hP (q0 := 2) rfl rfl rfl hl.1 rfl (Nat.le_of_ble_eq_true rfl) dX0_optional_52 ⟨Nat.le_of_ble_eq_true rfl, Nat.le_of_ble_eq_true rfl⟩) hP hD hS hA [2, 1] [0] rfl rfl (by decide) (by decide) (fun _ H locs bz_9 hP hD hS => ?_)
          have hP : va_P D vwCl [(aJ, .inr (0, [.ref aT, .ref aP, .ref aF, .ref aQ, .ref aM, .ref aB, .int J_hasRun, .ref aJ_plainOrder, .ref aC])), (aP, .inr (2, [.ref aP_slots, .ref aP_termsSeen, .ref aP_matches, .ref aP_matchCount, .ref aP_variables, .ref aP_havingVariable, .ref aP_told, .ref aP_parent, .ref aP_allBefore, .int P_required, .int P_hinted, .int P_count])), (aP_parent, .inl (cI, 8, .inl P_parent))] H := hP
          have hD : va_D A [(aJ, .inr (0, [.ref aT, .ref aP, .ref aF, .ref aQ, .ref aM, .ref aB, .int J_hasRun, .ref aJ_plainOrder, .ref aC])), (aP, .inr (2, [.ref aP_slots, .ref aP_termsSeen, .ref aP_matches, .ref aP_matchCount, .ref aP_variables, .ref aP_havingVariable, .ref aP_told, .ref aP_parent, .ref aP_allBefore, .int P_required, .int P_hinted, .int P_count])), (aP_parent, .inl (cI, 8, .inl P_parent))] := hD
          refine lv_if_eq (tgt := 61) hx hb dX0_optional_55 (by decide) (fun c_11 => ?_) (fun c_11 => ?_)
          · have hf := xb_t c_11 hf
            refine lv_aload_n hx hb dX0_optional_61 rfl (lv_at hl 0 rfl) ?_
            refine va_get (D := D) (ci := 0) (v := .ref aP) (C := RX0) (T := TX0) (N := 9) hx hb htg giX0 hown hK hP 0 rfl rfl 1 (by decide) (htg _ kw_201) (fun _ h9 => h9) rfl dX0_optional_62 ?_
            refine lv_iload_n hx hb dX0_optional_65 rfl (lv_at hl 1 rfl) ?_
            refine lv_iload_n hx hb dX0_optional_66 rfl (lv_at hl 2 rfl) ?_
            obtain ⟨P_required_13, P_parent_14, hq_12, hf⟩ := bn2_c hf
            refine x_v (xrV (As := [.int x1, .int x2]) (b := aP) (rest := []) ⟨hx, hb, hml, hown, htg⟩ (c_f_Patterns_hang l D cI cJ cZ _ aP x1 x2 aP_slots aP_termsSeen aP_matches aP_matchCount aP_variables aP_havingVariable aP_told aP_parent aP_allBefore P_required P_hinted P_count P_parent hq_12) kc_f_Patterns_hang kw_316 kw_317 kw_318 kw_3 dd_f_Patterns_hang ⟨Nat.le_of_ble_eq_true rfl, Nat.le_of_ble_eq_true rfl⟩ rfl rfl (hP.sub [1, 2] rfl) (hD.sub [1, 2] (by decide) rfl) hK hN hP (q0 := 1) rfl rfl rfl hl.1 rfl (Nat.le_of_ble_eq_true rfl) dX0_optional_67 ⟨Nat.le_of_ble_eq_true rfl, Nat.le_of_ble_eq_true rfl⟩) hP hD hS hA [1, 2] [0] rfl rfl (by decide) (by decide) (fun _ H locs hP hD hS => ?_)
            have hP : va_P D vwCl [(aJ, .inr (0, [.ref aT, .ref aP, .ref aF, .ref aQ, .ref aM, .ref aB, .int J_hasRun, .ref aJ_plainOrder, .ref aC])), (aP, .inr (2, [.ref aP_slots, .ref aP_termsSeen, .ref aP_matches, .ref aP_matchCount, .ref aP_variables, .ref aP_havingVariable, .ref aP_told, .ref aP_parent, .ref aP_allBefore, .int P_required_13, .int P_hinted, .int P_count])), (aP_parent, .inl (cI, 8, .inl P_parent_14))] H := hP
            have hD : va_D A [(aJ, .inr (0, [.ref aT, .ref aP, .ref aF, .ref aQ, .ref aM, .ref aB, .int J_hasRun, .ref aJ_plainOrder, .ref aC])), (aP, .inr (2, [.ref aP_slots, .ref aP_termsSeen, .ref aP_matches, .ref aP_matchCount, .ref aP_variables, .ref aP_havingVariable, .ref aP_told, .ref aP_parent, .ref aP_allBefore, .int P_required_13, .int P_hinted, .int P_count])), (aP_parent, .inl (cI, 8, .inl P_parent_14))] := hD
            refine lv_iconst (v := (1 : Int32)) hx hb dX0_optional_70 (by decide) ?_
            have hf := Option.some.inj hf
            cases hf
            exact x_iret (fun _ => 0) hQ hx hb hr hlk hK hP hD hS dX0_optional_71
          · have hf := xb_f c_11 hf
            refine lv_bipush (v := (-3 : Int32)) hx hb dX0_optional_58 (by decide) ?_
            have hf := Option.some.inj hf
            cases hf
            exact x_iret (fun _ => 0) hQ hx hb hr hlk hK hP hD hS dX0_optional_60
    · have hf := xb_t c_4 hf
      refine lv_iconst (v := (-1 : Int32)) hx hb dX0_optional_22 (by decide) ?_
      have hf := Option.some.inj hf
      cases hf
      exact x_iret (fun _ => 0) hQ hx hb hr hlk hK (hP.sub [0, 2, 1] rfl) (hD.sub [0, 2, 1] (by decide) rfl) hS dX0_optional_23
abbrev rm_f_JoinOrderModel_isPattern : Room := { frames := 0, cells := 0, slots := 0, locals := 0 }
set_option maxHeartbeats 4000000 in
set_option maxRecDepth 100000 in
theorem c_f_JoinOrderModel_isPattern (l : Launch) (D : va_G) (cI cJ cZ : ClassId) (sz : Nat) (aR : Nat) (x1 : Int32) (R_triples : Int32) (aR_facts : Nat) (R_patterns : Int32) (aR_cells : Nat) (aR_told : Nat) (aR_of : Nat) (aR_hints : Nat) (R_filters : Int32) (aR_looks : Nat) (aR_kinds : Nat) (aR_values : Nat) (aR_isSafe : Nat) (aR_sizes : Nat) (aR_spreads : Nat) (aR_isSeen : Nat) (aR_estimates : Nat) (aR_rest : Nat) (R_steps : Int32) (aR_order : Nat) (aR_joins : Nat) (aR_actsBehind : Nat) (aR_upTo : Nat) (R_filtersThen : Int32) (aR_behind : Nat) (R_rows : Int32) (aR_row : Nat) (aR_found : Nat) (R_comes : Int32) (aR_next : Nat) (aR_nextFound : Nat) (R_kept : Int32) (R_hasRoom : Int32) (aR_keep : Nat) (aR_isTaken : Nat) {r : Int32} (hf : f_JoinOrderModel_isPattern x1 R_patterns = r) : Met l yX7_isPattern (.code yX7_isPattern cX7_isPattern 2 (some .boolean) :: GW) rm_f_JoinOrderModel_isPattern (va_Pc [.ref aR, .int x1] (xP D (xT cI cJ cZ) sz [(aR, .inr (7, [.int R_triples, .ref aR_facts, .int R_patterns, .ref aR_cells, .ref aR_told, .ref aR_of, .ref aR_hints, .int R_filters, .ref aR_looks, .ref aR_kinds, .ref aR_values, .ref aR_isSafe, .ref aR_sizes, .ref aR_spreads, .ref aR_isSeen, .ref aR_estimates, .ref aR_rest, .int R_steps, .ref aR_order, .ref aR_joins, .ref aR_actsBehind, .ref aR_upTo, .int R_filtersThen, .ref aR_behind, .int R_rows, .ref aR_row, .ref aR_found, .int R_comes, .ref aR_next, .ref aR_nextFound, .int R_kept, .int R_hasRoom, .ref aR_keep, .ref aR_isTaken]))])) (va_Qi (fun r2 (_ : Nat → Nat) => r2 = r ∧ (r = 0 ∨ r = 1)) (bB D (xT cI cJ cZ) (fun _ => [(aR, .inr (7, [.int R_triples, .ref aR_facts, .int R_patterns, .ref aR_cells, .ref aR_told, .ref aR_of, .ref aR_hints, .int R_filters, .ref aR_looks, .ref aR_kinds, .ref aR_values, .ref aR_isSafe, .ref aR_sizes, .ref aR_spreads, .ref aR_isSeen, .ref aR_estimates, .ref aR_rest, .int R_steps, .ref aR_order, .ref aR_joins, .ref aR_actsBehind, .ref aR_upTo, .int R_filtersThen, .ref aR_behind, .int R_rows, .ref aR_row, .ref aR_found, .int R_comes, .ref aR_next, .ref aR_nextFound, .int R_kept, .int R_hasRoom, .ref aR_keep, .ref aR_isTaken]))]) (va_A [(aR, .inr (7, [.int R_triples, .ref aR_facts, .int R_patterns, .ref aR_cells, .ref aR_told, .ref aR_of, .ref aR_hints, .int R_filters, .ref aR_looks, .ref aR_kinds, .ref aR_values, .ref aR_isSafe, .ref aR_sizes, .ref aR_spreads, .ref aR_isSeen, .ref aR_estimates, .ref aR_rest, .int R_steps, .ref aR_order, .ref aR_joins, .ref aR_actsBehind, .ref aR_upTo, .int R_filtersThen, .ref aR_behind, .int R_rows, .ref aR_row, .ref aR_found, .int R_comes, .ref aR_next, .ref aR_nextFound, .int R_kept, .int R_hasRoom, .ref aR_keep, .ref aR_isTaken]))] sz)) (va_A [(aR, .inr (7, [.int R_triples, .ref aR_facts, .int R_patterns, .ref aR_cells, .ref aR_told, .ref aR_of, .ref aR_hints, .int R_filters, .ref aR_looks, .ref aR_kinds, .ref aR_values, .ref aR_isSafe, .ref aR_sizes, .ref aR_spreads, .ref aR_isSeen, .ref aR_estimates, .ref aR_rest, .int R_steps, .ref aR_order, .ref aR_joins, .ref aR_actsBehind, .ref aR_upTo, .int R_filtersThen, .ref aR_behind, .int R_rows, .ref aR_row, .ref aR_found, .int R_comes, .ref aR_next, .ref aR_nextFound, .int R_kept, .int R_hasRoom, .ref aR_keep, .ref aR_isTaken]))] sz)) 0 0 (va_A [(aR, .inr (7, [.int R_triples, .ref aR_facts, .int R_patterns, .ref aR_cells, .ref aR_told, .ref aR_of, .ref aR_hints, .int R_filters, .ref aR_looks, .ref aR_kinds, .ref aR_values, .ref aR_isSafe, .ref aR_sizes, .ref aR_spreads, .ref aR_isSeen, .ref aR_estimates, .ref aR_rest, .int R_steps, .ref aR_order, .ref aR_joins, .ref aR_actsBehind, .ref aR_upTo, .int R_filtersThen, .ref aR_behind, .int R_rows, .ref aR_row, .ref aR_found, .int R_comes, .ref aR_next, .ref aR_nextFound, .int R_kept, .int R_hasRoom, .ref aR_keep, .ref aR_isTaken]))] sz) := by
  refine con_start (Qc := fun A => va_Qi (fun r2 (_ : Nat → Nat) => r2 = r ∧ (r = 0 ∨ r = 1)) (bB D (xT cI cJ cZ) (fun _ => [(aR, .inr (7, [.int R_triples, .ref aR_facts, .int R_patterns, .ref aR_cells, .ref aR_told, .ref aR_of, .ref aR_hints, .int R_filters, .ref aR_looks, .ref aR_kinds, .ref aR_values, .ref aR_isSafe, .ref aR_sizes, .ref aR_spreads, .ref aR_isSeen, .ref aR_estimates, .ref aR_rest, .int R_steps, .ref aR_order, .ref aR_joins, .ref aR_actsBehind, .ref aR_upTo, .int R_filtersThen, .ref aR_behind, .int R_rows, .ref aR_row, .ref aR_found, .int R_comes, .ref aR_next, .ref aR_nextFound, .int R_kept, .int R_hasRoom, .ref aR_keep, .ref aR_isTaken]))]) A) A) (by decide) (Nat.le_of_ble_eq_true rfl) ?_
  intro p e s m args below meth c Q A hx hb hr hlk hml hown hin htg hN hK hQ hA hP hD hS ls hl
  have hl : lv_has ls 2 [(0, .ref aR), (1, .int x1)] := hl
  have hown : s.vm.findClass RX7 = some m.cls := hown
  have hf := (f_JoinOrderModel_isPattern_u x1 R_patterns).symm.trans hf
  refine lv_iload_n hx hb dX7_isPattern_0 rfl (lv_at hl 1 rfl) ?_
  refine lv_if_lt (tgt := 16) hx hb dX7_isPattern_1 (by decide) (fun c_1 => ?_) (fun c_1 => ?_)
  · have hf := xb_t c_1 hf
    refine lv_iconst (v := (0 : Int32)) hx hb dX7_isPattern_16 (by decide) ?_
    have hf := hf
    cases hf
    exact x_zret (fun _ => 0) hQ hx hb hr hlk (by decide) hK hP hD hS dX7_isPattern_17
  · have hf := xb_f c_1 hf
    refine lv_iload_n hx hb dX7_isPattern_4 rfl (lv_at hl 1 rfl) ?_
    refine lv_aload_n hx hb dX7_isPattern_5 rfl (lv_at hl 0 rfl) ?_
    refine va_get (D := D) (ci := 7) (v := .int R_patterns) (C := RX7) (T := TX7) (N := 34) hx hb htg giX7 hown hK hP 0 rfl rfl 2 (by decide) (htg _ kw_565) (fun _ h9 => h9) rfl dX7_isPattern_6 ?_
    refine lv_icmp_ge (tgt := 16) hx hb dX7_isPattern_9 (by decide) (fun c_2 => ?_) (fun c_2 => ?_)
    · have hf := xb_t c_2 hf
      refine lv_iconst (v := (0 : Int32)) hx hb dX7_isPattern_16 (by decide) ?_
      have hf := hf
      cases hf
      exact x_zret (fun _ => 0) hQ hx hb hr hlk (by decide) hK hP hD hS dX7_isPattern_17
    · have hf := xb_f c_2 hf
      refine lv_iconst (v := (1 : Int32)) hx hb dX7_isPattern_12 (by decide) ?_
      refine lv_goto (tgt := 17) hx hb dX7_isPattern_13 (by decide) ?_
      have hf := hf
      cases hf
      exact x_zret (fun _ => 0) hQ hx hb hr hlk (by decide) hK hP hD hS dX7_isPattern_17
abbrev rm_f_JoinOrderModel_isRequired : Room := { frames := 0, cells := 0, slots := 0, locals := 0 }
set_option maxHeartbeats 4000000 in
set_option maxRecDepth 100000 in
theorem c_f_JoinOrderModel_isRequired (l : Launch) (D : va_G) (cI cJ cZ : ClassId) (sz : Nat) (aR : Nat) (x1 : Int32) (R_triples : Int32) (aR_facts : Nat) (R_patterns : Int32) (aR_cells : Nat) (aR_told : Nat) (aR_of : Nat) (aR_hints : Nat) (R_filters : Int32) (aR_looks : Nat) (aR_kinds : Nat) (aR_values : Nat) (aR_isSafe : Nat) (aR_sizes : Nat) (aR_spreads : Nat) (aR_isSeen : Nat) (aR_estimates : Nat) (aR_rest : Nat) (R_steps : Int32) (aR_order : Nat) (aR_joins : Nat) (aR_actsBehind : Nat) (aR_upTo : Nat) (R_filtersThen : Int32) (aR_behind : Nat) (R_rows : Int32) (aR_row : Nat) (aR_found : Nat) (R_comes : Int32) (aR_next : Nat) (aR_nextFound : Nat) (R_kept : Int32) (R_hasRoom : Int32) (aR_keep : Nat) (aR_isTaken : Nat) (R_of : Nat → Int32) {r : Int32} (hf : f_JoinOrderModel_isRequired x1 R_of = some r) : Met l yX7_isRequired (.code yX7_isRequired cX7_isRequired 2 (some .boolean) :: GW) rm_f_JoinOrderModel_isRequired (va_Pc [.ref aR, .int x1] (xP D (xT cI cJ cZ) sz [(aR, .inr (7, [.int R_triples, .ref aR_facts, .int R_patterns, .ref aR_cells, .ref aR_told, .ref aR_of, .ref aR_hints, .int R_filters, .ref aR_looks, .ref aR_kinds, .ref aR_values, .ref aR_isSafe, .ref aR_sizes, .ref aR_spreads, .ref aR_isSeen, .ref aR_estimates, .ref aR_rest, .int R_steps, .ref aR_order, .ref aR_joins, .ref aR_actsBehind, .ref aR_upTo, .int R_filtersThen, .ref aR_behind, .int R_rows, .ref aR_row, .ref aR_found, .int R_comes, .ref aR_next, .ref aR_nextFound, .int R_kept, .int R_hasRoom, .ref aR_keep, .ref aR_isTaken])), (aR_of, .inl (cI, 8, .inl R_of))])) (va_Qi (fun r2 (_ : Nat → Nat) => r2 = r ∧ (r = 0 ∨ r = 1)) (bB D (xT cI cJ cZ) (fun _ => [(aR, .inr (7, [.int R_triples, .ref aR_facts, .int R_patterns, .ref aR_cells, .ref aR_told, .ref aR_of, .ref aR_hints, .int R_filters, .ref aR_looks, .ref aR_kinds, .ref aR_values, .ref aR_isSafe, .ref aR_sizes, .ref aR_spreads, .ref aR_isSeen, .ref aR_estimates, .ref aR_rest, .int R_steps, .ref aR_order, .ref aR_joins, .ref aR_actsBehind, .ref aR_upTo, .int R_filtersThen, .ref aR_behind, .int R_rows, .ref aR_row, .ref aR_found, .int R_comes, .ref aR_next, .ref aR_nextFound, .int R_kept, .int R_hasRoom, .ref aR_keep, .ref aR_isTaken])), (aR_of, .inl (cI, 8, .inl R_of))]) (va_A [(aR, .inr (7, [.int R_triples, .ref aR_facts, .int R_patterns, .ref aR_cells, .ref aR_told, .ref aR_of, .ref aR_hints, .int R_filters, .ref aR_looks, .ref aR_kinds, .ref aR_values, .ref aR_isSafe, .ref aR_sizes, .ref aR_spreads, .ref aR_isSeen, .ref aR_estimates, .ref aR_rest, .int R_steps, .ref aR_order, .ref aR_joins, .ref aR_actsBehind, .ref aR_upTo, .int R_filtersThen, .ref aR_behind, .int R_rows, .ref aR_row, .ref aR_found, .int R_comes, .ref aR_next, .ref aR_nextFound, .int R_kept, .int R_hasRoom, .ref aR_keep, .ref aR_isTaken])), (aR_of, .inl (cI, 8, .inl R_of))] sz)) (va_A [(aR, .inr (7, [.int R_triples, .ref aR_facts, .int R_patterns, .ref aR_cells, .ref aR_told, .ref aR_of, .ref aR_hints, .int R_filters, .ref aR_looks, .ref aR_kinds, .ref aR_values, .ref aR_isSafe, .ref aR_sizes, .ref aR_spreads, .ref aR_isSeen, .ref aR_estimates, .ref aR_rest, .int R_steps, .ref aR_order, .ref aR_joins, .ref aR_actsBehind, .ref aR_upTo, .int R_filtersThen, .ref aR_behind, .int R_rows, .ref aR_row, .ref aR_found, .int R_comes, .ref aR_next, .ref aR_nextFound, .int R_kept, .int R_hasRoom, .ref aR_keep, .ref aR_isTaken])), (aR_of, .inl (cI, 8, .inl R_of))] sz)) 0 0 (va_A [(aR, .inr (7, [.int R_triples, .ref aR_facts, .int R_patterns, .ref aR_cells, .ref aR_told, .ref aR_of, .ref aR_hints, .int R_filters, .ref aR_looks, .ref aR_kinds, .ref aR_values, .ref aR_isSafe, .ref aR_sizes, .ref aR_spreads, .ref aR_isSeen, .ref aR_estimates, .ref aR_rest, .int R_steps, .ref aR_order, .ref aR_joins, .ref aR_actsBehind, .ref aR_upTo, .int R_filtersThen, .ref aR_behind, .int R_rows, .ref aR_row, .ref aR_found, .int R_comes, .ref aR_next, .ref aR_nextFound, .int R_kept, .int R_hasRoom, .ref aR_keep, .ref aR_isTaken])), (aR_of, .inl (cI, 8, .inl R_of))] sz) := by
  refine con_start (Qc := fun A => va_Qi (fun r2 (_ : Nat → Nat) => r2 = r ∧ (r = 0 ∨ r = 1)) (bB D (xT cI cJ cZ) (fun _ => [(aR, .inr (7, [.int R_triples, .ref aR_facts, .int R_patterns, .ref aR_cells, .ref aR_told, .ref aR_of, .ref aR_hints, .int R_filters, .ref aR_looks, .ref aR_kinds, .ref aR_values, .ref aR_isSafe, .ref aR_sizes, .ref aR_spreads, .ref aR_isSeen, .ref aR_estimates, .ref aR_rest, .int R_steps, .ref aR_order, .ref aR_joins, .ref aR_actsBehind, .ref aR_upTo, .int R_filtersThen, .ref aR_behind, .int R_rows, .ref aR_row, .ref aR_found, .int R_comes, .ref aR_next, .ref aR_nextFound, .int R_kept, .int R_hasRoom, .ref aR_keep, .ref aR_isTaken])), (aR_of, .inl (cI, 8, .inl R_of))]) A) A) (by decide) (Nat.le_of_ble_eq_true rfl) ?_
  intro p e s m args below meth c Q A hx hb hr hlk hml hown hin htg hN hK hQ hA hP hD hS ls hl
  have hl : lv_has ls 2 [(0, .ref aR), (1, .int x1)] := hl
  have hown : s.vm.findClass RX7 = some m.cls := hown
  have hf := (f_JoinOrderModel_isRequired_u x1 R_of).symm.trans hf
  refine lv_aload_n hx hb dX7_isRequired_0 rfl (lv_at hl 0 rfl) ?_
  refine va_get (D := D) (ci := 7) (v := .ref aR_of) (C := RX7) (T := TX7) (N := 34) hx hb htg giX7 hown hK hP 0 rfl rfl 5 (by decide) (htg _ kw_568) (fun _ h9 => h9) rfl dX7_isRequired_1 ?_
  refine lv_iload_n hx hb dX7_isRequired_4 rfl (lv_at hl 1 rfl) ?_
  have g_1 : vp_in x1 8 := gd_in hf
  have hf := gd_el hf
  refine va_iald hx hb hK hP 1 0 rfl rfl g_1 dX7_isRequired_5 ?_
  refine lv_iconst (v := (-1 : Int32)) hx hb dX7_isRequired_6 (by decide) ?_
  refine lv_icmp_ne (tgt := 14) hx hb dX7_isRequired_7 (by decide) (fun c_2 => ?_) (fun c_2 => ?_)
  · have hf := xb_f c_2 hf
    refine lv_iconst (v := (0 : Int32)) hx hb dX7_isRequired_14 (by decide) ?_
    have hf := Option.some.inj hf
    cases hf
    exact x_zret (fun _ => 0) hQ hx hb hr hlk (by decide) hK hP hD hS dX7_isRequired_15
  · have hf := xb_t c_2 hf
    refine lv_iconst (v := (1 : Int32)) hx hb dX7_isRequired_10 (by decide) ?_
    refine lv_goto (tgt := 15) hx hb dX7_isRequired_11 (by decide) ?_
    have hf := Option.some.inj hf
    cases hf
    exact x_zret (fun _ => 0) hQ hx hb hr hlk (by decide) hK hP hD hS dX7_isRequired_15
abbrev rm_f_JoinOrderModel_isHinted : Room := { frames := 0, cells := 0, slots := 0, locals := 0 }
set_option maxHeartbeats 4000000 in
set_option maxRecDepth 100000 in
theorem c_f_JoinOrderModel_isHinted (l : Launch) (D : va_G) (cI cJ cZ : ClassId) (sz : Nat) (n : Nat) (aR : Nat) (x1 : Int32) (R_triples : Int32) (aR_facts : Nat) (R_patterns : Int32) (aR_cells : Nat) (aR_told : Nat) (aR_of : Nat) (aR_hints : Nat) (R_filters : Int32) (aR_looks : Nat) (aR_kinds : Nat) (aR_values : Nat) (aR_isSafe : Nat) (aR_sizes : Nat) (aR_spreads : Nat) (aR_isSeen : Nat) (aR_estimates : Nat) (aR_rest : Nat) (R_steps : Int32) (aR_order : Nat) (aR_joins : Nat) (aR_actsBehind : Nat) (aR_upTo : Nat) (R_filtersThen : Int32) (aR_behind : Nat) (R_rows : Int32) (aR_row : Nat) (aR_found : Nat) (R_comes : Int32) (aR_next : Nat) (aR_nextFound : Nat) (R_kept : Int32) (R_hasRoom : Int32) (aR_keep : Nat) (aR_isTaken : Nat) (R_hints : Nat → Int32) {r : Int32} (hf : f_JoinOrderModel_isHinted n x1 R_hints = some r) : Met l yX7_isHinted (.code yX7_isHinted cX7_isHinted 4 (some .boolean) :: GW) rm_f_JoinOrderModel_isHinted (va_Pc [.ref aR, .int x1] (xP D (xT cI cJ cZ) sz [(aR, .inr (7, [.int R_triples, .ref aR_facts, .int R_patterns, .ref aR_cells, .ref aR_told, .ref aR_of, .ref aR_hints, .int R_filters, .ref aR_looks, .ref aR_kinds, .ref aR_values, .ref aR_isSafe, .ref aR_sizes, .ref aR_spreads, .ref aR_isSeen, .ref aR_estimates, .ref aR_rest, .int R_steps, .ref aR_order, .ref aR_joins, .ref aR_actsBehind, .ref aR_upTo, .int R_filtersThen, .ref aR_behind, .int R_rows, .ref aR_row, .ref aR_found, .int R_comes, .ref aR_next, .ref aR_nextFound, .int R_kept, .int R_hasRoom, .ref aR_keep, .ref aR_isTaken])), (aR_hints, .inl (cZ, 64, .inl R_hints))])) (va_Qi (fun r2 (_ : Nat → Nat) => r2 = r ∧ (r = 0 ∨ r = 1)) (bB D (xT cI cJ cZ) (fun _ => [(aR, .inr (7, [.int R_triples, .ref aR_facts, .int R_patterns, .ref aR_cells, .ref aR_told, .ref aR_of, .ref aR_hints, .int R_filters, .ref aR_looks, .ref aR_kinds, .ref aR_values, .ref aR_isSafe, .ref aR_sizes, .ref aR_spreads, .ref aR_isSeen, .ref aR_estimates, .ref aR_rest, .int R_steps, .ref aR_order, .ref aR_joins, .ref aR_actsBehind, .ref aR_upTo, .int R_filtersThen, .ref aR_behind, .int R_rows, .ref aR_row, .ref aR_found, .int R_comes, .ref aR_next, .ref aR_nextFound, .int R_kept, .int R_hasRoom, .ref aR_keep, .ref aR_isTaken])), (aR_hints, .inl (cZ, 64, .inl R_hints))]) (va_A [(aR, .inr (7, [.int R_triples, .ref aR_facts, .int R_patterns, .ref aR_cells, .ref aR_told, .ref aR_of, .ref aR_hints, .int R_filters, .ref aR_looks, .ref aR_kinds, .ref aR_values, .ref aR_isSafe, .ref aR_sizes, .ref aR_spreads, .ref aR_isSeen, .ref aR_estimates, .ref aR_rest, .int R_steps, .ref aR_order, .ref aR_joins, .ref aR_actsBehind, .ref aR_upTo, .int R_filtersThen, .ref aR_behind, .int R_rows, .ref aR_row, .ref aR_found, .int R_comes, .ref aR_next, .ref aR_nextFound, .int R_kept, .int R_hasRoom, .ref aR_keep, .ref aR_isTaken])), (aR_hints, .inl (cZ, 64, .inl R_hints))] sz)) (va_A [(aR, .inr (7, [.int R_triples, .ref aR_facts, .int R_patterns, .ref aR_cells, .ref aR_told, .ref aR_of, .ref aR_hints, .int R_filters, .ref aR_looks, .ref aR_kinds, .ref aR_values, .ref aR_isSafe, .ref aR_sizes, .ref aR_spreads, .ref aR_isSeen, .ref aR_estimates, .ref aR_rest, .int R_steps, .ref aR_order, .ref aR_joins, .ref aR_actsBehind, .ref aR_upTo, .int R_filtersThen, .ref aR_behind, .int R_rows, .ref aR_row, .ref aR_found, .int R_comes, .ref aR_next, .ref aR_nextFound, .int R_kept, .int R_hasRoom, .ref aR_keep, .ref aR_isTaken])), (aR_hints, .inl (cZ, 64, .inl R_hints))] sz)) 0 0 (va_A [(aR, .inr (7, [.int R_triples, .ref aR_facts, .int R_patterns, .ref aR_cells, .ref aR_told, .ref aR_of, .ref aR_hints, .int R_filters, .ref aR_looks, .ref aR_kinds, .ref aR_values, .ref aR_isSafe, .ref aR_sizes, .ref aR_spreads, .ref aR_isSeen, .ref aR_estimates, .ref aR_rest, .int R_steps, .ref aR_order, .ref aR_joins, .ref aR_actsBehind, .ref aR_upTo, .int R_filtersThen, .ref aR_behind, .int R_rows, .ref aR_row, .ref aR_found, .int R_comes, .ref aR_next, .ref aR_nextFound, .int R_kept, .int R_hasRoom, .ref aR_keep, .ref aR_isTaken])), (aR_hints, .inl (cZ, 64, .inl R_hints))] sz) := by
  refine con_start (Qc := fun A => va_Qi (fun r2 (_ : Nat → Nat) => r2 = r ∧ (r = 0 ∨ r = 1)) (bB D (xT cI cJ cZ) (fun _ => [(aR, .inr (7, [.int R_triples, .ref aR_facts, .int R_patterns, .ref aR_cells, .ref aR_told, .ref aR_of, .ref aR_hints, .int R_filters, .ref aR_looks, .ref aR_kinds, .ref aR_values, .ref aR_isSafe, .ref aR_sizes, .ref aR_spreads, .ref aR_isSeen, .ref aR_estimates, .ref aR_rest, .int R_steps, .ref aR_order, .ref aR_joins, .ref aR_actsBehind, .ref aR_upTo, .int R_filtersThen, .ref aR_behind, .int R_rows, .ref aR_row, .ref aR_found, .int R_comes, .ref aR_next, .ref aR_nextFound, .int R_kept, .int R_hasRoom, .ref aR_keep, .ref aR_isTaken])), (aR_hints, .inl (cZ, 64, .inl R_hints))]) A) A) (by decide) (Nat.le_of_ble_eq_true rfl) ?_
  intro p e s m args below meth c Q A hx hb hr hlk hml hown hin htg hN hK hQ hA hP hD hS ls hl
  have hl : lv_has ls 4 [(0, .ref aR), (1, .int x1)] := hl
  have hown : s.vm.findClass RX7 = some m.cls := hown
  have hf := (f_JoinOrderModel_isHinted_u n x1 R_hints).symm.trans hf
  refine lv_iconst (v := (0 : Int32)) hx hb dX7_isHinted_0 (by decide) ?_
  refine lv_istore_n (lv' := [(2, .int (0 : Int32)), (0, .ref aR), (1, .int x1)]) hx hb dX7_isHinted_1 rfl hl (by decide) rfl (fun ls hl => ?_)
  refine lv_iconst (v := (0 : Int32)) hx hb dX7_isHinted_2 (by decide) ?_
  refine lv_istore_n (lv' := [(3, .int (0 : Int32)), (2, .int (0 : Int32)), (0, .ref aR), (1, .int x1)]) hx hb dX7_isHinted_3 rfl hl (by decide) rfl (fun ls hl => ?_)
  have L_4_23 : ∀ (k : Nat) (x2_24 : Int32) (x3_25 : Int32) (o_23 : Int32), f_JoinOrderModel_isHinted_L0 n x1 R_hints k x2_24 x3_25 = some o_23 → ∀ (H : Heap) (locs : List Loc), va_P D vwCl [(aR, .inr (7, [.int R_triples, .ref aR_facts, .int R_patterns, .ref aR_cells, .ref aR_told, .ref aR_of, .ref aR_hints, .int R_filters, .ref aR_looks, .ref aR_kinds, .ref aR_values, .ref aR_isSafe, .ref aR_sizes, .ref aR_spreads, .ref aR_isSeen, .ref aR_estimates, .ref aR_rest, .int R_steps, .ref aR_order, .ref aR_joins, .ref aR_actsBehind, .ref aR_upTo, .int R_filtersThen, .ref aR_behind, .int R_rows, .ref aR_row, .ref aR_found, .int R_comes, .ref aR_next, .ref aR_nextFound, .int R_kept, .int R_hasRoom, .ref aR_keep, .ref aR_isTaken])), (aR_hints, .inl (cZ, 64, .inl R_hints))] H → va_D A [(aR, .inr (7, [.int R_triples, .ref aR_facts, .int R_patterns, .ref aR_cells, .ref aR_told, .ref aR_of, .ref aR_hints, .int R_filters, .ref aR_looks, .ref aR_kinds, .ref aR_values, .ref aR_isSafe, .ref aR_sizes, .ref aR_spreads, .ref aR_isSeen, .ref aR_estimates, .ref aR_rest, .int R_steps, .ref aR_order, .ref aR_joins, .ref aR_actsBehind, .ref aR_upTo, .int R_filtersThen, .ref aR_behind, .int R_rows, .ref aR_row, .ref aR_found, .int R_comes, .ref aR_next, .ref aR_nextFound, .int R_kept, .int R_hasRoom, .ref aR_keep, .ref aR_isTaken])), (aR_hints, .inl (cZ, 64, .inl R_hints))] → va_S A s.heap H locs → ∀ ls : Array Slot, lv_has ls 4 [(0, .ref aR), (1, .int x1), (2, .int x2_24), (3, .int x3_25)] → (∀ (x2_26 : Int32), some (x2_26) = some o_23 → ∀ (H : Heap) (locs : List Loc), va_P D vwCl [(aR, .inr (7, [.int R_triples, .ref aR_facts, .int R_patterns, .ref aR_cells, .ref aR_told, .ref aR_of, .ref aR_hints, .int R_filters, .ref aR_looks, .ref aR_kinds, .ref aR_values, .ref aR_isSafe, .ref aR_sizes, .ref aR_spreads, .ref aR_isSeen, .ref aR_estimates, .ref aR_rest, .int R_steps, .ref aR_order, .ref aR_joins, .ref aR_actsBehind, .ref aR_upTo, .int R_filtersThen, .ref aR_behind, .int R_rows, .ref aR_row, .ref aR_found, .int R_comes, .ref aR_next, .ref aR_nextFound, .int R_kept, .int R_hasRoom, .ref aR_keep, .ref aR_isTaken])), (aR_hints, .inl (cZ, 64, .inl R_hints))] H → va_D A [(aR, .inr (7, [.int R_triples, .ref aR_facts, .int R_patterns, .ref aR_cells, .ref aR_told, .ref aR_of, .ref aR_hints, .int R_filters, .ref aR_looks, .ref aR_kinds, .ref aR_values, .ref aR_isSafe, .ref aR_sizes, .ref aR_spreads, .ref aR_isSeen, .ref aR_estimates, .ref aR_rest, .int R_steps, .ref aR_order, .ref aR_joins, .ref aR_actsBehind, .ref aR_upTo, .int R_filtersThen, .ref aR_behind, .int R_rows, .ref aR_row, .ref aR_found, .int R_comes, .ref aR_next, .ref aR_nextFound, .int R_kept, .int R_hasRoom, .ref aR_keep, .ref aR_isTaken])), (aR_hints, .inl (cZ, 64, .inl R_hints))] → va_S A s.heap H locs → ∀ ls : Array Slot, lv_has ls 4 [(2, .int x2_26)] → W p l e rm_f_JoinOrderModel_isHinted s m args below meth c H locs 0 0 Q (F0 m 54 ls [])) → W p l e rm_f_JoinOrderModel_isHinted s m args below meth c H locs 0 0 Q (F0 m 4 ls []) := by
    intro k
    induction k with
    | zero =>
      intro x2_24 x3_25 o_23 hf
      exact absurd (((f_JoinOrderModel_isHinted_L0_z n x1 R_hints x2_24 x3_25).symm.trans hf)) (fun h => by cases h)
    | succ k ih =>
      intro x2_24 x3_25 o_23 hf H locs hP hD hS ls hl hX_23
      have hf := (f_JoinOrderModel_isHinted_L0_s n x1 R_hints k x2_24 x3_25).symm.trans hf
      refine lv_iload_n hx hb dX7_isHinted_4 rfl (lv_at hl 3 rfl) ?_
      refine lv_bipush (v := (8 : Int32)) hx hb dX7_isHinted_5 (by decide) ?_
      refine lv_icmp_ge (tgt := 54) hx hb dX7_isHinted_7 (by decide) (fun c_27 => ?_) (fun c_27 => ?_)
      · have hf := xb_t c_27 hf
        exact hX_23 x2_24 hf _ _ hP hD hS _ (lv_sub hl [2] rfl)
      · have hf := xb_f c_27 hf
        refine lv_iload_n hx hb dX7_isHinted_10 rfl (lv_at hl 2 rfl) ?_
        refine lv_if_ne (tgt := 42) hx hb dX7_isHinted_11 (by decide) (fun c_28 => ?_) (fun c_28 => ?_)
        · have hf := xb_f c_28 hf
          refine lv_iconst (v := (1 : Int32)) hx hb dX7_isHinted_42 (by decide) ?_
          refine lv_goto (tgt := 47) hx hb dX7_isHinted_43 (by decide) ?_
          refine lv_istore_n (lv' := [(2, .int (1 : Int32)), (0, .ref aR), (1, .int x1), (3, .int x3_25)]) hx hb dX7_isHinted_47 rfl hl (by decide) rfl (fun ls hl => ?_)
          obtain ⟨x3_29, ex3_29⟩ : ∃ y : Int32, y = x3_25 + (1 : Int32) := ⟨_, rfl⟩
          have hf := nm_nm ex3_29 hf
          refine lv_iinc (v := x3_29) (lv' := [(3, .int x3_29), (2, .int (1 : Int32)), (0, .ref aR), (1, .int x1)]) hx hb dX7_isHinted_48 hl (k := 3) rfl (by rw [ex3_29]; rfl) (by decide) rfl (fun ls hl => ?_)
          refine lv_goto (tgt := 4) hx hb dX7_isHinted_51 (by decide) ?_
          exact ih (1 : Int32) x3_29 o_23 hf _ _ hP hD hS _ (lv_sub hl [2, 3, 1, 0] rfl) hX_23
        · have hf := xb_t c_28 hf
          refine lv_aload_n hx hb dX7_isHinted_14 rfl (lv_at hl 0 rfl) ?_
          refine va_get (D := D) (ci := 7) (v := .ref aR_hints) (C := RX7) (T := TX7) (N := 34) hx hb htg giX7 hown hK hP 0 rfl rfl 6 (by decide) (htg _ kw_569) (fun _ h9 => h9) rfl dX7_isHinted_15 ?_
          refine lv_bipush (v := (8 : Int32)) hx hb dX7_isHinted_18 (by decide) ?_
          refine lv_iload_n hx hb dX7_isHinted_20 rfl (lv_at hl 1 rfl) ?_
          refine lv_imul hx hb dX7_isHinted_21 ?_
          refine lv_iload_n hx hb dX7_isHinted_22 rfl (lv_at hl 3 rfl) ?_
          refine lv_iadd hx hb dX7_isHinted_23 ?_
          have g_30 : vp_in (((8 : Int32) * x1) + x3_25) 64 := gd_in hf
          have hf := gd_el hf
          refine va_zald hx hb hK hP 1 2 rfl rfl g_30 dX7_isHinted_24 ?_
          refine lv_if_ne (tgt := 42) hx hb dX7_isHinted_25 (by decide) (fun c_31 => ?_) (fun c_31 => ?_)
          · have hf := xb_f c_31 hf
            refine lv_iconst (v := (1 : Int32)) hx hb dX7_isHinted_42 (by decide) ?_
            refine lv_goto (tgt := 47) hx hb dX7_isHinted_43 (by decide) ?_
            refine lv_istore_n (lv' := [(2, .int (1 : Int32)), (0, .ref aR), (1, .int x1), (3, .int x3_25)]) hx hb dX7_isHinted_47 rfl hl (by decide) rfl (fun ls hl => ?_)
            obtain ⟨x3_32, ex3_32⟩ : ∃ y : Int32, y = x3_25 + (1 : Int32) := ⟨_, rfl⟩
            have hf := nm_nm ex3_32 hf
            refine lv_iinc (v := x3_32) (lv' := [(3, .int x3_32), (2, .int (1 : Int32)), (0, .ref aR), (1, .int x1)]) hx hb dX7_isHinted_48 hl (k := 3) rfl (by rw [ex3_32]; rfl) (by decide) rfl (fun ls hl => ?_)
            refine lv_goto (tgt := 4) hx hb dX7_isHinted_51 (by decide) ?_
            exact ih (1 : Int32) x3_32 o_23 hf _ _ hP hD hS _ (lv_sub hl [2, 3, 1, 0] rfl) hX_23
          · have hf := xb_t c_31 hf
            refine lv_aload_n hx hb dX7_isHinted_28 rfl (lv_at hl 0 rfl) ?_
            refine va_get (D := D) (ci := 7) (v := .ref aR_hints) (C := RX7) (T := TX7) (N := 34) hx hb htg giX7 hown hK hP 0 rfl rfl 6 (by decide) (htg _ kw_569) (fun _ h9 => h9) rfl dX7_isHinted_29 ?_
            refine lv_bipush (v := (8 : Int32)) hx hb dX7_isHinted_32 (by decide) ?_
            refine lv_iload_n hx hb dX7_isHinted_34 rfl (lv_at hl 3 rfl) ?_
            refine lv_imul hx hb dX7_isHinted_35 ?_
            refine lv_iload_n hx hb dX7_isHinted_36 rfl (lv_at hl 1 rfl) ?_
            refine lv_iadd hx hb dX7_isHinted_37 ?_
            have g_33 : vp_in (((8 : Int32) * x3_25) + x1) 64 := gd_in hf
            have hf := gd_el hf
            refine va_zald hx hb hK hP 1 2 rfl rfl g_33 dX7_isHinted_38 ?_
            refine lv_if_eq (tgt := 46) hx hb dX7_isHinted_39 (by decide) (fun c_34 => ?_) (fun c_34 => ?_)
            · have hf := xb_t c_34 hf
              refine lv_iconst (v := (0 : Int32)) hx hb dX7_isHinted_46 (by decide) ?_
              refine lv_istore_n (lv' := [(2, .int (0 : Int32)), (0, .ref aR), (1, .int x1), (3, .int x3_25)]) hx hb dX7_isHinted_47 rfl hl (by decide) rfl (fun ls hl => ?_)
              obtain ⟨x3_35, ex3_35⟩ : ∃ y : Int32, y = x3_25 + (1 : Int32) := ⟨_, rfl⟩
              have hf := nm_nm ex3_35 hf
              refine lv_iinc (v := x3_35) (lv' := [(3, .int x3_35), (2, .int (0 : Int32)), (0, .ref aR), (1, .int x1)]) hx hb dX7_isHinted_48 hl (k := 3) rfl (by rw [ex3_35]; rfl) (by decide) rfl (fun ls hl => ?_)
              refine lv_goto (tgt := 4) hx hb dX7_isHinted_51 (by decide) ?_
              exact ih (0 : Int32) x3_35 o_23 hf _ _ hP hD hS _ (lv_sub hl [2, 3, 1, 0] rfl) hX_23
            · have hf := xb_f c_34 hf
              refine lv_iconst (v := (1 : Int32)) hx hb dX7_isHinted_42 (by decide) ?_
              refine lv_goto (tgt := 47) hx hb dX7_isHinted_43 (by decide) ?_
              refine lv_istore_n (lv' := [(2, .int (1 : Int32)), (0, .ref aR), (1, .int x1), (3, .int x3_25)]) hx hb dX7_isHinted_47 rfl hl (by decide) rfl (fun ls hl => ?_)
              obtain ⟨x3_36, ex3_36⟩ : ∃ y : Int32, y = x3_25 + (1 : Int32) := ⟨_, rfl⟩
              have hf := nm_nm ex3_36 hf
              refine lv_iinc (v := x3_36) (lv' := [(3, .int x3_36), (2, .int (1 : Int32)), (0, .ref aR), (1, .int x1)]) hx hb dX7_isHinted_48 hl (k := 3) rfl (by rw [ex3_36]; rfl) (by decide) rfl (fun ls hl => ?_)
              refine lv_goto (tgt := 4) hx hb dX7_isHinted_51 (by decide) ?_
              exact ih (1 : Int32) x3_36 o_23 hf _ _ hP hD hS _ (lv_sub hl [2, 3, 1, 0] rfl) hX_23
  obtain ⟨o_23, ho_23, hk_23⟩ := bn1_s hf
  refine L_4_23 n (0 : Int32) (0 : Int32) o_23 ho_23 _ _ hP hD hS _ (lv_sub hl [2, 3, 1, 0] rfl) (fun x2_26 hf H locs hP hD hS ls hl => ?_)
  have hf := hk_23 _ hf
  refine lv_iload_n hx hb dX7_isHinted_54 rfl (lv_at hl 0 rfl) ?_
  have gb_37 := gb_in hf
  have hf := gb_el hf
  have hf := Option.some.inj hf
  cases hf
  exact x_zret (fun _ => 0) hQ hx hb hr hlk gb_37 hK hP hD hS dX7_isHinted_55
abbrev rm_f_JoinOrderModel_isOf : Room := { frames := 0, cells := 0, slots := 0, locals := 0 }
set_option maxHeartbeats 4000000 in
set_option maxRecDepth 100000 in
theorem c_f_JoinOrderModel_isOf (l : Launch) (D : va_G) (cI cJ cZ : ClassId) (sz : Nat) (n : Nat) (aR : Nat) (x1 : Int32) (x2 : Int32) (R_triples : Int32) (aR_facts : Nat) (R_patterns : Int32) (aR_cells : Nat) (aR_told : Nat) (aR_of : Nat) (aR_hints : Nat) (R_filters : Int32) (aR_looks : Nat) (aR_kinds : Nat) (aR_values : Nat) (aR_isSafe : Nat) (aR_sizes : Nat) (aR_spreads : Nat) (aR_isSeen : Nat) (aR_estimates : Nat) (aR_rest : Nat) (R_steps : Int32) (aR_order : Nat) (aR_joins : Nat) (aR_actsBehind : Nat) (aR_upTo : Nat) (R_filtersThen : Int32) (aR_behind : Nat) (R_rows : Int32) (aR_row : Nat) (aR_found : Nat) (R_comes : Int32) (aR_next : Nat) (aR_nextFound : Nat) (R_kept : Int32) (R_hasRoom : Int32) (aR_keep : Nat) (aR_isTaken : Nat) (R_of : Nat → Int32) {r : Int32} (hf : f_JoinOrderModel_isOf n x1 x2 R_of = some r) : Met l yX7_isOf (.code yX7_isOf cX7_isOf 4 (some .boolean) :: GW) rm_f_JoinOrderModel_isOf (va_Pc [.ref aR, .int x1, .int x2] (xP D (xT cI cJ cZ) sz [(aR, .inr (7, [.int R_triples, .ref aR_facts, .int R_patterns, .ref aR_cells, .ref aR_told, .ref aR_of, .ref aR_hints, .int R_filters, .ref aR_looks, .ref aR_kinds, .ref aR_values, .ref aR_isSafe, .ref aR_sizes, .ref aR_spreads, .ref aR_isSeen, .ref aR_estimates, .ref aR_rest, .int R_steps, .ref aR_order, .ref aR_joins, .ref aR_actsBehind, .ref aR_upTo, .int R_filtersThen, .ref aR_behind, .int R_rows, .ref aR_row, .ref aR_found, .int R_comes, .ref aR_next, .ref aR_nextFound, .int R_kept, .int R_hasRoom, .ref aR_keep, .ref aR_isTaken])), (aR_of, .inl (cI, 8, .inl R_of))])) (va_Qi (fun r2 (_ : Nat → Nat) => r2 = r ∧ (r = 0 ∨ r = 1)) (bB D (xT cI cJ cZ) (fun _ => [(aR, .inr (7, [.int R_triples, .ref aR_facts, .int R_patterns, .ref aR_cells, .ref aR_told, .ref aR_of, .ref aR_hints, .int R_filters, .ref aR_looks, .ref aR_kinds, .ref aR_values, .ref aR_isSafe, .ref aR_sizes, .ref aR_spreads, .ref aR_isSeen, .ref aR_estimates, .ref aR_rest, .int R_steps, .ref aR_order, .ref aR_joins, .ref aR_actsBehind, .ref aR_upTo, .int R_filtersThen, .ref aR_behind, .int R_rows, .ref aR_row, .ref aR_found, .int R_comes, .ref aR_next, .ref aR_nextFound, .int R_kept, .int R_hasRoom, .ref aR_keep, .ref aR_isTaken])), (aR_of, .inl (cI, 8, .inl R_of))]) (va_A [(aR, .inr (7, [.int R_triples, .ref aR_facts, .int R_patterns, .ref aR_cells, .ref aR_told, .ref aR_of, .ref aR_hints, .int R_filters, .ref aR_looks, .ref aR_kinds, .ref aR_values, .ref aR_isSafe, .ref aR_sizes, .ref aR_spreads, .ref aR_isSeen, .ref aR_estimates, .ref aR_rest, .int R_steps, .ref aR_order, .ref aR_joins, .ref aR_actsBehind, .ref aR_upTo, .int R_filtersThen, .ref aR_behind, .int R_rows, .ref aR_row, .ref aR_found, .int R_comes, .ref aR_next, .ref aR_nextFound, .int R_kept, .int R_hasRoom, .ref aR_keep, .ref aR_isTaken])), (aR_of, .inl (cI, 8, .inl R_of))] sz)) (va_A [(aR, .inr (7, [.int R_triples, .ref aR_facts, .int R_patterns, .ref aR_cells, .ref aR_told, .ref aR_of, .ref aR_hints, .int R_filters, .ref aR_looks, .ref aR_kinds, .ref aR_values, .ref aR_isSafe, .ref aR_sizes, .ref aR_spreads, .ref aR_isSeen, .ref aR_estimates, .ref aR_rest, .int R_steps, .ref aR_order, .ref aR_joins, .ref aR_actsBehind, .ref aR_upTo, .int R_filtersThen, .ref aR_behind, .int R_rows, .ref aR_row, .ref aR_found, .int R_comes, .ref aR_next, .ref aR_nextFound, .int R_kept, .int R_hasRoom, .ref aR_keep, .ref aR_isTaken])), (aR_of, .inl (cI, 8, .inl R_of))] sz)) 0 0 (va_A [(aR, .inr (7, [.int R_triples, .ref aR_facts, .int R_patterns, .ref aR_cells, .ref aR_told, .ref aR_of, .ref aR_hints, .int R_filters, .ref aR_looks, .ref aR_kinds, .ref aR_values, .ref aR_isSafe, .ref aR_sizes, .ref aR_spreads, .ref aR_isSeen, .ref aR_estimates, .ref aR_rest, .int R_steps, .ref aR_order, .ref aR_joins, .ref aR_actsBehind, .ref aR_upTo, .int R_filtersThen, .ref aR_behind, .int R_rows, .ref aR_row, .ref aR_found, .int R_comes, .ref aR_next, .ref aR_nextFound, .int R_kept, .int R_hasRoom, .ref aR_keep, .ref aR_isTaken])), (aR_of, .inl (cI, 8, .inl R_of))] sz) := by
  refine con_start (Qc := fun A => va_Qi (fun r2 (_ : Nat → Nat) => r2 = r ∧ (r = 0 ∨ r = 1)) (bB D (xT cI cJ cZ) (fun _ => [(aR, .inr (7, [.int R_triples, .ref aR_facts, .int R_patterns, .ref aR_cells, .ref aR_told, .ref aR_of, .ref aR_hints, .int R_filters, .ref aR_looks, .ref aR_kinds, .ref aR_values, .ref aR_isSafe, .ref aR_sizes, .ref aR_spreads, .ref aR_isSeen, .ref aR_estimates, .ref aR_rest, .int R_steps, .ref aR_order, .ref aR_joins, .ref aR_actsBehind, .ref aR_upTo, .int R_filtersThen, .ref aR_behind, .int R_rows, .ref aR_row, .ref aR_found, .int R_comes, .ref aR_next, .ref aR_nextFound, .int R_kept, .int R_hasRoom, .ref aR_keep, .ref aR_isTaken])), (aR_of, .inl (cI, 8, .inl R_of))]) A) A) (by decide) (Nat.le_of_ble_eq_true rfl) ?_
  intro p e s m args below meth c Q A hx hb hr hlk hml hown hin htg hN hK hQ hA hP hD hS ls hl
  have hl : lv_has ls 4 [(0, .ref aR), (1, .int x1), (2, .int x2)] := hl
  have hown : s.vm.findClass RX7 = some m.cls := hown
  have hf := (f_JoinOrderModel_isOf_u n x1 x2 R_of).symm.trans hf
  refine lv_aload_n hx hb dX7_isOf_0 rfl (lv_at hl 0 rfl) ?_
  refine va_get (D := D) (ci := 7) (v := .ref aR_of) (C := RX7) (T := TX7) (N := 34) hx hb htg giX7 hown hK hP 0 rfl rfl 5 (by decide) (htg _ kw_568) (fun _ h9 => h9) rfl dX7_isOf_1 ?_
  refine lv_iload_n hx hb dX7_isOf_4 rfl (lv_at hl 1 rfl) ?_
  have g_1 : vp_in x1 8 := gd_in hf
  have hf := gd_el hf
  refine va_iald hx hb hK hP 1 0 rfl rfl g_1 dX7_isOf_5 ?_
  refine lv_topi (fun x3_2 ex3_2 => ?_)
  have hf := nm_nm ex3_2 hf
  refine lv_istore_n (lv' := [(3, .int x3_2), (0, .ref aR), (1, .int x1), (2, .int x2)]) hx hb dX7_isOf_6 rfl hl (by decide) rfl (fun ls hl => ?_)
  have L_7_12 : ∀ (k : Nat) (x3_13 : Int32) (o_12 : Int32), f_JoinOrderModel_isOf_L0 n x2 R_of k x3_13 = some o_12 → ∀ (H : Heap) (locs : List Loc), va_P D vwCl [(aR, .inr (7, [.int R_triples, .ref aR_facts, .int R_patterns, .ref aR_cells, .ref aR_told, .ref aR_of, .ref aR_hints, .int R_filters, .ref aR_looks, .ref aR_kinds, .ref aR_values, .ref aR_isSafe, .ref aR_sizes, .ref aR_spreads, .ref aR_isSeen, .ref aR_estimates, .ref aR_rest, .int R_steps, .ref aR_order, .ref aR_joins, .ref aR_actsBehind, .ref aR_upTo, .int R_filtersThen, .ref aR_behind, .int R_rows, .ref aR_row, .ref aR_found, .int R_comes, .ref aR_next, .ref aR_nextFound, .int R_kept, .int R_hasRoom, .ref aR_keep, .ref aR_isTaken])), (aR_of, .inl (cI, 8, .inl R_of))] H → va_D A [(aR, .inr (7, [.int R_triples, .ref aR_facts, .int R_patterns, .ref aR_cells, .ref aR_told, .ref aR_of, .ref aR_hints, .int R_filters, .ref aR_looks, .ref aR_kinds, .ref aR_values, .ref aR_isSafe, .ref aR_sizes, .ref aR_spreads, .ref aR_isSeen, .ref aR_estimates, .ref aR_rest, .int R_steps, .ref aR_order, .ref aR_joins, .ref aR_actsBehind, .ref aR_upTo, .int R_filtersThen, .ref aR_behind, .int R_rows, .ref aR_row, .ref aR_found, .int R_comes, .ref aR_next, .ref aR_nextFound, .int R_kept, .int R_hasRoom, .ref aR_keep, .ref aR_isTaken])), (aR_of, .inl (cI, 8, .inl R_of))] → va_S A s.heap H locs → ∀ ls : Array Slot, lv_has ls 4 [(0, .ref aR), (2, .int x2), (3, .int x3_13)] → (∀ (x3_14 : Int32), some (x3_14) = some o_12 → ∀ (H : Heap) (locs : List Loc), va_P D vwCl [(aR, .inr (7, [.int R_triples, .ref aR_facts, .int R_patterns, .ref aR_cells, .ref aR_told, .ref aR_of, .ref aR_hints, .int R_filters, .ref aR_looks, .ref aR_kinds, .ref aR_values, .ref aR_isSafe, .ref aR_sizes, .ref aR_spreads, .ref aR_isSeen, .ref aR_estimates, .ref aR_rest, .int R_steps, .ref aR_order, .ref aR_joins, .ref aR_actsBehind, .ref aR_upTo, .int R_filtersThen, .ref aR_behind, .int R_rows, .ref aR_row, .ref aR_found, .int R_comes, .ref aR_next, .ref aR_nextFound, .int R_kept, .int R_hasRoom, .ref aR_keep, .ref aR_isTaken])), (aR_of, .inl (cI, 8, .inl R_of))] H → va_D A [(aR, .inr (7, [.int R_triples, .ref aR_facts, .int R_patterns, .ref aR_cells, .ref aR_told, .ref aR_of, .ref aR_hints, .int R_filters, .ref aR_looks, .ref aR_kinds, .ref aR_values, .ref aR_isSafe, .ref aR_sizes, .ref aR_spreads, .ref aR_isSeen, .ref aR_estimates, .ref aR_rest, .int R_steps, .ref aR_order, .ref aR_joins, .ref aR_actsBehind, .ref aR_upTo, .int R_filtersThen, .ref aR_behind, .int R_rows, .ref aR_row, .ref aR_found, .int R_comes, .ref aR_next, .ref aR_nextFound, .int R_kept, .int R_hasRoom, .ref aR_keep, .ref aR_isTaken])), (aR_of, .inl (cI, 8, .inl R_of))] → va_S A s.heap H locs → ∀ ls : Array Slot, lv_has ls 4 [(2, .int x2), (3, .int x3_14)] → W p l e rm_f_JoinOrderModel_isOf s m args below meth c H locs 0 0 Q (F0 m 27 ls [])) → W p l e rm_f_JoinOrderModel_isOf s m args below meth c H locs 0 0 Q (F0 m 7 ls []) := by
    intro k
    induction k with
    | zero =>
      intro x3_13 o_12 hf
      exact absurd (((f_JoinOrderModel_isOf_L0_z n x2 R_of x3_13).symm.trans hf)) (fun h => by cases h)
    | succ k ih =>
      intro x3_13 o_12 hf H locs hP hD hS ls hl hX_12
      have hf := (f_JoinOrderModel_isOf_L0_s n x2 R_of k x3_13).symm.trans hf
      refine lv_iload_n hx hb dX7_isOf_7 rfl (lv_at hl 2 rfl) ?_
      refine lv_iconst (v := (-1 : Int32)) hx hb dX7_isOf_8 (by decide) ?_
      refine lv_icmp_eq (tgt := 27) hx hb dX7_isOf_9 (by decide) (fun c_15 => ?_) (fun c_15 => ?_)
      · have hf := xb_t c_15 hf
        exact hX_12 x3_13 hf _ _ hP hD hS _ (lv_sub hl [1, 2] rfl)
      · have hf := xb_f c_15 hf
        refine lv_iload_n hx hb dX7_isOf_12 rfl (lv_at hl 2 rfl) ?_
        refine lv_iload_n hx hb dX7_isOf_13 rfl (lv_at hl 1 rfl) ?_
        refine lv_icmp_eq (tgt := 27) hx hb dX7_isOf_14 (by decide) (fun c_16 => ?_) (fun c_16 => ?_)
        · have hf := xb_t c_16 hf
          exact hX_12 x3_13 hf _ _ hP hD hS _ (lv_sub hl [1, 2] rfl)
        · have hf := xb_f c_16 hf
          refine lv_aload_n hx hb dX7_isOf_17 rfl (lv_at hl 0 rfl) ?_
          refine va_get (D := D) (ci := 7) (v := .ref aR_of) (C := RX7) (T := TX7) (N := 34) hx hb htg giX7 hown hK hP 0 rfl rfl 5 (by decide) (htg _ kw_568) (fun _ h9 => h9) rfl dX7_isOf_18 ?_
          refine lv_iload_n hx hb dX7_isOf_21 rfl (lv_at hl 2 rfl) ?_
          have g_17 : vp_in x3_13 8 := gd_in hf
          have hf := gd_el hf
          refine va_iald hx hb hK hP 1 0 rfl rfl g_17 dX7_isOf_22 ?_
          refine lv_topi (fun x3_18 ex3_18 => ?_)
          have hf := nm_nm ex3_18 hf
          refine lv_istore_n (lv' := [(3, .int x3_18), (0, .ref aR), (2, .int x2)]) hx hb dX7_isOf_23 rfl hl (by decide) rfl (fun ls hl => ?_)
          refine lv_goto (tgt := 7) hx hb dX7_isOf_24 (by decide) ?_
          exact ih x3_18 o_12 hf _ _ hP hD hS _ (lv_sub hl [1, 2, 0] rfl) hX_12
  obtain ⟨o_12, ho_12, hk_12⟩ := bn1_s hf
  refine L_7_12 n x3_2 o_12 ho_12 _ _ hP hD hS _ (lv_sub hl [1, 3, 0] rfl) (fun x3_14 hf H locs hP hD hS ls hl => ?_)
  have hf := hk_12 _ hf
  refine lv_iload_n hx hb dX7_isOf_27 rfl (lv_at hl 1 rfl) ?_
  refine lv_iload_n hx hb dX7_isOf_28 rfl (lv_at hl 0 rfl) ?_
  refine lv_icmp_ne (tgt := 36) hx hb dX7_isOf_29 (by decide) (fun c_19 => ?_) (fun c_19 => ?_)
  · have hf := xb_f c_19 hf
    refine lv_iconst (v := (0 : Int32)) hx hb dX7_isOf_36 (by decide) ?_
    have hf := Option.some.inj hf
    cases hf
    exact x_zret (fun _ => 0) hQ hx hb hr hlk (by decide) hK hP hD hS dX7_isOf_37
  · have hf := xb_t c_19 hf
    refine lv_iconst (v := (1 : Int32)) hx hb dX7_isOf_32 (by decide) ?_
    refine lv_goto (tgt := 37) hx hb dX7_isOf_33 (by decide) ?_
    have hf := Option.some.inj hf
    cases hf
    exact x_zret (fun _ => 0) hQ hx hb hr hlk (by decide) hK hP hD hS dX7_isOf_37
abbrev rm_f_JoinOrderModel_optional : Room := { frames := 1, cells := 0, slots := 0, locals := 23 }
set_option maxHeartbeats 4000000 in
set_option maxRecDepth 100000 in
theorem c_f_JoinOrderModel_optional (l : Launch) (D : va_G) (cI cJ cZ : ClassId) (sz : Nat) (n : Nat) (aR : Nat) (x1 : Int32) (x2 : Int32) (R_triples : Int32) (aR_facts : Nat) (R_patterns : Int32) (aR_cells : Nat) (aR_told : Nat) (aR_of : Nat) (aR_hints : Nat) (R_filters : Int32) (aR_looks : Nat) (aR_kinds : Nat) (aR_values : Nat) (aR_isSafe : Nat) (aR_sizes : Nat) (aR_spreads : Nat) (aR_isSeen : Nat) (aR_estimates : Nat) (aR_rest : Nat) (R_steps : Int32) (aR_order : Nat) (aR_joins : Nat) (aR_actsBehind : Nat) (aR_upTo : Nat) (R_filtersThen : Int32) (aR_behind : Nat) (R_rows : Int32) (aR_row : Nat) (aR_found : Nat) (R_comes : Int32) (aR_next : Nat) (aR_nextFound : Nat) (R_kept : Int32) (R_hasRoom : Int32) (aR_keep : Nat) (aR_isTaken : Nat) (R_of : Nat → Int32) (R_hints : Nat → Int32) {r : Int32} {R_of' : Nat → Int32} (hf : f_JoinOrderModel_optional n x1 x2 R_patterns R_of R_hints = some (r, R_of')) : Met l yX7_optional (.code yX7_optional cX7_optional 3 (some .int) :: GW) rm_f_JoinOrderModel_optional (va_Pc [.ref aR, .int x1, .int x2] (xP D (xT cI cJ cZ) sz [(aR, .inr (7, [.int R_triples, .ref aR_facts, .int R_patterns, .ref aR_cells, .ref aR_told, .ref aR_of, .ref aR_hints, .int R_filters, .ref aR_looks, .ref aR_kinds, .ref aR_values, .ref aR_isSafe, .ref aR_sizes, .ref aR_spreads, .ref aR_isSeen, .ref aR_estimates, .ref aR_rest, .int R_steps, .ref aR_order, .ref aR_joins, .ref aR_actsBehind, .ref aR_upTo, .int R_filtersThen, .ref aR_behind, .int R_rows, .ref aR_row, .ref aR_found, .int R_comes, .ref aR_next, .ref aR_nextFound, .int R_kept, .int R_hasRoom, .ref aR_keep, .ref aR_isTaken])), (aR_of, .inl (cI, 8, .inl R_of)), (aR_hints, .inl (cZ, 64, .inl R_hints))])) (va_Qi (fun r2 (_ : Nat → Nat) => r2 = r) (bB D (xT cI cJ cZ) (fun _ => [(aR, .inr (7, [.int R_triples, .ref aR_facts, .int R_patterns, .ref aR_cells, .ref aR_told, .ref aR_of, .ref aR_hints, .int R_filters, .ref aR_looks, .ref aR_kinds, .ref aR_values, .ref aR_isSafe, .ref aR_sizes, .ref aR_spreads, .ref aR_isSeen, .ref aR_estimates, .ref aR_rest, .int R_steps, .ref aR_order, .ref aR_joins, .ref aR_actsBehind, .ref aR_upTo, .int R_filtersThen, .ref aR_behind, .int R_rows, .ref aR_row, .ref aR_found, .int R_comes, .ref aR_next, .ref aR_nextFound, .int R_kept, .int R_hasRoom, .ref aR_keep, .ref aR_isTaken])), (aR_of, .inl (cI, 8, .inl R_of')), (aR_hints, .inl (cZ, 64, .inl R_hints))]) (va_A [(aR, .inr (7, [.int R_triples, .ref aR_facts, .int R_patterns, .ref aR_cells, .ref aR_told, .ref aR_of, .ref aR_hints, .int R_filters, .ref aR_looks, .ref aR_kinds, .ref aR_values, .ref aR_isSafe, .ref aR_sizes, .ref aR_spreads, .ref aR_isSeen, .ref aR_estimates, .ref aR_rest, .int R_steps, .ref aR_order, .ref aR_joins, .ref aR_actsBehind, .ref aR_upTo, .int R_filtersThen, .ref aR_behind, .int R_rows, .ref aR_row, .ref aR_found, .int R_comes, .ref aR_next, .ref aR_nextFound, .int R_kept, .int R_hasRoom, .ref aR_keep, .ref aR_isTaken])), (aR_of, .inl (cI, 8, .inl R_of)), (aR_hints, .inl (cZ, 64, .inl R_hints))] sz)) (va_A [(aR, .inr (7, [.int R_triples, .ref aR_facts, .int R_patterns, .ref aR_cells, .ref aR_told, .ref aR_of, .ref aR_hints, .int R_filters, .ref aR_looks, .ref aR_kinds, .ref aR_values, .ref aR_isSafe, .ref aR_sizes, .ref aR_spreads, .ref aR_isSeen, .ref aR_estimates, .ref aR_rest, .int R_steps, .ref aR_order, .ref aR_joins, .ref aR_actsBehind, .ref aR_upTo, .int R_filtersThen, .ref aR_behind, .int R_rows, .ref aR_row, .ref aR_found, .int R_comes, .ref aR_next, .ref aR_nextFound, .int R_kept, .int R_hasRoom, .ref aR_keep, .ref aR_isTaken])), (aR_of, .inl (cI, 8, .inl R_of)), (aR_hints, .inl (cZ, 64, .inl R_hints))] sz)) 0 0 (va_A [(aR, .inr (7, [.int R_triples, .ref aR_facts, .int R_patterns, .ref aR_cells, .ref aR_told, .ref aR_of, .ref aR_hints, .int R_filters, .ref aR_looks, .ref aR_kinds, .ref aR_values, .ref aR_isSafe, .ref aR_sizes, .ref aR_spreads, .ref aR_isSeen, .ref aR_estimates, .ref aR_rest, .int R_steps, .ref aR_order, .ref aR_joins, .ref aR_actsBehind, .ref aR_upTo, .int R_filtersThen, .ref aR_behind, .int R_rows, .ref aR_row, .ref aR_found, .int R_comes, .ref aR_next, .ref aR_nextFound, .int R_kept, .int R_hasRoom, .ref aR_keep, .ref aR_isTaken])), (aR_of, .inl (cI, 8, .inl R_of)), (aR_hints, .inl (cZ, 64, .inl R_hints))] sz) := by
  refine con_start (Qc := fun A => va_Qi (fun r2 (_ : Nat → Nat) => r2 = r) (bB D (xT cI cJ cZ) (fun _ => [(aR, .inr (7, [.int R_triples, .ref aR_facts, .int R_patterns, .ref aR_cells, .ref aR_told, .ref aR_of, .ref aR_hints, .int R_filters, .ref aR_looks, .ref aR_kinds, .ref aR_values, .ref aR_isSafe, .ref aR_sizes, .ref aR_spreads, .ref aR_isSeen, .ref aR_estimates, .ref aR_rest, .int R_steps, .ref aR_order, .ref aR_joins, .ref aR_actsBehind, .ref aR_upTo, .int R_filtersThen, .ref aR_behind, .int R_rows, .ref aR_row, .ref aR_found, .int R_comes, .ref aR_next, .ref aR_nextFound, .int R_kept, .int R_hasRoom, .ref aR_keep, .ref aR_isTaken])), (aR_of, .inl (cI, 8, .inl R_of')), (aR_hints, .inl (cZ, 64, .inl R_hints))]) A) A) (by decide) (Nat.le_of_ble_eq_true rfl) ?_
  intro p e s m args below meth c Q A hx hb hr hlk hml hown hin htg hN hK hQ hA hP hD hS ls hl
  have hl : lv_has ls 3 [(0, .ref aR), (1, .int x1), (2, .int x2)] := hl
  have hown : s.vm.findClass RX7 = some m.cls := hown
  have hf := (f_JoinOrderModel_optional_u n x1 x2 R_patterns R_of R_hints).symm.trans hf
  refine lv_aload_n hx hb dX7_optional_0 rfl (lv_at hl 0 rfl) ?_
  refine lv_iload_n hx hb dX7_optional_1 rfl (lv_at hl 1 rfl) ?_
  refine x_z (xrV (As := [.int x1]) (b := aR) (rest := []) ⟨hx, hb, hml, hown, htg⟩ (c_f_JoinOrderModel_isPattern l D cI cJ cZ _ aR x1 R_triples aR_facts R_patterns aR_cells aR_told aR_of aR_hints R_filters aR_looks aR_kinds aR_values aR_isSafe aR_sizes aR_spreads aR_isSeen aR_estimates aR_rest R_steps aR_order aR_joins aR_actsBehind aR_upTo R_filtersThen aR_behind R_rows aR_row aR_found R_comes aR_next aR_nextFound R_kept R_hasRoom aR_keep aR_isTaken rfl) kc_f_JoinOrderModel_isPattern kw_688 kw_690 kp_20 kw_8 dd_f_JoinOrderModel_isPattern ⟨Nat.le_of_ble_eq_true rfl, Nat.le_of_ble_eq_true rfl⟩ rfl rfl (hP.sub [0] rfl) (hD.sub [0] (by decide) rfl) hK hN hP (q0 := 0) rfl rfl rfl hl.1 rfl (Nat.le_of_ble_eq_true rfl) dX7_optional_2 ⟨Nat.le_of_ble_eq_true rfl, Nat.le_of_ble_eq_true rfl⟩) hP hD hS hA [0] [1, 2] rfl rfl (by decide) (by decide) (fun _ H locs bz_1 hP hD hS => ?_)
  have hP : va_P D vwCl [(aR_of, .inl (cI, 8, .inl R_of)), (aR_hints, .inl (cZ, 64, .inl R_hints)), (aR, .inr (7, [.int R_triples, .ref aR_facts, .int R_patterns, .ref aR_cells, .ref aR_told, .ref aR_of, .ref aR_hints, .int R_filters, .ref aR_looks, .ref aR_kinds, .ref aR_values, .ref aR_isSafe, .ref aR_sizes, .ref aR_spreads, .ref aR_isSeen, .ref aR_estimates, .ref aR_rest, .int R_steps, .ref aR_order, .ref aR_joins, .ref aR_actsBehind, .ref aR_upTo, .int R_filtersThen, .ref aR_behind, .int R_rows, .ref aR_row, .ref aR_found, .int R_comes, .ref aR_next, .ref aR_nextFound, .int R_kept, .int R_hasRoom, .ref aR_keep, .ref aR_isTaken]))] H := hP
  have hD : va_D A [(aR_of, .inl (cI, 8, .inl R_of)), (aR_hints, .inl (cZ, 64, .inl R_hints)), (aR, .inr (7, [.int R_triples, .ref aR_facts, .int R_patterns, .ref aR_cells, .ref aR_told, .ref aR_of, .ref aR_hints, .int R_filters, .ref aR_looks, .ref aR_kinds, .ref aR_values, .ref aR_isSafe, .ref aR_sizes, .ref aR_spreads, .ref aR_isSeen, .ref aR_estimates, .ref aR_rest, .int R_steps, .ref aR_order, .ref aR_joins, .ref aR_actsBehind, .ref aR_upTo, .int R_filtersThen, .ref aR_behind, .int R_rows, .ref aR_row, .ref aR_found, .int R_comes, .ref aR_next, .ref aR_nextFound, .int R_kept, .int R_hasRoom, .ref aR_keep, .ref aR_isTaken]))] := hD
  refine lv_if_eq (tgt := 16) hx hb dX7_optional_5 (by decide) (fun c_2 => ?_) (fun c_2 => ?_)
  · have hf := xb_t c_2 hf
    refine lv_iconst (v := (-1 : Int32)) hx hb dX7_optional_16 (by decide) ?_
    have hf := Option.some.inj hf
    cases hf
    exact x_iret (fun _ => 0) hQ hx hb hr hlk hK (hP.sub [2, 0, 1] rfl) (hD.sub [2, 0, 1] (by decide) rfl) hS dX7_optional_17
  · have hf := xb_f c_2 hf
    refine lv_aload_n hx hb dX7_optional_8 rfl (lv_at hl 0 rfl) ?_
    refine lv_iload_n hx hb dX7_optional_9 rfl (lv_at hl 2 rfl) ?_
    refine x_z (xrV (As := [.int x2]) (b := aR) (rest := []) ⟨hx, hb, hml, hown, htg⟩ (c_f_JoinOrderModel_isPattern l D cI cJ cZ _ aR x2 R_triples aR_facts R_patterns aR_cells aR_told aR_of aR_hints R_filters aR_looks aR_kinds aR_values aR_isSafe aR_sizes aR_spreads aR_isSeen aR_estimates aR_rest R_steps aR_order aR_joins aR_actsBehind aR_upTo R_filtersThen aR_behind R_rows aR_row aR_found R_comes aR_next aR_nextFound R_kept R_hasRoom aR_keep aR_isTaken rfl) kc_f_JoinOrderModel_isPattern kw_688 kw_690 kp_20 kw_8 dd_f_JoinOrderModel_isPattern ⟨Nat.le_of_ble_eq_true rfl, Nat.le_of_ble_eq_true rfl⟩ rfl rfl (hP.sub [2] rfl) (hD.sub [2] (by decide) rfl) hK hN hP (q0 := 2) rfl rfl rfl hl.1 rfl (Nat.le_of_ble_eq_true rfl) dX7_optional_10 ⟨Nat.le_of_ble_eq_true rfl, Nat.le_of_ble_eq_true rfl⟩) hP hD hS hA [2] [0, 1] rfl rfl (by decide) (by decide) (fun _ H locs bz_3 hP hD hS => ?_)
    have hP : va_P D vwCl [(aR_of, .inl (cI, 8, .inl R_of)), (aR_hints, .inl (cZ, 64, .inl R_hints)), (aR, .inr (7, [.int R_triples, .ref aR_facts, .int R_patterns, .ref aR_cells, .ref aR_told, .ref aR_of, .ref aR_hints, .int R_filters, .ref aR_looks, .ref aR_kinds, .ref aR_values, .ref aR_isSafe, .ref aR_sizes, .ref aR_spreads, .ref aR_isSeen, .ref aR_estimates, .ref aR_rest, .int R_steps, .ref aR_order, .ref aR_joins, .ref aR_actsBehind, .ref aR_upTo, .int R_filtersThen, .ref aR_behind, .int R_rows, .ref aR_row, .ref aR_found, .int R_comes, .ref aR_next, .ref aR_nextFound, .int R_kept, .int R_hasRoom, .ref aR_keep, .ref aR_isTaken]))] H := hP
    have hD : va_D A [(aR_of, .inl (cI, 8, .inl R_of)), (aR_hints, .inl (cZ, 64, .inl R_hints)), (aR, .inr (7, [.int R_triples, .ref aR_facts, .int R_patterns, .ref aR_cells, .ref aR_told, .ref aR_of, .ref aR_hints, .int R_filters, .ref aR_looks, .ref aR_kinds, .ref aR_values, .ref aR_isSafe, .ref aR_sizes, .ref aR_spreads, .ref aR_isSeen, .ref aR_estimates, .ref aR_rest, .int R_steps, .ref aR_order, .ref aR_joins, .ref aR_actsBehind, .ref aR_upTo, .int R_filtersThen, .ref aR_behind, .int R_rows, .ref aR_row, .ref aR_found, .int R_comes, .ref aR_next, .ref aR_nextFound, .int R_kept, .int R_hasRoom, .ref aR_keep, .ref aR_isTaken]))] := hD
    refine lv_if_ne (tgt := 18) hx hb dX7_optional_13 (by decide) (fun c_4 => ?_) (fun c_4 => ?_)
    · have hf := xb_f c_4 hf
      refine lv_aload_n hx hb dX7_optional_18 rfl (lv_at hl 0 rfl) ?_
      refine lv_iload_n hx hb dX7_optional_19 rfl (lv_at hl 1 rfl) ?_
      obtain ⟨r_6, hq_5, hf⟩ := bn1_c hf
      refine x_z (xrV (As := [.int x1]) (b := aR) (rest := []) ⟨hx, hb, hml, hown, htg⟩ (c_f_JoinOrderModel_isRequired l D cI cJ cZ _ aR x1 R_triples aR_facts R_patterns aR_cells aR_told aR_of aR_hints R_filters aR_looks aR_kinds aR_values aR_isSafe aR_sizes aR_spreads aR_isSeen aR_estimates aR_rest R_steps aR_order aR_joins aR_actsBehind aR_upTo R_filtersThen aR_behind R_rows aR_row aR_found R_comes aR_next aR_nextFound R_kept R_hasRoom aR_keep aR_isTaken R_of hq_5) kc_f_JoinOrderModel_isRequired kw_692 kw_694 kp_21 kw_8 dd_f_JoinOrderModel_isRequired ⟨Nat.le_of_ble_eq_true rfl, Nat.le_of_ble_eq_true rfl⟩ rfl rfl (hP.sub [2, 0] rfl) (hD.sub [2, 0] (by decide) rfl) hK hN hP (q0 := 2) rfl rfl rfl hl.1 rfl (Nat.le_of_ble_eq_true rfl) dX7_optional_20 ⟨Nat.le_of_ble_eq_true rfl, Nat.le_of_ble_eq_true rfl⟩) hP hD hS hA [2, 0] [1] rfl rfl (by decide) (by decide) (fun _ H locs bz_5 hP hD hS => ?_)
      have hP : va_P D vwCl [(aR_hints, .inl (cZ, 64, .inl R_hints)), (aR, .inr (7, [.int R_triples, .ref aR_facts, .int R_patterns, .ref aR_cells, .ref aR_told, .ref aR_of, .ref aR_hints, .int R_filters, .ref aR_looks, .ref aR_kinds, .ref aR_values, .ref aR_isSafe, .ref aR_sizes, .ref aR_spreads, .ref aR_isSeen, .ref aR_estimates, .ref aR_rest, .int R_steps, .ref aR_order, .ref aR_joins, .ref aR_actsBehind, .ref aR_upTo, .int R_filtersThen, .ref aR_behind, .int R_rows, .ref aR_row, .ref aR_found, .int R_comes, .ref aR_next, .ref aR_nextFound, .int R_kept, .int R_hasRoom, .ref aR_keep, .ref aR_isTaken])), (aR_of, .inl (cI, 8, .inl R_of))] H := hP
      have hD : va_D A [(aR_hints, .inl (cZ, 64, .inl R_hints)), (aR, .inr (7, [.int R_triples, .ref aR_facts, .int R_patterns, .ref aR_cells, .ref aR_told, .ref aR_of, .ref aR_hints, .int R_filters, .ref aR_looks, .ref aR_kinds, .ref aR_values, .ref aR_isSafe, .ref aR_sizes, .ref aR_spreads, .ref aR_isSeen, .ref aR_estimates, .ref aR_rest, .int R_steps, .ref aR_order, .ref aR_joins, .ref aR_actsBehind, .ref aR_upTo, .int R_filtersThen, .ref aR_behind, .int R_rows, .ref aR_row, .ref aR_found, .int R_comes, .ref aR_next, .ref aR_nextFound, .int R_kept, .int R_hasRoom, .ref aR_keep, .ref aR_isTaken])), (aR_of, .inl (cI, 8, .inl R_of))] := hD
      refine lv_if_eq (tgt := 48) hx hb dX7_optional_23 (by decide) (fun c_7 => ?_) (fun c_7 => ?_)
      · have hf := xb_t c_7 hf
        refine lv_bipush (v := (-3 : Int32)) hx hb dX7_optional_48 (by decide) ?_
        have hf := Option.some.inj hf
        cases hf
        exact x_iret (fun _ => 0) hQ hx hb hr hlk hK (hP.sub [1, 2, 0] rfl) (hD.sub [1, 2, 0] (by decide) rfl) hS dX7_optional_50
      · have hf := xb_f c_7 hf
        refine lv_aload_n hx hb dX7_optional_26 rfl (lv_at hl 0 rfl) ?_
        refine lv_iload_n hx hb dX7_optional_27 rfl (lv_at hl 1 rfl) ?_
        obtain ⟨r_9, hq_8, hf⟩ := bn1_c hf
        refine x_z (xrV (As := [.int x1]) (b := aR) (rest := []) ⟨hx, hb, hml, hown, htg⟩ (c_f_JoinOrderModel_isHinted l D cI cJ cZ _ n aR x1 R_triples aR_facts R_patterns aR_cells aR_told aR_of aR_hints R_filters aR_looks aR_kinds aR_values aR_isSafe aR_sizes aR_spreads aR_isSeen aR_estimates aR_rest R_steps aR_order aR_joins aR_actsBehind aR_upTo R_filtersThen aR_behind R_rows aR_row aR_found R_comes aR_next aR_nextFound R_kept R_hasRoom aR_keep aR_isTaken R_hints hq_8) kc_f_JoinOrderModel_isHinted kw_696 kw_698 kp_22 kw_8 dd_f_JoinOrderModel_isHinted ⟨Nat.le_of_ble_eq_true rfl, Nat.le_of_ble_eq_true rfl⟩ rfl rfl (hP.sub [1, 0] rfl) (hD.sub [1, 0] (by decide) rfl) hK hN hP (q0 := 1) rfl rfl rfl hl.1 rfl (Nat.le_of_ble_eq_true rfl) dX7_optional_28 ⟨Nat.le_of_ble_eq_true rfl, Nat.le_of_ble_eq_true rfl⟩) hP hD hS hA [1, 0] [2] rfl rfl (by decide) (by decide) (fun _ H locs bz_8 hP hD hS => ?_)
        have hP : va_P D vwCl [(aR_of, .inl (cI, 8, .inl R_of)), (aR, .inr (7, [.int R_triples, .ref aR_facts, .int R_patterns, .ref aR_cells, .ref aR_told, .ref aR_of, .ref aR_hints, .int R_filters, .ref aR_looks, .ref aR_kinds, .ref aR_values, .ref aR_isSafe, .ref aR_sizes, .ref aR_spreads, .ref aR_isSeen, .ref aR_estimates, .ref aR_rest, .int R_steps, .ref aR_order, .ref aR_joins, .ref aR_actsBehind, .ref aR_upTo, .int R_filtersThen, .ref aR_behind, .int R_rows, .ref aR_row, .ref aR_found, .int R_comes, .ref aR_next, .ref aR_nextFound, .int R_kept, .int R_hasRoom, .ref aR_keep, .ref aR_isTaken])), (aR_hints, .inl (cZ, 64, .inl R_hints))] H := hP
        have hD : va_D A [(aR_of, .inl (cI, 8, .inl R_of)), (aR, .inr (7, [.int R_triples, .ref aR_facts, .int R_patterns, .ref aR_cells, .ref aR_told, .ref aR_of, .ref aR_hints, .int R_filters, .ref aR_looks, .ref aR_kinds, .ref aR_values, .ref aR_isSafe, .ref aR_sizes, .ref aR_spreads, .ref aR_isSeen, .ref aR_estimates, .ref aR_rest, .int R_steps, .ref aR_order, .ref aR_joins, .ref aR_actsBehind, .ref aR_upTo, .int R_filtersThen, .ref aR_behind, .int R_rows, .ref aR_row, .ref aR_found, .int R_comes, .ref aR_next, .ref aR_nextFound, .int R_kept, .int R_hasRoom, .ref aR_keep, .ref aR_isTaken])), (aR_hints, .inl (cZ, 64, .inl R_hints))] := hD
        refine lv_if_ne (tgt := 48) hx hb dX7_optional_31 (by decide) (fun c_10 => ?_) (fun c_10 => ?_)
        · have hf := xb_f c_10 hf
          refine lv_bipush (v := (-3 : Int32)) hx hb dX7_optional_48 (by decide) ?_
          have hf := Option.some.inj hf
          cases hf
          exact x_iret (fun _ => 0) hQ hx hb hr hlk hK (hP.sub [1, 0, 2] rfl) (hD.sub [1, 0, 2] (by decide) rfl) hS dX7_optional_50
        · have hf := xb_t c_10 hf
          refine lv_iload_n hx hb dX7_optional_34 rfl (lv_at hl 1 rfl) ?_
          refine lv_iload_n hx hb dX7_optional_35 rfl (lv_at hl 2 rfl) ?_
          refine lv_icmp_eq (tgt := 48) hx hb dX7_optional_36 (by decide) (fun c_11 => ?_) (fun c_11 => ?_)
          · have hf := xb_t c_11 hf
            refine lv_bipush (v := (-3 : Int32)) hx hb dX7_optional_48 (by decide) ?_
            have hf := Option.some.inj hf
            cases hf
            exact x_iret (fun _ => 0) hQ hx hb hr hlk hK (hP.sub [1, 0, 2] rfl) (hD.sub [1, 0, 2] (by decide) rfl) hS dX7_optional_50
          · have hf := xb_f c_11 hf
            refine lv_aload_n hx hb dX7_optional_39 rfl (lv_at hl 0 rfl) ?_
            refine lv_iload_n hx hb dX7_optional_40 rfl (lv_at hl 2 rfl) ?_
            refine lv_iload_n hx hb dX7_optional_41 rfl (lv_at hl 1 rfl) ?_
            obtain ⟨r_13, hq_12, hf⟩ := bn1_c hf
            refine x_z (xrV (As := [.int x2, .int x1]) (b := aR) (rest := []) ⟨hx, hb, hml, hown, htg⟩ (c_f_JoinOrderModel_isOf l D cI cJ cZ _ n aR x2 x1 R_triples aR_facts R_patterns aR_cells aR_told aR_of aR_hints R_filters aR_looks aR_kinds aR_values aR_isSafe aR_sizes aR_spreads aR_isSeen aR_estimates aR_rest R_steps aR_order aR_joins aR_actsBehind aR_upTo R_filtersThen aR_behind R_rows aR_row aR_found R_comes aR_next aR_nextFound R_kept R_hasRoom aR_keep aR_isTaken R_of hq_12) kc_f_JoinOrderModel_isOf kw_700 kw_702 kp_23 kw_8 dd_f_JoinOrderModel_isOf ⟨Nat.le_of_ble_eq_true rfl, Nat.le_of_ble_eq_true rfl⟩ rfl rfl (hP.sub [1, 0] rfl) (hD.sub [1, 0] (by decide) rfl) hK hN hP (q0 := 1) rfl rfl rfl hl.1 rfl (Nat.le_of_ble_eq_true rfl) dX7_optional_42 ⟨Nat.le_of_ble_eq_true rfl, Nat.le_of_ble_eq_true rfl⟩) hP hD hS hA [1, 0] [2] rfl rfl (by decide) (by decide) (fun _ H locs bz_12 hP hD hS => ?_)
            have hP : va_P D vwCl [(aR_hints, .inl (cZ, 64, .inl R_hints)), (aR, .inr (7, [.int R_triples, .ref aR_facts, .int R_patterns, .ref aR_cells, .ref aR_told, .ref aR_of, .ref aR_hints, .int R_filters, .ref aR_looks, .ref aR_kinds, .ref aR_values, .ref aR_isSafe, .ref aR_sizes, .ref aR_spreads, .ref aR_isSeen, .ref aR_estimates, .ref aR_rest, .int R_steps, .ref aR_order, .ref aR_joins, .ref aR_actsBehind, .ref aR_upTo, .int R_filtersThen, .ref aR_behind, .int R_rows, .ref aR_row, .ref aR_found, .int R_comes, .ref aR_next, .ref aR_nextFound, .int R_kept, .int R_hasRoom, .ref aR_keep, .ref aR_isTaken])), (aR_of, .inl (cI, 8, .inl R_of))] H := hP
            have hD : va_D A [(aR_hints, .inl (cZ, 64, .inl R_hints)), (aR, .inr (7, [.int R_triples, .ref aR_facts, .int R_patterns, .ref aR_cells, .ref aR_told, .ref aR_of, .ref aR_hints, .int R_filters, .ref aR_looks, .ref aR_kinds, .ref aR_values, .ref aR_isSafe, .ref aR_sizes, .ref aR_spreads, .ref aR_isSeen, .ref aR_estimates, .ref aR_rest, .int R_steps, .ref aR_order, .ref aR_joins, .ref aR_actsBehind, .ref aR_upTo, .int R_filtersThen, .ref aR_behind, .int R_rows, .ref aR_row, .ref aR_found, .int R_comes, .ref aR_next, .ref aR_nextFound, .int R_kept, .int R_hasRoom, .ref aR_keep, .ref aR_isTaken])), (aR_of, .inl (cI, 8, .inl R_of))] := hD
            refine lv_if_eq (tgt := 51) hx hb dX7_optional_45 (by decide) (fun c_14 => ?_) (fun c_14 => ?_)
            · have hf := xb_t c_14 hf
              refine lv_aload_n hx hb dX7_optional_51 rfl (lv_at hl 0 rfl) ?_
              refine va_get (D := D) (ci := 7) (v := .ref aR_of) (C := RX7) (T := TX7) (N := 34) hx hb htg giX7 hown hK hP 1 rfl rfl 5 (by decide) (htg _ kw_568) (fun _ h9 => h9) rfl dX7_optional_52 ?_
              refine lv_iload_n hx hb dX7_optional_55 rfl (lv_at hl 1 rfl) ?_
              refine lv_iload_n hx hb dX7_optional_56 rfl (lv_at hl 2 rfl) ?_
              have g_15 : vp_in x1 8 := gd_in hf
              have hf := gd_el hf
              refine x_iast hx hb hK hP hD hS 2 0 rfl rfl g_15 dX7_optional_57 (fun R_of_16 eR_of_16 H locs hP hD hS => ?_)
              have hf := nm_nm eR_of_16 hf
              have hP : va_P D vwCl [(aR_hints, .inl (cZ, 64, .inl R_hints)), (aR, .inr (7, [.int R_triples, .ref aR_facts, .int R_patterns, .ref aR_cells, .ref aR_told, .ref aR_of, .ref aR_hints, .int R_filters, .ref aR_looks, .ref aR_kinds, .ref aR_values, .ref aR_isSafe, .ref aR_sizes, .ref aR_spreads, .ref aR_isSeen, .ref aR_estimates, .ref aR_rest, .int R_steps, .ref aR_order, .ref aR_joins, .ref aR_actsBehind, .ref aR_upTo, .int R_filtersThen, .ref aR_behind, .int R_rows, .ref aR_row, .ref aR_found, .int R_comes, .ref aR_next, .ref aR_nextFound, .int R_kept, .int R_hasRoom, .ref aR_keep, .ref aR_isTaken])), (aR_of, .inl (cI, 8, .inl R_of_16))] H := hP
              have hD : va_D A [(aR_hints, .inl (cZ, 64, .inl R_hints)), (aR, .inr (7, [.int R_triples, .ref aR_facts, .int R_patterns, .ref aR_cells, .ref aR_told, .ref aR_of, .ref aR_hints, .int R_filters, .ref aR_looks, .ref aR_kinds, .ref aR_values, .ref aR_isSafe, .ref aR_sizes, .ref aR_spreads, .ref aR_isSeen, .ref aR_estimates, .ref aR_rest, .int R_steps, .ref aR_order, .ref aR_joins, .ref aR_actsBehind, .ref aR_upTo, .int R_filtersThen, .ref aR_behind, .int R_rows, .ref aR_row, .ref aR_found, .int R_comes, .ref aR_next, .ref aR_nextFound, .int R_kept, .int R_hasRoom, .ref aR_keep, .ref aR_isTaken])), (aR_of, .inl (cI, 8, .inl R_of_16))] := hD
              refine lv_iconst (v := (1 : Int32)) hx hb dX7_optional_58 (by decide) ?_
              have hf := Option.some.inj hf
              cases hf
              exact x_iret (fun _ => 0) hQ hx hb hr hlk hK (hP.sub [1, 2, 0] rfl) (hD.sub [1, 2, 0] (by decide) rfl) hS dX7_optional_59
            · have hf := xb_f c_14 hf
              refine lv_bipush (v := (-3 : Int32)) hx hb dX7_optional_48 (by decide) ?_
              have hf := Option.some.inj hf
              cases hf
              exact x_iret (fun _ => 0) hQ hx hb hr hlk hK (hP.sub [1, 2, 0] rfl) (hD.sub [1, 2, 0] (by decide) rfl) hS dX7_optional_50
    · have hf := xb_t c_4 hf
      refine lv_iconst (v := (-1 : Int32)) hx hb dX7_optional_16 (by decide) ?_
      have hf := Option.some.inj hf
      cases hf
      exact x_iret (fun _ => 0) hQ hx hb hr hlk hK (hP.sub [2, 0, 1] rfl) (hD.sub [2, 0, 1] (by decide) rfl) hS dX7_optional_17
abbrev rm_f_Filters_add : Room := { frames := 0, cells := 0, slots := 0, locals := 0 }
set_option maxHeartbeats 4000000 in
set_option maxRecDepth 100000 in
theorem c_f_Filters_add (l : Launch) (D : va_G) (cI cJ cZ : ClassId) (sz : Nat) (aF : Nat) (x1 : Int32) (x2 : Int32) (x3 : Int32) (x4 : Int32) (aF_variable : Nat) (aF_kind : Nat) (aF_value : Nat) (F_safeOnes : Int32) (F_count : Int32) (F_variable : Nat → Int32) (F_kind : Nat → Int32) (F_value : Nat → Int32) {r : Int32} {F_safeOnes' : Int32} {F_count' : Int32} {F_variable' : Nat → Int32} {F_kind' : Nat → Int32} {F_value' : Nat → Int32} (hf : f_Filters_add x1 x2 x3 x4 F_safeOnes F_count F_variable F_kind F_value = some (r, F_safeOnes', F_count', F_variable', F_kind', F_value')) : Met l yX1_add (.code yX1_add cX1_add 6 (some .int) :: GW) rm_f_Filters_add (va_Pc [.ref aF, .int x1, .int x2, .int x3, .int x4] (xP D (xT cI cJ cZ) sz [(aF, .inr (1, [.ref aF_variable, .ref aF_kind, .ref aF_value, .int F_safeOnes, .int F_count])), (aF_variable, .inl (cI, 8, .inl F_variable)), (aF_kind, .inl (cI, 8, .inl F_kind)), (aF_value, .inl (cI, 8, .inl F_value))])) (va_Qi (fun r2 (_ : Nat → Nat) => r2 = r) (bB D (xT cI cJ cZ) (fun _ => [(aF, .inr (1, [.ref aF_variable, .ref aF_kind, .ref aF_value, .int F_safeOnes', .int F_count'])), (aF_variable, .inl (cI, 8, .inl F_variable')), (aF_kind, .inl (cI, 8, .inl F_kind')), (aF_value, .inl (cI, 8, .inl F_value'))]) (va_A [(aF, .inr (1, [.ref aF_variable, .ref aF_kind, .ref aF_value, .int F_safeOnes, .int F_count])), (aF_variable, .inl (cI, 8, .inl F_variable)), (aF_kind, .inl (cI, 8, .inl F_kind)), (aF_value, .inl (cI, 8, .inl F_value))] sz)) (va_A [(aF, .inr (1, [.ref aF_variable, .ref aF_kind, .ref aF_value, .int F_safeOnes, .int F_count])), (aF_variable, .inl (cI, 8, .inl F_variable)), (aF_kind, .inl (cI, 8, .inl F_kind)), (aF_value, .inl (cI, 8, .inl F_value))] sz)) 0 0 (va_A [(aF, .inr (1, [.ref aF_variable, .ref aF_kind, .ref aF_value, .int F_safeOnes, .int F_count])), (aF_variable, .inl (cI, 8, .inl F_variable)), (aF_kind, .inl (cI, 8, .inl F_kind)), (aF_value, .inl (cI, 8, .inl F_value))] sz) := by
  refine con_start (Qc := fun A => va_Qi (fun r2 (_ : Nat → Nat) => r2 = r) (bB D (xT cI cJ cZ) (fun _ => [(aF, .inr (1, [.ref aF_variable, .ref aF_kind, .ref aF_value, .int F_safeOnes', .int F_count'])), (aF_variable, .inl (cI, 8, .inl F_variable')), (aF_kind, .inl (cI, 8, .inl F_kind')), (aF_value, .inl (cI, 8, .inl F_value'))]) A) A) (by decide) (Nat.le_of_ble_eq_true rfl) ?_
  intro p e s m args below meth c Q A hx hb hr hlk hml hown hin htg hN hK hQ hA hP hD hS ls hl
  have hl : lv_has ls 6 [(0, .ref aF), (1, .int x1), (2, .int x2), (3, .int x3), (4, .int x4)] := hl
  have hown : s.vm.findClass RX1 = some m.cls := hown
  have hf := (f_Filters_add_u x1 x2 x3 x4 F_safeOnes F_count F_variable F_kind F_value).symm.trans hf
  refine lv_aload_n hx hb dX1_add_0 rfl (lv_at hl 0 rfl) ?_
  refine va_get (D := D) (ci := 1) (v := .int F_count) (C := RX1) (T := TX1) (N := 5) hx hb htg giX1 hown hK hP 0 rfl rfl 4 (by decide) (htg _ kw_102) (fun _ h9 => h9) rfl dX1_add_1 ?_
  refine lv_istore (lv' := [(5, .int F_count), (0, .ref aF), (1, .int x1), (2, .int x2), (3, .int x3), (4, .int x4)]) hx hb dX1_add_4 hl (by decide) rfl (fun ls hl => ?_)
  refine lv_aload_n hx hb dX1_add_6 rfl (lv_at hl 1 rfl) ?_
  refine lv_dup hx hb dX1_add_7 rfl ?_
  refine va_get (D := D) (ci := 1) (v := .int F_count) (C := RX1) (T := TX1) (N := 5) hx hb htg giX1 hown hK hP 0 rfl rfl 4 (by decide) (htg _ kw_102) (fun _ h9 => h9) rfl dX1_add_8 ?_
  refine lv_iconst (v := (1 : Int32)) hx hb dX1_add_11 (by decide) ?_
  refine lv_iadd hx hb dX1_add_12 ?_
  refine lv_topi (fun v_1 ev_1 => ?_)
  have hf := nm_nm ev_1 hf
  refine va_put (D := D) (ci := 1) (v := .int v_1) (ty := .int) (C := RX1) (T := TX1) (N := 5) hx hb htg giX1 tyX1 tyX1_ok nmX1 hown hK hP hD hS 0 rfl rfl 4 (by decide) (htg _ kw_102) (fun _ h9 => h9) rfl (by decide +kernel) rfl rfl (Nat.le_of_ble_eq_true rfl) dX1_add_13 (fun H locs hP hD hS => ?_)
  have hP : va_P D vwCl [(aF, .inr (1, [.ref aF_variable, .ref aF_kind, .ref aF_value, .int F_safeOnes, .int v_1])), (aF_variable, .inl (cI, 8, .inl F_variable)), (aF_kind, .inl (cI, 8, .inl F_kind)), (aF_value, .inl (cI, 8, .inl F_value))] H := hP
  have hD : va_D A [(aF, .inr (1, [.ref aF_variable, .ref aF_kind, .ref aF_value, .int F_safeOnes, .int v_1])), (aF_variable, .inl (cI, 8, .inl F_variable)), (aF_kind, .inl (cI, 8, .inl F_kind)), (aF_value, .inl (cI, 8, .inl F_value))] := hD
  refine lv_aload_n hx hb dX1_add_16 rfl (lv_at hl 1 rfl) ?_
  refine va_get (D := D) (ci := 1) (v := .ref aF_variable) (C := RX1) (T := TX1) (N := 5) hx hb htg giX1 hown hK hP 0 rfl rfl 0 (by decide) (htg _ kw_96) (fun _ h9 => h9) rfl dX1_add_17 ?_
  refine lv_iload hx hb dX1_add_20 (lv_at hl 0 rfl) ?_
  refine lv_iload_n hx hb dX1_add_22 rfl (lv_at hl 2 rfl) ?_
  have g_2 : vp_in F_count 8 := gd_in hf
  have hf := gd_el hf
  refine x_iast hx hb hK hP hD hS 1 0 rfl rfl g_2 dX1_add_23 (fun F_variable_3 eF_variable_3 H locs hP hD hS => ?_)
  have hf := nm_nm eF_variable_3 hf
  have hP : va_P D vwCl [(aF, .inr (1, [.ref aF_variable, .ref aF_kind, .ref aF_value, .int F_safeOnes, .int v_1])), (aF_variable, .inl (cI, 8, .inl F_variable_3)), (aF_kind, .inl (cI, 8, .inl F_kind)), (aF_value, .inl (cI, 8, .inl F_value))] H := hP
  have hD : va_D A [(aF, .inr (1, [.ref aF_variable, .ref aF_kind, .ref aF_value, .int F_safeOnes, .int v_1])), (aF_variable, .inl (cI, 8, .inl F_variable_3)), (aF_kind, .inl (cI, 8, .inl F_kind)), (aF_value, .inl (cI, 8, .inl F_value))] := hD
  refine lv_aload_n hx hb dX1_add_24 rfl (lv_at hl 1 rfl) ?_
  refine va_get (D := D) (ci := 1) (v := .ref aF_kind) (C := RX1) (T := TX1) (N := 5) hx hb htg giX1 hown hK hP 0 rfl rfl 1 (by decide) (htg _ kw_98) (fun _ h9 => h9) rfl dX1_add_25 ?_
  refine lv_iload hx hb dX1_add_28 (lv_at hl 0 rfl) ?_
  refine lv_iload_n hx hb dX1_add_30 rfl (lv_at hl 3 rfl) ?_
  refine x_iast hx hb hK hP hD hS 2 0 rfl rfl g_2 dX1_add_31 (fun F_kind_4 eF_kind_4 H locs hP hD hS => ?_)
  have hf := nm_nm eF_kind_4 hf
  have hP : va_P D vwCl [(aF, .inr (1, [.ref aF_variable, .ref aF_kind, .ref aF_value, .int F_safeOnes, .int v_1])), (aF_variable, .inl (cI, 8, .inl F_variable_3)), (aF_kind, .inl (cI, 8, .inl F_kind_4)), (aF_value, .inl (cI, 8, .inl F_value))] H := hP
  have hD : va_D A [(aF, .inr (1, [.ref aF_variable, .ref aF_kind, .ref aF_value, .int F_safeOnes, .int v_1])), (aF_variable, .inl (cI, 8, .inl F_variable_3)), (aF_kind, .inl (cI, 8, .inl F_kind_4)), (aF_value, .inl (cI, 8, .inl F_value))] := hD
  refine lv_aload_n hx hb dX1_add_32 rfl (lv_at hl 1 rfl) ?_
  refine va_get (D := D) (ci := 1) (v := .ref aF_value) (C := RX1) (T := TX1) (N := 5) hx hb htg giX1 hown hK hP 0 rfl rfl 2 (by decide) (htg _ kw_99) (fun _ h9 => h9) rfl dX1_add_33 ?_
  refine lv_iload hx hb dX1_add_36 (lv_at hl 0 rfl) ?_
  refine lv_iload_n hx hb dX1_add_38 rfl (lv_at hl 4 rfl) ?_
  refine x_iast hx hb hK hP hD hS 3 0 rfl rfl g_2 dX1_add_39 (fun F_value_5 eF_value_5 H locs hP hD hS => ?_)
  have hf := nm_nm eF_value_5 hf
  have hP : va_P D vwCl [(aF, .inr (1, [.ref aF_variable, .ref aF_kind, .ref aF_value, .int F_safeOnes, .int v_1])), (aF_variable, .inl (cI, 8, .inl F_variable_3)), (aF_kind, .inl (cI, 8, .inl F_kind_4)), (aF_value, .inl (cI, 8, .inl F_value_5))] H := hP
  have hD : va_D A [(aF, .inr (1, [.ref aF_variable, .ref aF_kind, .ref aF_value, .int F_safeOnes, .int v_1])), (aF_variable, .inl (cI, 8, .inl F_variable_3)), (aF_kind, .inl (cI, 8, .inl F_kind_4)), (aF_value, .inl (cI, 8, .inl F_value_5))] := hD
  refine lv_iload hx hb dX1_add_40 (lv_at hl 5 rfl) ?_
  refine lv_if_eq (tgt := 58) hx hb dX1_add_42 (by decide) (fun c_6 => ?_) (fun c_6 => ?_)
  · have hf := xb_t c_6 hf
    refine lv_iload hx hb dX1_add_58 (lv_at hl 0 rfl) ?_
    have hf := Option.some.inj hf
    cases hf
    exact x_iret (fun _ => 0) hQ hx hb hr hlk hK hP hD hS dX1_add_60
  · have hf := xb_f c_6 hf
    refine lv_aload_n hx hb dX1_add_45 rfl (lv_at hl 1 rfl) ?_
    refine lv_dup hx hb dX1_add_46 rfl ?_
    refine va_get (D := D) (ci := 1) (v := .int F_safeOnes) (C := RX1) (T := TX1) (N := 5) hx hb htg giX1 hown hK hP 0 rfl rfl 3 (by decide) (htg _ kw_100) (fun _ h9 => h9) rfl dX1_add_47 ?_
    refine lv_iconst (v := (1 : Int32)) hx hb dX1_add_50 (by decide) ?_
    refine lv_iload hx hb dX1_add_51 (lv_at hl 0 rfl) ?_
    refine lv_ishl hx hb dX1_add_53 ?_
    refine lv_ior hx hb dX1_add_54 ?_
    refine lv_topi (fun v_7 ev_7 => ?_)
    have hf := nm_nm ev_7 hf
    refine va_put (D := D) (ci := 1) (v := .int v_7) (ty := .int) (C := RX1) (T := TX1) (N := 5) hx hb htg giX1 tyX1 tyX1_ok nmX1 hown hK hP hD hS 0 rfl rfl 3 (by decide) (htg _ kw_100) (fun _ h9 => h9) rfl (by decide +kernel) rfl rfl (Nat.le_of_ble_eq_true rfl) dX1_add_55 (fun H locs hP hD hS => ?_)
    have hP : va_P D vwCl [(aF, .inr (1, [.ref aF_variable, .ref aF_kind, .ref aF_value, .int v_7, .int v_1])), (aF_variable, .inl (cI, 8, .inl F_variable_3)), (aF_kind, .inl (cI, 8, .inl F_kind_4)), (aF_value, .inl (cI, 8, .inl F_value_5))] H := hP
    have hD : va_D A [(aF, .inr (1, [.ref aF_variable, .ref aF_kind, .ref aF_value, .int v_7, .int v_1])), (aF_variable, .inl (cI, 8, .inl F_variable_3)), (aF_kind, .inl (cI, 8, .inl F_kind_4)), (aF_value, .inl (cI, 8, .inl F_value_5))] := hD
    refine lv_iload hx hb dX1_add_58 (lv_at hl 0 rfl) ?_
    have hf := Option.some.inj hf
    cases hf
    exact x_iret (fun _ => 0) hQ hx hb hr hlk hK hP hD hS dX1_add_60
abbrev rm_f_JoinOrder_filter : Room := { frames := 1, cells := 0, slots := 0, locals := 25 }
set_option maxHeartbeats 4000000 in
set_option maxRecDepth 100000 in
theorem c_f_JoinOrder_filter (l : Launch) (D : va_G) (cI cJ cZ : ClassId) (sz : Nat) (aJ : Nat) (x1 : Int32) (x2 : Int32) (x3 : Int32) (x4 : Int32) (aT : Nat) (aP : Nat) (aF : Nat) (aQ : Nat) (aM : Nat) (aB : Nat) (J_hasRun : Int32) (aJ_plainOrder : Nat) (aC : Nat) (aF_variable : Nat) (aF_kind : Nat) (aF_value : Nat) (F_safeOnes : Int32) (F_count : Int32) (F_variable : Nat → Int32) (F_kind : Nat → Int32) (F_value : Nat → Int32) {r : Int32} {F_safeOnes' : Int32} {F_count' : Int32} {F_variable' : Nat → Int32} {F_kind' : Nat → Int32} {F_value' : Nat → Int32} (hf : f_JoinOrder_filter x1 x2 x3 x4 F_safeOnes F_count F_variable F_kind F_value = some (r, F_safeOnes', F_count', F_variable', F_kind', F_value')) : Met l yX0_filter (.code yX0_filter cX0_filter 5 (some .int) :: GW) rm_f_JoinOrder_filter (va_Pc [.ref aJ, .int x1, .int x2, .int x3, .int x4] (xP D (xT cI cJ cZ) sz [(aJ, .inr (0, [.ref aT, .ref aP, .ref aF, .ref aQ, .ref aM, .ref aB, .int J_hasRun, .ref aJ_plainOrder, .ref aC])), (aF, .inr (1, [.ref aF_variable, .ref aF_kind, .ref aF_value, .int F_safeOnes, .int F_count])), (aF_variable, .inl (cI, 8, .inl F_variable)), (aF_kind, .inl (cI, 8, .inl F_kind)), (aF_value, .inl (cI, 8, .inl F_value))])) (va_Qi (fun r2 (_ : Nat → Nat) => r2 = r) (bB D (xT cI cJ cZ) (fun _ => [(aJ, .inr (0, [.ref aT, .ref aP, .ref aF, .ref aQ, .ref aM, .ref aB, .int J_hasRun, .ref aJ_plainOrder, .ref aC])), (aF, .inr (1, [.ref aF_variable, .ref aF_kind, .ref aF_value, .int F_safeOnes', .int F_count'])), (aF_variable, .inl (cI, 8, .inl F_variable')), (aF_kind, .inl (cI, 8, .inl F_kind')), (aF_value, .inl (cI, 8, .inl F_value'))]) (va_A [(aJ, .inr (0, [.ref aT, .ref aP, .ref aF, .ref aQ, .ref aM, .ref aB, .int J_hasRun, .ref aJ_plainOrder, .ref aC])), (aF, .inr (1, [.ref aF_variable, .ref aF_kind, .ref aF_value, .int F_safeOnes, .int F_count])), (aF_variable, .inl (cI, 8, .inl F_variable)), (aF_kind, .inl (cI, 8, .inl F_kind)), (aF_value, .inl (cI, 8, .inl F_value))] sz)) (va_A [(aJ, .inr (0, [.ref aT, .ref aP, .ref aF, .ref aQ, .ref aM, .ref aB, .int J_hasRun, .ref aJ_plainOrder, .ref aC])), (aF, .inr (1, [.ref aF_variable, .ref aF_kind, .ref aF_value, .int F_safeOnes, .int F_count])), (aF_variable, .inl (cI, 8, .inl F_variable)), (aF_kind, .inl (cI, 8, .inl F_kind)), (aF_value, .inl (cI, 8, .inl F_value))] sz)) 0 0 (va_A [(aJ, .inr (0, [.ref aT, .ref aP, .ref aF, .ref aQ, .ref aM, .ref aB, .int J_hasRun, .ref aJ_plainOrder, .ref aC])), (aF, .inr (1, [.ref aF_variable, .ref aF_kind, .ref aF_value, .int F_safeOnes, .int F_count])), (aF_variable, .inl (cI, 8, .inl F_variable)), (aF_kind, .inl (cI, 8, .inl F_kind)), (aF_value, .inl (cI, 8, .inl F_value))] sz) := by
  refine con_start (Qc := fun A => va_Qi (fun r2 (_ : Nat → Nat) => r2 = r) (bB D (xT cI cJ cZ) (fun _ => [(aJ, .inr (0, [.ref aT, .ref aP, .ref aF, .ref aQ, .ref aM, .ref aB, .int J_hasRun, .ref aJ_plainOrder, .ref aC])), (aF, .inr (1, [.ref aF_variable, .ref aF_kind, .ref aF_value, .int F_safeOnes', .int F_count'])), (aF_variable, .inl (cI, 8, .inl F_variable')), (aF_kind, .inl (cI, 8, .inl F_kind')), (aF_value, .inl (cI, 8, .inl F_value'))]) A) A) (by decide) (Nat.le_of_ble_eq_true rfl) ?_
  intro p e s m args below meth c Q A hx hb hr hlk hml hown hin htg hN hK hQ hA hP hD hS ls hl
  have hl : lv_has ls 5 [(0, .ref aJ), (1, .int x1), (2, .int x2), (3, .int x3), (4, .int x4)] := hl
  have hown : s.vm.findClass RX0 = some m.cls := hown
  have hf := (f_JoinOrder_filter_u x1 x2 x3 x4 F_safeOnes F_count F_variable F_kind F_value).symm.trans hf
  refine lv_iload_n hx hb dX0_filter_0 rfl (lv_at hl 1 rfl) ?_
  refine x_z (xrS (As := [.int x1]) (rest := []) ⟨hx, hb, hml, hown, htg⟩ (c_f_JoinOrder_isVariable l D cI cJ cZ _ x1 rfl) kc_f_JoinOrder_isVariable kw_279 kw_280 kw_1 dd_f_JoinOrder_isVariable ⟨Nat.le_of_ble_eq_true rfl, Nat.le_of_ble_eq_true rfl⟩ rfl rfl (hP.sub [] rfl) (hD.sub [] (by decide) rfl) hK hN rfl hl.1 rfl (Nat.le_of_ble_eq_true rfl) dX0_filter_1 ⟨Nat.le_of_ble_eq_true rfl, Nat.le_of_ble_eq_true rfl⟩) hP hD hS hA [] [0, 1, 2, 3, 4] rfl rfl (by decide) (by decide) (fun _ H locs bz_1 hP hD hS => ?_)
  have hP : va_P D vwCl [(aJ, .inr (0, [.ref aT, .ref aP, .ref aF, .ref aQ, .ref aM, .ref aB, .int J_hasRun, .ref aJ_plainOrder, .ref aC])), (aF, .inr (1, [.ref aF_variable, .ref aF_kind, .ref aF_value, .int F_safeOnes, .int F_count])), (aF_variable, .inl (cI, 8, .inl F_variable)), (aF_kind, .inl (cI, 8, .inl F_kind)), (aF_value, .inl (cI, 8, .inl F_value))] H := hP
  have hD : va_D A [(aJ, .inr (0, [.ref aT, .ref aP, .ref aF, .ref aQ, .ref aM, .ref aB, .int J_hasRun, .ref aJ_plainOrder, .ref aC])), (aF, .inr (1, [.ref aF_variable, .ref aF_kind, .ref aF_value, .int F_safeOnes, .int F_count])), (aF_variable, .inl (cI, 8, .inl F_variable)), (aF_kind, .inl (cI, 8, .inl F_kind)), (aF_value, .inl (cI, 8, .inl F_value))] := hD
  refine lv_if_eq (tgt := 23) hx hb dX0_filter_4 (by decide) (fun c_2 => ?_) (fun c_2 => ?_)
  · have hf := xb_t c_2 hf
    refine lv_bipush (v := (-2 : Int32)) hx hb dX0_filter_23 (by decide) ?_
    have hf := Option.some.inj hf
    cases hf
    exact x_iret (fun _ => 0) hQ hx hb hr hlk hK hP hD hS dX0_filter_25
  · have hf := xb_f c_2 hf
    refine lv_iload_n hx hb dX0_filter_7 rfl (lv_at hl 2 rfl) ?_
    refine lv_if_lt (tgt := 23) hx hb dX0_filter_8 (by decide) (fun c_3 => ?_) (fun c_3 => ?_)
    · have hf := xb_t c_3 hf
      refine lv_bipush (v := (-2 : Int32)) hx hb dX0_filter_23 (by decide) ?_
      have hf := Option.some.inj hf
      cases hf
      exact x_iret (fun _ => 0) hQ hx hb hr hlk hK hP hD hS dX0_filter_25
    · have hf := xb_f c_3 hf
      refine lv_iload_n hx hb dX0_filter_11 rfl (lv_at hl 2 rfl) ?_
      refine lv_iconst (v := (4 : Int32)) hx hb dX0_filter_12 (by decide) ?_
      refine lv_icmp_ge (tgt := 23) hx hb dX0_filter_13 (by decide) (fun c_4 => ?_) (fun c_4 => ?_)
      · have hf := xb_t c_4 hf
        refine lv_bipush (v := (-2 : Int32)) hx hb dX0_filter_23 (by decide) ?_
        have hf := Option.some.inj hf
        cases hf
        exact x_iret (fun _ => 0) hQ hx hb hr hlk hK hP hD hS dX0_filter_25
      · have hf := xb_f c_4 hf
        refine lv_iload_n hx hb dX0_filter_16 rfl (lv_at hl 3 rfl) ?_
        refine x_z (xrS (As := [.int x3]) (rest := []) ⟨hx, hb, hml, hown, htg⟩ (c_f_JoinOrder_isTerm l D cI cJ cZ _ x3 rfl) kc_f_JoinOrder_isTerm kw_232 kw_233 kw_1 dd_f_JoinOrder_isTerm ⟨Nat.le_of_ble_eq_true rfl, Nat.le_of_ble_eq_true rfl⟩ rfl rfl (hP.sub [] rfl) (hD.sub [] (by decide) rfl) hK hN rfl hl.1 rfl (Nat.le_of_ble_eq_true rfl) dX0_filter_17 ⟨Nat.le_of_ble_eq_true rfl, Nat.le_of_ble_eq_true rfl⟩) hP hD hS hA [] [0, 1, 2, 3, 4] rfl rfl (by decide) (by decide) (fun _ H locs bz_5 hP hD hS => ?_)
        have hP : va_P D vwCl [(aJ, .inr (0, [.ref aT, .ref aP, .ref aF, .ref aQ, .ref aM, .ref aB, .int J_hasRun, .ref aJ_plainOrder, .ref aC])), (aF, .inr (1, [.ref aF_variable, .ref aF_kind, .ref aF_value, .int F_safeOnes, .int F_count])), (aF_variable, .inl (cI, 8, .inl F_variable)), (aF_kind, .inl (cI, 8, .inl F_kind)), (aF_value, .inl (cI, 8, .inl F_value))] H := hP
        have hD : va_D A [(aJ, .inr (0, [.ref aT, .ref aP, .ref aF, .ref aQ, .ref aM, .ref aB, .int J_hasRun, .ref aJ_plainOrder, .ref aC])), (aF, .inr (1, [.ref aF_variable, .ref aF_kind, .ref aF_value, .int F_safeOnes, .int F_count])), (aF_variable, .inl (cI, 8, .inl F_variable)), (aF_kind, .inl (cI, 8, .inl F_kind)), (aF_value, .inl (cI, 8, .inl F_value))] := hD
        refine lv_if_ne (tgt := 26) hx hb dX0_filter_20 (by decide) (fun c_6 => ?_) (fun c_6 => ?_)
        · have hf := xb_f c_6 hf
          refine lv_aload_n hx hb dX0_filter_26 rfl (lv_at hl 0 rfl) ?_
          refine va_get (D := D) (ci := 0) (v := .ref aF) (C := RX0) (T := TX0) (N := 9) hx hb htg giX0 hown hK hP 0 rfl rfl 2 (by decide) (htg _ kw_202) (fun _ h9 => h9) rfl dX0_filter_27 ?_
          refine va_getN (D := D) (ci := 1) (v := .int F_count) (C := RX1) (T := TX1) (N := 5) hx hb htg giX1 hown hK hP 1 rfl rfl 4 (by decide) (va_Nw.use rfl (hN _ kn_104)) (fun _ h9 => h9) rfl dX0_filter_30 ?_
          refine lv_bipush (v := (8 : Int32)) hx hb dX0_filter_33 (by decide) ?_
          refine lv_icmp_lt (tgt := 41) hx hb dX0_filter_35 (by decide) (fun c_7 => ?_) (fun c_7 => ?_)
          · have hf := xb_t c_7 hf
            refine lv_aload_n hx hb dX0_filter_41 rfl (lv_at hl 0 rfl) ?_
            refine va_get (D := D) (ci := 0) (v := .ref aF) (C := RX0) (T := TX0) (N := 9) hx hb htg giX0 hown hK hP 0 rfl rfl 2 (by decide) (htg _ kw_202) (fun _ h9 => h9) rfl dX0_filter_42 ?_
            refine lv_iload_n hx hb dX0_filter_45 rfl (lv_at hl 1 rfl) ?_
            refine x_i (xrS (As := [.int x1]) (rest := [.ref aF]) ⟨hx, hb, hml, hown, htg⟩ (c_f_JoinOrder_indexOf l D cI cJ cZ _ x1 rfl) kc_f_JoinOrder_indexOf kw_324 kw_291 kw_1 dd_f_JoinOrder_indexOf ⟨Nat.le_of_ble_eq_true rfl, Nat.le_of_ble_eq_true rfl⟩ rfl rfl (hP.sub [] rfl) (hD.sub [] (by decide) rfl) hK hN rfl hl.1 rfl (Nat.le_of_ble_eq_true rfl) dX0_filter_46 ⟨Nat.le_of_ble_eq_true rfl, Nat.le_of_ble_eq_true rfl⟩) hP hD hS hA [] [0, 1, 2, 3, 4] rfl rfl (by decide) (by decide) (fun _ H locs hP hD hS => ?_)
            have hP : va_P D vwCl [(aJ, .inr (0, [.ref aT, .ref aP, .ref aF, .ref aQ, .ref aM, .ref aB, .int J_hasRun, .ref aJ_plainOrder, .ref aC])), (aF, .inr (1, [.ref aF_variable, .ref aF_kind, .ref aF_value, .int F_safeOnes, .int F_count])), (aF_variable, .inl (cI, 8, .inl F_variable)), (aF_kind, .inl (cI, 8, .inl F_kind)), (aF_value, .inl (cI, 8, .inl F_value))] H := hP
            have hD : va_D A [(aJ, .inr (0, [.ref aT, .ref aP, .ref aF, .ref aQ, .ref aM, .ref aB, .int J_hasRun, .ref aJ_plainOrder, .ref aC])), (aF, .inr (1, [.ref aF_variable, .ref aF_kind, .ref aF_value, .int F_safeOnes, .int F_count])), (aF_variable, .inl (cI, 8, .inl F_variable)), (aF_kind, .inl (cI, 8, .inl F_kind)), (aF_value, .inl (cI, 8, .inl F_value))] := hD
            refine lv_iload_n hx hb dX0_filter_49 rfl (lv_at hl 2 rfl) ?_
            refine lv_iload_n hx hb dX0_filter_50 rfl (lv_at hl 3 rfl) ?_
            refine lv_iload hx hb dX0_filter_51 (lv_at hl 4 rfl) ?_
            obtain ⟨r_10, F_safeOnes_11, F_count_12, F_variable_13, F_kind_14, F_value_15, hq_9, hf⟩ := bn6_c hf
            refine x_i (xrV (As := [.int (f_JoinOrder_indexOf x1), .int x2, .int x3, .int x4]) (b := aF) (rest := []) ⟨hx, hb, hml, hown, htg⟩ (c_f_Filters_add l D cI cJ cZ _ aF (f_JoinOrder_indexOf x1) x2 x3 x4 aF_variable aF_kind aF_value F_safeOnes F_count F_variable F_kind F_value hq_9) kc_f_Filters_add kw_325 kw_326 kw_327 kw_4 dd_f_Filters_add ⟨Nat.le_of_ble_eq_true rfl, Nat.le_of_ble_eq_true rfl⟩ rfl rfl (hP.sub [1, 2, 3, 4] rfl) (hD.sub [1, 2, 3, 4] (by decide) rfl) hK hN hP (q0 := 1) rfl rfl rfl hl.1 rfl (Nat.le_of_ble_eq_true rfl) dX0_filter_53 ⟨Nat.le_of_ble_eq_true rfl, Nat.le_of_ble_eq_true rfl⟩) hP hD hS hA [1, 2, 3, 4] [0] rfl rfl (by decide) (by decide) (fun _ H locs hP hD hS => ?_)
            have hP : va_P D vwCl [(aJ, .inr (0, [.ref aT, .ref aP, .ref aF, .ref aQ, .ref aM, .ref aB, .int J_hasRun, .ref aJ_plainOrder, .ref aC])), (aF, .inr (1, [.ref aF_variable, .ref aF_kind, .ref aF_value, .int F_safeOnes_11, .int F_count_12])), (aF_variable, .inl (cI, 8, .inl F_variable_13)), (aF_kind, .inl (cI, 8, .inl F_kind_14)), (aF_value, .inl (cI, 8, .inl F_value_15))] H := hP
            have hD : va_D A [(aJ, .inr (0, [.ref aT, .ref aP, .ref aF, .ref aQ, .ref aM, .ref aB, .int J_hasRun, .ref aJ_plainOrder, .ref aC])), (aF, .inr (1, [.ref aF_variable, .ref aF_kind, .ref aF_value, .int F_safeOnes_11, .int F_count_12])), (aF_variable, .inl (cI, 8, .inl F_variable_13)), (aF_kind, .inl (cI, 8, .inl F_kind_14)), (aF_value, .inl (cI, 8, .inl F_value_15))] := hD
            have hf := Option.some.inj hf
            cases hf
            exact x_iret (fun _ => 0) hQ hx hb hr hlk hK hP hD hS dX0_filter_56
          · have hf := xb_f c_7 hf
            refine lv_bipush (v := (-4 : Int32)) hx hb dX0_filter_38 (by decide) ?_
            have hf := Option.some.inj hf
            cases hf
            exact x_iret (fun _ => 0) hQ hx hb hr hlk hK hP hD hS dX0_filter_40
        · have hf := xb_t c_6 hf
          refine lv_bipush (v := (-2 : Int32)) hx hb dX0_filter_23 (by decide) ?_
          have hf := Option.some.inj hf
          cases hf
          exact x_iret (fun _ => 0) hQ hx hb hr hlk hK hP hD hS dX0_filter_25
abbrev rm_f_JoinOrderModel_filter : Room := { frames := 1, cells := 0, slots := 0, locals := 20 }
set_option maxHeartbeats 4000000 in
set_option maxRecDepth 100000 in
theorem c_f_JoinOrderModel_filter (l : Launch) (D : va_G) (cI cJ cZ : ClassId) (sz : Nat) (aR : Nat) (x1 : Int32) (x2 : Int32) (x3 : Int32) (x4 : Int32) (R_triples : Int32) (aR_facts : Nat) (R_patterns : Int32) (aR_cells : Nat) (aR_told : Nat) (aR_of : Nat) (aR_hints : Nat) (R_filters : Int32) (aR_looks : Nat) (aR_kinds : Nat) (aR_values : Nat) (aR_isSafe : Nat) (aR_sizes : Nat) (aR_spreads : Nat) (aR_isSeen : Nat) (aR_estimates : Nat) (aR_rest : Nat) (R_steps : Int32) (aR_order : Nat) (aR_joins : Nat) (aR_actsBehind : Nat) (aR_upTo : Nat) (R_filtersThen : Int32) (aR_behind : Nat) (R_rows : Int32) (aR_row : Nat) (aR_found : Nat) (R_comes : Int32) (aR_next : Nat) (aR_nextFound : Nat) (R_kept : Int32) (R_hasRoom : Int32) (aR_keep : Nat) (aR_isTaken : Nat) (R_looks : Nat → Int32) (R_kinds : Nat → Int32) (R_values : Nat → Int32) (R_isSafe : Nat → Int32) {r : Int32} {R_filters' : Int32} {R_looks' : Nat → Int32} {R_kinds' : Nat → Int32} {R_values' : Nat → Int32} {R_isSafe' : Nat → Int32} (hf : f_JoinOrderModel_filter x1 x2 x3 x4 R_filters R_looks R_kinds R_values R_isSafe = some (r, R_filters', R_looks', R_kinds', R_values', R_isSafe')) : Met l yX7_filter (.code yX7_filter cX7_filter 5 (some .int) :: GW) rm_f_JoinOrderModel_filter (va_Pc [.ref aR, .int x1, .int x2, .int x3, .int x4] (xP D (xT cI cJ cZ) sz [(aR, .inr (7, [.int R_triples, .ref aR_facts, .int R_patterns, .ref aR_cells, .ref aR_told, .ref aR_of, .ref aR_hints, .int R_filters, .ref aR_looks, .ref aR_kinds, .ref aR_values, .ref aR_isSafe, .ref aR_sizes, .ref aR_spreads, .ref aR_isSeen, .ref aR_estimates, .ref aR_rest, .int R_steps, .ref aR_order, .ref aR_joins, .ref aR_actsBehind, .ref aR_upTo, .int R_filtersThen, .ref aR_behind, .int R_rows, .ref aR_row, .ref aR_found, .int R_comes, .ref aR_next, .ref aR_nextFound, .int R_kept, .int R_hasRoom, .ref aR_keep, .ref aR_isTaken])), (aR_looks, .inl (cI, 8, .inl R_looks)), (aR_kinds, .inl (cI, 8, .inl R_kinds)), (aR_values, .inl (cI, 8, .inl R_values)), (aR_isSafe, .inl (cZ, 8, .inl R_isSafe))])) (va_Qi (fun r2 (_ : Nat → Nat) => r2 = r) (bB D (xT cI cJ cZ) (fun _ => [(aR, .inr (7, [.int R_triples, .ref aR_facts, .int R_patterns, .ref aR_cells, .ref aR_told, .ref aR_of, .ref aR_hints, .int R_filters', .ref aR_looks, .ref aR_kinds, .ref aR_values, .ref aR_isSafe, .ref aR_sizes, .ref aR_spreads, .ref aR_isSeen, .ref aR_estimates, .ref aR_rest, .int R_steps, .ref aR_order, .ref aR_joins, .ref aR_actsBehind, .ref aR_upTo, .int R_filtersThen, .ref aR_behind, .int R_rows, .ref aR_row, .ref aR_found, .int R_comes, .ref aR_next, .ref aR_nextFound, .int R_kept, .int R_hasRoom, .ref aR_keep, .ref aR_isTaken])), (aR_looks, .inl (cI, 8, .inl R_looks')), (aR_kinds, .inl (cI, 8, .inl R_kinds')), (aR_values, .inl (cI, 8, .inl R_values')), (aR_isSafe, .inl (cZ, 8, .inl R_isSafe'))]) (va_A [(aR, .inr (7, [.int R_triples, .ref aR_facts, .int R_patterns, .ref aR_cells, .ref aR_told, .ref aR_of, .ref aR_hints, .int R_filters, .ref aR_looks, .ref aR_kinds, .ref aR_values, .ref aR_isSafe, .ref aR_sizes, .ref aR_spreads, .ref aR_isSeen, .ref aR_estimates, .ref aR_rest, .int R_steps, .ref aR_order, .ref aR_joins, .ref aR_actsBehind, .ref aR_upTo, .int R_filtersThen, .ref aR_behind, .int R_rows, .ref aR_row, .ref aR_found, .int R_comes, .ref aR_next, .ref aR_nextFound, .int R_kept, .int R_hasRoom, .ref aR_keep, .ref aR_isTaken])), (aR_looks, .inl (cI, 8, .inl R_looks)), (aR_kinds, .inl (cI, 8, .inl R_kinds)), (aR_values, .inl (cI, 8, .inl R_values)), (aR_isSafe, .inl (cZ, 8, .inl R_isSafe))] sz)) (va_A [(aR, .inr (7, [.int R_triples, .ref aR_facts, .int R_patterns, .ref aR_cells, .ref aR_told, .ref aR_of, .ref aR_hints, .int R_filters, .ref aR_looks, .ref aR_kinds, .ref aR_values, .ref aR_isSafe, .ref aR_sizes, .ref aR_spreads, .ref aR_isSeen, .ref aR_estimates, .ref aR_rest, .int R_steps, .ref aR_order, .ref aR_joins, .ref aR_actsBehind, .ref aR_upTo, .int R_filtersThen, .ref aR_behind, .int R_rows, .ref aR_row, .ref aR_found, .int R_comes, .ref aR_next, .ref aR_nextFound, .int R_kept, .int R_hasRoom, .ref aR_keep, .ref aR_isTaken])), (aR_looks, .inl (cI, 8, .inl R_looks)), (aR_kinds, .inl (cI, 8, .inl R_kinds)), (aR_values, .inl (cI, 8, .inl R_values)), (aR_isSafe, .inl (cZ, 8, .inl R_isSafe))] sz)) 0 0 (va_A [(aR, .inr (7, [.int R_triples, .ref aR_facts, .int R_patterns, .ref aR_cells, .ref aR_told, .ref aR_of, .ref aR_hints, .int R_filters, .ref aR_looks, .ref aR_kinds, .ref aR_values, .ref aR_isSafe, .ref aR_sizes, .ref aR_spreads, .ref aR_isSeen, .ref aR_estimates, .ref aR_rest, .int R_steps, .ref aR_order, .ref aR_joins, .ref aR_actsBehind, .ref aR_upTo, .int R_filtersThen, .ref aR_behind, .int R_rows, .ref aR_row, .ref aR_found, .int R_comes, .ref aR_next, .ref aR_nextFound, .int R_kept, .int R_hasRoom, .ref aR_keep, .ref aR_isTaken])), (aR_looks, .inl (cI, 8, .inl R_looks)), (aR_kinds, .inl (cI, 8, .inl R_kinds)), (aR_values, .inl (cI, 8, .inl R_values)), (aR_isSafe, .inl (cZ, 8, .inl R_isSafe))] sz) := by
  refine con_start (Qc := fun A => va_Qi (fun r2 (_ : Nat → Nat) => r2 = r) (bB D (xT cI cJ cZ) (fun _ => [(aR, .inr (7, [.int R_triples, .ref aR_facts, .int R_patterns, .ref aR_cells, .ref aR_told, .ref aR_of, .ref aR_hints, .int R_filters', .ref aR_looks, .ref aR_kinds, .ref aR_values, .ref aR_isSafe, .ref aR_sizes, .ref aR_spreads, .ref aR_isSeen, .ref aR_estimates, .ref aR_rest, .int R_steps, .ref aR_order, .ref aR_joins, .ref aR_actsBehind, .ref aR_upTo, .int R_filtersThen, .ref aR_behind, .int R_rows, .ref aR_row, .ref aR_found, .int R_comes, .ref aR_next, .ref aR_nextFound, .int R_kept, .int R_hasRoom, .ref aR_keep, .ref aR_isTaken])), (aR_looks, .inl (cI, 8, .inl R_looks')), (aR_kinds, .inl (cI, 8, .inl R_kinds')), (aR_values, .inl (cI, 8, .inl R_values')), (aR_isSafe, .inl (cZ, 8, .inl R_isSafe'))]) A) A) (by decide) (Nat.le_of_ble_eq_true rfl) ?_
  intro p e s m args below meth c Q A hx hb hr hlk hml hown hin htg hN hK hQ hA hP hD hS ls hl
  have hl : lv_has ls 5 [(0, .ref aR), (1, .int x1), (2, .int x2), (3, .int x3), (4, .int x4)] := hl
  have hown : s.vm.findClass RX7 = some m.cls := hown
  have hf := (f_JoinOrderModel_filter_u x1 x2 x3 x4 R_filters R_looks R_kinds R_values R_isSafe).symm.trans hf
  refine lv_iload_n hx hb dX7_filter_0 rfl (lv_at hl 1 rfl) ?_
  refine x_z (xrS (As := [.int x1]) (rest := []) ⟨hx, hb, hml, hown, htg⟩ (c_f_JoinOrderModel_isVariable l D cI cJ cZ _ x1 rfl) kc_f_JoinOrderModel_isVariable kw_681 kw_682 kw_8 dd_f_JoinOrderModel_isVariable ⟨Nat.le_of_ble_eq_true rfl, Nat.le_of_ble_eq_true rfl⟩ rfl rfl (hP.sub [] rfl) (hD.sub [] (by decide) rfl) hK hN rfl hl.1 rfl (Nat.le_of_ble_eq_true rfl) dX7_filter_1 ⟨Nat.le_of_ble_eq_true rfl, Nat.le_of_ble_eq_true rfl⟩) hP hD hS hA [] [0, 1, 2, 3, 4] rfl rfl (by decide) (by decide) (fun _ H locs bz_1 hP hD hS => ?_)
  have hP : va_P D vwCl [(aR, .inr (7, [.int R_triples, .ref aR_facts, .int R_patterns, .ref aR_cells, .ref aR_told, .ref aR_of, .ref aR_hints, .int R_filters, .ref aR_looks, .ref aR_kinds, .ref aR_values, .ref aR_isSafe, .ref aR_sizes, .ref aR_spreads, .ref aR_isSeen, .ref aR_estimates, .ref aR_rest, .int R_steps, .ref aR_order, .ref aR_joins, .ref aR_actsBehind, .ref aR_upTo, .int R_filtersThen, .ref aR_behind, .int R_rows, .ref aR_row, .ref aR_found, .int R_comes, .ref aR_next, .ref aR_nextFound, .int R_kept, .int R_hasRoom, .ref aR_keep, .ref aR_isTaken])), (aR_looks, .inl (cI, 8, .inl R_looks)), (aR_kinds, .inl (cI, 8, .inl R_kinds)), (aR_values, .inl (cI, 8, .inl R_values)), (aR_isSafe, .inl (cZ, 8, .inl R_isSafe))] H := hP
  have hD : va_D A [(aR, .inr (7, [.int R_triples, .ref aR_facts, .int R_patterns, .ref aR_cells, .ref aR_told, .ref aR_of, .ref aR_hints, .int R_filters, .ref aR_looks, .ref aR_kinds, .ref aR_values, .ref aR_isSafe, .ref aR_sizes, .ref aR_spreads, .ref aR_isSeen, .ref aR_estimates, .ref aR_rest, .int R_steps, .ref aR_order, .ref aR_joins, .ref aR_actsBehind, .ref aR_upTo, .int R_filtersThen, .ref aR_behind, .int R_rows, .ref aR_row, .ref aR_found, .int R_comes, .ref aR_next, .ref aR_nextFound, .int R_kept, .int R_hasRoom, .ref aR_keep, .ref aR_isTaken])), (aR_looks, .inl (cI, 8, .inl R_looks)), (aR_kinds, .inl (cI, 8, .inl R_kinds)), (aR_values, .inl (cI, 8, .inl R_values)), (aR_isSafe, .inl (cZ, 8, .inl R_isSafe))] := hD
  refine lv_if_eq (tgt := 23) hx hb dX7_filter_4 (by decide) (fun c_2 => ?_) (fun c_2 => ?_)
  · have hf := xb_t c_2 hf
    refine lv_bipush (v := (-2 : Int32)) hx hb dX7_filter_23 (by decide) ?_
    have hf := Option.some.inj hf
    cases hf
    exact x_iret (fun _ => 0) hQ hx hb hr hlk hK hP hD hS dX7_filter_25
  · have hf := xb_f c_2 hf
    refine lv_iload_n hx hb dX7_filter_7 rfl (lv_at hl 2 rfl) ?_
    refine lv_if_lt (tgt := 23) hx hb dX7_filter_8 (by decide) (fun c_3 => ?_) (fun c_3 => ?_)
    · have hf := xb_t c_3 hf
      refine lv_bipush (v := (-2 : Int32)) hx hb dX7_filter_23 (by decide) ?_
      have hf := Option.some.inj hf
      cases hf
      exact x_iret (fun _ => 0) hQ hx hb hr hlk hK hP hD hS dX7_filter_25
    · have hf := xb_f c_3 hf
      refine lv_iload_n hx hb dX7_filter_11 rfl (lv_at hl 2 rfl) ?_
      refine lv_iconst (v := (3 : Int32)) hx hb dX7_filter_12 (by decide) ?_
      refine lv_icmp_gt (tgt := 23) hx hb dX7_filter_13 (by decide) (fun c_4 => ?_) (fun c_4 => ?_)
      · have hf := xb_t c_4 hf
        refine lv_bipush (v := (-2 : Int32)) hx hb dX7_filter_23 (by decide) ?_
        have hf := Option.some.inj hf
        cases hf
        exact x_iret (fun _ => 0) hQ hx hb hr hlk hK hP hD hS dX7_filter_25
      · have hf := xb_f c_4 hf
        refine lv_iload_n hx hb dX7_filter_16 rfl (lv_at hl 3 rfl) ?_
        refine x_z (xrS (As := [.int x3]) (rest := []) ⟨hx, hb, hml, hown, htg⟩ (c_f_JoinOrderModel_isTerm l D cI cJ cZ _ x3 rfl) kc_f_JoinOrderModel_isTerm kw_671 kw_672 kw_8 dd_f_JoinOrderModel_isTerm ⟨Nat.le_of_ble_eq_true rfl, Nat.le_of_ble_eq_true rfl⟩ rfl rfl (hP.sub [] rfl) (hD.sub [] (by decide) rfl) hK hN rfl hl.1 rfl (Nat.le_of_ble_eq_true rfl) dX7_filter_17 ⟨Nat.le_of_ble_eq_true rfl, Nat.le_of_ble_eq_true rfl⟩) hP hD hS hA [] [0, 1, 2, 3, 4] rfl rfl (by decide) (by decide) (fun _ H locs bz_5 hP hD hS => ?_)
        have hP : va_P D vwCl [(aR, .inr (7, [.int R_triples, .ref aR_facts, .int R_patterns, .ref aR_cells, .ref aR_told, .ref aR_of, .ref aR_hints, .int R_filters, .ref aR_looks, .ref aR_kinds, .ref aR_values, .ref aR_isSafe, .ref aR_sizes, .ref aR_spreads, .ref aR_isSeen, .ref aR_estimates, .ref aR_rest, .int R_steps, .ref aR_order, .ref aR_joins, .ref aR_actsBehind, .ref aR_upTo, .int R_filtersThen, .ref aR_behind, .int R_rows, .ref aR_row, .ref aR_found, .int R_comes, .ref aR_next, .ref aR_nextFound, .int R_kept, .int R_hasRoom, .ref aR_keep, .ref aR_isTaken])), (aR_looks, .inl (cI, 8, .inl R_looks)), (aR_kinds, .inl (cI, 8, .inl R_kinds)), (aR_values, .inl (cI, 8, .inl R_values)), (aR_isSafe, .inl (cZ, 8, .inl R_isSafe))] H := hP
        have hD : va_D A [(aR, .inr (7, [.int R_triples, .ref aR_facts, .int R_patterns, .ref aR_cells, .ref aR_told, .ref aR_of, .ref aR_hints, .int R_filters, .ref aR_looks, .ref aR_kinds, .ref aR_values, .ref aR_isSafe, .ref aR_sizes, .ref aR_spreads, .ref aR_isSeen, .ref aR_estimates, .ref aR_rest, .int R_steps, .ref aR_order, .ref aR_joins, .ref aR_actsBehind, .ref aR_upTo, .int R_filtersThen, .ref aR_behind, .int R_rows, .ref aR_row, .ref aR_found, .int R_comes, .ref aR_next, .ref aR_nextFound, .int R_kept, .int R_hasRoom, .ref aR_keep, .ref aR_isTaken])), (aR_looks, .inl (cI, 8, .inl R_looks)), (aR_kinds, .inl (cI, 8, .inl R_kinds)), (aR_values, .inl (cI, 8, .inl R_values)), (aR_isSafe, .inl (cZ, 8, .inl R_isSafe))] := hD
        refine lv_if_ne (tgt := 26) hx hb dX7_filter_20 (by decide) (fun c_6 => ?_) (fun c_6 => ?_)
        · have hf := xb_f c_6 hf
          refine lv_aload_n hx hb dX7_filter_26 rfl (lv_at hl 0 rfl) ?_
          refine va_get (D := D) (ci := 7) (v := .int R_filters) (C := RX7) (T := TX7) (N := 34) hx hb htg giX7 hown hK hP 0 rfl rfl 7 (by decide) (htg _ kw_570) (fun _ h9 => h9) rfl dX7_filter_27 ?_
          refine lv_bipush (v := (8 : Int32)) hx hb dX7_filter_30 (by decide) ?_
          refine lv_icmp_ne (tgt := 38) hx hb dX7_filter_32 (by decide) (fun c_7 => ?_) (fun c_7 => ?_)
          · have hf := xb_f c_7 hf
            refine lv_aload_n hx hb dX7_filter_38 rfl (lv_at hl 0 rfl) ?_
            refine va_get (D := D) (ci := 7) (v := .ref aR_looks) (C := RX7) (T := TX7) (N := 34) hx hb htg giX7 hown hK hP 0 rfl rfl 8 (by decide) (htg _ kw_571) (fun _ h9 => h9) rfl dX7_filter_39 ?_
            refine lv_aload_n hx hb dX7_filter_42 rfl (lv_at hl 0 rfl) ?_
            refine va_get (D := D) (ci := 7) (v := .int R_filters) (C := RX7) (T := TX7) (N := 34) hx hb htg giX7 hown hK hP 0 rfl rfl 7 (by decide) (htg _ kw_570) (fun _ h9 => h9) rfl dX7_filter_43 ?_
            refine lv_iload_n hx hb dX7_filter_46 rfl (lv_at hl 1 rfl) ?_
            have g_8 : vp_in R_filters 8 := gd_in hf
            have hf := gd_el hf
            refine x_iast hx hb hK hP hD hS 1 0 rfl rfl g_8 dX7_filter_47 (fun R_looks_9 eR_looks_9 H locs hP hD hS => ?_)
            have hf := nm_nm eR_looks_9 hf
            have hP : va_P D vwCl [(aR, .inr (7, [.int R_triples, .ref aR_facts, .int R_patterns, .ref aR_cells, .ref aR_told, .ref aR_of, .ref aR_hints, .int R_filters, .ref aR_looks, .ref aR_kinds, .ref aR_values, .ref aR_isSafe, .ref aR_sizes, .ref aR_spreads, .ref aR_isSeen, .ref aR_estimates, .ref aR_rest, .int R_steps, .ref aR_order, .ref aR_joins, .ref aR_actsBehind, .ref aR_upTo, .int R_filtersThen, .ref aR_behind, .int R_rows, .ref aR_row, .ref aR_found, .int R_comes, .ref aR_next, .ref aR_nextFound, .int R_kept, .int R_hasRoom, .ref aR_keep, .ref aR_isTaken])), (aR_looks, .inl (cI, 8, .inl R_looks_9)), (aR_kinds, .inl (cI, 8, .inl R_kinds)), (aR_values, .inl (cI, 8, .inl R_values)), (aR_isSafe, .inl (cZ, 8, .inl R_isSafe))] H := hP
            have hD : va_D A [(aR, .inr (7, [.int R_triples, .ref aR_facts, .int R_patterns, .ref aR_cells, .ref aR_told, .ref aR_of, .ref aR_hints, .int R_filters, .ref aR_looks, .ref aR_kinds, .ref aR_values, .ref aR_isSafe, .ref aR_sizes, .ref aR_spreads, .ref aR_isSeen, .ref aR_estimates, .ref aR_rest, .int R_steps, .ref aR_order, .ref aR_joins, .ref aR_actsBehind, .ref aR_upTo, .int R_filtersThen, .ref aR_behind, .int R_rows, .ref aR_row, .ref aR_found, .int R_comes, .ref aR_next, .ref aR_nextFound, .int R_kept, .int R_hasRoom, .ref aR_keep, .ref aR_isTaken])), (aR_looks, .inl (cI, 8, .inl R_looks_9)), (aR_kinds, .inl (cI, 8, .inl R_kinds)), (aR_values, .inl (cI, 8, .inl R_values)), (aR_isSafe, .inl (cZ, 8, .inl R_isSafe))] := hD
            refine lv_aload_n hx hb dX7_filter_48 rfl (lv_at hl 0 rfl) ?_
            refine va_get (D := D) (ci := 7) (v := .ref aR_kinds) (C := RX7) (T := TX7) (N := 34) hx hb htg giX7 hown hK hP 0 rfl rfl 9 (by decide) (htg _ kw_572) (fun _ h9 => h9) rfl dX7_filter_49 ?_
            refine lv_aload_n hx hb dX7_filter_52 rfl (lv_at hl 0 rfl) ?_
            refine va_get (D := D) (ci := 7) (v := .int R_filters) (C := RX7) (T := TX7) (N := 34) hx hb htg giX7 hown hK hP 0 rfl rfl 7 (by decide) (htg _ kw_570) (fun _ h9 => h9) rfl dX7_filter_53 ?_
            refine lv_iload_n hx hb dX7_filter_56 rfl (lv_at hl 2 rfl) ?_
            refine x_iast hx hb hK hP hD hS 2 0 rfl rfl g_8 dX7_filter_57 (fun R_kinds_10 eR_kinds_10 H locs hP hD hS => ?_)
            have hf := nm_nm eR_kinds_10 hf
            have hP : va_P D vwCl [(aR, .inr (7, [.int R_triples, .ref aR_facts, .int R_patterns, .ref aR_cells, .ref aR_told, .ref aR_of, .ref aR_hints, .int R_filters, .ref aR_looks, .ref aR_kinds, .ref aR_values, .ref aR_isSafe, .ref aR_sizes, .ref aR_spreads, .ref aR_isSeen, .ref aR_estimates, .ref aR_rest, .int R_steps, .ref aR_order, .ref aR_joins, .ref aR_actsBehind, .ref aR_upTo, .int R_filtersThen, .ref aR_behind, .int R_rows, .ref aR_row, .ref aR_found, .int R_comes, .ref aR_next, .ref aR_nextFound, .int R_kept, .int R_hasRoom, .ref aR_keep, .ref aR_isTaken])), (aR_looks, .inl (cI, 8, .inl R_looks_9)), (aR_kinds, .inl (cI, 8, .inl R_kinds_10)), (aR_values, .inl (cI, 8, .inl R_values)), (aR_isSafe, .inl (cZ, 8, .inl R_isSafe))] H := hP
            have hD : va_D A [(aR, .inr (7, [.int R_triples, .ref aR_facts, .int R_patterns, .ref aR_cells, .ref aR_told, .ref aR_of, .ref aR_hints, .int R_filters, .ref aR_looks, .ref aR_kinds, .ref aR_values, .ref aR_isSafe, .ref aR_sizes, .ref aR_spreads, .ref aR_isSeen, .ref aR_estimates, .ref aR_rest, .int R_steps, .ref aR_order, .ref aR_joins, .ref aR_actsBehind, .ref aR_upTo, .int R_filtersThen, .ref aR_behind, .int R_rows, .ref aR_row, .ref aR_found, .int R_comes, .ref aR_next, .ref aR_nextFound, .int R_kept, .int R_hasRoom, .ref aR_keep, .ref aR_isTaken])), (aR_looks, .inl (cI, 8, .inl R_looks_9)), (aR_kinds, .inl (cI, 8, .inl R_kinds_10)), (aR_values, .inl (cI, 8, .inl R_values)), (aR_isSafe, .inl (cZ, 8, .inl R_isSafe))] := hD
            refine lv_aload_n hx hb dX7_filter_58 rfl (lv_at hl 0 rfl) ?_
            refine va_get (D := D) (ci := 7) (v := .ref aR_values) (C := RX7) (T := TX7) (N := 34) hx hb htg giX7 hown hK hP 0 rfl rfl 10 (by decide) (htg _ kw_573) (fun _ h9 => h9) rfl dX7_filter_59 ?_
            refine lv_aload_n hx hb dX7_filter_62 rfl (lv_at hl 0 rfl) ?_
            refine va_get (D := D) (ci := 7) (v := .int R_filters) (C := RX7) (T := TX7) (N := 34) hx hb htg giX7 hown hK hP 0 rfl rfl 7 (by decide) (htg _ kw_570) (fun _ h9 => h9) rfl dX7_filter_63 ?_
            refine lv_iload_n hx hb dX7_filter_66 rfl (lv_at hl 3 rfl) ?_
            refine x_iast hx hb hK hP hD hS 3 0 rfl rfl g_8 dX7_filter_67 (fun R_values_11 eR_values_11 H locs hP hD hS => ?_)
            have hf := nm_nm eR_values_11 hf
            have hP : va_P D vwCl [(aR, .inr (7, [.int R_triples, .ref aR_facts, .int R_patterns, .ref aR_cells, .ref aR_told, .ref aR_of, .ref aR_hints, .int R_filters, .ref aR_looks, .ref aR_kinds, .ref aR_values, .ref aR_isSafe, .ref aR_sizes, .ref aR_spreads, .ref aR_isSeen, .ref aR_estimates, .ref aR_rest, .int R_steps, .ref aR_order, .ref aR_joins, .ref aR_actsBehind, .ref aR_upTo, .int R_filtersThen, .ref aR_behind, .int R_rows, .ref aR_row, .ref aR_found, .int R_comes, .ref aR_next, .ref aR_nextFound, .int R_kept, .int R_hasRoom, .ref aR_keep, .ref aR_isTaken])), (aR_looks, .inl (cI, 8, .inl R_looks_9)), (aR_kinds, .inl (cI, 8, .inl R_kinds_10)), (aR_values, .inl (cI, 8, .inl R_values_11)), (aR_isSafe, .inl (cZ, 8, .inl R_isSafe))] H := hP
            have hD : va_D A [(aR, .inr (7, [.int R_triples, .ref aR_facts, .int R_patterns, .ref aR_cells, .ref aR_told, .ref aR_of, .ref aR_hints, .int R_filters, .ref aR_looks, .ref aR_kinds, .ref aR_values, .ref aR_isSafe, .ref aR_sizes, .ref aR_spreads, .ref aR_isSeen, .ref aR_estimates, .ref aR_rest, .int R_steps, .ref aR_order, .ref aR_joins, .ref aR_actsBehind, .ref aR_upTo, .int R_filtersThen, .ref aR_behind, .int R_rows, .ref aR_row, .ref aR_found, .int R_comes, .ref aR_next, .ref aR_nextFound, .int R_kept, .int R_hasRoom, .ref aR_keep, .ref aR_isTaken])), (aR_looks, .inl (cI, 8, .inl R_looks_9)), (aR_kinds, .inl (cI, 8, .inl R_kinds_10)), (aR_values, .inl (cI, 8, .inl R_values_11)), (aR_isSafe, .inl (cZ, 8, .inl R_isSafe))] := hD
            refine lv_aload_n hx hb dX7_filter_68 rfl (lv_at hl 0 rfl) ?_
            refine va_get (D := D) (ci := 7) (v := .ref aR_isSafe) (C := RX7) (T := TX7) (N := 34) hx hb htg giX7 hown hK hP 0 rfl rfl 11 (by decide) (htg _ kw_574) (fun _ h9 => h9) rfl dX7_filter_69 ?_
            refine lv_aload_n hx hb dX7_filter_72 rfl (lv_at hl 0 rfl) ?_
            refine va_get (D := D) (ci := 7) (v := .int R_filters) (C := RX7) (T := TX7) (N := 34) hx hb htg giX7 hown hK hP 0 rfl rfl 7 (by decide) (htg _ kw_570) (fun _ h9 => h9) rfl dX7_filter_73 ?_
            refine lv_iload hx hb dX7_filter_76 (lv_at hl 4 rfl) ?_
            refine x_zast hx hb hK hP hD hS 4 2 rfl rfl g_8 dX7_filter_78 (fun R_isSafe_12 eR_isSafe_12 H locs hP hD hS => ?_)
            have hf := nm_nm eR_isSafe_12 hf
            have hP : va_P D vwCl [(aR, .inr (7, [.int R_triples, .ref aR_facts, .int R_patterns, .ref aR_cells, .ref aR_told, .ref aR_of, .ref aR_hints, .int R_filters, .ref aR_looks, .ref aR_kinds, .ref aR_values, .ref aR_isSafe, .ref aR_sizes, .ref aR_spreads, .ref aR_isSeen, .ref aR_estimates, .ref aR_rest, .int R_steps, .ref aR_order, .ref aR_joins, .ref aR_actsBehind, .ref aR_upTo, .int R_filtersThen, .ref aR_behind, .int R_rows, .ref aR_row, .ref aR_found, .int R_comes, .ref aR_next, .ref aR_nextFound, .int R_kept, .int R_hasRoom, .ref aR_keep, .ref aR_isTaken])), (aR_looks, .inl (cI, 8, .inl R_looks_9)), (aR_kinds, .inl (cI, 8, .inl R_kinds_10)), (aR_values, .inl (cI, 8, .inl R_values_11)), (aR_isSafe, .inl (cZ, 8, .inl R_isSafe_12))] H := hP
            have hD : va_D A [(aR, .inr (7, [.int R_triples, .ref aR_facts, .int R_patterns, .ref aR_cells, .ref aR_told, .ref aR_of, .ref aR_hints, .int R_filters, .ref aR_looks, .ref aR_kinds, .ref aR_values, .ref aR_isSafe, .ref aR_sizes, .ref aR_spreads, .ref aR_isSeen, .ref aR_estimates, .ref aR_rest, .int R_steps, .ref aR_order, .ref aR_joins, .ref aR_actsBehind, .ref aR_upTo, .int R_filtersThen, .ref aR_behind, .int R_rows, .ref aR_row, .ref aR_found, .int R_comes, .ref aR_next, .ref aR_nextFound, .int R_kept, .int R_hasRoom, .ref aR_keep, .ref aR_isTaken])), (aR_looks, .inl (cI, 8, .inl R_looks_9)), (aR_kinds, .inl (cI, 8, .inl R_kinds_10)), (aR_values, .inl (cI, 8, .inl R_values_11)), (aR_isSafe, .inl (cZ, 8, .inl R_isSafe_12))] := hD
            refine lv_aload_n hx hb dX7_filter_79 rfl (lv_at hl 0 rfl) ?_
            refine lv_dup hx hb dX7_filter_80 rfl ?_
            refine va_get (D := D) (ci := 7) (v := .int R_filters) (C := RX7) (T := TX7) (N := 34) hx hb htg giX7 hown hK hP 0 rfl rfl 7 (by decide) (htg _ kw_570) (fun _ h9 => h9) rfl dX7_filter_81 ?_
            refine lv_iconst (v := (1 : Int32)) hx hb dX7_filter_84 (by decide) ?_
            refine lv_iadd hx hb dX7_filter_85 ?_
            refine lv_topi (fun v_13 ev_13 => ?_)
            have hf := nm_nm ev_13 hf
            refine va_put (D := D) (ci := 7) (v := .int v_13) (ty := .int) (C := RX7) (T := TX7) (N := 34) hx hb htg giX7 tyX7 tyX7_ok nmX7 hown hK hP hD hS 0 rfl rfl 7 (by decide) (htg _ kw_570) (fun _ h9 => h9) rfl (by decide +kernel) rfl rfl (Nat.le_of_ble_eq_true rfl) dX7_filter_86 (fun H locs hP hD hS => ?_)
            have hP : va_P D vwCl [(aR, .inr (7, [.int R_triples, .ref aR_facts, .int R_patterns, .ref aR_cells, .ref aR_told, .ref aR_of, .ref aR_hints, .int v_13, .ref aR_looks, .ref aR_kinds, .ref aR_values, .ref aR_isSafe, .ref aR_sizes, .ref aR_spreads, .ref aR_isSeen, .ref aR_estimates, .ref aR_rest, .int R_steps, .ref aR_order, .ref aR_joins, .ref aR_actsBehind, .ref aR_upTo, .int R_filtersThen, .ref aR_behind, .int R_rows, .ref aR_row, .ref aR_found, .int R_comes, .ref aR_next, .ref aR_nextFound, .int R_kept, .int R_hasRoom, .ref aR_keep, .ref aR_isTaken])), (aR_looks, .inl (cI, 8, .inl R_looks_9)), (aR_kinds, .inl (cI, 8, .inl R_kinds_10)), (aR_values, .inl (cI, 8, .inl R_values_11)), (aR_isSafe, .inl (cZ, 8, .inl R_isSafe_12))] H := hP
            have hD : va_D A [(aR, .inr (7, [.int R_triples, .ref aR_facts, .int R_patterns, .ref aR_cells, .ref aR_told, .ref aR_of, .ref aR_hints, .int v_13, .ref aR_looks, .ref aR_kinds, .ref aR_values, .ref aR_isSafe, .ref aR_sizes, .ref aR_spreads, .ref aR_isSeen, .ref aR_estimates, .ref aR_rest, .int R_steps, .ref aR_order, .ref aR_joins, .ref aR_actsBehind, .ref aR_upTo, .int R_filtersThen, .ref aR_behind, .int R_rows, .ref aR_row, .ref aR_found, .int R_comes, .ref aR_next, .ref aR_nextFound, .int R_kept, .int R_hasRoom, .ref aR_keep, .ref aR_isTaken])), (aR_looks, .inl (cI, 8, .inl R_looks_9)), (aR_kinds, .inl (cI, 8, .inl R_kinds_10)), (aR_values, .inl (cI, 8, .inl R_values_11)), (aR_isSafe, .inl (cZ, 8, .inl R_isSafe_12))] := hD
            refine lv_aload_n hx hb dX7_filter_89 rfl (lv_at hl 0 rfl) ?_
            refine va_get (D := D) (ci := 7) (v := .int v_13) (C := RX7) (T := TX7) (N := 34) hx hb htg giX7 hown hK hP 0 rfl rfl 7 (by decide) (htg _ kw_570) (fun _ h9 => h9) rfl dX7_filter_90 ?_
            refine lv_iconst (v := (1 : Int32)) hx hb dX7_filter_93 (by decide) ?_
            refine lv_isub hx hb dX7_filter_94 ?_
            have hf := Option.some.inj hf
            cases hf
            exact x_iret (fun _ => 0) hQ hx hb hr hlk hK hP hD hS dX7_filter_95
          · have hf := xb_t c_7 hf
            refine lv_bipush (v := (-4 : Int32)) hx hb dX7_filter_35 (by decide) ?_
            have hf := Option.some.inj hf
            cases hf
            exact x_iret (fun _ => 0) hQ hx hb hr hlk hK hP hD hS dX7_filter_37
        · have hf := xb_t c_6 hf
          refine lv_bipush (v := (-2 : Int32)) hx hb dX7_filter_23 (by decide) ?_
          have hf := Option.some.inj hf
          cases hf
          exact x_iret (fun _ => 0) hQ hx hb hr hlk hK hP hD hS dX7_filter_25
abbrev rm_f_JoinOrder_cost : Room := { frames := 1, cells := 0, slots := 0, locals := 21 }
set_option maxHeartbeats 4000000 in
set_option maxRecDepth 100000 in
theorem c_f_JoinOrder_cost (l : Launch) (D : va_G) (cI cJ cZ : ClassId) (sz : Nat) (aJ : Nat) (x1 : Int32) (x2 : Int32) (aT : Nat) (aP : Nat) (aF : Nat) (aQ : Nat) (aM : Nat) (aB : Nat) (J_hasRun : Int32) (aJ_plainOrder : Nat) (aC : Nat) (aP_slots : Nat) (aP_termsSeen : Nat) (aP_matches : Nat) (aP_matchCount : Nat) (aP_variables : Nat) (aP_havingVariable : Nat) (aP_told : Nat) (aP_parent : Nat) (aP_allBefore : Nat) (P_required : Int32) (P_hinted : Int32) (P_count : Int32) (P_told : Nat → Int32) {r : Int32} {P_told' : Nat → Int32} (hf : f_JoinOrder_cost x1 x2 P_count P_told = some (r, P_told')) : Met l yX0_cost (.code yX0_cost cX0_cost 3 (some .int) :: GW) rm_f_JoinOrder_cost (va_Pc [.ref aJ, .int x1, .int x2] (xP D (xT cI cJ cZ) sz [(aJ, .inr (0, [.ref aT, .ref aP, .ref aF, .ref aQ, .ref aM, .ref aB, .int J_hasRun, .ref aJ_plainOrder, .ref aC])), (aP, .inr (2, [.ref aP_slots, .ref aP_termsSeen, .ref aP_matches, .ref aP_matchCount, .ref aP_variables, .ref aP_havingVariable, .ref aP_told, .ref aP_parent, .ref aP_allBefore, .int P_required, .int P_hinted, .int P_count])), (aP_told, .inl (cI, 8, .inl P_told))])) (va_Qi (fun r2 (_ : Nat → Nat) => r2 = r) (bB D (xT cI cJ cZ) (fun _ => [(aJ, .inr (0, [.ref aT, .ref aP, .ref aF, .ref aQ, .ref aM, .ref aB, .int J_hasRun, .ref aJ_plainOrder, .ref aC])), (aP, .inr (2, [.ref aP_slots, .ref aP_termsSeen, .ref aP_matches, .ref aP_matchCount, .ref aP_variables, .ref aP_havingVariable, .ref aP_told, .ref aP_parent, .ref aP_allBefore, .int P_required, .int P_hinted, .int P_count])), (aP_told, .inl (cI, 8, .inl P_told'))]) (va_A [(aJ, .inr (0, [.ref aT, .ref aP, .ref aF, .ref aQ, .ref aM, .ref aB, .int J_hasRun, .ref aJ_plainOrder, .ref aC])), (aP, .inr (2, [.ref aP_slots, .ref aP_termsSeen, .ref aP_matches, .ref aP_matchCount, .ref aP_variables, .ref aP_havingVariable, .ref aP_told, .ref aP_parent, .ref aP_allBefore, .int P_required, .int P_hinted, .int P_count])), (aP_told, .inl (cI, 8, .inl P_told))] sz)) (va_A [(aJ, .inr (0, [.ref aT, .ref aP, .ref aF, .ref aQ, .ref aM, .ref aB, .int J_hasRun, .ref aJ_plainOrder, .ref aC])), (aP, .inr (2, [.ref aP_slots, .ref aP_termsSeen, .ref aP_matches, .ref aP_matchCount, .ref aP_variables, .ref aP_havingVariable, .ref aP_told, .ref aP_parent, .ref aP_allBefore, .int P_required, .int P_hinted, .int P_count])), (aP_told, .inl (cI, 8, .inl P_told))] sz)) 0 0 (va_A [(aJ, .inr (0, [.ref aT, .ref aP, .ref aF, .ref aQ, .ref aM, .ref aB, .int J_hasRun, .ref aJ_plainOrder, .ref aC])), (aP, .inr (2, [.ref aP_slots, .ref aP_termsSeen, .ref aP_matches, .ref aP_matchCount, .ref aP_variables, .ref aP_havingVariable, .ref aP_told, .ref aP_parent, .ref aP_allBefore, .int P_required, .int P_hinted, .int P_count])), (aP_told, .inl (cI, 8, .inl P_told))] sz) := by
  refine con_start (Qc := fun A => va_Qi (fun r2 (_ : Nat → Nat) => r2 = r) (bB D (xT cI cJ cZ) (fun _ => [(aJ, .inr (0, [.ref aT, .ref aP, .ref aF, .ref aQ, .ref aM, .ref aB, .int J_hasRun, .ref aJ_plainOrder, .ref aC])), (aP, .inr (2, [.ref aP_slots, .ref aP_termsSeen, .ref aP_matches, .ref aP_matchCount, .ref aP_variables, .ref aP_havingVariable, .ref aP_told, .ref aP_parent, .ref aP_allBefore, .int P_required, .int P_hinted, .int P_count])), (aP_told, .inl (cI, 8, .inl P_told'))]) A) A) (by decide) (Nat.le_of_ble_eq_true rfl) ?_
  intro p e s m args below meth c Q A hx hb hr hlk hml hown hin htg hN hK hQ hA hP hD hS ls hl
  have hl : lv_has ls 3 [(0, .ref aJ), (1, .int x1), (2, .int x2)] := hl
  have hown : s.vm.findClass RX0 = some m.cls := hown
  have hf := (f_JoinOrder_cost_u x1 x2 P_count P_told).symm.trans hf
  refine lv_aload_n hx hb dX0_cost_0 rfl (lv_at hl 0 rfl) ?_
  refine va_get (D := D) (ci := 0) (v := .ref aP) (C := RX0) (T := TX0) (N := 9) hx hb htg giX0 hown hK hP 0 rfl rfl 1 (by decide) (htg _ kw_201) (fun _ h9 => h9) rfl dX0_cost_1 ?_
  refine lv_iload_n hx hb dX0_cost_4 rfl (lv_at hl 1 rfl) ?_
  refine x_z (xrV (As := [.int x1]) (b := aP) (rest := []) ⟨hx, hb, hml, hown, htg⟩ (c_f_Patterns_has l D cI cJ cZ _ aP x1 aP_slots aP_termsSeen aP_matches aP_matchCount aP_variables aP_havingVariable aP_told aP_parent aP_allBefore P_required P_hinted P_count rfl) kc_f_Patterns_has kw_297 kw_298 kw_299 kw_3 dd_f_Patterns_has ⟨Nat.le_of_ble_eq_true rfl, Nat.le_of_ble_eq_true rfl⟩ rfl rfl (hP.sub [1] rfl) (hD.sub [1] (by decide) rfl) hK hN hP (q0 := 1) rfl rfl rfl hl.1 rfl (Nat.le_of_ble_eq_true rfl) dX0_cost_5 ⟨Nat.le_of_ble_eq_true rfl, Nat.le_of_ble_eq_true rfl⟩) hP hD hS hA [1] [0, 2] rfl rfl (by decide) (by decide) (fun _ H locs bz_1 hP hD hS => ?_)
  have hP : va_P D vwCl [(aJ, .inr (0, [.ref aT, .ref aP, .ref aF, .ref aQ, .ref aM, .ref aB, .int J_hasRun, .ref aJ_plainOrder, .ref aC])), (aP_told, .inl (cI, 8, .inl P_told)), (aP, .inr (2, [.ref aP_slots, .ref aP_termsSeen, .ref aP_matches, .ref aP_matchCount, .ref aP_variables, .ref aP_havingVariable, .ref aP_told, .ref aP_parent, .ref aP_allBefore, .int P_required, .int P_hinted, .int P_count]))] H := hP
  have hD : va_D A [(aJ, .inr (0, [.ref aT, .ref aP, .ref aF, .ref aQ, .ref aM, .ref aB, .int J_hasRun, .ref aJ_plainOrder, .ref aC])), (aP_told, .inl (cI, 8, .inl P_told)), (aP, .inr (2, [.ref aP_slots, .ref aP_termsSeen, .ref aP_matches, .ref aP_matchCount, .ref aP_variables, .ref aP_havingVariable, .ref aP_told, .ref aP_parent, .ref aP_allBefore, .int P_required, .int P_hinted, .int P_count]))] := hD
  refine lv_if_ne (tgt := 13) hx hb dX0_cost_8 (by decide) (fun c_2 => ?_) (fun c_2 => ?_)
  · have hf := xb_f c_2 hf
    refine lv_iload_n hx hb dX0_cost_13 rfl (lv_at hl 2 rfl) ?_
    refine lv_iconst (v := (-1 : Int32)) hx hb dX0_cost_14 (by decide) ?_
    refine lv_icmp_lt (tgt := 24) hx hb dX0_cost_15 (by decide) (fun c_3 => ?_) (fun c_3 => ?_)
    · have hf := xb_t c_3 hf
      refine lv_bipush (v := (-2 : Int32)) hx hb dX0_cost_24 (by decide) ?_
      have hf := Option.some.inj hf
      cases hf
      exact x_iret (fun _ => 0) hQ hx hb hr hlk hK (hP.sub [0, 2, 1] rfl) (hD.sub [0, 2, 1] (by decide) rfl) hS dX0_cost_26
    · have hf := xb_f c_3 hf
      refine lv_iload_n hx hb dX0_cost_18 rfl (lv_at hl 2 rfl) ?_
      refine lv_bipush (v := (100 : Int32)) hx hb dX0_cost_19 (by decide) ?_
      refine lv_icmp_le (tgt := 27) hx hb dX0_cost_21 (by decide) (fun c_4 => ?_) (fun c_4 => ?_)
      · have hf := xb_t c_4 hf
        refine lv_aload_n hx hb dX0_cost_27 rfl (lv_at hl 0 rfl) ?_
        refine va_get (D := D) (ci := 0) (v := .ref aP) (C := RX0) (T := TX0) (N := 9) hx hb htg giX0 hown hK hP 0 rfl rfl 1 (by decide) (htg _ kw_201) (fun _ h9 => h9) rfl dX0_cost_28 ?_
        refine va_getN (D := D) (ci := 2) (v := .ref aP_told) (C := RX2) (T := TX2) (N := 12) hx hb htg giX2 hown hK hP 2 rfl rfl 6 (by decide) (va_Nw.use rfl (hN _ kn_54)) (fun _ h9 => h9) rfl dX0_cost_31 ?_
        refine lv_iload_n hx hb dX0_cost_34 rfl (lv_at hl 1 rfl) ?_
        refine lv_iload_n hx hb dX0_cost_35 rfl (lv_at hl 2 rfl) ?_
        have g_5 : vp_in x1 8 := gd_in hf
        have hf := gd_el hf
        refine x_iast hx hb hK hP hD hS 1 0 rfl rfl g_5 dX0_cost_36 (fun P_told_6 eP_told_6 H locs hP hD hS => ?_)
        have hf := nm_nm eP_told_6 hf
        have hP : va_P D vwCl [(aJ, .inr (0, [.ref aT, .ref aP, .ref aF, .ref aQ, .ref aM, .ref aB, .int J_hasRun, .ref aJ_plainOrder, .ref aC])), (aP_told, .inl (cI, 8, .inl P_told_6)), (aP, .inr (2, [.ref aP_slots, .ref aP_termsSeen, .ref aP_matches, .ref aP_matchCount, .ref aP_variables, .ref aP_havingVariable, .ref aP_told, .ref aP_parent, .ref aP_allBefore, .int P_required, .int P_hinted, .int P_count]))] H := hP
        have hD : va_D A [(aJ, .inr (0, [.ref aT, .ref aP, .ref aF, .ref aQ, .ref aM, .ref aB, .int J_hasRun, .ref aJ_plainOrder, .ref aC])), (aP_told, .inl (cI, 8, .inl P_told_6)), (aP, .inr (2, [.ref aP_slots, .ref aP_termsSeen, .ref aP_matches, .ref aP_matchCount, .ref aP_variables, .ref aP_havingVariable, .ref aP_told, .ref aP_parent, .ref aP_allBefore, .int P_required, .int P_hinted, .int P_count]))] := hD
        refine lv_iconst (v := (1 : Int32)) hx hb dX0_cost_37 (by decide) ?_
        have hf := Option.some.inj hf
        cases hf
        exact x_iret (fun _ => 0) hQ hx hb hr hlk hK (hP.sub [0, 2, 1] rfl) (hD.sub [0, 2, 1] (by decide) rfl) hS dX0_cost_38
      · have hf := xb_f c_4 hf
        refine lv_bipush (v := (-2 : Int32)) hx hb dX0_cost_24 (by decide) ?_
        have hf := Option.some.inj hf
        cases hf
        exact x_iret (fun _ => 0) hQ hx hb hr hlk hK (hP.sub [0, 2, 1] rfl) (hD.sub [0, 2, 1] (by decide) rfl) hS dX0_cost_26
  · have hf := xb_t c_2 hf
    refine lv_iconst (v := (-1 : Int32)) hx hb dX0_cost_11 (by decide) ?_
    have hf := Option.some.inj hf
    cases hf
    exact x_iret (fun _ => 0) hQ hx hb hr hlk hK (hP.sub [0, 2, 1] rfl) (hD.sub [0, 2, 1] (by decide) rfl) hS dX0_cost_12
abbrev rm_f_JoinOrderModel_cost : Room := { frames := 1, cells := 0, slots := 0, locals := 21 }
set_option maxHeartbeats 4000000 in
set_option maxRecDepth 100000 in
theorem c_f_JoinOrderModel_cost (l : Launch) (D : va_G) (cI cJ cZ : ClassId) (sz : Nat) (aR : Nat) (x1 : Int32) (x2 : Int32) (R_triples : Int32) (aR_facts : Nat) (R_patterns : Int32) (aR_cells : Nat) (aR_told : Nat) (aR_of : Nat) (aR_hints : Nat) (R_filters : Int32) (aR_looks : Nat) (aR_kinds : Nat) (aR_values : Nat) (aR_isSafe : Nat) (aR_sizes : Nat) (aR_spreads : Nat) (aR_isSeen : Nat) (aR_estimates : Nat) (aR_rest : Nat) (R_steps : Int32) (aR_order : Nat) (aR_joins : Nat) (aR_actsBehind : Nat) (aR_upTo : Nat) (R_filtersThen : Int32) (aR_behind : Nat) (R_rows : Int32) (aR_row : Nat) (aR_found : Nat) (R_comes : Int32) (aR_next : Nat) (aR_nextFound : Nat) (R_kept : Int32) (R_hasRoom : Int32) (aR_keep : Nat) (aR_isTaken : Nat) (R_told : Nat → Int32) {r : Int32} {R_told' : Nat → Int32} (hf : f_JoinOrderModel_cost x1 x2 R_patterns R_told = some (r, R_told')) : Met l yX7_cost (.code yX7_cost cX7_cost 3 (some .int) :: GW) rm_f_JoinOrderModel_cost (va_Pc [.ref aR, .int x1, .int x2] (xP D (xT cI cJ cZ) sz [(aR, .inr (7, [.int R_triples, .ref aR_facts, .int R_patterns, .ref aR_cells, .ref aR_told, .ref aR_of, .ref aR_hints, .int R_filters, .ref aR_looks, .ref aR_kinds, .ref aR_values, .ref aR_isSafe, .ref aR_sizes, .ref aR_spreads, .ref aR_isSeen, .ref aR_estimates, .ref aR_rest, .int R_steps, .ref aR_order, .ref aR_joins, .ref aR_actsBehind, .ref aR_upTo, .int R_filtersThen, .ref aR_behind, .int R_rows, .ref aR_row, .ref aR_found, .int R_comes, .ref aR_next, .ref aR_nextFound, .int R_kept, .int R_hasRoom, .ref aR_keep, .ref aR_isTaken])), (aR_told, .inl (cI, 8, .inl R_told))])) (va_Qi (fun r2 (_ : Nat → Nat) => r2 = r) (bB D (xT cI cJ cZ) (fun _ => [(aR, .inr (7, [.int R_triples, .ref aR_facts, .int R_patterns, .ref aR_cells, .ref aR_told, .ref aR_of, .ref aR_hints, .int R_filters, .ref aR_looks, .ref aR_kinds, .ref aR_values, .ref aR_isSafe, .ref aR_sizes, .ref aR_spreads, .ref aR_isSeen, .ref aR_estimates, .ref aR_rest, .int R_steps, .ref aR_order, .ref aR_joins, .ref aR_actsBehind, .ref aR_upTo, .int R_filtersThen, .ref aR_behind, .int R_rows, .ref aR_row, .ref aR_found, .int R_comes, .ref aR_next, .ref aR_nextFound, .int R_kept, .int R_hasRoom, .ref aR_keep, .ref aR_isTaken])), (aR_told, .inl (cI, 8, .inl R_told'))]) (va_A [(aR, .inr (7, [.int R_triples, .ref aR_facts, .int R_patterns, .ref aR_cells, .ref aR_told, .ref aR_of, .ref aR_hints, .int R_filters, .ref aR_looks, .ref aR_kinds, .ref aR_values, .ref aR_isSafe, .ref aR_sizes, .ref aR_spreads, .ref aR_isSeen, .ref aR_estimates, .ref aR_rest, .int R_steps, .ref aR_order, .ref aR_joins, .ref aR_actsBehind, .ref aR_upTo, .int R_filtersThen, .ref aR_behind, .int R_rows, .ref aR_row, .ref aR_found, .int R_comes, .ref aR_next, .ref aR_nextFound, .int R_kept, .int R_hasRoom, .ref aR_keep, .ref aR_isTaken])), (aR_told, .inl (cI, 8, .inl R_told))] sz)) (va_A [(aR, .inr (7, [.int R_triples, .ref aR_facts, .int R_patterns, .ref aR_cells, .ref aR_told, .ref aR_of, .ref aR_hints, .int R_filters, .ref aR_looks, .ref aR_kinds, .ref aR_values, .ref aR_isSafe, .ref aR_sizes, .ref aR_spreads, .ref aR_isSeen, .ref aR_estimates, .ref aR_rest, .int R_steps, .ref aR_order, .ref aR_joins, .ref aR_actsBehind, .ref aR_upTo, .int R_filtersThen, .ref aR_behind, .int R_rows, .ref aR_row, .ref aR_found, .int R_comes, .ref aR_next, .ref aR_nextFound, .int R_kept, .int R_hasRoom, .ref aR_keep, .ref aR_isTaken])), (aR_told, .inl (cI, 8, .inl R_told))] sz)) 0 0 (va_A [(aR, .inr (7, [.int R_triples, .ref aR_facts, .int R_patterns, .ref aR_cells, .ref aR_told, .ref aR_of, .ref aR_hints, .int R_filters, .ref aR_looks, .ref aR_kinds, .ref aR_values, .ref aR_isSafe, .ref aR_sizes, .ref aR_spreads, .ref aR_isSeen, .ref aR_estimates, .ref aR_rest, .int R_steps, .ref aR_order, .ref aR_joins, .ref aR_actsBehind, .ref aR_upTo, .int R_filtersThen, .ref aR_behind, .int R_rows, .ref aR_row, .ref aR_found, .int R_comes, .ref aR_next, .ref aR_nextFound, .int R_kept, .int R_hasRoom, .ref aR_keep, .ref aR_isTaken])), (aR_told, .inl (cI, 8, .inl R_told))] sz) := by
  refine con_start (Qc := fun A => va_Qi (fun r2 (_ : Nat → Nat) => r2 = r) (bB D (xT cI cJ cZ) (fun _ => [(aR, .inr (7, [.int R_triples, .ref aR_facts, .int R_patterns, .ref aR_cells, .ref aR_told, .ref aR_of, .ref aR_hints, .int R_filters, .ref aR_looks, .ref aR_kinds, .ref aR_values, .ref aR_isSafe, .ref aR_sizes, .ref aR_spreads, .ref aR_isSeen, .ref aR_estimates, .ref aR_rest, .int R_steps, .ref aR_order, .ref aR_joins, .ref aR_actsBehind, .ref aR_upTo, .int R_filtersThen, .ref aR_behind, .int R_rows, .ref aR_row, .ref aR_found, .int R_comes, .ref aR_next, .ref aR_nextFound, .int R_kept, .int R_hasRoom, .ref aR_keep, .ref aR_isTaken])), (aR_told, .inl (cI, 8, .inl R_told'))]) A) A) (by decide) (Nat.le_of_ble_eq_true rfl) ?_
  intro p e s m args below meth c Q A hx hb hr hlk hml hown hin htg hN hK hQ hA hP hD hS ls hl
  have hl : lv_has ls 3 [(0, .ref aR), (1, .int x1), (2, .int x2)] := hl
  have hown : s.vm.findClass RX7 = some m.cls := hown
  have hf := (f_JoinOrderModel_cost_u x1 x2 R_patterns R_told).symm.trans hf
  refine lv_aload_n hx hb dX7_cost_0 rfl (lv_at hl 0 rfl) ?_
  refine lv_iload_n hx hb dX7_cost_1 rfl (lv_at hl 1 rfl) ?_
  refine x_z (xrV (As := [.int x1]) (b := aR) (rest := []) ⟨hx, hb, hml, hown, htg⟩ (c_f_JoinOrderModel_isPattern l D cI cJ cZ _ aR x1 R_triples aR_facts R_patterns aR_cells aR_told aR_of aR_hints R_filters aR_looks aR_kinds aR_values aR_isSafe aR_sizes aR_spreads aR_isSeen aR_estimates aR_rest R_steps aR_order aR_joins aR_actsBehind aR_upTo R_filtersThen aR_behind R_rows aR_row aR_found R_comes aR_next aR_nextFound R_kept R_hasRoom aR_keep aR_isTaken rfl) kc_f_JoinOrderModel_isPattern kw_688 kw_690 kp_20 kw_8 dd_f_JoinOrderModel_isPattern ⟨Nat.le_of_ble_eq_true rfl, Nat.le_of_ble_eq_true rfl⟩ rfl rfl (hP.sub [0] rfl) (hD.sub [0] (by decide) rfl) hK hN hP (q0 := 0) rfl rfl rfl hl.1 rfl (Nat.le_of_ble_eq_true rfl) dX7_cost_2 ⟨Nat.le_of_ble_eq_true rfl, Nat.le_of_ble_eq_true rfl⟩) hP hD hS hA [0] [1] rfl rfl (by decide) (by decide) (fun _ H locs bz_1 hP hD hS => ?_)
  have hP : va_P D vwCl [(aR_told, .inl (cI, 8, .inl R_told)), (aR, .inr (7, [.int R_triples, .ref aR_facts, .int R_patterns, .ref aR_cells, .ref aR_told, .ref aR_of, .ref aR_hints, .int R_filters, .ref aR_looks, .ref aR_kinds, .ref aR_values, .ref aR_isSafe, .ref aR_sizes, .ref aR_spreads, .ref aR_isSeen, .ref aR_estimates, .ref aR_rest, .int R_steps, .ref aR_order, .ref aR_joins, .ref aR_actsBehind, .ref aR_upTo, .int R_filtersThen, .ref aR_behind, .int R_rows, .ref aR_row, .ref aR_found, .int R_comes, .ref aR_next, .ref aR_nextFound, .int R_kept, .int R_hasRoom, .ref aR_keep, .ref aR_isTaken]))] H := hP
  have hD : va_D A [(aR_told, .inl (cI, 8, .inl R_told)), (aR, .inr (7, [.int R_triples, .ref aR_facts, .int R_patterns, .ref aR_cells, .ref aR_told, .ref aR_of, .ref aR_hints, .int R_filters, .ref aR_looks, .ref aR_kinds, .ref aR_values, .ref aR_isSafe, .ref aR_sizes, .ref aR_spreads, .ref aR_isSeen, .ref aR_estimates, .ref aR_rest, .int R_steps, .ref aR_order, .ref aR_joins, .ref aR_actsBehind, .ref aR_upTo, .int R_filtersThen, .ref aR_behind, .int R_rows, .ref aR_row, .ref aR_found, .int R_comes, .ref aR_next, .ref aR_nextFound, .int R_kept, .int R_hasRoom, .ref aR_keep, .ref aR_isTaken]))] := hD
  refine lv_if_ne (tgt := 10) hx hb dX7_cost_5 (by decide) (fun c_2 => ?_) (fun c_2 => ?_)
  · have hf := xb_f c_2 hf
    refine lv_iload_n hx hb dX7_cost_10 rfl (lv_at hl 2 rfl) ?_
    refine lv_iconst (v := (-1 : Int32)) hx hb dX7_cost_11 (by decide) ?_
    refine lv_icmp_lt (tgt := 21) hx hb dX7_cost_12 (by decide) (fun c_3 => ?_) (fun c_3 => ?_)
    · have hf := xb_t c_3 hf
      refine lv_bipush (v := (-2 : Int32)) hx hb dX7_cost_21 (by decide) ?_
      have hf := Option.some.inj hf
      cases hf
      exact x_iret (fun _ => 0) hQ hx hb hr hlk hK (hP.sub [1, 0] rfl) (hD.sub [1, 0] (by decide) rfl) hS dX7_cost_23
    · have hf := xb_f c_3 hf
      refine lv_iload_n hx hb dX7_cost_15 rfl (lv_at hl 2 rfl) ?_
      refine lv_bipush (v := (100 : Int32)) hx hb dX7_cost_16 (by decide) ?_
      refine lv_icmp_le (tgt := 24) hx hb dX7_cost_18 (by decide) (fun c_4 => ?_) (fun c_4 => ?_)
      · have hf := xb_t c_4 hf
        refine lv_aload_n hx hb dX7_cost_24 rfl (lv_at hl 0 rfl) ?_
        refine va_get (D := D) (ci := 7) (v := .ref aR_told) (C := RX7) (T := TX7) (N := 34) hx hb htg giX7 hown hK hP 1 rfl rfl 4 (by decide) (htg _ kw_567) (fun _ h9 => h9) rfl dX7_cost_25 ?_
        refine lv_iload_n hx hb dX7_cost_28 rfl (lv_at hl 1 rfl) ?_
        refine lv_iload_n hx hb dX7_cost_29 rfl (lv_at hl 2 rfl) ?_
        have g_5 : vp_in x1 8 := gd_in hf
        have hf := gd_el hf
        refine x_iast hx hb hK hP hD hS 0 0 rfl rfl g_5 dX7_cost_30 (fun R_told_6 eR_told_6 H locs hP hD hS => ?_)
        have hf := nm_nm eR_told_6 hf
        have hP : va_P D vwCl [(aR_told, .inl (cI, 8, .inl R_told_6)), (aR, .inr (7, [.int R_triples, .ref aR_facts, .int R_patterns, .ref aR_cells, .ref aR_told, .ref aR_of, .ref aR_hints, .int R_filters, .ref aR_looks, .ref aR_kinds, .ref aR_values, .ref aR_isSafe, .ref aR_sizes, .ref aR_spreads, .ref aR_isSeen, .ref aR_estimates, .ref aR_rest, .int R_steps, .ref aR_order, .ref aR_joins, .ref aR_actsBehind, .ref aR_upTo, .int R_filtersThen, .ref aR_behind, .int R_rows, .ref aR_row, .ref aR_found, .int R_comes, .ref aR_next, .ref aR_nextFound, .int R_kept, .int R_hasRoom, .ref aR_keep, .ref aR_isTaken]))] H := hP
        have hD : va_D A [(aR_told, .inl (cI, 8, .inl R_told_6)), (aR, .inr (7, [.int R_triples, .ref aR_facts, .int R_patterns, .ref aR_cells, .ref aR_told, .ref aR_of, .ref aR_hints, .int R_filters, .ref aR_looks, .ref aR_kinds, .ref aR_values, .ref aR_isSafe, .ref aR_sizes, .ref aR_spreads, .ref aR_isSeen, .ref aR_estimates, .ref aR_rest, .int R_steps, .ref aR_order, .ref aR_joins, .ref aR_actsBehind, .ref aR_upTo, .int R_filtersThen, .ref aR_behind, .int R_rows, .ref aR_row, .ref aR_found, .int R_comes, .ref aR_next, .ref aR_nextFound, .int R_kept, .int R_hasRoom, .ref aR_keep, .ref aR_isTaken]))] := hD
        refine lv_iconst (v := (1 : Int32)) hx hb dX7_cost_31 (by decide) ?_
        have hf := Option.some.inj hf
        cases hf
        exact x_iret (fun _ => 0) hQ hx hb hr hlk hK (hP.sub [1, 0] rfl) (hD.sub [1, 0] (by decide) rfl) hS dX7_cost_32
      · have hf := xb_f c_4 hf
        refine lv_bipush (v := (-2 : Int32)) hx hb dX7_cost_21 (by decide) ?_
        have hf := Option.some.inj hf
        cases hf
        exact x_iret (fun _ => 0) hQ hx hb hr hlk hK (hP.sub [1, 0] rfl) (hD.sub [1, 0] (by decide) rfl) hS dX7_cost_23
  · have hf := xb_t c_2 hf
    refine lv_iconst (v := (-1 : Int32)) hx hb dX7_cost_8 (by decide) ?_
    have hf := Option.some.inj hf
    cases hf
    exact x_iret (fun _ => 0) hQ hx hb hr hlk hK (hP.sub [1, 0] rfl) (hD.sub [1, 0] (by decide) rfl) hS dX7_cost_9
abbrev rm_f_Patterns_isBefore : Room := { frames := 1, cells := 0, slots := 0, locals := 21 }
set_option maxHeartbeats 4000000 in
set_option maxRecDepth 100000 in
theorem c_f_Patterns_isBefore (l : Launch) (D : va_G) (cI cJ cZ : ClassId) (sz : Nat) (aP : Nat) (x1 : Int32) (x2 : Int32) (aP_slots : Nat) (aP_termsSeen : Nat) (aP_matches : Nat) (aP_matchCount : Nat) (aP_variables : Nat) (aP_havingVariable : Nat) (aP_told : Nat) (aP_parent : Nat) (aP_allBefore : Nat) (P_required : Int32) (P_hinted : Int32) (P_count : Int32) (P_allBefore : Nat → Int32) {r : Int32} (hf : f_Patterns_isBefore x1 x2 P_allBefore = some r) : Met l yX2_isBefore (.code yX2_isBefore cX2_isBefore 3 (some .boolean) :: GW) rm_f_Patterns_isBefore (va_Pc [.ref aP, .int x1, .int x2] (xP D (xT cI cJ cZ) sz [(aP, .inr (2, [.ref aP_slots, .ref aP_termsSeen, .ref aP_matches, .ref aP_matchCount, .ref aP_variables, .ref aP_havingVariable, .ref aP_told, .ref aP_parent, .ref aP_allBefore, .int P_required, .int P_hinted, .int P_count])), (aP_allBefore, .inl (cI, 8, .inl P_allBefore))])) (va_Qi (fun r2 (_ : Nat → Nat) => r2 = r ∧ (r = 0 ∨ r = 1)) (bB D (xT cI cJ cZ) (fun _ => [(aP, .inr (2, [.ref aP_slots, .ref aP_termsSeen, .ref aP_matches, .ref aP_matchCount, .ref aP_variables, .ref aP_havingVariable, .ref aP_told, .ref aP_parent, .ref aP_allBefore, .int P_required, .int P_hinted, .int P_count])), (aP_allBefore, .inl (cI, 8, .inl P_allBefore))]) (va_A [(aP, .inr (2, [.ref aP_slots, .ref aP_termsSeen, .ref aP_matches, .ref aP_matchCount, .ref aP_variables, .ref aP_havingVariable, .ref aP_told, .ref aP_parent, .ref aP_allBefore, .int P_required, .int P_hinted, .int P_count])), (aP_allBefore, .inl (cI, 8, .inl P_allBefore))] sz)) (va_A [(aP, .inr (2, [.ref aP_slots, .ref aP_termsSeen, .ref aP_matches, .ref aP_matchCount, .ref aP_variables, .ref aP_havingVariable, .ref aP_told, .ref aP_parent, .ref aP_allBefore, .int P_required, .int P_hinted, .int P_count])), (aP_allBefore, .inl (cI, 8, .inl P_allBefore))] sz)) 0 0 (va_A [(aP, .inr (2, [.ref aP_slots, .ref aP_termsSeen, .ref aP_matches, .ref aP_matchCount, .ref aP_variables, .ref aP_havingVariable, .ref aP_told, .ref aP_parent, .ref aP_allBefore, .int P_required, .int P_hinted, .int P_count])), (aP_allBefore, .inl (cI, 8, .inl P_allBefore))] sz) := by
  refine con_start (Qc := fun A => va_Qi (fun r2 (_ : Nat → Nat) => r2 = r ∧ (r = 0 ∨ r = 1)) (bB D (xT cI cJ cZ) (fun _ => [(aP, .inr (2, [.ref aP_slots, .ref aP_termsSeen, .ref aP_matches, .ref aP_matchCount, .ref aP_variables, .ref aP_havingVariable, .ref aP_told, .ref aP_parent, .ref aP_allBefore, .int P_required, .int P_hinted, .int P_count])), (aP_allBefore, .inl (cI, 8, .inl P_allBefore))]) A) A) (by decide) (Nat.le_of_ble_eq_true rfl) ?_
  intro p e s m args below meth c Q A hx hb hr hlk hml hown hin htg hN hK hQ hA hP hD hS ls hl
  have hl : lv_has ls 3 [(0, .ref aP), (1, .int x1), (2, .int x2)] := hl
  have hown : s.vm.findClass RX2 = some m.cls := hown
  have hf := (f_Patterns_isBefore_u x1 x2 P_allBefore).symm.trans hf
  refine lv_aload_n hx hb dX2_isBefore_0 rfl (lv_at hl 0 rfl) ?_
  refine va_get (D := D) (ci := 2) (v := .ref aP_allBefore) (C := RX2) (T := TX2) (N := 12) hx hb htg giX2 hown hK hP 0 rfl rfl 8 (by decide) (htg _ kw_57) (fun _ h9 => h9) rfl dX2_isBefore_1 ?_
  refine lv_iload_n hx hb dX2_isBefore_4 rfl (lv_at hl 2 rfl) ?_
  have g_1 : vp_in x2 8 := gd_in hf
  have hf := gd_el hf
  refine va_iald hx hb hK hP 1 0 rfl rfl g_1 dX2_isBefore_5 ?_
  refine lv_iload_n hx hb dX2_isBefore_6 rfl (lv_at hl 1 rfl) ?_
  refine x_z (xrSN (As := [.int (P_allBefore x2.toNatClampNeg), .int x1]) (rest := []) ⟨hx, hb, hml, hown, htg⟩ (c_f_JoinOrder_inSet l D cI cJ cZ _ (P_allBefore x2.toNatClampNeg) x1 rfl) kc_f_JoinOrder_inSet kn_305 kw_306 kw_1 dd_f_JoinOrder_inSet ⟨Nat.le_of_ble_eq_true rfl, Nat.le_of_ble_eq_true rfl⟩ rfl rfl (hP.sub [] rfl) (hD.sub [] (by decide) rfl) hK hN rfl hl.1 rfl (Nat.le_of_ble_eq_true rfl) dX2_isBefore_7 ⟨Nat.le_of_ble_eq_true rfl, Nat.le_of_ble_eq_true rfl⟩) hP hD hS hA [] [0, 1] rfl rfl (by decide) (by decide) (fun _ H locs bz_2 hP hD hS => ?_)
  have hP : va_P D vwCl [(aP, .inr (2, [.ref aP_slots, .ref aP_termsSeen, .ref aP_matches, .ref aP_matchCount, .ref aP_variables, .ref aP_havingVariable, .ref aP_told, .ref aP_parent, .ref aP_allBefore, .int P_required, .int P_hinted, .int P_count])), (aP_allBefore, .inl (cI, 8, .inl P_allBefore))] H := hP
  have hD : va_D A [(aP, .inr (2, [.ref aP_slots, .ref aP_termsSeen, .ref aP_matches, .ref aP_matchCount, .ref aP_variables, .ref aP_havingVariable, .ref aP_told, .ref aP_parent, .ref aP_allBefore, .int P_required, .int P_hinted, .int P_count])), (aP_allBefore, .inl (cI, 8, .inl P_allBefore))] := hD
  have hf := Option.some.inj hf
  cases hf
  exact x_zret (fun _ => 0) hQ hx hb hr hlk bz_2 hK hP hD hS dX2_isBefore_10
abbrev rm_f_Patterns_putBefore : Room := { frames := 2, cells := 0, slots := 0, locals := 43 }
set_option maxHeartbeats 4000000 in
set_option maxRecDepth 100000 in
theorem c_f_Patterns_putBefore (l : Launch) (D : va_G) (cI cJ cZ : ClassId) (sz : Nat) (n : Nat) (aP : Nat) (x1 : Int32) (x2 : Int32) (aP_slots : Nat) (aP_termsSeen : Nat) (aP_matches : Nat) (aP_matchCount : Nat) (aP_variables : Nat) (aP_havingVariable : Nat) (aP_told : Nat) (aP_parent : Nat) (aP_allBefore : Nat) (P_required : Int32) (P_hinted : Int32) (P_count : Int32) (P_allBefore : Nat → Int32) {P_hinted' : Int32} {P_allBefore' : Nat → Int32} (hf : f_Patterns_putBefore n x1 x2 P_hinted P_count P_allBefore = some (P_hinted', P_allBefore')) : Met l yX2_putBefore (.code yX2_putBefore cX2_putBefore 5 none :: GW) rm_f_Patterns_putBefore (va_Pc [.ref aP, .int x1, .int x2] (xP D (xT cI cJ cZ) sz [(aP, .inr (2, [.ref aP_slots, .ref aP_termsSeen, .ref aP_matches, .ref aP_matchCount, .ref aP_variables, .ref aP_havingVariable, .ref aP_told, .ref aP_parent, .ref aP_allBefore, .int P_required, .int P_hinted, .int P_count])), (aP_allBefore, .inl (cI, 8, .inl P_allBefore))])) (va_Qv (fun (_ : Nat → Nat) => True) (bB D (xT cI cJ cZ) (fun _ => [(aP, .inr (2, [.ref aP_slots, .ref aP_termsSeen, .ref aP_matches, .ref aP_matchCount, .ref aP_variables, .ref aP_havingVariable, .ref aP_told, .ref aP_parent, .ref aP_allBefore, .int P_required, .int P_hinted', .int P_count])), (aP_allBefore, .inl (cI, 8, .inl P_allBefore'))]) (va_A [(aP, .inr (2, [.ref aP_slots, .ref aP_termsSeen, .ref aP_matches, .ref aP_matchCount, .ref aP_variables, .ref aP_havingVariable, .ref aP_told, .ref aP_parent, .ref aP_allBefore, .int P_required, .int P_hinted, .int P_count])), (aP_allBefore, .inl (cI, 8, .inl P_allBefore))] sz)) (va_A [(aP, .inr (2, [.ref aP_slots, .ref aP_termsSeen, .ref aP_matches, .ref aP_matchCount, .ref aP_variables, .ref aP_havingVariable, .ref aP_told, .ref aP_parent, .ref aP_allBefore, .int P_required, .int P_hinted, .int P_count])), (aP_allBefore, .inl (cI, 8, .inl P_allBefore))] sz)) 0 0 (va_A [(aP, .inr (2, [.ref aP_slots, .ref aP_termsSeen, .ref aP_matches, .ref aP_matchCount, .ref aP_variables, .ref aP_havingVariable, .ref aP_told, .ref aP_parent, .ref aP_allBefore, .int P_required, .int P_hinted, .int P_count])), (aP_allBefore, .inl (cI, 8, .inl P_allBefore))] sz) := by
  refine con_start (Qc := fun A => va_Qv (fun (_ : Nat → Nat) => True) (bB D (xT cI cJ cZ) (fun _ => [(aP, .inr (2, [.ref aP_slots, .ref aP_termsSeen, .ref aP_matches, .ref aP_matchCount, .ref aP_variables, .ref aP_havingVariable, .ref aP_told, .ref aP_parent, .ref aP_allBefore, .int P_required, .int P_hinted', .int P_count])), (aP_allBefore, .inl (cI, 8, .inl P_allBefore'))]) A) A) (by decide) (Nat.le_of_ble_eq_true rfl) ?_
  intro p e s m args below meth c Q A hx hb hr hlk hml hown hin htg hN hK hQ hA hP hD hS ls hl
  have hl : lv_has ls 5 [(0, .ref aP), (1, .int x1), (2, .int x2)] := hl
  have hown : s.vm.findClass RX2 = some m.cls := hown
  have hf := (f_Patterns_putBefore_u n x1 x2 P_hinted P_count P_allBefore).symm.trans hf
  refine lv_aload_n hx hb dX2_putBefore_0 rfl (lv_at hl 0 rfl) ?_
  refine va_get (D := D) (ci := 2) (v := .ref aP_allBefore) (C := RX2) (T := TX2) (N := 12) hx hb htg giX2 hown hK hP 0 rfl rfl 8 (by decide) (htg _ kw_57) (fun _ h9 => h9) rfl dX2_putBefore_1 ?_
  refine lv_iload_n hx hb dX2_putBefore_4 rfl (lv_at hl 1 rfl) ?_
  have g_1 : vp_in x1 8 := gd_in hf
  have hf := gd_el hf
  refine va_iald hx hb hK hP 1 0 rfl rfl g_1 dX2_putBefore_5 ?_
  refine lv_iconst (v := (1 : Int32)) hx hb dX2_putBefore_6 (by decide) ?_
  refine lv_iload_n hx hb dX2_putBefore_7 rfl (lv_at hl 1 rfl) ?_
  refine lv_ishl hx hb dX2_putBefore_8 ?_
  refine lv_ior hx hb dX2_putBefore_9 ?_
  refine lv_topi (fun x3_2 ex3_2 => ?_)
  have hf := nm_nm ex3_2 hf
  refine lv_istore_n (lv' := [(3, .int x3_2), (0, .ref aP), (1, .int x1), (2, .int x2)]) hx hb dX2_putBefore_10 rfl hl (by decide) rfl (fun ls hl => ?_)
  refine lv_iconst (v := (0 : Int32)) hx hb dX2_putBefore_11 (by decide) ?_
  refine lv_istore (lv' := [(4, .int (0 : Int32)), (3, .int x3_2), (0, .ref aP), (1, .int x1), (2, .int x2)]) hx hb dX2_putBefore_12 hl (by decide) rfl (fun ls hl => ?_)
  have L_14_31 : ∀ (k : Nat) (P_allBefore_32 : Nat → Int32) (x4_33 : Int32) (o_31 : (Nat → Int32)), f_Patterns_putBefore_L0 n x2 P_count x3_2 k P_allBefore_32 x4_33 = some o_31 → ∀ (H : Heap) (locs : List Loc), va_P D vwCl [(aP, .inr (2, [.ref aP_slots, .ref aP_termsSeen, .ref aP_matches, .ref aP_matchCount, .ref aP_variables, .ref aP_havingVariable, .ref aP_told, .ref aP_parent, .ref aP_allBefore, .int P_required, .int P_hinted, .int P_count])), (aP_allBefore, .inl (cI, 8, .inl P_allBefore_32))] H → va_D A [(aP, .inr (2, [.ref aP_slots, .ref aP_termsSeen, .ref aP_matches, .ref aP_matchCount, .ref aP_variables, .ref aP_havingVariable, .ref aP_told, .ref aP_parent, .ref aP_allBefore, .int P_required, .int P_hinted, .int P_count])), (aP_allBefore, .inl (cI, 8, .inl P_allBefore_32))] → va_S A s.heap H locs → ∀ ls : Array Slot, lv_has ls 5 [(0, .ref aP), (1, .int x1), (2, .int x2), (3, .int x3_2), (4, .int x4_33)] → (∀ (P_allBefore_34 : Nat → Int32), some (P_allBefore_34) = some o_31 → ∀ (H : Heap) (locs : List Loc), va_P D vwCl [(aP, .inr (2, [.ref aP_slots, .ref aP_termsSeen, .ref aP_matches, .ref aP_matchCount, .ref aP_variables, .ref aP_havingVariable, .ref aP_told, .ref aP_parent, .ref aP_allBefore, .int P_required, .int P_hinted, .int P_count])), (aP_allBefore, .inl (cI, 8, .inl P_allBefore_34))] H → va_D A [(aP, .inr (2, [.ref aP_slots, .ref aP_termsSeen, .ref aP_matches, .ref aP_matchCount, .ref aP_variables, .ref aP_havingVariable, .ref aP_told, .ref aP_parent, .ref aP_allBefore, .int P_required, .int P_hinted, .int P_count])), (aP_allBefore, .inl (cI, 8, .inl P_allBefore_34))] → va_S A s.heap H locs → ∀ ls : Array Slot, lv_has ls 5 [(0, .ref aP), (1, .int x1), (2, .int x2)] → W p l e rm_f_Patterns_putBefore s m args below meth c H locs 0 0 Q (F0 m 56 ls [])) → W p l e rm_f_Patterns_putBefore s m args below meth c H locs 0 0 Q (F0 m 14 ls []) := by
    intro k
    induction k with
    | zero =>
      intro P_allBefore_32 x4_33 o_31 hf
      exact absurd (((f_Patterns_putBefore_L0_z n x2 P_count x3_2 P_allBefore_32 x4_33).symm.trans hf)) (fun h => by cases h)
    | succ k ih =>
      intro P_allBefore_32 x4_33 o_31 hf H locs hP hD hS ls hl hX_31
      have hf := (f_Patterns_putBefore_L0_s n x2 P_count x3_2 k P_allBefore_32 x4_33).symm.trans hf
      refine lv_iload hx hb dX2_putBefore_14 (lv_at hl 4 rfl) ?_
      refine lv_aload_n hx hb dX2_putBefore_16 rfl (lv_at hl 0 rfl) ?_
      refine va_get (D := D) (ci := 2) (v := .int P_count) (C := RX2) (T := TX2) (N := 12) hx hb htg giX2 hown hK hP 0 rfl rfl 11 (by decide) (htg _ kw_62) (fun _ h9 => h9) rfl dX2_putBefore_17 ?_
      refine lv_icmp_ge (tgt := 56) hx hb dX2_putBefore_20 (by decide) (fun c_35 => ?_) (fun c_35 => ?_)
      · have hf := xb_t c_35 hf
        exact hX_31 P_allBefore_32 hf _ _ hP hD hS _ (lv_sub hl [0, 1, 2] rfl)
      · have hf := xb_f c_35 hf
        refine lv_iload hx hb dX2_putBefore_23 (lv_at hl 4 rfl) ?_
        refine lv_iload_n hx hb dX2_putBefore_25 rfl (lv_at hl 2 rfl) ?_
        refine lv_icmp_eq (tgt := 39) hx hb dX2_putBefore_26 (by decide) (fun c_36 => ?_) (fun c_36 => ?_)
        · have hf := xb_t c_36 hf
          refine lv_aload_n hx hb dX2_putBefore_39 rfl (lv_at hl 0 rfl) ?_
          refine va_get (D := D) (ci := 2) (v := .ref aP_allBefore) (C := RX2) (T := TX2) (N := 12) hx hb htg giX2 hown hK hP 0 rfl rfl 8 (by decide) (htg _ kw_57) (fun _ h9 => h9) rfl dX2_putBefore_40 ?_
          refine lv_iload hx hb dX2_putBefore_43 (lv_at hl 4 rfl) ?_
          refine lv_dup2_11 hx hb dX2_putBefore_45 rfl rfl ?_
          have g_37 : vp_in x4_33 8 := gd_in hf
          have hf := gd_el hf
          refine va_iald hx hb hK hP 1 0 rfl rfl g_37 dX2_putBefore_46 ?_
          refine lv_iload_n hx hb dX2_putBefore_47 rfl (lv_at hl 3 rfl) ?_
          refine lv_ior hx hb dX2_putBefore_48 ?_
          refine lv_topi (fun v_38 ev_38 => ?_)
          have hf := nm_nm ev_38 hf
          refine x_iast hx hb hK hP hD hS 1 0 rfl rfl g_37 dX2_putBefore_49 (fun P_allBefore_39 eP_allBefore_39 H locs hP hD hS => ?_)
          have hf := nm_nm eP_allBefore_39 hf
          have hP : va_P D vwCl [(aP, .inr (2, [.ref aP_slots, .ref aP_termsSeen, .ref aP_matches, .ref aP_matchCount, .ref aP_variables, .ref aP_havingVariable, .ref aP_told, .ref aP_parent, .ref aP_allBefore, .int P_required, .int P_hinted, .int P_count])), (aP_allBefore, .inl (cI, 8, .inl P_allBefore_39))] H := hP
          have hD : va_D A [(aP, .inr (2, [.ref aP_slots, .ref aP_termsSeen, .ref aP_matches, .ref aP_matchCount, .ref aP_variables, .ref aP_havingVariable, .ref aP_told, .ref aP_parent, .ref aP_allBefore, .int P_required, .int P_hinted, .int P_count])), (aP_allBefore, .inl (cI, 8, .inl P_allBefore_39))] := hD
          obtain ⟨x4_40, ex4_40⟩ : ∃ y : Int32, y = x4_33 + (1 : Int32) := ⟨_, rfl⟩
          have hf := nm_nm ex4_40 hf
          refine lv_iinc (v := x4_40) (lv' := [(4, .int x4_40), (0, .ref aP), (1, .int x1), (2, .int x2), (3, .int x3_2)]) hx hb dX2_putBefore_50 hl (k := 4) rfl (by rw [ex4_40]; rfl) (by decide) rfl (fun ls hl => ?_)
          refine lv_goto (tgt := 14) hx hb dX2_putBefore_53 (by decide) ?_
          exact ih P_allBefore_39 x4_40 o_31 hf _ _ hP hD hS _ (lv_sub hl [1, 2, 3, 4, 0] rfl) hX_31
        · have hf := xb_f c_36 hf
          refine lv_aload_n hx hb dX2_putBefore_29 rfl (lv_at hl 0 rfl) ?_
          refine lv_iload_n hx hb dX2_putBefore_30 rfl (lv_at hl 2 rfl) ?_
          refine lv_iload hx hb dX2_putBefore_31 (lv_at hl 4 rfl) ?_
          obtain ⟨r_42, hq_41, hf⟩ := bn1_c hf
          refine x_z (xrV (As := [.int x2, .int x4_33]) (b := aP) (rest := []) ⟨hx, hb, hml, hown, htg⟩ (c_f_Patterns_isBefore l D cI cJ cZ _ aP x2 x4_33 aP_slots aP_termsSeen aP_matches aP_matchCount aP_variables aP_havingVariable aP_told aP_parent aP_allBefore P_required P_hinted P_count P_allBefore_32 hq_41) kc_f_Patterns_isBefore kw_345 kw_338 kw_339 kw_3 dd_f_Patterns_isBefore ⟨Nat.le_of_ble_eq_true rfl, Nat.le_of_ble_eq_true rfl⟩ rfl rfl hP hD hK hN hP (q0 := 0) rfl rfl rfl hl.1 rfl (Nat.le_of_ble_eq_true rfl) dX2_putBefore_33 ⟨Nat.le_of_ble_eq_true rfl, Nat.le_of_ble_eq_true rfl⟩) hP hD hS hA [0, 1] [] rfl rfl (by decide) (by decide) (fun _ H locs bz_41 hP hD hS => ?_)
          have hP : va_P D vwCl [(aP, .inr (2, [.ref aP_slots, .ref aP_termsSeen, .ref aP_matches, .ref aP_matchCount, .ref aP_variables, .ref aP_havingVariable, .ref aP_told, .ref aP_parent, .ref aP_allBefore, .int P_required, .int P_hinted, .int P_count])), (aP_allBefore, .inl (cI, 8, .inl P_allBefore_32))] H := hP
          have hD : va_D A [(aP, .inr (2, [.ref aP_slots, .ref aP_termsSeen, .ref aP_matches, .ref aP_matchCount, .ref aP_variables, .ref aP_havingVariable, .ref aP_told, .ref aP_parent, .ref aP_allBefore, .int P_required, .int P_hinted, .int P_count])), (aP_allBefore, .inl (cI, 8, .inl P_allBefore_32))] := hD
          refine lv_if_eq (tgt := 50) hx hb dX2_putBefore_36 (by decide) (fun c_43 => ?_) (fun c_43 => ?_)
          · have hf := xb_t c_43 hf
            obtain ⟨x4_44, ex4_44⟩ : ∃ y : Int32, y = x4_33 + (1 : Int32) := ⟨_, rfl⟩
            have hf := nm_nm ex4_44 hf
            refine lv_iinc (v := x4_44) (lv' := [(4, .int x4_44), (0, .ref aP), (1, .int x1), (2, .int x2), (3, .int x3_2)]) hx hb dX2_putBefore_50 hl (k := 4) rfl (by rw [ex4_44]; rfl) (by decide) rfl (fun ls hl => ?_)
            refine lv_goto (tgt := 14) hx hb dX2_putBefore_53 (by decide) ?_
            exact ih P_allBefore_32 x4_44 o_31 hf _ _ hP hD hS _ (lv_sub hl [1, 2, 3, 4, 0] rfl) hX_31
          · have hf := xb_f c_43 hf
            refine lv_aload_n hx hb dX2_putBefore_39 rfl (lv_at hl 0 rfl) ?_
            refine va_get (D := D) (ci := 2) (v := .ref aP_allBefore) (C := RX2) (T := TX2) (N := 12) hx hb htg giX2 hown hK hP 0 rfl rfl 8 (by decide) (htg _ kw_57) (fun _ h9 => h9) rfl dX2_putBefore_40 ?_
            refine lv_iload hx hb dX2_putBefore_43 (lv_at hl 4 rfl) ?_
            refine lv_dup2_11 hx hb dX2_putBefore_45 rfl rfl ?_
            have g_45 : vp_in x4_33 8 := gd_in hf
            have hf := gd_el hf
            refine va_iald hx hb hK hP 1 0 rfl rfl g_45 dX2_putBefore_46 ?_
            refine lv_iload_n hx hb dX2_putBefore_47 rfl (lv_at hl 3 rfl) ?_
            refine lv_ior hx hb dX2_putBefore_48 ?_
            refine lv_topi (fun v_46 ev_46 => ?_)
            have hf := nm_nm ev_46 hf
            refine x_iast hx hb hK hP hD hS 1 0 rfl rfl g_45 dX2_putBefore_49 (fun P_allBefore_47 eP_allBefore_47 H locs hP hD hS => ?_)
            have hf := nm_nm eP_allBefore_47 hf
            have hP : va_P D vwCl [(aP, .inr (2, [.ref aP_slots, .ref aP_termsSeen, .ref aP_matches, .ref aP_matchCount, .ref aP_variables, .ref aP_havingVariable, .ref aP_told, .ref aP_parent, .ref aP_allBefore, .int P_required, .int P_hinted, .int P_count])), (aP_allBefore, .inl (cI, 8, .inl P_allBefore_47))] H := hP
            have hD : va_D A [(aP, .inr (2, [.ref aP_slots, .ref aP_termsSeen, .ref aP_matches, .ref aP_matchCount, .ref aP_variables, .ref aP_havingVariable, .ref aP_told, .ref aP_parent, .ref aP_allBefore, .int P_required, .int P_hinted, .int P_count])), (aP_allBefore, .inl (cI, 8, .inl P_allBefore_47))] := hD
            obtain ⟨x4_48, ex4_48⟩ : ∃ y : Int32, y = x4_33 + (1 : Int32) := ⟨_, rfl⟩
            have hf := nm_nm ex4_48 hf
            refine lv_iinc (v := x4_48) (lv' := [(4, .int x4_48), (0, .ref aP), (1, .int x1), (2, .int x2), (3, .int x3_2)]) hx hb dX2_putBefore_50 hl (k := 4) rfl (by rw [ex4_48]; rfl) (by decide) rfl (fun ls hl => ?_)
            refine lv_goto (tgt := 14) hx hb dX2_putBefore_53 (by decide) ?_
            exact ih P_allBefore_47 x4_48 o_31 hf _ _ hP hD hS _ (lv_sub hl [1, 2, 3, 4, 0] rfl) hX_31
  obtain ⟨o_31, ho_31, hk_31⟩ := bn1_s hf
  refine L_14_31 n P_allBefore (0 : Int32) o_31 ho_31 _ _ hP hD hS _ (lv_sub hl [2, 3, 4, 1, 0] rfl) (fun P_allBefore_34 hf H locs hP hD hS ls hl => ?_)
  have hf := hk_31 _ hf
  refine lv_aload_n hx hb dX2_putBefore_56 rfl (lv_at hl 0 rfl) ?_
  refine lv_dup hx hb dX2_putBefore_57 rfl ?_
  refine va_get (D := D) (ci := 2) (v := .int P_hinted) (C := RX2) (T := TX2) (N := 12) hx hb htg giX2 hown hK hP 0 rfl rfl 10 (by decide) (htg _ kw_61) (fun _ h9 => h9) rfl dX2_putBefore_58 ?_
  refine lv_iconst (v := (1 : Int32)) hx hb dX2_putBefore_61 (by decide) ?_
  refine lv_iload_n hx hb dX2_putBefore_62 rfl (lv_at hl 1 rfl) ?_
  refine lv_ishl hx hb dX2_putBefore_63 ?_
  refine lv_iconst (v := (1 : Int32)) hx hb dX2_putBefore_64 (by decide) ?_
  refine lv_iload_n hx hb dX2_putBefore_65 rfl (lv_at hl 2 rfl) ?_
  refine lv_ishl hx hb dX2_putBefore_66 ?_
  refine lv_ior hx hb dX2_putBefore_67 ?_
  refine lv_ior hx hb dX2_putBefore_68 ?_
  refine lv_topi (fun v_49 ev_49 => ?_)
  have hf := nm_nm ev_49 hf
  refine va_put (D := D) (ci := 2) (v := .int v_49) (ty := .int) (C := RX2) (T := TX2) (N := 12) hx hb htg giX2 tyX2 tyX2_ok nmX2 hown hK hP hD hS 0 rfl rfl 10 (by decide) (htg _ kw_61) (fun _ h9 => h9) rfl (by decide +kernel) rfl rfl (Nat.le_of_ble_eq_true rfl) dX2_putBefore_69 (fun H locs hP hD hS => ?_)
  have hP : va_P D vwCl [(aP, .inr (2, [.ref aP_slots, .ref aP_termsSeen, .ref aP_matches, .ref aP_matchCount, .ref aP_variables, .ref aP_havingVariable, .ref aP_told, .ref aP_parent, .ref aP_allBefore, .int P_required, .int v_49, .int P_count])), (aP_allBefore, .inl (cI, 8, .inl P_allBefore_34))] H := hP
  have hD : va_D A [(aP, .inr (2, [.ref aP_slots, .ref aP_termsSeen, .ref aP_matches, .ref aP_matchCount, .ref aP_variables, .ref aP_havingVariable, .ref aP_told, .ref aP_parent, .ref aP_allBefore, .int P_required, .int v_49, .int P_count])), (aP_allBefore, .inl (cI, 8, .inl P_allBefore_34))] := hD
  have hf := Option.some.inj hf
  cases hf
  exact x_vret (fun _ => 0) hQ hx hb hr hlk hK hP hD hS dX2_putBefore_72
abbrev rm_f_JoinOrder_hint : Room := { frames := 3, cells := 0, slots := 0, locals := 67 }
set_option maxHeartbeats 4000000 in
set_option maxRecDepth 100000 in
theorem c_f_JoinOrder_hint (l : Launch) (D : va_G) (cI cJ cZ : ClassId) (sz : Nat) (n : Nat) (aJ : Nat) (x1 : Int32) (x2 : Int32) (aT : Nat) (aP : Nat) (aF : Nat) (aQ : Nat) (aM : Nat) (aB : Nat) (J_hasRun : Int32) (aJ_plainOrder : Nat) (aC : Nat) (aP_slots : Nat) (aP_termsSeen : Nat) (aP_matches : Nat) (aP_matchCount : Nat) (aP_variables : Nat) (aP_havingVariable : Nat) (aP_told : Nat) (aP_parent : Nat) (aP_allBefore : Nat) (P_required : Int32) (P_hinted : Int32) (P_count : Int32) (P_allBefore : Nat → Int32) {r : Int32} {P_hinted' : Int32} {P_allBefore' : Nat → Int32} (hf : f_JoinOrder_hint n x1 x2 P_required P_hinted P_count P_allBefore = some (r, P_hinted', P_allBefore')) : Met l yX0_hint (.code yX0_hint cX0_hint 3 (some .int) :: GW) rm_f_JoinOrder_hint (va_Pc [.ref aJ, .int x1, .int x2] (xP D (xT cI cJ cZ) sz [(aJ, .inr (0, [.ref aT, .ref aP, .ref aF, .ref aQ, .ref aM, .ref aB, .int J_hasRun, .ref aJ_plainOrder, .ref aC])), (aP, .inr (2, [.ref aP_slots, .ref aP_termsSeen, .ref aP_matches, .ref aP_matchCount, .ref aP_variables, .ref aP_havingVariable, .ref aP_told, .ref aP_parent, .ref aP_allBefore, .int P_required, .int P_hinted, .int P_count])), (aP_allBefore, .inl (cI, 8, .inl P_allBefore))])) (va_Qi (fun r2 (_ : Nat → Nat) => r2 = r) (bB D (xT cI cJ cZ) (fun _ => [(aJ, .inr (0, [.ref aT, .ref aP, .ref aF, .ref aQ, .ref aM, .ref aB, .int J_hasRun, .ref aJ_plainOrder, .ref aC])), (aP, .inr (2, [.ref aP_slots, .ref aP_termsSeen, .ref aP_matches, .ref aP_matchCount, .ref aP_variables, .ref aP_havingVariable, .ref aP_told, .ref aP_parent, .ref aP_allBefore, .int P_required, .int P_hinted', .int P_count])), (aP_allBefore, .inl (cI, 8, .inl P_allBefore'))]) (va_A [(aJ, .inr (0, [.ref aT, .ref aP, .ref aF, .ref aQ, .ref aM, .ref aB, .int J_hasRun, .ref aJ_plainOrder, .ref aC])), (aP, .inr (2, [.ref aP_slots, .ref aP_termsSeen, .ref aP_matches, .ref aP_matchCount, .ref aP_variables, .ref aP_havingVariable, .ref aP_told, .ref aP_parent, .ref aP_allBefore, .int P_required, .int P_hinted, .int P_count])), (aP_allBefore, .inl (cI, 8, .inl P_allBefore))] sz)) (va_A [(aJ, .inr (0, [.ref aT, .ref aP, .ref aF, .ref aQ, .ref aM, .ref aB, .int J_hasRun, .ref aJ_plainOrder, .ref aC])), (aP, .inr (2, [.ref aP_slots, .ref aP_termsSeen, .ref aP_matches, .ref aP_matchCount, .ref aP_variables, .ref aP_havingVariable, .ref aP_told, .ref aP_parent, .ref aP_allBefore, .int P_required, .int P_hinted, .int P_count])), (aP_allBefore, .inl (cI, 8, .inl P_allBefore))] sz)) 0 0 (va_A [(aJ, .inr (0, [.ref aT, .ref aP, .ref aF, .ref aQ, .ref aM, .ref aB, .int J_hasRun, .ref aJ_plainOrder, .ref aC])), (aP, .inr (2, [.ref aP_slots, .ref aP_termsSeen, .ref aP_matches, .ref aP_matchCount, .ref aP_variables, .ref aP_havingVariable, .ref aP_told, .ref aP_parent, .ref aP_allBefore, .int P_required, .int P_hinted, .int P_count])), (aP_allBefore, .inl (cI, 8, .inl P_allBefore))] sz) := by
  refine con_start (Qc := fun A => va_Qi (fun r2 (_ : Nat → Nat) => r2 = r) (bB D (xT cI cJ cZ) (fun _ => [(aJ, .inr (0, [.ref aT, .ref aP, .ref aF, .ref aQ, .ref aM, .ref aB, .int J_hasRun, .ref aJ_plainOrder, .ref aC])), (aP, .inr (2, [.ref aP_slots, .ref aP_termsSeen, .ref aP_matches, .ref aP_matchCount, .ref aP_variables, .ref aP_havingVariable, .ref aP_told, .ref aP_parent, .ref aP_allBefore, .int P_required, .int P_hinted', .int P_count])), (aP_allBefore, .inl (cI, 8, .inl P_allBefore'))]) A) A) (by decide) (Nat.le_of_ble_eq_true rfl) ?_
  intro p e s m args below meth c Q A hx hb hr hlk hml hown hin htg hN hK hQ hA hP hD hS ls hl
  have hl : lv_has ls 3 [(0, .ref aJ), (1, .int x1), (2, .int x2)] := hl
  have hown : s.vm.findClass RX0 = some m.cls := hown
  have hf := (f_JoinOrder_hint_u n x1 x2 P_required P_hinted P_count P_allBefore).symm.trans hf
  refine lv_aload_n hx hb dX0_hint_0 rfl (lv_at hl 0 rfl) ?_
  refine va_get (D := D) (ci := 0) (v := .ref aP) (C := RX0) (T := TX0) (N := 9) hx hb htg giX0 hown hK hP 0 rfl rfl 1 (by decide) (htg _ kw_201) (fun _ h9 => h9) rfl dX0_hint_1 ?_
  refine lv_iload_n hx hb dX0_hint_4 rfl (lv_at hl 1 rfl) ?_
  refine x_z (xrV (As := [.int x1]) (b := aP) (rest := []) ⟨hx, hb, hml, hown, htg⟩ (c_f_Patterns_has l D cI cJ cZ _ aP x1 aP_slots aP_termsSeen aP_matches aP_matchCount aP_variables aP_havingVariable aP_told aP_parent aP_allBefore P_required P_hinted P_count rfl) kc_f_Patterns_has kw_297 kw_298 kw_299 kw_3 dd_f_Patterns_has ⟨Nat.le_of_ble_eq_true rfl, Nat.le_of_ble_eq_true rfl⟩ rfl rfl (hP.sub [1] rfl) (hD.sub [1] (by decide) rfl) hK hN hP (q0 := 1) rfl rfl rfl hl.1 rfl (Nat.le_of_ble_eq_true rfl) dX0_hint_5 ⟨Nat.le_of_ble_eq_true rfl, Nat.le_of_ble_eq_true rfl⟩) hP hD hS hA [1] [0, 2] rfl rfl (by decide) (by decide) (fun _ H locs bz_1 hP hD hS => ?_)
  have hP : va_P D vwCl [(aJ, .inr (0, [.ref aT, .ref aP, .ref aF, .ref aQ, .ref aM, .ref aB, .int J_hasRun, .ref aJ_plainOrder, .ref aC])), (aP_allBefore, .inl (cI, 8, .inl P_allBefore)), (aP, .inr (2, [.ref aP_slots, .ref aP_termsSeen, .ref aP_matches, .ref aP_matchCount, .ref aP_variables, .ref aP_havingVariable, .ref aP_told, .ref aP_parent, .ref aP_allBefore, .int P_required, .int P_hinted, .int P_count]))] H := hP
  have hD : va_D A [(aJ, .inr (0, [.ref aT, .ref aP, .ref aF, .ref aQ, .ref aM, .ref aB, .int J_hasRun, .ref aJ_plainOrder, .ref aC])), (aP_allBefore, .inl (cI, 8, .inl P_allBefore)), (aP, .inr (2, [.ref aP_slots, .ref aP_termsSeen, .ref aP_matches, .ref aP_matchCount, .ref aP_variables, .ref aP_havingVariable, .ref aP_told, .ref aP_parent, .ref aP_allBefore, .int P_required, .int P_hinted, .int P_count]))] := hD
  refine lv_if_eq (tgt := 22) hx hb dX0_hint_8 (by decide) (fun c_2 => ?_) (fun c_2 => ?_)
  · have hf := xb_t c_2 hf
    refine lv_iconst (v := (-1 : Int32)) hx hb dX0_hint_22 (by decide) ?_
    have hf := Option.some.inj hf
    cases hf
    exact x_iret (fun _ => 0) hQ hx hb hr hlk hK (hP.sub [0, 2, 1] rfl) (hD.sub [0, 2, 1] (by decide) rfl) hS dX0_hint_23
  · have hf := xb_f c_2 hf
    refine lv_aload_n hx hb dX0_hint_11 rfl (lv_at hl 0 rfl) ?_
    refine va_get (D := D) (ci := 0) (v := .ref aP) (C := RX0) (T := TX0) (N := 9) hx hb htg giX0 hown hK hP 0 rfl rfl 1 (by decide) (htg _ kw_201) (fun _ h9 => h9) rfl dX0_hint_12 ?_
    refine lv_iload_n hx hb dX0_hint_15 rfl (lv_at hl 2 rfl) ?_
    refine x_z (xrV (As := [.int x2]) (b := aP) (rest := []) ⟨hx, hb, hml, hown, htg⟩ (c_f_Patterns_has l D cI cJ cZ _ aP x2 aP_slots aP_termsSeen aP_matches aP_matchCount aP_variables aP_havingVariable aP_told aP_parent aP_allBefore P_required P_hinted P_count rfl) kc_f_Patterns_has kw_297 kw_298 kw_299 kw_3 dd_f_Patterns_has ⟨Nat.le_of_ble_eq_true rfl, Nat.le_of_ble_eq_true rfl⟩ rfl rfl (hP.sub [2] rfl) (hD.sub [2] (by decide) rfl) hK hN hP (q0 := 2) rfl rfl rfl hl.1 rfl (Nat.le_of_ble_eq_true rfl) dX0_hint_16 ⟨Nat.le_of_ble_eq_true rfl, Nat.le_of_ble_eq_true rfl⟩) hP hD hS hA [2] [0, 1] rfl rfl (by decide) (by decide) (fun _ H locs bz_3 hP hD hS => ?_)
    have hP : va_P D vwCl [(aJ, .inr (0, [.ref aT, .ref aP, .ref aF, .ref aQ, .ref aM, .ref aB, .int J_hasRun, .ref aJ_plainOrder, .ref aC])), (aP_allBefore, .inl (cI, 8, .inl P_allBefore)), (aP, .inr (2, [.ref aP_slots, .ref aP_termsSeen, .ref aP_matches, .ref aP_matchCount, .ref aP_variables, .ref aP_havingVariable, .ref aP_told, .ref aP_parent, .ref aP_allBefore, .int P_required, .int P_hinted, .int P_count]))] H := hP
    have hD : va_D A [(aJ, .inr (0, [.ref aT, .ref aP, .ref aF, .ref aQ, .ref aM, .ref aB, .int J_hasRun, .ref aJ_plainOrder, .ref aC])), (aP_allBefore, .inl (cI, 8, .inl P_allBefore)), (aP, .inr (2, [.ref aP_slots, .ref aP_termsSeen, .ref aP_matches, .ref aP_matchCount, .ref aP_variables, .ref aP_havingVariable, .ref aP_told, .ref aP_parent, .ref aP_allBefore, .int P_required, .int P_hinted, .int P_count]))] := hD
    refine lv_if_ne (tgt := 24) hx hb dX0_hint_19 (by decide) (fun c_4 => ?_) (fun c_4 => ?_)
    · have hf := xb_f c_4 hf
      refine lv_aload_n hx hb dX0_hint_24 rfl (lv_at hl 0 rfl) ?_
      refine va_get (D := D) (ci := 0) (v := .ref aP) (C := RX0) (T := TX0) (N := 9) hx hb htg giX0 hown hK hP 0 rfl rfl 1 (by decide) (htg _ kw_201) (fun _ h9 => h9) rfl dX0_hint_25 ?_
      refine lv_iload_n hx hb dX0_hint_28 rfl (lv_at hl 1 rfl) ?_
      refine x_z (xrV (As := [.int x1]) (b := aP) (rest := []) ⟨hx, hb, hml, hown, htg⟩ (c_f_Patterns_isRequired l D cI cJ cZ _ aP x1 aP_slots aP_termsSeen aP_matches aP_matchCount aP_variables aP_havingVariable aP_told aP_parent aP_allBefore P_required P_hinted P_count rfl) kc_f_Patterns_isRequired kw_301 kw_302 kw_303 kw_3 dd_f_Patterns_isRequired ⟨Nat.le_of_ble_eq_true rfl, Nat.le_of_ble_eq_true rfl⟩ rfl rfl (hP.sub [2] rfl) (hD.sub [2] (by decide) rfl) hK hN hP (q0 := 2) rfl rfl rfl hl.1 rfl (Nat.le_of_ble_eq_true rfl) dX0_hint_29 ⟨Nat.le_of_ble_eq_true rfl, Nat.le_of_ble_eq_true rfl⟩) hP hD hS hA [2] [0, 1] rfl rfl (by decide) (by decide) (fun _ H locs bz_5 hP hD hS => ?_)
      have hP : va_P D vwCl [(aJ, .inr (0, [.ref aT, .ref aP, .ref aF, .ref aQ, .ref aM, .ref aB, .int J_hasRun, .ref aJ_plainOrder, .ref aC])), (aP_allBefore, .inl (cI, 8, .inl P_allBefore)), (aP, .inr (2, [.ref aP_slots, .ref aP_termsSeen, .ref aP_matches, .ref aP_matchCount, .ref aP_variables, .ref aP_havingVariable, .ref aP_told, .ref aP_parent, .ref aP_allBefore, .int P_required, .int P_hinted, .int P_count]))] H := hP
      have hD : va_D A [(aJ, .inr (0, [.ref aT, .ref aP, .ref aF, .ref aQ, .ref aM, .ref aB, .int J_hasRun, .ref aJ_plainOrder, .ref aC])), (aP_allBefore, .inl (cI, 8, .inl P_allBefore)), (aP, .inr (2, [.ref aP_slots, .ref aP_termsSeen, .ref aP_matches, .ref aP_matchCount, .ref aP_variables, .ref aP_havingVariable, .ref aP_told, .ref aP_parent, .ref aP_allBefore, .int P_required, .int P_hinted, .int P_count]))] := hD
      refine lv_if_eq (tgt := 46) hx hb dX0_hint_32 (by decide) (fun c_6 => ?_) (fun c_6 => ?_)
      · have hf := xb_t c_6 hf
        refine lv_bipush (v := (-3 : Int32)) hx hb dX0_hint_46 (by decide) ?_
        have hf := Option.some.inj hf
        cases hf
        exact x_iret (fun _ => 0) hQ hx hb hr hlk hK (hP.sub [0, 2, 1] rfl) (hD.sub [0, 2, 1] (by decide) rfl) hS dX0_hint_48
      · have hf := xb_f c_6 hf
        refine lv_aload_n hx hb dX0_hint_35 rfl (lv_at hl 0 rfl) ?_
        refine va_get (D := D) (ci := 0) (v := .ref aP) (C := RX0) (T := TX0) (N := 9) hx hb htg giX0 hown hK hP 0 rfl rfl 1 (by decide) (htg _ kw_201) (fun _ h9 => h9) rfl dX0_hint_36 ?_
        refine lv_iload_n hx hb dX0_hint_39 rfl (lv_at hl 2 rfl) ?_
        refine x_z (xrV (As := [.int x2]) (b := aP) (rest := []) ⟨hx, hb, hml, hown, htg⟩ (c_f_Patterns_isRequired l D cI cJ cZ _ aP x2 aP_slots aP_termsSeen aP_matches aP_matchCount aP_variables aP_havingVariable aP_told aP_parent aP_allBefore P_required P_hinted P_count rfl) kc_f_Patterns_isRequired kw_301 kw_302 kw_303 kw_3 dd_f_Patterns_isRequired ⟨Nat.le_of_ble_eq_true rfl, Nat.le_of_ble_eq_true rfl⟩ rfl rfl (hP.sub [2] rfl) (hD.sub [2] (by decide) rfl) hK hN hP (q0 := 2) rfl rfl rfl hl.1 rfl (Nat.le_of_ble_eq_true rfl) dX0_hint_40 ⟨Nat.le_of_ble_eq_true rfl, Nat.le_of_ble_eq_true rfl⟩) hP hD hS hA [2] [0, 1] rfl rfl (by decide) (by decide) (fun _ H locs bz_7 hP hD hS => ?_)
        have hP : va_P D vwCl [(aJ, .inr (0, [.ref aT, .ref aP, .ref aF, .ref aQ, .ref aM, .ref aB, .int J_hasRun, .ref aJ_plainOrder, .ref aC])), (aP_allBefore, .inl (cI, 8, .inl P_allBefore)), (aP, .inr (2, [.ref aP_slots, .ref aP_termsSeen, .ref aP_matches, .ref aP_matchCount, .ref aP_variables, .ref aP_havingVariable, .ref aP_told, .ref aP_parent, .ref aP_allBefore, .int P_required, .int P_hinted, .int P_count]))] H := hP
        have hD : va_D A [(aJ, .inr (0, [.ref aT, .ref aP, .ref aF, .ref aQ, .ref aM, .ref aB, .int J_hasRun, .ref aJ_plainOrder, .ref aC])), (aP_allBefore, .inl (cI, 8, .inl P_allBefore)), (aP, .inr (2, [.ref aP_slots, .ref aP_termsSeen, .ref aP_matches, .ref aP_matchCount, .ref aP_variables, .ref aP_havingVariable, .ref aP_told, .ref aP_parent, .ref aP_allBefore, .int P_required, .int P_hinted, .int P_count]))] := hD
        refine lv_if_ne (tgt := 49) hx hb dX0_hint_43 (by decide) (fun c_8 => ?_) (fun c_8 => ?_)
        · have hf := xb_f c_8 hf
          refine lv_iload_n hx hb dX0_hint_49 rfl (lv_at hl 1 rfl) ?_
          refine lv_iload_n hx hb dX0_hint_50 rfl (lv_at hl 2 rfl) ?_
          refine lv_icmp_eq (tgt := 66) hx hb dX0_hint_51 (by decide) (fun c_9 => ?_) (fun c_9 => ?_)
          · have hf := xb_t c_9 hf
            refine lv_bipush (v := (-3 : Int32)) hx hb dX0_hint_66 (by decide) ?_
            have hf := Option.some.inj hf
            cases hf
            exact x_iret (fun _ => 0) hQ hx hb hr hlk hK (hP.sub [0, 2, 1] rfl) (hD.sub [0, 2, 1] (by decide) rfl) hS dX0_hint_68
          · have hf := xb_f c_9 hf
            refine lv_aload_n hx hb dX0_hint_54 rfl (lv_at hl 0 rfl) ?_
            refine va_get (D := D) (ci := 0) (v := .ref aP) (C := RX0) (T := TX0) (N := 9) hx hb htg giX0 hown hK hP 0 rfl rfl 1 (by decide) (htg _ kw_201) (fun _ h9 => h9) rfl dX0_hint_55 ?_
            refine lv_iload_n hx hb dX0_hint_58 rfl (lv_at hl 2 rfl) ?_
            refine lv_iload_n hx hb dX0_hint_59 rfl (lv_at hl 1 rfl) ?_
            obtain ⟨r_11, hq_10, hf⟩ := bn1_c hf
            refine x_z (xrV (As := [.int x2, .int x1]) (b := aP) (rest := []) ⟨hx, hb, hml, hown, htg⟩ (c_f_Patterns_isBefore l D cI cJ cZ _ aP x2 x1 aP_slots aP_termsSeen aP_matches aP_matchCount aP_variables aP_havingVariable aP_told aP_parent aP_allBefore P_required P_hinted P_count P_allBefore hq_10) kc_f_Patterns_isBefore kw_337 kw_338 kw_339 kw_3 dd_f_Patterns_isBefore ⟨Nat.le_of_ble_eq_true rfl, Nat.le_of_ble_eq_true rfl⟩ rfl rfl (hP.sub [2, 1] rfl) (hD.sub [2, 1] (by decide) rfl) hK hN hP (q0 := 2) rfl rfl rfl hl.1 rfl (Nat.le_of_ble_eq_true rfl) dX0_hint_60 ⟨Nat.le_of_ble_eq_true rfl, Nat.le_of_ble_eq_true rfl⟩) hP hD hS hA [2, 1] [0] rfl rfl (by decide) (by decide) (fun _ H locs bz_10 hP hD hS => ?_)
            have hP : va_P D vwCl [(aJ, .inr (0, [.ref aT, .ref aP, .ref aF, .ref aQ, .ref aM, .ref aB, .int J_hasRun, .ref aJ_plainOrder, .ref aC])), (aP, .inr (2, [.ref aP_slots, .ref aP_termsSeen, .ref aP_matches, .ref aP_matchCount, .ref aP_variables, .ref aP_havingVariable, .ref aP_told, .ref aP_parent, .ref aP_allBefore, .int P_required, .int P_hinted, .int P_count])), (aP_allBefore, .inl (cI, 8, .inl P_allBefore))] H := hP
            have hD : va_D A [(aJ, .inr (0, [.ref aT, .ref aP, .ref aF, .ref aQ, .ref aM, .ref aB, .int J_hasRun, .ref aJ_plainOrder, .ref aC])), (aP, .inr (2, [.ref aP_slots, .ref aP_termsSeen, .ref aP_matches, .ref aP_matchCount, .ref aP_variables, .ref aP_havingVariable, .ref aP_told, .ref aP_parent, .ref aP_allBefore, .int P_required, .int P_hinted, .int P_count])), (aP_allBefore, .inl (cI, 8, .inl P_allBefore))] := hD
            refine lv_if_eq (tgt := 69) hx hb dX0_hint_63 (by decide) (fun c_12 => ?_) (fun c_12 => ?_)
            · have hf := xb_t c_12 hf
              refine lv_aload_n hx hb dX0_hint_69 rfl (lv_at hl 0 rfl) ?_
              refine va_get (D := D) (ci := 0) (v := .ref aP) (C := RX0) (T := TX0) (N := 9) hx hb htg giX0 hown hK hP 0 rfl rfl 1 (by decide) (htg _ kw_201) (fun _ h9 => h9) rfl dX0_hint_70 ?_
              refine lv_iload_n hx hb dX0_hint_73 rfl (lv_at hl 1 rfl) ?_
              refine lv_iload_n hx hb dX0_hint_74 rfl (lv_at hl 2 rfl) ?_
              obtain ⟨P_hinted_14, P_allBefore_15, hq_13, hf⟩ := bn2_c hf
              refine x_v (xrV (As := [.int x1, .int x2]) (b := aP) (rest := []) ⟨hx, hb, hml, hown, htg⟩ (c_f_Patterns_putBefore l D cI cJ cZ _ n aP x1 x2 aP_slots aP_termsSeen aP_matches aP_matchCount aP_variables aP_havingVariable aP_told aP_parent aP_allBefore P_required P_hinted P_count P_allBefore hq_13) kc_f_Patterns_putBefore kw_341 kw_342 kw_343 kw_3 dd_f_Patterns_putBefore ⟨Nat.le_of_ble_eq_true rfl, Nat.le_of_ble_eq_true rfl⟩ rfl rfl (hP.sub [1, 2] rfl) (hD.sub [1, 2] (by decide) rfl) hK hN hP (q0 := 1) rfl rfl rfl hl.1 rfl (Nat.le_of_ble_eq_true rfl) dX0_hint_75 ⟨Nat.le_of_ble_eq_true rfl, Nat.le_of_ble_eq_true rfl⟩) hP hD hS hA [1, 2] [0] rfl rfl (by decide) (by decide) (fun _ H locs hP hD hS => ?_)
              have hP : va_P D vwCl [(aJ, .inr (0, [.ref aT, .ref aP, .ref aF, .ref aQ, .ref aM, .ref aB, .int J_hasRun, .ref aJ_plainOrder, .ref aC])), (aP, .inr (2, [.ref aP_slots, .ref aP_termsSeen, .ref aP_matches, .ref aP_matchCount, .ref aP_variables, .ref aP_havingVariable, .ref aP_told, .ref aP_parent, .ref aP_allBefore, .int P_required, .int P_hinted_14, .int P_count])), (aP_allBefore, .inl (cI, 8, .inl P_allBefore_15))] H := hP
              have hD : va_D A [(aJ, .inr (0, [.ref aT, .ref aP, .ref aF, .ref aQ, .ref aM, .ref aB, .int J_hasRun, .ref aJ_plainOrder, .ref aC])), (aP, .inr (2, [.ref aP_slots, .ref aP_termsSeen, .ref aP_matches, .ref aP_matchCount, .ref aP_variables, .ref aP_havingVariable, .ref aP_told, .ref aP_parent, .ref aP_allBefore, .int P_required, .int P_hinted_14, .int P_count])), (aP_allBefore, .inl (cI, 8, .inl P_allBefore_15))] := hD
              refine lv_iconst (v := (1 : Int32)) hx hb dX0_hint_78 (by decide) ?_
              have hf := Option.some.inj hf
              cases hf
              exact x_iret (fun _ => 0) hQ hx hb hr hlk hK hP hD hS dX0_hint_79
            · have hf := xb_f c_12 hf
              refine lv_bipush (v := (-3 : Int32)) hx hb dX0_hint_66 (by decide) ?_
              have hf := Option.some.inj hf
              cases hf
              exact x_iret (fun _ => 0) hQ hx hb hr hlk hK hP hD hS dX0_hint_68
        · have hf := xb_t c_8 hf
          refine lv_bipush (v := (-3 : Int32)) hx hb dX0_hint_46 (by decide) ?_
          have hf := Option.some.inj hf
          cases hf
          exact x_iret (fun _ => 0) hQ hx hb hr hlk hK (hP.sub [0, 2, 1] rfl) (hD.sub [0, 2, 1] (by decide) rfl) hS dX0_hint_48
    · have hf := xb_t c_4 hf
      refine lv_iconst (v := (-1 : Int32)) hx hb dX0_hint_22 (by decide) ?_
      have hf := Option.some.inj hf
      cases hf
      exact x_iret (fun _ => 0) hQ hx hb hr hlk hK (hP.sub [0, 2, 1] rfl) (hD.sub [0, 2, 1] (by decide) rfl) hS dX0_hint_23
