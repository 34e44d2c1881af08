abbrev rm_f_Patterns_hang : Room := { frames := 0, cells := 0, slots := 0, locals := 0 }
set_option maxHeartbeats 4000000 in
set_option maxRecDepth 100000 in
theorem c_f_Patterns_hang (l : Launch) (D : va_G) (cI cJ cZ : ClassId) (sz : Nat) (aP : Nat) (x1 : Int32) (x2 : Int32) (aP_slots : Nat) (aP_termsSeen : Nat) (aP_matches : Nat) (aP_matchCount : Nat) (aP_variables : Nat) (aP_havingVariable : Nat) (aP_told : Nat) (aP_parent : Nat) (aP_allBefore : Nat) (P_required : Int32) (P_hinted : Int32) (P_count : Int32) (P_parent : Nat → Int32) {P_required' : Int32} {P_parent' : Nat → Int32} (hf : f_Patterns_hang x1 x2 P_required P_parent = some (P_required', P_parent')) : Met l yX2_hang (.code yX2_hang cX2_hang 3 none :: GW) rm_f_Patterns_hang (va_Pc [.ref aP, .int x1, .int x2] (xP D (xT cI cJ cZ) sz [(aP, .inr (2, [.ref aP_slots, .ref aP_termsSeen, .ref aP_matches, .ref aP_matchCount, .ref aP_variables, .ref aP_havingVariable, .ref aP_told, .ref aP_parent, .ref aP_allBefore, .int P_required, .int P_hinted, .int P_count])), (aP_parent, .inl (cI, 8, .inl P_parent))])) (va_Qv (fun (_ : Nat → Nat) => True) (bB D (xT cI cJ cZ) (fun _ => [(aP, .inr (2, [.ref aP_slots, .ref aP_termsSeen, .ref aP_matches, .ref aP_matchCount, .ref aP_variables, .ref aP_havingVariable, .ref aP_told, .ref aP_parent, .ref aP_allBefore, .int P_required', .int P_hinted, .int P_count])), (aP_parent, .inl (cI, 8, .inl P_parent'))]) (va_A [(aP, .inr (2, [.ref aP_slots, .ref aP_termsSeen, .ref aP_matches, .ref aP_matchCount, .ref aP_variables, .ref aP_havingVariable, .ref aP_told, .ref aP_parent, .ref aP_allBefore, .int P_required, .int P_hinted, .int P_count])), (aP_parent, .inl (cI, 8, .inl P_parent))] sz)) (va_A [(aP, .inr (2, [.ref aP_slots, .ref aP_termsSeen, .ref aP_matches, .ref aP_matchCount, .ref aP_variables, .ref aP_havingVariable, .ref aP_told, .ref aP_parent, .ref aP_allBefore, .int P_required, .int P_hinted, .int P_count])), (aP_parent, .inl (cI, 8, .inl P_parent))] sz)) 0 0 (va_A [(aP, .inr (2, [.ref aP_slots, .ref aP_termsSeen, .ref aP_matches, .ref aP_matchCount, .ref aP_variables, .ref aP_havingVariable, .ref aP_told, .ref aP_parent, .ref aP_allBefore, .int P_required, .int P_hinted, .int P_count])), (aP_parent, .inl (cI, 8, .inl P_parent))] sz) := by
  refine con_start (y := yX2_hang) (bytes := cX2_hang) (maxL := 3) (av := [.ref aP, .int x1, .int x2]) (Qc := fun A => va_Qv (fun (_ : Nat → Nat) => True) (bB D (xT cI cJ cZ) (fun _ => [(aP, .inr (2, [.ref aP_slots, .ref aP_termsSeen, .ref aP_matches, .ref aP_matchCount, .ref aP_variables, .ref aP_havingVariable, .ref aP_told, .ref aP_parent, .ref aP_allBefore, .int P_required', .int P_hinted, .int P_count])), (aP_parent, .inl (cI, 8, .inl P_parent'))]) A) A) (by decide) (Nat.le_of_ble_eq_true rfl) ?_
  intro p e s m args below meth c Q A hx hb hr hlk hml hown hin htg hN hK hQ hA hP hD hS ls hl
  have hl : lv_has ls 3 [(0, .ref aP), (1, .int x1), (2, .int x2)] := hl
  have hown : s.vm.findClass RX2 = some m.cls := hown
  have hf := (f_Patterns_hang_u x1 x2 P_required P_parent).symm.trans hf
  refine lv_aload_n hx hb dX2_hang_0 rfl (lv_at hl 0 rfl) ?_
  refine va_get (D := D) (ci := 2) (v := .ref aP_parent) (C := RX2) (T := TX2) (N := 12) hx hb htg giX2 hown hK hP 0 rfl rfl 7 (by decide) (htg _ kw_55) (fun _ h9 => h9) rfl dX2_hang_1 ?_
  refine lv_iload_n hx hb dX2_hang_4 rfl (lv_at hl 1 rfl) ?_
  refine lv_iload_n hx hb dX2_hang_5 rfl (lv_at hl 2 rfl) ?_
  have g_1 : vp_in x1 8 := gd_in hf
  have hf := gd_el hf
  refine x_iast hx hb hK hP hD hS 1 0 rfl rfl g_1 dX2_hang_6 (fun P_parent_2 eP_parent_2 H locs hP hD hS => ?_)
  have hf := nm_nm eP_parent_2 hf
  have hP : va_P D vwCl [(aP, .inr (2, [.ref aP_slots, .ref aP_termsSeen, .ref aP_matches, .ref aP_matchCount, .ref aP_variables, .ref aP_havingVariable, .ref aP_told, .ref aP_parent, .ref aP_allBefore, .int P_required, .int P_hinted, .int P_count])), (aP_parent, .inl (cI, 8, .inl P_parent_2))] H := hP
  have hD : va_D A [(aP, .inr (2, [.ref aP_slots, .ref aP_termsSeen, .ref aP_matches, .ref aP_matchCount, .ref aP_variables, .ref aP_havingVariable, .ref aP_told, .ref aP_parent, .ref aP_allBefore, .int P_required, .int P_hinted, .int P_count])), (aP_parent, .inl (cI, 8, .inl P_parent_2))] := hD
  refine lv_aload_n hx hb dX2_hang_7 rfl (lv_at hl 0 rfl) ?_
  refine lv_dup hx hb dX2_hang_8 rfl ?_
  refine va_get (D := D) (ci := 2) (v := .int P_required) (C := RX2) (T := TX2) (N := 12) hx hb htg giX2 hown hK hP 0 rfl rfl 9 (by decide) (htg _ kw_60) (fun _ h9 => h9) rfl dX2_hang_9 ?_
  refine lv_iconst (v := (1 : Int32)) hx hb dX2_hang_12 (by decide) ?_
  refine lv_iload_n hx hb dX2_hang_13 rfl (lv_at hl 1 rfl) ?_
  refine lv_ishl hx hb dX2_hang_14 ?_
  refine lv_iconst (v := (-1 : Int32)) hx hb dX2_hang_15 (by decide) ?_
  refine lv_ixor hx hb dX2_hang_16 ?_
  refine lv_iand hx hb dX2_hang_17 ?_
  refine lv_topi (fun v_3 ev_3 => ?_)
  have hf := nm_nm ev_3 hf
  refine va_put (D := D) (ci := 2) (v := .int v_3) (ty := .int) (C := RX2) (T := TX2) (N := 12) hx hb htg giX2 tyX2 tyX2_ok nmX2 hown hK hP hD hS 0 rfl rfl 9 (by decide) (htg _ kw_60) (fun _ h9 => h9) rfl (by decide +kernel) rfl rfl (Nat.le_of_ble_eq_true rfl) dX2_hang_18 (fun H locs hP hD hS => ?_)
  have hP : va_P D vwCl [(aP, .inr (2, [.ref aP_slots, .ref aP_termsSeen, .ref aP_matches, .ref aP_matchCount, .ref aP_variables, .ref aP_havingVariable, .ref aP_told, .ref aP_parent, .ref aP_allBefore, .int v_3, .int P_hinted, .int P_count])), (aP_parent, .inl (cI, 8, .inl P_parent_2))] H := hP
  have hD : va_D A [(aP, .inr (2, [.ref aP_slots, .ref aP_termsSeen, .ref aP_matches, .ref aP_matchCount, .ref aP_variables, .ref aP_havingVariable, .ref aP_told, .ref aP_parent, .ref aP_allBefore, .int v_3, .int P_hinted, .int P_count])), (aP_parent, .inl (cI, 8, .inl P_parent_2))] := hD
  have hf := Option.some.inj hf
  obtain ⟨k9_0, f9_0⟩ := Prod.mk.inj hf
  subst k9_0
  subst f9_0
  exact x_vret (fun _ => 0) hQ hx hb hr hlk hK hP hD hS dX2_hang_21
