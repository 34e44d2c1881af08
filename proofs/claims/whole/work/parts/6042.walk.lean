abbrev rm_f_Patterns_size : Room := { frames := 0, cells := 0, slots := 0, locals := 0 }
set_option maxHeartbeats 4000000 in
set_option maxRecDepth 100000 in
theorem c_f_Patterns_size (l : Launch) (D : va_G) (cI cJ cZ : ClassId) (sz : Nat) (aP : Nat) (x1 : Int32) (aP_slots : Nat) (aP_termsSeen : Nat) (aP_matches : Nat) (aP_matchCount : Nat) (aP_variables : Nat) (aP_havingVariable : Nat) (aP_told : Nat) (aP_parent : Nat) (aP_allBefore : Nat) (P_required : Int32) (P_hinted : Int32) (P_count : Int32) (P_told : Nat → Int32) (P_matchCount : Nat → Int32) {r : Int32} (hf : f_Patterns_size x1 P_told P_matchCount = some r) : Met l yX2_size (.code yX2_size cX2_size 2 (some .int) :: GW) rm_f_Patterns_size (va_Pc [.ref aP, .int x1] (xP D (xT cI cJ cZ) sz [(aP, .inr (2, [.ref aP_slots, .ref aP_termsSeen, .ref aP_matches, .ref aP_matchCount, .ref aP_variables, .ref aP_havingVariable, .ref aP_told, .ref aP_parent, .ref aP_allBefore, .int P_required, .int P_hinted, .int P_count])), (aP_told, .inl (cI, 8, .inl P_told)), (aP_matchCount, .inl (cI, 8, .inl P_matchCount))])) (va_Qi (fun r2 (_ : Nat → Nat) => r2 = r) (bB D (xT cI cJ cZ) (fun _ => [(aP, .inr (2, [.ref aP_slots, .ref aP_termsSeen, .ref aP_matches, .ref aP_matchCount, .ref aP_variables, .ref aP_havingVariable, .ref aP_told, .ref aP_parent, .ref aP_allBefore, .int P_required, .int P_hinted, .int P_count])), (aP_told, .inl (cI, 8, .inl P_told)), (aP_matchCount, .inl (cI, 8, .inl P_matchCount))]) (va_A [(aP, .inr (2, [.ref aP_slots, .ref aP_termsSeen, .ref aP_matches, .ref aP_matchCount, .ref aP_variables, .ref aP_havingVariable, .ref aP_told, .ref aP_parent, .ref aP_allBefore, .int P_required, .int P_hinted, .int P_count])), (aP_told, .inl (cI, 8, .inl P_told)), (aP_matchCount, .inl (cI, 8, .inl P_matchCount))] sz)) (va_A [(aP, .inr (2, [.ref aP_slots, .ref aP_termsSeen, .ref aP_matches, .ref aP_matchCount, .ref aP_variables, .ref aP_havingVariable, .ref aP_told, .ref aP_parent, .ref aP_allBefore, .int P_required, .int P_hinted, .int P_count])), (aP_told, .inl (cI, 8, .inl P_told)), (aP_matchCount, .inl (cI, 8, .inl P_matchCount))] sz)) 0 0 (va_A [(aP, .inr (2, [.ref aP_slots, .ref aP_termsSeen, .ref aP_matches, .ref aP_matchCount, .ref aP_variables, .ref aP_havingVariable, .ref aP_told, .ref aP_parent, .ref aP_allBefore, .int P_required, .int P_hinted, .int P_count])), (aP_told, .inl (cI, 8, .inl P_told)), (aP_matchCount, .inl (cI, 8, .inl P_matchCount))] sz) := by
  refine con_start (y := yX2_size) (bytes := cX2_size) (maxL := 2) (av := [.ref aP, .int x1]) (Qc := fun A => va_Qi (fun r2 (_ : Nat → Nat) => r2 = r) (bB D (xT cI cJ cZ) (fun _ => [(aP, .inr (2, [.ref aP_slots, .ref aP_termsSeen, .ref aP_matches, .ref aP_matchCount, .ref aP_variables, .ref aP_havingVariable, .ref aP_told, .ref aP_parent, .ref aP_allBefore, .int P_required, .int P_hinted, .int P_count])), (aP_told, .inl (cI, 8, .inl P_told)), (aP_matchCount, .inl (cI, 8, .inl P_matchCount))]) A) A) (by decide) (Nat.le_of_ble_eq_true rfl) ?_
  intro p e s m args below meth c Q A hx hb hr hlk hml hown hin htg hN hK hQ hA hP hD hS ls hl
  have hl : lv_has ls 2 [(0, .ref aP), (1, .int x1)] := hl
  have hown : s.vm.findClass RX2 = some m.cls := hown
  have hf := (f_Patterns_size_u x1 P_told P_matchCount).symm.trans hf
  refine lv_aload_n hx hb dX2_size_0 rfl (lv_at hl 0 rfl) ?_
  refine va_get (D := D) (ci := 2) (v := .ref aP_told) (C := RX2) (T := TX2) (N := 12) hx hb htg giX2 hown hK hP 0 rfl rfl 6 (by decide) (htg _ kw_53) (fun _ h9 => h9) rfl dX2_size_1 ?_
  refine lv_iload_n hx hb dX2_size_4 rfl (lv_at hl 1 rfl) ?_
  have g_1 : vp_in x1 8 := gd_in hf
  have hf := gd_el hf
  refine va_iald hx hb hK hP 1 0 rfl rfl g_1 dX2_size_5 ?_
  refine lv_iconst (v := (-1 : Int32)) hx hb dX2_size_6 (by decide) ?_
  refine lv_icmp_eq (tgt := 19) hx hb dX2_size_7 (by decide) (fun c_2 => ?_) (fun c_2 => ?_)
  · have hf := xb_t c_2 hf
    refine lv_aload_n hx hb dX2_size_19 rfl (lv_at hl 0 rfl) ?_
    refine va_get (D := D) (ci := 2) (v := .ref aP_matchCount) (C := RX2) (T := TX2) (N := 12) hx hb htg giX2 hown hK hP 0 rfl rfl 3 (by decide) (htg _ kw_46) (fun _ h9 => h9) rfl dX2_size_20 ?_
    refine lv_iload_n hx hb dX2_size_23 rfl (lv_at hl 1 rfl) ?_
    refine va_iald hx hb hK hP 2 0 rfl rfl g_1 dX2_size_24 ?_
    have hf := Option.some.inj hf
    subst hf
    exact x_iret (fun _ => 0) hQ hx hb hr hlk hK hP hD hS dX2_size_25
  · have hf := xb_f c_2 hf
    refine lv_aload_n hx hb dX2_size_10 rfl (lv_at hl 0 rfl) ?_
    refine va_get (D := D) (ci := 2) (v := .ref aP_told) (C := RX2) (T := TX2) (N := 12) hx hb htg giX2 hown hK hP 0 rfl rfl 6 (by decide) (htg _ kw_53) (fun _ h9 => h9) rfl dX2_size_11 ?_
    refine lv_iload_n hx hb dX2_size_14 rfl (lv_at hl 1 rfl) ?_
    refine va_iald hx hb hK hP 1 0 rfl rfl g_1 dX2_size_15 ?_
    refine lv_goto (tgt := 25) hx hb dX2_size_16 (by decide) ?_
    have hf := Option.some.inj hf
    subst hf
    exact x_iret (fun _ => 0) hQ hx hb hr hlk hK hP hD hS dX2_size_25
