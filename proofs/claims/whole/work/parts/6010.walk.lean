abbrev rm_f_Triples_add : Room := { frames := 0, cells := 0, slots := 0, locals := 0 }
set_option maxHeartbeats 4000000 in
set_option maxRecDepth 100000 in
theorem c_f_Triples_add (l : Launch) (D : va_G) (cI cJ cZ : ClassId) (sz : Nat) (aT : Nat) (x1 : Int32) (aT_packed : Nat) (T_count : Int32) (T_packed : Nat → Int32) {T_count' : Int32} {T_packed' : Nat → Int32} (hf : f_Triples_add x1 T_count T_packed = some (T_count', T_packed')) : Met l yX6_add (.code yX6_add cX6_add 2 none :: GW) rm_f_Triples_add (va_Pc [.ref aT, .int x1] (xP D (xT cI cJ cZ) sz [(aT, .inr (6, [.ref aT_packed, .int T_count])), (aT_packed, .inl (cI, 80, .inl T_packed))])) (va_Qv (fun (_ : Nat → Nat) => True) (bB D (xT cI cJ cZ) (fun _ => [(aT, .inr (6, [.ref aT_packed, .int T_count'])), (aT_packed, .inl (cI, 80, .inl T_packed'))]) (va_A [(aT, .inr (6, [.ref aT_packed, .int T_count])), (aT_packed, .inl (cI, 80, .inl T_packed))] sz)) (va_A [(aT, .inr (6, [.ref aT_packed, .int T_count])), (aT_packed, .inl (cI, 80, .inl T_packed))] sz)) 0 0 (va_A [(aT, .inr (6, [.ref aT_packed, .int T_count])), (aT_packed, .inl (cI, 80, .inl T_packed))] sz) := by
  refine con_start (y := yX6_add) (bytes := cX6_add) (maxL := 2) (av := [.ref aT, .int x1]) (Qc := fun A => va_Qv (fun (_ : Nat → Nat) => True) (bB D (xT cI cJ cZ) (fun _ => [(aT, .inr (6, [.ref aT_packed, .int T_count'])), (aT_packed, .inl (cI, 80, .inl T_packed'))]) A) A) (by decide) (Nat.le_of_ble_eq_true rfl) ?_
  intro p e s m args below meth c Q A hx hb hr hlk hml hown hin htg hN hK hQ hA hP hD hS ls hl
  have hl : lv_has ls 2 [(0, .ref aT), (1, .int x1)] := hl
  have hown : s.vm.findClass RX6 = some m.cls := hown
  have hf := (f_Triples_add_u x1 T_count T_packed).symm.trans hf
  refine lv_aload_n hx hb dX6_add_0 rfl (lv_at hl 0 rfl) ?_
  refine va_get (D := D) (ci := 6) (v := .ref aT_packed) (C := RX6) (T := TX6) (N := 2) hx hb htg giX6 hown hK hP 0 rfl rfl 0 (by decide) (htg _ kw_25) (fun _ h9 => h9) rfl dX6_add_1 ?_
  refine lv_aload_n hx hb dX6_add_4 rfl (lv_at hl 0 rfl) ?_
  refine va_get (D := D) (ci := 6) (v := .int T_count) (C := RX6) (T := TX6) (N := 2) hx hb htg giX6 hown hK hP 0 rfl rfl 1 (by decide) (htg _ kw_28) (fun _ h9 => h9) rfl dX6_add_5 ?_
  refine lv_iload_n hx hb dX6_add_8 rfl (lv_at hl 1 rfl) ?_
  have g_1 : vp_in T_count 80 := gd_in hf
  have hf := gd_el hf
  refine x_iast hx hb hK hP hD hS 1 0 rfl rfl g_1 dX6_add_9 (fun T_packed_2 eT_packed_2 H locs hP hD hS => ?_)
  have hf := nm_nm eT_packed_2 hf
  have hP : va_P D vwCl [(aT, .inr (6, [.ref aT_packed, .int T_count])), (aT_packed, .inl (cI, 80, .inl T_packed_2))] H := hP
  have hD : va_D A [(aT, .inr (6, [.ref aT_packed, .int T_count])), (aT_packed, .inl (cI, 80, .inl T_packed_2))] := hD
  refine lv_aload_n hx hb dX6_add_10 rfl (lv_at hl 0 rfl) ?_
  refine lv_dup hx hb dX6_add_11 rfl ?_
  refine va_get (D := D) (ci := 6) (v := .int T_count) (C := RX6) (T := TX6) (N := 2) hx hb htg giX6 hown hK hP 0 rfl rfl 1 (by decide) (htg _ kw_28) (fun _ h9 => h9) rfl dX6_add_12 ?_
  refine lv_iconst (v := (1 : Int32)) hx hb dX6_add_15 (by decide) ?_
  refine lv_iadd hx hb dX6_add_16 ?_
  refine lv_topi (fun v_3 ev_3 => ?_)
  have hf := nm_nm ev_3 hf
  refine va_put (D := D) (ci := 6) (v := .int v_3) (ty := .int) (C := RX6) (T := TX6) (N := 2) hx hb htg giX6 tyX6 tyX6_ok nmX6 hown hK hP hD hS 0 rfl rfl 1 (by decide) (htg _ kw_28) (fun _ h9 => h9) rfl (by decide +kernel) rfl rfl (Nat.le_of_ble_eq_true rfl) dX6_add_17 (fun H locs hP hD hS => ?_)
  have hP : va_P D vwCl [(aT, .inr (6, [.ref aT_packed, .int v_3])), (aT_packed, .inl (cI, 80, .inl T_packed_2))] H := hP
  have hD : va_D A [(aT, .inr (6, [.ref aT_packed, .int v_3])), (aT_packed, .inl (cI, 80, .inl T_packed_2))] := hD
  have hf := Option.some.inj hf
  obtain ⟨k9_0, f9_0⟩ := Prod.mk.inj hf
  subst k9_0
  subst f9_0
  exact x_vret (fun _ => 0) hQ hx hb hr hlk hK hP hD hS dX6_add_20
abbrev rm_f_Patterns_slot : Room := { frames := 0, cells := 0, slots := 0, locals := 0 }
set_option maxHeartbeats 4000000 in
set_option maxRecDepth 100000 in
theorem c_f_Patterns_slot (l : Launch) (D : va_G) (cI cJ cZ : ClassId) (sz : Nat) (aP : Nat) (x1 : Int32) (x2 : Int32) (aP_slots : Nat) (aP_termsSeen : Nat) (aP_matches : Nat) (aP_matchCount : Nat) (aP_variables : Nat) (aP_havingVariable : Nat) (aP_told : Nat) (aP_parent : Nat) (aP_allBefore : Nat) (P_required : Int32) (P_hinted : Int32) (P_count : Int32) (P_slots : Nat → Int32) {r : Int32} (hf : f_Patterns_slot x1 x2 P_slots = some r) : Met l yX2_slot (.code yX2_slot cX2_slot 3 (some .int) :: GW) rm_f_Patterns_slot (va_Pc [.ref aP, .int x1, .int x2] (xP D (xT cI cJ cZ) sz [(aP, .inr (2, [.ref aP_slots, .ref aP_termsSeen, .ref aP_matches, .ref aP_matchCount, .ref aP_variables, .ref aP_havingVariable, .ref aP_told, .ref aP_parent, .ref aP_allBefore, .int P_required, .int P_hinted, .int P_count])), (aP_slots, .inl (cI, 24, .inl P_slots))])) (va_Qi (fun r2 (_ : Nat → Nat) => r2 = r) (bB D (xT cI cJ cZ) (fun _ => [(aP, .inr (2, [.ref aP_slots, .ref aP_termsSeen, .ref aP_matches, .ref aP_matchCount, .ref aP_variables, .ref aP_havingVariable, .ref aP_told, .ref aP_parent, .ref aP_allBefore, .int P_required, .int P_hinted, .int P_count])), (aP_slots, .inl (cI, 24, .inl P_slots))]) (va_A [(aP, .inr (2, [.ref aP_slots, .ref aP_termsSeen, .ref aP_matches, .ref aP_matchCount, .ref aP_variables, .ref aP_havingVariable, .ref aP_told, .ref aP_parent, .ref aP_allBefore, .int P_required, .int P_hinted, .int P_count])), (aP_slots, .inl (cI, 24, .inl P_slots))] sz)) (va_A [(aP, .inr (2, [.ref aP_slots, .ref aP_termsSeen, .ref aP_matches, .ref aP_matchCount, .ref aP_variables, .ref aP_havingVariable, .ref aP_told, .ref aP_parent, .ref aP_allBefore, .int P_required, .int P_hinted, .int P_count])), (aP_slots, .inl (cI, 24, .inl P_slots))] sz)) 0 0 (va_A [(aP, .inr (2, [.ref aP_slots, .ref aP_termsSeen, .ref aP_matches, .ref aP_matchCount, .ref aP_variables, .ref aP_havingVariable, .ref aP_told, .ref aP_parent, .ref aP_allBefore, .int P_required, .int P_hinted, .int P_count])), (aP_slots, .inl (cI, 24, .inl P_slots))] sz) := by
  refine con_start (y := yX2_slot) (bytes := cX2_slot) (maxL := 3) (av := [.ref aP, .int x1, .int x2]) (Qc := fun A => va_Qi (fun r2 (_ : Nat → Nat) => r2 = r) (bB D (xT cI cJ cZ) (fun _ => [(aP, .inr (2, [.ref aP_slots, .ref aP_termsSeen, .ref aP_matches, .ref aP_matchCount, .ref aP_variables, .ref aP_havingVariable, .ref aP_told, .ref aP_parent, .ref aP_allBefore, .int P_required, .int P_hinted, .int P_count])), (aP_slots, .inl (cI, 24, .inl P_slots))]) A) A) (by decide) (Nat.le_of_ble_eq_true rfl) ?_
  intro p e s m args below meth c Q A hx hb hr hlk hml hown hin htg hN hK hQ hA hP hD hS ls hl
  have hl : lv_has ls 3 [(0, .ref aP), (1, .int x1), (2, .int x2)] := hl
  have hown : s.vm.findClass RX2 = some m.cls := hown
  have hf := (f_Patterns_slot_u x1 x2 P_slots).symm.trans hf
  refine lv_aload_n hx hb dX2_slot_0 rfl (lv_at hl 0 rfl) ?_
  refine va_get (D := D) (ci := 2) (v := .ref aP_slots) (C := RX2) (T := TX2) (N := 12) hx hb htg giX2 hown hK hP 0 rfl rfl 0 (by decide) (htg _ kw_42) (fun _ h9 => h9) rfl dX2_slot_1 ?_
  refine lv_iload_n hx hb dX2_slot_4 rfl (lv_at hl 1 rfl) ?_
  refine lv_iconst (v := (3 : Int32)) hx hb dX2_slot_5 (by decide) ?_
  refine lv_imul hx hb dX2_slot_6 ?_
  refine lv_iload_n hx hb dX2_slot_7 rfl (lv_at hl 2 rfl) ?_
  refine lv_iadd hx hb dX2_slot_8 ?_
  have g_1 : vp_in ((x1 * (3 : Int32)) + x2) 24 := gd_in hf
  have hf := gd_el hf
  refine va_iald hx hb hK hP 1 0 rfl rfl g_1 dX2_slot_9 ?_
  have hf := Option.some.inj hf
  subst hf
  exact x_iret (fun _ => 0) hQ hx hb hr hlk hK hP hD hS dX2_slot_10
abbrev rm_f_Triples_part : Room := { frames := 0, cells := 0, slots := 0, locals := 0 }
set_option maxHeartbeats 4000000 in
set_option maxRecDepth 100000 in
theorem c_f_Triples_part (l : Launch) (D : va_G) (cI cJ cZ : ClassId) (sz : Nat) (x0 : Int32) (x1 : Int32) {r : Int32} (hf : f_Triples_part x0 x1 = r) : Met l yX6_part (.code yX6_part cX6_part 2 (some .int) :: GW) rm_f_Triples_part (va_Pc [.int x0, .int x1] (xP D (xT cI cJ cZ) sz [])) (va_Qi (fun r2 (_ : Nat → Nat) => r2 = r) (bB D (xT cI cJ cZ) (fun _ => []) (va_A [] sz)) (va_A [] sz)) 0 0 (va_A [] sz) := by
  refine con_start (y := yX6_part) (bytes := cX6_part) (maxL := 2) (av := [.int x0, .int x1]) (Qc := fun A => va_Qi (fun r2 (_ : Nat → Nat) => r2 = r) (bB D (xT cI cJ cZ) (fun _ => []) A) A) (by decide) (Nat.le_of_ble_eq_true rfl) ?_
  intro p e s m args below meth c Q A hx hb hr hlk hml hown hin htg hN hK hQ hA hP hD hS ls hl
  have hl : lv_has ls 2 [(0, .int x0), (1, .int x1)] := hl
  have hown : s.vm.findClass RX6 = some m.cls := hown
  have hf := (f_Triples_part_u x0 x1).symm.trans hf
  refine lv_iload_n hx hb dX6_part_0 rfl (lv_at hl 0 rfl) ?_
  refine lv_iload_n hx hb dX6_part_1 rfl (lv_at hl 1 rfl) ?_
  refine lv_iconst (v := (5 : Int32)) hx hb dX6_part_2 (by decide) ?_
  refine lv_imul hx hb dX6_part_3 ?_
  refine lv_ishr hx hb dX6_part_4 ?_
  refine lv_bipush (v := (31 : Int32)) hx hb dX6_part_5 (by decide) ?_
  refine lv_iand hx hb dX6_part_7 ?_
  have hf := hf
  subst hf
  exact x_iret (fun _ => 0) hQ hx hb hr hlk hK hP hD hS dX6_part_8
