abbrev rm_f_Patterns_has : Room := { frames := 0, cells := 0, slots := 0, locals := 0 }
set_option maxHeartbeats 4000000 in
set_option maxRecDepth 100000 in
theorem c_f_Patterns_has (l : Launch) (D : va_G) (cI cJ cZ : ClassId) (sz : Nat) (aP : Nat) (x1 : Int32) (aP_slots : Nat) (aP_termsSeen : Nat) (aP_matches : Nat) (aP_matchCount : Nat) (aP_variables : Nat) (aP_havingVariable : Nat) (aP_told : Nat) (aP_parent : Nat) (aP_allBefore : Nat) (P_required : Int32) (P_hinted : Int32) (P_count : Int32) {r : Int32} (hf : f_Patterns_has x1 P_count = r) : Met l yX2_has (.code yX2_has cX2_has 2 (some .boolean) :: GW) rm_f_Patterns_has (va_Pc [.ref aP, .int x1] (xP D (xT cI cJ cZ) sz [(aP, .inr (2, [.ref aP_slots, .ref aP_termsSeen, .ref aP_matches, .ref aP_matchCount, .ref aP_variables, .ref aP_havingVariable, .ref aP_told, .ref aP_parent, .ref aP_allBefore, .int P_required, .int P_hinted, .int P_count]))])) (va_Qi (fun r2 (_ : Nat → Nat) => r2 = r ∧ (r = 0 ∨ r = 1)) (bB D (xT cI cJ cZ) (fun _ => [(aP, .inr (2, [.ref aP_slots, .ref aP_termsSeen, .ref aP_matches, .ref aP_matchCount, .ref aP_variables, .ref aP_havingVariable, .ref aP_told, .ref aP_parent, .ref aP_allBefore, .int P_required, .int P_hinted, .int P_count]))]) (va_A [(aP, .inr (2, [.ref aP_slots, .ref aP_termsSeen, .ref aP_matches, .ref aP_matchCount, .ref aP_variables, .ref aP_havingVariable, .ref aP_told, .ref aP_parent, .ref aP_allBefore, .int P_required, .int P_hinted, .int P_count]))] sz)) (va_A [(aP, .inr (2, [.ref aP_slots, .ref aP_termsSeen, .ref aP_matches, .ref aP_matchCount, .ref aP_variables, .ref aP_havingVariable, .ref aP_told, .ref aP_parent, .ref aP_allBefore, .int P_required, .int P_hinted, .int P_count]))] sz)) 0 0 (va_A [(aP, .inr (2, [.ref aP_slots, .ref aP_termsSeen, .ref aP_matches, .ref aP_matchCount, .ref aP_variables, .ref aP_havingVariable, .ref aP_told, .ref aP_parent, .ref aP_allBefore, .int P_required, .int P_hinted, .int P_count]))] sz) := by
  refine con_start (y := yX2_has) (bytes := cX2_has) (maxL := 2) (av := [.ref aP, .int x1]) (Qc := fun A => va_Qi (fun r2 (_ : Nat → Nat) => r2 = r ∧ (r = 0 ∨ r = 1)) (bB D (xT cI cJ cZ) (fun _ => [(aP, .inr (2, [.ref aP_slots, .ref aP_termsSeen, .ref aP_matches, .ref aP_matchCount, .ref aP_variables, .ref aP_havingVariable, .ref aP_told, .ref aP_parent, .ref aP_allBefore, .int P_required, .int P_hinted, .int P_count]))]) A) A) (by decide) (Nat.le_of_ble_eq_true rfl) ?_
  intro p e s m args below meth c Q A hx hb hr hlk hml hown hin htg hN hK hQ hA hP hD hS ls hl
  have hl : lv_has ls 2 [(0, .ref aP), (1, .int x1)] := hl
  have hown : s.vm.findClass RX2 = some m.cls := hown
  have hf := (f_Patterns_has_u x1 P_count).symm.trans hf
  refine lv_iload_n hx hb dX2_has_0 rfl (lv_at hl 1 rfl) ?_
  refine lv_if_lt (tgt := 16) hx hb dX2_has_1 (by decide) (fun c_1 => ?_) (fun c_1 => ?_)
  · have hf := xb_t c_1 hf
    refine lv_iconst (v := (0 : Int32)) hx hb dX2_has_16 (by decide) ?_
    have hf := hf
    subst hf
    exact x_zret (fun _ => 0) hQ hx hb hr hlk (by decide) hK hP hD hS dX2_has_17
  · have hf := xb_f c_1 hf
    refine lv_iload_n hx hb dX2_has_4 rfl (lv_at hl 1 rfl) ?_
    refine lv_aload_n hx hb dX2_has_5 rfl (lv_at hl 0 rfl) ?_
    refine va_get (D := D) (ci := 2) (v := .int P_count) (C := RX2) (T := TX2) (N := 12) hx hb htg giX2 hown hK hP 0 rfl rfl 11 (by decide) (htg _ kw_62) (fun _ h9 => h9) rfl dX2_has_6 ?_
    refine lv_icmp_ge (tgt := 16) hx hb dX2_has_9 (by decide) (fun c_2 => ?_) (fun c_2 => ?_)
    · have hf := xb_t c_2 hf
      refine lv_iconst (v := (0 : Int32)) hx hb dX2_has_16 (by decide) ?_
      have hf := hf
      subst hf
      exact x_zret (fun _ => 0) hQ hx hb hr hlk (by decide) hK hP hD hS dX2_has_17
    · have hf := xb_f c_2 hf
      refine lv_iconst (v := (1 : Int32)) hx hb dX2_has_12 (by decide) ?_
      refine lv_goto (tgt := 17) hx hb dX2_has_13 (by decide) ?_
      have hf := hf
      subst hf
      exact x_zret (fun _ => 0) hQ hx hb hr hlk (by decide) hK hP hD hS dX2_has_17
abbrev rm_f_JoinOrder_inSet : Room := { frames := 0, cells := 0, slots := 0, locals := 0 }
set_option maxHeartbeats 4000000 in
set_option maxRecDepth 100000 in
theorem c_f_JoinOrder_inSet (l : Launch) (D : va_G) (cI cJ cZ : ClassId) (sz : Nat) (x0 : Int32) (x1 : Int32) {r : Int32} (hf : f_JoinOrder_inSet x0 x1 = r) : Met l yX0_inSet (.code yX0_inSet cX0_inSet 2 (some .boolean) :: GW) rm_f_JoinOrder_inSet (va_Pc [.int x0, .int x1] (xP D (xT cI cJ cZ) sz [])) (va_Qi (fun r2 (_ : Nat → Nat) => r2 = r ∧ (r = 0 ∨ r = 1)) (bB D (xT cI cJ cZ) (fun _ => []) (va_A [] sz)) (va_A [] sz)) 0 0 (va_A [] sz) := by
  refine con_start (y := yX0_inSet) (bytes := cX0_inSet) (maxL := 2) (av := [.int x0, .int x1]) (Qc := fun A => va_Qi (fun r2 (_ : Nat → Nat) => r2 = r ∧ (r = 0 ∨ r = 1)) (bB D (xT cI cJ cZ) (fun _ => []) A) A) (by decide) (Nat.le_of_ble_eq_true rfl) ?_
  intro p e s m args below meth c Q A hx hb hr hlk hml hown hin htg hN hK hQ hA hP hD hS ls hl
  have hl : lv_has ls 2 [(0, .int x0), (1, .int x1)] := hl
  have hown : s.vm.findClass RX0 = some m.cls := hown
  have hf := (f_JoinOrder_inSet_u x0 x1).symm.trans hf
  refine lv_iload_n hx hb dX0_inSet_0 rfl (lv_at hl 0 rfl) ?_
  refine lv_iload_n hx hb dX0_inSet_1 rfl (lv_at hl 1 rfl) ?_
  refine lv_ishr hx hb dX0_inSet_2 ?_
  refine lv_iconst (v := (1 : Int32)) hx hb dX0_inSet_3 (by decide) ?_
  refine lv_iand hx hb dX0_inSet_4 ?_
  refine lv_if_eq (tgt := 12) hx hb dX0_inSet_5 (by decide) (fun c_1 => ?_) (fun c_1 => ?_)
  · have hf := xb_t c_1 hf
    refine lv_iconst (v := (0 : Int32)) hx hb dX0_inSet_12 (by decide) ?_
    have hf := hf
    subst hf
    exact x_zret (fun _ => 0) hQ hx hb hr hlk (by decide) hK hP hD hS dX0_inSet_13
  · have hf := xb_f c_1 hf
    refine lv_iconst (v := (1 : Int32)) hx hb dX0_inSet_8 (by decide) ?_
    refine lv_goto (tgt := 13) hx hb dX0_inSet_9 (by decide) ?_
    have hf := hf
    subst hf
    exact x_zret (fun _ => 0) hQ hx hb hr hlk (by decide) hK hP hD hS dX0_inSet_13
abbrev rm_f_Patterns_isRequired : Room := { frames := 1, cells := 0, slots := 0, locals := 21 }
set_option maxHeartbeats 4000000 in
set_option maxRecDepth 100000 in
theorem c_f_Patterns_isRequired (l : Launch) (D : va_G) (cI cJ cZ : ClassId) (sz : Nat) (aP : Nat) (x1 : Int32) (aP_slots : Nat) (aP_termsSeen : Nat) (aP_matches : Nat) (aP_matchCount : Nat) (aP_variables : Nat) (aP_havingVariable : Nat) (aP_told : Nat) (aP_parent : Nat) (aP_allBefore : Nat) (P_required : Int32) (P_hinted : Int32) (P_count : Int32) {r : Int32} (hf : f_Patterns_isRequired x1 P_required = r) : Met l yX2_isRequired (.code yX2_isRequired cX2_isRequired 2 (some .boolean) :: GW) rm_f_Patterns_isRequired (va_Pc [.ref aP, .int x1] (xP D (xT cI cJ cZ) sz [(aP, .inr (2, [.ref aP_slots, .ref aP_termsSeen, .ref aP_matches, .ref aP_matchCount, .ref aP_variables, .ref aP_havingVariable, .ref aP_told, .ref aP_parent, .ref aP_allBefore, .int P_required, .int P_hinted, .int P_count]))])) (va_Qi (fun r2 (_ : Nat → Nat) => r2 = r ∧ (r = 0 ∨ r = 1)) (bB D (xT cI cJ cZ) (fun _ => [(aP, .inr (2, [.ref aP_slots, .ref aP_termsSeen, .ref aP_matches, .ref aP_matchCount, .ref aP_variables, .ref aP_havingVariable, .ref aP_told, .ref aP_parent, .ref aP_allBefore, .int P_required, .int P_hinted, .int P_count]))]) (va_A [(aP, .inr (2, [.ref aP_slots, .ref aP_termsSeen, .ref aP_matches, .ref aP_matchCount, .ref aP_variables, .ref aP_havingVariable, .ref aP_told, .ref aP_parent, .ref aP_allBefore, .int P_required, .int P_hinted, .int P_count]))] sz)) (va_A [(aP, .inr (2, [.ref aP_slots, .ref aP_termsSeen, .ref aP_matches, .ref aP_matchCount, .ref aP_variables, .ref aP_havingVariable, .ref aP_told, .ref aP_parent, .ref aP_allBefore, .int P_required, .int P_hinted, .int P_count]))] sz)) 0 0 (va_A [(aP, .inr (2, [.ref aP_slots, .ref aP_termsSeen, .ref aP_matches, .ref aP_matchCount, .ref aP_variables, .ref aP_havingVariable, .ref aP_told, .ref aP_parent, .ref aP_allBefore, .int P_required, .int P_hinted, .int P_count]))] sz) := by
  refine con_start (y := yX2_isRequired) (bytes := cX2_isRequired) (maxL := 2) (av := [.ref aP, .int x1]) (Qc := fun A => va_Qi (fun r2 (_ : Nat → Nat) => r2 = r ∧ (r = 0 ∨ r = 1)) (bB D (xT cI cJ cZ) (fun _ => [(aP, .inr (2, [.ref aP_slots, .ref aP_termsSeen, .ref aP_matches, .ref aP_matchCount, .ref aP_variables, .ref aP_havingVariable, .ref aP_told, .ref aP_parent, .ref aP_allBefore, .int P_required, .int P_hinted, .int P_count]))]) A) A) (by decide) (Nat.le_of_ble_eq_true rfl) ?_
  intro p e s m args below meth c Q A hx hb hr hlk hml hown hin htg hN hK hQ hA hP hD hS ls hl
  have hl : lv_has ls 2 [(0, .ref aP), (1, .int x1)] := hl
  have hown : s.vm.findClass RX2 = some m.cls := hown
  have hf := (f_Patterns_isRequired_u x1 P_required).symm.trans hf
  refine lv_aload_n hx hb dX2_isRequired_0 rfl (lv_at hl 0 rfl) ?_
  refine va_get (D := D) (ci := 2) (v := .int P_required) (C := RX2) (T := TX2) (N := 12) hx hb htg giX2 hown hK hP 0 rfl rfl 9 (by decide) (htg _ kw_60) (fun _ h9 => h9) rfl dX2_isRequired_1 ?_
  refine lv_iload_n hx hb dX2_isRequired_4 rfl (lv_at hl 1 rfl) ?_
  refine x_z (xrSN (As := [.int P_required, .int x1]) (rest := []) ⟨hx, hb, hml, hown, htg⟩ (c_f_JoinOrder_inSet l D cI cJ cZ _ P_required x1 rfl) kc_f_JoinOrder_inSet kn_305 kw_306 kw_1 dd_f_JoinOrder_inSet ⟨Nat.le_of_ble_eq_true rfl, Nat.le_of_ble_eq_true rfl⟩ rfl rfl (hP.sub [] rfl) (hD.sub [] (by decide) rfl) hK hN rfl hl.1 rfl (Nat.le_of_ble_eq_true rfl) dX2_isRequired_5 ⟨Nat.le_of_ble_eq_true rfl, Nat.le_of_ble_eq_true rfl⟩) hP hD hS hA [] [0] rfl rfl (by decide) (by decide) (fun _ H locs bz_1 hP hD hS => ?_)
  have hP : va_P D vwCl [(aP, .inr (2, [.ref aP_slots, .ref aP_termsSeen, .ref aP_matches, .ref aP_matchCount, .ref aP_variables, .ref aP_havingVariable, .ref aP_told, .ref aP_parent, .ref aP_allBefore, .int P_required, .int P_hinted, .int P_count]))] H := hP
  have hD : va_D A [(aP, .inr (2, [.ref aP_slots, .ref aP_termsSeen, .ref aP_matches, .ref aP_matchCount, .ref aP_variables, .ref aP_havingVariable, .ref aP_told, .ref aP_parent, .ref aP_allBefore, .int P_required, .int P_hinted, .int P_count]))] := hD
  have hf := hf
  subst hf
  exact x_zret (fun _ => 0) hQ hx hb hr hlk bz_1 hK hP hD hS dX2_isRequired_8
abbrev rm_f_Patterns_isHinted : Room := { frames := 1, cells := 0, slots := 0, locals := 21 }
set_option maxHeartbeats 4000000 in
set_option maxRecDepth 100000 in
theorem c_f_Patterns_isHinted (l : Launch) (D : va_G) (cI cJ cZ : ClassId) (sz : Nat) (aP : Nat) (x1 : Int32) (aP_slots : Nat) (aP_termsSeen : Nat) (aP_matches : Nat) (aP_matchCount : Nat) (aP_variables : Nat) (aP_havingVariable : Nat) (aP_told : Nat) (aP_parent : Nat) (aP_allBefore : Nat) (P_required : Int32) (P_hinted : Int32) (P_count : Int32) {r : Int32} (hf : f_Patterns_isHinted x1 P_hinted = r) : Met l yX2_isHinted (.code yX2_isHinted cX2_isHinted 2 (some .boolean) :: GW) rm_f_Patterns_isHinted (va_Pc [.ref aP, .int x1] (xP D (xT cI cJ cZ) sz [(aP, .inr (2, [.ref aP_slots, .ref aP_termsSeen, .ref aP_matches, .ref aP_matchCount, .ref aP_variables, .ref aP_havingVariable, .ref aP_told, .ref aP_parent, .ref aP_allBefore, .int P_required, .int P_hinted, .int P_count]))])) (va_Qi (fun r2 (_ : Nat → Nat) => r2 = r ∧ (r = 0 ∨ r = 1)) (bB D (xT cI cJ cZ) (fun _ => [(aP, .inr (2, [.ref aP_slots, .ref aP_termsSeen, .ref aP_matches, .ref aP_matchCount, .ref aP_variables, .ref aP_havingVariable, .ref aP_told, .ref aP_parent, .ref aP_allBefore, .int P_required, .int P_hinted, .int P_count]))]) (va_A [(aP, .inr (2, [.ref aP_slots, .ref aP_termsSeen, .ref aP_matches, .ref aP_matchCount, .ref aP_variables, .ref aP_havingVariable, .ref aP_told, .ref aP_parent, .ref aP_allBefore, .int P_required, .int P_hinted, .int P_count]))] sz)) (va_A [(aP, .inr (2, [.ref aP_slots, .ref aP_termsSeen, .ref aP_matches, .ref aP_matchCount, .ref aP_variables, .ref aP_havingVariable, .ref aP_told, .ref aP_parent, .ref aP_allBefore, .int P_required, .int P_hinted, .int P_count]))] sz)) 0 0 (va_A [(aP, .inr (2, [.ref aP_slots, .ref aP_termsSeen, .ref aP_matches, .ref aP_matchCount, .ref aP_variables, .ref aP_havingVariable, .ref aP_told, .ref aP_parent, .ref aP_allBefore, .int P_required, .int P_hinted, .int P_count]))] sz) := by
  refine con_start (y := yX2_isHinted) (bytes := cX2_isHinted) (maxL := 2) (av := [.ref aP, .int x1]) (Qc := fun A => va_Qi (fun r2 (_ : Nat → Nat) => r2 = r ∧ (r = 0 ∨ r = 1)) (bB D (xT cI cJ cZ) (fun _ => [(aP, .inr (2, [.ref aP_slots, .ref aP_termsSeen, .ref aP_matches, .ref aP_matchCount, .ref aP_variables, .ref aP_havingVariable, .ref aP_told, .ref aP_parent, .ref aP_allBefore, .int P_required, .int P_hinted, .int P_count]))]) A) A) (by decide) (Nat.le_of_ble_eq_true rfl) ?_
  intro p e s m args below meth c Q A hx hb hr hlk hml hown hin htg hN hK hQ hA hP hD hS ls hl
  have hl : lv_has ls 2 [(0, .ref aP), (1, .int x1)] := hl
  have hown : s.vm.findClass RX2 = some m.cls := hown
  have hf := (f_Patterns_isHinted_u x1 P_hinted).symm.trans hf
  refine lv_aload_n hx hb dX2_isHinted_0 rfl (lv_at hl 0 rfl) ?_
  refine va_get (D := D) (ci := 2) (v := .int P_hinted) (C := RX2) (T := TX2) (N := 12) hx hb htg giX2 hown hK hP 0 rfl rfl 10 (by decide) (htg _ kw_61) (fun _ h9 => h9) rfl dX2_isHinted_1 ?_
  refine lv_iload_n hx hb dX2_isHinted_4 rfl (lv_at hl 1 rfl) ?_
  refine x_z (xrSN (As := [.int P_hinted, .int x1]) (rest := []) ⟨hx, hb, hml, hown, htg⟩ (c_f_JoinOrder_inSet l D cI cJ cZ _ P_hinted x1 rfl) kc_f_JoinOrder_inSet kn_305 kw_306 kw_1 dd_f_JoinOrder_inSet ⟨Nat.le_of_ble_eq_true rfl, Nat.le_of_ble_eq_true rfl⟩ rfl rfl (hP.sub [] rfl) (hD.sub [] (by decide) rfl) hK hN rfl hl.1 rfl (Nat.le_of_ble_eq_true rfl) dX2_isHinted_5 ⟨Nat.le_of_ble_eq_true rfl, Nat.le_of_ble_eq_true rfl⟩) hP hD hS hA [] [0] rfl rfl (by decide) (by decide) (fun _ H locs bz_1 hP hD hS => ?_)
  have hP : va_P D vwCl [(aP, .inr (2, [.ref aP_slots, .ref aP_termsSeen, .ref aP_matches, .ref aP_matchCount, .ref aP_variables, .ref aP_havingVariable, .ref aP_told, .ref aP_parent, .ref aP_allBefore, .int P_required, .int P_hinted, .int P_count]))] H := hP
  have hD : va_D A [(aP, .inr (2, [.ref aP_slots, .ref aP_termsSeen, .ref aP_matches, .ref aP_matchCount, .ref aP_variables, .ref aP_havingVariable, .ref aP_told, .ref aP_parent, .ref aP_allBefore, .int P_required, .int P_hinted, .int P_count]))] := hD
  have hf := hf
  subst hf
  exact x_zret (fun _ => 0) hQ hx hb hr hlk bz_1 hK hP hD hS dX2_isHinted_8
