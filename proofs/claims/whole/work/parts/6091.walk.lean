abbrev rm_f_Filters_all : Room := { frames := 0, cells := 0, slots := 0, locals := 0 }
set_option maxHeartbeats 4000000 in
set_option maxRecDepth 100000 in
theorem c_f_Filters_all (l : Launch) (D : va_G) (cI cJ cZ : ClassId) (sz : Nat) (aF : Nat) (aF_variable : Nat) (aF_kind : Nat) (aF_value : Nat) (F_safeOnes : Int32) (F_count : Int32) {r : Int32} (hf : f_Filters_all F_count = r) : Met l yX1_all (.code yX1_all cX1_all 1 (some .int) :: GW) rm_f_Filters_all (va_Pc [.ref aF] (xP D (xT cI cJ cZ) sz [(aF, .inr (1, [.ref aF_variable, .ref aF_kind, .ref aF_value, .int F_safeOnes, .int F_count]))])) (va_Qi (fun r2 (_ : Nat → Nat) => r2 = r) (bB D (xT cI cJ cZ) (fun _ => [(aF, .inr (1, [.ref aF_variable, .ref aF_kind, .ref aF_value, .int F_safeOnes, .int F_count]))]) (va_A [(aF, .inr (1, [.ref aF_variable, .ref aF_kind, .ref aF_value, .int F_safeOnes, .int F_count]))] sz)) (va_A [(aF, .inr (1, [.ref aF_variable, .ref aF_kind, .ref aF_value, .int F_safeOnes, .int F_count]))] sz)) 0 0 (va_A [(aF, .inr (1, [.ref aF_variable, .ref aF_kind, .ref aF_value, .int F_safeOnes, .int F_count]))] sz) := by
  refine con_start (y := yX1_all) (bytes := cX1_all) (maxL := 1) (av := [.ref aF]) (Qc := fun A => va_Qi (fun r2 (_ : Nat → Nat) => r2 = r) (bB D (xT cI cJ cZ) (fun _ => [(aF, .inr (1, [.ref aF_variable, .ref aF_kind, .ref aF_value, .int F_safeOnes, .int F_count]))]) A) A) (by decide) (Nat.le_of_ble_eq_true rfl) ?_
  intro p e s m args below meth c Q A hx hb hr hlk hml hown hin htg hN hK hQ hA hP hD hS ls hl
  have hl : lv_has ls 1 [(0, .ref aF)] := hl
  have hown : s.vm.findClass RX1 = some m.cls := hown
  have hf := (f_Filters_all_u F_count).symm.trans hf
  refine lv_iconst (v := (1 : Int32)) hx hb dX1_all_0 (by decide) ?_
  refine lv_aload_n hx hb dX1_all_1 rfl (lv_at hl 0 rfl) ?_
  refine va_get (D := D) (ci := 1) (v := .int F_count) (C := RX1) (T := TX1) (N := 5) hx hb htg giX1 hown hK hP 0 rfl rfl 4 (by decide) (htg _ kw_102) (fun _ h9 => h9) rfl dX1_all_2 ?_
  refine lv_ishl hx hb dX1_all_5 ?_
  refine lv_iconst (v := (1 : Int32)) hx hb dX1_all_6 (by decide) ?_
  refine lv_isub hx hb dX1_all_7 ?_
  have hf := hf
  subst hf
  exact x_iret (fun _ => 0) hQ hx hb hr hlk hK hP hD hS dX1_all_8
abbrev rm_f_Table_answer : Room := { frames := 0, cells := 0, slots := 0, locals := 0 }
set_option maxHeartbeats 4000000 in
set_option maxRecDepth 100000 in
theorem c_f_Table_answer (l : Launch) (D : va_G) (cI cJ cZ : ClassId) (sz : Nat) (aB : Nat) (aB_rows : Nat) (aB_spare : Nat) (B_count : Int32) (B_found : Int32) (B_crowded : Int32) {r : Int32} (hf : f_Table_answer B_count B_crowded = r) : Met l yX5_answer (.code yX5_answer cX5_answer 1 (some .int) :: GW) rm_f_Table_answer (va_Pc [.ref aB] (xP D (xT cI cJ cZ) sz [(aB, .inr (5, [.ref aB_rows, .ref aB_spare, .int B_count, .int B_found, .int B_crowded]))])) (va_Qi (fun r2 (_ : Nat → Nat) => r2 = r) (bB D (xT cI cJ cZ) (fun _ => [(aB, .inr (5, [.ref aB_rows, .ref aB_spare, .int B_count, .int B_found, .int B_crowded]))]) (va_A [(aB, .inr (5, [.ref aB_rows, .ref aB_spare, .int B_count, .int B_found, .int B_crowded]))] sz)) (va_A [(aB, .inr (5, [.ref aB_rows, .ref aB_spare, .int B_count, .int B_found, .int B_crowded]))] sz)) 0 0 (va_A [(aB, .inr (5, [.ref aB_rows, .ref aB_spare, .int B_count, .int B_found, .int B_crowded]))] sz) := by
  refine con_start (y := yX5_answer) (bytes := cX5_answer) (maxL := 1) (av := [.ref aB]) (Qc := fun A => va_Qi (fun r2 (_ : Nat → Nat) => r2 = r) (bB D (xT cI cJ cZ) (fun _ => [(aB, .inr (5, [.ref aB_rows, .ref aB_spare, .int B_count, .int B_found, .int B_crowded]))]) A) A) (by decide) (Nat.le_of_ble_eq_true rfl) ?_
  intro p e s m args below meth c Q A hx hb hr hlk hml hown hin htg hN hK hQ hA hP hD hS ls hl
  have hl : lv_has ls 1 [(0, .ref aB)] := hl
  have hown : s.vm.findClass RX5 = some m.cls := hown
  have hf := (f_Table_answer_u B_count B_crowded).symm.trans hf
  refine lv_aload_n hx hb dX5_answer_0 rfl (lv_at hl 0 rfl) ?_
  refine va_get (D := D) (ci := 5) (v := .int B_crowded) (C := RX5) (T := TX5) (N := 5) hx hb htg giX5 hown hK hP 0 rfl rfl 4 (by decide) (htg _ kw_187) (fun _ h9 => h9) rfl dX5_answer_1 ?_
  refine lv_if_eq (tgt := 12) hx hb dX5_answer_4 (by decide) (fun c_1 => ?_) (fun c_1 => ?_)
  · have hf := xb_t c_1 hf
    refine lv_aload_n hx hb dX5_answer_12 rfl (lv_at hl 0 rfl) ?_
    refine va_get (D := D) (ci := 5) (v := .int B_count) (C := RX5) (T := TX5) (N := 5) hx hb htg giX5 hown hK hP 0 rfl rfl 2 (by decide) (htg _ kw_184) (fun _ h9 => h9) rfl dX5_answer_13 ?_
    have hf := hf
    subst hf
    exact x_iret (fun _ => 0) hQ hx hb hr hlk hK hP hD hS dX5_answer_16
  · have hf := xb_f c_1 hf
    refine lv_bipush (v := (-4 : Int32)) hx hb dX5_answer_7 (by decide) ?_
    refine lv_goto (tgt := 16) hx hb dX5_answer_9 (by decide) ?_
    have hf := hf
    subst hf
    exact x_iret (fun _ => 0) hQ hx hb hr hlk hK hP hD hS dX5_answer_16
