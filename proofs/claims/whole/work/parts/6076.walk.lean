abbrev rm_f_Plan_has : Room := { frames := 0, cells := 0, slots := 0, locals := 0 }
set_option maxHeartbeats 4000000 in
set_option maxRecDepth 100000 in
theorem c_f_Plan_has (l : Launch) (D : va_G) (cI cJ cZ : ClassId) (sz : Nat) (aM : Nat) (x1 : Int32) (aM_order : Nat) (aM_joins : Nat) (aM_acting : Nat) (aM_estimates : Nat) (aM_actsBehind : Nat) (M_steps : Int32) (M_filters : Int32) {r : Int32} (hf : f_Plan_has x1 M_steps = r) : Met l yX3_has (.code yX3_has cX3_has 2 (some .boolean) :: GW) rm_f_Plan_has (va_Pc [.ref aM, .int x1] (xP D (xT cI cJ cZ) sz [(aM, .inr (3, [.ref aM_order, .ref aM_joins, .ref aM_acting, .ref aM_estimates, .ref aM_actsBehind, .int M_steps, .int M_filters]))])) (va_Qi (fun r2 (_ : Nat → Nat) => r2 = r ∧ (r = 0 ∨ r = 1)) (bB D (xT cI cJ cZ) (fun _ => [(aM, .inr (3, [.ref aM_order, .ref aM_joins, .ref aM_acting, .ref aM_estimates, .ref aM_actsBehind, .int M_steps, .int M_filters]))]) (va_A [(aM, .inr (3, [.ref aM_order, .ref aM_joins, .ref aM_acting, .ref aM_estimates, .ref aM_actsBehind, .int M_steps, .int M_filters]))] sz)) (va_A [(aM, .inr (3, [.ref aM_order, .ref aM_joins, .ref aM_acting, .ref aM_estimates, .ref aM_actsBehind, .int M_steps, .int M_filters]))] sz)) 0 0 (va_A [(aM, .inr (3, [.ref aM_order, .ref aM_joins, .ref aM_acting, .ref aM_estimates, .ref aM_actsBehind, .int M_steps, .int M_filters]))] sz) := by
  refine con_start (y := yX3_has) (bytes := cX3_has) (maxL := 2) (av := [.ref aM, .int x1]) (Qc := fun A => va_Qi (fun r2 (_ : Nat → Nat) => r2 = r ∧ (r = 0 ∨ r = 1)) (bB D (xT cI cJ cZ) (fun _ => [(aM, .inr (3, [.ref aM_order, .ref aM_joins, .ref aM_acting, .ref aM_estimates, .ref aM_actsBehind, .int M_steps, .int M_filters]))]) A) A) (by decide) (Nat.le_of_ble_eq_true rfl) ?_
  intro p e s m args below meth c Q A hx hb hr hlk hml hown hin htg hN hK hQ hA hP hD hS ls hl
  have hl : lv_has ls 2 [(0, .ref aM), (1, .int x1)] := hl
  have hown : s.vm.findClass RX3 = some m.cls := hown
  have hf := (f_Plan_has_u x1 M_steps).symm.trans hf
  refine lv_iload_n hx hb dX3_has_0 rfl (lv_at hl 1 rfl) ?_
  refine lv_if_lt (tgt := 16) hx hb dX3_has_1 (by decide) (fun c_1 => ?_) (fun c_1 => ?_)
  · have hf := xb_t c_1 hf
    refine lv_iconst (v := (0 : Int32)) hx hb dX3_has_16 (by decide) ?_
    have hf := hf
    subst hf
    exact x_zret (fun _ => 0) hQ hx hb hr hlk (by decide) hK hP hD hS dX3_has_17
  · have hf := xb_f c_1 hf
    refine lv_iload_n hx hb dX3_has_4 rfl (lv_at hl 1 rfl) ?_
    refine lv_aload_n hx hb dX3_has_5 rfl (lv_at hl 0 rfl) ?_
    refine va_get (D := D) (ci := 3) (v := .int M_steps) (C := RX3) (T := TX3) (N := 7) hx hb htg giX3 hown hK hP 0 rfl rfl 5 (by decide) (htg _ kw_155) (fun _ h9 => h9) rfl dX3_has_6 ?_
    refine lv_icmp_ge (tgt := 16) hx hb dX3_has_9 (by decide) (fun c_2 => ?_) (fun c_2 => ?_)
    · have hf := xb_t c_2 hf
      refine lv_iconst (v := (0 : Int32)) hx hb dX3_has_16 (by decide) ?_
      have hf := hf
      subst hf
      exact x_zret (fun _ => 0) hQ hx hb hr hlk (by decide) hK hP hD hS dX3_has_17
    · have hf := xb_f c_2 hf
      refine lv_iconst (v := (1 : Int32)) hx hb dX3_has_12 (by decide) ?_
      refine lv_goto (tgt := 17) hx hb dX3_has_13 (by decide) ?_
      have hf := hf
      subst hf
      exact x_zret (fun _ => 0) hQ hx hb hr hlk (by decide) hK hP hD hS dX3_has_17
