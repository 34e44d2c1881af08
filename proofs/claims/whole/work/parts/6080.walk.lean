abbrev rm_f_JoinOrder_move : Room := { frames := 0, cells := 0, slots := 0, locals := 0 }
set_option maxHeartbeats 4000000 in
set_option maxRecDepth 100000 in
theorem c_f_JoinOrder_move (l : Launch) (D : va_G) (cI cJ cZ : ClassId) (sz : Nat) (aJ : Nat) (x1 : Int32) (aT : Nat) (aP : Nat) (aF : Nat) (aQ : Nat) (aM : Nat) (aB : Nat) (J_hasRun : Int32) (aJ_plainOrder : Nat) (aC : Nat) (aM_order : Nat) (aM_joins : Nat) (aM_acting : Nat) (aM_estimates : Nat) (aM_actsBehind : Nat) (M_steps : Int32) (M_filters : Int32) (M_actsBehind : Nat → Int32) {r : Int32} (hf : f_JoinOrder_move x1 M_steps M_filters M_actsBehind = some r) : Met l yX0_move (.code yX0_move cX0_move 2 (some .int) :: GW) rm_f_JoinOrder_move (va_Pc [.ref aJ, .int x1] (xP D (xT cI cJ cZ) sz [(aJ, .inr (0, [.ref aT, .ref aP, .ref aF, .ref aQ, .ref aM, .ref aB, .int J_hasRun, .ref aJ_plainOrder, .ref aC])), (aM, .inr (3, [.ref aM_order, .ref aM_joins, .ref aM_acting, .ref aM_estimates, .ref aM_actsBehind, .int M_steps, .int M_filters])), (aM_actsBehind, .inl (cI, 8, .inl M_actsBehind))])) (va_Qi (fun r2 (_ : Nat → Nat) => r2 = r) (bB D (xT cI cJ cZ) (fun _ => [(aJ, .inr (0, [.ref aT, .ref aP, .ref aF, .ref aQ, .ref aM, .ref aB, .int J_hasRun, .ref aJ_plainOrder, .ref aC])), (aM, .inr (3, [.ref aM_order, .ref aM_joins, .ref aM_acting, .ref aM_estimates, .ref aM_actsBehind, .int M_steps, .int M_filters])), (aM_actsBehind, .inl (cI, 8, .inl M_actsBehind))]) (va_A [(aJ, .inr (0, [.ref aT, .ref aP, .ref aF, .ref aQ, .ref aM, .ref aB, .int J_hasRun, .ref aJ_plainOrder, .ref aC])), (aM, .inr (3, [.ref aM_order, .ref aM_joins, .ref aM_acting, .ref aM_estimates, .ref aM_actsBehind, .int M_steps, .int M_filters])), (aM_actsBehind, .inl (cI, 8, .inl M_actsBehind))] sz)) (va_A [(aJ, .inr (0, [.ref aT, .ref aP, .ref aF, .ref aQ, .ref aM, .ref aB, .int J_hasRun, .ref aJ_plainOrder, .ref aC])), (aM, .inr (3, [.ref aM_order, .ref aM_joins, .ref aM_acting, .ref aM_estimates, .ref aM_actsBehind, .int M_steps, .int M_filters])), (aM_actsBehind, .inl (cI, 8, .inl M_actsBehind))] sz)) 0 0 (va_A [(aJ, .inr (0, [.ref aT, .ref aP, .ref aF, .ref aQ, .ref aM, .ref aB, .int J_hasRun, .ref aJ_plainOrder, .ref aC])), (aM, .inr (3, [.ref aM_order, .ref aM_joins, .ref aM_acting, .ref aM_estimates, .ref aM_actsBehind, .int M_steps, .int M_filters])), (aM_actsBehind, .inl (cI, 8, .inl M_actsBehind))] sz) := by
  refine con_start (y := yX0_move) (bytes := cX0_move) (maxL := 2) (av := [.ref aJ, .int x1]) (Qc := fun A => va_Qi (fun r2 (_ : Nat → Nat) => r2 = r) (bB D (xT cI cJ cZ) (fun _ => [(aJ, .inr (0, [.ref aT, .ref aP, .ref aF, .ref aQ, .ref aM, .ref aB, .int J_hasRun, .ref aJ_plainOrder, .ref aC])), (aM, .inr (3, [.ref aM_order, .ref aM_joins, .ref aM_acting, .ref aM_estimates, .ref aM_actsBehind, .int M_steps, .int M_filters])), (aM_actsBehind, .inl (cI, 8, .inl M_actsBehind))]) A) A) (by decide) (Nat.le_of_ble_eq_true rfl) ?_
  intro p e s m args below meth c Q A hx hb hr hlk hml hown hin htg hN hK hQ hA hP hD hS ls hl
  have hl : lv_has ls 2 [(0, .ref aJ), (1, .int x1)] := hl
  have hown : s.vm.findClass RX0 = some m.cls := hown
  have hf := (f_JoinOrder_move_u x1 M_steps M_filters M_actsBehind).symm.trans hf
  refine lv_iload_n hx hb dX0_move_0 rfl (lv_at hl 1 rfl) ?_
  refine lv_if_lt (tgt := 15) hx hb dX0_move_1 (by decide) (fun c_1 => ?_) (fun c_1 => ?_)
  · have hf := xb_t c_1 hf
    refine lv_iconst (v := (-1 : Int32)) hx hb dX0_move_15 (by decide) ?_
    have hf := Option.some.inj hf
    subst hf
    exact x_iret (fun _ => 0) hQ hx hb hr hlk hK hP hD hS dX0_move_16
  · have hf := xb_f c_1 hf
    refine lv_iload_n hx hb dX0_move_4 rfl (lv_at hl 1 rfl) ?_
    refine lv_aload_n hx hb dX0_move_5 rfl (lv_at hl 0 rfl) ?_
    refine va_get (D := D) (ci := 0) (v := .ref aM) (C := RX0) (T := TX0) (N := 9) hx hb htg giX0 hown hK hP 0 rfl rfl 4 (by decide) (htg _ kw_204) (fun _ h9 => h9) rfl dX0_move_6 ?_
    refine va_getN (D := D) (ci := 3) (v := .int M_filters) (C := RX3) (T := TX3) (N := 7) hx hb htg giX3 hown hK hP 1 rfl rfl 6 (by decide) (va_Nw.use rfl (hN _ kn_159)) (fun _ h9 => h9) rfl dX0_move_9 ?_
    refine lv_icmp_lt (tgt := 17) hx hb dX0_move_12 (by decide) (fun c_2 => ?_) (fun c_2 => ?_)
    · have hf := xb_t c_2 hf
      refine lv_aload_n hx hb dX0_move_17 rfl (lv_at hl 0 rfl) ?_
      refine va_get (D := D) (ci := 0) (v := .ref aM) (C := RX0) (T := TX0) (N := 9) hx hb htg giX0 hown hK hP 0 rfl rfl 4 (by decide) (htg _ kw_204) (fun _ h9 => h9) rfl dX0_move_18 ?_
      refine va_getN (D := D) (ci := 3) (v := .int M_steps) (C := RX3) (T := TX3) (N := 7) hx hb htg giX3 hown hK hP 1 rfl rfl 5 (by decide) (va_Nw.use rfl (hN _ kn_157)) (fun _ h9 => h9) rfl dX0_move_21 ?_
      refine lv_if_ne (tgt := 32) hx hb dX0_move_24 (by decide) (fun c_3 => ?_) (fun c_3 => ?_)
      · have hf := xb_f c_3 hf
        refine lv_aload_n hx hb dX0_move_32 rfl (lv_at hl 0 rfl) ?_
        refine va_get (D := D) (ci := 0) (v := .ref aM) (C := RX0) (T := TX0) (N := 9) hx hb htg giX0 hown hK hP 0 rfl rfl 4 (by decide) (htg _ kw_204) (fun _ h9 => h9) rfl dX0_move_33 ?_
        refine va_getN (D := D) (ci := 3) (v := .ref aM_actsBehind) (C := RX3) (T := TX3) (N := 7) hx hb htg giX3 hown hK hP 1 rfl rfl 4 (by decide) (va_Nw.use rfl (hN _ kn_154)) (fun _ h9 => h9) rfl dX0_move_36 ?_
        refine lv_iload_n hx hb dX0_move_39 rfl (lv_at hl 1 rfl) ?_
        have g_4 : vp_in x1 8 := gd_in hf
        have hf := gd_el hf
        refine va_iald hx hb hK hP 2 0 rfl rfl g_4 dX0_move_40 ?_
        have hf := Option.some.inj hf
        subst hf
        exact x_iret (fun _ => 0) hQ hx hb hr hlk hK hP hD hS dX0_move_41
      · have hf := xb_t c_3 hf
        refine lv_bipush (v := (-3 : Int32)) hx hb dX0_move_27 (by decide) ?_
        refine lv_goto (tgt := 41) hx hb dX0_move_29 (by decide) ?_
        have hf := Option.some.inj hf
        subst hf
        exact x_iret (fun _ => 0) hQ hx hb hr hlk hK hP hD hS dX0_move_41
    · have hf := xb_f c_2 hf
      refine lv_iconst (v := (-1 : Int32)) hx hb dX0_move_15 (by decide) ?_
      have hf := Option.some.inj hf
      subst hf
      exact x_iret (fun _ => 0) hQ hx hb hr hlk hK hP hD hS dX0_move_16
