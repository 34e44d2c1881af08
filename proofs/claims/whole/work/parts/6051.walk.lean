abbrev rm_f_Planner_costThrough : Room := { frames := 0, cells := 0, slots := 0, locals := 0 }
set_option maxHeartbeats 4000000 in
set_option maxRecDepth 100000 in
theorem c_f_Planner_costThrough (l : Launch) (D : va_G) (cI cJ cZ : ClassId) (sz : Nat) (aQ : Nat) (x1 : Int32) (x2 : Int32) (aQ_spreads : Nat) (aQ_sizes : Nat) (aQ_estimates : Nat) (aQ_costAhead : Nat) (Q_estimates : Nat → Int64) (Q_costAhead : Nat → Int64) {r : Int64} (hf : f_Planner_costThrough x1 x2 Q_estimates Q_costAhead = some r) : Met l yX4_costThrough (.code yX4_costThrough cX4_costThrough 4 (some .long) :: GW) rm_f_Planner_costThrough (va_Pc [.ref aQ, .int x1, .int x2] (xP D (xT cI cJ cZ) sz [(aQ, .inr (4, [.ref aQ_spreads, .ref aQ_sizes, .ref aQ_estimates, .ref aQ_costAhead])), (aQ_estimates, .inl (cJ, 256, .inr (.inl Q_estimates))), (aQ_costAhead, .inl (cJ, 256, .inr (.inl Q_costAhead)))])) (va_Ql (fun r2 (_ : Nat → Nat) => r2 = r) (bB D (xT cI cJ cZ) (fun _ => [(aQ, .inr (4, [.ref aQ_spreads, .ref aQ_sizes, .ref aQ_estimates, .ref aQ_costAhead])), (aQ_estimates, .inl (cJ, 256, .inr (.inl Q_estimates))), (aQ_costAhead, .inl (cJ, 256, .inr (.inl Q_costAhead)))]) (va_A [(aQ, .inr (4, [.ref aQ_spreads, .ref aQ_sizes, .ref aQ_estimates, .ref aQ_costAhead])), (aQ_estimates, .inl (cJ, 256, .inr (.inl Q_estimates))), (aQ_costAhead, .inl (cJ, 256, .inr (.inl Q_costAhead)))] sz)) (va_A [(aQ, .inr (4, [.ref aQ_spreads, .ref aQ_sizes, .ref aQ_estimates, .ref aQ_costAhead])), (aQ_estimates, .inl (cJ, 256, .inr (.inl Q_estimates))), (aQ_costAhead, .inl (cJ, 256, .inr (.inl Q_costAhead)))] sz)) 0 0 (va_A [(aQ, .inr (4, [.ref aQ_spreads, .ref aQ_sizes, .ref aQ_estimates, .ref aQ_costAhead])), (aQ_estimates, .inl (cJ, 256, .inr (.inl Q_estimates))), (aQ_costAhead, .inl (cJ, 256, .inr (.inl Q_costAhead)))] sz) := by
  refine con_start (y := yX4_costThrough) (bytes := cX4_costThrough) (maxL := 4) (av := [.ref aQ, .int x1, .int x2]) (Qc := fun A => va_Ql (fun r2 (_ : Nat → Nat) => r2 = r) (bB D (xT cI cJ cZ) (fun _ => [(aQ, .inr (4, [.ref aQ_spreads, .ref aQ_sizes, .ref aQ_estimates, .ref aQ_costAhead])), (aQ_estimates, .inl (cJ, 256, .inr (.inl Q_estimates))), (aQ_costAhead, .inl (cJ, 256, .inr (.inl Q_costAhead)))]) A) A) (by decide) (Nat.le_of_ble_eq_true rfl) ?_
  intro p e s m args below meth c Q A hx hb hr hlk hml hown hin htg hN hK hQ hA hP hD hS ls hl
  have hl : lv_has ls 4 [(0, .ref aQ), (1, .int x1), (2, .int x2)] := hl
  have hown : s.vm.findClass RX4 = some m.cls := hown
  have hf := (f_Planner_costThrough_u x1 x2 Q_estimates Q_costAhead).symm.trans hf
  refine lv_iload_n hx hb dX4_costThrough_0 rfl (lv_at hl 1 rfl) ?_
  refine lv_iconst (v := (1 : Int32)) hx hb dX4_costThrough_1 (by decide) ?_
  refine lv_iload_n hx hb dX4_costThrough_2 rfl (lv_at hl 2 rfl) ?_
  refine lv_ishl hx hb dX4_costThrough_3 ?_
  refine lv_ior hx hb dX4_costThrough_4 ?_
  refine lv_topi (fun x3_1 ex3_1 => ?_)
  have hf := nm_nm ex3_1 hf
  refine lv_istore_n (lv' := [(3, .int x3_1), (0, .ref aQ), (1, .int x1), (2, .int x2)]) hx hb dX4_costThrough_5 rfl hl (by decide) rfl (fun ls hl => ?_)
  refine lv_aload_n hx hb dX4_costThrough_6 rfl (lv_at hl 1 rfl) ?_
  refine va_get (D := D) (ci := 4) (v := .ref aQ_estimates) (C := RX4) (T := TX4) (N := 4) hx hb htg giX4 hown hK hP 0 rfl rfl 2 (by decide) (htg _ kw_124) (fun _ h9 => h9) rfl dX4_costThrough_7 ?_
  refine lv_iload_n hx hb dX4_costThrough_10 rfl (lv_at hl 0 rfl) ?_
  have g_2 : vp_in x3_1 256 := gd_in hf
  have hf := gd_el hf
  refine va_lald hx hb hK hP 1 1 rfl rfl g_2 dX4_costThrough_11 ?_
  refine lv_aload_n hx hb dX4_costThrough_12 rfl (lv_at hl 1 rfl) ?_
  refine va_get (D := D) (ci := 4) (v := .ref aQ_costAhead) (C := RX4) (T := TX4) (N := 4) hx hb htg giX4 hown hK hP 0 rfl rfl 3 (by decide) (htg _ kw_125) (fun _ h9 => h9) rfl dX4_costThrough_13 ?_
  refine lv_iload_n hx hb dX4_costThrough_16 rfl (lv_at hl 0 rfl) ?_
  refine va_lald hx hb hK hP 2 1 rfl rfl g_2 dX4_costThrough_17 ?_
  refine lv_ladd hx hb dX4_costThrough_18 ?_
  have hf := Option.some.inj hf
  subst hf
  exact x_lret (fun _ => 0) hQ hx hb hr hlk hK hP hD hS dX4_costThrough_19
