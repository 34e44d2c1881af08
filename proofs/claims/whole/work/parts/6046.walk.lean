abbrev rm_f_Planner_dividedUp : Room := { frames := 0, cells := 0, slots := 0, locals := 0 }
set_option maxHeartbeats 4000000 in
set_option maxRecDepth 100000 in
theorem c_f_Planner_dividedUp (l : Launch) (D : va_G) (cI cJ cZ : ClassId) (sz : Nat) (x0 : Int64) (x2 : Int32) {r : Int64} (hf : f_Planner_dividedUp x0 x2 = some r) : Met l yX4_dividedUp (.code yX4_dividedUp cX4_dividedUp 3 (some .long) :: GW) rm_f_Planner_dividedUp (va_Pc [.long x0, .int x2] (xP D (xT cI cJ cZ) sz [])) (va_Ql (fun r2 (_ : Nat → Nat) => r2 = r) (bB D (xT cI cJ cZ) (fun _ => []) (va_A [] sz)) (va_A [] sz)) 0 0 (va_A [] sz) := by
  refine con_start (y := yX4_dividedUp) (bytes := cX4_dividedUp) (maxL := 3) (av := [.long x0, .int x2]) (Qc := fun A => va_Ql (fun r2 (_ : Nat → Nat) => r2 = r) (bB D (xT cI cJ cZ) (fun _ => []) A) A) (by decide) (Nat.le_of_ble_eq_true rfl) ?_
  intro p e s m args below meth c Q A hx hb hr hlk hml hown hin htg hN hK hQ hA hP hD hS ls hl
  have hl : lv_has ls 3 [(0, .long x0), (2, .int x2)] := hl
  have hown : s.vm.findClass RX4 = some m.cls := hown
  have hf := (f_Planner_dividedUp_u x0 x2).symm.trans hf
  refine lv_iload_n hx hb dX4_dividedUp_0 rfl (lv_at hl 1 rfl) ?_
  refine lv_iconst (v := (1 : Int32)) hx hb dX4_dividedUp_1 (by decide) ?_
  refine lv_icmp_le (tgt := 17) hx hb dX4_dividedUp_2 (by decide) (fun c_1 => ?_) (fun c_1 => ?_)
  · have hf := xb_t c_1 hf
    refine lv_lload_n hx hb dX4_dividedUp_17 rfl (lv_at hl 0 rfl) ?_
    have hf := Option.some.inj hf
    subst hf
    exact x_lret (fun _ => 0) hQ hx hb hr hlk hK hP hD hS dX4_dividedUp_18
  · have hf := xb_f c_1 hf
    refine lv_lload_n hx hb dX4_dividedUp_5 rfl (lv_at hl 0 rfl) ?_
    refine lv_iload_n hx hb dX4_dividedUp_6 rfl (lv_at hl 1 rfl) ?_
    refine lv_i2l hx hb dX4_dividedUp_7 rfl ?_
    refine lv_ladd hx hb dX4_dividedUp_8 ?_
    refine lv_lconst (v := (1 : Int64)) hx hb dX4_dividedUp_9 (by decide) ?_
    refine lv_lsub hx hb dX4_dividedUp_10 ?_
    refine lv_iload_n hx hb dX4_dividedUp_11 rfl (lv_at hl 1 rfl) ?_
    refine lv_i2l hx hb dX4_dividedUp_12 rfl ?_
    have g_2 : ¬ x2.toInt64 = 0 := gz_in hf
    have hf := gz_el hf
    refine lv_ldiv hx hb dX4_dividedUp_13 g_2 ?_
    refine lv_goto (tgt := 18) hx hb dX4_dividedUp_14 (by decide) ?_
    have hf := Option.some.inj hf
    subst hf
    exact x_lret (fun _ => 0) hQ hx hb hr hlk hK hP hD hS dX4_dividedUp_18
