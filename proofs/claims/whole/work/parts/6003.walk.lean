abbrev rm_f_Planner_init : Room := { frames := 1, cells := 4, slots := 584, locals := 20 }
set_option maxHeartbeats 4000000 in
set_option maxRecDepth 100000 in
theorem c_f_Planner_init (l : Launch) (D : va_G) (cI cJ cZ : ClassId) (sz : Nat) (aQ : Nat) : Met l yX4_init (.code yX4_init cX4_init 1 none :: GW) rm_f_Planner_init (va_Pc [.ref aQ] (xP D (xT cI cJ cZ) sz [(aQ, .inr (4, [.null, .null, .null, .null]))])) (va_Qv (fun (_ : Nat → Nat) => True) (bB D (xT cI cJ cZ) (fun u => [(aQ, .inr (4, [.ref (u 0), .ref (u 1), .ref (u 2), .ref (u 3)])), ((u 0), .inl (cI, 64, .inl (fun _ => 0))), ((u 1), .inl (cI, 8, .inl (fun _ => 0))), ((u 2), .inl (cJ, 256, .inr (.inl (fun _ => 0)))), ((u 3), .inl (cJ, 256, .inr (.inl (fun _ => 0))))]) (va_A [(aQ, .inr (4, [.null, .null, .null, .null]))] sz)) (va_A [(aQ, .inr (4, [.null, .null, .null, .null]))] sz)) 4 584 (va_A [(aQ, .inr (4, [.null, .null, .null, .null]))] sz) := by
  refine con_start (y := yX4_init) (bytes := cX4_init) (maxL := 1) (av := [.ref aQ]) (Qc := fun A => va_Qv (fun (_ : Nat → Nat) => True) (bB D (xT cI cJ cZ) (fun u => [(aQ, .inr (4, [.ref (u 0), .ref (u 1), .ref (u 2), .ref (u 3)])), ((u 0), .inl (cI, 64, .inl (fun _ => 0))), ((u 1), .inl (cI, 8, .inl (fun _ => 0))), ((u 2), .inl (cJ, 256, .inr (.inl (fun _ => 0)))), ((u 3), .inl (cJ, 256, .inr (.inl (fun _ => 0))))]) A) A) (by decide) (Nat.le_of_ble_eq_true rfl) ?_
  intro p e s m args below meth c Q A hx hb hr hlk hml hown hin htg hN hK hQ hA hP hD hS ls hl
  have hl : lv_has ls 1 [(0, .ref aQ)] := hl
  have hown : s.vm.findClass RX4 = some m.cls := hown
  have hin : meth.name = "<init>" := hin
  refine lv_aload_n hx hb dX4_init_0 rfl (lv_at hl 0 rfl) ?_
  refine W.objInit hx hb hown (htg _ kw_121) (htg _ kw_17) (htg _ kw_18) rfl (by rw [hml]; exact hl.1) rfl dX4_init_1 (Nat.le_of_ble_eq_true rfl) (Nat.le_of_ble_eq_true rfl) ?_
  refine W.eq (g2 := F0 m 4 ls []) rfl ?_
  refine lv_aload_n hx hb dX4_init_4 rfl (lv_at hl 0 rfl) ?_
  refine lv_bipush (v := (64 : Int32)) hx hb dX4_init_5 (by decide) ?_
  refine x_newI (N := 64) hx hb (htg _ kw_35) hK hP hD hS hA 0 rfl (by decide) (by decide) (by decide) (Nat.le_of_ble_eq_true rfl) (Nat.le_of_ble_eq_true rfl) dX4_init_7 (fun q_1 H hP hD hS => ?_)
  refine W.cs (cells' := 1) (slots' := 64) rfl rfl ?_
  have hP : va_P D vwCl [(aQ, .inr (4, [.null, .null, .null, .null])), (q_1, .inl (cI, 64, .inl (fun _ => 0)))] H := hP
  have hD : va_D A [(aQ, .inr (4, [.null, .null, .null, .null])), (q_1, .inl (cI, 64, .inl (fun _ => 0)))] := hD
  refine va_putF (D := D) (ci := 4) (v := .ref q_1) (ty := (.array .int)) (C := RX4) (T := TX4) (N := 4) hx hb htg giX4 tyX4 tyX4_ok nmX4 hown hK hP hD hS 0 rfl rfl 0 (by decide) (htg _ kw_122) (fun _ h9 => h9) rfl hin rfl (by decide +kernel) rfl rfl (Nat.le_of_ble_eq_true rfl) dX4_init_9 (fun H locs hP hD hS => ?_)
  have hP : va_P D vwCl [(aQ, .inr (4, [.ref q_1, .null, .null, .null])), (q_1, .inl (cI, 64, .inl (fun _ => 0)))] H := hP
  have hD : va_D A [(aQ, .inr (4, [.ref q_1, .null, .null, .null])), (q_1, .inl (cI, 64, .inl (fun _ => 0)))] := hD
  refine lv_aload_n hx hb dX4_init_12 rfl (lv_at hl 0 rfl) ?_
  refine lv_bipush (v := (8 : Int32)) hx hb dX4_init_13 (by decide) ?_
  refine x_newI (N := 8) hx hb (htg _ kw_35) hK hP hD hS hA 0 rfl (by decide) (by decide) (by decide) (Nat.le_of_ble_eq_true rfl) (Nat.le_of_ble_eq_true rfl) dX4_init_15 (fun q_2 H hP hD hS => ?_)
  refine W.cs (cells' := 2) (slots' := 72) rfl rfl ?_
  have hP : va_P D vwCl [(aQ, .inr (4, [.ref q_1, .null, .null, .null])), (q_1, .inl (cI, 64, .inl (fun _ => 0))), (q_2, .inl (cI, 8, .inl (fun _ => 0)))] H := hP
  have hD : va_D A [(aQ, .inr (4, [.ref q_1, .null, .null, .null])), (q_1, .inl (cI, 64, .inl (fun _ => 0))), (q_2, .inl (cI, 8, .inl (fun _ => 0)))] := hD
  refine va_putF (D := D) (ci := 4) (v := .ref q_2) (ty := (.array .int)) (C := RX4) (T := TX4) (N := 4) hx hb htg giX4 tyX4 tyX4_ok nmX4 hown hK hP hD hS 0 rfl rfl 1 (by decide) (htg _ kw_123) (fun _ h9 => h9) rfl hin rfl (by decide +kernel) rfl rfl (Nat.le_of_ble_eq_true rfl) dX4_init_17 (fun H locs hP hD hS => ?_)
  have hP : va_P D vwCl [(aQ, .inr (4, [.ref q_1, .ref q_2, .null, .null])), (q_1, .inl (cI, 64, .inl (fun _ => 0))), (q_2, .inl (cI, 8, .inl (fun _ => 0)))] H := hP
  have hD : va_D A [(aQ, .inr (4, [.ref q_1, .ref q_2, .null, .null])), (q_1, .inl (cI, 64, .inl (fun _ => 0))), (q_2, .inl (cI, 8, .inl (fun _ => 0)))] := hD
  refine lv_aload_n hx hb dX4_init_20 rfl (lv_at hl 0 rfl) ?_
  refine lv_sipush (v := (256 : Int32)) hx hb dX4_init_21 (by decide) ?_
  refine x_newJ (N := 256) hx hb (htg _ kw_135) hK hP hD hS hA 1 rfl (by decide) (by decide) (by decide) (Nat.le_of_ble_eq_true rfl) (Nat.le_of_ble_eq_true rfl) dX4_init_24 (fun q_3 H hP hD hS => ?_)
  refine W.cs (cells' := 3) (slots' := 328) rfl rfl ?_
  have hP : va_P D vwCl [(aQ, .inr (4, [.ref q_1, .ref q_2, .null, .null])), (q_1, .inl (cI, 64, .inl (fun _ => 0))), (q_2, .inl (cI, 8, .inl (fun _ => 0))), (q_3, .inl (cJ, 256, .inr (.inl (fun _ => 0))))] H := hP
  have hD : va_D A [(aQ, .inr (4, [.ref q_1, .ref q_2, .null, .null])), (q_1, .inl (cI, 64, .inl (fun _ => 0))), (q_2, .inl (cI, 8, .inl (fun _ => 0))), (q_3, .inl (cJ, 256, .inr (.inl (fun _ => 0))))] := hD
  refine va_putF (D := D) (ci := 4) (v := .ref q_3) (ty := (.array .long)) (C := RX4) (T := TX4) (N := 4) hx hb htg giX4 tyX4 tyX4_ok nmX4 hown hK hP hD hS 0 rfl rfl 2 (by decide) (htg _ kw_124) (fun _ h9 => h9) rfl hin rfl (by decide +kernel) rfl rfl (Nat.le_of_ble_eq_true rfl) dX4_init_26 (fun H locs hP hD hS => ?_)
  have hP : va_P D vwCl [(aQ, .inr (4, [.ref q_1, .ref q_2, .ref q_3, .null])), (q_1, .inl (cI, 64, .inl (fun _ => 0))), (q_2, .inl (cI, 8, .inl (fun _ => 0))), (q_3, .inl (cJ, 256, .inr (.inl (fun _ => 0))))] H := hP
  have hD : va_D A [(aQ, .inr (4, [.ref q_1, .ref q_2, .ref q_3, .null])), (q_1, .inl (cI, 64, .inl (fun _ => 0))), (q_2, .inl (cI, 8, .inl (fun _ => 0))), (q_3, .inl (cJ, 256, .inr (.inl (fun _ => 0))))] := hD
  refine lv_aload_n hx hb dX4_init_29 rfl (lv_at hl 0 rfl) ?_
  refine lv_sipush (v := (256 : Int32)) hx hb dX4_init_30 (by decide) ?_
  refine x_newJ (N := 256) hx hb (htg _ kw_135) hK hP hD hS hA 1 rfl (by decide) (by decide) (by decide) (Nat.le_of_ble_eq_true rfl) (Nat.le_of_ble_eq_true rfl) dX4_init_33 (fun q_4 H hP hD hS => ?_)
  refine W.cs (cells' := 4) (slots' := 584) rfl rfl ?_
  have hP : va_P D vwCl [(aQ, .inr (4, [.ref q_1, .ref q_2, .ref q_3, .null])), (q_1, .inl (cI, 64, .inl (fun _ => 0))), (q_2, .inl (cI, 8, .inl (fun _ => 0))), (q_3, .inl (cJ, 256, .inr (.inl (fun _ => 0)))), (q_4, .inl (cJ, 256, .inr (.inl (fun _ => 0))))] H := hP
  have hD : va_D A [(aQ, .inr (4, [.ref q_1, .ref q_2, .ref q_3, .null])), (q_1, .inl (cI, 64, .inl (fun _ => 0))), (q_2, .inl (cI, 8, .inl (fun _ => 0))), (q_3, .inl (cJ, 256, .inr (.inl (fun _ => 0)))), (q_4, .inl (cJ, 256, .inr (.inl (fun _ => 0))))] := hD
  refine va_putF (D := D) (ci := 4) (v := .ref q_4) (ty := (.array .long)) (C := RX4) (T := TX4) (N := 4) hx hb htg giX4 tyX4 tyX4_ok nmX4 hown hK hP hD hS 0 rfl rfl 3 (by decide) (htg _ kw_125) (fun _ h9 => h9) rfl hin rfl (by decide +kernel) rfl rfl (Nat.le_of_ble_eq_true rfl) dX4_init_35 (fun H locs hP hD hS => ?_)
  have hP : va_P D vwCl [(aQ, .inr (4, [.ref q_1, .ref q_2, .ref q_3, .ref q_4])), (q_1, .inl (cI, 64, .inl (fun _ => 0))), (q_2, .inl (cI, 8, .inl (fun _ => 0))), (q_3, .inl (cJ, 256, .inr (.inl (fun _ => 0)))), (q_4, .inl (cJ, 256, .inr (.inl (fun _ => 0))))] H := hP
  have hD : va_D A [(aQ, .inr (4, [.ref q_1, .ref q_2, .ref q_3, .ref q_4])), (q_1, .inl (cI, 64, .inl (fun _ => 0))), (q_2, .inl (cI, 8, .inl (fun _ => 0))), (q_3, .inl (cJ, 256, .inr (.inl (fun _ => 0)))), (q_4, .inl (cJ, 256, .inr (.inl (fun _ => 0))))] := hD
  exact x_vret (fun k => [q_1, q_2, q_3, q_4].getD k 0) hQ hx hb hr hlk hK hP hD hS dX4_init_38
