abbrev rm_f_Plan_init : Room := { frames := 1, cells := 5, slots := 40, locals := 20 }
set_option maxHeartbeats 4000000 in
set_option maxRecDepth 100000 in
theorem c_f_Plan_init (l : Launch) (D : va_G) (cI cJ cZ : ClassId) (sz : Nat) (aM : Nat) : Met l yX3_init (.code yX3_init cX3_init 1 none :: GW) rm_f_Plan_init (va_Pc [.ref aM] (xP D (xT cI cJ cZ) sz [(aM, .inr (3, [.null, .null, .null, .null, .null, .int (0 : Int32), .int (0 : Int32)]))])) (va_Qv (fun (_ : Nat → Nat) => True) (bB D (xT cI cJ cZ) (fun u => [(aM, .inr (3, [.ref (u 0), .ref (u 1), .ref (u 2), .ref (u 3), .ref (u 4), .int (0 : Int32), .int (0 : Int32)])), ((u 0), .inl (cI, 8, .inl (fun _ => 0))), ((u 1), .inl (cI, 8, .inl (fun _ => 0))), ((u 2), .inl (cI, 8, .inl (fun _ => 0))), ((u 3), .inl (cJ, 8, .inr (.inl (fun _ => 0)))), ((u 4), .inl (cI, 8, .inl (fun _ => 0)))]) (va_A [(aM, .inr (3, [.null, .null, .null, .null, .null, .int (0 : Int32), .int (0 : Int32)]))] sz)) (va_A [(aM, .inr (3, [.null, .null, .null, .null, .null, .int (0 : Int32), .int (0 : Int32)]))] sz)) 5 40 (va_A [(aM, .inr (3, [.null, .null, .null, .null, .null, .int (0 : Int32), .int (0 : Int32)]))] sz) := by
  refine con_start (y := yX3_init) (bytes := cX3_init) (maxL := 1) (av := [.ref aM]) (Qc := fun A => va_Qv (fun (_ : Nat → Nat) => True) (bB D (xT cI cJ cZ) (fun u => [(aM, .inr (3, [.ref (u 0), .ref (u 1), .ref (u 2), .ref (u 3), .ref (u 4), .int (0 : Int32), .int (0 : Int32)])), ((u 0), .inl (cI, 8, .inl (fun _ => 0))), ((u 1), .inl (cI, 8, .inl (fun _ => 0))), ((u 2), .inl (cI, 8, .inl (fun _ => 0))), ((u 3), .inl (cJ, 8, .inr (.inl (fun _ => 0)))), ((u 4), .inl (cI, 8, .inl (fun _ => 0)))]) A) A) (by decide) (Nat.le_of_ble_eq_true rfl) ?_
  intro p e s m args below meth c Q A hx hb hr hlk hml hown hin htg hN hK hQ hA hP hD hS ls hl
  have hl : lv_has ls 1 [(0, .ref aM)] := hl
  have hown : s.vm.findClass RX3 = some m.cls := hown
  have hin : meth.name = "<init>" := hin
  refine lv_aload_n hx hb dX3_init_0 rfl (lv_at hl 0 rfl) ?_
  refine W.objInit hx hb hown (htg _ kw_141) (htg _ kw_17) (htg _ kw_18) rfl (by rw [hml]; exact hl.1) rfl dX3_init_1 (Nat.le_of_ble_eq_true rfl) (Nat.le_of_ble_eq_true rfl) ?_
  refine W.eq (g2 := F0 m 4 ls []) rfl ?_
  refine lv_aload_n hx hb dX3_init_4 rfl (lv_at hl 0 rfl) ?_
  refine lv_bipush (v := (8 : Int32)) hx hb dX3_init_5 (by decide) ?_
  refine x_newI (N := 8) hx hb (htg _ kw_35) hK hP hD hS hA 0 rfl (by decide) (by decide) (by decide) (Nat.le_of_ble_eq_true rfl) (Nat.le_of_ble_eq_true rfl) dX3_init_7 (fun q_1 H hP hD hS => ?_)
  refine W.cs (cells' := 1) (slots' := 8) rfl rfl ?_
  have hP : va_P D vwCl [(aM, .inr (3, [.null, .null, .null, .null, .null, .int (0 : Int32), .int (0 : Int32)])), (q_1, .inl (cI, 8, .inl (fun _ => 0)))] H := hP
  have hD : va_D A [(aM, .inr (3, [.null, .null, .null, .null, .null, .int (0 : Int32), .int (0 : Int32)])), (q_1, .inl (cI, 8, .inl (fun _ => 0)))] := hD
  refine va_putF (D := D) (ci := 3) (v := .ref q_1) (ty := (.array .int)) (C := RX3) (T := TX3) (N := 7) hx hb htg giX3 tyX3 tyX3_ok nmX3 hown hK hP hD hS 0 rfl rfl 0 (by decide) (htg _ kw_142) (fun _ h9 => h9) rfl hin rfl (by decide +kernel) rfl rfl (Nat.le_of_ble_eq_true rfl) dX3_init_9 (fun H locs hP hD hS => ?_)
  have hP : va_P D vwCl [(aM, .inr (3, [.ref q_1, .null, .null, .null, .null, .int (0 : Int32), .int (0 : Int32)])), (q_1, .inl (cI, 8, .inl (fun _ => 0)))] H := hP
  have hD : va_D A [(aM, .inr (3, [.ref q_1, .null, .null, .null, .null, .int (0 : Int32), .int (0 : Int32)])), (q_1, .inl (cI, 8, .inl (fun _ => 0)))] := hD
  refine lv_aload_n hx hb dX3_init_12 rfl (lv_at hl 0 rfl) ?_
  refine lv_bipush (v := (8 : Int32)) hx hb dX3_init_13 (by decide) ?_
  refine x_newI (N := 8) hx hb (htg _ kw_35) hK hP hD hS hA 0 rfl (by decide) (by decide) (by decide) (Nat.le_of_ble_eq_true rfl) (Nat.le_of_ble_eq_true rfl) dX3_init_15 (fun q_2 H hP hD hS => ?_)
  refine W.cs (cells' := 2) (slots' := 16) rfl rfl ?_
  have hP : va_P D vwCl [(aM, .inr (3, [.ref q_1, .null, .null, .null, .null, .int (0 : Int32), .int (0 : Int32)])), (q_1, .inl (cI, 8, .inl (fun _ => 0))), (q_2, .inl (cI, 8, .inl (fun _ => 0)))] H := hP
  have hD : va_D A [(aM, .inr (3, [.ref q_1, .null, .null, .null, .null, .int (0 : Int32), .int (0 : Int32)])), (q_1, .inl (cI, 8, .inl (fun _ => 0))), (q_2, .inl (cI, 8, .inl (fun _ => 0)))] := hD
  refine va_putF (D := D) (ci := 3) (v := .ref q_2) (ty := (.array .int)) (C := RX3) (T := TX3) (N := 7) hx hb htg giX3 tyX3 tyX3_ok nmX3 hown hK hP hD hS 0 rfl rfl 1 (by decide) (htg _ kw_145) (fun _ h9 => h9) rfl hin rfl (by decide +kernel) rfl rfl (Nat.le_of_ble_eq_true rfl) dX3_init_17 (fun H locs hP hD hS => ?_)
  have hP : va_P D vwCl [(aM, .inr (3, [.ref q_1, .ref q_2, .null, .null, .null, .int (0 : Int32), .int (0 : Int32)])), (q_1, .inl (cI, 8, .inl (fun _ => 0))), (q_2, .inl (cI, 8, .inl (fun _ => 0)))] H := hP
  have hD : va_D A [(aM, .inr (3, [.ref q_1, .ref q_2, .null, .null, .null, .int (0 : Int32), .int (0 : Int32)])), (q_1, .inl (cI, 8, .inl (fun _ => 0))), (q_2, .inl (cI, 8, .inl (fun _ => 0)))] := hD
  refine lv_aload_n hx hb dX3_init_20 rfl (lv_at hl 0 rfl) ?_
  refine lv_bipush (v := (8 : Int32)) hx hb dX3_init_21 (by decide) ?_
  refine x_newI (N := 8) hx hb (htg _ kw_35) hK hP hD hS hA 0 rfl (by decide) (by decide) (by decide) (Nat.le_of_ble_eq_true rfl) (Nat.le_of_ble_eq_true rfl) dX3_init_23 (fun q_3 H hP hD hS => ?_)
  refine W.cs (cells' := 3) (slots' := 24) rfl rfl ?_
  have hP : va_P D vwCl [(aM, .inr (3, [.ref q_1, .ref q_2, .null, .null, .null, .int (0 : Int32), .int (0 : Int32)])), (q_1, .inl (cI, 8, .inl (fun _ => 0))), (q_2, .inl (cI, 8, .inl (fun _ => 0))), (q_3, .inl (cI, 8, .inl (fun _ => 0)))] H := hP
  have hD : va_D A [(aM, .inr (3, [.ref q_1, .ref q_2, .null, .null, .null, .int (0 : Int32), .int (0 : Int32)])), (q_1, .inl (cI, 8, .inl (fun _ => 0))), (q_2, .inl (cI, 8, .inl (fun _ => 0))), (q_3, .inl (cI, 8, .inl (fun _ => 0)))] := hD
  refine va_putF (D := D) (ci := 3) (v := .ref q_3) (ty := (.array .int)) (C := RX3) (T := TX3) (N := 7) hx hb htg giX3 tyX3 tyX3_ok nmX3 hown hK hP hD hS 0 rfl rfl 2 (by decide) (htg _ kw_148) (fun _ h9 => h9) rfl hin rfl (by decide +kernel) rfl rfl (Nat.le_of_ble_eq_true rfl) dX3_init_25 (fun H locs hP hD hS => ?_)
  have hP : va_P D vwCl [(aM, .inr (3, [.ref q_1, .ref q_2, .ref q_3, .null, .null, .int (0 : Int32), .int (0 : Int32)])), (q_1, .inl (cI, 8, .inl (fun _ => 0))), (q_2, .inl (cI, 8, .inl (fun _ => 0))), (q_3, .inl (cI, 8, .inl (fun _ => 0)))] H := hP
  have hD : va_D A [(aM, .inr (3, [.ref q_1, .ref q_2, .ref q_3, .null, .null, .int (0 : Int32), .int (0 : Int32)])), (q_1, .inl (cI, 8, .inl (fun _ => 0))), (q_2, .inl (cI, 8, .inl (fun _ => 0))), (q_3, .inl (cI, 8, .inl (fun _ => 0)))] := hD
  refine lv_aload_n hx hb dX3_init_28 rfl (lv_at hl 0 rfl) ?_
  refine lv_bipush (v := (8 : Int32)) hx hb dX3_init_29 (by decide) ?_
  refine x_newJ (N := 8) hx hb (htg _ kw_135) hK hP hD hS hA 1 rfl (by decide) (by decide) (by decide) (Nat.le_of_ble_eq_true rfl) (Nat.le_of_ble_eq_true rfl) dX3_init_31 (fun q_4 H hP hD hS => ?_)
  refine W.cs (cells' := 4) (slots' := 32) rfl rfl ?_
  have hP : va_P D vwCl [(aM, .inr (3, [.ref q_1, .ref q_2, .ref q_3, .null, .null, .int (0 : Int32), .int (0 : Int32)])), (q_1, .inl (cI, 8, .inl (fun _ => 0))), (q_2, .inl (cI, 8, .inl (fun _ => 0))), (q_3, .inl (cI, 8, .inl (fun _ => 0))), (q_4, .inl (cJ, 8, .inr (.inl (fun _ => 0))))] H := hP
  have hD : va_D A [(aM, .inr (3, [.ref q_1, .ref q_2, .ref q_3, .null, .null, .int (0 : Int32), .int (0 : Int32)])), (q_1, .inl (cI, 8, .inl (fun _ => 0))), (q_2, .inl (cI, 8, .inl (fun _ => 0))), (q_3, .inl (cI, 8, .inl (fun _ => 0))), (q_4, .inl (cJ, 8, .inr (.inl (fun _ => 0))))] := hD
  refine va_putF (D := D) (ci := 3) (v := .ref q_4) (ty := (.array .long)) (C := RX3) (T := TX3) (N := 7) hx hb htg giX3 tyX3 tyX3_ok nmX3 hown hK hP hD hS 0 rfl rfl 3 (by decide) (htg _ kw_150) (fun _ h9 => h9) rfl hin rfl (by decide +kernel) rfl rfl (Nat.le_of_ble_eq_true rfl) dX3_init_33 (fun H locs hP hD hS => ?_)
  have hP : va_P D vwCl [(aM, .inr (3, [.ref q_1, .ref q_2, .ref q_3, .ref q_4, .null, .int (0 : Int32), .int (0 : Int32)])), (q_1, .inl (cI, 8, .inl (fun _ => 0))), (q_2, .inl (cI, 8, .inl (fun _ => 0))), (q_3, .inl (cI, 8, .inl (fun _ => 0))), (q_4, .inl (cJ, 8, .inr (.inl (fun _ => 0))))] H := hP
  have hD : va_D A [(aM, .inr (3, [.ref q_1, .ref q_2, .ref q_3, .ref q_4, .null, .int (0 : Int32), .int (0 : Int32)])), (q_1, .inl (cI, 8, .inl (fun _ => 0))), (q_2, .inl (cI, 8, .inl (fun _ => 0))), (q_3, .inl (cI, 8, .inl (fun _ => 0))), (q_4, .inl (cJ, 8, .inr (.inl (fun _ => 0))))] := hD
  refine lv_aload_n hx hb dX3_init_36 rfl (lv_at hl 0 rfl) ?_
  refine lv_bipush (v := (8 : Int32)) hx hb dX3_init_37 (by decide) ?_
  refine x_newI (N := 8) hx hb (htg _ kw_35) hK hP hD hS hA 0 rfl (by decide) (by decide) (by decide) (Nat.le_of_ble_eq_true rfl) (Nat.le_of_ble_eq_true rfl) dX3_init_39 (fun q_5 H hP hD hS => ?_)
  refine W.cs (cells' := 5) (slots' := 40) rfl rfl ?_
  have hP : va_P D vwCl [(aM, .inr (3, [.ref q_1, .ref q_2, .ref q_3, .ref q_4, .null, .int (0 : Int32), .int (0 : Int32)])), (q_1, .inl (cI, 8, .inl (fun _ => 0))), (q_2, .inl (cI, 8, .inl (fun _ => 0))), (q_3, .inl (cI, 8, .inl (fun _ => 0))), (q_4, .inl (cJ, 8, .inr (.inl (fun _ => 0)))), (q_5, .inl (cI, 8, .inl (fun _ => 0)))] H := hP
  have hD : va_D A [(aM, .inr (3, [.ref q_1, .ref q_2, .ref q_3, .ref q_4, .null, .int (0 : Int32), .int (0 : Int32)])), (q_1, .inl (cI, 8, .inl (fun _ => 0))), (q_2, .inl (cI, 8, .inl (fun _ => 0))), (q_3, .inl (cI, 8, .inl (fun _ => 0))), (q_4, .inl (cJ, 8, .inr (.inl (fun _ => 0)))), (q_5, .inl (cI, 8, .inl (fun _ => 0)))] := hD
  refine va_putF (D := D) (ci := 3) (v := .ref q_5) (ty := (.array .int)) (C := RX3) (T := TX3) (N := 7) hx hb htg giX3 tyX3 tyX3_ok nmX3 hown hK hP hD hS 0 rfl rfl 4 (by decide) (htg _ kw_153) (fun _ h9 => h9) rfl hin rfl (by decide +kernel) rfl rfl (Nat.le_of_ble_eq_true rfl) dX3_init_41 (fun H locs hP hD hS => ?_)
  have hP : va_P D vwCl [(aM, .inr (3, [.ref q_1, .ref q_2, .ref q_3, .ref q_4, .ref q_5, .int (0 : Int32), .int (0 : Int32)])), (q_1, .inl (cI, 8, .inl (fun _ => 0))), (q_2, .inl (cI, 8, .inl (fun _ => 0))), (q_3, .inl (cI, 8, .inl (fun _ => 0))), (q_4, .inl (cJ, 8, .inr (.inl (fun _ => 0)))), (q_5, .inl (cI, 8, .inl (fun _ => 0)))] H := hP
  have hD : va_D A [(aM, .inr (3, [.ref q_1, .ref q_2, .ref q_3, .ref q_4, .ref q_5, .int (0 : Int32), .int (0 : Int32)])), (q_1, .inl (cI, 8, .inl (fun _ => 0))), (q_2, .inl (cI, 8, .inl (fun _ => 0))), (q_3, .inl (cI, 8, .inl (fun _ => 0))), (q_4, .inl (cJ, 8, .inr (.inl (fun _ => 0)))), (q_5, .inl (cI, 8, .inl (fun _ => 0)))] := hD
  exact x_vret (fun k => [q_1, q_2, q_3, q_4, q_5].getD k 0) hQ hx hb hr hlk hK hP hD hS dX3_init_44
