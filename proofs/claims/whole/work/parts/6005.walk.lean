abbrev rm_f_Table_init : Room := { frames := 1, cells := 2, slots := 1000, locals := 20 }
set_option maxHeartbeats 4000000 in
set_option maxRecDepth 100000 in
theorem c_f_Table_init (l : Launch) (D : va_G) (cI cJ cZ : ClassId) (sz : Nat) (aB : Nat) : Met l yX5_init (.code yX5_init cX5_init 1 none :: GW) rm_f_Table_init (va_Pc [.ref aB] (xP D (xT cI cJ cZ) sz [(aB, .inr (5, [.null, .null, .int (0 : Int32), .int (0 : Int32), .int (0 : Int32)]))])) (va_Qv (fun (_ : Nat → Nat) => True) (bB D (xT cI cJ cZ) (fun u => [(aB, .inr (5, [.ref (u 0), .ref (u 1), .int (0 : Int32), .int (0 : Int32), .int (0 : Int32)])), ((u 0), .inl (cJ, 500, .inr (.inl (fun _ => 0)))), ((u 1), .inl (cJ, 500, .inr (.inl (fun _ => 0))))]) (va_A [(aB, .inr (5, [.null, .null, .int (0 : Int32), .int (0 : Int32), .int (0 : Int32)]))] sz)) (va_A [(aB, .inr (5, [.null, .null, .int (0 : Int32), .int (0 : Int32), .int (0 : Int32)]))] sz)) 2 1000 (va_A [(aB, .inr (5, [.null, .null, .int (0 : Int32), .int (0 : Int32), .int (0 : Int32)]))] sz) := by
  refine con_start (y := yX5_init) (bytes := cX5_init) (maxL := 1) (av := [.ref aB]) (Qc := fun A => va_Qv (fun (_ : Nat → Nat) => True) (bB D (xT cI cJ cZ) (fun u => [(aB, .inr (5, [.ref (u 0), .ref (u 1), .int (0 : Int32), .int (0 : Int32), .int (0 : Int32)])), ((u 0), .inl (cJ, 500, .inr (.inl (fun _ => 0)))), ((u 1), .inl (cJ, 500, .inr (.inl (fun _ => 0))))]) A) A) (by decide) (Nat.le_of_ble_eq_true rfl) ?_
  intro p e s m args below meth c Q A hx hb hr hlk hml hown hin htg hN hK hQ hA hP hD hS ls hl
  have hl : lv_has ls 1 [(0, .ref aB)] := hl
  have hown : s.vm.findClass RX5 = some m.cls := hown
  have hin : meth.name = "<init>" := hin
  refine lv_aload_n hx hb dX5_init_0 rfl (lv_at hl 0 rfl) ?_
  refine W.objInit hx hb hown (htg _ kw_180) (htg _ kw_17) (htg _ kw_18) rfl (by rw [hml]; exact hl.1) rfl dX5_init_1 (Nat.le_of_ble_eq_true rfl) (Nat.le_of_ble_eq_true rfl) ?_
  refine W.eq (g2 := F0 m 4 ls []) rfl ?_
  refine lv_aload_n hx hb dX5_init_4 rfl (lv_at hl 0 rfl) ?_
  refine lv_sipush (v := (500 : Int32)) hx hb dX5_init_5 (by decide) ?_
  refine x_newJ (N := 500) hx hb (htg _ kw_135) hK hP hD hS hA 1 rfl (by decide) (by decide) (by decide) (Nat.le_of_ble_eq_true rfl) (Nat.le_of_ble_eq_true rfl) dX5_init_8 (fun q_1 H hP hD hS => ?_)
  refine W.cs (cells' := 1) (slots' := 500) rfl rfl ?_
  have hP : va_P D vwCl [(aB, .inr (5, [.null, .null, .int (0 : Int32), .int (0 : Int32), .int (0 : Int32)])), (q_1, .inl (cJ, 500, .inr (.inl (fun _ => 0))))] H := hP
  have hD : va_D A [(aB, .inr (5, [.null, .null, .int (0 : Int32), .int (0 : Int32), .int (0 : Int32)])), (q_1, .inl (cJ, 500, .inr (.inl (fun _ => 0))))] := hD
  refine va_put (D := D) (ci := 5) (v := .ref q_1) (ty := (.array .long)) (C := RX5) (T := TX5) (N := 5) hx hb htg giX5 tyX5 tyX5_ok nmX5 hown hK hP hD hS 0 rfl rfl 0 (by decide) (htg _ kw_181) (fun _ h9 => h9) rfl (by decide +kernel) rfl rfl (Nat.le_of_ble_eq_true rfl) dX5_init_10 (fun H locs hP hD hS => ?_)
  have hP : va_P D vwCl [(aB, .inr (5, [.ref q_1, .null, .int (0 : Int32), .int (0 : Int32), .int (0 : Int32)])), (q_1, .inl (cJ, 500, .inr (.inl (fun _ => 0))))] H := hP
  have hD : va_D A [(aB, .inr (5, [.ref q_1, .null, .int (0 : Int32), .int (0 : Int32), .int (0 : Int32)])), (q_1, .inl (cJ, 500, .inr (.inl (fun _ => 0))))] := hD
  refine lv_aload_n hx hb dX5_init_13 rfl (lv_at hl 0 rfl) ?_
  refine lv_sipush (v := (500 : Int32)) hx hb dX5_init_14 (by decide) ?_
  refine x_newJ (N := 500) hx hb (htg _ kw_135) hK hP hD hS hA 1 rfl (by decide) (by decide) (by decide) (Nat.le_of_ble_eq_true rfl) (Nat.le_of_ble_eq_true rfl) dX5_init_17 (fun q_2 H hP hD hS => ?_)
  refine W.cs (cells' := 2) (slots' := 1000) rfl rfl ?_
  have hP : va_P D vwCl [(aB, .inr (5, [.ref q_1, .null, .int (0 : Int32), .int (0 : Int32), .int (0 : Int32)])), (q_1, .inl (cJ, 500, .inr (.inl (fun _ => 0)))), (q_2, .inl (cJ, 500, .inr (.inl (fun _ => 0))))] H := hP
  have hD : va_D A [(aB, .inr (5, [.ref q_1, .null, .int (0 : Int32), .int (0 : Int32), .int (0 : Int32)])), (q_1, .inl (cJ, 500, .inr (.inl (fun _ => 0)))), (q_2, .inl (cJ, 500, .inr (.inl (fun _ => 0))))] := hD
  refine va_put (D := D) (ci := 5) (v := .ref q_2) (ty := (.array .long)) (C := RX5) (T := TX5) (N := 5) hx hb htg giX5 tyX5 tyX5_ok nmX5 hown hK hP hD hS 0 rfl rfl 1 (by decide) (htg _ kw_183) (fun _ h9 => h9) rfl (by decide +kernel) rfl rfl (Nat.le_of_ble_eq_true rfl) dX5_init_19 (fun H locs hP hD hS => ?_)
  have hP : va_P D vwCl [(aB, .inr (5, [.ref q_1, .ref q_2, .int (0 : Int32), .int (0 : Int32), .int (0 : Int32)])), (q_1, .inl (cJ, 500, .inr (.inl (fun _ => 0)))), (q_2, .inl (cJ, 500, .inr (.inl (fun _ => 0))))] H := hP
  have hD : va_D A [(aB, .inr (5, [.ref q_1, .ref q_2, .int (0 : Int32), .int (0 : Int32), .int (0 : Int32)])), (q_1, .inl (cJ, 500, .inr (.inl (fun _ => 0)))), (q_2, .inl (cJ, 500, .inr (.inl (fun _ => 0))))] := hD
  exact x_vret (fun k => [q_1, q_2].getD k 0) hQ hx hb hr hlk hK hP hD hS dX5_init_22
