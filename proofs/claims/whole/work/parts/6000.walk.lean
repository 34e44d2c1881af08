abbrev rm_f_Triples_init : Room := { frames := 1, cells := 1, slots := 80, locals := 20 }
set_option maxHeartbeats 4000000 in
set_option maxRecDepth 100000 in
theorem c_f_Triples_init (l : Launch) (D : va_G) (cI cJ cZ : ClassId) (sz : Nat) (aT : Nat) : Met l yX6_init (.code yX6_init cX6_init 1 none :: GW) rm_f_Triples_init (va_Pc [.ref aT] (xP D (xT cI cJ cZ) sz [(aT, .inr (6, [.null, .int (0 : Int32)]))])) (va_Qv (fun (_ : Nat → Nat) => True) (bB D (xT cI cJ cZ) (fun u => [(aT, .inr (6, [.ref (u 0), .int (0 : Int32)])), ((u 0), .inl (cI, 80, .inl (fun _ => 0)))]) (va_A [(aT, .inr (6, [.null, .int (0 : Int32)]))] sz)) (va_A [(aT, .inr (6, [.null, .int (0 : Int32)]))] sz)) 1 80 (va_A [(aT, .inr (6, [.null, .int (0 : Int32)]))] sz) := by
  refine con_start (y := yX6_init) (bytes := cX6_init) (maxL := 1) (av := [.ref aT]) (Qc := fun A => va_Qv (fun (_ : Nat → Nat) => True) (bB D (xT cI cJ cZ) (fun u => [(aT, .inr (6, [.ref (u 0), .int (0 : Int32)])), ((u 0), .inl (cI, 80, .inl (fun _ => 0)))]) A) A) (by decide) (Nat.le_of_ble_eq_true rfl) ?_
  intro p e s m args below meth c Q A hx hb hr hlk hml hown hin htg hN hK hQ hA hP hD hS ls hl
  have hl : lv_has ls 1 [(0, .ref aT)] := hl
  have hown : s.vm.findClass RX6 = some m.cls := hown
  have hin : meth.name = "<init>" := hin
  refine lv_aload_n hx hb dX6_init_0 rfl (lv_at hl 0 rfl) ?_
  refine W.objInit hx hb hown (htg _ kw_24) (htg _ kw_17) (htg _ kw_18) rfl (by rw [hml]; exact hl.1) rfl dX6_init_1 (Nat.le_of_ble_eq_true rfl) (Nat.le_of_ble_eq_true rfl) ?_
  refine W.eq (g2 := F0 m 4 ls []) rfl ?_
  refine lv_aload_n hx hb dX6_init_4 rfl (lv_at hl 0 rfl) ?_
  refine lv_bipush (v := (80 : Int32)) hx hb dX6_init_5 (by decide) ?_
  refine x_newI (N := 80) hx hb (htg _ kw_35) hK hP hD hS hA 0 rfl (by decide) (by decide) (by decide) (Nat.le_of_ble_eq_true rfl) (Nat.le_of_ble_eq_true rfl) dX6_init_7 (fun q_1 H hP hD hS => ?_)
  refine W.cs (cells' := 1) (slots' := 80) rfl rfl ?_
  have hP : va_P D vwCl [(aT, .inr (6, [.null, .int (0 : Int32)])), (q_1, .inl (cI, 80, .inl (fun _ => 0)))] H := hP
  have hD : va_D A [(aT, .inr (6, [.null, .int (0 : Int32)])), (q_1, .inl (cI, 80, .inl (fun _ => 0)))] := hD
  refine va_putF (D := D) (ci := 6) (v := .ref q_1) (ty := (.array .int)) (C := RX6) (T := TX6) (N := 2) hx hb htg giX6 tyX6 tyX6_ok nmX6 hown hK hP hD hS 0 rfl rfl 0 (by decide) (htg _ kw_25) (fun _ h9 => h9) rfl hin rfl (by decide +kernel) rfl rfl (Nat.le_of_ble_eq_true rfl) dX6_init_9 (fun H locs hP hD hS => ?_)
  have hP : va_P D vwCl [(aT, .inr (6, [.ref q_1, .int (0 : Int32)])), (q_1, .inl (cI, 80, .inl (fun _ => 0)))] H := hP
  have hD : va_D A [(aT, .inr (6, [.ref q_1, .int (0 : Int32)])), (q_1, .inl (cI, 80, .inl (fun _ => 0)))] := hD
  exact x_vret (fun k => [q_1].getD k 0) hQ hx hb hr hlk hK hP hD hS dX6_init_12
