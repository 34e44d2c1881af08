abbrev rm_f_Table_missing : Room := { frames := 0, cells := 0, slots := 0, locals := 0 }
set_option maxHeartbeats 4000000 in
set_option maxRecDepth 100000 in
theorem c_f_Table_missing (l : Launch) (D : va_G) (cI cJ cZ : ClassId) (sz : Nat) (x0 : Int32) {r : Int64} (hf : f_Table_missing x0 = r) : Met l yX5_missing (.code yX5_missing cX5_missing 1 (some .long) :: GW) rm_f_Table_missing (va_Pc [.int x0] (xP D (xT cI cJ cZ) sz [])) (va_Ql (fun r2 (_ : Nat → Nat) => r2 = r) (bB D (xT cI cJ cZ) (fun _ => []) (va_A [] sz)) (va_A [] sz)) 0 0 (va_A [] sz) := by
  refine con_start (y := yX5_missing) (bytes := cX5_missing) (maxL := 1) (av := [.int x0]) (Qc := fun A => va_Ql (fun r2 (_ : Nat → Nat) => r2 = r) (bB D (xT cI cJ cZ) (fun _ => []) A) A) (by decide) (Nat.le_of_ble_eq_true rfl) ?_
  intro p e s m args below meth c Q A hx hb hr hlk hml hown hin htg hN hK hQ hA hP hD hS ls hl
  have hl : lv_has ls 1 [(0, .int x0)] := hl
  have hown : s.vm.findClass RX5 = some m.cls := hown
  have hf := (f_Table_missing_u x0).symm.trans hf
  refine lv_lconst (v := (1 : Int64)) hx hb dX5_missing_0 (by decide) ?_
  refine lv_bipush (v := (48 : Int32)) hx hb dX5_missing_1 (by decide) ?_
  refine lv_iload_n hx hb dX5_missing_3 rfl (lv_at hl 0 rfl) ?_
  refine lv_iadd hx hb dX5_missing_4 ?_
  refine lv_lshl hx hb dX5_missing_5 rfl ?_
  have hf := hf
  subst hf
  exact x_lret (fun _ => 0) hQ hx hb hr hlk hK hP hD hS dX5_missing_6
abbrev rm_f_Table_missed : Room := { frames := 1, cells := 0, slots := 0, locals := 20 }
set_option maxHeartbeats 4000000 in
set_option maxRecDepth 100000 in
theorem c_f_Table_missed (l : Launch) (D : va_G) (cI cJ cZ : ClassId) (sz : Nat) (x0 : Int64) (x2 : Int32) {r : Int32} (hf : f_Table_missed x0 x2 = r) : Met l yX5_missed (.code yX5_missed cX5_missed 3 (some .boolean) :: GW) rm_f_Table_missed (va_Pc [.long x0, .int x2] (xP D (xT cI cJ cZ) sz [])) (va_Qi (fun r2 (_ : Nat → Nat) => r2 = r ∧ (r = 0 ∨ r = 1)) (bB D (xT cI cJ cZ) (fun _ => []) (va_A [] sz)) (va_A [] sz)) 0 0 (va_A [] sz) := by
  refine con_start (y := yX5_missed) (bytes := cX5_missed) (maxL := 3) (av := [.long x0, .int x2]) (Qc := fun A => va_Qi (fun r2 (_ : Nat → Nat) => r2 = r ∧ (r = 0 ∨ r = 1)) (bB D (xT cI cJ cZ) (fun _ => []) A) A) (by decide) (Nat.le_of_ble_eq_true rfl) ?_
  intro p e s m args below meth c Q A hx hb hr hlk hml hown hin htg hN hK hQ hA hP hD hS ls hl
  have hl : lv_has ls 3 [(0, .long x0), (2, .int x2)] := hl
  have hown : s.vm.findClass RX5 = some m.cls := hown
  have hf := (f_Table_missed_u x0 x2).symm.trans hf
  refine lv_lload_n hx hb dX5_missed_0 rfl (lv_at hl 0 rfl) ?_
  refine lv_iload_n hx hb dX5_missed_1 rfl (lv_at hl 1 rfl) ?_
  refine x_l (xrS (As := [.int x2]) (rest := [.long x0]) ⟨hx, hb, hml, hown, htg⟩ (c_f_Table_missing l D cI cJ cZ _ x2 rfl) kc_f_Table_missing kw_482 kw_483 kw_7 dd_f_Table_missing ⟨Nat.le_of_ble_eq_true rfl, Nat.le_of_ble_eq_true rfl⟩ rfl rfl hP hD hK hN rfl hl.1 rfl (Nat.le_of_ble_eq_true rfl) dX5_missed_2 ⟨Nat.le_of_ble_eq_true rfl, Nat.le_of_ble_eq_true rfl⟩) hP hD hS hA [] [] rfl rfl (by decide) (by decide) (fun _ H locs hP hD hS => ?_)
  have hP : va_P D vwCl [] H := hP
  have hD : va_D A [] := hD
  refine lv_land hx hb dX5_missed_5 ?_
  refine lv_lconst (v := (0 : Int64)) hx hb dX5_missed_6 (by decide) ?_
  refine W.lcmp hx hb dX5_missed_7 ?_
  refine lv_if_eq (tgt := 15) hx hb dX5_missed_8 (by decide) (fun c_2 => ?_) (fun c_2 => ?_)
  · have hf := xb_t c_2 hf
    refine lv_iconst (v := (0 : Int32)) hx hb dX5_missed_15 (by decide) ?_
    have hf := hf
    subst hf
    exact x_zret (fun _ => 0) hQ hx hb hr hlk (by decide) hK hP hD hS dX5_missed_16
  · have hf := xb_f c_2 hf
    refine lv_iconst (v := (1 : Int32)) hx hb dX5_missed_11 (by decide) ?_
    refine lv_goto (tgt := 16) hx hb dX5_missed_12 (by decide) ?_
    have hf := hf
    subst hf
    exact x_zret (fun _ => 0) hQ hx hb hr hlk (by decide) hK hP hD hS dX5_missed_16
