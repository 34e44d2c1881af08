abbrev rm_f_Table_put : Room := { frames := 0, cells := 0, slots := 0, locals := 0 }
set_option maxHeartbeats 4000000 in
set_option maxRecDepth 100000 in
theorem c_f_Table_put (l : Launch) (D : va_G) (cI cJ cZ : ClassId) (sz : Nat) (aB : Nat) (x1 : Int64) (aB_rows : Nat) (aB_spare : Nat) (B_count : Int32) (B_found : Int32) (B_crowded : Int32) (B_spare : Nat → Int64) {B_found' : Int32} {B_crowded' : Int32} {B_spare' : Nat → Int64} (hf : f_Table_put x1 B_found B_crowded B_spare = some (B_found', B_crowded', B_spare')) : Met l yX5_put (.code yX5_put cX5_put 3 none :: GW) rm_f_Table_put (va_Pc [.ref aB, .long x1] (xP D (xT cI cJ cZ) sz [(aB, .inr (5, [.ref aB_rows, .ref aB_spare, .int B_count, .int B_found, .int B_crowded])), (aB_spare, .inl (cJ, 500, .inr (.inl B_spare)))])) (va_Qv (fun (_ : Nat → Nat) => True) (bB D (xT cI cJ cZ) (fun _ => [(aB, .inr (5, [.ref aB_rows, .ref aB_spare, .int B_count, .int B_found', .int B_crowded'])), (aB_spare, .inl (cJ, 500, .inr (.inl B_spare')))]) (va_A [(aB, .inr (5, [.ref aB_rows, .ref aB_spare, .int B_count, .int B_found, .int B_crowded])), (aB_spare, .inl (cJ, 500, .inr (.inl B_spare)))] sz)) (va_A [(aB, .inr (5, [.ref aB_rows, .ref aB_spare, .int B_count, .int B_found, .int B_crowded])), (aB_spare, .inl (cJ, 500, .inr (.inl B_spare)))] sz)) 0 0 (va_A [(aB, .inr (5, [.ref aB_rows, .ref aB_spare, .int B_count, .int B_found, .int B_crowded])), (aB_spare, .inl (cJ, 500, .inr (.inl B_spare)))] sz) := by
  refine con_start (y := yX5_put) (bytes := cX5_put) (maxL := 3) (av := [.ref aB, .long x1]) (Qc := fun A => va_Qv (fun (_ : Nat → Nat) => True) (bB D (xT cI cJ cZ) (fun _ => [(aB, .inr (5, [.ref aB_rows, .ref aB_spare, .int B_count, .int B_found', .int B_crowded'])), (aB_spare, .inl (cJ, 500, .inr (.inl B_spare')))]) A) A) (by decide) (Nat.le_of_ble_eq_true rfl) ?_
  intro p e s m args below meth c Q A hx hb hr hlk hml hown hin htg hN hK hQ hA hP hD hS ls hl
  have hl : lv_has ls 3 [(0, .ref aB), (1, .long x1)] := hl
  have hown : s.vm.findClass RX5 = some m.cls := hown
  have hf := (f_Table_put_u x1 B_found B_crowded B_spare).symm.trans hf
  refine lv_aload_n hx hb dX5_put_0 rfl (lv_at hl 0 rfl) ?_
  refine va_get (D := D) (ci := 5) (v := .int B_found) (C := RX5) (T := TX5) (N := 5) hx hb htg giX5 hown hK hP 0 rfl rfl 3 (by decide) (htg _ kw_186) (fun _ h9 => h9) rfl dX5_put_1 ?_
  refine lv_sipush (v := (500 : Int32)) hx hb dX5_put_4 (by decide) ?_
  refine lv_icmp_lt (tgt := 16) hx hb dX5_put_7 (by decide) (fun c_1 => ?_) (fun c_1 => ?_)
  · have hf := xb_t c_1 hf
    refine lv_aload_n hx hb dX5_put_16 rfl (lv_at hl 0 rfl) ?_
    refine va_get (D := D) (ci := 5) (v := .ref aB_spare) (C := RX5) (T := TX5) (N := 5) hx hb htg giX5 hown hK hP 0 rfl rfl 1 (by decide) (htg _ kw_183) (fun _ h9 => h9) rfl dX5_put_17 ?_
    refine lv_aload_n hx hb dX5_put_20 rfl (lv_at hl 0 rfl) ?_
    refine va_get (D := D) (ci := 5) (v := .int B_found) (C := RX5) (T := TX5) (N := 5) hx hb htg giX5 hown hK hP 0 rfl rfl 3 (by decide) (htg _ kw_186) (fun _ h9 => h9) rfl dX5_put_21 ?_
    refine lv_lload_n hx hb dX5_put_24 rfl (lv_at hl 1 rfl) ?_
    have g_2 : vp_in B_found 500 := gd_in hf
    have hf := gd_el hf
    refine x_last hx hb hK hP hD hS 1 1 rfl rfl g_2 dX5_put_25 (fun B_spare_3 eB_spare_3 H locs hP hD hS => ?_)
    have hf := nm_nm eB_spare_3 hf
    have hP : va_P D vwCl [(aB, .inr (5, [.ref aB_rows, .ref aB_spare, .int B_count, .int B_found, .int B_crowded])), (aB_spare, .inl (cJ, 500, .inr (.inl B_spare_3)))] H := hP
    have hD : va_D A [(aB, .inr (5, [.ref aB_rows, .ref aB_spare, .int B_count, .int B_found, .int B_crowded])), (aB_spare, .inl (cJ, 500, .inr (.inl B_spare_3)))] := hD
    refine lv_aload_n hx hb dX5_put_26 rfl (lv_at hl 0 rfl) ?_
    refine lv_dup hx hb dX5_put_27 rfl ?_
    refine va_get (D := D) (ci := 5) (v := .int B_found) (C := RX5) (T := TX5) (N := 5) hx hb htg giX5 hown hK hP 0 rfl rfl 3 (by decide) (htg _ kw_186) (fun _ h9 => h9) rfl dX5_put_28 ?_
    refine lv_iconst (v := (1 : Int32)) hx hb dX5_put_31 (by decide) ?_
    refine lv_iadd hx hb dX5_put_32 ?_
    refine lv_topi (fun v_4 ev_4 => ?_)
    have hf := nm_nm ev_4 hf
    refine va_put (D := D) (ci := 5) (v := .int v_4) (ty := .int) (C := RX5) (T := TX5) (N := 5) hx hb htg giX5 tyX5 tyX5_ok nmX5 hown hK hP hD hS 0 rfl rfl 3 (by decide) (htg _ kw_186) (fun _ h9 => h9) rfl (by decide +kernel) rfl rfl (Nat.le_of_ble_eq_true rfl) dX5_put_33 (fun H locs hP hD hS => ?_)
    have hP : va_P D vwCl [(aB, .inr (5, [.ref aB_rows, .ref aB_spare, .int B_count, .int v_4, .int B_crowded])), (aB_spare, .inl (cJ, 500, .inr (.inl B_spare_3)))] H := hP
    have hD : va_D A [(aB, .inr (5, [.ref aB_rows, .ref aB_spare, .int B_count, .int v_4, .int B_crowded])), (aB_spare, .inl (cJ, 500, .inr (.inl B_spare_3)))] := hD
    have hf := Option.some.inj hf
    obtain ⟨k9_0, f9_0⟩ := Prod.mk.inj hf
    obtain ⟨k9_1, f9_1⟩ := Prod.mk.inj f9_0
    subst k9_0
    subst k9_1
    subst f9_1
    exact x_vret (fun _ => 0) hQ hx hb hr hlk hK hP hD hS dX5_put_36
  · have hf := xb_f c_1 hf
    refine lv_aload_n hx hb dX5_put_10 rfl (lv_at hl 0 rfl) ?_
    refine lv_iconst (v := (1 : Int32)) hx hb dX5_put_11 (by decide) ?_
    refine va_put (D := D) (ci := 5) (v := .int (1 : Int32)) (ty := .boolean) (C := RX5) (T := TX5) (N := 5) hx hb htg giX5 tyX5 tyX5_ok nmX5 hown hK hP hD hS 0 rfl rfl 4 (by decide) (htg _ kw_187) (fun _ h9 => h9) rfl (by decide +kernel) rfl rfl (Nat.le_of_ble_eq_true rfl) dX5_put_12 (fun H locs hP hD hS => ?_)
    have hP : va_P D vwCl [(aB, .inr (5, [.ref aB_rows, .ref aB_spare, .int B_count, .int B_found, .int (1 : Int32)])), (aB_spare, .inl (cJ, 500, .inr (.inl B_spare)))] H := hP
    have hD : va_D A [(aB, .inr (5, [.ref aB_rows, .ref aB_spare, .int B_count, .int B_found, .int (1 : Int32)])), (aB_spare, .inl (cJ, 500, .inr (.inl B_spare)))] := hD
    have hf := Option.some.inj hf
    obtain ⟨k9_0, f9_0⟩ := Prod.mk.inj hf
    obtain ⟨k9_1, f9_1⟩ := Prod.mk.inj f9_0
    subst k9_0
    subst k9_1
    subst f9_1
    exact x_vret (fun _ => 0) hQ hx hb hr hlk hK hP hD hS dX5_put_15
abbrev rm_f_Table_termOf : Room := { frames := 0, cells := 0, slots := 0, locals := 0 }
set_option maxHeartbeats 4000000 in
set_option maxRecDepth 100000 in
theorem c_f_Table_termOf (l : Launch) (D : va_G) (cI cJ cZ : ClassId) (sz : Nat) (x0 : Int64) (x2 : Int32) {r : Int32} (hf : f_Table_termOf x0 x2 = r) : Met l yX5_termOf (.code yX5_termOf cX5_termOf 3 (some .int) :: GW) rm_f_Table_termOf (va_Pc [.long x0, .int x2] (xP D (xT cI cJ cZ) sz [])) (va_Qi (fun r2 (_ : Nat → Nat) => r2 = r) (bB D (xT cI cJ cZ) (fun _ => []) (va_A [] sz)) (va_A [] sz)) 0 0 (va_A [] sz) := by
  refine con_start (y := yX5_termOf) (bytes := cX5_termOf) (maxL := 3) (av := [.long x0, .int x2]) (Qc := fun A => va_Qi (fun r2 (_ : Nat → Nat) => r2 = r) (bB D (xT cI cJ cZ) (fun _ => []) A) A) (by decide) (Nat.le_of_ble_eq_true rfl) ?_
  intro p e s m args below meth c Q A hx hb hr hlk hml hown hin htg hN hK hQ hA hP hD hS ls hl
  have hl : lv_has ls 3 [(0, .long x0), (2, .int x2)] := hl
  have hown : s.vm.findClass RX5 = some m.cls := hown
  have hf := (f_Table_termOf_u x0 x2).symm.trans hf
  refine lv_lload_n hx hb dX5_termOf_0 rfl (lv_at hl 0 rfl) ?_
  refine lv_iload_n hx hb dX5_termOf_1 rfl (lv_at hl 1 rfl) ?_
  refine lv_bipush (v := (6 : Int32)) hx hb dX5_termOf_2 (by decide) ?_
  refine lv_imul hx hb dX5_termOf_4 ?_
  refine lv_lshr hx hb dX5_termOf_5 rfl ?_
  refine lv_ldc2 (v := (63 : Int64)) hx hb hown (htg _ kw_498) dX5_termOf_6 ?_
  refine lv_land hx hb dX5_termOf_9 ?_
  refine lv_l2i hx hb dX5_termOf_10 rfl ?_
  refine lv_iconst (v := (1 : Int32)) hx hb dX5_termOf_11 (by decide) ?_
  refine lv_isub hx hb dX5_termOf_12 ?_
  have hf := hf
  subst hf
  exact x_iret (fun _ => 0) hQ hx hb hr hlk hK hP hD hS dX5_termOf_13
