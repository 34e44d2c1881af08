abbrev rm_f_JoinOrder_row : Room := { frames := 1, cells := 0, slots := 0, locals := 22 }
set_option maxHeartbeats 4000000 in
set_option maxRecDepth 100000 in
theorem c_f_JoinOrder_row (l : Launch) (D : va_G) (cI cJ cZ : ClassId) (sz : Nat) (aJ : Nat) (x1 : Int32) (x2 : Int32) (aT : Nat) (aP : Nat) (aF : Nat) (aQ : Nat) (aM : Nat) (aB : Nat) (J_hasRun : Int32) (aJ_plainOrder : Nat) (aC : Nat) (aB_rows : Nat) (aB_spare : Nat) (B_count : Int32) (B_found : Int32) (B_crowded : Int32) (B_rows : Nat → Int64) {r : Int32} (hf : f_JoinOrder_row x1 x2 B_count B_rows = some r) : Met l yX0_row (.code yX0_row cX0_row 3 (some .int) :: GW) rm_f_JoinOrder_row (va_Pc [.ref aJ, .int x1, .int x2] (xP D (xT cI cJ cZ) sz [(aJ, .inr (0, [.ref aT, .ref aP, .ref aF, .ref aQ, .ref aM, .ref aB, .int J_hasRun, .ref aJ_plainOrder, .ref aC])), (aB, .inr (5, [.ref aB_rows, .ref aB_spare, .int B_count, .int B_found, .int B_crowded])), (aB_rows, .inl (cJ, 500, .inr (.inl B_rows)))])) (va_Qi (fun r2 (_ : Nat → Nat) => r2 = r) (bB D (xT cI cJ cZ) (fun _ => [(aJ, .inr (0, [.ref aT, .ref aP, .ref aF, .ref aQ, .ref aM, .ref aB, .int J_hasRun, .ref aJ_plainOrder, .ref aC])), (aB, .inr (5, [.ref aB_rows, .ref aB_spare, .int B_count, .int B_found, .int B_crowded])), (aB_rows, .inl (cJ, 500, .inr (.inl B_rows)))]) (va_A [(aJ, .inr (0, [.ref aT, .ref aP, .ref aF, .ref aQ, .ref aM, .ref aB, .int J_hasRun, .ref aJ_plainOrder, .ref aC])), (aB, .inr (5, [.ref aB_rows, .ref aB_spare, .int B_count, .int B_found, .int B_crowded])), (aB_rows, .inl (cJ, 500, .inr (.inl B_rows)))] sz)) (va_A [(aJ, .inr (0, [.ref aT, .ref aP, .ref aF, .ref aQ, .ref aM, .ref aB, .int J_hasRun, .ref aJ_plainOrder, .ref aC])), (aB, .inr (5, [.ref aB_rows, .ref aB_spare, .int B_count, .int B_found, .int B_crowded])), (aB_rows, .inl (cJ, 500, .inr (.inl B_rows)))] sz)) 0 0 (va_A [(aJ, .inr (0, [.ref aT, .ref aP, .ref aF, .ref aQ, .ref aM, .ref aB, .int J_hasRun, .ref aJ_plainOrder, .ref aC])), (aB, .inr (5, [.ref aB_rows, .ref aB_spare, .int B_count, .int B_found, .int B_crowded])), (aB_rows, .inl (cJ, 500, .inr (.inl B_rows)))] sz) := by
  refine con_start (y := yX0_row) (bytes := cX0_row) (maxL := 3) (av := [.ref aJ, .int x1, .int x2]) (Qc := fun A => va_Qi (fun r2 (_ : Nat → Nat) => r2 = r) (bB D (xT cI cJ cZ) (fun _ => [(aJ, .inr (0, [.ref aT, .ref aP, .ref aF, .ref aQ, .ref aM, .ref aB, .int J_hasRun, .ref aJ_plainOrder, .ref aC])), (aB, .inr (5, [.ref aB_rows, .ref aB_spare, .int B_count, .int B_found, .int B_crowded])), (aB_rows, .inl (cJ, 500, .inr (.inl B_rows)))]) A) A) (by decide) (Nat.le_of_ble_eq_true rfl) ?_
  intro p e s m args below meth c Q A hx hb hr hlk hml hown hin htg hN hK hQ hA hP hD hS ls hl
  have hl : lv_has ls 3 [(0, .ref aJ), (1, .int x1), (2, .int x2)] := hl
  have hown : s.vm.findClass RX0 = some m.cls := hown
  have hf := (f_JoinOrder_row_u x1 x2 B_count B_rows).symm.trans hf
  refine lv_iload_n hx hb dX0_row_0 rfl (lv_at hl 1 rfl) ?_
  refine lv_if_lt (tgt := 15) hx hb dX0_row_1 (by decide) (fun c_1 => ?_) (fun c_1 => ?_)
  · have hf := xb_t c_1 hf
    refine lv_iconst (v := (-1 : Int32)) hx hb dX0_row_15 (by decide) ?_
    have hf := Option.some.inj hf
    subst hf
    exact x_iret (fun _ => 0) hQ hx hb hr hlk hK hP hD hS dX0_row_16
  · have hf := xb_f c_1 hf
    refine lv_iload_n hx hb dX0_row_4 rfl (lv_at hl 1 rfl) ?_
    refine lv_aload_n hx hb dX0_row_5 rfl (lv_at hl 0 rfl) ?_
    refine va_get (D := D) (ci := 0) (v := .ref aB) (C := RX0) (T := TX0) (N := 9) hx hb htg giX0 hown hK hP 0 rfl rfl 5 (by decide) (htg _ kw_205) (fun _ h9 => h9) rfl dX0_row_6 ?_
    refine va_getN (D := D) (ci := 5) (v := .int B_count) (C := RX5) (T := TX5) (N := 5) hx hb htg giX5 hown hK hP 1 rfl rfl 2 (by decide) (va_Nw.use rfl (hN _ kn_185)) (fun _ h9 => h9) rfl dX0_row_9 ?_
    refine lv_icmp_lt (tgt := 17) hx hb dX0_row_12 (by decide) (fun c_2 => ?_) (fun c_2 => ?_)
    · have hf := xb_t c_2 hf
      refine lv_iload_n hx hb dX0_row_17 rfl (lv_at hl 2 rfl) ?_
      refine x_z (xrS (As := [.int x2]) (rest := []) ⟨hx, hb, hml, hown, htg⟩ (c_f_JoinOrder_isVariable l D cI cJ cZ _ x2 rfl) kc_f_JoinOrder_isVariable kw_279 kw_280 kw_1 dd_f_JoinOrder_isVariable ⟨Nat.le_of_ble_eq_true rfl, Nat.le_of_ble_eq_true rfl⟩ rfl rfl (hP.sub [] rfl) (hD.sub [] (by decide) rfl) hK hN rfl hl.1 rfl (Nat.le_of_ble_eq_true rfl) dX0_row_18 ⟨Nat.le_of_ble_eq_true rfl, Nat.le_of_ble_eq_true rfl⟩) hP hD hS hA [] [0, 1, 2] rfl rfl (by decide) (by decide) (fun _ H locs bz_3 hP hD hS => ?_)
      have hP : va_P D vwCl [(aJ, .inr (0, [.ref aT, .ref aP, .ref aF, .ref aQ, .ref aM, .ref aB, .int J_hasRun, .ref aJ_plainOrder, .ref aC])), (aB, .inr (5, [.ref aB_rows, .ref aB_spare, .int B_count, .int B_found, .int B_crowded])), (aB_rows, .inl (cJ, 500, .inr (.inl B_rows)))] H := hP
      have hD : va_D A [(aJ, .inr (0, [.ref aT, .ref aP, .ref aF, .ref aQ, .ref aM, .ref aB, .int J_hasRun, .ref aJ_plainOrder, .ref aC])), (aB, .inr (5, [.ref aB_rows, .ref aB_spare, .int B_count, .int B_found, .int B_crowded])), (aB_rows, .inl (cJ, 500, .inr (.inl B_rows)))] := hD
      refine lv_if_ne (tgt := 27) hx hb dX0_row_21 (by decide) (fun c_4 => ?_) (fun c_4 => ?_)
      · have hf := xb_f c_4 hf
        refine lv_aload_n hx hb dX0_row_27 rfl (lv_at hl 0 rfl) ?_
        refine va_get (D := D) (ci := 0) (v := .ref aB) (C := RX0) (T := TX0) (N := 9) hx hb htg giX0 hown hK hP 0 rfl rfl 5 (by decide) (htg _ kw_205) (fun _ h9 => h9) rfl dX0_row_28 ?_
        refine va_getN (D := D) (ci := 5) (v := .ref aB_rows) (C := RX5) (T := TX5) (N := 5) hx hb htg giX5 hown hK hP 1 rfl rfl 0 (by decide) (va_Nw.use rfl (hN _ kn_182)) (fun _ h9 => h9) rfl dX0_row_31 ?_
        refine lv_iload_n hx hb dX0_row_34 rfl (lv_at hl 1 rfl) ?_
        have g_5 : vp_in x1 500 := gd_in hf
        have hf := gd_el hf
        refine va_lald hx hb hK hP 2 1 rfl rfl g_5 dX0_row_35 ?_
        refine lv_iload_n hx hb dX0_row_36 rfl (lv_at hl 2 rfl) ?_
        refine x_i (xrS (As := [.int x2]) (rest := [.long (B_rows x1.toNatClampNeg)]) ⟨hx, hb, hml, hown, htg⟩ (c_f_JoinOrder_indexOf l D cI cJ cZ _ x2 rfl) kc_f_JoinOrder_indexOf kw_324 kw_291 kw_1 dd_f_JoinOrder_indexOf ⟨Nat.le_of_ble_eq_true rfl, Nat.le_of_ble_eq_true rfl⟩ rfl rfl (hP.sub [] rfl) (hD.sub [] (by decide) rfl) hK hN rfl hl.1 rfl (Nat.le_of_ble_eq_true rfl) dX0_row_37 ⟨Nat.le_of_ble_eq_true rfl, Nat.le_of_ble_eq_true rfl⟩) hP hD hS hA [] [0, 1, 2] rfl rfl (by decide) (by decide) (fun _ H locs hP hD hS => ?_)
        have hP : va_P D vwCl [(aJ, .inr (0, [.ref aT, .ref aP, .ref aF, .ref aQ, .ref aM, .ref aB, .int J_hasRun, .ref aJ_plainOrder, .ref aC])), (aB, .inr (5, [.ref aB_rows, .ref aB_spare, .int B_count, .int B_found, .int B_crowded])), (aB_rows, .inl (cJ, 500, .inr (.inl B_rows)))] H := hP
        have hD : va_D A [(aJ, .inr (0, [.ref aT, .ref aP, .ref aF, .ref aQ, .ref aM, .ref aB, .int J_hasRun, .ref aJ_plainOrder, .ref aC])), (aB, .inr (5, [.ref aB_rows, .ref aB_spare, .int B_count, .int B_found, .int B_crowded])), (aB_rows, .inl (cJ, 500, .inr (.inl B_rows)))] := hD
        refine x_i (xrS (As := [.long (B_rows x1.toNatClampNeg), .int (f_JoinOrder_indexOf x2)]) (rest := []) ⟨hx, hb, hml, hown, htg⟩ (c_f_Table_termOf l D cI cJ cZ _ (B_rows x1.toNatClampNeg) (f_JoinOrder_indexOf x2) rfl) kc_f_Table_termOf kw_530 kw_496 kw_7 dd_f_Table_termOf ⟨Nat.le_of_ble_eq_true rfl, Nat.le_of_ble_eq_true rfl⟩ rfl rfl (hP.sub [] rfl) (hD.sub [] (by decide) rfl) hK hN rfl hl.1 rfl (Nat.le_of_ble_eq_true rfl) dX0_row_40 ⟨Nat.le_of_ble_eq_true rfl, Nat.le_of_ble_eq_true rfl⟩) hP hD hS hA [] [0, 1, 2] rfl rfl (by decide) (by decide) (fun _ H locs hP hD hS => ?_)
        have hP : va_P D vwCl [(aJ, .inr (0, [.ref aT, .ref aP, .ref aF, .ref aQ, .ref aM, .ref aB, .int J_hasRun, .ref aJ_plainOrder, .ref aC])), (aB, .inr (5, [.ref aB_rows, .ref aB_spare, .int B_count, .int B_found, .int B_crowded])), (aB_rows, .inl (cJ, 500, .inr (.inl B_rows)))] H := hP
        have hD : va_D A [(aJ, .inr (0, [.ref aT, .ref aP, .ref aF, .ref aQ, .ref aM, .ref aB, .int J_hasRun, .ref aJ_plainOrder, .ref aC])), (aB, .inr (5, [.ref aB_rows, .ref aB_spare, .int B_count, .int B_found, .int B_crowded])), (aB_rows, .inl (cJ, 500, .inr (.inl B_rows)))] := hD
        have hf := Option.some.inj hf
        subst hf
        exact x_iret (fun _ => 0) hQ hx hb hr hlk hK hP hD hS dX0_row_43
      · have hf := xb_t c_4 hf
        refine lv_bipush (v := (-2 : Int32)) hx hb dX0_row_24 (by decide) ?_
        have hf := Option.some.inj hf
        subst hf
        exact x_iret (fun _ => 0) hQ hx hb hr hlk hK hP hD hS dX0_row_26
    · have hf := xb_f c_2 hf
      refine lv_iconst (v := (-1 : Int32)) hx hb dX0_row_15 (by decide) ?_
      have hf := Option.some.inj hf
      subst hf
      exact x_iret (fun _ => 0) hQ hx hb hr hlk hK hP hD hS dX0_row_16
