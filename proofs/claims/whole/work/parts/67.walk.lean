abbrev rm_f_Plan_has : Room := { frames := 0, cells := 0, slots := 0, locals := 0 }
set_option maxHeartbeats 4000000 in
set_option maxRecDepth 100000 in
theorem c_f_Plan_has (l : Launch) (D : va_G) (cI cJ cZ : ClassId) (sz : Nat) (aM : Nat) (x1 : Int32) (aM_order : Nat) (aM_joins : Nat) (aM_acting : Nat) (aM_estimates : Nat) (aM_actsBehind : Nat) (M_steps : Int32) (M_filters : Int32) {r : Int32} (hf : f_Plan_has x1 M_steps = r) : Met l yX3_has (.code yX3_has cX3_has 2 (some .boolean) :: GW) rm_f_Plan_has (va_Pc [.ref aM, .int x1] (xP D (xT cI cJ cZ) sz [(aM, .inr (3, [.ref aM_order, .ref aM_joins, .ref aM_acting, .ref aM_estimates, .ref aM_actsBehind, .int M_steps, .int M_filters]))])) (va_Qi (fun r2 (_ : Nat → Nat) => r2 = r ∧ (r = 0 ∨ r = 1)) (bB D (xT cI cJ cZ) (fun _ => [(aM, .inr (3, [.ref aM_order, .ref aM_joins, .ref aM_acting, .ref aM_estimates, .ref aM_actsBehind, .int M_steps, .int M_filters]))]) (va_A [(aM, .inr (3, [.ref aM_order, .ref aM_joins, .ref aM_acting, .ref aM_estimates, .ref aM_actsBehind, .int M_steps, .int M_filters]))] sz)) (va_A [(aM, .inr (3, [.ref aM_order, .ref aM_joins, .ref aM_acting, .ref aM_estimates, .ref aM_actsBehind, .int M_steps, .int M_filters]))] sz)) 0 0 (va_A [(aM, .inr (3, [.ref aM_order, .ref aM_joins, .ref aM_acting, .ref aM_estimates, .ref aM_actsBehind, .int M_steps, .int M_filters]))] sz) := by
  refine con_start (Qc := fun A => va_Qi (fun r2 (_ : Nat → Nat) => r2 = r ∧ (r = 0 ∨ r = 1)) (bB D (xT cI cJ cZ) (fun _ => [(aM, .inr (3, [.ref aM_order, .ref aM_joins, .ref aM_acting, .ref aM_estimates, .ref aM_actsBehind, .int M_steps, .int M_filters]))]) A) A) (by decide) (Nat.le_of_ble_eq_true rfl) ?_
  intro p e s m args below meth c Q A hx hb hr hlk hml hown hin htg hN hK hQ hA hP hD hS ls hl
  have hl : lv_has ls 2 [(0, .ref aM), (1, .int x1)] := hl
  have hown : s.vm.findClass RX3 = some m.cls := hown
  have hf := (f_Plan_has_u x1 M_steps).symm.trans hf
  refine lv_iload_n hx hb dX3_has_0 rfl (lv_at hl 1 rfl) ?_
  refine lv_if_lt (tgt := 16) hx hb dX3_has_1 (by decide) (fun c_1 => ?_) (fun c_1 => ?_)
  · have hf := xb_t c_1 hf
    refine lv_iconst (v := (0 : Int32)) hx hb dX3_has_16 (by decide) ?_
    have hf := hf
    cases hf
    exact x_zret (fun _ => 0) hQ hx hb hr hlk (by decide) hK hP hD hS dX3_has_17
  · have hf := xb_f c_1 hf
    refine lv_iload_n hx hb dX3_has_4 rfl (lv_at hl 1 rfl) ?_
    refine lv_aload_n hx hb dX3_has_5 rfl (lv_at hl 0 rfl) ?_
    refine va_get (D := D) (ci := 3) (v := .int M_steps) (C := RX3) (T := TX3) (N := 7) hx hb htg giX3 hown hK hP 0 rfl rfl 5 (by decide) (htg _ kw_155) (fun _ h9 => h9) rfl dX3_has_6 ?_
    refine lv_icmp_ge (tgt := 16) hx hb dX3_has_9 (by decide) (fun c_2 => ?_) (fun c_2 => ?_)
    · have hf := xb_t c_2 hf
      refine lv_iconst (v := (0 : Int32)) hx hb dX3_has_16 (by decide) ?_
      have hf := hf
      cases hf
      exact x_zret (fun _ => 0) hQ hx hb hr hlk (by decide) hK hP hD hS dX3_has_17
    · have hf := xb_f c_2 hf
      refine lv_iconst (v := (1 : Int32)) hx hb dX3_has_12 (by decide) ?_
      refine lv_goto (tgt := 17) hx hb dX3_has_13 (by decide) ?_
      have hf := hf
      cases hf
      exact x_zret (fun _ => 0) hQ hx hb hr hlk (by decide) hK hP hD hS dX3_has_17
abbrev rm_f_JoinOrder_step : Room := { frames := 1, cells := 0, slots := 0, locals := 21 }
set_option maxHeartbeats 4000000 in
set_option maxRecDepth 100000 in
theorem c_f_JoinOrder_step (l : Launch) (D : va_G) (cI cJ cZ : ClassId) (sz : Nat) (aJ : Nat) (x1 : Int32) (x2 : Int32) (aT : Nat) (aP : Nat) (aF : Nat) (aQ : Nat) (aM : Nat) (aB : Nat) (J_hasRun : Int32) (aJ_plainOrder : Nat) (aC : Nat) (aM_order : Nat) (aM_joins : Nat) (aM_acting : Nat) (aM_estimates : Nat) (aM_actsBehind : Nat) (M_steps : Int32) (M_filters : Int32) (M_order : Nat → Int32) (M_joins : Nat → Int32) (M_acting : Nat → Int32) {r : Int32} (hf : f_JoinOrder_step x1 x2 M_steps M_order M_joins M_acting = some r) : Met l yX0_step (.code yX0_step cX0_step 3 (some .int) :: GW) rm_f_JoinOrder_step (va_Pc [.ref aJ, .int x1, .int x2] (xP D (xT cI cJ cZ) sz [(aJ, .inr (0, [.ref aT, .ref aP, .ref aF, .ref aQ, .ref aM, .ref aB, .int J_hasRun, .ref aJ_plainOrder, .ref aC])), (aM, .inr (3, [.ref aM_order, .ref aM_joins, .ref aM_acting, .ref aM_estimates, .ref aM_actsBehind, .int M_steps, .int M_filters])), (aM_order, .inl (cI, 8, .inl M_order)), (aM_joins, .inl (cI, 8, .inl M_joins)), (aM_acting, .inl (cI, 8, .inl M_acting))])) (va_Qi (fun r2 (_ : Nat → Nat) => r2 = r) (bB D (xT cI cJ cZ) (fun _ => [(aJ, .inr (0, [.ref aT, .ref aP, .ref aF, .ref aQ, .ref aM, .ref aB, .int J_hasRun, .ref aJ_plainOrder, .ref aC])), (aM, .inr (3, [.ref aM_order, .ref aM_joins, .ref aM_acting, .ref aM_estimates, .ref aM_actsBehind, .int M_steps, .int M_filters])), (aM_order, .inl (cI, 8, .inl M_order)), (aM_joins, .inl (cI, 8, .inl M_joins)), (aM_acting, .inl (cI, 8, .inl M_acting))]) (va_A [(aJ, .inr (0, [.ref aT, .ref aP, .ref aF, .ref aQ, .ref aM, .ref aB, .int J_hasRun, .ref aJ_plainOrder, .ref aC])), (aM, .inr (3, [.ref aM_order, .ref aM_joins, .ref aM_acting, .ref aM_estimates, .ref aM_actsBehind, .int M_steps, .int M_filters])), (aM_order, .inl (cI, 8, .inl M_order)), (aM_joins, .inl (cI, 8, .inl M_joins)), (aM_acting, .inl (cI, 8, .inl M_acting))] sz)) (va_A [(aJ, .inr (0, [.ref aT, .ref aP, .ref aF, .ref aQ, .ref aM, .ref aB, .int J_hasRun, .ref aJ_plainOrder, .ref aC])), (aM, .inr (3, [.ref aM_order, .ref aM_joins, .ref aM_acting, .ref aM_estimates, .ref aM_actsBehind, .int M_steps, .int M_filters])), (aM_order, .inl (cI, 8, .inl M_order)), (aM_joins, .inl (cI, 8, .inl M_joins)), (aM_acting, .inl (cI, 8, .inl M_acting))] sz)) 0 0 (va_A [(aJ, .inr (0, [.ref aT, .ref aP, .ref aF, .ref aQ, .ref aM, .ref aB, .int J_hasRun, .ref aJ_plainOrder, .ref aC])), (aM, .inr (3, [.ref aM_order, .ref aM_joins, .ref aM_acting, .ref aM_estimates, .ref aM_actsBehind, .int M_steps, .int M_filters])), (aM_order, .inl (cI, 8, .inl M_order)), (aM_joins, .inl (cI, 8, .inl M_joins)), (aM_acting, .inl (cI, 8, .inl M_acting))] sz) := by
  refine con_start (Qc := fun A => va_Qi (fun r2 (_ : Nat → Nat) => r2 = r) (bB D (xT cI cJ cZ) (fun _ => [(aJ, .inr (0, [.ref aT, .ref aP, .ref aF, .ref aQ, .ref aM, .ref aB, .int J_hasRun, .ref aJ_plainOrder, .ref aC])), (aM, .inr (3, [.ref aM_order, .ref aM_joins, .ref aM_acting, .ref aM_estimates, .ref aM_actsBehind, .int M_steps, .int M_filters])), (aM_order, .inl (cI, 8, .inl M_order)), (aM_joins, .inl (cI, 8, .inl M_joins)), (aM_acting, .inl (cI, 8, .inl M_acting))]) A) A) (by decide) (Nat.le_of_ble_eq_true rfl) ?_
  intro p e s m args below meth c Q A hx hb hr hlk hml hown hin htg hN hK hQ hA hP hD hS ls hl
  have hl : lv_has ls 3 [(0, .ref aJ), (1, .int x1), (2, .int x2)] := hl
  have hown : s.vm.findClass RX0 = some m.cls := hown
  have hf := (f_JoinOrder_step_u x1 x2 M_steps M_order M_joins M_acting).symm.trans hf
  refine lv_aload_n hx hb dX0_step_0 rfl (lv_at hl 0 rfl) ?_
  refine va_get (D := D) (ci := 0) (v := .ref aM) (C := RX0) (T := TX0) (N := 9) hx hb htg giX0 hown hK hP 0 rfl rfl 4 (by decide) (htg _ kw_204) (fun _ h9 => h9) rfl dX0_step_1 ?_
  refine lv_iload_n hx hb dX0_step_4 rfl (lv_at hl 1 rfl) ?_
  refine x_z (xrV (As := [.int x1]) (b := aM) (rest := []) ⟨hx, hb, hml, hown, htg⟩ (c_f_Plan_has l D cI cJ cZ _ aM x1 aM_order aM_joins aM_acting aM_estimates aM_actsBehind M_steps M_filters rfl) kc_f_Plan_has kw_449 kw_450 kw_451 kw_6 dd_f_Plan_has ⟨Nat.le_of_ble_eq_true rfl, Nat.le_of_ble_eq_true rfl⟩ rfl rfl (hP.sub [1] rfl) (hD.sub [1] (by decide) rfl) hK hN hP (q0 := 1) rfl rfl rfl hl.1 rfl (Nat.le_of_ble_eq_true rfl) dX0_step_5 ⟨Nat.le_of_ble_eq_true rfl, Nat.le_of_ble_eq_true rfl⟩) hP hD hS hA [1] [0, 2, 3, 4] rfl rfl (by decide) (by decide) (fun _ H locs bz_1 hP hD hS => ?_)
  have hP : va_P D vwCl [(aJ, .inr (0, [.ref aT, .ref aP, .ref aF, .ref aQ, .ref aM, .ref aB, .int J_hasRun, .ref aJ_plainOrder, .ref aC])), (aM_order, .inl (cI, 8, .inl M_order)), (aM_joins, .inl (cI, 8, .inl M_joins)), (aM_acting, .inl (cI, 8, .inl M_acting)), (aM, .inr (3, [.ref aM_order, .ref aM_joins, .ref aM_acting, .ref aM_estimates, .ref aM_actsBehind, .int M_steps, .int M_filters]))] H := hP
  have hD : va_D A [(aJ, .inr (0, [.ref aT, .ref aP, .ref aF, .ref aQ, .ref aM, .ref aB, .int J_hasRun, .ref aJ_plainOrder, .ref aC])), (aM_order, .inl (cI, 8, .inl M_order)), (aM_joins, .inl (cI, 8, .inl M_joins)), (aM_acting, .inl (cI, 8, .inl M_acting)), (aM, .inr (3, [.ref aM_order, .ref aM_joins, .ref aM_acting, .ref aM_estimates, .ref aM_actsBehind, .int M_steps, .int M_filters]))] := hD
  refine lv_if_ne (tgt := 13) hx hb dX0_step_8 (by decide) (fun c_2 => ?_) (fun c_2 => ?_)
  · have hf := xb_f c_2 hf
    refine lv_iload_n hx hb dX0_step_13 rfl (lv_at hl 2 rfl) ?_
    rcases Decidable.em (x2 = (0 : Int32)) with cs_14_0 | cs_14_0
    · have hf := xb_t cs_14_0 hf
      refine lv_tableIn (off := 26) (tgt := 40) hx hb dX0_step_14 (by rw [cs_14_0]; decide) (by rw [cs_14_0]; decide) (by rw [cs_14_0]; decide) (by decide) ?_
      refine lv_aload_n hx hb dX0_step_40 rfl (lv_at hl 0 rfl) ?_
      refine va_get (D := D) (ci := 0) (v := .ref aM) (C := RX0) (T := TX0) (N := 9) hx hb htg giX0 hown hK hP 0 rfl rfl 4 (by decide) (htg _ kw_204) (fun _ h9 => h9) rfl dX0_step_41 ?_
      refine va_getN (D := D) (ci := 3) (v := .ref aM_order) (C := RX3) (T := TX3) (N := 7) hx hb htg giX3 hown hK hP 4 rfl rfl 0 (by decide) (va_Nw.use rfl (hN _ kn_144)) (fun _ h9 => h9) rfl dX0_step_44 ?_
      refine lv_iload_n hx hb dX0_step_47 rfl (lv_at hl 1 rfl) ?_
      have g_3 : vp_in x1 8 := gd_in hf
      have hf := gd_el hf
      refine va_iald hx hb hK hP 1 0 rfl rfl g_3 dX0_step_48 ?_
      have hf := Option.some.inj hf
      cases hf
      exact x_iret (fun _ => 0) hQ hx hb hr hlk hK (hP.sub [0, 4, 1, 2, 3] rfl) (hD.sub [0, 4, 1, 2, 3] (by decide) rfl) hS dX0_step_49
    · have hf := xb_f cs_14_0 hf
      rcases Decidable.em (x2 = (1 : Int32)) with cs_14_1 | cs_14_1
      · have hf := xb_t cs_14_1 hf
        refine lv_tableIn (off := 36) (tgt := 50) hx hb dX0_step_14 (by rw [cs_14_1]; decide) (by rw [cs_14_1]; decide) (by rw [cs_14_1]; decide) (by decide) ?_
        refine lv_aload_n hx hb dX0_step_50 rfl (lv_at hl 0 rfl) ?_
        refine va_get (D := D) (ci := 0) (v := .ref aM) (C := RX0) (T := TX0) (N := 9) hx hb htg giX0 hown hK hP 0 rfl rfl 4 (by decide) (htg _ kw_204) (fun _ h9 => h9) rfl dX0_step_51 ?_
        refine va_getN (D := D) (ci := 3) (v := .ref aM_joins) (C := RX3) (T := TX3) (N := 7) hx hb htg giX3 hown hK hP 4 rfl rfl 1 (by decide) (va_Nw.use rfl (hN _ kn_147)) (fun _ h9 => h9) rfl dX0_step_54 ?_
        refine lv_iload_n hx hb dX0_step_57 rfl (lv_at hl 1 rfl) ?_
        have g_4 : vp_in x1 8 := gd_in hf
        have hf := gd_el hf
        refine va_iald hx hb hK hP 2 0 rfl rfl g_4 dX0_step_58 ?_
        have hf := Option.some.inj hf
        cases hf
        exact x_iret (fun _ => 0) hQ hx hb hr hlk hK (hP.sub [0, 4, 1, 2, 3] rfl) (hD.sub [0, 4, 1, 2, 3] (by decide) rfl) hS dX0_step_59
      · have hf := xb_f cs_14_1 hf
        rcases Decidable.em (x2 = (2 : Int32)) with cs_14_2 | cs_14_2
        · have hf := xb_t cs_14_2 hf
          refine lv_tableIn (off := 46) (tgt := 60) hx hb dX0_step_14 (by rw [cs_14_2]; decide) (by rw [cs_14_2]; decide) (by rw [cs_14_2]; decide) (by decide) ?_
          refine lv_aload_n hx hb dX0_step_60 rfl (lv_at hl 0 rfl) ?_
          refine va_get (D := D) (ci := 0) (v := .ref aM) (C := RX0) (T := TX0) (N := 9) hx hb htg giX0 hown hK hP 0 rfl rfl 4 (by decide) (htg _ kw_204) (fun _ h9 => h9) rfl dX0_step_61 ?_
          refine va_getN (D := D) (ci := 3) (v := .ref aM_acting) (C := RX3) (T := TX3) (N := 7) hx hb htg giX3 hown hK hP 4 rfl rfl 2 (by decide) (va_Nw.use rfl (hN _ kn_149)) (fun _ h9 => h9) rfl dX0_step_64 ?_
          refine lv_iload_n hx hb dX0_step_67 rfl (lv_at hl 1 rfl) ?_
          have g_5 : vp_in x1 8 := gd_in hf
          have hf := gd_el hf
          refine va_iald hx hb hK hP 3 0 rfl rfl g_5 dX0_step_68 ?_
          refine x_i (xrS (As := [.int (M_acting x1.toNatClampNeg)]) (rest := []) ⟨hx, hb, hml, hown, htg⟩ (c_f_Integer_bitCount l D cI cJ cZ _ (M_acting x1.toNatClampNeg) rfl) kc_f_Integer_bitCount kw_453 kw_369 kw_9 dd_f_Integer_bitCount ⟨Nat.le_of_ble_eq_true rfl, Nat.le_of_ble_eq_true rfl⟩ rfl rfl (hP.sub [] rfl) (hD.sub [] (by decide) rfl) hK hN rfl hl.1 rfl (Nat.le_of_ble_eq_true rfl) dX0_step_69 ⟨Nat.le_of_ble_eq_true rfl, Nat.le_of_ble_eq_true rfl⟩) hP hD hS hA [] [0, 1, 2, 3, 4] rfl rfl (by decide) (by decide) (fun _ H locs hP hD hS => ?_)
          have hP : va_P D vwCl [(aJ, .inr (0, [.ref aT, .ref aP, .ref aF, .ref aQ, .ref aM, .ref aB, .int J_hasRun, .ref aJ_plainOrder, .ref aC])), (aM_order, .inl (cI, 8, .inl M_order)), (aM_joins, .inl (cI, 8, .inl M_joins)), (aM_acting, .inl (cI, 8, .inl M_acting)), (aM, .inr (3, [.ref aM_order, .ref aM_joins, .ref aM_acting, .ref aM_estimates, .ref aM_actsBehind, .int M_steps, .int M_filters]))] H := hP
          have hD : va_D A [(aJ, .inr (0, [.ref aT, .ref aP, .ref aF, .ref aQ, .ref aM, .ref aB, .int J_hasRun, .ref aJ_plainOrder, .ref aC])), (aM_order, .inl (cI, 8, .inl M_order)), (aM_joins, .inl (cI, 8, .inl M_joins)), (aM_acting, .inl (cI, 8, .inl M_acting)), (aM, .inr (3, [.ref aM_order, .ref aM_joins, .ref aM_acting, .ref aM_estimates, .ref aM_actsBehind, .int M_steps, .int M_filters]))] := hD
          have hf := Option.some.inj hf
          cases hf
          exact x_iret (fun _ => 0) hQ hx hb hr hlk hK (hP.sub [0, 4, 1, 2, 3] rfl) (hD.sub [0, 4, 1, 2, 3] (by decide) rfl) hS dX0_step_72
        · have hf := xb_f cs_14_2 hf
          refine lv_tableOut (tgt := 73) hx hb dX0_step_14 (by have z0 : x2.toInt ≠ 0 := fun h => cs_14_0 (Int32.toInt_inj.mp (h.trans (by decide))); have z1 : x2.toInt ≠ 1 := fun h => cs_14_1 (Int32.toInt_inj.mp (h.trans (by decide))); have z2 : x2.toInt ≠ 2 := fun h => cs_14_2 (Int32.toInt_inj.mp (h.trans (by decide))); omega) (by decide) ?_
          refine lv_bipush (v := (-2 : Int32)) hx hb dX0_step_73 (by decide) ?_
          have hf := Option.some.inj hf
          cases hf
          exact x_iret (fun _ => 0) hQ hx hb hr hlk hK (hP.sub [0, 4, 1, 2, 3] rfl) (hD.sub [0, 4, 1, 2, 3] (by decide) rfl) hS dX0_step_75
  · have hf := xb_t c_2 hf
    refine lv_iconst (v := (-1 : Int32)) hx hb dX0_step_11 (by decide) ?_
    have hf := Option.some.inj hf
    cases hf
    exact x_iret (fun _ => 0) hQ hx hb hr hlk hK (hP.sub [0, 4, 1, 2, 3] rfl) (hD.sub [0, 4, 1, 2, 3] (by decide) rfl) hS dX0_step_12
abbrev rm_f_JoinOrderModel_step : Room := { frames := 0, cells := 0, slots := 0, locals := 0 }
set_option maxHeartbeats 4000000 in
set_option maxRecDepth 100000 in
theorem c_f_JoinOrderModel_step (l : Launch) (D : va_G) (cI cJ cZ : ClassId) (sz : Nat) (aR : Nat) (x1 : Int32) (x2 : Int32) (R_triples : Int32) (aR_facts : Nat) (R_patterns : Int32) (aR_cells : Nat) (aR_told : Nat) (aR_of : Nat) (aR_hints : Nat) (R_filters : Int32) (aR_looks : Nat) (aR_kinds : Nat) (aR_values : Nat) (aR_isSafe : Nat) (aR_sizes : Nat) (aR_spreads : Nat) (aR_isSeen : Nat) (aR_estimates : Nat) (aR_rest : Nat) (R_steps : Int32) (aR_order : Nat) (aR_joins : Nat) (aR_actsBehind : Nat) (aR_upTo : Nat) (R_filtersThen : Int32) (aR_behind : Nat) (R_rows : Int32) (aR_row : Nat) (aR_found : Nat) (R_comes : Int32) (aR_next : Nat) (aR_nextFound : Nat) (R_kept : Int32) (R_hasRoom : Int32) (aR_keep : Nat) (aR_isTaken : Nat) (R_actsBehind : Nat → Int32) (R_joins : Nat → Int32) (R_order : Nat → Int32) {r : Int32} (hf : f_JoinOrderModel_step x1 x2 R_steps R_actsBehind R_joins R_order = some r) : Met l yX7_step (.code yX7_step cX7_step 3 (some .int) :: GW) rm_f_JoinOrderModel_step (va_Pc [.ref aR, .int x1, .int x2] (xP D (xT cI cJ cZ) sz [(aR, .inr (7, [.int R_triples, .ref aR_facts, .int R_patterns, .ref aR_cells, .ref aR_told, .ref aR_of, .ref aR_hints, .int R_filters, .ref aR_looks, .ref aR_kinds, .ref aR_values, .ref aR_isSafe, .ref aR_sizes, .ref aR_spreads, .ref aR_isSeen, .ref aR_estimates, .ref aR_rest, .int R_steps, .ref aR_order, .ref aR_joins, .ref aR_actsBehind, .ref aR_upTo, .int R_filtersThen, .ref aR_behind, .int R_rows, .ref aR_row, .ref aR_found, .int R_comes, .ref aR_next, .ref aR_nextFound, .int R_kept, .int R_hasRoom, .ref aR_keep, .ref aR_isTaken])), (aR_actsBehind, .inl (cI, 8, .inl R_actsBehind)), (aR_joins, .inl (cI, 8, .inl R_joins)), (aR_order, .inl (cI, 8, .inl R_order))])) (va_Qi (fun r2 (_ : Nat → Nat) => r2 = r) (bB D (xT cI cJ cZ) (fun _ => [(aR, .inr (7, [.int R_triples, .ref aR_facts, .int R_patterns, .ref aR_cells, .ref aR_told, .ref aR_of, .ref aR_hints, .int R_filters, .ref aR_looks, .ref aR_kinds, .ref aR_values, .ref aR_isSafe, .ref aR_sizes, .ref aR_spreads, .ref aR_isSeen, .ref aR_estimates, .ref aR_rest, .int R_steps, .ref aR_order, .ref aR_joins, .ref aR_actsBehind, .ref aR_upTo, .int R_filtersThen, .ref aR_behind, .int R_rows, .ref aR_row, .ref aR_found, .int R_comes, .ref aR_next, .ref aR_nextFound, .int R_kept, .int R_hasRoom, .ref aR_keep, .ref aR_isTaken])), (aR_actsBehind, .inl (cI, 8, .inl R_actsBehind)), (aR_joins, .inl (cI, 8, .inl R_joins)), (aR_order, .inl (cI, 8, .inl R_order))]) (va_A [(aR, .inr (7, [.int R_triples, .ref aR_facts, .int R_patterns, .ref aR_cells, .ref aR_told, .ref aR_of, .ref aR_hints, .int R_filters, .ref aR_looks, .ref aR_kinds, .ref aR_values, .ref aR_isSafe, .ref aR_sizes, .ref aR_spreads, .ref aR_isSeen, .ref aR_estimates, .ref aR_rest, .int R_steps, .ref aR_order, .ref aR_joins, .ref aR_actsBehind, .ref aR_upTo, .int R_filtersThen, .ref aR_behind, .int R_rows, .ref aR_row, .ref aR_found, .int R_comes, .ref aR_next, .ref aR_nextFound, .int R_kept, .int R_hasRoom, .ref aR_keep, .ref aR_isTaken])), (aR_actsBehind, .inl (cI, 8, .inl R_actsBehind)), (aR_joins, .inl (cI, 8, .inl R_joins)), (aR_order, .inl (cI, 8, .inl R_order))] sz)) (va_A [(aR, .inr (7, [.int R_triples, .ref aR_facts, .int R_patterns, .ref aR_cells, .ref aR_told, .ref aR_of, .ref aR_hints, .int R_filters, .ref aR_looks, .ref aR_kinds, .ref aR_values, .ref aR_isSafe, .ref aR_sizes, .ref aR_spreads, .ref aR_isSeen, .ref aR_estimates, .ref aR_rest, .int R_steps, .ref aR_order, .ref aR_joins, .ref aR_actsBehind, .ref aR_upTo, .int R_filtersThen, .ref aR_behind, .int R_rows, .ref aR_row, .ref aR_found, .int R_comes, .ref aR_next, .ref aR_nextFound, .int R_kept, .int R_hasRoom, .ref aR_keep, .ref aR_isTaken])), (aR_actsBehind, .inl (cI, 8, .inl R_actsBehind)), (aR_joins, .inl (cI, 8, .inl R_joins)), (aR_order, .inl (cI, 8, .inl R_order))] sz)) 0 0 (va_A [(aR, .inr (7, [.int R_triples, .ref aR_facts, .int R_patterns, .ref aR_cells, .ref aR_told, .ref aR_of, .ref aR_hints, .int R_filters, .ref aR_looks, .ref aR_kinds, .ref aR_values, .ref aR_isSafe, .ref aR_sizes, .ref aR_spreads, .ref aR_isSeen, .ref aR_estimates, .ref aR_rest, .int R_steps, .ref aR_order, .ref aR_joins, .ref aR_actsBehind, .ref aR_upTo, .int R_filtersThen, .ref aR_behind, .int R_rows, .ref aR_row, .ref aR_found, .int R_comes, .ref aR_next, .ref aR_nextFound, .int R_kept, .int R_hasRoom, .ref aR_keep, .ref aR_isTaken])), (aR_actsBehind, .inl (cI, 8, .inl R_actsBehind)), (aR_joins, .inl (cI, 8, .inl R_joins)), (aR_order, .inl (cI, 8, .inl R_order))] sz) := by
  refine con_start (Qc := fun A => va_Qi (fun r2 (_ : Nat → Nat) => r2 = r) (bB D (xT cI cJ cZ) (fun _ => [(aR, .inr (7, [.int R_triples, .ref aR_facts, .int R_patterns, .ref aR_cells, .ref aR_told, .ref aR_of, .ref aR_hints, .int R_filters, .ref aR_looks, .ref aR_kinds, .ref aR_values, .ref aR_isSafe, .ref aR_sizes, .ref aR_spreads, .ref aR_isSeen, .ref aR_estimates, .ref aR_rest, .int R_steps, .ref aR_order, .ref aR_joins, .ref aR_actsBehind, .ref aR_upTo, .int R_filtersThen, .ref aR_behind, .int R_rows, .ref aR_row, .ref aR_found, .int R_comes, .ref aR_next, .ref aR_nextFound, .int R_kept, .int R_hasRoom, .ref aR_keep, .ref aR_isTaken])), (aR_actsBehind, .inl (cI, 8, .inl R_actsBehind)), (aR_joins, .inl (cI, 8, .inl R_joins)), (aR_order, .inl (cI, 8, .inl R_order))]) A) A) (by decide) (Nat.le_of_ble_eq_true rfl) ?_
  intro p e s m args below meth c Q A hx hb hr hlk hml hown hin htg hN hK hQ hA hP hD hS ls hl
  have hl : lv_has ls 3 [(0, .ref aR), (1, .int x1), (2, .int x2)] := hl
  have hown : s.vm.findClass RX7 = some m.cls := hown
  have hf := (f_JoinOrderModel_step_u x1 x2 R_steps R_actsBehind R_joins R_order).symm.trans hf
  refine lv_iload_n hx hb dX7_step_0 rfl (lv_at hl 1 rfl) ?_
  refine lv_if_lt (tgt := 12) hx hb dX7_step_1 (by decide) (fun c_1 => ?_) (fun c_1 => ?_)
  · have hf := xb_t c_1 hf
    refine lv_iconst (v := (-1 : Int32)) hx hb dX7_step_12 (by decide) ?_
    have hf := Option.some.inj hf
    cases hf
    exact x_iret (fun _ => 0) hQ hx hb hr hlk hK hP hD hS dX7_step_13
  · have hf := xb_f c_1 hf
    refine lv_iload_n hx hb dX7_step_4 rfl (lv_at hl 1 rfl) ?_
    refine lv_aload_n hx hb dX7_step_5 rfl (lv_at hl 0 rfl) ?_
    refine va_get (D := D) (ci := 7) (v := .int R_steps) (C := RX7) (T := TX7) (N := 34) hx hb htg giX7 hown hK hP 0 rfl rfl 17 (by decide) (htg _ kw_580) (fun _ h9 => h9) rfl dX7_step_6 ?_
    refine lv_icmp_lt (tgt := 14) hx hb dX7_step_9 (by decide) (fun c_2 => ?_) (fun c_2 => ?_)
    · have hf := xb_t c_2 hf
      refine lv_iload_n hx hb dX7_step_14 rfl (lv_at hl 2 rfl) ?_
      refine lv_if_ne (tgt := 27) hx hb dX7_step_15 (by decide) (fun c_3 => ?_) (fun c_3 => ?_)
      · have hf := xb_f c_3 hf
        refine lv_iload_n hx hb dX7_step_27 rfl (lv_at hl 2 rfl) ?_
        refine lv_iconst (v := (1 : Int32)) hx hb dX7_step_28 (by decide) ?_
        refine lv_icmp_ne (tgt := 41) hx hb dX7_step_29 (by decide) (fun c_4 => ?_) (fun c_4 => ?_)
        · have hf := xb_f c_4 hf
          refine lv_iload_n hx hb dX7_step_41 rfl (lv_at hl 2 rfl) ?_
          refine lv_iconst (v := (2 : Int32)) hx hb dX7_step_42 (by decide) ?_
          refine lv_icmp_ne (tgt := 55) hx hb dX7_step_43 (by decide) (fun c_5 => ?_) (fun c_5 => ?_)
          · have hf := xb_f c_5 hf
            refine lv_bipush (v := (-2 : Int32)) hx hb dX7_step_55 (by decide) ?_
            have hf := Option.some.inj hf
            cases hf
            exact x_iret (fun _ => 0) hQ hx hb hr hlk hK hP hD hS dX7_step_57
          · have hf := xb_t c_5 hf
            refine lv_aload_n hx hb dX7_step_46 rfl (lv_at hl 0 rfl) ?_
            refine va_get (D := D) (ci := 7) (v := .ref aR_actsBehind) (C := RX7) (T := TX7) (N := 34) hx hb htg giX7 hown hK hP 0 rfl rfl 20 (by decide) (htg _ kw_583) (fun _ h9 => h9) rfl dX7_step_47 ?_
            refine lv_iload_n hx hb dX7_step_50 rfl (lv_at hl 1 rfl) ?_
            have g_6 : vp_in x1 8 := gd_in hf
            have hf := gd_el hf
            refine va_iald hx hb hK hP 1 0 rfl rfl g_6 dX7_step_51 ?_
            refine lv_goto (tgt := 57) hx hb dX7_step_52 (by decide) ?_
            have hf := Option.some.inj hf
            cases hf
            exact x_iret (fun _ => 0) hQ hx hb hr hlk hK hP hD hS dX7_step_57
        · have hf := xb_t c_4 hf
          refine lv_aload_n hx hb dX7_step_32 rfl (lv_at hl 0 rfl) ?_
          refine va_get (D := D) (ci := 7) (v := .ref aR_joins) (C := RX7) (T := TX7) (N := 34) hx hb htg giX7 hown hK hP 0 rfl rfl 19 (by decide) (htg _ kw_582) (fun _ h9 => h9) rfl dX7_step_33 ?_
          refine lv_iload_n hx hb dX7_step_36 rfl (lv_at hl 1 rfl) ?_
          have g_7 : vp_in x1 8 := gd_in hf
          have hf := gd_el hf
          refine va_iald hx hb hK hP 2 0 rfl rfl g_7 dX7_step_37 ?_
          refine lv_goto (tgt := 57) hx hb dX7_step_38 (by decide) ?_
          have hf := Option.some.inj hf
          cases hf
          exact x_iret (fun _ => 0) hQ hx hb hr hlk hK hP hD hS dX7_step_57
      · have hf := xb_t c_3 hf
        refine lv_aload_n hx hb dX7_step_18 rfl (lv_at hl 0 rfl) ?_
        refine va_get (D := D) (ci := 7) (v := .ref aR_order) (C := RX7) (T := TX7) (N := 34) hx hb htg giX7 hown hK hP 0 rfl rfl 18 (by decide) (htg _ kw_581) (fun _ h9 => h9) rfl dX7_step_19 ?_
        refine lv_iload_n hx hb dX7_step_22 rfl (lv_at hl 1 rfl) ?_
        have g_8 : vp_in x1 8 := gd_in hf
        have hf := gd_el hf
        refine va_iald hx hb hK hP 3 0 rfl rfl g_8 dX7_step_23 ?_
        refine lv_goto (tgt := 57) hx hb dX7_step_24 (by decide) ?_
        have hf := Option.some.inj hf
        cases hf
        exact x_iret (fun _ => 0) hQ hx hb hr hlk hK hP hD hS dX7_step_57
    · have hf := xb_f c_2 hf
      refine lv_iconst (v := (-1 : Int32)) hx hb dX7_step_12 (by decide) ?_
      have hf := Option.some.inj hf
      cases hf
      exact x_iret (fun _ => 0) hQ hx hb hr hlk hK hP hD hS dX7_step_13
abbrev rm_f_JoinOrder_estimate : Room := { frames := 1, cells := 0, slots := 0, locals := 21 }
set_option maxHeartbeats 4000000 in
set_option maxRecDepth 100000 in
theorem c_f_JoinOrder_estimate (l : Launch) (D : va_G) (cI cJ cZ : ClassId) (sz : Nat) (aJ : Nat) (x1 : Int32) (aT : Nat) (aP : Nat) (aF : Nat) (aQ : Nat) (aM : Nat) (aB : Nat) (J_hasRun : Int32) (aJ_plainOrder : Nat) (aC : Nat) (aM_order : Nat) (aM_joins : Nat) (aM_acting : Nat) (aM_estimates : Nat) (aM_actsBehind : Nat) (M_steps : Int32) (M_filters : Int32) (M_estimates : Nat → Int64) {r : Int64} (hf : f_JoinOrder_estimate x1 M_steps M_estimates = some r) : Met l yX0_estimate (.code yX0_estimate cX0_estimate 2 (some .long) :: GW) rm_f_JoinOrder_estimate (va_Pc [.ref aJ, .int x1] (xP D (xT cI cJ cZ) sz [(aJ, .inr (0, [.ref aT, .ref aP, .ref aF, .ref aQ, .ref aM, .ref aB, .int J_hasRun, .ref aJ_plainOrder, .ref aC])), (aM, .inr (3, [.ref aM_order, .ref aM_joins, .ref aM_acting, .ref aM_estimates, .ref aM_actsBehind, .int M_steps, .int M_filters])), (aM_estimates, .inl (cJ, 8, .inr (.inl M_estimates)))])) (va_Ql (fun r2 (_ : Nat → Nat) => r2 = r) (bB D (xT cI cJ cZ) (fun _ => [(aJ, .inr (0, [.ref aT, .ref aP, .ref aF, .ref aQ, .ref aM, .ref aB, .int J_hasRun, .ref aJ_plainOrder, .ref aC])), (aM, .inr (3, [.ref aM_order, .ref aM_joins, .ref aM_acting, .ref aM_estimates, .ref aM_actsBehind, .int M_steps, .int M_filters])), (aM_estimates, .inl (cJ, 8, .inr (.inl M_estimates)))]) (va_A [(aJ, .inr (0, [.ref aT, .ref aP, .ref aF, .ref aQ, .ref aM, .ref aB, .int J_hasRun, .ref aJ_plainOrder, .ref aC])), (aM, .inr (3, [.ref aM_order, .ref aM_joins, .ref aM_acting, .ref aM_estimates, .ref aM_actsBehind, .int M_steps, .int M_filters])), (aM_estimates, .inl (cJ, 8, .inr (.inl M_estimates)))] sz)) (va_A [(aJ, .inr (0, [.ref aT, .ref aP, .ref aF, .ref aQ, .ref aM, .ref aB, .int J_hasRun, .ref aJ_plainOrder, .ref aC])), (aM, .inr (3, [.ref aM_order, .ref aM_joins, .ref aM_acting, .ref aM_estimates, .ref aM_actsBehind, .int M_steps, .int M_filters])), (aM_estimates, .inl (cJ, 8, .inr (.inl M_estimates)))] sz)) 0 0 (va_A [(aJ, .inr (0, [.ref aT, .ref aP, .ref aF, .ref aQ, .ref aM, .ref aB, .int J_hasRun, .ref aJ_plainOrder, .ref aC])), (aM, .inr (3, [.ref aM_order, .ref aM_joins, .ref aM_acting, .ref aM_estimates, .ref aM_actsBehind, .int M_steps, .int M_filters])), (aM_estimates, .inl (cJ, 8, .inr (.inl M_estimates)))] sz) := by
  refine con_start (Qc := fun A => va_Ql (fun r2 (_ : Nat → Nat) => r2 = r) (bB D (xT cI cJ cZ) (fun _ => [(aJ, .inr (0, [.ref aT, .ref aP, .ref aF, .ref aQ, .ref aM, .ref aB, .int J_hasRun, .ref aJ_plainOrder, .ref aC])), (aM, .inr (3, [.ref aM_order, .ref aM_joins, .ref aM_acting, .ref aM_estimates, .ref aM_actsBehind, .int M_steps, .int M_filters])), (aM_estimates, .inl (cJ, 8, .inr (.inl M_estimates)))]) A) A) (by decide) (Nat.le_of_ble_eq_true rfl) ?_
  intro p e s m args below meth c Q A hx hb hr hlk hml hown hin htg hN hK hQ hA hP hD hS ls hl
  have hl : lv_has ls 2 [(0, .ref aJ), (1, .int x1)] := hl
  have hown : s.vm.findClass RX0 = some m.cls := hown
  have hf := (f_JoinOrder_estimate_u x1 M_steps M_estimates).symm.trans hf
  refine lv_aload_n hx hb dX0_estimate_0 rfl (lv_at hl 0 rfl) ?_
  refine va_get (D := D) (ci := 0) (v := .ref aM) (C := RX0) (T := TX0) (N := 9) hx hb htg giX0 hown hK hP 0 rfl rfl 4 (by decide) (htg _ kw_204) (fun _ h9 => h9) rfl dX0_estimate_1 ?_
  refine lv_iload_n hx hb dX0_estimate_4 rfl (lv_at hl 1 rfl) ?_
  refine x_z (xrV (As := [.int x1]) (b := aM) (rest := []) ⟨hx, hb, hml, hown, htg⟩ (c_f_Plan_has l D cI cJ cZ _ aM x1 aM_order aM_joins aM_acting aM_estimates aM_actsBehind M_steps M_filters rfl) kc_f_Plan_has kw_449 kw_450 kw_451 kw_6 dd_f_Plan_has ⟨Nat.le_of_ble_eq_true rfl, Nat.le_of_ble_eq_true rfl⟩ rfl rfl (hP.sub [1] rfl) (hD.sub [1] (by decide) rfl) hK hN hP (q0 := 1) rfl rfl rfl hl.1 rfl (Nat.le_of_ble_eq_true rfl) dX0_estimate_5 ⟨Nat.le_of_ble_eq_true rfl, Nat.le_of_ble_eq_true rfl⟩) hP hD hS hA [1] [0, 2] rfl rfl (by decide) (by decide) (fun _ H locs bz_1 hP hD hS => ?_)
  have hP : va_P D vwCl [(aJ, .inr (0, [.ref aT, .ref aP, .ref aF, .ref aQ, .ref aM, .ref aB, .int J_hasRun, .ref aJ_plainOrder, .ref aC])), (aM_estimates, .inl (cJ, 8, .inr (.inl M_estimates))), (aM, .inr (3, [.ref aM_order, .ref aM_joins, .ref aM_acting, .ref aM_estimates, .ref aM_actsBehind, .int M_steps, .int M_filters]))] H := hP
  have hD : va_D A [(aJ, .inr (0, [.ref aT, .ref aP, .ref aF, .ref aQ, .ref aM, .ref aB, .int J_hasRun, .ref aJ_plainOrder, .ref aC])), (aM_estimates, .inl (cJ, 8, .inr (.inl M_estimates))), (aM, .inr (3, [.ref aM_order, .ref aM_joins, .ref aM_acting, .ref aM_estimates, .ref aM_actsBehind, .int M_steps, .int M_filters]))] := hD
  refine lv_if_eq (tgt := 23) hx hb dX0_estimate_8 (by decide) (fun c_2 => ?_) (fun c_2 => ?_)
  · have hf := xb_t c_2 hf
    refine lv_ldc2 (v := (-1 : Int64)) hx hb hown (htg _ kw_458) dX0_estimate_23 ?_
    have hf := Option.some.inj hf
    cases hf
    exact x_lret (fun _ => 0) hQ hx hb hr hlk hK (hP.sub [0, 2, 1] rfl) (hD.sub [0, 2, 1] (by decide) rfl) hS dX0_estimate_26
  · have hf := xb_f c_2 hf
    refine lv_aload_n hx hb dX0_estimate_11 rfl (lv_at hl 0 rfl) ?_
    refine va_get (D := D) (ci := 0) (v := .ref aM) (C := RX0) (T := TX0) (N := 9) hx hb htg giX0 hown hK hP 0 rfl rfl 4 (by decide) (htg _ kw_204) (fun _ h9 => h9) rfl dX0_estimate_12 ?_
    refine va_getN (D := D) (ci := 3) (v := .ref aM_estimates) (C := RX3) (T := TX3) (N := 7) hx hb htg giX3 hown hK hP 2 rfl rfl 3 (by decide) (va_Nw.use rfl (hN _ kn_152)) (fun _ h9 => h9) rfl dX0_estimate_15 ?_
    refine lv_iload_n hx hb dX0_estimate_18 rfl (lv_at hl 1 rfl) ?_
    have g_3 : vp_in x1 8 := gd_in hf
    have hf := gd_el hf
    refine va_lald hx hb hK hP 1 1 rfl rfl g_3 dX0_estimate_19 ?_
    refine lv_goto (tgt := 26) hx hb dX0_estimate_20 (by decide) ?_
    have hf := Option.some.inj hf
    cases hf
    exact x_lret (fun _ => 0) hQ hx hb hr hlk hK (hP.sub [0, 2, 1] rfl) (hD.sub [0, 2, 1] (by decide) rfl) hS dX0_estimate_26
abbrev rm_f_JoinOrderModel_estimate : Room := { frames := 0, cells := 0, slots := 0, locals := 0 }
set_option maxHeartbeats 4000000 in
set_option maxRecDepth 100000 in
theorem c_f_JoinOrderModel_estimate (l : Launch) (D : va_G) (cI cJ cZ : ClassId) (sz : Nat) (aR : Nat) (x1 : Int32) (R_triples : Int32) (aR_facts : Nat) (R_patterns : Int32) (aR_cells : Nat) (aR_told : Nat) (aR_of : Nat) (aR_hints : Nat) (R_filters : Int32) (aR_looks : Nat) (aR_kinds : Nat) (aR_values : Nat) (aR_isSafe : Nat) (aR_sizes : Nat) (aR_spreads : Nat) (aR_isSeen : Nat) (aR_estimates : Nat) (aR_rest : Nat) (R_steps : Int32) (aR_order : Nat) (aR_joins : Nat) (aR_actsBehind : Nat) (aR_upTo : Nat) (R_filtersThen : Int32) (aR_behind : Nat) (R_rows : Int32) (aR_row : Nat) (aR_found : Nat) (R_comes : Int32) (aR_next : Nat) (aR_nextFound : Nat) (R_kept : Int32) (R_hasRoom : Int32) (aR_keep : Nat) (aR_isTaken : Nat) (R_upTo : Nat → Int64) {r : Int64} (hf : f_JoinOrderModel_estimate x1 R_steps R_upTo = some r) : Met l yX7_estimate (.code yX7_estimate cX7_estimate 2 (some .long) :: GW) rm_f_JoinOrderModel_estimate (va_Pc [.ref aR, .int x1] (xP D (xT cI cJ cZ) sz [(aR, .inr (7, [.int R_triples, .ref aR_facts, .int R_patterns, .ref aR_cells, .ref aR_told, .ref aR_of, .ref aR_hints, .int R_filters, .ref aR_looks, .ref aR_kinds, .ref aR_values, .ref aR_isSafe, .ref aR_sizes, .ref aR_spreads, .ref aR_isSeen, .ref aR_estimates, .ref aR_rest, .int R_steps, .ref aR_order, .ref aR_joins, .ref aR_actsBehind, .ref aR_upTo, .int R_filtersThen, .ref aR_behind, .int R_rows, .ref aR_row, .ref aR_found, .int R_comes, .ref aR_next, .ref aR_nextFound, .int R_kept, .int R_hasRoom, .ref aR_keep, .ref aR_isTaken])), (aR_upTo, .inl (cJ, 8, .inr (.inl R_upTo)))])) (va_Ql (fun r2 (_ : Nat → Nat) => r2 = r) (bB D (xT cI cJ cZ) (fun _ => [(aR, .inr (7, [.int R_triples, .ref aR_facts, .int R_patterns, .ref aR_cells, .ref aR_told, .ref aR_of, .ref aR_hints, .int R_filters, .ref aR_looks, .ref aR_kinds, .ref aR_values, .ref aR_isSafe, .ref aR_sizes, .ref aR_spreads, .ref aR_isSeen, .ref aR_estimates, .ref aR_rest, .int R_steps, .ref aR_order, .ref aR_joins, .ref aR_actsBehind, .ref aR_upTo, .int R_filtersThen, .ref aR_behind, .int R_rows, .ref aR_row, .ref aR_found, .int R_comes, .ref aR_next, .ref aR_nextFound, .int R_kept, .int R_hasRoom, .ref aR_keep, .ref aR_isTaken])), (aR_upTo, .inl (cJ, 8, .inr (.inl R_upTo)))]) (va_A [(aR, .inr (7, [.int R_triples, .ref aR_facts, .int R_patterns, .ref aR_cells, .ref aR_told, .ref aR_of, .ref aR_hints, .int R_filters, .ref aR_looks, .ref aR_kinds, .ref aR_values, .ref aR_isSafe, .ref aR_sizes, .ref aR_spreads, .ref aR_isSeen, .ref aR_estimates, .ref aR_rest, .int R_steps, .ref aR_order, .ref aR_joins, .ref aR_actsBehind, .ref aR_upTo, .int R_filtersThen, .ref aR_behind, .int R_rows, .ref aR_row, .ref aR_found, .int R_comes, .ref aR_next, .ref aR_nextFound, .int R_kept, .int R_hasRoom, .ref aR_keep, .ref aR_isTaken])), (aR_upTo, .inl (cJ, 8, .inr (.inl R_upTo)))] sz)) (va_A [(aR, .inr (7, [.int R_triples, .ref aR_facts, .int R_patterns, .ref aR_cells, .ref aR_told, .ref aR_of, .ref aR_hints, .int R_filters, .ref aR_looks, .ref aR_kinds, .ref aR_values, .ref aR_isSafe, .ref aR_sizes, .ref aR_spreads, .ref aR_isSeen, .ref aR_estimates, .ref aR_rest, .int R_steps, .ref aR_order, .ref aR_joins, .ref aR_actsBehind, .ref aR_upTo, .int R_filtersThen, .ref aR_behind, .int R_rows, .ref aR_row, .ref aR_found, .int R_comes, .ref aR_next, .ref aR_nextFound, .int R_kept, .int R_hasRoom, .ref aR_keep, .ref aR_isTaken])), (aR_upTo, .inl (cJ, 8, .inr (.inl R_upTo)))] sz)) 0 0 (va_A [(aR, .inr (7, [.int R_triples, .ref aR_facts, .int R_patterns, .ref aR_cells, .ref aR_told, .ref aR_of, .ref aR_hints, .int R_filters, .ref aR_looks, .ref aR_kinds, .ref aR_values, .ref aR_isSafe, .ref aR_sizes, .ref aR_spreads, .ref aR_isSeen, .ref aR_estimates, .ref aR_rest, .int R_steps, .ref aR_order, .ref aR_joins, .ref aR_actsBehind, .ref aR_upTo, .int R_filtersThen, .ref aR_behind, .int R_rows, .ref aR_row, .ref aR_found, .int R_comes, .ref aR_next, .ref aR_nextFound, .int R_kept, .int R_hasRoom, .ref aR_keep, .ref aR_isTaken])), (aR_upTo, .inl (cJ, 8, .inr (.inl R_upTo)))] sz) := by
  refine con_start (Qc := fun A => va_Ql (fun r2 (_ : Nat → Nat) => r2 = r) (bB D (xT cI cJ cZ) (fun _ => [(aR, .inr (7, [.int R_triples, .ref aR_facts, .int R_patterns, .ref aR_cells, .ref aR_told, .ref aR_of, .ref aR_hints, .int R_filters, .ref aR_looks, .ref aR_kinds, .ref aR_values, .ref aR_isSafe, .ref aR_sizes, .ref aR_spreads, .ref aR_isSeen, .ref aR_estimates, .ref aR_rest, .int R_steps, .ref aR_order, .ref aR_joins, .ref aR_actsBehind, .ref aR_upTo, .int R_filtersThen, .ref aR_behind, .int R_rows, .ref aR_row, .ref aR_found, .int R_comes, .ref aR_next, .ref aR_nextFound, .int R_kept, .int R_hasRoom, .ref aR_keep, .ref aR_isTaken])), (aR_upTo, .inl (cJ, 8, .inr (.inl R_upTo)))]) A) A) (by decide) (Nat.le_of_ble_eq_true rfl) ?_
  intro p e s m args below meth c Q A hx hb hr hlk hml hown hin htg hN hK hQ hA hP hD hS ls hl
  have hl : lv_has ls 2 [(0, .ref aR), (1, .int x1)] := hl
  have hown : s.vm.findClass RX7 = some m.cls := hown
  have hf := (f_JoinOrderModel_estimate_u x1 R_steps R_upTo).symm.trans hf
  refine lv_iload_n hx hb dX7_estimate_0 rfl (lv_at hl 1 rfl) ?_
  refine lv_if_lt (tgt := 12) hx hb dX7_estimate_1 (by decide) (fun c_1 => ?_) (fun c_1 => ?_)
  · have hf := xb_t c_1 hf
    refine lv_ldc2 (v := (-1 : Int64)) hx hb hown (htg _ kw_753) dX7_estimate_12 ?_
    refine lv_goto (tgt := 24) hx hb dX7_estimate_15 (by decide) ?_
    have hf := Option.some.inj hf
    cases hf
    exact x_lret (fun _ => 0) hQ hx hb hr hlk hK hP hD hS dX7_estimate_24
  · have hf := xb_f c_1 hf
    refine lv_iload_n hx hb dX7_estimate_4 rfl (lv_at hl 1 rfl) ?_
    refine lv_aload_n hx hb dX7_estimate_5 rfl (lv_at hl 0 rfl) ?_
    refine va_get (D := D) (ci := 7) (v := .int R_steps) (C := RX7) (T := TX7) (N := 34) hx hb htg giX7 hown hK hP 0 rfl rfl 17 (by decide) (htg _ kw_580) (fun _ h9 => h9) rfl dX7_estimate_6 ?_
    refine lv_icmp_lt (tgt := 18) hx hb dX7_estimate_9 (by decide) (fun c_2 => ?_) (fun c_2 => ?_)
    · have hf := xb_t c_2 hf
      refine lv_aload_n hx hb dX7_estimate_18 rfl (lv_at hl 0 rfl) ?_
      refine va_get (D := D) (ci := 7) (v := .ref aR_upTo) (C := RX7) (T := TX7) (N := 34) hx hb htg giX7 hown hK hP 0 rfl rfl 21 (by decide) (htg _ kw_584) (fun _ h9 => h9) rfl dX7_estimate_19 ?_
      refine lv_iload_n hx hb dX7_estimate_22 rfl (lv_at hl 1 rfl) ?_
      have g_3 : vp_in x1 8 := gd_in hf
      have hf := gd_el hf
      refine va_lald hx hb hK hP 1 1 rfl rfl g_3 dX7_estimate_23 ?_
      have hf := Option.some.inj hf
      cases hf
      exact x_lret (fun _ => 0) hQ hx hb hr hlk hK hP hD hS dX7_estimate_24
    · have hf := xb_f c_2 hf
      refine lv_ldc2 (v := (-1 : Int64)) hx hb hown (htg _ kw_753) dX7_estimate_12 ?_
      refine lv_goto (tgt := 24) hx hb dX7_estimate_15 (by decide) ?_
      have hf := Option.some.inj hf
      cases hf
      exact x_lret (fun _ => 0) hQ hx hb hr hlk hK hP hD hS dX7_estimate_24
abbrev rm_f_JoinOrder_move : Room := { frames := 0, cells := 0, slots := 0, locals := 0 }
set_option maxHeartbeats 4000000 in
set_option maxRecDepth 100000 in
theorem c_f_JoinOrder_move (l : Launch) (D : va_G) (cI cJ cZ : ClassId) (sz : Nat) (aJ : Nat) (x1 : Int32) (aT : Nat) (aP : Nat) (aF : Nat) (aQ : Nat) (aM : Nat) (aB : Nat) (J_hasRun : Int32) (aJ_plainOrder : Nat) (aC : Nat) (aM_order : Nat) (aM_joins : Nat) (aM_acting : Nat) (aM_estimates : Nat) (aM_actsBehind : Nat) (M_steps : Int32) (M_filters : Int32) (M_actsBehind : Nat → Int32) {r : Int32} (hf : f_JoinOrder_move x1 M_steps M_filters M_actsBehind = some r) : Met l yX0_move (.code yX0_move cX0_move 2 (some .int) :: GW) rm_f_JoinOrder_move (va_Pc [.ref aJ, .int x1] (xP D (xT cI cJ cZ) sz [(aJ, .inr (0, [.ref aT, .ref aP, .ref aF, .ref aQ, .ref aM, .ref aB, .int J_hasRun, .ref aJ_plainOrder, .ref aC])), (aM, .inr (3, [.ref aM_order, .ref aM_joins, .ref aM_acting, .ref aM_estimates, .ref aM_actsBehind, .int M_steps, .int M_filters])), (aM_actsBehind, .inl (cI, 8, .inl M_actsBehind))])) (va_Qi (fun r2 (_ : Nat → Nat) => r2 = r) (bB D (xT cI cJ cZ) (fun _ => [(aJ, .inr (0, [.ref aT, .ref aP, .ref aF, .ref aQ, .ref aM, .ref aB, .int J_hasRun, .ref aJ_plainOrder, .ref aC])), (aM, .inr (3, [.ref aM_order, .ref aM_joins, .ref aM_acting, .ref aM_estimates, .ref aM_actsBehind, .int M_steps, .int M_filters])), (aM_actsBehind, .inl (cI, 8, .inl M_actsBehind))]) (va_A [(aJ, .inr (0, [.ref aT, .ref aP, .ref aF, .ref aQ, .ref aM, .ref aB, .int J_hasRun, .ref aJ_plainOrder, .ref aC])), (aM, .inr (3, [.ref aM_order, .ref aM_joins, .ref aM_acting, .ref aM_estimates, .ref aM_actsBehind, .int M_steps, .int M_filters])), (aM_actsBehind, .inl (cI, 8, .inl M_actsBehind))] sz)) (va_A [(aJ, .inr (0, [.ref aT, .ref aP, .ref aF, .ref aQ, .ref aM, .ref aB, .int J_hasRun, .ref aJ_plainOrder, .ref aC])), (aM, .inr (3, [.ref aM_order, .ref aM_joins, .ref aM_acting, .ref aM_estimates, .ref aM_actsBehind, .int M_steps, .int M_filters])), (aM_actsBehind, .inl (cI, 8, .inl M_actsBehind))] sz)) 0 0 (va_A [(aJ, .inr (0, [.ref aT, .ref aP, .ref aF, .ref aQ, .ref aM, .ref aB, .int J_hasRun, .ref aJ_plainOrder, .ref aC])), (aM, .inr (3, [.ref aM_order, .ref aM_joins, .ref aM_acting, .ref aM_estimates, .ref aM_actsBehind, .int M_steps, .int M_filters])), (aM_actsBehind, .inl (cI, 8, .inl M_actsBehind))] sz) := by
  refine con_start (Qc := fun A => va_Qi (fun r2 (_ : Nat → Nat) => r2 = r) (bB D (xT cI cJ cZ) (fun _ => [(aJ, .inr (0, [.ref aT, .ref aP, .ref aF, .ref aQ, .ref aM, .ref aB, .int J_hasRun, .ref aJ_plainOrder, .ref aC])), (aM, .inr (3, [.ref aM_order, .ref aM_joins, .ref aM_acting, .ref aM_estimates, .ref aM_actsBehind, .int M_steps, .int M_filters])), (aM_actsBehind, .inl (cI, 8, .inl M_actsBehind))]) A) A) (by decide) (Nat.le_of_ble_eq_true rfl) ?_
  intro p e s m args below meth c Q A hx hb hr hlk hml hown hin htg hN hK hQ hA hP hD hS ls hl
  have hl : lv_has ls 2 [(0, .ref aJ), (1, .int x1)] := hl
  have hown : s.vm.findClass RX0 = some m.cls := hown
  have hf := (f_JoinOrder_move_u x1 M_steps M_filters M_actsBehind).symm.trans hf
  refine lv_iload_n hx hb dX0_move_0 rfl (lv_at hl 1 rfl) ?_
  refine lv_if_lt (tgt := 15) hx hb dX0_move_1 (by decide) (fun c_1 => ?_) (fun c_1 => ?_)
  · have hf := xb_t c_1 hf
    refine lv_iconst (v := (-1 : Int32)) hx hb dX0_move_15 (by decide) ?_
    have hf := Option.some.inj hf
    cases hf
    exact x_iret (fun _ => 0) hQ hx hb hr hlk hK hP hD hS dX0_move_16
  · have hf := xb_f c_1 hf
    refine lv_iload_n hx hb dX0_move_4 rfl (lv_at hl 1 rfl) ?_
    refine lv_aload_n hx hb dX0_move_5 rfl (lv_at hl 0 rfl) ?_
    refine va_get (D := D) (ci := 0) (v := .ref aM) (C := RX0) (T := TX0) (N := 9) hx hb htg giX0 hown hK hP 0 rfl rfl 4 (by decide) (htg _ kw_204) (fun _ h9 => h9) rfl dX0_move_6 ?_
    refine va_getN (D := D) (ci := 3) (v := .int M_filters) (C := RX3) (T := TX3) (N := 7) hx hb htg giX3 hown hK hP 1 rfl rfl 6 (by decide) (va_Nw.use rfl (hN _ kn_159)) (fun _ h9 => h9) rfl dX0_move_9 ?_
    refine lv_icmp_lt (tgt := 17) hx hb dX0_move_12 (by decide) (fun c_2 => ?_) (fun c_2 => ?_)
    · have hf := xb_t c_2 hf
      refine lv_aload_n hx hb dX0_move_17 rfl (lv_at hl 0 rfl) ?_
      refine va_get (D := D) (ci := 0) (v := .ref aM) (C := RX0) (T := TX0) (N := 9) hx hb htg giX0 hown hK hP 0 rfl rfl 4 (by decide) (htg _ kw_204) (fun _ h9 => h9) rfl dX0_move_18 ?_
      refine va_getN (D := D) (ci := 3) (v := .int M_steps) (C := RX3) (T := TX3) (N := 7) hx hb htg giX3 hown hK hP 1 rfl rfl 5 (by decide) (va_Nw.use rfl (hN _ kn_157)) (fun _ h9 => h9) rfl dX0_move_21 ?_
      refine lv_if_ne (tgt := 32) hx hb dX0_move_24 (by decide) (fun c_3 => ?_) (fun c_3 => ?_)
      · have hf := xb_f c_3 hf
        refine lv_aload_n hx hb dX0_move_32 rfl (lv_at hl 0 rfl) ?_
        refine va_get (D := D) (ci := 0) (v := .ref aM) (C := RX0) (T := TX0) (N := 9) hx hb htg giX0 hown hK hP 0 rfl rfl 4 (by decide) (htg _ kw_204) (fun _ h9 => h9) rfl dX0_move_33 ?_
        refine va_getN (D := D) (ci := 3) (v := .ref aM_actsBehind) (C := RX3) (T := TX3) (N := 7) hx hb htg giX3 hown hK hP 1 rfl rfl 4 (by decide) (va_Nw.use rfl (hN _ kn_154)) (fun _ h9 => h9) rfl dX0_move_36 ?_
        refine lv_iload_n hx hb dX0_move_39 rfl (lv_at hl 1 rfl) ?_
        have g_4 : vp_in x1 8 := gd_in hf
        have hf := gd_el hf
        refine va_iald hx hb hK hP 2 0 rfl rfl g_4 dX0_move_40 ?_
        have hf := Option.some.inj hf
        cases hf
        exact x_iret (fun _ => 0) hQ hx hb hr hlk hK hP hD hS dX0_move_41
      · have hf := xb_t c_3 hf
        refine lv_bipush (v := (-3 : Int32)) hx hb dX0_move_27 (by decide) ?_
        refine lv_goto (tgt := 41) hx hb dX0_move_29 (by decide) ?_
        have hf := Option.some.inj hf
        cases hf
        exact x_iret (fun _ => 0) hQ hx hb hr hlk hK hP hD hS dX0_move_41
    · have hf := xb_f c_2 hf
      refine lv_iconst (v := (-1 : Int32)) hx hb dX0_move_15 (by decide) ?_
      have hf := Option.some.inj hf
      cases hf
      exact x_iret (fun _ => 0) hQ hx hb hr hlk hK hP hD hS dX0_move_16
abbrev rm_f_JoinOrderModel_move : Room := { frames := 0, cells := 0, slots := 0, locals := 0 }
set_option maxHeartbeats 4000000 in
set_option maxRecDepth 100000 in
theorem c_f_JoinOrderModel_move (l : Launch) (D : va_G) (cI cJ cZ : ClassId) (sz : Nat) (aR : Nat) (x1 : Int32) (R_triples : Int32) (aR_facts : Nat) (R_patterns : Int32) (aR_cells : Nat) (aR_told : Nat) (aR_of : Nat) (aR_hints : Nat) (R_filters : Int32) (aR_looks : Nat) (aR_kinds : Nat) (aR_values : Nat) (aR_isSafe : Nat) (aR_sizes : Nat) (aR_spreads : Nat) (aR_isSeen : Nat) (aR_estimates : Nat) (aR_rest : Nat) (R_steps : Int32) (aR_order : Nat) (aR_joins : Nat) (aR_actsBehind : Nat) (aR_upTo : Nat) (R_filtersThen : Int32) (aR_behind : Nat) (R_rows : Int32) (aR_row : Nat) (aR_found : Nat) (R_comes : Int32) (aR_next : Nat) (aR_nextFound : Nat) (R_kept : Int32) (R_hasRoom : Int32) (aR_keep : Nat) (aR_isTaken : Nat) (R_behind : Nat → Int32) {r : Int32} (hf : f_JoinOrderModel_move x1 R_filtersThen R_behind = some r) : Met l yX7_move (.code yX7_move cX7_move 2 (some .int) :: GW) rm_f_JoinOrderModel_move (va_Pc [.ref aR, .int x1] (xP D (xT cI cJ cZ) sz [(aR, .inr (7, [.int R_triples, .ref aR_facts, .int R_patterns, .ref aR_cells, .ref aR_told, .ref aR_of, .ref aR_hints, .int R_filters, .ref aR_looks, .ref aR_kinds, .ref aR_values, .ref aR_isSafe, .ref aR_sizes, .ref aR_spreads, .ref aR_isSeen, .ref aR_estimates, .ref aR_rest, .int R_steps, .ref aR_order, .ref aR_joins, .ref aR_actsBehind, .ref aR_upTo, .int R_filtersThen, .ref aR_behind, .int R_rows, .ref aR_row, .ref aR_found, .int R_comes, .ref aR_next, .ref aR_nextFound, .int R_kept, .int R_hasRoom, .ref aR_keep, .ref aR_isTaken])), (aR_behind, .inl (cI, 8, .inl R_behind))])) (va_Qi (fun r2 (_ : Nat → Nat) => r2 = r) (bB D (xT cI cJ cZ) (fun _ => [(aR, .inr (7, [.int R_triples, .ref aR_facts, .int R_patterns, .ref aR_cells, .ref aR_told, .ref aR_of, .ref aR_hints, .int R_filters, .ref aR_looks, .ref aR_kinds, .ref aR_values, .ref aR_isSafe, .ref aR_sizes, .ref aR_spreads, .ref aR_isSeen, .ref aR_estimates, .ref aR_rest, .int R_steps, .ref aR_order, .ref aR_joins, .ref aR_actsBehind, .ref aR_upTo, .int R_filtersThen, .ref aR_behind, .int R_rows, .ref aR_row, .ref aR_found, .int R_comes, .ref aR_next, .ref aR_nextFound, .int R_kept, .int R_hasRoom, .ref aR_keep, .ref aR_isTaken])), (aR_behind, .inl (cI, 8, .inl R_behind))]) (va_A [(aR, .inr (7, [.int R_triples, .ref aR_facts, .int R_patterns, .ref aR_cells, .ref aR_told, .ref aR_of, .ref aR_hints, .int R_filters, .ref aR_looks, .ref aR_kinds, .ref aR_values, .ref aR_isSafe, .ref aR_sizes, .ref aR_spreads, .ref aR_isSeen, .ref aR_estimates, .ref aR_rest, .int R_steps, .ref aR_order, .ref aR_joins, .ref aR_actsBehind, .ref aR_upTo, .int R_filtersThen, .ref aR_behind, .int R_rows, .ref aR_row, .ref aR_found, .int R_comes, .ref aR_next, .ref aR_nextFound, .int R_kept, .int R_hasRoom, .ref aR_keep, .ref aR_isTaken])), (aR_behind, .inl (cI, 8, .inl R_behind))] sz)) (va_A [(aR, .inr (7, [.int R_triples, .ref aR_facts, .int R_patterns, .ref aR_cells, .ref aR_told, .ref aR_of, .ref aR_hints, .int R_filters, .ref aR_looks, .ref aR_kinds, .ref aR_values, .ref aR_isSafe, .ref aR_sizes, .ref aR_spreads, .ref aR_isSeen, .ref aR_estimates, .ref aR_rest, .int R_steps, .ref aR_order, .ref aR_joins, .ref aR_actsBehind, .ref aR_upTo, .int R_filtersThen, .ref aR_behind, .int R_rows, .ref aR_row, .ref aR_found, .int R_comes, .ref aR_next, .ref aR_nextFound, .int R_kept, .int R_hasRoom, .ref aR_keep, .ref aR_isTaken])), (aR_behind, .inl (cI, 8, .inl R_behind))] sz)) 0 0 (va_A [(aR, .inr (7, [.int R_triples, .ref aR_facts, .int R_patterns, .ref aR_cells, .ref aR_told, .ref aR_of, .ref aR_hints, .int R_filters, .ref aR_looks, .ref aR_kinds, .ref aR_values, .ref aR_isSafe, .ref aR_sizes, .ref aR_spreads, .ref aR_isSeen, .ref aR_estimates, .ref aR_rest, .int R_steps, .ref aR_order, .ref aR_joins, .ref aR_actsBehind, .ref aR_upTo, .int R_filtersThen, .ref aR_behind, .int R_rows, .ref aR_row, .ref aR_found, .int R_comes, .ref aR_next, .ref aR_nextFound, .int R_kept, .int R_hasRoom, .ref aR_keep, .ref aR_isTaken])), (aR_behind, .inl (cI, 8, .inl R_behind))] sz) := by
  refine con_start (Qc := fun A => va_Qi (fun r2 (_ : Nat → Nat) => r2 = r) (bB D (xT cI cJ cZ) (fun _ => [(aR, .inr (7, [.int R_triples, .ref aR_facts, .int R_patterns, .ref aR_cells, .ref aR_told, .ref aR_of, .ref aR_hints, .int R_filters, .ref aR_looks, .ref aR_kinds, .ref aR_values, .ref aR_isSafe, .ref aR_sizes, .ref aR_spreads, .ref aR_isSeen, .ref aR_estimates, .ref aR_rest, .int R_steps, .ref aR_order, .ref aR_joins, .ref aR_actsBehind, .ref aR_upTo, .int R_filtersThen, .ref aR_behind, .int R_rows, .ref aR_row, .ref aR_found, .int R_comes, .ref aR_next, .ref aR_nextFound, .int R_kept, .int R_hasRoom, .ref aR_keep, .ref aR_isTaken])), (aR_behind, .inl (cI, 8, .inl R_behind))]) A) A) (by decide) (Nat.le_of_ble_eq_true rfl) ?_
  intro p e s m args below meth c Q A hx hb hr hlk hml hown hin htg hN hK hQ hA hP hD hS ls hl
  have hl : lv_has ls 2 [(0, .ref aR), (1, .int x1)] := hl
  have hown : s.vm.findClass RX7 = some m.cls := hown
  have hf := (f_JoinOrderModel_move_u x1 R_filtersThen R_behind).symm.trans hf
  refine lv_iload_n hx hb dX7_move_0 rfl (lv_at hl 1 rfl) ?_
  refine lv_if_lt (tgt := 12) hx hb dX7_move_1 (by decide) (fun c_1 => ?_) (fun c_1 => ?_)
  · have hf := xb_t c_1 hf
    refine lv_iconst (v := (-1 : Int32)) hx hb dX7_move_12 (by decide) ?_
    refine lv_goto (tgt := 22) hx hb dX7_move_13 (by decide) ?_
    have hf := Option.some.inj hf
    cases hf
    exact x_iret (fun _ => 0) hQ hx hb hr hlk hK hP hD hS dX7_move_22
  · have hf := xb_f c_1 hf
    refine lv_iload_n hx hb dX7_move_4 rfl (lv_at hl 1 rfl) ?_
    refine lv_aload_n hx hb dX7_move_5 rfl (lv_at hl 0 rfl) ?_
    refine va_get (D := D) (ci := 7) (v := .int R_filtersThen) (C := RX7) (T := TX7) (N := 34) hx hb htg giX7 hown hK hP 0 rfl rfl 22 (by decide) (htg _ kw_585) (fun _ h9 => h9) rfl dX7_move_6 ?_
    refine lv_icmp_lt (tgt := 16) hx hb dX7_move_9 (by decide) (fun c_2 => ?_) (fun c_2 => ?_)
    · have hf := xb_t c_2 hf
      refine lv_aload_n hx hb dX7_move_16 rfl (lv_at hl 0 rfl) ?_
      refine va_get (D := D) (ci := 7) (v := .ref aR_behind) (C := RX7) (T := TX7) (N := 34) hx hb htg giX7 hown hK hP 0 rfl rfl 23 (by decide) (htg _ kw_586) (fun _ h9 => h9) rfl dX7_move_17 ?_
      refine lv_iload_n hx hb dX7_move_20 rfl (lv_at hl 1 rfl) ?_
      have g_3 : vp_in x1 8 := gd_in hf
      have hf := gd_el hf
      refine va_iald hx hb hK hP 1 0 rfl rfl g_3 dX7_move_21 ?_
      have hf := Option.some.inj hf
      cases hf
      exact x_iret (fun _ => 0) hQ hx hb hr hlk hK hP hD hS dX7_move_22
    · have hf := xb_f c_2 hf
      refine lv_iconst (v := (-1 : Int32)) hx hb dX7_move_12 (by decide) ?_
      refine lv_goto (tgt := 22) hx hb dX7_move_13 (by decide) ?_
      have hf := Option.some.inj hf
      cases hf
      exact x_iret (fun _ => 0) hQ hx hb hr hlk hK hP hD hS dX7_move_22
abbrev rm_f_Table_start : Room := { frames := 0, cells := 0, slots := 0, locals := 0 }
set_option maxHeartbeats 4000000 in
set_option maxRecDepth 100000 in
theorem c_f_Table_start (l : Launch) (D : va_G) (cI cJ cZ : ClassId) (sz : Nat) (aB : Nat) (aB_rows : Nat) (aB_spare : Nat) (B_count : Int32) (B_found : Int32) (B_crowded : Int32) (B_rows : Nat → Int64) {B_count' : Int32} {B_crowded' : Int32} {B_rows' : Nat → Int64} (hf : f_Table_start B_rows = some (B_count', B_crowded', B_rows')) : Met l yX5_start (.code yX5_start cX5_start 1 none :: GW) rm_f_Table_start (va_Pc [.ref aB] (xP D (xT cI cJ cZ) sz [(aB, .inr (5, [.ref aB_rows, .ref aB_spare, .int B_count, .int B_found, .int B_crowded])), (aB_rows, .inl (cJ, 500, .inr (.inl B_rows)))])) (va_Qv (fun (_ : Nat → Nat) => True) (bB D (xT cI cJ cZ) (fun _ => [(aB, .inr (5, [.ref aB_rows, .ref aB_spare, .int B_count', .int B_found, .int B_crowded'])), (aB_rows, .inl (cJ, 500, .inr (.inl B_rows')))]) (va_A [(aB, .inr (5, [.ref aB_rows, .ref aB_spare, .int B_count, .int B_found, .int B_crowded])), (aB_rows, .inl (cJ, 500, .inr (.inl B_rows)))] sz)) (va_A [(aB, .inr (5, [.ref aB_rows, .ref aB_spare, .int B_count, .int B_found, .int B_crowded])), (aB_rows, .inl (cJ, 500, .inr (.inl B_rows)))] sz)) 0 0 (va_A [(aB, .inr (5, [.ref aB_rows, .ref aB_spare, .int B_count, .int B_found, .int B_crowded])), (aB_rows, .inl (cJ, 500, .inr (.inl B_rows)))] sz) := by
  refine con_start (Qc := fun A => va_Qv (fun (_ : Nat → Nat) => True) (bB D (xT cI cJ cZ) (fun _ => [(aB, .inr (5, [.ref aB_rows, .ref aB_spare, .int B_count', .int B_found, .int B_crowded'])), (aB_rows, .inl (cJ, 500, .inr (.inl B_rows')))]) A) A) (by decide) (Nat.le_of_ble_eq_true rfl) ?_
  intro p e s m args below meth c Q A hx hb hr hlk hml hown hin htg hN hK hQ hA hP hD hS ls hl
  have hl : lv_has ls 1 [(0, .ref aB)] := hl
  have hown : s.vm.findClass RX5 = some m.cls := hown
  have hf := (f_Table_start_u B_rows).symm.trans hf
  refine lv_aload_n hx hb dX5_start_0 rfl (lv_at hl 0 rfl) ?_
  refine va_get (D := D) (ci := 5) (v := .ref aB_rows) (C := RX5) (T := TX5) (N := 5) hx hb htg giX5 hown hK hP 0 rfl rfl 0 (by decide) (htg _ kw_181) (fun _ h9 => h9) rfl dX5_start_1 ?_
  refine lv_iconst (v := (0 : Int32)) hx hb dX5_start_4 (by decide) ?_
  refine lv_lconst (v := (0 : Int64)) hx hb dX5_start_5 (by decide) ?_
  refine x_last hx hb hK hP hD hS 1 1 rfl rfl (by decide) dX5_start_6 (fun B_rows_1 eB_rows_1 H locs hP hD hS => ?_)
  have hf := nm_nm eB_rows_1 hf
  have hP : va_P D vwCl [(aB, .inr (5, [.ref aB_rows, .ref aB_spare, .int B_count, .int B_found, .int B_crowded])), (aB_rows, .inl (cJ, 500, .inr (.inl B_rows_1)))] H := hP
  have hD : va_D A [(aB, .inr (5, [.ref aB_rows, .ref aB_spare, .int B_count, .int B_found, .int B_crowded])), (aB_rows, .inl (cJ, 500, .inr (.inl B_rows_1)))] := hD
  refine lv_aload_n hx hb dX5_start_7 rfl (lv_at hl 0 rfl) ?_
  refine lv_iconst (v := (1 : Int32)) hx hb dX5_start_8 (by decide) ?_
  refine va_put (D := D) (ci := 5) (v := .int (1 : Int32)) (ty := .int) (C := RX5) (T := TX5) (N := 5) hx hb htg giX5 tyX5 tyX5_ok nmX5 hown hK hP hD hS 0 rfl rfl 2 (by decide) (htg _ kw_184) (fun _ h9 => h9) rfl (by decide +kernel) rfl rfl (Nat.le_of_ble_eq_true rfl) dX5_start_9 (fun H locs hP hD hS => ?_)
  have hP : va_P D vwCl [(aB, .inr (5, [.ref aB_rows, .ref aB_spare, .int (1 : Int32), .int B_found, .int B_crowded])), (aB_rows, .inl (cJ, 500, .inr (.inl B_rows_1)))] H := hP
  have hD : va_D A [(aB, .inr (5, [.ref aB_rows, .ref aB_spare, .int (1 : Int32), .int B_found, .int B_crowded])), (aB_rows, .inl (cJ, 500, .inr (.inl B_rows_1)))] := hD
  refine lv_aload_n hx hb dX5_start_12 rfl (lv_at hl 0 rfl) ?_
  refine lv_iconst (v := (0 : Int32)) hx hb dX5_start_13 (by decide) ?_
  refine va_put (D := D) (ci := 5) (v := .int (0 : Int32)) (ty := .boolean) (C := RX5) (T := TX5) (N := 5) hx hb htg giX5 tyX5 tyX5_ok nmX5 hown hK hP hD hS 0 rfl rfl 4 (by decide) (htg _ kw_187) (fun _ h9 => h9) rfl (by decide +kernel) rfl rfl (Nat.le_of_ble_eq_true rfl) dX5_start_14 (fun H locs hP hD hS => ?_)
  have hP : va_P D vwCl [(aB, .inr (5, [.ref aB_rows, .ref aB_spare, .int (1 : Int32), .int B_found, .int (0 : Int32)])), (aB_rows, .inl (cJ, 500, .inr (.inl B_rows_1)))] H := hP
  have hD : va_D A [(aB, .inr (5, [.ref aB_rows, .ref aB_spare, .int (1 : Int32), .int B_found, .int (0 : Int32)])), (aB_rows, .inl (cJ, 500, .inr (.inl B_rows_1)))] := hD
  have hf := Option.some.inj hf
  cases hf
  exact x_vret (fun _ => 0) hQ hx hb hr hlk hK hP hD hS dX5_start_17
abbrev rm_f_Table_missing : Room := { frames := 0, cells := 0, slots := 0, locals := 0 }
set_option maxHeartbeats 4000000 in
set_option maxRecDepth 100000 in
theorem c_f_Table_missing (l : Launch) (D : va_G) (cI cJ cZ : ClassId) (sz : Nat) (x0 : Int32) {r : Int64} (hf : f_Table_missing x0 = r) : Met l yX5_missing (.code yX5_missing cX5_missing 1 (some .long) :: GW) rm_f_Table_missing (va_Pc [.int x0] (xP D (xT cI cJ cZ) sz [])) (va_Ql (fun r2 (_ : Nat → Nat) => r2 = r) (bB D (xT cI cJ cZ) (fun _ => []) (va_A [] sz)) (va_A [] sz)) 0 0 (va_A [] sz) := by
  refine con_start (Qc := fun A => va_Ql (fun r2 (_ : Nat → Nat) => r2 = r) (bB D (xT cI cJ cZ) (fun _ => []) A) A) (by decide) (Nat.le_of_ble_eq_true rfl) ?_
  intro p e s m args below meth c Q A hx hb hr hlk hml hown hin htg hN hK hQ hA hP hD hS ls hl
  have hl : lv_has ls 1 [(0, .int x0)] := hl
  have hown : s.vm.findClass RX5 = some m.cls := hown
  have hf := (f_Table_missing_u x0).symm.trans hf
  refine lv_lconst (v := (1 : Int64)) hx hb dX5_missing_0 (by decide) ?_
  refine lv_bipush (v := (48 : Int32)) hx hb dX5_missing_1 (by decide) ?_
  refine lv_iload_n hx hb dX5_missing_3 rfl (lv_at hl 0 rfl) ?_
  refine lv_iadd hx hb dX5_missing_4 ?_
  refine lv_lshl hx hb dX5_missing_5 rfl ?_
  have hf := hf
  cases hf
  exact x_lret (fun _ => 0) hQ hx hb hr hlk hK hP hD hS dX5_missing_6
abbrev rm_f_Table_missed : Room := { frames := 1, cells := 0, slots := 0, locals := 20 }
set_option maxHeartbeats 4000000 in
set_option maxRecDepth 100000 in
theorem c_f_Table_missed (l : Launch) (D : va_G) (cI cJ cZ : ClassId) (sz : Nat) (x0 : Int64) (x2 : Int32) {r : Int32} (hf : f_Table_missed x0 x2 = r) : Met l yX5_missed (.code yX5_missed cX5_missed 3 (some .boolean) :: GW) rm_f_Table_missed (va_Pc [.long x0, .int x2] (xP D (xT cI cJ cZ) sz [])) (va_Qi (fun r2 (_ : Nat → Nat) => r2 = r ∧ (r = 0 ∨ r = 1)) (bB D (xT cI cJ cZ) (fun _ => []) (va_A [] sz)) (va_A [] sz)) 0 0 (va_A [] sz) := by
  refine con_start (Qc := fun A => va_Qi (fun r2 (_ : Nat → Nat) => r2 = r ∧ (r = 0 ∨ r = 1)) (bB D (xT cI cJ cZ) (fun _ => []) A) A) (by decide) (Nat.le_of_ble_eq_true rfl) ?_
  intro p e s m args below meth c Q A hx hb hr hlk hml hown hin htg hN hK hQ hA hP hD hS ls hl
  have hl : lv_has ls 3 [(0, .long x0), (2, .int x2)] := hl
  have hown : s.vm.findClass RX5 = some m.cls := hown
  have hf := (f_Table_missed_u x0 x2).symm.trans hf
  refine lv_lload_n hx hb dX5_missed_0 rfl (lv_at hl 0 rfl) ?_
  refine lv_iload_n hx hb dX5_missed_1 rfl (lv_at hl 1 rfl) ?_
  refine x_l (xrS (As := [.int x2]) (rest := [.long x0]) ⟨hx, hb, hml, hown, htg⟩ (c_f_Table_missing l D cI cJ cZ _ x2 rfl) kc_f_Table_missing kw_482 kw_483 kw_7 dd_f_Table_missing ⟨Nat.le_of_ble_eq_true rfl, Nat.le_of_ble_eq_true rfl⟩ rfl rfl hP hD hK hN rfl hl.1 rfl (Nat.le_of_ble_eq_true rfl) dX5_missed_2 ⟨Nat.le_of_ble_eq_true rfl, Nat.le_of_ble_eq_true rfl⟩) hP hD hS hA [] [] rfl rfl (by decide) (by decide) (fun _ H locs hP hD hS => ?_)
  have hP : va_P D vwCl [] H := hP
  have hD : va_D A [] := hD
  refine lv_land hx hb dX5_missed_5 ?_
  refine lv_lconst (v := (0 : Int64)) hx hb dX5_missed_6 (by decide) ?_
  refine W.lcmp hx hb dX5_missed_7 ?_
  refine lv_if_eq (tgt := 15) hx hb dX5_missed_8 (by decide) (fun c_2 => ?_) (fun c_2 => ?_)
  · have hf := xb_t c_2 hf
    refine lv_iconst (v := (0 : Int32)) hx hb dX5_missed_15 (by decide) ?_
    have hf := hf
    cases hf
    exact x_zret (fun _ => 0) hQ hx hb hr hlk (by decide) hK hP hD hS dX5_missed_16
  · have hf := xb_f c_2 hf
    refine lv_iconst (v := (1 : Int32)) hx hb dX5_missed_11 (by decide) ?_
    refine lv_goto (tgt := 16) hx hb dX5_missed_12 (by decide) ?_
    have hf := hf
    cases hf
    exact x_zret (fun _ => 0) hQ hx hb hr hlk (by decide) hK hP hD hS dX5_missed_16
abbrev rm_f_Table_put : Room := { frames := 0, cells := 0, slots := 0, locals := 0 }
set_option maxHeartbeats 4000000 in
set_option maxRecDepth 100000 in
theorem c_f_Table_put (l : Launch) (D : va_G) (cI cJ cZ : ClassId) (sz : Nat) (aB : Nat) (x1 : Int64) (aB_rows : Nat) (aB_spare : Nat) (B_count : Int32) (B_found : Int32) (B_crowded : Int32) (B_spare : Nat → Int64) {B_found' : Int32} {B_crowded' : Int32} {B_spare' : Nat → Int64} (hf : f_Table_put x1 B_found B_crowded B_spare = some (B_found', B_crowded', B_spare')) : Met l yX5_put (.code yX5_put cX5_put 3 none :: GW) rm_f_Table_put (va_Pc [.ref aB, .long x1] (xP D (xT cI cJ cZ) sz [(aB, .inr (5, [.ref aB_rows, .ref aB_spare, .int B_count, .int B_found, .int B_crowded])), (aB_spare, .inl (cJ, 500, .inr (.inl B_spare)))])) (va_Qv (fun (_ : Nat → Nat) => True) (bB D (xT cI cJ cZ) (fun _ => [(aB, .inr (5, [.ref aB_rows, .ref aB_spare, .int B_count, .int B_found', .int B_crowded'])), (aB_spare, .inl (cJ, 500, .inr (.inl B_spare')))]) (va_A [(aB, .inr (5, [.ref aB_rows, .ref aB_spare, .int B_count, .int B_found, .int B_crowded])), (aB_spare, .inl (cJ, 500, .inr (.inl B_spare)))] sz)) (va_A [(aB, .inr (5, [.ref aB_rows, .ref aB_spare, .int B_count, .int B_found, .int B_crowded])), (aB_spare, .inl (cJ, 500, .inr (.inl B_spare)))] sz)) 0 0 (va_A [(aB, .inr (5, [.ref aB_rows, .ref aB_spare, .int B_count, .int B_found, .int B_crowded])), (aB_spare, .inl (cJ, 500, .inr (.inl B_spare)))] sz) := by
  refine con_start (Qc := fun A => va_Qv (fun (_ : Nat → Nat) => True) (bB D (xT cI cJ cZ) (fun _ => [(aB, .inr (5, [.ref aB_rows, .ref aB_spare, .int B_count, .int B_found', .int B_crowded'])), (aB_spare, .inl (cJ, 500, .inr (.inl B_spare')))]) A) A) (by decide) (Nat.le_of_ble_eq_true rfl) ?_
  intro p e s m args below meth c Q A hx hb hr hlk hml hown hin htg hN hK hQ hA hP hD hS ls hl
  have hl : lv_has ls 3 [(0, .ref aB), (1, .long x1)] := hl
  have hown : s.vm.findClass RX5 = some m.cls := hown
  have hf := (f_Table_put_u x1 B_found B_crowded B_spare).symm.trans hf
  refine lv_aload_n hx hb dX5_put_0 rfl (lv_at hl 0 rfl) ?_
  refine va_get (D := D) (ci := 5) (v := .int B_found) (C := RX5) (T := TX5) (N := 5) hx hb htg giX5 hown hK hP 0 rfl rfl 3 (by decide) (htg _ kw_186) (fun _ h9 => h9) rfl dX5_put_1 ?_
  refine lv_sipush (v := (500 : Int32)) hx hb dX5_put_4 (by decide) ?_
  refine lv_icmp_lt (tgt := 16) hx hb dX5_put_7 (by decide) (fun c_1 => ?_) (fun c_1 => ?_)
  · have hf := xb_t c_1 hf
    refine lv_aload_n hx hb dX5_put_16 rfl (lv_at hl 0 rfl) ?_
    refine va_get (D := D) (ci := 5) (v := .ref aB_spare) (C := RX5) (T := TX5) (N := 5) hx hb htg giX5 hown hK hP 0 rfl rfl 1 (by decide) (htg _ kw_183) (fun _ h9 => h9) rfl dX5_put_17 ?_
    refine lv_aload_n hx hb dX5_put_20 rfl (lv_at hl 0 rfl) ?_
    refine va_get (D := D) (ci := 5) (v := .int B_found) (C := RX5) (T := TX5) (N := 5) hx hb htg giX5 hown hK hP 0 rfl rfl 3 (by decide) (htg _ kw_186) (fun _ h9 => h9) rfl dX5_put_21 ?_
    refine lv_lload_n hx hb dX5_put_24 rfl (lv_at hl 1 rfl) ?_
    have g_2 : vp_in B_found 500 := gd_in hf
    have hf := gd_el hf
    refine x_last hx hb hK hP hD hS 1 1 rfl rfl g_2 dX5_put_25 (fun B_spare_3 eB_spare_3 H locs hP hD hS => ?_)
    have hf := nm_nm eB_spare_3 hf
    have hP : va_P D vwCl [(aB, .inr (5, [.ref aB_rows, .ref aB_spare, .int B_count, .int B_found, .int B_crowded])), (aB_spare, .inl (cJ, 500, .inr (.inl B_spare_3)))] H := hP
    have hD : va_D A [(aB, .inr (5, [.ref aB_rows, .ref aB_spare, .int B_count, .int B_found, .int B_crowded])), (aB_spare, .inl (cJ, 500, .inr (.inl B_spare_3)))] := hD
    refine lv_aload_n hx hb dX5_put_26 rfl (lv_at hl 0 rfl) ?_
    refine lv_dup hx hb dX5_put_27 rfl ?_
    refine va_get (D := D) (ci := 5) (v := .int B_found) (C := RX5) (T := TX5) (N := 5) hx hb htg giX5 hown hK hP 0 rfl rfl 3 (by decide) (htg _ kw_186) (fun _ h9 => h9) rfl dX5_put_28 ?_
    refine lv_iconst (v := (1 : Int32)) hx hb dX5_put_31 (by decide) ?_
    refine lv_iadd hx hb dX5_put_32 ?_
    refine lv_topi (fun v_4 ev_4 => ?_)
    have hf := nm_nm ev_4 hf
    refine va_put (D := D) (ci := 5) (v := .int v_4) (ty := .int) (C := RX5) (T := TX5) (N := 5) hx hb htg giX5 tyX5 tyX5_ok nmX5 hown hK hP hD hS 0 rfl rfl 3 (by decide) (htg _ kw_186) (fun _ h9 => h9) rfl (by decide +kernel) rfl rfl (Nat.le_of_ble_eq_true rfl) dX5_put_33 (fun H locs hP hD hS => ?_)
    have hP : va_P D vwCl [(aB, .inr (5, [.ref aB_rows, .ref aB_spare, .int B_count, .int v_4, .int B_crowded])), (aB_spare, .inl (cJ, 500, .inr (.inl B_spare_3)))] H := hP
    have hD : va_D A [(aB, .inr (5, [.ref aB_rows, .ref aB_spare, .int B_count, .int v_4, .int B_crowded])), (aB_spare, .inl (cJ, 500, .inr (.inl B_spare_3)))] := hD
    have hf := Option.some.inj hf
    cases hf
    exact x_vret (fun _ => 0) hQ hx hb hr hlk hK hP hD hS dX5_put_36
  · have hf := xb_f c_1 hf
    refine lv_aload_n hx hb dX5_put_10 rfl (lv_at hl 0 rfl) ?_
    refine lv_iconst (v := (1 : Int32)) hx hb dX5_put_11 (by decide) ?_
    refine va_put (D := D) (ci := 5) (v := .int (1 : Int32)) (ty := .boolean) (C := RX5) (T := TX5) (N := 5) hx hb htg giX5 tyX5 tyX5_ok nmX5 hown hK hP hD hS 0 rfl rfl 4 (by decide) (htg _ kw_187) (fun _ h9 => h9) rfl (by decide +kernel) rfl rfl (Nat.le_of_ble_eq_true rfl) dX5_put_12 (fun H locs hP hD hS => ?_)
    have hP : va_P D vwCl [(aB, .inr (5, [.ref aB_rows, .ref aB_spare, .int B_count, .int B_found, .int (1 : Int32)])), (aB_spare, .inl (cJ, 500, .inr (.inl B_spare)))] H := hP
    have hD : va_D A [(aB, .inr (5, [.ref aB_rows, .ref aB_spare, .int B_count, .int B_found, .int (1 : Int32)])), (aB_spare, .inl (cJ, 500, .inr (.inl B_spare)))] := hD
    have hf := Option.some.inj hf
    cases hf
    exact x_vret (fun _ => 0) hQ hx hb hr hlk hK hP hD hS dX5_put_15
abbrev rm_f_Table_termOf : Room := { frames := 0, cells := 0, slots := 0, locals := 0 }
set_option maxHeartbeats 4000000 in
set_option maxRecDepth 100000 in
theorem c_f_Table_termOf (l : Launch) (D : va_G) (cI cJ cZ : ClassId) (sz : Nat) (x0 : Int64) (x2 : Int32) {r : Int32} (hf : f_Table_termOf x0 x2 = r) : Met l yX5_termOf (.code yX5_termOf cX5_termOf 3 (some .int) :: GW) rm_f_Table_termOf (va_Pc [.long x0, .int x2] (xP D (xT cI cJ cZ) sz [])) (va_Qi (fun r2 (_ : Nat → Nat) => r2 = r) (bB D (xT cI cJ cZ) (fun _ => []) (va_A [] sz)) (va_A [] sz)) 0 0 (va_A [] sz) := by
  refine con_start (Qc := fun A => va_Qi (fun r2 (_ : Nat → Nat) => r2 = r) (bB D (xT cI cJ cZ) (fun _ => []) A) A) (by decide) (Nat.le_of_ble_eq_true rfl) ?_
  intro p e s m args below meth c Q A hx hb hr hlk hml hown hin htg hN hK hQ hA hP hD hS ls hl
  have hl : lv_has ls 3 [(0, .long x0), (2, .int x2)] := hl
  have hown : s.vm.findClass RX5 = some m.cls := hown
  have hf := (f_Table_termOf_u x0 x2).symm.trans hf
  refine lv_lload_n hx hb dX5_termOf_0 rfl (lv_at hl 0 rfl) ?_
  refine lv_iload_n hx hb dX5_termOf_1 rfl (lv_at hl 1 rfl) ?_
  refine lv_bipush (v := (6 : Int32)) hx hb dX5_termOf_2 (by decide) ?_
  refine lv_imul hx hb dX5_termOf_4 ?_
  refine lv_lshr hx hb dX5_termOf_5 rfl ?_
  refine lv_ldc2 (v := (63 : Int64)) hx hb hown (htg _ kw_498) dX5_termOf_6 ?_
  refine lv_land hx hb dX5_termOf_9 ?_
  refine lv_l2i hx hb dX5_termOf_10 rfl ?_
  refine lv_iconst (v := (1 : Int32)) hx hb dX5_termOf_11 (by decide) ?_
  refine lv_isub hx hb dX5_termOf_12 ?_
  have hf := hf
  cases hf
  exact x_iret (fun _ => 0) hQ hx hb hr hlk hK hP hD hS dX5_termOf_13
abbrev rm_f_Table_bindings : Room := { frames := 1, cells := 0, slots := 0, locals := 22 }
set_option maxHeartbeats 4000000 in
set_option maxRecDepth 100000 in
theorem c_f_Table_bindings (l : Launch) (D : va_G) (cI cJ cZ : ClassId) (sz : Nat) (n : Nat) (x0 : Int32) (aP : Nat) (x2 : Int32) (aP_slots : Nat) (aP_termsSeen : Nat) (aP_matches : Nat) (aP_matchCount : Nat) (aP_variables : Nat) (aP_havingVariable : Nat) (aP_told : Nat) (aP_parent : Nat) (aP_allBefore : Nat) (P_required : Int32) (P_hinted : Int32) (P_count : Int32) (P_slots : Nat → Int32) {r : Int64} (hf : f_Table_bindings n x0 x2 P_slots = some r) : Met l yX5_bindings (.code yX5_bindings cX5_bindings 7 (some .long) :: GW) rm_f_Table_bindings (va_Pc [.int x0, .ref aP, .int x2] (xP D (xT cI cJ cZ) sz [(aP, .inr (2, [.ref aP_slots, .ref aP_termsSeen, .ref aP_matches, .ref aP_matchCount, .ref aP_variables, .ref aP_havingVariable, .ref aP_told, .ref aP_parent, .ref aP_allBefore, .int P_required, .int P_hinted, .int P_count])), (aP_slots, .inl (cI, 24, .inl P_slots))])) (va_Ql (fun r2 (_ : Nat → Nat) => r2 = r) (bB D (xT cI cJ cZ) (fun _ => [(aP, .inr (2, [.ref aP_slots, .ref aP_termsSeen, .ref aP_matches, .ref aP_matchCount, .ref aP_variables, .ref aP_havingVariable, .ref aP_told, .ref aP_parent, .ref aP_allBefore, .int P_required, .int P_hinted, .int P_count])), (aP_slots, .inl (cI, 24, .inl P_slots))]) (va_A [(aP, .inr (2, [.ref aP_slots, .ref aP_termsSeen, .ref aP_matches, .ref aP_matchCount, .ref aP_variables, .ref aP_havingVariable, .ref aP_told, .ref aP_parent, .ref aP_allBefore, .int P_required, .int P_hinted, .int P_count])), (aP_slots, .inl (cI, 24, .inl P_slots))] sz)) (va_A [(aP, .inr (2, [.ref aP_slots, .ref aP_termsSeen, .ref aP_matches, .ref aP_matchCount, .ref aP_variables, .ref aP_havingVariable, .ref aP_told, .ref aP_parent, .ref aP_allBefore, .int P_required, .int P_hinted, .int P_count])), (aP_slots, .inl (cI, 24, .inl P_slots))] sz)) 0 0 (va_A [(aP, .inr (2, [.ref aP_slots, .ref aP_termsSeen, .ref aP_matches, .ref aP_matchCount, .ref aP_variables, .ref aP_havingVariable, .ref aP_told, .ref aP_parent, .ref aP_allBefore, .int P_required, .int P_hinted, .int P_count])), (aP_slots, .inl (cI, 24, .inl P_slots))] sz) := by
  refine con_start (Qc := fun A => va_Ql (fun r2 (_ : Nat → Nat) => r2 = r) (bB D (xT cI cJ cZ) (fun _ => [(aP, .inr (2, [.ref aP_slots, .ref aP_termsSeen, .ref aP_matches, .ref aP_matchCount, .ref aP_variables, .ref aP_havingVariable, .ref aP_told, .ref aP_parent, .ref aP_allBefore, .int P_required, .int P_hinted, .int P_count])), (aP_slots, .inl (cI, 24, .inl P_slots))]) A) A) (by decide) (Nat.le_of_ble_eq_true rfl) ?_
  intro p e s m args below meth c Q A hx hb hr hlk hml hown hin htg hN hK hQ hA hP hD hS ls hl
  have hl : lv_has ls 7 [(0, .int x0), (1, .ref aP), (2, .int x2)] := hl
  have hown : s.vm.findClass RX5 = some m.cls := hown
  have hf := (f_Table_bindings_u n x0 x2 P_slots).symm.trans hf
  refine lv_lconst (v := (0 : Int64)) hx hb dX5_bindings_0 (by decide) ?_
  refine lv_lstore_n (lv' := [(3, .long (0 : Int64)), (0, .int x0), (1, .ref aP), (2, .int x2)]) hx hb dX5_bindings_1 rfl hl (by decide) rfl (fun ls hl => ?_)
  refine lv_iconst (v := (0 : Int32)) hx hb dX5_bindings_2 (by decide) ?_
  refine lv_istore (lv' := [(5, .int (0 : Int32)), (3, .long (0 : Int64)), (0, .int x0), (1, .ref aP), (2, .int x2)]) hx hb dX5_bindings_3 hl (by decide) rfl (fun ls hl => ?_)
  have L_5_21 : ∀ (k : Nat) (x3_22 : Int64) (x5_23 : Int32) (o_21 : Int64), f_Table_bindings_L0 n x0 x2 P_slots k x3_22 x5_23 = some o_21 → ∀ (H : Heap) (locs : List Loc), va_P D vwCl [(aP, .inr (2, [.ref aP_slots, .ref aP_termsSeen, .ref aP_matches, .ref aP_matchCount, .ref aP_variables, .ref aP_havingVariable, .ref aP_told, .ref aP_parent, .ref aP_allBefore, .int P_required, .int P_hinted, .int P_count])), (aP_slots, .inl (cI, 24, .inl P_slots))] H → va_D A [(aP, .inr (2, [.ref aP_slots, .ref aP_termsSeen, .ref aP_matches, .ref aP_matchCount, .ref aP_variables, .ref aP_havingVariable, .ref aP_told, .ref aP_parent, .ref aP_allBefore, .int P_required, .int P_hinted, .int P_count])), (aP_slots, .inl (cI, 24, .inl P_slots))] → va_S A s.heap H locs → ∀ ls : Array Slot, lv_has ls 7 [(0, .int x0), (1, .ref aP), (2, .int x2), (3, .long x3_22), (5, .int x5_23)] → (∀ (x3_24 : Int64), some (x3_24) = some o_21 → ∀ (H : Heap) (locs : List Loc), va_P D vwCl [(aP, .inr (2, [.ref aP_slots, .ref aP_termsSeen, .ref aP_matches, .ref aP_matchCount, .ref aP_variables, .ref aP_havingVariable, .ref aP_told, .ref aP_parent, .ref aP_allBefore, .int P_required, .int P_hinted, .int P_count])), (aP_slots, .inl (cI, 24, .inl P_slots))] H → va_D A [(aP, .inr (2, [.ref aP_slots, .ref aP_termsSeen, .ref aP_matches, .ref aP_matchCount, .ref aP_variables, .ref aP_havingVariable, .ref aP_told, .ref aP_parent, .ref aP_allBefore, .int P_required, .int P_hinted, .int P_count])), (aP_slots, .inl (cI, 24, .inl P_slots))] → va_S A s.heap H locs → ∀ ls : Array Slot, lv_has ls 7 [(3, .long x3_24)] → W p l e rm_f_Table_bindings s m args below meth c H locs 0 0 Q (F0 m 52 ls [])) → W p l e rm_f_Table_bindings s m args below meth c H locs 0 0 Q (F0 m 5 ls []) := by
    intro k
    induction k with
    | zero =>
      intro x3_22 x5_23 o_21 hf
      exact absurd (((f_Table_bindings_L0_z n x0 x2 P_slots x3_22 x5_23).symm.trans hf)) (fun h => by cases h)
    | succ k ih =>
      intro x3_22 x5_23 o_21 hf H locs hP hD hS ls hl hX_21
      have hf := (f_Table_bindings_L0_s n x0 x2 P_slots k x3_22 x5_23).symm.trans hf
      refine lv_iload hx hb dX5_bindings_5 (lv_at hl 4 rfl) ?_
      refine lv_iconst (v := (3 : Int32)) hx hb dX5_bindings_7 (by decide) ?_
      refine lv_icmp_ge (tgt := 52) hx hb dX5_bindings_8 (by decide) (fun c_25 => ?_) (fun c_25 => ?_)
      · have hf := xb_t c_25 hf
        exact hX_21 x3_22 hf _ _ hP hD hS _ (lv_sub hl [3] rfl)
      · have hf := xb_f c_25 hf
        refine lv_aload_n hx hb dX5_bindings_11 rfl (lv_at hl 1 rfl) ?_
        refine lv_iload_n hx hb dX5_bindings_12 rfl (lv_at hl 2 rfl) ?_
        refine lv_iload hx hb dX5_bindings_13 (lv_at hl 4 rfl) ?_
        obtain ⟨r_27, hq_26, hf⟩ := bn1_c hf
        refine x_i (xrV (As := [.int x2, .int x5_23]) (b := aP) (rest := []) ⟨hx, hb, hml, hown, htg⟩ (c_f_Patterns_slot l D cI cJ cZ _ aP x2 x5_23 aP_slots aP_termsSeen aP_matches aP_matchCount aP_variables aP_havingVariable aP_told aP_parent aP_allBefore P_required P_hinted P_count P_slots hq_26) kc_f_Patterns_slot kw_493 kw_262 kw_263 kw_3 dd_f_Patterns_slot ⟨Nat.le_of_ble_eq_true rfl, Nat.le_of_ble_eq_true rfl⟩ rfl rfl hP hD hK hN hP (q0 := 0) rfl rfl rfl hl.1 rfl (Nat.le_of_ble_eq_true rfl) dX5_bindings_15 ⟨Nat.le_of_ble_eq_true rfl, Nat.le_of_ble_eq_true rfl⟩) hP hD hS hA [0, 1] [] rfl rfl (by decide) (by decide) (fun _ H locs hP hD hS => ?_)
        have hP : va_P D vwCl [(aP, .inr (2, [.ref aP_slots, .ref aP_termsSeen, .ref aP_matches, .ref aP_matchCount, .ref aP_variables, .ref aP_havingVariable, .ref aP_told, .ref aP_parent, .ref aP_allBefore, .int P_required, .int P_hinted, .int P_count])), (aP_slots, .inl (cI, 24, .inl P_slots))] H := hP
        have hD : va_D A [(aP, .inr (2, [.ref aP_slots, .ref aP_termsSeen, .ref aP_matches, .ref aP_matchCount, .ref aP_variables, .ref aP_havingVariable, .ref aP_told, .ref aP_parent, .ref aP_allBefore, .int P_required, .int P_hinted, .int P_count])), (aP_slots, .inl (cI, 24, .inl P_slots))] := hD
        refine lv_istore (lv' := [(6, .int r_27), (0, .int x0), (1, .ref aP), (2, .int x2), (3, .long x3_22), (5, .int x5_23)]) hx hb dX5_bindings_18 hl (by decide) rfl (fun ls hl => ?_)
        refine lv_iload hx hb dX5_bindings_20 (lv_at hl 0 rfl) ?_
        refine lv_if_ge (tgt := 46) hx hb dX5_bindings_22 (by decide) (fun c_28 => ?_) (fun c_28 => ?_)
        · have hf := xb_t c_28 hf
          obtain ⟨x5_29, ex5_29⟩ : ∃ y : Int32, y = x5_23 + (1 : Int32) := ⟨_, rfl⟩
          have hf := nm_nm ex5_29 hf
          refine lv_iinc (v := x5_29) (lv' := [(5, .int x5_29), (6, .int r_27), (0, .int x0), (1, .ref aP), (2, .int x2), (3, .long x3_22)]) hx hb dX5_bindings_46 hl (k := 5) rfl (by rw [ex5_29]; rfl) (by decide) rfl (fun ls hl => ?_)
          refine lv_goto (tgt := 5) hx hb dX5_bindings_49 (by decide) ?_
          exact ih x3_22 x5_29 o_21 hf _ _ hP hD hS _ (lv_sub hl [2, 3, 4, 5, 0] rfl) hX_21
        · have hf := xb_f c_28 hf
          refine lv_lload_n hx hb dX5_bindings_25 rfl (lv_at hl 4 rfl) ?_
          refine lv_iload_n hx hb dX5_bindings_26 rfl (lv_at hl 1 rfl) ?_
          refine lv_iload hx hb dX5_bindings_27 (lv_at hl 5 rfl) ?_
          refine x_i (xrS (As := [.int x0, .int x5_23]) (rest := [.long x3_22]) ⟨hx, hb, hml, hown, htg⟩ (c_f_Triples_part l D cI cJ cZ _ x0 x5_23 rfl) kc_f_Triples_part kw_503 kw_266 kw_2 dd_f_Triples_part ⟨Nat.le_of_ble_eq_true rfl, Nat.le_of_ble_eq_true rfl⟩ rfl rfl (hP.sub [] rfl) (hD.sub [] (by decide) rfl) hK hN rfl hl.1 rfl (Nat.le_of_ble_eq_true rfl) dX5_bindings_29 ⟨Nat.le_of_ble_eq_true rfl, Nat.le_of_ble_eq_true rfl⟩) hP hD hS hA [] [0, 1] rfl rfl (by decide) (by decide) (fun _ H locs hP hD hS => ?_)
          have hP : va_P D vwCl [(aP, .inr (2, [.ref aP_slots, .ref aP_termsSeen, .ref aP_matches, .ref aP_matchCount, .ref aP_variables, .ref aP_havingVariable, .ref aP_told, .ref aP_parent, .ref aP_allBefore, .int P_required, .int P_hinted, .int P_count])), (aP_slots, .inl (cI, 24, .inl P_slots))] H := hP
          have hD : va_D A [(aP, .inr (2, [.ref aP_slots, .ref aP_termsSeen, .ref aP_matches, .ref aP_matchCount, .ref aP_variables, .ref aP_havingVariable, .ref aP_told, .ref aP_parent, .ref aP_allBefore, .int P_required, .int P_hinted, .int P_count])), (aP_slots, .inl (cI, 24, .inl P_slots))] := hD
          refine lv_iconst (v := (1 : Int32)) hx hb dX5_bindings_32 (by decide) ?_
          refine lv_iadd hx hb dX5_bindings_33 ?_
          refine lv_i2l hx hb dX5_bindings_34 rfl ?_
          refine lv_iload hx hb dX5_bindings_35 (lv_at hl 0 rfl) ?_
          refine x_i (xrSN (As := [.int r_27]) (rest := [.long (((f_Triples_part x0 x5_23) + (1 : Int32)).toInt64), .long x3_22]) ⟨hx, hb, hml, hown, htg⟩ (c_f_JoinOrder_indexOf l D cI cJ cZ _ r_27 rfl) kc_f_JoinOrder_indexOf kn_494 kw_291 kw_1 dd_f_JoinOrder_indexOf ⟨Nat.le_of_ble_eq_true rfl, Nat.le_of_ble_eq_true rfl⟩ rfl rfl (hP.sub [] rfl) (hD.sub [] (by decide) rfl) hK hN rfl hl.1 rfl (Nat.le_of_ble_eq_true rfl) dX5_bindings_37 ⟨Nat.le_of_ble_eq_true rfl, Nat.le_of_ble_eq_true rfl⟩) hP hD hS hA [] [0, 1] rfl rfl (by decide) (by decide) (fun _ H locs hP hD hS => ?_)
          have hP : va_P D vwCl [(aP, .inr (2, [.ref aP_slots, .ref aP_termsSeen, .ref aP_matches, .ref aP_matchCount, .ref aP_variables, .ref aP_havingVariable, .ref aP_told, .ref aP_parent, .ref aP_allBefore, .int P_required, .int P_hinted, .int P_count])), (aP_slots, .inl (cI, 24, .inl P_slots))] H := hP
          have hD : va_D A [(aP, .inr (2, [.ref aP_slots, .ref aP_termsSeen, .ref aP_matches, .ref aP_matchCount, .ref aP_variables, .ref aP_havingVariable, .ref aP_told, .ref aP_parent, .ref aP_allBefore, .int P_required, .int P_hinted, .int P_count])), (aP_slots, .inl (cI, 24, .inl P_slots))] := hD
          refine lv_bipush (v := (6 : Int32)) hx hb dX5_bindings_40 (by decide) ?_
          refine lv_imul hx hb dX5_bindings_42 ?_
          refine lv_lshl hx hb dX5_bindings_43 rfl ?_
          refine lv_lor hx hb dX5_bindings_44 ?_
          refine lv_topl (fun x3_32 ex3_32 => ?_)
          have hf := nm_nm ex3_32 hf
          refine lv_lstore_n (lv' := [(3, .long x3_32), (6, .int r_27), (0, .int x0), (1, .ref aP), (2, .int x2), (5, .int x5_23)]) hx hb dX5_bindings_45 rfl hl (by decide) rfl (fun ls hl => ?_)
          obtain ⟨x5_33, ex5_33⟩ : ∃ y : Int32, y = x5_23 + (1 : Int32) := ⟨_, rfl⟩
          have hf := nm_nm ex5_33 hf
          refine lv_iinc (v := x5_33) (lv' := [(5, .int x5_33), (3, .long x3_32), (6, .int r_27), (0, .int x0), (1, .ref aP), (2, .int x2)]) hx hb dX5_bindings_46 hl (k := 5) rfl (by rw [ex5_33]; rfl) (by decide) rfl (fun ls hl => ?_)
          refine lv_goto (tgt := 5) hx hb dX5_bindings_49 (by decide) ?_
          exact ih x3_32 x5_33 o_21 hf _ _ hP hD hS _ (lv_sub hl [3, 4, 5, 1, 0] rfl) hX_21
  obtain ⟨o_21, ho_21, hk_21⟩ := bn1_s hf
  refine L_5_21 n (0 : Int64) (0 : Int32) o_21 ho_21 _ _ hP hD hS _ (lv_sub hl [2, 3, 4, 1, 0] rfl) (fun x3_24 hf H locs hP hD hS ls hl => ?_)
  have hf := hk_21 _ hf
  refine lv_lload_n hx hb dX5_bindings_52 rfl (lv_at hl 0 rfl) ?_
  have hf := Option.some.inj hf
  cases hf
  exact x_lret (fun _ => 0) hQ hx hb hr hlk hK hP hD hS dX5_bindings_53
abbrev rm_f_Table_putMatches : Room := { frames := 2, cells := 0, slots := 0, locals := 48 }
set_option maxHeartbeats 4000000 in
set_option maxRecDepth 100000 in
theorem c_f_Table_putMatches (l : Launch) (D : va_G) (cI cJ cZ : ClassId) (sz : Nat) (n : Nat) (aB : Nat) (x1 : Int64) (aP : Nat) (x4 : Int32) (aP_slots : Nat) (aP_termsSeen : Nat) (aP_matches : Nat) (aP_matchCount : Nat) (aP_variables : Nat) (aP_havingVariable : Nat) (aP_told : Nat) (aP_parent : Nat) (aP_allBefore : Nat) (P_required : Int32) (P_hinted : Int32) (P_count : Int32) (P_slots : Nat → Int32) (P_matchCount : Nat → Int32) (P_matches : Nat → Int32) (aB_rows : Nat) (aB_spare : Nat) (B_count : Int32) (B_found : Int32) (B_crowded : Int32) (B_spare : Nat → Int64) {B_found' : Int32} {B_crowded' : Int32} {B_spare' : Nat → Int64} (hf : f_Table_putMatches n x1 x4 P_slots P_matchCount P_matches B_found B_crowded B_spare = some (B_found', B_crowded', B_spare')) : Met l yX5_putMatches (.code yX5_putMatches cX5_putMatches 10 none :: GW) rm_f_Table_putMatches (va_Pc [.ref aB, .long x1, .ref aP, .int x4] (xP D (xT cI cJ cZ) sz [(aP, .inr (2, [.ref aP_slots, .ref aP_termsSeen, .ref aP_matches, .ref aP_matchCount, .ref aP_variables, .ref aP_havingVariable, .ref aP_told, .ref aP_parent, .ref aP_allBefore, .int P_required, .int P_hinted, .int P_count])), (aP_slots, .inl (cI, 24, .inl P_slots)), (aP_matchCount, .inl (cI, 8, .inl P_matchCount)), (aP_matches, .inl (cI, 640, .inl P_matches)), (aB, .inr (5, [.ref aB_rows, .ref aB_spare, .int B_count, .int B_found, .int B_crowded])), (aB_spare, .inl (cJ, 500, .inr (.inl B_spare)))])) (va_Qv (fun (_ : Nat → Nat) => True) (bB D (xT cI cJ cZ) (fun _ => [(aP, .inr (2, [.ref aP_slots, .ref aP_termsSeen, .ref aP_matches, .ref aP_matchCount, .ref aP_variables, .ref aP_havingVariable, .ref aP_told, .ref aP_parent, .ref aP_allBefore, .int P_required, .int P_hinted, .int P_count])), (aP_slots, .inl (cI, 24, .inl P_slots)), (aP_matchCount, .inl (cI, 8, .inl P_matchCount)), (aP_matches, .inl (cI, 640, .inl P_matches)), (aB, .inr (5, [.ref aB_rows, .ref aB_spare, .int B_count, .int B_found', .int B_crowded'])), (aB_spare, .inl (cJ, 500, .inr (.inl B_spare')))]) (va_A [(aP, .inr (2, [.ref aP_slots, .ref aP_termsSeen, .ref aP_matches, .ref aP_matchCount, .ref aP_variables, .ref aP_havingVariable, .ref aP_told, .ref aP_parent, .ref aP_allBefore, .int P_required, .int P_hinted, .int P_count])), (aP_slots, .inl (cI, 24, .inl P_slots)), (aP_matchCount, .inl (cI, 8, .inl P_matchCount)), (aP_matches, .inl (cI, 640, .inl P_matches)), (aB, .inr (5, [.ref aB_rows, .ref aB_spare, .int B_count, .int B_found, .int B_crowded])), (aB_spare, .inl (cJ, 500, .inr (.inl B_spare)))] sz)) (va_A [(aP, .inr (2, [.ref aP_slots, .ref aP_termsSeen, .ref aP_matches, .ref aP_matchCount, .ref aP_variables, .ref aP_havingVariable, .ref aP_told, .ref aP_parent, .ref aP_allBefore, .int P_required, .int P_hinted, .int P_count])), (aP_slots, .inl (cI, 24, .inl P_slots)), (aP_matchCount, .inl (cI, 8, .inl P_matchCount)), (aP_matches, .inl (cI, 640, .inl P_matches)), (aB, .inr (5, [.ref aB_rows, .ref aB_spare, .int B_count, .int B_found, .int B_crowded])), (aB_spare, .inl (cJ, 500, .inr (.inl B_spare)))] sz)) 0 0 (va_A [(aP, .inr (2, [.ref aP_slots, .ref aP_termsSeen, .ref aP_matches, .ref aP_matchCount, .ref aP_variables, .ref aP_havingVariable, .ref aP_told, .ref aP_parent, .ref aP_allBefore, .int P_required, .int P_hinted, .int P_count])), (aP_slots, .inl (cI, 24, .inl P_slots)), (aP_matchCount, .inl (cI, 8, .inl P_matchCount)), (aP_matches, .inl (cI, 640, .inl P_matches)), (aB, .inr (5, [.ref aB_rows, .ref aB_spare, .int B_count, .int B_found, .int B_crowded])), (aB_spare, .inl (cJ, 500, .inr (.inl B_spare)))] sz) := by
  refine con_start (Qc := fun A => va_Qv (fun (_ : Nat → Nat) => True) (bB D (xT cI cJ cZ) (fun _ => [(aP, .inr (2, [.ref aP_slots, .ref aP_termsSeen, .ref aP_matches, .ref aP_matchCount, .ref aP_variables, .ref aP_havingVariable, .ref aP_told, .ref aP_parent, .ref aP_allBefore, .int P_required, .int P_hinted, .int P_count])), (aP_slots, .inl (cI, 24, .inl P_slots)), (aP_matchCount, .inl (cI, 8, .inl P_matchCount)), (aP_matches, .inl (cI, 640, .inl P_matches)), (aB, .inr (5, [.ref aB_rows, .ref aB_spare, .int B_count, .int B_found', .int B_crowded'])), (aB_spare, .inl (cJ, 500, .inr (.inl B_spare')))]) A) A) (by decide) (Nat.le_of_ble_eq_true rfl) ?_
  intro p e s m args below meth c Q A hx hb hr hlk hml hown hin htg hN hK hQ hA hP hD hS ls hl
  have hl : lv_has ls 10 [(0, .ref aB), (1, .long x1), (3, .ref aP), (4, .int x4)] := hl
  have hown : s.vm.findClass RX5 = some m.cls := hown
  have hf := (f_Table_putMatches_u n x1 x4 P_slots P_matchCount P_matches B_found B_crowded B_spare).symm.trans hf
  refine lv_iconst (v := (0 : Int32)) hx hb dX5_putMatches_0 (by decide) ?_
  refine lv_istore (lv' := [(5, .int (0 : Int32)), (0, .ref aB), (1, .long x1), (3, .ref aP), (4, .int x4)]) hx hb dX5_putMatches_1 hl (by decide) rfl (fun ls hl => ?_)
  refine lv_iconst (v := (0 : Int32)) hx hb dX5_putMatches_3 (by decide) ?_
  refine lv_istore (lv' := [(6, .int (0 : Int32)), (5, .int (0 : Int32)), (0, .ref aB), (1, .long x1), (3, .ref aP), (4, .int x4)]) hx hb dX5_putMatches_4 hl (by decide) rfl (fun ls hl => ?_)
  refine lv_iconst (v := (0 : Int32)) hx hb dX5_putMatches_6 (by decide) ?_
  refine lv_istore (lv' := [(7, .int (0 : Int32)), (6, .int (0 : Int32)), (5, .int (0 : Int32)), (0, .ref aB), (1, .long x1), (3, .ref aP), (4, .int x4)]) hx hb dX5_putMatches_7 hl (by decide) rfl (fun ls hl => ?_)
  have L_9_38 : ∀ (k : Nat) (x5_39 : Int32) (x6_40 : Int32) (x7_41 : Int32) (o_38 : (Int32 × Int32)), f_Table_putMatches_L0 n x1 x4 P_slots k x5_39 x6_40 x7_41 = some o_38 → ∀ (H : Heap) (locs : List Loc), va_P D vwCl [(aP, .inr (2, [.ref aP_slots, .ref aP_termsSeen, .ref aP_matches, .ref aP_matchCount, .ref aP_variables, .ref aP_havingVariable, .ref aP_told, .ref aP_parent, .ref aP_allBefore, .int P_required, .int P_hinted, .int P_count])), (aP_slots, .inl (cI, 24, .inl P_slots)), (aP_matchCount, .inl (cI, 8, .inl P_matchCount)), (aP_matches, .inl (cI, 640, .inl P_matches)), (aB, .inr (5, [.ref aB_rows, .ref aB_spare, .int B_count, .int B_found, .int B_crowded])), (aB_spare, .inl (cJ, 500, .inr (.inl B_spare)))] H → va_D A [(aP, .inr (2, [.ref aP_slots, .ref aP_termsSeen, .ref aP_matches, .ref aP_matchCount, .ref aP_variables, .ref aP_havingVariable, .ref aP_told, .ref aP_parent, .ref aP_allBefore, .int P_required, .int P_hinted, .int P_count])), (aP_slots, .inl (cI, 24, .inl P_slots)), (aP_matchCount, .inl (cI, 8, .inl P_matchCount)), (aP_matches, .inl (cI, 640, .inl P_matches)), (aB, .inr (5, [.ref aB_rows, .ref aB_spare, .int B_count, .int B_found, .int B_crowded])), (aB_spare, .inl (cJ, 500, .inr (.inl B_spare)))] → va_S A s.heap H locs → ∀ ls : Array Slot, lv_has ls 10 [(0, .ref aB), (1, .long x1), (3, .ref aP), (4, .int x4), (5, .int x5_39), (6, .int x6_40), (7, .int x7_41)] → (∀ (x5_42 : Int32) (x6_43 : Int32), some ((x5_42, x6_43)) = some o_38 → ∀ (H : Heap) (locs : List Loc), va_P D vwCl [(aP, .inr (2, [.ref aP_slots, .ref aP_termsSeen, .ref aP_matches, .ref aP_matchCount, .ref aP_variables, .ref aP_havingVariable, .ref aP_told, .ref aP_parent, .ref aP_allBefore, .int P_required, .int P_hinted, .int P_count])), (aP_slots, .inl (cI, 24, .inl P_slots)), (aP_matchCount, .inl (cI, 8, .inl P_matchCount)), (aP_matches, .inl (cI, 640, .inl P_matches)), (aB, .inr (5, [.ref aB_rows, .ref aB_spare, .int B_count, .int B_found, .int B_crowded])), (aB_spare, .inl (cJ, 500, .inr (.inl B_spare)))] H → va_D A [(aP, .inr (2, [.ref aP_slots, .ref aP_termsSeen, .ref aP_matches, .ref aP_matchCount, .ref aP_variables, .ref aP_havingVariable, .ref aP_told, .ref aP_parent, .ref aP_allBefore, .int P_required, .int P_hinted, .int P_count])), (aP_slots, .inl (cI, 24, .inl P_slots)), (aP_matchCount, .inl (cI, 8, .inl P_matchCount)), (aP_matches, .inl (cI, 640, .inl P_matches)), (aB, .inr (5, [.ref aB_rows, .ref aB_spare, .int B_count, .int B_found, .int B_crowded])), (aB_spare, .inl (cJ, 500, .inr (.inl B_spare)))] → va_S A s.heap H locs → ∀ ls : Array Slot, lv_has ls 10 [(0, .ref aB), (1, .long x1), (3, .ref aP), (4, .int x4), (5, .int x5_42), (6, .int x6_43)] → W p l e rm_f_Table_putMatches s m args below meth c H locs 0 0 Q (F0 m 81 ls [])) → W p l e rm_f_Table_putMatches s m args below meth c H locs 0 0 Q (F0 m 9 ls []) := by
    intro k
    induction k with
    | zero =>
      intro x5_39 x6_40 x7_41 o_38 hf
      exact absurd (((f_Table_putMatches_L0_z n x1 x4 P_slots x5_39 x6_40 x7_41).symm.trans hf)) (fun h => by cases h)
    | succ k ih =>
      intro x5_39 x6_40 x7_41 o_38 hf H locs hP hD hS ls hl hX_38
      have hf := (f_Table_putMatches_L0_s n x1 x4 P_slots k x5_39 x6_40 x7_41).symm.trans hf
      refine lv_iload hx hb dX5_putMatches_9 (lv_at hl 6 rfl) ?_
      refine lv_iconst (v := (3 : Int32)) hx hb dX5_putMatches_11 (by decide) ?_
      refine lv_icmp_ge (tgt := 81) hx hb dX5_putMatches_12 (by decide) (fun c_44 => ?_) (fun c_44 => ?_)
      · have hf := xb_t c_44 hf
        exact hX_38 x5_39 x6_40 hf _ _ hP hD hS _ (lv_sub hl [0, 1, 2, 3, 4, 5] rfl)
      · have hf := xb_f c_44 hf
        refine lv_aload_n hx hb dX5_putMatches_15 rfl (lv_at hl 2 rfl) ?_
        refine lv_iload hx hb dX5_putMatches_16 (lv_at hl 3 rfl) ?_
        refine lv_iload hx hb dX5_putMatches_18 (lv_at hl 6 rfl) ?_
        obtain ⟨r_46, hq_45, hf⟩ := bn1_c hf
        refine x_i (xrV (As := [.int x4, .int x7_41]) (b := aP) (rest := []) ⟨hx, hb, hml, hown, htg⟩ (c_f_Patterns_slot l D cI cJ cZ _ aP x4 x7_41 aP_slots aP_termsSeen aP_matches aP_matchCount aP_variables aP_havingVariable aP_told aP_parent aP_allBefore P_required P_hinted P_count P_slots hq_45) kc_f_Patterns_slot kw_493 kw_262 kw_263 kw_3 dd_f_Patterns_slot ⟨Nat.le_of_ble_eq_true rfl, Nat.le_of_ble_eq_true rfl⟩ rfl rfl (hP.sub [0, 1] rfl) (hD.sub [0, 1] (by decide) rfl) hK hN hP (q0 := 0) rfl rfl rfl hl.1 rfl (Nat.le_of_ble_eq_true rfl) dX5_putMatches_20 ⟨Nat.le_of_ble_eq_true rfl, Nat.le_of_ble_eq_true rfl⟩) hP hD hS hA [0, 1] [2, 3, 4, 5] rfl rfl (by decide) (by decide) (fun _ H locs hP hD hS => ?_)
        have hP : va_P D vwCl [(aP_matchCount, .inl (cI, 8, .inl P_matchCount)), (aP_matches, .inl (cI, 640, .inl P_matches)), (aB, .inr (5, [.ref aB_rows, .ref aB_spare, .int B_count, .int B_found, .int B_crowded])), (aB_spare, .inl (cJ, 500, .inr (.inl B_spare))), (aP, .inr (2, [.ref aP_slots, .ref aP_termsSeen, .ref aP_matches, .ref aP_matchCount, .ref aP_variables, .ref aP_havingVariable, .ref aP_told, .ref aP_parent, .ref aP_allBefore, .int P_required, .int P_hinted, .int P_count])), (aP_slots, .inl (cI, 24, .inl P_slots))] H := hP
        have hD : va_D A [(aP_matchCount, .inl (cI, 8, .inl P_matchCount)), (aP_matches, .inl (cI, 640, .inl P_matches)), (aB, .inr (5, [.ref aB_rows, .ref aB_spare, .int B_count, .int B_found, .int B_crowded])), (aB_spare, .inl (cJ, 500, .inr (.inl B_spare))), (aP, .inr (2, [.ref aP_slots, .ref aP_termsSeen, .ref aP_matches, .ref aP_matchCount, .ref aP_variables, .ref aP_havingVariable, .ref aP_told, .ref aP_parent, .ref aP_allBefore, .int P_required, .int P_hinted, .int P_count])), (aP_slots, .inl (cI, 24, .inl P_slots))] := hD
        refine lv_istore (lv' := [(8, .int r_46), (0, .ref aB), (1, .long x1), (3, .ref aP), (4, .int x4), (5, .int x5_39), (6, .int x6_40), (7, .int x7_41)]) hx hb dX5_putMatches_23 hl (by decide) rfl (fun ls hl => ?_)
        refine lv_iload hx hb dX5_putMatches_25 (lv_at hl 0 rfl) ?_
        obtain ⟨o_50, ho_50, hk_50⟩ := bn1_s hf
        have J_43_50 : ∀ (z_51 : Int32), some (z_51) = some o_50 → ∀ (H : Heap) (locs : List Loc), va_P D vwCl [(aP, .inr (2, [.ref aP_slots, .ref aP_termsSeen, .ref aP_matches, .ref aP_matchCount, .ref aP_variables, .ref aP_havingVariable, .ref aP_told, .ref aP_parent, .ref aP_allBefore, .int P_required, .int P_hinted, .int P_count])), (aP_slots, .inl (cI, 24, .inl P_slots)), (aP_matchCount, .inl (cI, 8, .inl P_matchCount)), (aP_matches, .inl (cI, 640, .inl P_matches)), (aB, .inr (5, [.ref aB_rows, .ref aB_spare, .int B_count, .int B_found, .int B_crowded])), (aB_spare, .inl (cJ, 500, .inr (.inl B_spare)))] H → va_D A [(aP, .inr (2, [.ref aP_slots, .ref aP_termsSeen, .ref aP_matches, .ref aP_matchCount, .ref aP_variables, .ref aP_havingVariable, .ref aP_told, .ref aP_parent, .ref aP_allBefore, .int P_required, .int P_hinted, .int P_count])), (aP_slots, .inl (cI, 24, .inl P_slots)), (aP_matchCount, .inl (cI, 8, .inl P_matchCount)), (aP_matches, .inl (cI, 640, .inl P_matches)), (aB, .inr (5, [.ref aB_rows, .ref aB_spare, .int B_count, .int B_found, .int B_crowded])), (aB_spare, .inl (cJ, 500, .inr (.inl B_spare)))] → va_S A s.heap H locs → ∀ ls : Array Slot, lv_has ls 10 [(0, .ref aB), (1, .long x1), (3, .ref aP), (4, .int x4), (5, .int x5_39), (6, .int x6_40), (7, .int x7_41)] → W p l e rm_f_Table_putMatches s m args below meth c H locs 0 0 Q (F0 m 43 ls [.int z_51]) := by
          intro z_51 hf H locs hP hD hS ls hl
          have hf := hk_50 _ hf
          refine lv_istore (lv' := [(9, .int z_51), (0, .ref aB), (1, .long x1), (3, .ref aP), (4, .int x4), (5, .int x5_39), (6, .int x6_40), (7, .int x7_41)]) hx hb dX5_putMatches_43 hl (by decide) rfl (fun ls hl => ?_)
          refine lv_iload hx hb dX5_putMatches_45 (lv_at hl 0 rfl) ?_
          refine lv_iconst (v := (-1 : Int32)) hx hb dX5_putMatches_47 (by decide) ?_
          refine lv_icmp_eq (tgt := 75) hx hb dX5_putMatches_48 (by decide) (fun c_52 => ?_) (fun c_52 => ?_)
          · have hf := xb_t c_52 hf
            obtain ⟨x7_53, ex7_53⟩ : ∃ y : Int32, y = x7_41 + (1 : Int32) := ⟨_, rfl⟩
            have hf := nm_nm ex7_53 hf
            refine lv_iinc (v := x7_53) (lv' := [(7, .int x7_53), (9, .int z_51), (0, .ref aB), (1, .long x1), (3, .ref aP), (4, .int x4), (5, .int x5_39), (6, .int x6_40)]) hx hb dX5_putMatches_75 hl (k := 7) rfl (by rw [ex7_53]; rfl) (by decide) rfl (fun ls hl => ?_)
            refine lv_goto (tgt := 9) hx hb dX5_putMatches_78 (by decide) ?_
            exact ih x5_39 x6_40 x7_53 o_38 hf _ _ hP hD hS _ (lv_sub hl [2, 3, 4, 5, 6, 7, 0] rfl) hX_38
          · have hf := xb_f c_52 hf
            refine lv_iload hx hb dX5_putMatches_51 (lv_at hl 5 rfl) ?_
            refine lv_bipush (v := (31 : Int32)) hx hb dX5_putMatches_53 (by decide) ?_
            refine lv_iload hx hb dX5_putMatches_55 (lv_at hl 7 rfl) ?_
            refine x_i (xrS (As := [.int (31 : Int32), .int x7_41]) (rest := [.int x5_39]) ⟨hx, hb, hml, hown, htg⟩ (c_f_Triples_at l D cI cJ cZ _ (31 : Int32) x7_41 rfl) kc_f_Triples_at kw_499 kw_239 kw_2 dd_f_Triples_at ⟨Nat.le_of_ble_eq_true rfl, Nat.le_of_ble_eq_true rfl⟩ rfl rfl (hP.sub [] rfl) (hD.sub [] (by decide) rfl) hK hN rfl hl.1 rfl (Nat.le_of_ble_eq_true rfl) dX5_putMatches_57 ⟨Nat.le_of_ble_eq_true rfl, Nat.le_of_ble_eq_true rfl⟩) hP hD hS hA [] [0, 1, 2, 3, 4, 5] rfl rfl (by decide) (by decide) (fun _ H locs hP hD hS => ?_)
            have hP : va_P D vwCl [(aP, .inr (2, [.ref aP_slots, .ref aP_termsSeen, .ref aP_matches, .ref aP_matchCount, .ref aP_variables, .ref aP_havingVariable, .ref aP_told, .ref aP_parent, .ref aP_allBefore, .int P_required, .int P_hinted, .int P_count])), (aP_slots, .inl (cI, 24, .inl P_slots)), (aP_matchCount, .inl (cI, 8, .inl P_matchCount)), (aP_matches, .inl (cI, 640, .inl P_matches)), (aB, .inr (5, [.ref aB_rows, .ref aB_spare, .int B_count, .int B_found, .int B_crowded])), (aB_spare, .inl (cJ, 500, .inr (.inl B_spare)))] H := hP
            have hD : va_D A [(aP, .inr (2, [.ref aP_slots, .ref aP_termsSeen, .ref aP_matches, .ref aP_matchCount, .ref aP_variables, .ref aP_havingVariable, .ref aP_told, .ref aP_parent, .ref aP_allBefore, .int P_required, .int P_hinted, .int P_count])), (aP_slots, .inl (cI, 24, .inl P_slots)), (aP_matchCount, .inl (cI, 8, .inl P_matchCount)), (aP_matches, .inl (cI, 640, .inl P_matches)), (aB, .inr (5, [.ref aB_rows, .ref aB_spare, .int B_count, .int B_found, .int B_crowded])), (aB_spare, .inl (cJ, 500, .inr (.inl B_spare)))] := hD
            refine lv_ior hx hb dX5_putMatches_60 ?_
            refine lv_topi (fun x5_55 ex5_55 => ?_)
            have hf := nm_nm ex5_55 hf
            refine lv_istore (lv' := [(5, .int x5_55), (9, .int z_51), (0, .ref aB), (1, .long x1), (3, .ref aP), (4, .int x4), (6, .int x6_40), (7, .int x7_41)]) hx hb dX5_putMatches_61 hl (by decide) rfl (fun ls hl => ?_)
            refine lv_iload hx hb dX5_putMatches_63 (lv_at hl 6 rfl) ?_
            refine lv_iload hx hb dX5_putMatches_65 (lv_at hl 1 rfl) ?_
            refine lv_iload hx hb dX5_putMatches_67 (lv_at hl 7 rfl) ?_
            refine x_i (xrS (As := [.int z_51, .int x7_41]) (rest := [.int x6_40]) ⟨hx, hb, hml, hown, htg⟩ (c_f_Triples_at l D cI cJ cZ _ z_51 x7_41 rfl) kc_f_Triples_at kw_499 kw_239 kw_2 dd_f_Triples_at ⟨Nat.le_of_ble_eq_true rfl, Nat.le_of_ble_eq_true rfl⟩ rfl rfl (hP.sub [] rfl) (hD.sub [] (by decide) rfl) hK hN rfl hl.1 rfl (Nat.le_of_ble_eq_true rfl) dX5_putMatches_69 ⟨Nat.le_of_ble_eq_true rfl, Nat.le_of_ble_eq_true rfl⟩) hP hD hS hA [] [0, 1, 2, 3, 4, 5] rfl rfl (by decide) (by decide) (fun _ H locs hP hD hS => ?_)
            have hP : va_P D vwCl [(aP, .inr (2, [.ref aP_slots, .ref aP_termsSeen, .ref aP_matches, .ref aP_matchCount, .ref aP_variables, .ref aP_havingVariable, .ref aP_told, .ref aP_parent, .ref aP_allBefore, .int P_required, .int P_hinted, .int P_count])), (aP_slots, .inl (cI, 24, .inl P_slots)), (aP_matchCount, .inl (cI, 8, .inl P_matchCount)), (aP_matches, .inl (cI, 640, .inl P_matches)), (aB, .inr (5, [.ref aB_rows, .ref aB_spare, .int B_count, .int B_found, .int B_crowded])), (aB_spare, .inl (cJ, 500, .inr (.inl B_spare)))] H := hP
            have hD : va_D A [(aP, .inr (2, [.ref aP_slots, .ref aP_termsSeen, .ref aP_matches, .ref aP_matchCount, .ref aP_variables, .ref aP_havingVariable, .ref aP_told, .ref aP_parent, .ref aP_allBefore, .int P_required, .int P_hinted, .int P_count])), (aP_slots, .inl (cI, 24, .inl P_slots)), (aP_matchCount, .inl (cI, 8, .inl P_matchCount)), (aP_matches, .inl (cI, 640, .inl P_matches)), (aB, .inr (5, [.ref aB_rows, .ref aB_spare, .int B_count, .int B_found, .int B_crowded])), (aB_spare, .inl (cJ, 500, .inr (.inl B_spare)))] := hD
            refine lv_ior hx hb dX5_putMatches_72 ?_
            refine lv_topi (fun x6_57 ex6_57 => ?_)
            have hf := nm_nm ex6_57 hf
            refine lv_istore (lv' := [(6, .int x6_57), (5, .int x5_55), (9, .int z_51), (0, .ref aB), (1, .long x1), (3, .ref aP), (4, .int x4), (7, .int x7_41)]) hx hb dX5_putMatches_73 hl (by decide) rfl (fun ls hl => ?_)
            obtain ⟨x7_58, ex7_58⟩ : ∃ y : Int32, y = x7_41 + (1 : Int32) := ⟨_, rfl⟩
            have hf := nm_nm ex7_58 hf
            refine lv_iinc (v := x7_58) (lv' := [(7, .int x7_58), (6, .int x6_57), (5, .int x5_55), (9, .int z_51), (0, .ref aB), (1, .long x1), (3, .ref aP), (4, .int x4)]) hx hb dX5_putMatches_75 hl (k := 7) rfl (by rw [ex7_58]; rfl) (by decide) rfl (fun ls hl => ?_)
            refine lv_goto (tgt := 9) hx hb dX5_putMatches_78 (by decide) ?_
            exact ih x5_55 x6_57 x7_58 o_38 hf _ _ hP hD hS _ (lv_sub hl [4, 5, 6, 7, 2, 1, 0] rfl) hX_38
        have hf := ho_50
        refine lv_if_ge (tgt := 42) hx hb dX5_putMatches_27 (by decide) (fun c_47 => ?_) (fun c_47 => ?_)
        · have hf := xb_t c_47 hf
          refine lv_iconst (v := (-1 : Int32)) hx hb dX5_putMatches_42 (by decide) ?_
          exact J_43_50 (-1 : Int32) hf _ _ (hP.sub [4, 5, 0, 1, 2, 3] rfl) (hD.sub [4, 5, 0, 1, 2, 3] (by decide) rfl) hS _ (lv_sub hl [1, 2, 3, 4, 5, 6, 7] rfl)
        · have hf := xb_f c_47 hf
          refine lv_lload_n hx hb dX5_putMatches_30 rfl (lv_at hl 2 rfl) ?_
          refine lv_iload hx hb dX5_putMatches_31 (lv_at hl 0 rfl) ?_
          refine x_i (xrSN (As := [.int r_46]) (rest := [.long x1]) ⟨hx, hb, hml, hown, htg⟩ (c_f_JoinOrder_indexOf l D cI cJ cZ _ r_46 rfl) kc_f_JoinOrder_indexOf kn_494 kw_291 kw_1 dd_f_JoinOrder_indexOf ⟨Nat.le_of_ble_eq_true rfl, Nat.le_of_ble_eq_true rfl⟩ rfl rfl (hP.sub [] rfl) (hD.sub [] (by decide) rfl) hK hN rfl hl.1 rfl (Nat.le_of_ble_eq_true rfl) dX5_putMatches_33 ⟨Nat.le_of_ble_eq_true rfl, Nat.le_of_ble_eq_true rfl⟩) hP hD hS hA [] [0, 1, 2, 3, 4, 5] rfl rfl (by decide) (by decide) (fun _ H locs hP hD hS => ?_)
          have hP : va_P D vwCl [(aP_matchCount, .inl (cI, 8, .inl P_matchCount)), (aP_matches, .inl (cI, 640, .inl P_matches)), (aB, .inr (5, [.ref aB_rows, .ref aB_spare, .int B_count, .int B_found, .int B_crowded])), (aB_spare, .inl (cJ, 500, .inr (.inl B_spare))), (aP, .inr (2, [.ref aP_slots, .ref aP_termsSeen, .ref aP_matches, .ref aP_matchCount, .ref aP_variables, .ref aP_havingVariable, .ref aP_told, .ref aP_parent, .ref aP_allBefore, .int P_required, .int P_hinted, .int P_count])), (aP_slots, .inl (cI, 24, .inl P_slots))] H := hP
          have hD : va_D A [(aP_matchCount, .inl (cI, 8, .inl P_matchCount)), (aP_matches, .inl (cI, 640, .inl P_matches)), (aB, .inr (5, [.ref aB_rows, .ref aB_spare, .int B_count, .int B_found, .int B_crowded])), (aB_spare, .inl (cJ, 500, .inr (.inl B_spare))), (aP, .inr (2, [.ref aP_slots, .ref aP_termsSeen, .ref aP_matches, .ref aP_matchCount, .ref aP_variables, .ref aP_havingVariable, .ref aP_told, .ref aP_parent, .ref aP_allBefore, .int P_required, .int P_hinted, .int P_count])), (aP_slots, .inl (cI, 24, .inl P_slots))] := hD
          refine x_i (xrS (As := [.long x1, .int (f_JoinOrder_indexOf r_46)]) (rest := []) ⟨hx, hb, hml, hown, htg⟩ (c_f_Table_termOf l D cI cJ cZ _ x1 (f_JoinOrder_indexOf r_46) rfl) kc_f_Table_termOf kw_495 kw_496 kw_7 dd_f_Table_termOf ⟨Nat.le_of_ble_eq_true rfl, Nat.le_of_ble_eq_true rfl⟩ rfl rfl (hP.sub [] rfl) (hD.sub [] (by decide) rfl) hK hN rfl hl.1 rfl (Nat.le_of_ble_eq_true rfl) dX5_putMatches_36 ⟨Nat.le_of_ble_eq_true rfl, Nat.le_of_ble_eq_true rfl⟩) hP hD hS hA [] [0, 1, 2, 3, 4, 5] rfl rfl (by decide) (by decide) (fun _ H locs hP hD hS => ?_)
          have hP : va_P D vwCl [(aP_matchCount, .inl (cI, 8, .inl P_matchCount)), (aP_matches, .inl (cI, 640, .inl P_matches)), (aB, .inr (5, [.ref aB_rows, .ref aB_spare, .int B_count, .int B_found, .int B_crowded])), (aB_spare, .inl (cJ, 500, .inr (.inl B_spare))), (aP, .inr (2, [.ref aP_slots, .ref aP_termsSeen, .ref aP_matches, .ref aP_matchCount, .ref aP_variables, .ref aP_havingVariable, .ref aP_told, .ref aP_parent, .ref aP_allBefore, .int P_required, .int P_hinted, .int P_count])), (aP_slots, .inl (cI, 24, .inl P_slots))] H := hP
          have hD : va_D A [(aP_matchCount, .inl (cI, 8, .inl P_matchCount)), (aP_matches, .inl (cI, 640, .inl P_matches)), (aB, .inr (5, [.ref aB_rows, .ref aB_spare, .int B_count, .int B_found, .int B_crowded])), (aB_spare, .inl (cJ, 500, .inr (.inl B_spare))), (aP, .inr (2, [.ref aP_slots, .ref aP_termsSeen, .ref aP_matches, .ref aP_matchCount, .ref aP_variables, .ref aP_havingVariable, .ref aP_told, .ref aP_parent, .ref aP_allBefore, .int P_required, .int P_hinted, .int P_count])), (aP_slots, .inl (cI, 24, .inl P_slots))] := hD
          refine lv_goto (tgt := 43) hx hb dX5_putMatches_39 (by decide) ?_
          exact J_43_50 (f_Table_termOf x1 (f_JoinOrder_indexOf r_46)) hf _ _ (hP.sub [4, 5, 0, 1, 2, 3] rfl) (hD.sub [4, 5, 0, 1, 2, 3] (by decide) rfl) hS _ (lv_sub hl [1, 2, 3, 4, 5, 6, 7] rfl)
  obtain ⟨o_38, ho_38, hk_38⟩ := bn2_s hf
  refine L_9_38 n (0 : Int32) (0 : Int32) (0 : Int32) o_38 ho_38 _ _ hP hD hS _ (lv_sub hl [3, 4, 5, 6, 2, 1, 0] rfl) (fun x5_42 x6_43 hf H locs hP hD hS ls hl => ?_)
  have hf := hk_38 _ _ hf
  refine lv_iload hx hb dX5_putMatches_81 (lv_at hl 3 rfl) ?_
  refine lv_bipush (v := (80 : Int32)) hx hb dX5_putMatches_83 (by decide) ?_
  refine lv_imul hx hb dX5_putMatches_85 ?_
  refine lv_topi (fun x7_61 ex7_61 => ?_)
  have hf := nm_nm ex7_61 hf
  refine lv_istore (lv' := [(7, .int x7_61), (0, .ref aB), (1, .long x1), (3, .ref aP), (4, .int x4), (5, .int x5_42), (6, .int x6_43)]) hx hb dX5_putMatches_86 hl (by decide) rfl (fun ls hl => ?_)
  refine lv_iload hx hb dX5_putMatches_88 (lv_at hl 0 rfl) ?_
  refine lv_istore (lv' := [(8, .int x7_61), (7, .int x7_61), (0, .ref aB), (1, .long x1), (3, .ref aP), (4, .int x4), (5, .int x5_42), (6, .int x6_43)]) hx hb dX5_putMatches_90 hl (by decide) rfl (fun ls hl => ?_)
  have L_92_92 : ∀ (k : Nat) (B_found_93 : Int32) (B_crowded_94 : Int32) (B_spare_95 : Nat → Int64) (x8_96 : Int32) (o_92 : (Int32 × Int32 × (Nat → Int64))), f_Table_putMatches_L1 n x1 x4 P_slots P_matchCount P_matches x5_42 x6_43 x7_61 k B_found_93 B_crowded_94 B_spare_95 x8_96 = some o_92 → ∀ (H : Heap) (locs : List Loc), va_P D vwCl [(aP, .inr (2, [.ref aP_slots, .ref aP_termsSeen, .ref aP_matches, .ref aP_matchCount, .ref aP_variables, .ref aP_havingVariable, .ref aP_told, .ref aP_parent, .ref aP_allBefore, .int P_required, .int P_hinted, .int P_count])), (aP_slots, .inl (cI, 24, .inl P_slots)), (aP_matchCount, .inl (cI, 8, .inl P_matchCount)), (aP_matches, .inl (cI, 640, .inl P_matches)), (aB, .inr (5, [.ref aB_rows, .ref aB_spare, .int B_count, .int B_found_93, .int B_crowded_94])), (aB_spare, .inl (cJ, 500, .inr (.inl B_spare_95)))] H → va_D A [(aP, .inr (2, [.ref aP_slots, .ref aP_termsSeen, .ref aP_matches, .ref aP_matchCount, .ref aP_variables, .ref aP_havingVariable, .ref aP_told, .ref aP_parent, .ref aP_allBefore, .int P_required, .int P_hinted, .int P_count])), (aP_slots, .inl (cI, 24, .inl P_slots)), (aP_matchCount, .inl (cI, 8, .inl P_matchCount)), (aP_matches, .inl (cI, 640, .inl P_matches)), (aB, .inr (5, [.ref aB_rows, .ref aB_spare, .int B_count, .int B_found_93, .int B_crowded_94])), (aB_spare, .inl (cJ, 500, .inr (.inl B_spare_95)))] → va_S A s.heap H locs → ∀ ls : Array Slot, lv_has ls 10 [(0, .ref aB), (1, .long x1), (3, .ref aP), (4, .int x4), (5, .int x5_42), (6, .int x6_43), (7, .int x7_61), (8, .int x8_96)] → (∀ (B_found_97 : Int32) (B_crowded_98 : Int32) (B_spare_99 : Nat → Int64), some ((B_found_97, B_crowded_98, B_spare_99)) = some o_92 → ∀ (H : Heap) (locs : List Loc), va_P D vwCl [(aP, .inr (2, [.ref aP_slots, .ref aP_termsSeen, .ref aP_matches, .ref aP_matchCount, .ref aP_variables, .ref aP_havingVariable, .ref aP_told, .ref aP_parent, .ref aP_allBefore, .int P_required, .int P_hinted, .int P_count])), (aP_slots, .inl (cI, 24, .inl P_slots)), (aP_matchCount, .inl (cI, 8, .inl P_matchCount)), (aP_matches, .inl (cI, 640, .inl P_matches)), (aB, .inr (5, [.ref aB_rows, .ref aB_spare, .int B_count, .int B_found_97, .int B_crowded_98])), (aB_spare, .inl (cJ, 500, .inr (.inl B_spare_99)))] H → va_D A [(aP, .inr (2, [.ref aP_slots, .ref aP_termsSeen, .ref aP_matches, .ref aP_matchCount, .ref aP_variables, .ref aP_havingVariable, .ref aP_told, .ref aP_parent, .ref aP_allBefore, .int P_required, .int P_hinted, .int P_count])), (aP_slots, .inl (cI, 24, .inl P_slots)), (aP_matchCount, .inl (cI, 8, .inl P_matchCount)), (aP_matches, .inl (cI, 640, .inl P_matches)), (aB, .inr (5, [.ref aB_rows, .ref aB_spare, .int B_count, .int B_found_97, .int B_crowded_98])), (aB_spare, .inl (cJ, 500, .inr (.inl B_spare_99)))] → va_S A s.heap H locs → ∀ ls : Array Slot, lv_has ls 10 [] → W p l e rm_f_Table_putMatches s m args below meth c H locs 0 0 Q (F0 m 146 ls [])) → W p l e rm_f_Table_putMatches s m args below meth c H locs 0 0 Q (F0 m 92 ls []) := by
    intro k
    induction k with
    | zero =>
      intro B_found_93 B_crowded_94 B_spare_95 x8_96 o_92 hf
      exact absurd (((f_Table_putMatches_L1_z n x1 x4 P_slots P_matchCount P_matches x5_42 x6_43 x7_61 B_found_93 B_crowded_94 B_spare_95 x8_96).symm.trans hf)) (fun h => by cases h)
    | succ k ih =>
      intro B_found_93 B_crowded_94 B_spare_95 x8_96 o_92 hf H locs hP hD hS ls hl hX_92
      have hf := (f_Table_putMatches_L1_s n x1 x4 P_slots P_matchCount P_matches x5_42 x6_43 x7_61 k B_found_93 B_crowded_94 B_spare_95 x8_96).symm.trans hf
      refine lv_iload hx hb dX5_putMatches_92 (lv_at hl 7 rfl) ?_
      refine lv_iload hx hb dX5_putMatches_94 (lv_at hl 6 rfl) ?_
      refine lv_aload_n hx hb dX5_putMatches_96 rfl (lv_at hl 2 rfl) ?_
      refine va_getN (D := D) (ci := 2) (v := .ref aP_matchCount) (C := RX2) (T := TX2) (N := 12) hx hb htg giX2 hown hK hP 0 rfl rfl 3 (by decide) (va_Nw.use rfl (hN _ kn_47)) (fun _ h9 => h9) rfl dX5_putMatches_97 ?_
      refine lv_iload hx hb dX5_putMatches_100 (lv_at hl 3 rfl) ?_
      have g_100 : vp_in x4 8 := gd_in hf
      have hf := gd_el hf
      refine va_iald hx hb hK hP 2 0 rfl rfl g_100 dX5_putMatches_102 ?_
      refine lv_iadd hx hb dX5_putMatches_103 ?_
      refine lv_icmp_ge (tgt := 146) hx hb dX5_putMatches_104 (by decide) (fun c_101 => ?_) (fun c_101 => ?_)
      · have hf := xb_t c_101 hf
        exact hX_92 B_found_93 B_crowded_94 B_spare_95 hf _ _ hP hD hS _ (lv_sub hl [] rfl)
      · have hf := xb_f c_101 hf
        refine lv_aload_n hx hb dX5_putMatches_107 rfl (lv_at hl 2 rfl) ?_
        refine va_getN (D := D) (ci := 2) (v := .ref aP_matches) (C := RX2) (T := TX2) (N := 12) hx hb htg giX2 hown hK hP 0 rfl rfl 2 (by decide) (va_Nw.use rfl (hN _ kn_45)) (fun _ h9 => h9) rfl dX5_putMatches_108 ?_
        refine lv_iload hx hb dX5_putMatches_111 (lv_at hl 7 rfl) ?_
        have g_102 : vp_in x8_96 640 := gd_in hf
        have hf := gd_el hf
        refine va_iald hx hb hK hP 3 0 rfl rfl g_102 dX5_putMatches_113 ?_
        refine lv_topi (fun x9_103 ex9_103 => ?_)
        have hf := nm_nm ex9_103 hf
        refine lv_istore (lv' := [(9, .int x9_103), (0, .ref aB), (1, .long x1), (3, .ref aP), (4, .int x4), (5, .int x5_42), (6, .int x6_43), (7, .int x7_61), (8, .int x8_96)]) hx hb dX5_putMatches_114 hl (by decide) rfl (fun ls hl => ?_)
        refine lv_iload hx hb dX5_putMatches_116 (lv_at hl 0 rfl) ?_
        refine lv_iload hx hb dX5_putMatches_118 (lv_at hl 5 rfl) ?_
        refine lv_iand hx hb dX5_putMatches_120 ?_
        refine lv_iload hx hb dX5_putMatches_121 (lv_at hl 6 rfl) ?_
        refine lv_icmp_ne (tgt := 140) hx hb dX5_putMatches_123 (by decide) (fun c_104 => ?_) (fun c_104 => ?_)
        · have hf := xb_f c_104 hf
          obtain ⟨x8_105, ex8_105⟩ : ∃ y : Int32, y = x8_96 + (1 : Int32) := ⟨_, rfl⟩
          have hf := nm_nm ex8_105 hf
          refine lv_iinc (v := x8_105) (lv' := [(8, .int x8_105), (9, .int x9_103), (0, .ref aB), (1, .long x1), (3, .ref aP), (4, .int x4), (5, .int x5_42), (6, .int x6_43), (7, .int x7_61)]) hx hb dX5_putMatches_140 hl (k := 8) rfl (by rw [ex8_105]; rfl) (by decide) rfl (fun ls hl => ?_)
          refine lv_goto (tgt := 92) hx hb dX5_putMatches_143 (by decide) ?_
          exact ih B_found_93 B_crowded_94 B_spare_95 x8_105 o_92 hf _ _ hP hD hS _ (lv_sub hl [2, 3, 4, 5, 6, 7, 8, 0] rfl) hX_92
        · have hf := xb_t c_104 hf
          refine lv_aload_n hx hb dX5_putMatches_126 rfl (lv_at hl 1 rfl) ?_
          refine lv_lload_n hx hb dX5_putMatches_127 rfl (lv_at hl 2 rfl) ?_
          refine lv_iload hx hb dX5_putMatches_128 (lv_at hl 0 rfl) ?_
          refine lv_aload_n hx hb dX5_putMatches_130 rfl (lv_at hl 3 rfl) ?_
          refine lv_iload hx hb dX5_putMatches_131 (lv_at hl 4 rfl) ?_
          obtain ⟨r_107, hq_106, hf⟩ := bn1_c hf
          refine x_l (xrS (As := [.int x9_103, .ref aP, .int x4]) (rest := [.long x1, .ref aB]) ⟨hx, hb, hml, hown, htg⟩ (c_f_Table_bindings l D cI cJ cZ _ n x9_103 aP x4 aP_slots aP_termsSeen aP_matches aP_matchCount aP_variables aP_havingVariable aP_told aP_parent aP_allBefore P_required P_hinted P_count P_slots hq_106) kc_f_Table_bindings kw_500 kw_501 kw_7 dd_f_Table_bindings ⟨Nat.le_of_ble_eq_true rfl, Nat.le_of_ble_eq_true rfl⟩ rfl rfl (hP.sub [0, 1] rfl) (hD.sub [0, 1] (by decide) rfl) hK hN rfl hl.1 rfl (Nat.le_of_ble_eq_true rfl) dX5_putMatches_133 ⟨Nat.le_of_ble_eq_true rfl, Nat.le_of_ble_eq_true rfl⟩) hP hD hS hA [0, 1] [2, 3, 4, 5] rfl rfl (by decide) (by decide) (fun _ H locs hP hD hS => ?_)
          have hP : va_P D vwCl [(aP_matchCount, .inl (cI, 8, .inl P_matchCount)), (aP_matches, .inl (cI, 640, .inl P_matches)), (aB, .inr (5, [.ref aB_rows, .ref aB_spare, .int B_count, .int B_found_93, .int B_crowded_94])), (aB_spare, .inl (cJ, 500, .inr (.inl B_spare_95))), (aP, .inr (2, [.ref aP_slots, .ref aP_termsSeen, .ref aP_matches, .ref aP_matchCount, .ref aP_variables, .ref aP_havingVariable, .ref aP_told, .ref aP_parent, .ref aP_allBefore, .int P_required, .int P_hinted, .int P_count])), (aP_slots, .inl (cI, 24, .inl P_slots))] H := hP
          have hD : va_D A [(aP_matchCount, .inl (cI, 8, .inl P_matchCount)), (aP_matches, .inl (cI, 640, .inl P_matches)), (aB, .inr (5, [.ref aB_rows, .ref aB_spare, .int B_count, .int B_found_93, .int B_crowded_94])), (aB_spare, .inl (cJ, 500, .inr (.inl B_spare_95))), (aP, .inr (2, [.ref aP_slots, .ref aP_termsSeen, .ref aP_matches, .ref aP_matchCount, .ref aP_variables, .ref aP_havingVariable, .ref aP_told, .ref aP_parent, .ref aP_allBefore, .int P_required, .int P_hinted, .int P_count])), (aP_slots, .inl (cI, 24, .inl P_slots))] := hD
          refine lv_lor hx hb dX5_putMatches_136 ?_
          obtain ⟨B_found_109, B_crowded_110, B_spare_111, hq_108, hf⟩ := bn3_c hf
          refine x_v (xrV (As := [.long (x1 ||| r_107)]) (b := aB) (rest := []) ⟨hx, hb, hml, hown, htg⟩ (c_f_Table_put l D cI cJ cZ _ aB (x1 ||| r_107) aB_rows aB_spare B_count B_found_93 B_crowded_94 B_spare_95 hq_108) kc_f_Table_put kw_485 kw_487 kp_16 kw_7 dd_f_Table_put ⟨Nat.le_of_ble_eq_true rfl, Nat.le_of_ble_eq_true rfl⟩ rfl rfl (hP.sub [2, 3] rfl) (hD.sub [2, 3] (by decide) rfl) hK hN hP (q0 := 2) rfl rfl rfl hl.1 rfl (Nat.le_of_ble_eq_true rfl) dX5_putMatches_137 ⟨Nat.le_of_ble_eq_true rfl, Nat.le_of_ble_eq_true rfl⟩) hP hD hS hA [2, 3] [0, 1, 4, 5] rfl rfl (by decide) (by decide) (fun _ H locs hP hD hS => ?_)
          have hP : va_P D vwCl [(aP_matchCount, .inl (cI, 8, .inl P_matchCount)), (aP_matches, .inl (cI, 640, .inl P_matches)), (aP, .inr (2, [.ref aP_slots, .ref aP_termsSeen, .ref aP_matches, .ref aP_matchCount, .ref aP_variables, .ref aP_havingVariable, .ref aP_told, .ref aP_parent, .ref aP_allBefore, .int P_required, .int P_hinted, .int P_count])), (aP_slots, .inl (cI, 24, .inl P_slots)), (aB, .inr (5, [.ref aB_rows, .ref aB_spare, .int B_count, .int B_found_109, .int B_crowded_110])), (aB_spare, .inl (cJ, 500, .inr (.inl B_spare_111)))] H := hP
          have hD : va_D A [(aP_matchCount, .inl (cI, 8, .inl P_matchCount)), (aP_matches, .inl (cI, 640, .inl P_matches)), (aP, .inr (2, [.ref aP_slots, .ref aP_termsSeen, .ref aP_matches, .ref aP_matchCount, .ref aP_variables, .ref aP_havingVariable, .ref aP_told, .ref aP_parent, .ref aP_allBefore, .int P_required, .int P_hinted, .int P_count])), (aP_slots, .inl (cI, 24, .inl P_slots)), (aB, .inr (5, [.ref aB_rows, .ref aB_spare, .int B_count, .int B_found_109, .int B_crowded_110])), (aB_spare, .inl (cJ, 500, .inr (.inl B_spare_111)))] := hD
          obtain ⟨x8_112, ex8_112⟩ : ∃ y : Int32, y = x8_96 + (1 : Int32) := ⟨_, rfl⟩
          have hf := nm_nm ex8_112 hf
          refine lv_iinc (v := x8_112) (lv' := [(8, .int x8_112), (9, .int x9_103), (0, .ref aB), (1, .long x1), (3, .ref aP), (4, .int x4), (5, .int x5_42), (6, .int x6_43), (7, .int x7_61)]) hx hb dX5_putMatches_140 hl (k := 8) rfl (by rw [ex8_112]; rfl) (by decide) rfl (fun ls hl => ?_)
          refine lv_goto (tgt := 92) hx hb dX5_putMatches_143 (by decide) ?_
          exact ih B_found_109 B_crowded_110 B_spare_111 x8_112 o_92 hf _ _ (hP.sub [2, 3, 0, 1, 4, 5] rfl) (hD.sub [2, 3, 0, 1, 4, 5] (by decide) rfl) hS _ (lv_sub hl [2, 3, 4, 5, 6, 7, 8, 0] rfl) hX_92
  obtain ⟨o_92, ho_92, hk_92⟩ := bn3_s hf
  refine L_92_92 n B_found B_crowded B_spare x7_61 o_92 ho_92 _ _ hP hD hS _ (lv_sub hl [2, 3, 4, 5, 6, 7, 1, 0] rfl) (fun B_found_97 B_crowded_98 B_spare_99 hf H locs hP hD hS ls hl => ?_)
  have hf := hk_92 _ _ _ hf
  have hf := Option.some.inj hf
  cases hf
  exact x_vret (fun _ => 0) hQ hx hb hr hlk hK hP hD hS dX5_putMatches_146
abbrev rm_f_Table_extend : Room := { frames := 3, cells := 0, slots := 0, locals := 77 }
set_option maxHeartbeats 4000000 in
set_option maxRecDepth 100000 in
theorem c_f_Table_extend (l : Launch) (D : va_G) (cI cJ cZ : ClassId) (sz : Nat) (n : Nat) (aB : Nat) (x1 : Int64) (aP : Nat) (x4 : Int32) (aP_slots : Nat) (aP_termsSeen : Nat) (aP_matches : Nat) (aP_matchCount : Nat) (aP_variables : Nat) (aP_havingVariable : Nat) (aP_told : Nat) (aP_parent : Nat) (aP_allBefore : Nat) (P_required : Int32) (P_hinted : Int32) (P_count : Int32) (P_parent : Nat → Int32) (aB_rows : Nat) (aB_spare : Nat) (B_count : Int32) (B_found : Int32) (B_crowded : Int32) (B_spare : Nat → Int64) (P_slots : Nat → Int32) (P_matchCount : Nat → Int32) (P_matches : Nat → Int32) {B_found' : Int32} {B_crowded' : Int32} {B_spare' : Nat → Int64} (hf : f_Table_extend n x1 x4 P_parent B_found B_crowded B_spare P_slots P_matchCount P_matches = some (B_found', B_crowded', B_spare')) : Met l yX5_extend (.code yX5_extend cX5_extend 7 none :: GW) rm_f_Table_extend (va_Pc [.ref aB, .long x1, .ref aP, .int x4] (xP D (xT cI cJ cZ) sz [(aP, .inr (2, [.ref aP_slots, .ref aP_termsSeen, .ref aP_matches, .ref aP_matchCount, .ref aP_variables, .ref aP_havingVariable, .ref aP_told, .ref aP_parent, .ref aP_allBefore, .int P_required, .int P_hinted, .int P_count])), (aP_parent, .inl (cI, 8, .inl P_parent)), (aB, .inr (5, [.ref aB_rows, .ref aB_spare, .int B_count, .int B_found, .int B_crowded])), (aB_spare, .inl (cJ, 500, .inr (.inl B_spare))), (aP_slots, .inl (cI, 24, .inl P_slots)), (aP_matchCount, .inl (cI, 8, .inl P_matchCount)), (aP_matches, .inl (cI, 640, .inl P_matches))])) (va_Qv (fun (_ : Nat → Nat) => True) (bB D (xT cI cJ cZ) (fun _ => [(aP, .inr (2, [.ref aP_slots, .ref aP_termsSeen, .ref aP_matches, .ref aP_matchCount, .ref aP_variables, .ref aP_havingVariable, .ref aP_told, .ref aP_parent, .ref aP_allBefore, .int P_required, .int P_hinted, .int P_count])), (aP_parent, .inl (cI, 8, .inl P_parent)), (aB, .inr (5, [.ref aB_rows, .ref aB_spare, .int B_count, .int B_found', .int B_crowded'])), (aB_spare, .inl (cJ, 500, .inr (.inl B_spare'))), (aP_slots, .inl (cI, 24, .inl P_slots)), (aP_matchCount, .inl (cI, 8, .inl P_matchCount)), (aP_matches, .inl (cI, 640, .inl P_matches))]) (va_A [(aP, .inr (2, [.ref aP_slots, .ref aP_termsSeen, .ref aP_matches, .ref aP_matchCount, .ref aP_variables, .ref aP_havingVariable, .ref aP_told, .ref aP_parent, .ref aP_allBefore, .int P_required, .int P_hinted, .int P_count])), (aP_parent, .inl (cI, 8, .inl P_parent)), (aB, .inr (5, [.ref aB_rows, .ref aB_spare, .int B_count, .int B_found, .int B_crowded])), (aB_spare, .inl (cJ, 500, .inr (.inl B_spare))), (aP_slots, .inl (cI, 24, .inl P_slots)), (aP_matchCount, .inl (cI, 8, .inl P_matchCount)), (aP_matches, .inl (cI, 640, .inl P_matches))] sz)) (va_A [(aP, .inr (2, [.ref aP_slots, .ref aP_termsSeen, .ref aP_matches, .ref aP_matchCount, .ref aP_variables, .ref aP_havingVariable, .ref aP_told, .ref aP_parent, .ref aP_allBefore, .int P_required, .int P_hinted, .int P_count])), (aP_parent, .inl (cI, 8, .inl P_parent)), (aB, .inr (5, [.ref aB_rows, .ref aB_spare, .int B_count, .int B_found, .int B_crowded])), (aB_spare, .inl (cJ, 500, .inr (.inl B_spare))), (aP_slots, .inl (cI, 24, .inl P_slots)), (aP_matchCount, .inl (cI, 8, .inl P_matchCount)), (aP_matches, .inl (cI, 640, .inl P_matches))] sz)) 0 0 (va_A [(aP, .inr (2, [.ref aP_slots, .ref aP_termsSeen, .ref aP_matches, .ref aP_matchCount, .ref aP_variables, .ref aP_havingVariable, .ref aP_told, .ref aP_parent, .ref aP_allBefore, .int P_required, .int P_hinted, .int P_count])), (aP_parent, .inl (cI, 8, .inl P_parent)), (aB, .inr (5, [.ref aB_rows, .ref aB_spare, .int B_count, .int B_found, .int B_crowded])), (aB_spare, .inl (cJ, 500, .inr (.inl B_spare))), (aP_slots, .inl (cI, 24, .inl P_slots)), (aP_matchCount, .inl (cI, 8, .inl P_matchCount)), (aP_matches, .inl (cI, 640, .inl P_matches))] sz) := by
  refine con_start (Qc := fun A => va_Qv (fun (_ : Nat → Nat) => True) (bB D (xT cI cJ cZ) (fun _ => [(aP, .inr (2, [.ref aP_slots, .ref aP_termsSeen, .ref aP_matches, .ref aP_matchCount, .ref aP_variables, .ref aP_havingVariable, .ref aP_told, .ref aP_parent, .ref aP_allBefore, .int P_required, .int P_hinted, .int P_count])), (aP_parent, .inl (cI, 8, .inl P_parent)), (aB, .inr (5, [.ref aB_rows, .ref aB_spare, .int B_count, .int B_found', .int B_crowded'])), (aB_spare, .inl (cJ, 500, .inr (.inl B_spare'))), (aP_slots, .inl (cI, 24, .inl P_slots)), (aP_matchCount, .inl (cI, 8, .inl P_matchCount)), (aP_matches, .inl (cI, 640, .inl P_matches))]) A) A) (by decide) (Nat.le_of_ble_eq_true rfl) ?_
  intro p e s m args below meth c Q A hx hb hr hlk hml hown hin htg hN hK hQ hA hP hD hS ls hl
  have hl : lv_has ls 7 [(0, .ref aB), (1, .long x1), (3, .ref aP), (4, .int x4)] := hl
  have hown : s.vm.findClass RX5 = some m.cls := hown
  have hf := (f_Table_extend_u n x1 x4 P_parent B_found B_crowded B_spare P_slots P_matchCount P_matches).symm.trans hf
  refine lv_aload_n hx hb dX5_extend_0 rfl (lv_at hl 2 rfl) ?_
  refine va_getN (D := D) (ci := 2) (v := .ref aP_parent) (C := RX2) (T := TX2) (N := 12) hx hb htg giX2 hown hK hP 0 rfl rfl 7 (by decide) (va_Nw.use rfl (hN _ kn_56)) (fun _ h9 => h9) rfl dX5_extend_1 ?_
  refine lv_iload hx hb dX5_extend_4 (lv_at hl 3 rfl) ?_
  have g_1 : vp_in x4 8 := gd_in hf
  have hf := gd_el hf
  refine va_iald hx hb hK hP 1 0 rfl rfl g_1 dX5_extend_6 ?_
  refine lv_topi (fun x5_2 ex5_2 => ?_)
  have hf := nm_nm ex5_2 hf
  refine lv_istore (lv' := [(5, .int x5_2), (0, .ref aB), (1, .long x1), (3, .ref aP), (4, .int x4)]) hx hb dX5_extend_7 hl (by decide) rfl (fun ls hl => ?_)
  refine lv_iload hx hb dX5_extend_9 (lv_at hl 0 rfl) ?_
  refine lv_iconst (v := (-1 : Int32)) hx hb dX5_extend_11 (by decide) ?_
  obtain ⟨o_11, ho_11, hret_11, hk_11⟩ := bd0_s hf
  have J_36_11 : some (Sum.inr ()) = some o_11 → ∀ (H : Heap) (locs : List Loc), va_P D vwCl [(aP, .inr (2, [.ref aP_slots, .ref aP_termsSeen, .ref aP_matches, .ref aP_matchCount, .ref aP_variables, .ref aP_havingVariable, .ref aP_told, .ref aP_parent, .ref aP_allBefore, .int P_required, .int P_hinted, .int P_count])), (aP_parent, .inl (cI, 8, .inl P_parent)), (aB, .inr (5, [.ref aB_rows, .ref aB_spare, .int B_count, .int B_found, .int B_crowded])), (aB_spare, .inl (cJ, 500, .inr (.inl B_spare))), (aP_slots, .inl (cI, 24, .inl P_slots)), (aP_matchCount, .inl (cI, 8, .inl P_matchCount)), (aP_matches, .inl (cI, 640, .inl P_matches))] H → va_D A [(aP, .inr (2, [.ref aP_slots, .ref aP_termsSeen, .ref aP_matches, .ref aP_matchCount, .ref aP_variables, .ref aP_havingVariable, .ref aP_told, .ref aP_parent, .ref aP_allBefore, .int P_required, .int P_hinted, .int P_count])), (aP_parent, .inl (cI, 8, .inl P_parent)), (aB, .inr (5, [.ref aB_rows, .ref aB_spare, .int B_count, .int B_found, .int B_crowded])), (aB_spare, .inl (cJ, 500, .inr (.inl B_spare))), (aP_slots, .inl (cI, 24, .inl P_slots)), (aP_matchCount, .inl (cI, 8, .inl P_matchCount)), (aP_matches, .inl (cI, 640, .inl P_matches))] → va_S A s.heap H locs → ∀ ls : Array Slot, lv_has ls 7 [(0, .ref aB), (1, .long x1), (3, .ref aP), (4, .int x4), (5, .int x5_2)] → W p l e rm_f_Table_extend s m args below meth c H locs 0 0 Q (F0 m 36 ls []) := by
    intro  hf H locs hP hD hS ls hl
    have hf := hk_11  hf
    refine lv_aload_n hx hb dX5_extend_36 rfl (lv_at hl 0 rfl) ?_
    refine va_get (D := D) (ci := 5) (v := .int B_found) (C := RX5) (T := TX5) (N := 5) hx hb htg giX5 hown hK hP 2 rfl rfl 3 (by decide) (htg _ kw_186) (fun _ h9 => h9) rfl dX5_extend_37 ?_
    refine lv_istore (lv' := [(6, .int B_found), (0, .ref aB), (1, .long x1), (3, .ref aP), (4, .int x4), (5, .int x5_2)]) hx hb dX5_extend_40 hl (by decide) rfl (fun ls hl => ?_)
    refine lv_aload_n hx hb dX5_extend_42 rfl (lv_at hl 1 rfl) ?_
    refine lv_lload_n hx hb dX5_extend_43 rfl (lv_at hl 2 rfl) ?_
    refine lv_aload_n hx hb dX5_extend_44 rfl (lv_at hl 3 rfl) ?_
    refine lv_iload hx hb dX5_extend_45 (lv_at hl 4 rfl) ?_
    obtain ⟨B_found_13, B_crowded_14, B_spare_15, hq_12, hf⟩ := bn3_c hf
    refine x_v (xrV (As := [.long x1, .ref aP, .int x4]) (b := aB) (rest := []) ⟨hx, hb, hml, hown, htg⟩ (c_f_Table_putMatches l D cI cJ cZ _ n aB x1 aP x4 aP_slots aP_termsSeen aP_matches aP_matchCount aP_variables aP_havingVariable aP_told aP_parent aP_allBefore P_required P_hinted P_count P_slots P_matchCount P_matches aB_rows aB_spare B_count B_found B_crowded B_spare hq_12) kc_f_Table_putMatches kw_489 kw_491 kp_17 kw_7 dd_f_Table_putMatches ⟨Nat.le_of_ble_eq_true rfl, Nat.le_of_ble_eq_true rfl⟩ rfl rfl (hP.sub [0, 4, 5, 6, 2, 3] rfl) (hD.sub [0, 4, 5, 6, 2, 3] (by decide) rfl) hK hN hP (q0 := 2) rfl rfl rfl hl.1 rfl (Nat.le_of_ble_eq_true rfl) dX5_extend_47 ⟨Nat.le_of_ble_eq_true rfl, Nat.le_of_ble_eq_true rfl⟩) hP hD hS hA [0, 4, 5, 6, 2, 3] [1] rfl rfl (by decide) (by decide) (fun _ H locs hP hD hS => ?_)
    have hP : va_P D vwCl [(aP_parent, .inl (cI, 8, .inl P_parent)), (aP, .inr (2, [.ref aP_slots, .ref aP_termsSeen, .ref aP_matches, .ref aP_matchCount, .ref aP_variables, .ref aP_havingVariable, .ref aP_told, .ref aP_parent, .ref aP_allBefore, .int P_required, .int P_hinted, .int P_count])), (aP_slots, .inl (cI, 24, .inl P_slots)), (aP_matchCount, .inl (cI, 8, .inl P_matchCount)), (aP_matches, .inl (cI, 640, .inl P_matches)), (aB, .inr (5, [.ref aB_rows, .ref aB_spare, .int B_count, .int B_found_13, .int B_crowded_14])), (aB_spare, .inl (cJ, 500, .inr (.inl B_spare_15)))] H := hP
    have hD : va_D A [(aP_parent, .inl (cI, 8, .inl P_parent)), (aP, .inr (2, [.ref aP_slots, .ref aP_termsSeen, .ref aP_matches, .ref aP_matchCount, .ref aP_variables, .ref aP_havingVariable, .ref aP_told, .ref aP_parent, .ref aP_allBefore, .int P_required, .int P_hinted, .int P_count])), (aP_slots, .inl (cI, 24, .inl P_slots)), (aP_matchCount, .inl (cI, 8, .inl P_matchCount)), (aP_matches, .inl (cI, 640, .inl P_matches)), (aB, .inr (5, [.ref aB_rows, .ref aB_spare, .int B_count, .int B_found_13, .int B_crowded_14])), (aB_spare, .inl (cJ, 500, .inr (.inl B_spare_15)))] := hD
    refine lv_iload hx hb dX5_extend_50 (lv_at hl 5 rfl) ?_
    refine lv_iconst (v := (-1 : Int32)) hx hb dX5_extend_52 (by decide) ?_
    refine lv_icmp_eq (tgt := 76) hx hb dX5_extend_53 (by decide) (fun c_16 => ?_) (fun c_16 => ?_)
    · have hf := xb_t c_16 hf
      have hf := Option.some.inj hf
      cases hf
      exact x_vret (fun _ => 0) hQ hx hb hr hlk hK (hP.sub [1, 0, 5, 6, 2, 3, 4] rfl) (hD.sub [1, 0, 5, 6, 2, 3, 4] (by decide) rfl) hS dX5_extend_76
    · have hf := xb_f c_16 hf
      refine lv_aload_n hx hb dX5_extend_56 rfl (lv_at hl 1 rfl) ?_
      refine va_get (D := D) (ci := 5) (v := .int B_found_13) (C := RX5) (T := TX5) (N := 5) hx hb htg giX5 hown hK hP 5 rfl rfl 3 (by decide) (htg _ kw_186) (fun _ h9 => h9) rfl dX5_extend_57 ?_
      refine lv_iload hx hb dX5_extend_60 (lv_at hl 0 rfl) ?_
      refine lv_icmp_ne (tgt := 76) hx hb dX5_extend_62 (by decide) (fun c_17 => ?_) (fun c_17 => ?_)
      · have hf := xb_f c_17 hf
        have hf := Option.some.inj hf
        cases hf
        exact x_vret (fun _ => 0) hQ hx hb hr hlk hK (hP.sub [1, 0, 5, 6, 2, 3, 4] rfl) (hD.sub [1, 0, 5, 6, 2, 3, 4] (by decide) rfl) hS dX5_extend_76
      · have hf := xb_t c_17 hf
        refine lv_aload_n hx hb dX5_extend_65 rfl (lv_at hl 1 rfl) ?_
        refine lv_lload_n hx hb dX5_extend_66 rfl (lv_at hl 2 rfl) ?_
        refine lv_iload hx hb dX5_extend_67 (lv_at hl 4 rfl) ?_
        refine x_l (xrS (As := [.int x4]) (rest := [.long x1, .ref aB]) ⟨hx, hb, hml, hown, htg⟩ (c_f_Table_missing l D cI cJ cZ _ x4 rfl) kc_f_Table_missing kw_482 kw_483 kw_7 dd_f_Table_missing ⟨Nat.le_of_ble_eq_true rfl, Nat.le_of_ble_eq_true rfl⟩ rfl rfl (hP.sub [] rfl) (hD.sub [] (by decide) rfl) hK hN rfl hl.1 rfl (Nat.le_of_ble_eq_true rfl) dX5_extend_69 ⟨Nat.le_of_ble_eq_true rfl, Nat.le_of_ble_eq_true rfl⟩) hP hD hS hA [] [0, 1, 2, 3, 4, 5, 6] rfl rfl (by decide) (by decide) (fun _ H locs hP hD hS => ?_)
        have hP : va_P D vwCl [(aP_parent, .inl (cI, 8, .inl P_parent)), (aP, .inr (2, [.ref aP_slots, .ref aP_termsSeen, .ref aP_matches, .ref aP_matchCount, .ref aP_variables, .ref aP_havingVariable, .ref aP_told, .ref aP_parent, .ref aP_allBefore, .int P_required, .int P_hinted, .int P_count])), (aP_slots, .inl (cI, 24, .inl P_slots)), (aP_matchCount, .inl (cI, 8, .inl P_matchCount)), (aP_matches, .inl (cI, 640, .inl P_matches)), (aB, .inr (5, [.ref aB_rows, .ref aB_spare, .int B_count, .int B_found_13, .int B_crowded_14])), (aB_spare, .inl (cJ, 500, .inr (.inl B_spare_15)))] H := hP
        have hD : va_D A [(aP_parent, .inl (cI, 8, .inl P_parent)), (aP, .inr (2, [.ref aP_slots, .ref aP_termsSeen, .ref aP_matches, .ref aP_matchCount, .ref aP_variables, .ref aP_havingVariable, .ref aP_told, .ref aP_parent, .ref aP_allBefore, .int P_required, .int P_hinted, .int P_count])), (aP_slots, .inl (cI, 24, .inl P_slots)), (aP_matchCount, .inl (cI, 8, .inl P_matchCount)), (aP_matches, .inl (cI, 640, .inl P_matches)), (aB, .inr (5, [.ref aB_rows, .ref aB_spare, .int B_count, .int B_found_13, .int B_crowded_14])), (aB_spare, .inl (cJ, 500, .inr (.inl B_spare_15)))] := hD
        refine lv_lor hx hb dX5_extend_72 ?_
        obtain ⟨B_found_20, B_crowded_21, B_spare_22, hq_19, hf⟩ := bn3_c hf
        refine x_v (xrV (As := [.long (x1 ||| (f_Table_missing x4))]) (b := aB) (rest := []) ⟨hx, hb, hml, hown, htg⟩ (c_f_Table_put l D cI cJ cZ _ aB (x1 ||| (f_Table_missing x4)) aB_rows aB_spare B_count B_found_13 B_crowded_14 B_spare_15 hq_19) kc_f_Table_put kw_485 kw_487 kp_16 kw_7 dd_f_Table_put ⟨Nat.le_of_ble_eq_true rfl, Nat.le_of_ble_eq_true rfl⟩ rfl rfl (hP.sub [5, 6] rfl) (hD.sub [5, 6] (by decide) rfl) hK hN hP (q0 := 5) rfl rfl rfl hl.1 rfl (Nat.le_of_ble_eq_true rfl) dX5_extend_73 ⟨Nat.le_of_ble_eq_true rfl, Nat.le_of_ble_eq_true rfl⟩) hP hD hS hA [5, 6] [0, 1, 2, 3, 4] rfl rfl (by decide) (by decide) (fun _ H locs hP hD hS => ?_)
        have hP : va_P D vwCl [(aP_parent, .inl (cI, 8, .inl P_parent)), (aP, .inr (2, [.ref aP_slots, .ref aP_termsSeen, .ref aP_matches, .ref aP_matchCount, .ref aP_variables, .ref aP_havingVariable, .ref aP_told, .ref aP_parent, .ref aP_allBefore, .int P_required, .int P_hinted, .int P_count])), (aP_slots, .inl (cI, 24, .inl P_slots)), (aP_matchCount, .inl (cI, 8, .inl P_matchCount)), (aP_matches, .inl (cI, 640, .inl P_matches)), (aB, .inr (5, [.ref aB_rows, .ref aB_spare, .int B_count, .int B_found_20, .int B_crowded_21])), (aB_spare, .inl (cJ, 500, .inr (.inl B_spare_22)))] H := hP
        have hD : va_D A [(aP_parent, .inl (cI, 8, .inl P_parent)), (aP, .inr (2, [.ref aP_slots, .ref aP_termsSeen, .ref aP_matches, .ref aP_matchCount, .ref aP_variables, .ref aP_havingVariable, .ref aP_told, .ref aP_parent, .ref aP_allBefore, .int P_required, .int P_hinted, .int P_count])), (aP_slots, .inl (cI, 24, .inl P_slots)), (aP_matchCount, .inl (cI, 8, .inl P_matchCount)), (aP_matches, .inl (cI, 640, .inl P_matches)), (aB, .inr (5, [.ref aB_rows, .ref aB_spare, .int B_count, .int B_found_20, .int B_crowded_21])), (aB_spare, .inl (cJ, 500, .inr (.inl B_spare_22)))] := hD
        have hf := Option.some.inj hf
        cases hf
        exact x_vret (fun _ => 0) hQ hx hb hr hlk hK (hP.sub [1, 0, 5, 6, 2, 3, 4] rfl) (hD.sub [1, 0, 5, 6, 2, 3, 4] (by decide) rfl) hS dX5_extend_76
  have hf := ho_11
  refine lv_icmp_eq (tgt := 36) hx hb dX5_extend_12 (by decide) (fun c_3 => ?_) (fun c_3 => ?_)
  · have hf := xb_t c_3 hf
    exact J_36_11  hf _ _ hP hD hS _ (lv_sub hl [1, 2, 3, 4, 0] rfl)
  · have hf := xb_f c_3 hf
    refine lv_lload_n hx hb dX5_extend_15 rfl (lv_at hl 2 rfl) ?_
    refine lv_iload hx hb dX5_extend_16 (lv_at hl 0 rfl) ?_
    refine x_z (xrS (As := [.long x1, .int x5_2]) (rest := []) ⟨hx, hb, hml, hown, htg⟩ (c_f_Table_missed l D cI cJ cZ _ x1 x5_2 rfl) kc_f_Table_missed kw_479 kw_480 kw_7 dd_f_Table_missed ⟨Nat.le_of_ble_eq_true rfl, Nat.le_of_ble_eq_true rfl⟩ rfl rfl (hP.sub [] rfl) (hD.sub [] (by decide) rfl) hK hN rfl hl.1 rfl (Nat.le_of_ble_eq_true rfl) dX5_extend_18 ⟨Nat.le_of_ble_eq_true rfl, Nat.le_of_ble_eq_true rfl⟩) hP hD hS hA [] [0, 1, 2, 3, 4, 5, 6] rfl rfl (by decide) (by decide) (fun _ H locs bz_23 hP hD hS => ?_)
    have hP : va_P D vwCl [(aP, .inr (2, [.ref aP_slots, .ref aP_termsSeen, .ref aP_matches, .ref aP_matchCount, .ref aP_variables, .ref aP_havingVariable, .ref aP_told, .ref aP_parent, .ref aP_allBefore, .int P_required, .int P_hinted, .int P_count])), (aP_parent, .inl (cI, 8, .inl P_parent)), (aB, .inr (5, [.ref aB_rows, .ref aB_spare, .int B_count, .int B_found, .int B_crowded])), (aB_spare, .inl (cJ, 500, .inr (.inl B_spare))), (aP_slots, .inl (cI, 24, .inl P_slots)), (aP_matchCount, .inl (cI, 8, .inl P_matchCount)), (aP_matches, .inl (cI, 640, .inl P_matches))] H := hP
    have hD : va_D A [(aP, .inr (2, [.ref aP_slots, .ref aP_termsSeen, .ref aP_matches, .ref aP_matchCount, .ref aP_variables, .ref aP_havingVariable, .ref aP_told, .ref aP_parent, .ref aP_allBefore, .int P_required, .int P_hinted, .int P_count])), (aP_parent, .inl (cI, 8, .inl P_parent)), (aB, .inr (5, [.ref aB_rows, .ref aB_spare, .int B_count, .int B_found, .int B_crowded])), (aB_spare, .inl (cJ, 500, .inr (.inl B_spare))), (aP_slots, .inl (cI, 24, .inl P_slots)), (aP_matchCount, .inl (cI, 8, .inl P_matchCount)), (aP_matches, .inl (cI, 640, .inl P_matches))] := hD
    refine lv_if_eq (tgt := 36) hx hb dX5_extend_21 (by decide) (fun c_24 => ?_) (fun c_24 => ?_)
    · have hf := xb_t c_24 hf
      exact J_36_11  hf _ _ hP hD hS _ (lv_sub hl [1, 2, 3, 4, 0] rfl)
    · have hf := xb_f c_24 hf
      refine lv_aload_n hx hb dX5_extend_24 rfl (lv_at hl 1 rfl) ?_
      refine lv_lload_n hx hb dX5_extend_25 rfl (lv_at hl 2 rfl) ?_
      refine lv_iload hx hb dX5_extend_26 (lv_at hl 4 rfl) ?_
      refine x_l (xrS (As := [.int x4]) (rest := [.long x1, .ref aB]) ⟨hx, hb, hml, hown, htg⟩ (c_f_Table_missing l D cI cJ cZ _ x4 rfl) kc_f_Table_missing kw_482 kw_483 kw_7 dd_f_Table_missing ⟨Nat.le_of_ble_eq_true rfl, Nat.le_of_ble_eq_true rfl⟩ rfl rfl (hP.sub [] rfl) (hD.sub [] (by decide) rfl) hK hN rfl hl.1 rfl (Nat.le_of_ble_eq_true rfl) dX5_extend_28 ⟨Nat.le_of_ble_eq_true rfl, Nat.le_of_ble_eq_true rfl⟩) hP hD hS hA [] [0, 1, 2, 3, 4, 5, 6] rfl rfl (by decide) (by decide) (fun _ H locs hP hD hS => ?_)
      have hP : va_P D vwCl [(aP, .inr (2, [.ref aP_slots, .ref aP_termsSeen, .ref aP_matches, .ref aP_matchCount, .ref aP_variables, .ref aP_havingVariable, .ref aP_told, .ref aP_parent, .ref aP_allBefore, .int P_required, .int P_hinted, .int P_count])), (aP_parent, .inl (cI, 8, .inl P_parent)), (aB, .inr (5, [.ref aB_rows, .ref aB_spare, .int B_count, .int B_found, .int B_crowded])), (aB_spare, .inl (cJ, 500, .inr (.inl B_spare))), (aP_slots, .inl (cI, 24, .inl P_slots)), (aP_matchCount, .inl (cI, 8, .inl P_matchCount)), (aP_matches, .inl (cI, 640, .inl P_matches))] H := hP
      have hD : va_D A [(aP, .inr (2, [.ref aP_slots, .ref aP_termsSeen, .ref aP_matches, .ref aP_matchCount, .ref aP_variables, .ref aP_havingVariable, .ref aP_told, .ref aP_parent, .ref aP_allBefore, .int P_required, .int P_hinted, .int P_count])), (aP_parent, .inl (cI, 8, .inl P_parent)), (aB, .inr (5, [.ref aB_rows, .ref aB_spare, .int B_count, .int B_found, .int B_crowded])), (aB_spare, .inl (cJ, 500, .inr (.inl B_spare))), (aP_slots, .inl (cI, 24, .inl P_slots)), (aP_matchCount, .inl (cI, 8, .inl P_matchCount)), (aP_matches, .inl (cI, 640, .inl P_matches))] := hD
      refine lv_lor hx hb dX5_extend_31 ?_
      obtain ⟨B_found_27, B_crowded_28, B_spare_29, hq_26, hf⟩ := bn3_c hf
      refine x_v (xrV (As := [.long (x1 ||| (f_Table_missing x4))]) (b := aB) (rest := []) ⟨hx, hb, hml, hown, htg⟩ (c_f_Table_put l D cI cJ cZ _ aB (x1 ||| (f_Table_missing x4)) aB_rows aB_spare B_count B_found B_crowded B_spare hq_26) kc_f_Table_put kw_485 kw_487 kp_16 kw_7 dd_f_Table_put ⟨Nat.le_of_ble_eq_true rfl, Nat.le_of_ble_eq_true rfl⟩ rfl rfl (hP.sub [2, 3] rfl) (hD.sub [2, 3] (by decide) rfl) hK hN hP (q0 := 2) rfl rfl rfl hl.1 rfl (Nat.le_of_ble_eq_true rfl) dX5_extend_32 ⟨Nat.le_of_ble_eq_true rfl, Nat.le_of_ble_eq_true rfl⟩) hP hD hS hA [2, 3] [0, 1, 4, 5, 6] rfl rfl (by decide) (by decide) (fun _ H locs hP hD hS => ?_)
      have hP : va_P D vwCl [(aP, .inr (2, [.ref aP_slots, .ref aP_termsSeen, .ref aP_matches, .ref aP_matchCount, .ref aP_variables, .ref aP_havingVariable, .ref aP_told, .ref aP_parent, .ref aP_allBefore, .int P_required, .int P_hinted, .int P_count])), (aP_parent, .inl (cI, 8, .inl P_parent)), (aP_slots, .inl (cI, 24, .inl P_slots)), (aP_matchCount, .inl (cI, 8, .inl P_matchCount)), (aP_matches, .inl (cI, 640, .inl P_matches)), (aB, .inr (5, [.ref aB_rows, .ref aB_spare, .int B_count, .int B_found_27, .int B_crowded_28])), (aB_spare, .inl (cJ, 500, .inr (.inl B_spare_29)))] H := hP
      have hD : va_D A [(aP, .inr (2, [.ref aP_slots, .ref aP_termsSeen, .ref aP_matches, .ref aP_matchCount, .ref aP_variables, .ref aP_havingVariable, .ref aP_told, .ref aP_parent, .ref aP_allBefore, .int P_required, .int P_hinted, .int P_count])), (aP_parent, .inl (cI, 8, .inl P_parent)), (aP_slots, .inl (cI, 24, .inl P_slots)), (aP_matchCount, .inl (cI, 8, .inl P_matchCount)), (aP_matches, .inl (cI, 640, .inl P_matches)), (aB, .inr (5, [.ref aB_rows, .ref aB_spare, .int B_count, .int B_found_27, .int B_crowded_28])), (aB_spare, .inl (cJ, 500, .inr (.inl B_spare_29)))] := hD
      have hf := congrArg some (hret_11 _ hf)
      have hf := Option.some.inj hf
      cases hf
      exact x_vret (fun _ => 0) hQ hx hb hr hlk hK (hP.sub [0, 1, 5, 6, 2, 3, 4] rfl) (hD.sub [0, 1, 5, 6, 2, 3, 4] (by decide) rfl) hS dX5_extend_35
abbrev rm_f_Table_join : Room := { frames := 4, cells := 0, slots := 0, locals := 103 }
set_option maxHeartbeats 4000000 in
set_option maxRecDepth 100000 in
theorem c_f_Table_join (l : Launch) (D : va_G) (cI cJ cZ : ClassId) (sz : Nat) (n : Nat) (aB : Nat) (aP : Nat) (x2 : Int32) (aB_rows : Nat) (aB_spare : Nat) (B_count : Int32) (B_found : Int32) (B_crowded : Int32) (B_rows : Nat → Int64) (aP_slots : Nat) (aP_termsSeen : Nat) (aP_matches : Nat) (aP_matchCount : Nat) (aP_variables : Nat) (aP_havingVariable : Nat) (aP_told : Nat) (aP_parent : Nat) (aP_allBefore : Nat) (P_required : Int32) (P_hinted : Int32) (P_count : Int32) (P_parent : Nat → Int32) (B_spare : Nat → Int64) (P_slots : Nat → Int32) (P_matchCount : Nat → Int32) (P_matches : Nat → Int32) {aB_rows' : Nat} {aB_spare' : Nat} {B_count' : Int32} {B_found' : Int32} {B_crowded' : Int32} {B_rows' : Nat → Int64} {B_spare' : Nat → Int64} (hf : f_Table_join n x2 aB_rows aB_spare B_count B_crowded B_rows P_parent B_spare P_slots P_matchCount P_matches = some (aB_rows', aB_spare', B_count', B_found', B_crowded', B_rows', B_spare')) : Met l yX5_join (.code yX5_join cX5_join 4 none :: GW) rm_f_Table_join (va_Pc [.ref aB, .ref aP, .int x2] (xP D (xT cI cJ cZ) sz [(aB, .inr (5, [.ref aB_rows, .ref aB_spare, .int B_count, .int B_found, .int B_crowded])), (aB_rows, .inl (cJ, 500, .inr (.inl B_rows))), (aP, .inr (2, [.ref aP_slots, .ref aP_termsSeen, .ref aP_matches, .ref aP_matchCount, .ref aP_variables, .ref aP_havingVariable, .ref aP_told, .ref aP_parent, .ref aP_allBefore, .int P_required, .int P_hinted, .int P_count])), (aP_parent, .inl (cI, 8, .inl P_parent)), (aB_spare, .inl (cJ, 500, .inr (.inl B_spare))), (aP_slots, .inl (cI, 24, .inl P_slots)), (aP_matchCount, .inl (cI, 8, .inl P_matchCount)), (aP_matches, .inl (cI, 640, .inl P_matches))])) (va_Qv (fun (_ : Nat → Nat) => True) (bB D (xT cI cJ cZ) (fun _ => [(aB, .inr (5, [.ref aB_rows', .ref aB_spare', .int B_count', .int B_found', .int B_crowded'])), (aB_rows', .inl (cJ, 500, .inr (.inl B_rows'))), (aP, .inr (2, [.ref aP_slots, .ref aP_termsSeen, .ref aP_matches, .ref aP_matchCount, .ref aP_variables, .ref aP_havingVariable, .ref aP_told, .ref aP_parent, .ref aP_allBefore, .int P_required, .int P_hinted, .int P_count])), (aP_parent, .inl (cI, 8, .inl P_parent)), (aB_spare', .inl (cJ, 500, .inr (.inl B_spare'))), (aP_slots, .inl (cI, 24, .inl P_slots)), (aP_matchCount, .inl (cI, 8, .inl P_matchCount)), (aP_matches, .inl (cI, 640, .inl P_matches))]) (va_A [(aB, .inr (5, [.ref aB_rows, .ref aB_spare, .int B_count, .int B_found, .int B_crowded])), (aB_rows, .inl (cJ, 500, .inr (.inl B_rows))), (aP, .inr (2, [.ref aP_slots, .ref aP_termsSeen, .ref aP_matches, .ref aP_matchCount, .ref aP_variables, .ref aP_havingVariable, .ref aP_told, .ref aP_parent, .ref aP_allBefore, .int P_required, .int P_hinted, .int P_count])), (aP_parent, .inl (cI, 8, .inl P_parent)), (aB_spare, .inl (cJ, 500, .inr (.inl B_spare))), (aP_slots, .inl (cI, 24, .inl P_slots)), (aP_matchCount, .inl (cI, 8, .inl P_matchCount)), (aP_matches, .inl (cI, 640, .inl P_matches))] sz)) (va_A [(aB, .inr (5, [.ref aB_rows, .ref aB_spare, .int B_count, .int B_found, .int B_crowded])), (aB_rows, .inl (cJ, 500, .inr (.inl B_rows))), (aP, .inr (2, [.ref aP_slots, .ref aP_termsSeen, .ref aP_matches, .ref aP_matchCount, .ref aP_variables, .ref aP_havingVariable, .ref aP_told, .ref aP_parent, .ref aP_allBefore, .int P_required, .int P_hinted, .int P_count])), (aP_parent, .inl (cI, 8, .inl P_parent)), (aB_spare, .inl (cJ, 500, .inr (.inl B_spare))), (aP_slots, .inl (cI, 24, .inl P_slots)), (aP_matchCount, .inl (cI, 8, .inl P_matchCount)), (aP_matches, .inl (cI, 640, .inl P_matches))] sz)) 0 0 (va_A [(aB, .inr (5, [.ref aB_rows, .ref aB_spare, .int B_count, .int B_found, .int B_crowded])), (aB_rows, .inl (cJ, 500, .inr (.inl B_rows))), (aP, .inr (2, [.ref aP_slots, .ref aP_termsSeen, .ref aP_matches, .ref aP_matchCount, .ref aP_variables, .ref aP_havingVariable, .ref aP_told, .ref aP_parent, .ref aP_allBefore, .int P_required, .int P_hinted, .int P_count])), (aP_parent, .inl (cI, 8, .inl P_parent)), (aB_spare, .inl (cJ, 500, .inr (.inl B_spare))), (aP_slots, .inl (cI, 24, .inl P_slots)), (aP_matchCount, .inl (cI, 8, .inl P_matchCount)), (aP_matches, .inl (cI, 640, .inl P_matches))] sz) := by
  refine con_start (Qc := fun A => va_Qv (fun (_ : Nat → Nat) => True) (bB D (xT cI cJ cZ) (fun _ => [(aB, .inr (5, [.ref aB_rows', .ref aB_spare', .int B_count', .int B_found', .int B_crowded'])), (aB_rows', .inl (cJ, 500, .inr (.inl B_rows'))), (aP, .inr (2, [.ref aP_slots, .ref aP_termsSeen, .ref aP_matches, .ref aP_matchCount, .ref aP_variables, .ref aP_havingVariable, .ref aP_told, .ref aP_parent, .ref aP_allBefore, .int P_required, .int P_hinted, .int P_count])), (aP_parent, .inl (cI, 8, .inl P_parent)), (aB_spare', .inl (cJ, 500, .inr (.inl B_spare'))), (aP_slots, .inl (cI, 24, .inl P_slots)), (aP_matchCount, .inl (cI, 8, .inl P_matchCount)), (aP_matches, .inl (cI, 640, .inl P_matches))]) A) A) (by decide) (Nat.le_of_ble_eq_true rfl) ?_
  intro p e s m args below meth c Q A hx hb hr hlk hml hown hin htg hN hK hQ hA hP hD hS ls hl
  have hl : lv_has ls 4 [(0, .ref aB), (1, .ref aP), (2, .int x2)] := hl
  have hown : s.vm.findClass RX5 = some m.cls := hown
  have hf := (f_Table_join_u n x2 aB_rows aB_spare B_count B_crowded B_rows P_parent B_spare P_slots P_matchCount P_matches).symm.trans hf
  refine lv_aload_n hx hb dX5_join_0 rfl (lv_at hl 0 rfl) ?_
  refine lv_iconst (v := (0 : Int32)) hx hb dX5_join_1 (by decide) ?_
  refine va_put (D := D) (ci := 5) (v := .int (0 : Int32)) (ty := .int) (C := RX5) (T := TX5) (N := 5) hx hb htg giX5 tyX5 tyX5_ok nmX5 hown hK hP hD hS 0 rfl rfl 3 (by decide) (htg _ kw_186) (fun _ h9 => h9) rfl (by decide +kernel) rfl rfl (Nat.le_of_ble_eq_true rfl) dX5_join_2 (fun H locs hP hD hS => ?_)
  have hP : va_P D vwCl [(aB, .inr (5, [.ref aB_rows, .ref aB_spare, .int B_count, .int (0 : Int32), .int B_crowded])), (aB_rows, .inl (cJ, 500, .inr (.inl B_rows))), (aP, .inr (2, [.ref aP_slots, .ref aP_termsSeen, .ref aP_matches, .ref aP_matchCount, .ref aP_variables, .ref aP_havingVariable, .ref aP_told, .ref aP_parent, .ref aP_allBefore, .int P_required, .int P_hinted, .int P_count])), (aP_parent, .inl (cI, 8, .inl P_parent)), (aB_spare, .inl (cJ, 500, .inr (.inl B_spare))), (aP_slots, .inl (cI, 24, .inl P_slots)), (aP_matchCount, .inl (cI, 8, .inl P_matchCount)), (aP_matches, .inl (cI, 640, .inl P_matches))] H := hP
  have hD : va_D A [(aB, .inr (5, [.ref aB_rows, .ref aB_spare, .int B_count, .int (0 : Int32), .int B_crowded])), (aB_rows, .inl (cJ, 500, .inr (.inl B_rows))), (aP, .inr (2, [.ref aP_slots, .ref aP_termsSeen, .ref aP_matches, .ref aP_matchCount, .ref aP_variables, .ref aP_havingVariable, .ref aP_told, .ref aP_parent, .ref aP_allBefore, .int P_required, .int P_hinted, .int P_count])), (aP_parent, .inl (cI, 8, .inl P_parent)), (aB_spare, .inl (cJ, 500, .inr (.inl B_spare))), (aP_slots, .inl (cI, 24, .inl P_slots)), (aP_matchCount, .inl (cI, 8, .inl P_matchCount)), (aP_matches, .inl (cI, 640, .inl P_matches))] := hD
  refine lv_iconst (v := (0 : Int32)) hx hb dX5_join_5 (by decide) ?_
  refine lv_istore_n (lv' := [(3, .int (0 : Int32)), (0, .ref aB), (1, .ref aP), (2, .int x2)]) hx hb dX5_join_6 rfl hl (by decide) rfl (fun ls hl => ?_)
  have L_7_20 : ∀ (k : Nat) (B_found_21 : Int32) (B_crowded_22 : Int32) (B_spare_23 : Nat → Int64) (x3_24 : Int32) (o_20 : (Int32 × Int32 × (Nat → Int64))), f_Table_join_L0 n x2 B_count B_rows P_parent P_slots P_matchCount P_matches k B_found_21 B_crowded_22 B_spare_23 x3_24 = some o_20 → ∀ (H : Heap) (locs : List Loc), va_P D vwCl [(aB, .inr (5, [.ref aB_rows, .ref aB_spare, .int B_count, .int B_found_21, .int B_crowded_22])), (aB_rows, .inl (cJ, 500, .inr (.inl B_rows))), (aP, .inr (2, [.ref aP_slots, .ref aP_termsSeen, .ref aP_matches, .ref aP_matchCount, .ref aP_variables, .ref aP_havingVariable, .ref aP_told, .ref aP_parent, .ref aP_allBefore, .int P_required, .int P_hinted, .int P_count])), (aP_parent, .inl (cI, 8, .inl P_parent)), (aB_spare, .inl (cJ, 500, .inr (.inl B_spare_23))), (aP_slots, .inl (cI, 24, .inl P_slots)), (aP_matchCount, .inl (cI, 8, .inl P_matchCount)), (aP_matches, .inl (cI, 640, .inl P_matches))] H → va_D A [(aB, .inr (5, [.ref aB_rows, .ref aB_spare, .int B_count, .int B_found_21, .int B_crowded_22])), (aB_rows, .inl (cJ, 500, .inr (.inl B_rows))), (aP, .inr (2, [.ref aP_slots, .ref aP_termsSeen, .ref aP_matches, .ref aP_matchCount, .ref aP_variables, .ref aP_havingVariable, .ref aP_told, .ref aP_parent, .ref aP_allBefore, .int P_required, .int P_hinted, .int P_count])), (aP_parent, .inl (cI, 8, .inl P_parent)), (aB_spare, .inl (cJ, 500, .inr (.inl B_spare_23))), (aP_slots, .inl (cI, 24, .inl P_slots)), (aP_matchCount, .inl (cI, 8, .inl P_matchCount)), (aP_matches, .inl (cI, 640, .inl P_matches))] → va_S A s.heap H locs → ∀ ls : Array Slot, lv_has ls 4 [(0, .ref aB), (1, .ref aP), (2, .int x2), (3, .int x3_24)] → (∀ (B_found_25 : Int32) (B_crowded_26 : Int32) (B_spare_27 : Nat → Int64), some ((B_found_25, B_crowded_26, B_spare_27)) = some o_20 → ∀ (H : Heap) (locs : List Loc), va_P D vwCl [(aB, .inr (5, [.ref aB_rows, .ref aB_spare, .int B_count, .int B_found_25, .int B_crowded_26])), (aB_rows, .inl (cJ, 500, .inr (.inl B_rows))), (aP, .inr (2, [.ref aP_slots, .ref aP_termsSeen, .ref aP_matches, .ref aP_matchCount, .ref aP_variables, .ref aP_havingVariable, .ref aP_told, .ref aP_parent, .ref aP_allBefore, .int P_required, .int P_hinted, .int P_count])), (aP_parent, .inl (cI, 8, .inl P_parent)), (aB_spare, .inl (cJ, 500, .inr (.inl B_spare_27))), (aP_slots, .inl (cI, 24, .inl P_slots)), (aP_matchCount, .inl (cI, 8, .inl P_matchCount)), (aP_matches, .inl (cI, 640, .inl P_matches))] H → va_D A [(aB, .inr (5, [.ref aB_rows, .ref aB_spare, .int B_count, .int B_found_25, .int B_crowded_26])), (aB_rows, .inl (cJ, 500, .inr (.inl B_rows))), (aP, .inr (2, [.ref aP_slots, .ref aP_termsSeen, .ref aP_matches, .ref aP_matchCount, .ref aP_variables, .ref aP_havingVariable, .ref aP_told, .ref aP_parent, .ref aP_allBefore, .int P_required, .int P_hinted, .int P_count])), (aP_parent, .inl (cI, 8, .inl P_parent)), (aB_spare, .inl (cJ, 500, .inr (.inl B_spare_27))), (aP_slots, .inl (cI, 24, .inl P_slots)), (aP_matchCount, .inl (cI, 8, .inl P_matchCount)), (aP_matches, .inl (cI, 640, .inl P_matches))] → va_S A s.heap H locs → ∀ ls : Array Slot, lv_has ls 4 [(0, .ref aB)] → W p l e rm_f_Table_join s m args below meth c H locs 0 0 Q (F0 m 40 ls [])) → W p l e rm_f_Table_join s m args below meth c H locs 0 0 Q (F0 m 7 ls []) := by
    intro k
    induction k with
    | zero =>
      intro B_found_21 B_crowded_22 B_spare_23 x3_24 o_20 hf
      exact absurd (((f_Table_join_L0_z n x2 B_count B_rows P_parent P_slots P_matchCount P_matches B_found_21 B_crowded_22 B_spare_23 x3_24).symm.trans hf)) (fun h => by cases h)
    | succ k ih =>
      intro B_found_21 B_crowded_22 B_spare_23 x3_24 o_20 hf H locs hP hD hS ls hl hX_20
      have hf := (f_Table_join_L0_s n x2 B_count B_rows P_parent P_slots P_matchCount P_matches k B_found_21 B_crowded_22 B_spare_23 x3_24).symm.trans hf
      refine lv_iload_n hx hb dX5_join_7 rfl (lv_at hl 3 rfl) ?_
      refine lv_aload_n hx hb dX5_join_8 rfl (lv_at hl 0 rfl) ?_
      refine va_get (D := D) (ci := 5) (v := .int B_count) (C := RX5) (T := TX5) (N := 5) hx hb htg giX5 hown hK hP 0 rfl rfl 2 (by decide) (htg _ kw_184) (fun _ h9 => h9) rfl dX5_join_9 ?_
      refine lv_icmp_ge (tgt := 40) hx hb dX5_join_12 (by decide) (fun c_28 => ?_) (fun c_28 => ?_)
      · have hf := xb_t c_28 hf
        exact hX_20 B_found_21 B_crowded_22 B_spare_23 hf _ _ hP hD hS _ (lv_sub hl [0] rfl)
      · have hf := xb_f c_28 hf
        refine lv_aload_n hx hb dX5_join_15 rfl (lv_at hl 0 rfl) ?_
        refine va_get (D := D) (ci := 5) (v := .int B_crowded_22) (C := RX5) (T := TX5) (N := 5) hx hb htg giX5 hown hK hP 0 rfl rfl 4 (by decide) (htg _ kw_187) (fun _ h9 => h9) rfl dX5_join_16 ?_
        refine lv_if_ne (tgt := 40) hx hb dX5_join_19 (by decide) (fun c_29 => ?_) (fun c_29 => ?_)
        · have hf := xb_f c_29 hf
          exact hX_20 B_found_21 B_crowded_22 B_spare_23 hf _ _ hP hD hS _ (lv_sub hl [0] rfl)
        · have hf := xb_t c_29 hf
          refine lv_aload_n hx hb dX5_join_22 rfl (lv_at hl 0 rfl) ?_
          refine lv_aload_n hx hb dX5_join_23 rfl (lv_at hl 0 rfl) ?_
          refine va_get (D := D) (ci := 5) (v := .ref aB_rows) (C := RX5) (T := TX5) (N := 5) hx hb htg giX5 hown hK hP 0 rfl rfl 0 (by decide) (htg _ kw_181) (fun _ h9 => h9) rfl dX5_join_24 ?_
          refine lv_iload_n hx hb dX5_join_27 rfl (lv_at hl 3 rfl) ?_
          have g_30 : vp_in x3_24 500 := gd_in hf
          have hf := gd_el hf
          refine va_lald hx hb hK hP 1 1 rfl rfl g_30 dX5_join_28 ?_
          refine lv_aload_n hx hb dX5_join_29 rfl (lv_at hl 1 rfl) ?_
          refine lv_iload_n hx hb dX5_join_30 rfl (lv_at hl 2 rfl) ?_
          obtain ⟨B_found_32, B_crowded_33, B_spare_34, hq_31, hf⟩ := bn3_c hf
          refine x_v (xrV (As := [.long (B_rows x3_24.toNatClampNeg), .ref aP, .int x2]) (b := aB) (rest := []) ⟨hx, hb, hml, hown, htg⟩ (c_f_Table_extend l D cI cJ cZ _ n aB (B_rows x3_24.toNatClampNeg) aP x2 aP_slots aP_termsSeen aP_matches aP_matchCount aP_variables aP_havingVariable aP_told aP_parent aP_allBefore P_required P_hinted P_count P_parent aB_rows aB_spare B_count B_found_21 B_crowded_22 B_spare_23 P_slots P_matchCount P_matches hq_31) kc_f_Table_extend kw_475 kw_477 kp_15 kw_7 dd_f_Table_extend ⟨Nat.le_of_ble_eq_true rfl, Nat.le_of_ble_eq_true rfl⟩ rfl rfl (hP.sub [2, 3, 0, 4, 5, 6, 7] rfl) (hD.sub [2, 3, 0, 4, 5, 6, 7] (by decide) rfl) hK hN hP (q0 := 0) rfl rfl rfl hl.1 rfl (Nat.le_of_ble_eq_true rfl) dX5_join_31 ⟨Nat.le_of_ble_eq_true rfl, Nat.le_of_ble_eq_true rfl⟩) hP hD hS hA [2, 3, 0, 4, 5, 6, 7] [1] rfl rfl (by decide) (by decide) (fun _ H locs hP hD hS => ?_)
          have hP : va_P D vwCl [(aB_rows, .inl (cJ, 500, .inr (.inl B_rows))), (aP, .inr (2, [.ref aP_slots, .ref aP_termsSeen, .ref aP_matches, .ref aP_matchCount, .ref aP_variables, .ref aP_havingVariable, .ref aP_told, .ref aP_parent, .ref aP_allBefore, .int P_required, .int P_hinted, .int P_count])), (aP_parent, .inl (cI, 8, .inl P_parent)), (aB, .inr (5, [.ref aB_rows, .ref aB_spare, .int B_count, .int B_found_32, .int B_crowded_33])), (aB_spare, .inl (cJ, 500, .inr (.inl B_spare_34))), (aP_slots, .inl (cI, 24, .inl P_slots)), (aP_matchCount, .inl (cI, 8, .inl P_matchCount)), (aP_matches, .inl (cI, 640, .inl P_matches))] H := hP
          have hD : va_D A [(aB_rows, .inl (cJ, 500, .inr (.inl B_rows))), (aP, .inr (2, [.ref aP_slots, .ref aP_termsSeen, .ref aP_matches, .ref aP_matchCount, .ref aP_variables, .ref aP_havingVariable, .ref aP_told, .ref aP_parent, .ref aP_allBefore, .int P_required, .int P_hinted, .int P_count])), (aP_parent, .inl (cI, 8, .inl P_parent)), (aB, .inr (5, [.ref aB_rows, .ref aB_spare, .int B_count, .int B_found_32, .int B_crowded_33])), (aB_spare, .inl (cJ, 500, .inr (.inl B_spare_34))), (aP_slots, .inl (cI, 24, .inl P_slots)), (aP_matchCount, .inl (cI, 8, .inl P_matchCount)), (aP_matches, .inl (cI, 640, .inl P_matches))] := hD
          obtain ⟨x3_35, ex3_35⟩ : ∃ y : Int32, y = x3_24 + (1 : Int32) := ⟨_, rfl⟩
          have hf := nm_nm ex3_35 hf
          refine lv_iinc (v := x3_35) (lv' := [(3, .int x3_35), (0, .ref aB), (1, .ref aP), (2, .int x2)]) hx hb dX5_join_34 hl (k := 3) rfl (by rw [ex3_35]; rfl) (by decide) rfl (fun ls hl => ?_)
          refine lv_goto (tgt := 7) hx hb dX5_join_37 (by decide) ?_
          exact ih B_found_32 B_crowded_33 B_spare_34 x3_35 o_20 hf _ _ (hP.sub [3, 0, 1, 2, 4, 5, 6, 7] rfl) (hD.sub [3, 0, 1, 2, 4, 5, 6, 7] (by decide) rfl) hS _ (lv_sub hl [1, 2, 3, 0] rfl) hX_20
  obtain ⟨o_20, ho_20, hk_20⟩ := bn3_s hf
  refine L_7_20 n (0 : Int32) B_crowded B_spare (0 : Int32) o_20 ho_20 _ _ hP hD hS _ (lv_sub hl [1, 2, 3, 0] rfl) (fun B_found_25 B_crowded_26 B_spare_27 hf H locs hP hD hS ls hl => ?_)
  have hf := hk_20 _ _ _ hf
  refine lv_aload_n hx hb dX5_join_40 rfl (lv_at hl 0 rfl) ?_
  refine va_get (D := D) (ci := 5) (v := .ref aB_rows) (C := RX5) (T := TX5) (N := 5) hx hb htg giX5 hown hK hP 0 rfl rfl 0 (by decide) (htg _ kw_181) (fun _ h9 => h9) rfl dX5_join_41 ?_
  refine lv_astore_n (lv' := [(3, .ref aB_rows), (0, .ref aB)]) hx hb dX5_join_44 rfl hl (by decide) rfl (fun ls hl => ?_)
  refine lv_aload_n hx hb dX5_join_45 rfl (lv_at hl 1 rfl) ?_
  refine lv_aload_n hx hb dX5_join_46 rfl (lv_at hl 1 rfl) ?_
  refine va_get (D := D) (ci := 5) (v := .ref aB_spare) (C := RX5) (T := TX5) (N := 5) hx hb htg giX5 hown hK hP 0 rfl rfl 1 (by decide) (htg _ kw_183) (fun _ h9 => h9) rfl dX5_join_47 ?_
  refine va_put (D := D) (ci := 5) (v := .ref aB_spare) (ty := (.array .long)) (C := RX5) (T := TX5) (N := 5) hx hb htg giX5 tyX5 tyX5_ok nmX5 hown hK hP hD hS 0 rfl rfl 0 (by decide) (htg _ kw_181) (fun _ h9 => h9) rfl (by decide +kernel) rfl rfl (Nat.le_of_ble_eq_true rfl) dX5_join_50 (fun H locs hP hD hS => ?_)
  have hP : va_P D vwCl [(aB, .inr (5, [.ref aB_spare, .ref aB_spare, .int B_count, .int B_found_25, .int B_crowded_26])), (aB_rows, .inl (cJ, 500, .inr (.inl B_rows))), (aP, .inr (2, [.ref aP_slots, .ref aP_termsSeen, .ref aP_matches, .ref aP_matchCount, .ref aP_variables, .ref aP_havingVariable, .ref aP_told, .ref aP_parent, .ref aP_allBefore, .int P_required, .int P_hinted, .int P_count])), (aP_parent, .inl (cI, 8, .inl P_parent)), (aB_spare, .inl (cJ, 500, .inr (.inl B_spare_27))), (aP_slots, .inl (cI, 24, .inl P_slots)), (aP_matchCount, .inl (cI, 8, .inl P_matchCount)), (aP_matches, .inl (cI, 640, .inl P_matches))] H := hP
  have hD : va_D A [(aB, .inr (5, [.ref aB_spare, .ref aB_spare, .int B_count, .int B_found_25, .int B_crowded_26])), (aB_rows, .inl (cJ, 500, .inr (.inl B_rows))), (aP, .inr (2, [.ref aP_slots, .ref aP_termsSeen, .ref aP_matches, .ref aP_matchCount, .ref aP_variables, .ref aP_havingVariable, .ref aP_told, .ref aP_parent, .ref aP_allBefore, .int P_required, .int P_hinted, .int P_count])), (aP_parent, .inl (cI, 8, .inl P_parent)), (aB_spare, .inl (cJ, 500, .inr (.inl B_spare_27))), (aP_slots, .inl (cI, 24, .inl P_slots)), (aP_matchCount, .inl (cI, 8, .inl P_matchCount)), (aP_matches, .inl (cI, 640, .inl P_matches))] := hD
  refine lv_aload_n hx hb dX5_join_53 rfl (lv_at hl 1 rfl) ?_
  refine lv_aload_n hx hb dX5_join_54 rfl (lv_at hl 0 rfl) ?_
  refine va_put (D := D) (ci := 5) (v := .ref aB_rows) (ty := (.array .long)) (C := RX5) (T := TX5) (N := 5) hx hb htg giX5 tyX5 tyX5_ok nmX5 hown hK hP hD hS 0 rfl rfl 1 (by decide) (htg _ kw_183) (fun _ h9 => h9) rfl (by decide +kernel) rfl rfl (Nat.le_of_ble_eq_true rfl) dX5_join_55 (fun H locs hP hD hS => ?_)
  have hP : va_P D vwCl [(aB, .inr (5, [.ref aB_spare, .ref aB_rows, .int B_count, .int B_found_25, .int B_crowded_26])), (aB_rows, .inl (cJ, 500, .inr (.inl B_rows))), (aP, .inr (2, [.ref aP_slots, .ref aP_termsSeen, .ref aP_matches, .ref aP_matchCount, .ref aP_variables, .ref aP_havingVariable, .ref aP_told, .ref aP_parent, .ref aP_allBefore, .int P_required, .int P_hinted, .int P_count])), (aP_parent, .inl (cI, 8, .inl P_parent)), (aB_spare, .inl (cJ, 500, .inr (.inl B_spare_27))), (aP_slots, .inl (cI, 24, .inl P_slots)), (aP_matchCount, .inl (cI, 8, .inl P_matchCount)), (aP_matches, .inl (cI, 640, .inl P_matches))] H := hP
  have hD : va_D A [(aB, .inr (5, [.ref aB_spare, .ref aB_rows, .int B_count, .int B_found_25, .int B_crowded_26])), (aB_rows, .inl (cJ, 500, .inr (.inl B_rows))), (aP, .inr (2, [.ref aP_slots, .ref aP_termsSeen, .ref aP_matches, .ref aP_matchCount, .ref aP_variables, .ref aP_havingVariable, .ref aP_told, .ref aP_parent, .ref aP_allBefore, .int P_required, .int P_hinted, .int P_count])), (aP_parent, .inl (cI, 8, .inl P_parent)), (aB_spare, .inl (cJ, 500, .inr (.inl B_spare_27))), (aP_slots, .inl (cI, 24, .inl P_slots)), (aP_matchCount, .inl (cI, 8, .inl P_matchCount)), (aP_matches, .inl (cI, 640, .inl P_matches))] := hD
  refine lv_aload_n hx hb dX5_join_58 rfl (lv_at hl 1 rfl) ?_
  refine lv_aload_n hx hb dX5_join_59 rfl (lv_at hl 1 rfl) ?_
  refine va_get (D := D) (ci := 5) (v := .int B_crowded_26) (C := RX5) (T := TX5) (N := 5) hx hb htg giX5 hown hK hP 0 rfl rfl 4 (by decide) (htg _ kw_187) (fun _ h9 => h9) rfl dX5_join_60 ?_
  refine lv_if_eq (tgt := 70) hx hb dX5_join_63 (by decide) (fun c_36 => ?_) (fun c_36 => ?_)
  · have hf := xb_t c_36 hf
    refine lv_aload_n hx hb dX5_join_70 rfl (lv_at hl 1 rfl) ?_
    refine va_get (D := D) (ci := 5) (v := .int B_found_25) (C := RX5) (T := TX5) (N := 5) hx hb htg giX5 hown hK hP 0 rfl rfl 3 (by decide) (htg _ kw_186) (fun _ h9 => h9) rfl dX5_join_71 ?_
    refine va_put (D := D) (ci := 5) (v := .int B_found_25) (ty := .int) (C := RX5) (T := TX5) (N := 5) hx hb htg giX5 tyX5 tyX5_ok nmX5 hown hK hP hD hS 0 rfl rfl 2 (by decide) (htg _ kw_184) (fun _ h9 => h9) rfl (by decide +kernel) rfl rfl (Nat.le_of_ble_eq_true rfl) dX5_join_74 (fun H locs hP hD hS => ?_)
    have hP : va_P D vwCl [(aB, .inr (5, [.ref aB_spare, .ref aB_rows, .int B_found_25, .int B_found_25, .int B_crowded_26])), (aB_rows, .inl (cJ, 500, .inr (.inl B_rows))), (aP, .inr (2, [.ref aP_slots, .ref aP_termsSeen, .ref aP_matches, .ref aP_matchCount, .ref aP_variables, .ref aP_havingVariable, .ref aP_told, .ref aP_parent, .ref aP_allBefore, .int P_required, .int P_hinted, .int P_count])), (aP_parent, .inl (cI, 8, .inl P_parent)), (aB_spare, .inl (cJ, 500, .inr (.inl B_spare_27))), (aP_slots, .inl (cI, 24, .inl P_slots)), (aP_matchCount, .inl (cI, 8, .inl P_matchCount)), (aP_matches, .inl (cI, 640, .inl P_matches))] H := hP
    have hD : va_D A [(aB, .inr (5, [.ref aB_spare, .ref aB_rows, .int B_found_25, .int B_found_25, .int B_crowded_26])), (aB_rows, .inl (cJ, 500, .inr (.inl B_rows))), (aP, .inr (2, [.ref aP_slots, .ref aP_termsSeen, .ref aP_matches, .ref aP_matchCount, .ref aP_variables, .ref aP_havingVariable, .ref aP_told, .ref aP_parent, .ref aP_allBefore, .int P_required, .int P_hinted, .int P_count])), (aP_parent, .inl (cI, 8, .inl P_parent)), (aB_spare, .inl (cJ, 500, .inr (.inl B_spare_27))), (aP_slots, .inl (cI, 24, .inl P_slots)), (aP_matchCount, .inl (cI, 8, .inl P_matchCount)), (aP_matches, .inl (cI, 640, .inl P_matches))] := hD
    have hf := Option.some.inj hf
    cases hf
    exact x_vret (fun _ => 0) hQ hx hb hr hlk hK (hP.sub [0, 4, 2, 3, 1, 5, 6, 7] rfl) (hD.sub [0, 4, 2, 3, 1, 5, 6, 7] (by decide) rfl) hS dX5_join_77
  · have hf := xb_f c_36 hf
    refine lv_iconst (v := (0 : Int32)) hx hb dX5_join_66 (by decide) ?_
    refine lv_goto (tgt := 74) hx hb dX5_join_67 (by decide) ?_
    refine va_put (D := D) (ci := 5) (v := .int (0 : Int32)) (ty := .int) (C := RX5) (T := TX5) (N := 5) hx hb htg giX5 tyX5 tyX5_ok nmX5 hown hK hP hD hS 0 rfl rfl 2 (by decide) (htg _ kw_184) (fun _ h9 => h9) rfl (by decide +kernel) rfl rfl (Nat.le_of_ble_eq_true rfl) dX5_join_74 (fun H locs hP hD hS => ?_)
    have hP : va_P D vwCl [(aB, .inr (5, [.ref aB_spare, .ref aB_rows, .int (0 : Int32), .int B_found_25, .int B_crowded_26])), (aB_rows, .inl (cJ, 500, .inr (.inl B_rows))), (aP, .inr (2, [.ref aP_slots, .ref aP_termsSeen, .ref aP_matches, .ref aP_matchCount, .ref aP_variables, .ref aP_havingVariable, .ref aP_told, .ref aP_parent, .ref aP_allBefore, .int P_required, .int P_hinted, .int P_count])), (aP_parent, .inl (cI, 8, .inl P_parent)), (aB_spare, .inl (cJ, 500, .inr (.inl B_spare_27))), (aP_slots, .inl (cI, 24, .inl P_slots)), (aP_matchCount, .inl (cI, 8, .inl P_matchCount)), (aP_matches, .inl (cI, 640, .inl P_matches))] H := hP
    have hD : va_D A [(aB, .inr (5, [.ref aB_spare, .ref aB_rows, .int (0 : Int32), .int B_found_25, .int B_crowded_26])), (aB_rows, .inl (cJ, 500, .inr (.inl B_rows))), (aP, .inr (2, [.ref aP_slots, .ref aP_termsSeen, .ref aP_matches, .ref aP_matchCount, .ref aP_variables, .ref aP_havingVariable, .ref aP_told, .ref aP_parent, .ref aP_allBefore, .int P_required, .int P_hinted, .int P_count])), (aP_parent, .inl (cI, 8, .inl P_parent)), (aB_spare, .inl (cJ, 500, .inr (.inl B_spare_27))), (aP_slots, .inl (cI, 24, .inl P_slots)), (aP_matchCount, .inl (cI, 8, .inl P_matchCount)), (aP_matches, .inl (cI, 640, .inl P_matches))] := hD
    have hf := Option.some.inj hf
    cases hf
    exact x_vret (fun _ => 0) hQ hx hb hr hlk hK (hP.sub [0, 4, 2, 3, 1, 5, 6, 7] rfl) (hD.sub [0, 4, 2, 3, 1, 5, 6, 7] (by decide) rfl) hS dX5_join_77
abbrev rm_f_Filters_holds : Room := { frames := 0, cells := 0, slots := 0, locals := 0 }
set_option maxHeartbeats 4000000 in
set_option maxRecDepth 100000 in
theorem c_f_Filters_holds (l : Launch) (D : va_G) (cI cJ cZ : ClassId) (sz : Nat) (aF : Nat) (x1 : Int32) (x2 : Int32) (aF_variable : Nat) (aF_kind : Nat) (aF_value : Nat) (F_safeOnes : Int32) (F_count : Int32) (F_kind : Nat → Int32) (F_value : Nat → Int32) {r : Int32} (hf : f_Filters_holds x1 x2 F_kind F_value = some r) : Met l yX1_holds (.code yX1_holds cX1_holds 3 (some .boolean) :: GW) rm_f_Filters_holds (va_Pc [.ref aF, .int x1, .int x2] (xP D (xT cI cJ cZ) sz [(aF, .inr (1, [.ref aF_variable, .ref aF_kind, .ref aF_value, .int F_safeOnes, .int F_count])), (aF_kind, .inl (cI, 8, .inl F_kind)), (aF_value, .inl (cI, 8, .inl F_value))])) (va_Qi (fun r2 (_ : Nat → Nat) => r2 = r ∧ (r = 0 ∨ r = 1)) (bB D (xT cI cJ cZ) (fun _ => [(aF, .inr (1, [.ref aF_variable, .ref aF_kind, .ref aF_value, .int F_safeOnes, .int F_count])), (aF_kind, .inl (cI, 8, .inl F_kind)), (aF_value, .inl (cI, 8, .inl F_value))]) (va_A [(aF, .inr (1, [.ref aF_variable, .ref aF_kind, .ref aF_value, .int F_safeOnes, .int F_count])), (aF_kind, .inl (cI, 8, .inl F_kind)), (aF_value, .inl (cI, 8, .inl F_value))] sz)) (va_A [(aF, .inr (1, [.ref aF_variable, .ref aF_kind, .ref aF_value, .int F_safeOnes, .int F_count])), (aF_kind, .inl (cI, 8, .inl F_kind)), (aF_value, .inl (cI, 8, .inl F_value))] sz)) 0 0 (va_A [(aF, .inr (1, [.ref aF_variable, .ref aF_kind, .ref aF_value, .int F_safeOnes, .int F_count])), (aF_kind, .inl (cI, 8, .inl F_kind)), (aF_value, .inl (cI, 8, .inl F_value))] sz) := by
  refine con_start (Qc := fun A => va_Qi (fun r2 (_ : Nat → Nat) => r2 = r ∧ (r = 0 ∨ r = 1)) (bB D (xT cI cJ cZ) (fun _ => [(aF, .inr (1, [.ref aF_variable, .ref aF_kind, .ref aF_value, .int F_safeOnes, .int F_count])), (aF_kind, .inl (cI, 8, .inl F_kind)), (aF_value, .inl (cI, 8, .inl F_value))]) A) A) (by decide) (Nat.le_of_ble_eq_true rfl) ?_
  intro p e s m args below meth c Q A hx hb hr hlk hml hown hin htg hN hK hQ hA hP hD hS ls hl
  have hl : lv_has ls 3 [(0, .ref aF), (1, .int x1), (2, .int x2)] := hl
  have hown : s.vm.findClass RX1 = some m.cls := hown
  have hf := (f_Filters_holds_u x1 x2 F_kind F_value).symm.trans hf
  refine lv_iload_n hx hb dX1_holds_0 rfl (lv_at hl 2 rfl) ?_
  refine lv_iconst (v := (-1 : Int32)) hx hb dX1_holds_1 (by decide) ?_
  refine lv_icmp_ne (tgt := 7) hx hb dX1_holds_2 (by decide) (fun c_1 => ?_) (fun c_1 => ?_)
  · have hf := xb_f c_1 hf
    refine lv_aload_n hx hb dX1_holds_7 rfl (lv_at hl 0 rfl) ?_
    refine va_get (D := D) (ci := 1) (v := .ref aF_kind) (C := RX1) (T := TX1) (N := 5) hx hb htg giX1 hown hK hP 0 rfl rfl 1 (by decide) (htg _ kw_98) (fun _ h9 => h9) rfl dX1_holds_8 ?_
    refine lv_iload_n hx hb dX1_holds_11 rfl (lv_at hl 1 rfl) ?_
    have g_2 : vp_in x1 8 := gd_in hf
    have hf := gd_el hf
    refine va_iald hx hb hK hP 1 0 rfl rfl g_2 dX1_holds_12 ?_
    refine lv_topi (fun sw_3 esw_3 => ?_)
    have hf := nm_nm esw_3 hf
    rcases Decidable.em (sw_3 = (0 : Int32)) with cs_13_0 | cs_13_0
    · have hf := xb_t cs_13_0 hf
      refine lv_tableIn (off := 27) (tgt := 40) hx hb dX1_holds_13 (by rw [cs_13_0]; decide) (by rw [cs_13_0]; decide) (by rw [cs_13_0]; decide) (by decide) ?_
      refine lv_iload_n hx hb dX1_holds_40 rfl (lv_at hl 2 rfl) ?_
      refine lv_aload_n hx hb dX1_holds_41 rfl (lv_at hl 0 rfl) ?_
      refine va_get (D := D) (ci := 1) (v := .ref aF_value) (C := RX1) (T := TX1) (N := 5) hx hb htg giX1 hown hK hP 0 rfl rfl 2 (by decide) (htg _ kw_99) (fun _ h9 => h9) rfl dX1_holds_42 ?_
      refine lv_iload_n hx hb dX1_holds_45 rfl (lv_at hl 1 rfl) ?_
      refine va_iald hx hb hK hP 2 0 rfl rfl g_2 dX1_holds_46 ?_
      refine lv_icmp_ne (tgt := 54) hx hb dX1_holds_47 (by decide) (fun c_4 => ?_) (fun c_4 => ?_)
      · have hf := xb_f c_4 hf
        refine lv_iconst (v := (0 : Int32)) hx hb dX1_holds_54 (by decide) ?_
        have hf := Option.some.inj hf
        cases hf
        exact x_zret (fun _ => 0) hQ hx hb hr hlk (by decide) hK hP hD hS dX1_holds_55
      · have hf := xb_t c_4 hf
        refine lv_iconst (v := (1 : Int32)) hx hb dX1_holds_50 (by decide) ?_
        refine lv_goto (tgt := 55) hx hb dX1_holds_51 (by decide) ?_
        have hf := Option.some.inj hf
        cases hf
        exact x_zret (fun _ => 0) hQ hx hb hr hlk (by decide) hK hP hD hS dX1_holds_55
    · have hf := xb_f cs_13_0 hf
      rcases Decidable.em (sw_3 = (1 : Int32)) with cs_13_1 | cs_13_1
      · have hf := xb_t cs_13_1 hf
        refine lv_tableIn (off := 43) (tgt := 56) hx hb dX1_holds_13 (by rw [cs_13_1]; decide) (by rw [cs_13_1]; decide) (by rw [cs_13_1]; decide) (by decide) ?_
        refine lv_iload_n hx hb dX1_holds_56 rfl (lv_at hl 2 rfl) ?_
        refine lv_aload_n hx hb dX1_holds_57 rfl (lv_at hl 0 rfl) ?_
        refine va_get (D := D) (ci := 1) (v := .ref aF_value) (C := RX1) (T := TX1) (N := 5) hx hb htg giX1 hown hK hP 0 rfl rfl 2 (by decide) (htg _ kw_99) (fun _ h9 => h9) rfl dX1_holds_58 ?_
        refine lv_iload_n hx hb dX1_holds_61 rfl (lv_at hl 1 rfl) ?_
        refine va_iald hx hb hK hP 2 0 rfl rfl g_2 dX1_holds_62 ?_
        refine lv_icmp_eq (tgt := 70) hx hb dX1_holds_63 (by decide) (fun c_5 => ?_) (fun c_5 => ?_)
        · have hf := xb_t c_5 hf
          refine lv_iconst (v := (0 : Int32)) hx hb dX1_holds_70 (by decide) ?_
          have hf := Option.some.inj hf
          cases hf
          exact x_zret (fun _ => 0) hQ hx hb hr hlk (by decide) hK hP hD hS dX1_holds_71
        · have hf := xb_f c_5 hf
          refine lv_iconst (v := (1 : Int32)) hx hb dX1_holds_66 (by decide) ?_
          refine lv_goto (tgt := 71) hx hb dX1_holds_67 (by decide) ?_
          have hf := Option.some.inj hf
          cases hf
          exact x_zret (fun _ => 0) hQ hx hb hr hlk (by decide) hK hP hD hS dX1_holds_71
      · have hf := xb_f cs_13_1 hf
        rcases Decidable.em (sw_3 = (2 : Int32)) with cs_13_2 | cs_13_2
        · have hf := xb_t cs_13_2 hf
          refine lv_tableIn (off := 59) (tgt := 72) hx hb dX1_holds_13 (by rw [cs_13_2]; decide) (by rw [cs_13_2]; decide) (by rw [cs_13_2]; decide) (by decide) ?_
          refine lv_iload_n hx hb dX1_holds_72 rfl (lv_at hl 2 rfl) ?_
          refine lv_aload_n hx hb dX1_holds_73 rfl (lv_at hl 0 rfl) ?_
          refine va_get (D := D) (ci := 1) (v := .ref aF_value) (C := RX1) (T := TX1) (N := 5) hx hb htg giX1 hown hK hP 0 rfl rfl 2 (by decide) (htg _ kw_99) (fun _ h9 => h9) rfl dX1_holds_74 ?_
          refine lv_iload_n hx hb dX1_holds_77 rfl (lv_at hl 1 rfl) ?_
          refine va_iald hx hb hK hP 2 0 rfl rfl g_2 dX1_holds_78 ?_
          refine lv_icmp_ge (tgt := 86) hx hb dX1_holds_79 (by decide) (fun c_6 => ?_) (fun c_6 => ?_)
          · have hf := xb_t c_6 hf
            refine lv_iconst (v := (0 : Int32)) hx hb dX1_holds_86 (by decide) ?_
            have hf := Option.some.inj hf
            cases hf
            exact x_zret (fun _ => 0) hQ hx hb hr hlk (by decide) hK hP hD hS dX1_holds_87
          · have hf := xb_f c_6 hf
            refine lv_iconst (v := (1 : Int32)) hx hb dX1_holds_82 (by decide) ?_
            refine lv_goto (tgt := 87) hx hb dX1_holds_83 (by decide) ?_
            have hf := Option.some.inj hf
            cases hf
            exact x_zret (fun _ => 0) hQ hx hb hr hlk (by decide) hK hP hD hS dX1_holds_87
        · have hf := xb_f cs_13_2 hf
          refine lv_tableOut (tgt := 88) hx hb dX1_holds_13 (by have z0 : sw_3.toInt ≠ 0 := fun h => cs_13_0 (Int32.toInt_inj.mp (h.trans (by decide))); have z1 : sw_3.toInt ≠ 1 := fun h => cs_13_1 (Int32.toInt_inj.mp (h.trans (by decide))); have z2 : sw_3.toInt ≠ 2 := fun h => cs_13_2 (Int32.toInt_inj.mp (h.trans (by decide))); omega) (by decide) ?_
          refine lv_iload_n hx hb dX1_holds_88 rfl (lv_at hl 2 rfl) ?_
          refine lv_aload_n hx hb dX1_holds_89 rfl (lv_at hl 0 rfl) ?_
          refine va_get (D := D) (ci := 1) (v := .ref aF_value) (C := RX1) (T := TX1) (N := 5) hx hb htg giX1 hown hK hP 0 rfl rfl 2 (by decide) (htg _ kw_99) (fun _ h9 => h9) rfl dX1_holds_90 ?_
          refine lv_iload_n hx hb dX1_holds_93 rfl (lv_at hl 1 rfl) ?_
          refine va_iald hx hb hK hP 2 0 rfl rfl g_2 dX1_holds_94 ?_
          refine lv_icmp_le (tgt := 102) hx hb dX1_holds_95 (by decide) (fun c_7 => ?_) (fun c_7 => ?_)
          · have hf := xb_t c_7 hf
            refine lv_iconst (v := (0 : Int32)) hx hb dX1_holds_102 (by decide) ?_
            have hf := Option.some.inj hf
            cases hf
            exact x_zret (fun _ => 0) hQ hx hb hr hlk (by decide) hK hP hD hS dX1_holds_103
          · have hf := xb_f c_7 hf
            refine lv_iconst (v := (1 : Int32)) hx hb dX1_holds_98 (by decide) ?_
            refine lv_goto (tgt := 103) hx hb dX1_holds_99 (by decide) ?_
            have hf := Option.some.inj hf
            cases hf
            exact x_zret (fun _ => 0) hQ hx hb hr hlk (by decide) hK hP hD hS dX1_holds_103
  · have hf := xb_t c_1 hf
    refine lv_iconst (v := (0 : Int32)) hx hb dX1_holds_5 (by decide) ?_
    have hf := Option.some.inj hf
    cases hf
    exact x_zret (fun _ => 0) hQ hx hb hr hlk (by decide) hK hP hD hS dX1_holds_6
abbrev rm_f_Filters_allHold : Room := { frames := 1, cells := 0, slots := 0, locals := 22 }
set_option maxHeartbeats 4000000 in
set_option maxRecDepth 100000 in
theorem c_f_Filters_allHold (l : Launch) (D : va_G) (cI cJ cZ : ClassId) (sz : Nat) (n : Nat) (aF : Nat) (x1 : Int32) (x2 : Int64) (aF_variable : Nat) (aF_kind : Nat) (aF_value : Nat) (F_safeOnes : Int32) (F_count : Int32) (F_variable : Nat → Int32) (F_kind : Nat → Int32) (F_value : Nat → Int32) {r : Int32} (hf : f_Filters_allHold n x1 x2 F_count F_variable F_kind F_value = some r) : Met l yX1_allHold (.code yX1_allHold cX1_allHold 5 (some .boolean) :: GW) rm_f_Filters_allHold (va_Pc [.ref aF, .int x1, .long x2] (xP D (xT cI cJ cZ) sz [(aF, .inr (1, [.ref aF_variable, .ref aF_kind, .ref aF_value, .int F_safeOnes, .int F_count])), (aF_variable, .inl (cI, 8, .inl F_variable)), (aF_kind, .inl (cI, 8, .inl F_kind)), (aF_value, .inl (cI, 8, .inl F_value))])) (va_Qi (fun r2 (_ : Nat → Nat) => r2 = r ∧ (r = 0 ∨ r = 1)) (bB D (xT cI cJ cZ) (fun _ => [(aF, .inr (1, [.ref aF_variable, .ref aF_kind, .ref aF_value, .int F_safeOnes, .int F_count])), (aF_variable, .inl (cI, 8, .inl F_variable)), (aF_kind, .inl (cI, 8, .inl F_kind)), (aF_value, .inl (cI, 8, .inl F_value))]) (va_A [(aF, .inr (1, [.ref aF_variable, .ref aF_kind, .ref aF_value, .int F_safeOnes, .int F_count])), (aF_variable, .inl (cI, 8, .inl F_variable)), (aF_kind, .inl (cI, 8, .inl F_kind)), (aF_value, .inl (cI, 8, .inl F_value))] sz)) (va_A [(aF, .inr (1, [.ref aF_variable, .ref aF_kind, .ref aF_value, .int F_safeOnes, .int F_count])), (aF_variable, .inl (cI, 8, .inl F_variable)), (aF_kind, .inl (cI, 8, .inl F_kind)), (aF_value, .inl (cI, 8, .inl F_value))] sz)) 0 0 (va_A [(aF, .inr (1, [.ref aF_variable, .ref aF_kind, .ref aF_value, .int F_safeOnes, .int F_count])), (aF_variable, .inl (cI, 8, .inl F_variable)), (aF_kind, .inl (cI, 8, .inl F_kind)), (aF_value, .inl (cI, 8, .inl F_value))] sz) := by
  refine con_start (Qc := fun A => va_Qi (fun r2 (_ : Nat → Nat) => r2 = r ∧ (r = 0 ∨ r = 1)) (bB D (xT cI cJ cZ) (fun _ => [(aF, .inr (1, [.ref aF_variable, .ref aF_kind, .ref aF_value, .int F_safeOnes, .int F_count])), (aF_variable, .inl (cI, 8, .inl F_variable)), (aF_kind, .inl (cI, 8, .inl F_kind)), (aF_value, .inl (cI, 8, .inl F_value))]) A) A) (by decide) (Nat.le_of_ble_eq_true rfl) ?_
  intro p e s m args below meth c Q A hx hb hr hlk hml hown hin htg hN hK hQ hA hP hD hS ls hl
  have hl : lv_has ls 5 [(0, .ref aF), (1, .int x1), (2, .long x2)] := hl
  have hown : s.vm.findClass RX1 = some m.cls := hown
  have hf := (f_Filters_allHold_u n x1 x2 F_count F_variable F_kind F_value).symm.trans hf
  refine lv_iconst (v := (0 : Int32)) hx hb dX1_allHold_0 (by decide) ?_
  refine lv_istore (lv' := [(4, .int (0 : Int32)), (0, .ref aF), (1, .int x1), (2, .long x2)]) hx hb dX1_allHold_1 hl (by decide) rfl (fun ls hl => ?_)
  have L_3_21 : ∀ (k : Nat) (x4_22 : Int32) (o_21 : (Int32 ⊕ Unit)), f_Filters_allHold_L0 n x1 x2 F_count F_variable F_kind F_value k x4_22 = some o_21 → (∀ z : Int32, some (Sum.inl z) = some o_21 → z = r) → ∀ (H : Heap) (locs : List Loc), va_P D vwCl [(aF, .inr (1, [.ref aF_variable, .ref aF_kind, .ref aF_value, .int F_safeOnes, .int F_count])), (aF_variable, .inl (cI, 8, .inl F_variable)), (aF_kind, .inl (cI, 8, .inl F_kind)), (aF_value, .inl (cI, 8, .inl F_value))] H → va_D A [(aF, .inr (1, [.ref aF_variable, .ref aF_kind, .ref aF_value, .int F_safeOnes, .int F_count])), (aF_variable, .inl (cI, 8, .inl F_variable)), (aF_kind, .inl (cI, 8, .inl F_kind)), (aF_value, .inl (cI, 8, .inl F_value))] → va_S A s.heap H locs → ∀ ls : Array Slot, lv_has ls 5 [(0, .ref aF), (1, .int x1), (2, .long x2), (4, .int x4_22)] → (some (Sum.inr ()) = some o_21 → ∀ (H : Heap) (locs : List Loc), va_P D vwCl [(aF, .inr (1, [.ref aF_variable, .ref aF_kind, .ref aF_value, .int F_safeOnes, .int F_count])), (aF_variable, .inl (cI, 8, .inl F_variable)), (aF_kind, .inl (cI, 8, .inl F_kind)), (aF_value, .inl (cI, 8, .inl F_value))] H → va_D A [(aF, .inr (1, [.ref aF_variable, .ref aF_kind, .ref aF_value, .int F_safeOnes, .int F_count])), (aF_variable, .inl (cI, 8, .inl F_variable)), (aF_kind, .inl (cI, 8, .inl F_kind)), (aF_value, .inl (cI, 8, .inl F_value))] → va_S A s.heap H locs → ∀ ls : Array Slot, lv_has ls 5 [] → W p l e rm_f_Filters_allHold s m args below meth c H locs 0 0 Q (F0 m 49 ls [])) → W p l e rm_f_Filters_allHold s m args below meth c H locs 0 0 Q (F0 m 3 ls []) := by
    intro k
    induction k with
    | zero =>
      intro x4_22 o_21 hf
      exact absurd (((f_Filters_allHold_L0_z n x1 x2 F_count F_variable F_kind F_value x4_22).symm.trans hf)) (fun h => by cases h)
    | succ k ih =>
      intro x4_22 o_21 hf hret_21 H locs hP hD hS ls hl hX_21
      have hf := (f_Filters_allHold_L0_s n x1 x2 F_count F_variable F_kind F_value k x4_22).symm.trans hf
      refine lv_iload hx hb dX1_allHold_3 (lv_at hl 3 rfl) ?_
      refine lv_aload_n hx hb dX1_allHold_5 rfl (lv_at hl 0 rfl) ?_
      refine va_get (D := D) (ci := 1) (v := .int F_count) (C := RX1) (T := TX1) (N := 5) hx hb htg giX1 hown hK hP 0 rfl rfl 4 (by decide) (htg _ kw_102) (fun _ h9 => h9) rfl dX1_allHold_6 ?_
      refine lv_icmp_ge (tgt := 49) hx hb dX1_allHold_9 (by decide) (fun c_23 => ?_) (fun c_23 => ?_)
      · have hf := xb_t c_23 hf
        exact hX_21  hf _ _ hP hD hS _ (lv_sub hl [] rfl)
      · have hf := xb_f c_23 hf
        refine lv_iload_n hx hb dX1_allHold_12 rfl (lv_at hl 1 rfl) ?_
        refine lv_iload hx hb dX1_allHold_13 (lv_at hl 3 rfl) ?_
        refine x_z (xrSN (As := [.int x1, .int x4_22]) (rest := []) ⟨hx, hb, hml, hown, htg⟩ (c_f_JoinOrder_inSet l D cI cJ cZ _ x1 x4_22 rfl) kc_f_JoinOrder_inSet kn_512 kw_306 kw_1 dd_f_JoinOrder_inSet ⟨Nat.le_of_ble_eq_true rfl, Nat.le_of_ble_eq_true rfl⟩ rfl rfl (hP.sub [] rfl) (hD.sub [] (by decide) rfl) hK hN rfl hl.1 rfl (Nat.le_of_ble_eq_true rfl) dX1_allHold_15 ⟨Nat.le_of_ble_eq_true rfl, Nat.le_of_ble_eq_true rfl⟩) hP hD hS hA [] [0, 1, 2, 3] rfl rfl (by decide) (by decide) (fun _ H locs bz_24 hP hD hS => ?_)
        have hP : va_P D vwCl [(aF, .inr (1, [.ref aF_variable, .ref aF_kind, .ref aF_value, .int F_safeOnes, .int F_count])), (aF_variable, .inl (cI, 8, .inl F_variable)), (aF_kind, .inl (cI, 8, .inl F_kind)), (aF_value, .inl (cI, 8, .inl F_value))] H := hP
        have hD : va_D A [(aF, .inr (1, [.ref aF_variable, .ref aF_kind, .ref aF_value, .int F_safeOnes, .int F_count])), (aF_variable, .inl (cI, 8, .inl F_variable)), (aF_kind, .inl (cI, 8, .inl F_kind)), (aF_value, .inl (cI, 8, .inl F_value))] := hD
        refine lv_if_eq (tgt := 43) hx hb dX1_allHold_18 (by decide) (fun c_25 => ?_) (fun c_25 => ?_)
        · have hf := xb_t c_25 hf
          obtain ⟨x4_26, ex4_26⟩ : ∃ y : Int32, y = x4_22 + (1 : Int32) := ⟨_, rfl⟩
          have hf := nm_nm ex4_26 hf
          refine lv_iinc (v := x4_26) (lv' := [(4, .int x4_26), (0, .ref aF), (1, .int x1), (2, .long x2)]) hx hb dX1_allHold_43 hl (k := 3) rfl (by rw [ex4_26]; rfl) (by decide) rfl (fun ls hl => ?_)
          refine lv_goto (tgt := 3) hx hb dX1_allHold_46 (by decide) ?_
          exact ih x4_26 o_21 hf hret_21 _ _ hP hD hS _ (lv_sub hl [1, 2, 3, 0] rfl) hX_21
        · have hf := xb_f c_25 hf
          refine lv_aload_n hx hb dX1_allHold_21 rfl (lv_at hl 0 rfl) ?_
          refine lv_iload hx hb dX1_allHold_22 (lv_at hl 3 rfl) ?_
          refine lv_lload_n hx hb dX1_allHold_24 rfl (lv_at hl 2 rfl) ?_
          refine lv_aload_n hx hb dX1_allHold_25 rfl (lv_at hl 0 rfl) ?_
          refine va_get (D := D) (ci := 1) (v := .ref aF_variable) (C := RX1) (T := TX1) (N := 5) hx hb htg giX1 hown hK hP 0 rfl rfl 0 (by decide) (htg _ kw_96) (fun _ h9 => h9) rfl dX1_allHold_26 ?_
          refine lv_iload hx hb dX1_allHold_29 (lv_at hl 3 rfl) ?_
          have g_27 : vp_in x4_22 8 := gd_in hf
          have hf := gd_el hf
          refine va_iald hx hb hK hP 1 0 rfl rfl g_27 dX1_allHold_31 ?_
          refine x_i (xrS (As := [.long x2, .int (F_variable x4_22.toNatClampNeg)]) (rest := [.int x4_22, .ref aF]) ⟨hx, hb, hml, hown, htg⟩ (c_f_Table_termOf l D cI cJ cZ _ x2 (F_variable x4_22.toNatClampNeg) rfl) kc_f_Table_termOf kw_513 kw_496 kw_7 dd_f_Table_termOf ⟨Nat.le_of_ble_eq_true rfl, Nat.le_of_ble_eq_true rfl⟩ rfl rfl (hP.sub [] rfl) (hD.sub [] (by decide) rfl) hK hN rfl hl.1 rfl (Nat.le_of_ble_eq_true rfl) dX1_allHold_32 ⟨Nat.le_of_ble_eq_true rfl, Nat.le_of_ble_eq_true rfl⟩) hP hD hS hA [] [0, 1, 2, 3] rfl rfl (by decide) (by decide) (fun _ H locs hP hD hS => ?_)
          have hP : va_P D vwCl [(aF, .inr (1, [.ref aF_variable, .ref aF_kind, .ref aF_value, .int F_safeOnes, .int F_count])), (aF_variable, .inl (cI, 8, .inl F_variable)), (aF_kind, .inl (cI, 8, .inl F_kind)), (aF_value, .inl (cI, 8, .inl F_value))] H := hP
          have hD : va_D A [(aF, .inr (1, [.ref aF_variable, .ref aF_kind, .ref aF_value, .int F_safeOnes, .int F_count])), (aF_variable, .inl (cI, 8, .inl F_variable)), (aF_kind, .inl (cI, 8, .inl F_kind)), (aF_value, .inl (cI, 8, .inl F_value))] := hD
          obtain ⟨r_30, hq_29, hf⟩ := bn1_c hf
          refine x_z (xrV (As := [.int x4_22, .int (f_Table_termOf x2 (F_variable x4_22.toNatClampNeg))]) (b := aF) (rest := []) ⟨hx, hb, hml, hown, htg⟩ (c_f_Filters_holds l D cI cJ cZ _ aF x4_22 (f_Table_termOf x2 (F_variable x4_22.toNatClampNeg)) aF_variable aF_kind aF_value F_safeOnes F_count F_kind F_value hq_29) kc_f_Filters_holds kw_514 kw_516 kp_18 kw_4 dd_f_Filters_holds ⟨Nat.le_of_ble_eq_true rfl, Nat.le_of_ble_eq_true rfl⟩ rfl rfl (hP.sub [0, 2, 3] rfl) (hD.sub [0, 2, 3] (by decide) rfl) hK hN hP (q0 := 0) rfl rfl rfl hl.1 rfl (Nat.le_of_ble_eq_true rfl) dX1_allHold_35 ⟨Nat.le_of_ble_eq_true rfl, Nat.le_of_ble_eq_true rfl⟩) hP hD hS hA [0, 2, 3] [1] rfl rfl (by decide) (by decide) (fun _ H locs bz_29 hP hD hS => ?_)
          have hP : va_P D vwCl [(aF_variable, .inl (cI, 8, .inl F_variable)), (aF, .inr (1, [.ref aF_variable, .ref aF_kind, .ref aF_value, .int F_safeOnes, .int F_count])), (aF_kind, .inl (cI, 8, .inl F_kind)), (aF_value, .inl (cI, 8, .inl F_value))] H := hP
          have hD : va_D A [(aF_variable, .inl (cI, 8, .inl F_variable)), (aF, .inr (1, [.ref aF_variable, .ref aF_kind, .ref aF_value, .int F_safeOnes, .int F_count])), (aF_kind, .inl (cI, 8, .inl F_kind)), (aF_value, .inl (cI, 8, .inl F_value))] := hD
          refine lv_if_ne (tgt := 43) hx hb dX1_allHold_38 (by decide) (fun c_31 => ?_) (fun c_31 => ?_)
          · have hf := xb_f c_31 hf
            obtain ⟨x4_32, ex4_32⟩ : ∃ y : Int32, y = x4_22 + (1 : Int32) := ⟨_, rfl⟩
            have hf := nm_nm ex4_32 hf
            refine lv_iinc (v := x4_32) (lv' := [(4, .int x4_32), (0, .ref aF), (1, .int x1), (2, .long x2)]) hx hb dX1_allHold_43 hl (k := 3) rfl (by rw [ex4_32]; rfl) (by decide) rfl (fun ls hl => ?_)
            refine lv_goto (tgt := 3) hx hb dX1_allHold_46 (by decide) ?_
            exact ih x4_32 o_21 hf hret_21 _ _ (hP.sub [1, 0, 2, 3] rfl) (hD.sub [1, 0, 2, 3] (by decide) rfl) hS _ (lv_sub hl [1, 2, 3, 0] rfl) hX_21
          · have hf := xb_t c_31 hf
            refine lv_iconst (v := (0 : Int32)) hx hb dX1_allHold_41 (by decide) ?_
            have hf := congrArg some (hret_21 _ hf)
            have hf := Option.some.inj hf
            cases hf
            exact x_zret (fun _ => 0) hQ hx hb hr hlk (by decide) hK (hP.sub [1, 0, 2, 3] rfl) (hD.sub [1, 0, 2, 3] (by decide) rfl) hS dX1_allHold_42
  obtain ⟨o_21, ho_21, hret_21, hk_21⟩ := bd0_s hf
  refine L_3_21 n (0 : Int32) o_21 ho_21 hret_21 _ _ hP hD hS _ (lv_sub hl [1, 2, 3, 0] rfl) (fun  hf H locs hP hD hS ls hl => ?_)
  have hf := hk_21  hf
  refine lv_iconst (v := (1 : Int32)) hx hb dX1_allHold_49 (by decide) ?_
  have hf := Option.some.inj hf
  cases hf
  exact x_zret (fun _ => 0) hQ hx hb hr hlk (by decide) hK hP hD hS dX1_allHold_50
