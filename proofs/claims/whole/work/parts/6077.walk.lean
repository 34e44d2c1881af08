abbrev rm_f_JoinOrder_step : Room := { frames := 1, cells := 0, slots := 0, locals := 21 }
set_option maxHeartbeats 4000000 in
set_option maxRecDepth 100000 in
theorem c_f_JoinOrder_step (l : Launch) (D : va_G) (cI cJ cZ : ClassId) (sz : Nat) (aJ : Nat) (x1 : Int32) (x2 : Int32) (aT : Nat) (aP : Nat) (aF : Nat) (aQ : Nat) (aM : Nat) (aB : Nat) (J_hasRun : Int32) (aJ_plainOrder : Nat) (aC : Nat) (aM_order : Nat) (aM_joins : Nat) (aM_acting : Nat) (aM_estimates : Nat) (aM_actsBehind : Nat) (M_steps : Int32) (M_filters : Int32) (M_order : Nat → Int32) (M_joins : Nat → Int32) (M_acting : Nat → Int32) {r : Int32} (hf : f_JoinOrder_step x1 x2 M_steps M_order M_joins M_acting = some r) : Met l yX0_step (.code yX0_step cX0_step 3 (some .int) :: GW) rm_f_JoinOrder_step (va_Pc [.ref aJ, .int x1, .int x2] (xP D (xT cI cJ cZ) sz [(aJ, .inr (0, [.ref aT, .ref aP, .ref aF, .ref aQ, .ref aM, .ref aB, .int J_hasRun, .ref aJ_plainOrder, .ref aC])), (aM, .inr (3, [.ref aM_order, .ref aM_joins, .ref aM_acting, .ref aM_estimates, .ref aM_actsBehind, .int M_steps, .int M_filters])), (aM_order, .inl (cI, 8, .inl M_order)), (aM_joins, .inl (cI, 8, .inl M_joins)), (aM_acting, .inl (cI, 8, .inl M_acting))])) (va_Qi (fun r2 (_ : Nat → Nat) => r2 = r) (bB D (xT cI cJ cZ) (fun _ => [(aJ, .inr (0, [.ref aT, .ref aP, .ref aF, .ref aQ, .ref aM, .ref aB, .int J_hasRun, .ref aJ_plainOrder, .ref aC])), (aM, .inr (3, [.ref aM_order, .ref aM_joins, .ref aM_acting, .ref aM_estimates, .ref aM_actsBehind, .int M_steps, .int M_filters])), (aM_order, .inl (cI, 8, .inl M_order)), (aM_joins, .inl (cI, 8, .inl M_joins)), (aM_acting, .inl (cI, 8, .inl M_acting))]) (va_A [(aJ, .inr (0, [.ref aT, .ref aP, .ref aF, .ref aQ, .ref aM, .ref aB, .int J_hasRun, .ref aJ_plainOrder, .ref aC])), (aM, .inr (3, [.ref aM_order, .ref aM_joins, .ref aM_acting, .ref aM_estimates, .ref aM_actsBehind, .int M_steps, .int M_filters])), (aM_order, .inl (cI, 8, .inl M_order)), (aM_joins, .inl (cI, 8, .inl M_joins)), (aM_acting, .inl (cI, 8, .inl M_acting))] sz)) (va_A [(aJ, .inr (0, [.ref aT, .ref aP, .ref aF, .ref aQ, .ref aM, .ref aB, .int J_hasRun, .ref aJ_plainOrder, .ref aC])), (aM, .inr (3, [.ref aM_order, .ref aM_joins, .ref aM_acting, .ref aM_estimates, .ref aM_actsBehind, .int M_steps, .int M_filters])), (aM_order, .inl (cI, 8, .inl M_order)), (aM_joins, .inl (cI, 8, .inl M_joins)), (aM_acting, .inl (cI, 8, .inl M_acting))] sz)) 0 0 (va_A [(aJ, .inr (0, [.ref aT, .ref aP, .ref aF, .ref aQ, .ref aM, .ref aB, .int J_hasRun, .ref aJ_plainOrder, .ref aC])), (aM, .inr (3, [.ref aM_order, .ref aM_joins, .ref aM_acting, .ref aM_estimates, .ref aM_actsBehind, .int M_steps, .int M_filters])), (aM_order, .inl (cI, 8, .inl M_order)), (aM_joins, .inl (cI, 8, .inl M_joins)), (aM_acting, .inl (cI, 8, .inl M_acting))] sz) := by
  refine con_start (y := yX0_step) (bytes := cX0_step) (maxL := 3) (av := [.ref aJ, .int x1, .int x2]) (Qc := fun A => va_Qi (fun r2 (_ : Nat → Nat) => r2 = r) (bB D (xT cI cJ cZ) (fun _ => [(aJ, .inr (0, [.ref aT, .ref aP, .ref aF, .ref aQ, .ref aM, .ref aB, .int J_hasRun, .ref aJ_plainOrder, .ref aC])), (aM, .inr (3, [.ref aM_order, .ref aM_joins, .ref aM_acting, .ref aM_estimates, .ref aM_actsBehind, .int M_steps, .int M_filters])), (aM_order, .inl (cI, 8, .inl M_order)), (aM_joins, .inl (cI, 8, .inl M_joins)), (aM_acting, .inl (cI, 8, .inl M_acting))]) A) A) (by decide) (Nat.le_of_ble_eq_true rfl) ?_
  intro p e s m args below meth c Q A hx hb hr hlk hml hown hin htg hN hK hQ hA hP hD hS ls hl
  have hl : lv_has ls 3 [(0, .ref aJ), (1, .int x1), (2, .int x2)] := hl
  have hown : s.vm.findClass RX0 = some m.cls := hown
  have hf := (f_JoinOrder_step_u x1 x2 M_steps M_order M_joins M_acting).symm.trans hf
  refine lv_aload_n hx hb dX0_step_0 rfl (lv_at hl 0 rfl) ?_
  refine va_get (D := D) (ci := 0) (v := .ref aM) (C := RX0) (T := TX0) (N := 9) hx hb htg giX0 hown hK hP 0 rfl rfl 4 (by decide) (htg _ kw_204) (fun _ h9 => h9) rfl dX0_step_1 ?_
  refine lv_iload_n hx hb dX0_step_4 rfl (lv_at hl 1 rfl) ?_
  refine x_z (xrV (As := [.int x1]) (b := aM) (rest := []) ⟨hx, hb, hml, hown, htg⟩ (c_f_Plan_has l D cI cJ cZ _ aM x1 aM_order aM_joins aM_acting aM_estimates aM_actsBehind M_steps M_filters rfl) kc_f_Plan_has kw_449 kw_450 kw_451 kw_6 dd_f_Plan_has ⟨Nat.le_of_ble_eq_true rfl, Nat.le_of_ble_eq_true rfl⟩ rfl rfl (hP.sub [1] rfl) (hD.sub [1] (by decide) rfl) hK hN hP (q0 := 1) rfl rfl rfl hl.1 rfl (Nat.le_of_ble_eq_true rfl) dX0_step_5 ⟨Nat.le_of_ble_eq_true rfl, Nat.le_of_ble_eq_true rfl⟩) hP hD hS hA [1] [0, 2, 3, 4] rfl rfl (by decide) (by decide) (fun _ H locs bz_1 hP hD hS => ?_)
  have hP : va_P D vwCl [(aJ, .inr (0, [.ref aT, .ref aP, .ref aF, .ref aQ, .ref aM, .ref aB, .int J_hasRun, .ref aJ_plainOrder, .ref aC])), (aM_order, .inl (cI, 8, .inl M_order)), (aM_joins, .inl (cI, 8, .inl M_joins)), (aM_acting, .inl (cI, 8, .inl M_acting)), (aM, .inr (3, [.ref aM_order, .ref aM_joins, .ref aM_acting, .ref aM_estimates, .ref aM_actsBehind, .int M_steps, .int M_filters]))] H := hP
  have hD : va_D A [(aJ, .inr (0, [.ref aT, .ref aP, .ref aF, .ref aQ, .ref aM, .ref aB, .int J_hasRun, .ref aJ_plainOrder, .ref aC])), (aM_order, .inl (cI, 8, .inl M_order)), (aM_joins, .inl (cI, 8, .inl M_joins)), (aM_acting, .inl (cI, 8, .inl M_acting)), (aM, .inr (3, [.ref aM_order, .ref aM_joins, .ref aM_acting, .ref aM_estimates, .ref aM_actsBehind, .int M_steps, .int M_filters]))] := hD
  refine lv_if_ne (tgt := 13) hx hb dX0_step_8 (by decide) (fun c_2 => ?_) (fun c_2 => ?_)
  · have hf := xb_f c_2 hf
    refine lv_iload_n hx hb dX0_step_13 rfl (lv_at hl 2 rfl) ?_
    rcases Decidable.em (x2 = (0 : Int32)) with cs_14_0 | cs_14_0
    · have hf := xb_t cs_14_0 hf
      refine lv_tableIn (off := 26) (tgt := 40) hx hb dX0_step_14 (by rw [cs_14_0]; decide) (by rw [cs_14_0]; decide) (by rw [cs_14_0]; decide) (by decide) ?_
      refine lv_aload_n hx hb dX0_step_40 rfl (lv_at hl 0 rfl) ?_
      refine va_get (D := D) (ci := 0) (v := .ref aM) (C := RX0) (T := TX0) (N := 9) hx hb htg giX0 hown hK hP 0 rfl rfl 4 (by decide) (htg _ kw_204) (fun _ h9 => h9) rfl dX0_step_41 ?_
      refine va_getN (D := D) (ci := 3) (v := .ref aM_order) (C := RX3) (T := TX3) (N := 7) hx hb htg giX3 hown hK hP 4 rfl rfl 0 (by decide) (va_Nw.use rfl (hN _ kn_144)) (fun _ h9 => h9) rfl dX0_step_44 ?_
      refine lv_iload_n hx hb dX0_step_47 rfl (lv_at hl 1 rfl) ?_
      have g_3 : vp_in x1 8 := gd_in hf
      have hf := gd_el hf
      refine va_iald hx hb hK hP 1 0 rfl rfl g_3 dX0_step_48 ?_
      have hf := Option.some.inj hf
      subst hf
      exact x_iret (fun _ => 0) hQ hx hb hr hlk hK (hP.sub [0, 4, 1, 2, 3] rfl) (hD.sub [0, 4, 1, 2, 3] (by decide) rfl) hS dX0_step_49
    · have hf := xb_f cs_14_0 hf
      rcases Decidable.em (x2 = (1 : Int32)) with cs_14_1 | cs_14_1
      · have hf := xb_t cs_14_1 hf
        refine lv_tableIn (off := 36) (tgt := 50) hx hb dX0_step_14 (by rw [cs_14_1]; decide) (by rw [cs_14_1]; decide) (by rw [cs_14_1]; decide) (by decide) ?_
        refine lv_aload_n hx hb dX0_step_50 rfl (lv_at hl 0 rfl) ?_
        refine va_get (D := D) (ci := 0) (v := .ref aM) (C := RX0) (T := TX0) (N := 9) hx hb htg giX0 hown hK hP 0 rfl rfl 4 (by decide) (htg _ kw_204) (fun _ h9 => h9) rfl dX0_step_51 ?_
        refine va_getN (D := D) (ci := 3) (v := .ref aM_joins) (C := RX3) (T := TX3) (N := 7) hx hb htg giX3 hown hK hP 4 rfl rfl 1 (by decide) (va_Nw.use rfl (hN _ kn_147)) (fun _ h9 => h9) rfl dX0_step_54 ?_
        refine lv_iload_n hx hb dX0_step_57 rfl (lv_at hl 1 rfl) ?_
        have g_4 : vp_in x1 8 := gd_in hf
        have hf := gd_el hf
        refine va_iald hx hb hK hP 2 0 rfl rfl g_4 dX0_step_58 ?_
        have hf := Option.some.inj hf
        subst hf
        exact x_iret (fun _ => 0) hQ hx hb hr hlk hK (hP.sub [0, 4, 1, 2, 3] rfl) (hD.sub [0, 4, 1, 2, 3] (by decide) rfl) hS dX0_step_59
      · have hf := xb_f cs_14_1 hf
        rcases Decidable.em (x2 = (2 : Int32)) with cs_14_2 | cs_14_2
        · have hf := xb_t cs_14_2 hf
          refine lv_tableIn (off := 46) (tgt := 60) hx hb dX0_step_14 (by rw [cs_14_2]; decide) (by rw [cs_14_2]; decide) (by rw [cs_14_2]; decide) (by decide) ?_
          refine lv_aload_n hx hb dX0_step_60 rfl (lv_at hl 0 rfl) ?_
          refine va_get (D := D) (ci := 0) (v := .ref aM) (C := RX0) (T := TX0) (N := 9) hx hb htg giX0 hown hK hP 0 rfl rfl 4 (by decide) (htg _ kw_204) (fun _ h9 => h9) rfl dX0_step_61 ?_
          refine va_getN (D := D) (ci := 3) (v := .ref aM_acting) (C := RX3) (T := TX3) (N := 7) hx hb htg giX3 hown hK hP 4 rfl rfl 2 (by decide) (va_Nw.use rfl (hN _ kn_149)) (fun _ h9 => h9) rfl dX0_step_64 ?_
          refine lv_iload_n hx hb dX0_step_67 rfl (lv_at hl 1 rfl) ?_
          have g_5 : vp_in x1 8 := gd_in hf
          have hf := gd_el hf
          refine va_iald hx hb hK hP 3 0 rfl rfl g_5 dX0_step_68 ?_
          refine x_i (xrS (As := [.int (M_acting x1.toNatClampNeg)]) (rest := []) ⟨hx, hb, hml, hown, htg⟩ (c_f_Integer_bitCount l D cI cJ cZ _ (M_acting x1.toNatClampNeg) rfl) kc_f_Integer_bitCount kw_453 kw_369 kw_9 dd_f_Integer_bitCount ⟨Nat.le_of_ble_eq_true rfl, Nat.le_of_ble_eq_true rfl⟩ rfl rfl (hP.sub [] rfl) (hD.sub [] (by decide) rfl) hK hN rfl hl.1 rfl (Nat.le_of_ble_eq_true rfl) dX0_step_69 ⟨Nat.le_of_ble_eq_true rfl, Nat.le_of_ble_eq_true rfl⟩) hP hD hS hA [] [0, 1, 2, 3, 4] rfl rfl (by decide) (by decide) (fun _ H locs hP hD hS => ?_)
          have hP : va_P D vwCl [(aJ, .inr (0, [.ref aT, .ref aP, .ref aF, .ref aQ, .ref aM, .ref aB, .int J_hasRun, .ref aJ_plainOrder, .ref aC])), (aM_order, .inl (cI, 8, .inl M_order)), (aM_joins, .inl (cI, 8, .inl M_joins)), (aM_acting, .inl (cI, 8, .inl M_acting)), (aM, .inr (3, [.ref aM_order, .ref aM_joins, .ref aM_acting, .ref aM_estimates, .ref aM_actsBehind, .int M_steps, .int M_filters]))] H := hP
          have hD : va_D A [(aJ, .inr (0, [.ref aT, .ref aP, .ref aF, .ref aQ, .ref aM, .ref aB, .int J_hasRun, .ref aJ_plainOrder, .ref aC])), (aM_order, .inl (cI, 8, .inl M_order)), (aM_joins, .inl (cI, 8, .inl M_joins)), (aM_acting, .inl (cI, 8, .inl M_acting)), (aM, .inr (3, [.ref aM_order, .ref aM_joins, .ref aM_acting, .ref aM_estimates, .ref aM_actsBehind, .int M_steps, .int M_filters]))] := hD
          have hf := Option.some.inj hf
          subst hf
          exact x_iret (fun _ => 0) hQ hx hb hr hlk hK (hP.sub [0, 4, 1, 2, 3] rfl) (hD.sub [0, 4, 1, 2, 3] (by decide) rfl) hS dX0_step_72
        · have hf := xb_f cs_14_2 hf
          refine lv_tableOut (tgt := 73) hx hb dX0_step_14 (by have z0 : x2.toInt ≠ 0 := fun h => cs_14_0 (Int32.toInt_inj.mp (h.trans (by decide))); have z1 : x2.toInt ≠ 1 := fun h => cs_14_1 (Int32.toInt_inj.mp (h.trans (by decide))); have z2 : x2.toInt ≠ 2 := fun h => cs_14_2 (Int32.toInt_inj.mp (h.trans (by decide))); omega) (by decide) ?_
          refine lv_bipush (v := (-2 : Int32)) hx hb dX0_step_73 (by decide) ?_
          have hf := Option.some.inj hf
          subst hf
          exact x_iret (fun _ => 0) hQ hx hb hr hlk hK (hP.sub [0, 4, 1, 2, 3] rfl) (hD.sub [0, 4, 1, 2, 3] (by decide) rfl) hS dX0_step_75
  · have hf := xb_t c_2 hf
    refine lv_iconst (v := (-1 : Int32)) hx hb dX0_step_11 (by decide) ?_
    have hf := Option.some.inj hf
    subst hf
    exact x_iret (fun _ => 0) hQ hx hb hr hlk hK (hP.sub [0, 4, 1, 2, 3] rfl) (hD.sub [0, 4, 1, 2, 3] (by decide) rfl) hS dX0_step_12
