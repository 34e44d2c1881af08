abbrev rm_f_JoinOrder_filter : Room := { frames := 1, cells := 0, slots := 0, locals := 25 }
set_option maxHeartbeats 4000000 in
set_option maxRecDepth 100000 in
theorem c_f_JoinOrder_filter (l : Launch) (D : va_G) (cI cJ cZ : ClassId) (sz : Nat) (aJ : Nat) (x1 : Int32) (x2 : Int32) (x3 : Int32) (x4 : Int32) (aT : Nat) (aP : Nat) (aF : Nat) (aQ : Nat) (aM : Nat) (aB : Nat) (J_hasRun : Int32) (aJ_plainOrder : Nat) (aC : Nat) (aF_variable : Nat) (aF_kind : Nat) (aF_value : Nat) (F_safeOnes : Int32) (F_count : Int32) (F_variable : Nat → Int32) (F_kind : Nat → Int32) (F_value : Nat → Int32) {r : Int32} {F_safeOnes' : Int32} {F_count' : Int32} {F_variable' : Nat → Int32} {F_kind' : Nat → Int32} {F_value' : Nat → Int32} (hf : f_JoinOrder_filter x1 x2 x3 x4 F_safeOnes F_count F_variable F_kind F_value = some (r, F_safeOnes', F_count', F_variable', F_kind', F_value')) : Met l yX0_filter (.code yX0_filter cX0_filter 5 (some .int) :: GW) rm_f_JoinOrder_filter (va_Pc [.ref aJ, .int x1, .int x2, .int x3, .int x4] (xP D (xT cI cJ cZ) sz [(aJ, .inr (0, [.ref aT, .ref aP, .ref aF, .ref aQ, .ref aM, .ref aB, .int J_hasRun, .ref aJ_plainOrder, .ref aC])), (aF, .inr (1, [.ref aF_variable, .ref aF_kind, .ref aF_value, .int F_safeOnes, .int F_count])), (aF_variable, .inl (cI, 8, .inl F_variable)), (aF_kind, .inl (cI, 8, .inl F_kind)), (aF_value, .inl (cI, 8, .inl F_value))])) (va_Qi (fun r2 (_ : Nat → Nat) => r2 = r) (bB D (xT cI cJ cZ) (fun _ => [(aJ, .inr (0, [.ref aT, .ref aP, .ref aF, .ref aQ, .ref aM, .ref aB, .int J_hasRun, .ref aJ_plainOrder, .ref aC])), (aF, .inr (1, [.ref aF_variable, .ref aF_kind, .ref aF_value, .int F_safeOnes', .int F_count'])), (aF_variable, .inl (cI, 8, .inl F_variable')), (aF_kind, .inl (cI, 8, .inl F_kind')), (aF_value, .inl (cI, 8, .inl F_value'))]) (va_A [(aJ, .inr (0, [.ref aT, .ref aP, .ref aF, .ref aQ, .ref aM, .ref aB, .int J_hasRun, .ref aJ_plainOrder, .ref aC])), (aF, .inr (1, [.ref aF_variable, .ref aF_kind, .ref aF_value, .int F_safeOnes, .int F_count])), (aF_variable, .inl (cI, 8, .inl F_variable)), (aF_kind, .inl (cI, 8, .inl F_kind)), (aF_value, .inl (cI, 8, .inl F_value))] sz)) (va_A [(aJ, .inr (0, [.ref aT, .ref aP, .ref aF, .ref aQ, .ref aM, .ref aB, .int J_hasRun, .ref aJ_plainOrder, .ref aC])), (aF, .inr (1, [.ref aF_variable, .ref aF_kind, .ref aF_value, .int F_safeOnes, .int F_count])), (aF_variable, .inl (cI, 8, .inl F_variable)), (aF_kind, .inl (cI, 8, .inl F_kind)), (aF_value, .inl (cI, 8, .inl F_value))] sz)) 0 0 (va_A [(aJ, .inr (0, [.ref aT, .ref aP, .ref aF, .ref aQ, .ref aM, .ref aB, .int J_hasRun, .ref aJ_plainOrder, .ref aC])), (aF, .inr (1, [.ref aF_variable, .ref aF_kind, .ref aF_value, .int F_safeOnes, .int F_count])), (aF_variable, .inl (cI, 8, .inl F_variable)), (aF_kind, .inl (cI, 8, .inl F_kind)), (aF_value, .inl (cI, 8, .inl F_value))] sz) := by
  refine con_start (y := yX0_filter) (bytes := cX0_filter) (maxL := 5) (av := [.ref aJ, .int x1, .int x2, .int x3, .int x4]) (Qc := fun A => va_Qi (fun r2 (_ : Nat → Nat) => r2 = r) (bB D (xT cI cJ cZ) (fun _ => [(aJ, .inr (0, [.ref aT, .ref aP, .ref aF, .ref aQ, .ref aM, .ref aB, .int J_hasRun, .ref aJ_plainOrder, .ref aC])), (aF, .inr (1, [.ref aF_variable, .ref aF_kind, .ref aF_value, .int F_safeOnes', .int F_count'])), (aF_variable, .inl (cI, 8, .inl F_variable')), (aF_kind, .inl (cI, 8, .inl F_kind')), (aF_value, .inl (cI, 8, .inl F_value'))]) A) A) (by decide) (Nat.le_of_ble_eq_true rfl) ?_
  intro p e s m args below meth c Q A hx hb hr hlk hml hown hin htg hN hK hQ hA hP hD hS ls hl
  have hl : lv_has ls 5 [(0, .ref aJ), (1, .int x1), (2, .int x2), (3, .int x3), (4, .int x4)] := hl
  have hown : s.vm.findClass RX0 = some m.cls := hown
  have hf := (f_JoinOrder_filter_u x1 x2 x3 x4 F_safeOnes F_count F_variable F_kind F_value).symm.trans hf
  refine lv_iload_n hx hb dX0_filter_0 rfl (lv_at hl 1 rfl) ?_
  refine x_z (xrS (As := [.int x1]) (rest := []) ⟨hx, hb, hml, hown, htg⟩ (c_f_JoinOrder_isVariable l D cI cJ cZ _ x1 rfl) kc_f_JoinOrder_isVariable kw_279 kw_280 kw_1 dd_f_JoinOrder_isVariable ⟨Nat.le_of_ble_eq_true rfl, Nat.le_of_ble_eq_true rfl⟩ rfl rfl (hP.sub [] rfl) (hD.sub [] (by decide) rfl) hK hN rfl hl.1 rfl (Nat.le_of_ble_eq_true rfl) dX0_filter_1 ⟨Nat.le_of_ble_eq_true rfl, Nat.le_of_ble_eq_true rfl⟩) hP hD hS hA [] [0, 1, 2, 3, 4] rfl rfl (by decide) (by decide) (fun _ H locs bz_1 hP hD hS => ?_)
  have hP : va_P D vwCl [(aJ, .inr (0, [.ref aT, .ref aP, .ref aF, .ref aQ, .ref aM, .ref aB, .int J_hasRun, .ref aJ_plainOrder, .ref aC])), (aF, .inr (1, [.ref aF_variable, .ref aF_kind, .ref aF_value, .int F_safeOnes, .int F_count])), (aF_variable, .inl (cI, 8, .inl F_variable)), (aF_kind, .inl (cI, 8, .inl F_kind)), (aF_value, .inl (cI, 8, .inl F_value))] H := hP
  have hD : va_D A [(aJ, .inr (0, [.ref aT, .ref aP, .ref aF, .ref aQ, .ref aM, .ref aB, .int J_hasRun, .ref aJ_plainOrder, .ref aC])), (aF, .inr (1, [.ref aF_variable, .ref aF_kind, .ref aF_value, .int F_safeOnes, .int F_count])), (aF_variable, .inl (cI, 8, .inl F_variable)), (aF_kind, .inl (cI, 8, .inl F_kind)), (aF_value, .inl (cI, 8, .inl F_value))] := hD
  refine lv_if_eq (tgt := 23) hx hb dX0_filter_4 (by decide) (fun c_2 => ?_) (fun c_2 => ?_)
  · have hf := xb_t c_2 hf
    refine lv_bipush (v := (-2 : Int32)) hx hb dX0_filter_23 (by decide) ?_
    have hf := Option.some.inj hf
    obtain ⟨k9_0, f9_0⟩ := Prod.mk.inj hf
    obtain ⟨k9_1, f9_1⟩ := Prod.mk.inj f9_0
    obtain ⟨k9_2, f9_2⟩ := Prod.mk.inj f9_1
    obtain ⟨k9_3, f9_3⟩ := Prod.mk.inj f9_2
    obtain ⟨k9_4, f9_4⟩ := Prod.mk.inj f9_3
    subst k9_0
    subst k9_1
    subst k9_2
    subst k9_3
    subst k9_4
    subst f9_4
    exact x_iret (fun _ => 0) hQ hx hb hr hlk hK hP hD hS dX0_filter_25
  · have hf := xb_f c_2 hf
    refine lv_iload_n hx hb dX0_filter_7 rfl (lv_at hl 2 rfl) ?_
    refine lv_if_lt (tgt := 23) hx hb dX0_filter_8 (by decide) (fun c_3 => ?_) (fun c_3 => ?_)
    · have hf := xb_t c_3 hf
      refine lv_bipush (v := (-2 : Int32)) hx hb dX0_filter_23 (by decide) ?_
      have hf := Option.some.inj hf
      obtain ⟨k9_0, f9_0⟩ := Prod.mk.inj hf
      obtain ⟨k9_1, f9_1⟩ := Prod.mk.inj f9_0
      obtain ⟨k9_2, f9_2⟩ := Prod.mk.inj f9_1
      obtain ⟨k9_3, f9_3⟩ := Prod.mk.inj f9_2
      obtain ⟨k9_4, f9_4⟩ := Prod.mk.inj f9_3
      subst k9_0
      subst k9_1
      subst k9_2
      subst k9_3
      subst k9_4
      subst f9_4
      exact x_iret (fun _ => 0) hQ hx hb hr hlk hK hP hD hS dX0_filter_25
    · have hf := xb_f c_3 hf
      refine lv_iload_n hx hb dX0_filter_11 rfl (lv_at hl 2 rfl) ?_
      refine lv_iconst (v := (4 : Int32)) hx hb dX0_filter_12 (by decide) ?_
      refine lv_icmp_ge (tgt := 23) hx hb dX0_filter_13 (by decide) (fun c_4 => ?_) (fun c_4 => ?_)
      · have hf := xb_t c_4 hf
        refine lv_bipush (v := (-2 : Int32)) hx hb dX0_filter_23 (by decide) ?_
        have hf := Option.some.inj hf
        obtain ⟨k9_0, f9_0⟩ := Prod.mk.inj hf
        obtain ⟨k9_1, f9_1⟩ := Prod.mk.inj f9_0
        obtain ⟨k9_2, f9_2⟩ := Prod.mk.inj f9_1
        obtain ⟨k9_3, f9_3⟩ := Prod.mk.inj f9_2
        obtain ⟨k9_4, f9_4⟩ := Prod.mk.inj f9_3
        subst k9_0
        subst k9_1
        subst k9_2
        subst k9_3
        subst k9_4
        subst f9_4
        exact x_iret (fun _ => 0) hQ hx hb hr hlk hK hP hD hS dX0_filter_25
      · have hf := xb_f c_4 hf
        refine lv_iload_n hx hb dX0_filter_16 rfl (lv_at hl 3 rfl) ?_
        refine x_z (xrS (As := [.int x3]) (rest := []) ⟨hx, hb, hml, hown, htg⟩ (c_f_JoinOrder_isTerm l D cI cJ cZ _ x3 rfl) kc_f_JoinOrder_isTerm kw_232 kw_233 kw_1 dd_f_JoinOrder_isTerm ⟨Nat.le_of_ble_eq_true rfl, Nat.le_of_ble_eq_true rfl⟩ rfl rfl (hP.sub [] rfl) (hD.sub [] (by decide) rfl) hK hN rfl hl.1 rfl (Nat.le_of_ble_eq_true rfl) dX0_filter_17 ⟨Nat.le_of_ble_eq_true rfl, Nat.le_of_ble_eq_true rfl⟩) hP hD hS hA [] [0, 1, 2, 3, 4] rfl rfl (by decide) (by decide) (fun _ H locs bz_5 hP hD hS => ?_)
        have hP : va_P D vwCl [(aJ, .inr (0, [.ref aT, .ref aP, .ref aF, .ref aQ, .ref aM, .ref aB, .int J_hasRun, .ref aJ_plainOrder, .ref aC])), (aF, .inr (1, [.ref aF_variable, .ref aF_kind, .ref aF_value, .int F_safeOnes, .int F_count])), (aF_variable, .inl (cI, 8, .inl F_variable)), (aF_kind, .inl (cI, 8, .inl F_kind)), (aF_value, .inl (cI, 8, .inl F_value))] H := hP
        have hD : va_D A [(aJ, .inr (0, [.ref aT, .ref aP, .ref aF, .ref aQ, .ref aM, .ref aB, .int J_hasRun, .ref aJ_plainOrder, .ref aC])), (aF, .inr (1, [.ref aF_variable, .ref aF_kind, .ref aF_value, .int F_safeOnes, .int F_count])), (aF_variable, .inl (cI, 8, .inl F_variable)), (aF_kind, .inl (cI, 8, .inl F_kind)), (aF_value, .inl (cI, 8, .inl F_value))] := hD
        refine lv_if_ne (tgt := 26) hx hb dX0_filter_20 (by decide) (fun c_6 => ?_) (fun c_6 => ?_)
        · have hf := xb_f c_6 hf
          refine lv_aload_n hx hb dX0_filter_26 rfl (lv_at hl 0 rfl) ?_
          refine va_get (D := D) (ci := 0) (v := .ref aF) (C := RX0) (T := TX0) (N := 9) hx hb htg giX0 hown hK hP 0 rfl rfl 2 (by decide) (htg _ kw_202) (fun _ h9 => h9) rfl dX0_filter_27 ?_
          refine va_getN (D := D) (ci := 1) (v := .int F_count) (C := RX1) (T := TX1) (N := 5) hx hb htg giX1 hown hK hP 1 rfl rfl 4 (by decide) (va_Nw.use rfl (hN _ kn_104)) (fun _ h9 => h9) rfl dX0_filter_30 ?_
          refine lv_bipush (v := (8 : Int32)) hx hb dX0_filter_33 (by decide) ?_
          refine lv_icmp_lt (tgt := 41) hx hb dX0_filter_35 (by decide) (fun c_7 => ?_) (fun c_7 => ?_)
          · have hf := xb_t c_7 hf
            refine lv_aload_n hx hb dX0_filter_41 rfl (lv_at hl 0 rfl) ?_
            refine va_get (D := D) (ci := 0) (v := .ref aF) (C := RX0) (T := TX0) (N := 9) hx hb htg giX0 hown hK hP 0 rfl rfl 2 (by decide) (htg _ kw_202) (fun _ h9 => h9) rfl dX0_filter_42 ?_
            refine lv_iload_n hx hb dX0_filter_45 rfl (lv_at hl 1 rfl) ?_
            refine x_i (xrS (As := [.int x1]) (rest := [.ref aF]) ⟨hx, hb, hml, hown, htg⟩ (c_f_JoinOrder_indexOf l D cI cJ cZ _ x1 rfl) kc_f_JoinOrder_indexOf kw_324 kw_291 kw_1 dd_f_JoinOrder_indexOf ⟨Nat.le_of_ble_eq_true rfl, Nat.le_of_ble_eq_true rfl⟩ rfl rfl (hP.sub [] rfl) (hD.sub [] (by decide) rfl) hK hN rfl hl.1 rfl (Nat.le_of_ble_eq_true rfl) dX0_filter_46 ⟨Nat.le_of_ble_eq_true rfl, Nat.le_of_ble_eq_true rfl⟩) hP hD hS hA [] [0, 1, 2, 3, 4] rfl rfl (by decide) (by decide) (fun _ H locs hP hD hS => ?_)
            have hP : va_P D vwCl [(aJ, .inr (0, [.ref aT, .ref aP, .ref aF, .ref aQ, .ref aM, .ref aB, .int J_hasRun, .ref aJ_plainOrder, .ref aC])), (aF, .inr (1, [.ref aF_variable, .ref aF_kind, .ref aF_value, .int F_safeOnes, .int F_count])), (aF_variable, .inl (cI, 8, .inl F_variable)), (aF_kind, .inl (cI, 8, .inl F_kind)), (aF_value, .inl (cI, 8, .inl F_value))] H := hP
            have hD : va_D A [(aJ, .inr (0, [.ref aT, .ref aP, .ref aF, .ref aQ, .ref aM, .ref aB, .int J_hasRun, .ref aJ_plainOrder, .ref aC])), (aF, .inr (1, [.ref aF_variable, .ref aF_kind, .ref aF_value, .int F_safeOnes, .int F_count])), (aF_variable, .inl (cI, 8, .inl F_variable)), (aF_kind, .inl (cI, 8, .inl F_kind)), (aF_value, .inl (cI, 8, .inl F_value))] := hD
            refine lv_iload_n hx hb dX0_filter_49 rfl (lv_at hl 2 rfl) ?_
            refine lv_iload_n hx hb dX0_filter_50 rfl (lv_at hl 3 rfl) ?_
            refine lv_iload hx hb dX0_filter_51 (lv_at hl 4 rfl) ?_
            obtain ⟨r_10, F_safeOnes_11, F_count_12, F_variable_13, F_kind_14, F_value_15, hq_9, hf⟩ := bn6_c hf
            refine x_i (xrV (As := [.int (f_JoinOrder_indexOf x1), .int x2, .int x3, .int x4]) (b := aF) (rest := []) ⟨hx, hb, hml, hown, htg⟩ (c_f_Filters_add l D cI cJ cZ _ aF (f_JoinOrder_indexOf x1) x2 x3 x4 aF_variable aF_kind aF_value F_safeOnes F_count F_variable F_kind F_value hq_9) kc_f_Filters_add kw_325 kw_326 kw_327 kw_4 dd_f_Filters_add ⟨Nat.le_of_ble_eq_true rfl, Nat.le_of_ble_eq_true rfl⟩ rfl rfl (hP.sub [1, 2, 3, 4] rfl) (hD.sub [1, 2, 3, 4] (by decide) rfl) hK hN hP (q0 := 1) rfl rfl rfl hl.1 rfl (Nat.le_of_ble_eq_true rfl) dX0_filter_53 ⟨Nat.le_of_ble_eq_true rfl, Nat.le_of_ble_eq_true rfl⟩) hP hD hS hA [1, 2, 3, 4] [0] rfl rfl (by decide) (by decide) (fun _ H locs hP hD hS => ?_)
            have hP : va_P D vwCl [(aJ, .inr (0, [.ref aT, .ref aP, .ref aF, .ref aQ, .ref aM, .ref aB, .int J_hasRun, .ref aJ_plainOrder, .ref aC])), (aF, .inr (1, [.ref aF_variable, .ref aF_kind, .ref aF_value, .int F_safeOnes_11, .int F_count_12])), (aF_variable, .inl (cI, 8, .inl F_variable_13)), (aF_kind, .inl (cI, 8, .inl F_kind_14)), (aF_value, .inl (cI, 8, .inl F_value_15))] H := hP
            have hD : va_D A [(aJ, .inr (0, [.ref aT, .ref aP, .ref aF, .ref aQ, .ref aM, .ref aB, .int J_hasRun, .ref aJ_plainOrder, .ref aC])), (aF, .inr (1, [.ref aF_variable, .ref aF_kind, .ref aF_value, .int F_safeOnes_11, .int F_count_12])), (aF_variable, .inl (cI, 8, .inl F_variable_13)), (aF_kind, .inl (cI, 8, .inl F_kind_14)), (aF_value, .inl (cI, 8, .inl F_value_15))] := hD
            have hf := Option.some.inj hf
            obtain ⟨k9_0, f9_0⟩ := Prod.mk.inj hf
            obtain ⟨k9_1, f9_1⟩ := Prod.mk.inj f9_0
            obtain ⟨k9_2, f9_2⟩ := Prod.mk.inj f9_1
            obtain ⟨k9_3, f9_3⟩ := Prod.mk.inj f9_2
            obtain ⟨k9_4, f9_4⟩ := Prod.mk.inj f9_3
            subst k9_0
            subst k9_1
            subst k9_2
            subst k9_3
            subst k9_4
            subst f9_4
            exact x_iret (fun _ => 0) hQ hx hb hr hlk hK hP hD hS dX0_filter_56
          · have hf := xb_f c_7 hf
            refine lv_bipush (v := (-4 : Int32)) hx hb dX0_filter_38 (by decide) ?_
            have hf := Option.some.inj hf
            obtain ⟨k9_0, f9_0⟩ := Prod.mk.inj hf
            obtain ⟨k9_1, f9_1⟩ := Prod.mk.inj f9_0
            obtain ⟨k9_2, f9_2⟩ := Prod.mk.inj f9_1
            obtain ⟨k9_3, f9_3⟩ := Prod.mk.inj f9_2
            obtain ⟨k9_4, f9_4⟩ := Prod.mk.inj f9_3
            subst k9_0
            subst k9_1
            subst k9_2
            subst k9_3
            subst k9_4
            subst f9_4
            exact x_iret (fun _ => 0) hQ hx hb hr hlk hK hP hD hS dX0_filter_40
        · have hf := xb_t c_6 hf
          refine lv_bipush (v := (-2 : Int32)) hx hb dX0_filter_23 (by decide) ?_
          have hf := Option.some.inj hf
          obtain ⟨k9_0, f9_0⟩ := Prod.mk.inj hf
          obtain ⟨k9_1, f9_1⟩ := Prod.mk.inj f9_0
          obtain ⟨k9_2, f9_2⟩ := Prod.mk.inj f9_1
          obtain ⟨k9_3, f9_3⟩ := Prod.mk.inj f9_2
          obtain ⟨k9_4, f9_4⟩ := Prod.mk.inj f9_3
          subst k9_0
          subst k9_1
          subst k9_2
          subst k9_3
          subst k9_4
          subst f9_4
          exact x_iret (fun _ => 0) hQ hx hb hr hlk hK hP hD hS dX0_filter_25
