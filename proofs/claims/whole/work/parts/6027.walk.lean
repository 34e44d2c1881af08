abbrev rm_f_JoinOrder_optional : Room := { frames := 2, cells := 0, slots := 0, locals := 42 }
set_option maxHeartbeats 4000000 in
set_option maxRecDepth 100000 in
theorem c_f_JoinOrder_optional (l : Launch) (D : va_G) (cI cJ cZ : ClassId) (sz : Nat) (n : Nat) (aJ : Nat) (x1 : Int32) (x2 : Int32) (aT : Nat) (aP : Nat) (aF : Nat) (aQ : Nat) (aM : Nat) (aB : Nat) (J_hasRun : Int32) (aJ_plainOrder : Nat) (aC : Nat) (aP_slots : Nat) (aP_termsSeen : Nat) (aP_matches : Nat) (aP_matchCount : Nat) (aP_variables : Nat) (aP_havingVariable : Nat) (aP_told : Nat) (aP_parent : Nat) (aP_allBefore : Nat) (P_required : Int32) (P_hinted : Int32) (P_count : Int32) (P_parent : Nat → Int32) {r : Int32} {P_required' : Int32} {P_parent' : Nat → Int32} (hf : f_JoinOrder_optional n x1 x2 P_required P_hinted P_count P_parent = some (r, P_required', P_parent')) : Met l yX0_optional (.code yX0_optional cX0_optional 3 (some .int) :: GW) rm_f_JoinOrder_optional (va_Pc [.ref aJ, .int x1, .int x2] (xP D (xT cI cJ cZ) sz [(aJ, .inr (0, [.ref aT, .ref aP, .ref aF, .ref aQ, .ref aM, .ref aB, .int J_hasRun, .ref aJ_plainOrder, .ref aC])), (aP, .inr (2, [.ref aP_slots, .ref aP_termsSeen, .ref aP_matches, .ref aP_matchCount, .ref aP_variables, .ref aP_havingVariable, .ref aP_told, .ref aP_parent, .ref aP_allBefore, .int P_required, .int P_hinted, .int P_count])), (aP_parent, .inl (cI, 8, .inl P_parent))])) (va_Qi (fun r2 (_ : Nat → Nat) => r2 = r) (bB D (xT cI cJ cZ) (fun _ => [(aJ, .inr (0, [.ref aT, .ref aP, .ref aF, .ref aQ, .ref aM, .ref aB, .int J_hasRun, .ref aJ_plainOrder, .ref aC])), (aP, .inr (2, [.ref aP_slots, .ref aP_termsSeen, .ref aP_matches, .ref aP_matchCount, .ref aP_variables, .ref aP_havingVariable, .ref aP_told, .ref aP_parent, .ref aP_allBefore, .int P_required', .int P_hinted, .int P_count])), (aP_parent, .inl (cI, 8, .inl P_parent'))]) (va_A [(aJ, .inr (0, [.ref aT, .ref aP, .ref aF, .ref aQ, .ref aM, .ref aB, .int J_hasRun, .ref aJ_plainOrder, .ref aC])), (aP, .inr (2, [.ref aP_slots, .ref aP_termsSeen, .ref aP_matches, .ref aP_matchCount, .ref aP_variables, .ref aP_havingVariable, .ref aP_told, .ref aP_parent, .ref aP_allBefore, .int P_required, .int P_hinted, .int P_count])), (aP_parent, .inl (cI, 8, .inl P_parent))] sz)) (va_A [(aJ, .inr (0, [.ref aT, .ref aP, .ref aF, .ref aQ, .ref aM, .ref aB, .int J_hasRun, .ref aJ_plainOrder, .ref aC])), (aP, .inr (2, [.ref aP_slots, .ref aP_termsSeen, .ref aP_matches, .ref aP_matchCount, .ref aP_variables, .ref aP_havingVariable, .ref aP_told, .ref aP_parent, .ref aP_allBefore, .int P_required, .int P_hinted, .int P_count])), (aP_parent, .inl (cI, 8, .inl P_parent))] sz)) 0 0 (va_A [(aJ, .inr (0, [.ref aT, .ref aP, .ref aF, .ref aQ, .ref aM, .ref aB, .int J_hasRun, .ref aJ_plainOrder, .ref aC])), (aP, .inr (2, [.ref aP_slots, .ref aP_termsSeen, .ref aP_matches, .ref aP_matchCount, .ref aP_variables, .ref aP_havingVariable, .ref aP_told, .ref aP_parent, .ref aP_allBefore, .int P_required, .int P_hinted, .int P_count])), (aP_parent, .inl (cI, 8, .inl P_parent))] sz) := by
  refine con_start (y := yX0_optional) (bytes := cX0_optional) (maxL := 3) (av := [.ref aJ, .int x1, .int x2]) (Qc := fun A => va_Qi (fun r2 (_ : Nat → Nat) => r2 = r) (bB D (xT cI cJ cZ) (fun _ => [(aJ, .inr (0, [.ref aT, .ref aP, .ref aF, .ref aQ, .ref aM, .ref aB, .int J_hasRun, .ref aJ_plainOrder, .ref aC])), (aP, .inr (2, [.ref aP_slots, .ref aP_termsSeen, .ref aP_matches, .ref aP_matchCount, .ref aP_variables, .ref aP_havingVariable, .ref aP_told, .ref aP_parent, .ref aP_allBefore, .int P_required', .int P_hinted, .int P_count])), (aP_parent, .inl (cI, 8, .inl P_parent'))]) A) A) (by decide) (Nat.le_of_ble_eq_true rfl) ?_
  intro p e s m args below meth c Q A hx hb hr hlk hml hown hin htg hN hK hQ hA hP hD hS ls hl
  have hl : lv_has ls 3 [(0, .ref aJ), (1, .int x1), (2, .int x2)] := hl
  have hown : s.vm.findClass RX0 = some m.cls := hown
  have hf := (f_JoinOrder_optional_u n x1 x2 P_required P_hinted P_count P_parent).symm.trans hf
  refine lv_aload_n hx hb dX0_optional_0 rfl (lv_at hl 0 rfl) ?_
  refine va_get (D := D) (ci := 0) (v := .ref aP) (C := RX0) (T := TX0) (N := 9) hx hb htg giX0 hown hK hP 0 rfl rfl 1 (by decide) (htg _ kw_201) (fun _ h9 => h9) rfl dX0_optional_1 ?_
  refine lv_iload_n hx hb dX0_optional_4 rfl (lv_at hl 1 rfl) ?_
  refine x_z (xrV (As := [.int x1]) (b := aP) (rest := []) ⟨hx, hb, hml, hown, htg⟩ (c_f_Patterns_has l D cI cJ cZ _ aP x1 aP_slots aP_termsSeen aP_matches aP_matchCount aP_variables aP_havingVariable aP_told aP_parent aP_allBefore P_required P_hinted P_count rfl) kc_f_Patterns_has kw_297 kw_298 kw_299 kw_3 dd_f_Patterns_has ⟨Nat.le_of_ble_eq_true rfl, Nat.le_of_ble_eq_true rfl⟩ rfl rfl (hP.sub [1] rfl) (hD.sub [1] (by decide) rfl) hK hN hP (q0 := 1) rfl rfl rfl hl.1 rfl (Nat.le_of_ble_eq_true rfl) dX0_optional_5 ⟨Nat.le_of_ble_eq_true rfl, Nat.le_of_ble_eq_true rfl⟩) hP hD hS hA [1] [0, 2] rfl rfl (by decide) (by decide) (fun _ H locs bz_1 hP hD hS => ?_)
  have hP : va_P D vwCl [(aJ, .inr (0, [.ref aT, .ref aP, .ref aF, .ref aQ, .ref aM, .ref aB, .int J_hasRun, .ref aJ_plainOrder, .ref aC])), (aP_parent, .inl (cI, 8, .inl P_parent)), (aP, .inr (2, [.ref aP_slots, .ref aP_termsSeen, .ref aP_matches, .ref aP_matchCount, .ref aP_variables, .ref aP_havingVariable, .ref aP_told, .ref aP_parent, .ref aP_allBefore, .int P_required, .int P_hinted, .int P_count]))] H := hP
  have hD : va_D A [(aJ, .inr (0, [.ref aT, .ref aP, .ref aF, .ref aQ, .ref aM, .ref aB, .int J_hasRun, .ref aJ_plainOrder, .ref aC])), (aP_parent, .inl (cI, 8, .inl P_parent)), (aP, .inr (2, [.ref aP_slots, .ref aP_termsSeen, .ref aP_matches, .ref aP_matchCount, .ref aP_variables, .ref aP_havingVariable, .ref aP_told, .ref aP_parent, .ref aP_allBefore, .int P_required, .int P_hinted, .int P_count]))] := hD
  refine lv_if_eq (tgt := 22) hx hb dX0_optional_8 (by decide) (fun c_2 => ?_) (fun c_2 => ?_)
  · have hf := xb_t c_2 hf
    refine lv_iconst (v := (-1 : Int32)) hx hb dX0_optional_22 (by decide) ?_
    have hf := Option.some.inj hf
    obtain ⟨k9_0, f9_0⟩ := Prod.mk.inj hf
    obtain ⟨k9_1, f9_1⟩ := Prod.mk.inj f9_0
    subst k9_0
    subst k9_1
    subst f9_1
    exact x_iret (fun _ => 0) hQ hx hb hr hlk hK (hP.sub [0, 2, 1] rfl) (hD.sub [0, 2, 1] (by decide) rfl) hS dX0_optional_23
  · have hf := xb_f c_2 hf
    refine lv_aload_n hx hb dX0_optional_11 rfl (lv_at hl 0 rfl) ?_
    refine va_get (D := D) (ci := 0) (v := .ref aP) (C := RX0) (T := TX0) (N := 9) hx hb htg giX0 hown hK hP 0 rfl rfl 1 (by decide) (htg _ kw_201) (fun _ h9 => h9) rfl dX0_optional_12 ?_
    refine lv_iload_n hx hb dX0_optional_15 rfl (lv_at hl 2 rfl) ?_
    refine x_z (xrV (As := [.int x2]) (b := aP) (rest := []) ⟨hx, hb, hml, hown, htg⟩ (c_f_Patterns_has l D cI cJ cZ _ aP x2 aP_slots aP_termsSeen aP_matches aP_matchCount aP_variables aP_havingVariable aP_told aP_parent aP_allBefore P_required P_hinted P_count rfl) kc_f_Patterns_has kw_297 kw_298 kw_299 kw_3 dd_f_Patterns_has ⟨Nat.le_of_ble_eq_true rfl, Nat.le_of_ble_eq_true rfl⟩ rfl rfl (hP.sub [2] rfl) (hD.sub [2] (by decide) rfl) hK hN hP (q0 := 2) rfl rfl rfl hl.1 rfl (Nat.le_of_ble_eq_true rfl) dX0_optional_16 ⟨Nat.le_of_ble_eq_true rfl, Nat.le_of_ble_eq_true rfl⟩) hP hD hS hA [2] [0, 1] rfl rfl (by decide) (by decide) (fun _ H locs bz_3 hP hD hS => ?_)
    have hP : va_P D vwCl [(aJ, .inr (0, [.ref aT, .ref aP, .ref aF, .ref aQ, .ref aM, .ref aB, .int J_hasRun, .ref aJ_plainOrder, .ref aC])), (aP_parent, .inl (cI, 8, .inl P_parent)), (aP, .inr (2, [.ref aP_slots, .ref aP_termsSeen, .ref aP_matches, .ref aP_matchCount, .ref aP_variables, .ref aP_havingVariable, .ref aP_told, .ref aP_parent, .ref aP_allBefore, .int P_required, .int P_hinted, .int P_count]))] H := hP
    have hD : va_D A [(aJ, .inr (0, [.ref aT, .ref aP, .ref aF, .ref aQ, .ref aM, .ref aB, .int J_hasRun, .ref aJ_plainOrder, .ref aC])), (aP_parent, .inl (cI, 8, .inl P_parent)), (aP, .inr (2, [.ref aP_slots, .ref aP_termsSeen, .ref aP_matches, .ref aP_matchCount, .ref aP_variables, .ref aP_havingVariable, .ref aP_told, .ref aP_parent, .ref aP_allBefore, .int P_required, .int P_hinted, .int P_count]))] := hD
    refine lv_if_ne (tgt := 24) hx hb dX0_optional_19 (by decide) (fun c_4 => ?_) (fun c_4 => ?_)
    · have hf := xb_f c_4 hf
      refine lv_aload_n hx hb dX0_optional_24 rfl (lv_at hl 0 rfl) ?_
      refine va_get (D := D) (ci := 0) (v := .ref aP) (C := RX0) (T := TX0) (N := 9) hx hb htg giX0 hown hK hP 0 rfl rfl 1 (by decide) (htg _ kw_201) (fun _ h9 => h9) rfl dX0_optional_25 ?_
      refine lv_iload_n hx hb dX0_optional_28 rfl (lv_at hl 1 rfl) ?_
      refine x_z (xrV (As := [.int x1]) (b := aP) (rest := []) ⟨hx, hb, hml, hown, htg⟩ (c_f_Patterns_isRequired l D cI cJ cZ _ aP x1 aP_slots aP_termsSeen aP_matches aP_matchCount aP_variables aP_havingVariable aP_told aP_parent aP_allBefore P_required P_hinted P_count rfl) kc_f_Patterns_isRequired kw_301 kw_302 kw_303 kw_3 dd_f_Patterns_isRequired ⟨Nat.le_of_ble_eq_true rfl, Nat.le_of_ble_eq_true rfl⟩ rfl rfl (hP.sub [2] rfl) (hD.sub [2] (by decide) rfl) hK hN hP (q0 := 2) rfl rfl rfl hl.1 rfl (Nat.le_of_ble_eq_true rfl) dX0_optional_29 ⟨Nat.le_of_ble_eq_true rfl, Nat.le_of_ble_eq_true rfl⟩) hP hD hS hA [2] [0, 1] rfl rfl (by decide) (by decide) (fun _ H locs bz_5 hP hD hS => ?_)
      have hP : va_P D vwCl [(aJ, .inr (0, [.ref aT, .ref aP, .ref aF, .ref aQ, .ref aM, .ref aB, .int J_hasRun, .ref aJ_plainOrder, .ref aC])), (aP_parent, .inl (cI, 8, .inl P_parent)), (aP, .inr (2, [.ref aP_slots, .ref aP_termsSeen, .ref aP_matches, .ref aP_matchCount, .ref aP_variables, .ref aP_havingVariable, .ref aP_told, .ref aP_parent, .ref aP_allBefore, .int P_required, .int P_hinted, .int P_count]))] H := hP
      have hD : va_D A [(aJ, .inr (0, [.ref aT, .ref aP, .ref aF, .ref aQ, .ref aM, .ref aB, .int J_hasRun, .ref aJ_plainOrder, .ref aC])), (aP_parent, .inl (cI, 8, .inl P_parent)), (aP, .inr (2, [.ref aP_slots, .ref aP_termsSeen, .ref aP_matches, .ref aP_matchCount, .ref aP_variables, .ref aP_havingVariable, .ref aP_told, .ref aP_parent, .ref aP_allBefore, .int P_required, .int P_hinted, .int P_count]))] := hD
      refine lv_if_eq (tgt := 58) hx hb dX0_optional_32 (by decide) (fun c_6 => ?_) (fun c_6 => ?_)
      · have hf := xb_t c_6 hf
        refine lv_bipush (v := (-3 : Int32)) hx hb dX0_optional_58 (by decide) ?_
        have hf := Option.some.inj hf
        obtain ⟨k9_0, f9_0⟩ := Prod.mk.inj hf
        obtain ⟨k9_1, f9_1⟩ := Prod.mk.inj f9_0
        subst k9_0
        subst k9_1
        subst f9_1
        exact x_iret (fun _ => 0) hQ hx hb hr hlk hK (hP.sub [0, 2, 1] rfl) (hD.sub [0, 2, 1] (by decide) rfl) hS dX0_optional_60
      · have hf := xb_f c_6 hf
        refine lv_aload_n hx hb dX0_optional_35 rfl (lv_at hl 0 rfl) ?_
        refine va_get (D := D) (ci := 0) (v := .ref aP) (C := RX0) (T := TX0) (N := 9) hx hb htg giX0 hown hK hP 0 rfl rfl 1 (by decide) (htg _ kw_201) (fun _ h9 => h9) rfl dX0_optional_36 ?_
        refine lv_iload_n hx hb dX0_optional_39 rfl (lv_at hl 1 rfl) ?_
        refine x_z (xrV (As := [.int x1]) (b := aP) (rest := []) ⟨hx, hb, hml, hown, htg⟩ (c_f_Patterns_isHinted l D cI cJ cZ _ aP x1 aP_slots aP_termsSeen aP_matches aP_matchCount aP_variables aP_havingVariable aP_told aP_parent aP_allBefore P_required P_hinted P_count rfl) kc_f_Patterns_isHinted kw_308 kw_309 kw_310 kw_3 dd_f_Patterns_isHinted ⟨Nat.le_of_ble_eq_true rfl, Nat.le_of_ble_eq_true rfl⟩ rfl rfl (hP.sub [2] rfl) (hD.sub [2] (by decide) rfl) hK hN hP (q0 := 2) rfl rfl rfl hl.1 rfl (Nat.le_of_ble_eq_true rfl) dX0_optional_40 ⟨Nat.le_of_ble_eq_true rfl, Nat.le_of_ble_eq_true rfl⟩) hP hD hS hA [2] [0, 1] rfl rfl (by decide) (by decide) (fun _ H locs bz_7 hP hD hS => ?_)
        have hP : va_P D vwCl [(aJ, .inr (0, [.ref aT, .ref aP, .ref aF, .ref aQ, .ref aM, .ref aB, .int J_hasRun, .ref aJ_plainOrder, .ref aC])), (aP_parent, .inl (cI, 8, .inl P_parent)), (aP, .inr (2, [.ref aP_slots, .ref aP_termsSeen, .ref aP_matches, .ref aP_matchCount, .ref aP_variables, .ref aP_havingVariable, .ref aP_told, .ref aP_parent, .ref aP_allBefore, .int P_required, .int P_hinted, .int P_count]))] H := hP
        have hD : va_D A [(aJ, .inr (0, [.ref aT, .ref aP, .ref aF, .ref aQ, .ref aM, .ref aB, .int J_hasRun, .ref aJ_plainOrder, .ref aC])), (aP_parent, .inl (cI, 8, .inl P_parent)), (aP, .inr (2, [.ref aP_slots, .ref aP_termsSeen, .ref aP_matches, .ref aP_matchCount, .ref aP_variables, .ref aP_havingVariable, .ref aP_told, .ref aP_parent, .ref aP_allBefore, .int P_required, .int P_hinted, .int P_count]))] := hD
        refine lv_if_ne (tgt := 58) hx hb dX0_optional_43 (by decide) (fun c_8 => ?_) (fun c_8 => ?_)
        · have hf := xb_f c_8 hf
          refine lv_bipush (v := (-3 : Int32)) hx hb dX0_optional_58 (by decide) ?_
          have hf := Option.some.inj hf
          obtain ⟨k9_0, f9_0⟩ := Prod.mk.inj hf
          obtain ⟨k9_1, f9_1⟩ := Prod.mk.inj f9_0
          subst k9_0
          subst k9_1
          subst f9_1
          exact x_iret (fun _ => 0) hQ hx hb hr hlk hK (hP.sub [0, 2, 1] rfl) (hD.sub [0, 2, 1] (by decide) rfl) hS dX0_optional_60
        · have hf := xb_t c_8 hf
          refine lv_aload_n hx hb dX0_optional_46 rfl (lv_at hl 0 rfl) ?_
          refine va_get (D := D) (ci := 0) (v := .ref aP) (C := RX0) (T := TX0) (N := 9) hx hb htg giX0 hown hK hP 0 rfl rfl 1 (by decide) (htg _ kw_201) (fun _ h9 => h9) rfl dX0_optional_47 ?_
          refine lv_iload_n hx hb dX0_optional_50 rfl (lv_at hl 2 rfl) ?_
          refine lv_iload_n hx hb dX0_optional_51 rfl (lv_at hl 1 rfl) ?_
          obtain ⟨r_10, hq_9, hf⟩ := bn1_c hf
          refine x_z (xrV (As := [.int x2, .int x1]) (b := aP) (rest := []) ⟨hx, hb, hml, hown, htg⟩ (c_f_Patterns_hangsOn l D cI cJ cZ _ n aP x2 x1 aP_slots aP_termsSeen aP_matches aP_matchCount aP_variables aP_havingVariable aP_told aP_parent aP_allBefore P_required P_hinted P_count P_parent hq_9) kc_f_Patterns_hangsOn kw_312 kw_313 kw_314 kw_3 dd_f_Patterns_hangsOn ⟨Nat.le_of_ble_eq_true rfl, Nat.le_of_ble_eq_true rfl⟩ rfl rfl (hP.sub [2, 1] rfl) (hD.sub [2, 1] (by decide) rfl) hK hN hP (q0 := 2) rfl rfl rfl hl.1 rfl (Nat.le_of_ble_eq_true rfl) dX0_optional_52 ⟨Nat.le_of_ble_eq_true rfl, Nat.le_of_ble_eq_true rfl⟩) hP hD hS hA [2, 1] [0] rfl rfl (by decide) (by decide) (fun _ H locs bz_9 hP hD hS => ?_)
          have hP : va_P D vwCl [(aJ, .inr (0, [.ref aT, .ref aP, .ref aF, .ref aQ, .ref aM, .ref aB, .int J_hasRun, .ref aJ_plainOrder, .ref aC])), (aP, .inr (2, [.ref aP_slots, .ref aP_termsSeen, .ref aP_matches, .ref aP_matchCount, .ref aP_variables, .ref aP_havingVariable, .ref aP_told, .ref aP_parent, .ref aP_allBefore, .int P_required, .int P_hinted, .int P_count])), (aP_parent, .inl (cI, 8, .inl P_parent))] H := hP
          have hD : va_D A [(aJ, .inr (0, [.ref aT, .ref aP, .ref aF, .ref aQ, .ref aM, .ref aB, .int J_hasRun, .ref aJ_plainOrder, .ref aC])), (aP, .inr (2, [.ref aP_slots, .ref aP_termsSeen, .ref aP_matches, .ref aP_matchCount, .ref aP_variables, .ref aP_havingVariable, .ref aP_told, .ref aP_parent, .ref aP_allBefore, .int P_required, .int P_hinted, .int P_count])), (aP_parent, .inl (cI, 8, .inl P_parent))] := hD
          refine lv_if_eq (tgt := 61) hx hb dX0_optional_55 (by decide) (fun c_11 => ?_) (fun c_11 => ?_)
          · have hf := xb_t c_11 hf
            refine lv_aload_n hx hb dX0_optional_61 rfl (lv_at hl 0 rfl) ?_
            refine va_get (D := D) (ci := 0) (v := .ref aP) (C := RX0) (T := TX0) (N := 9) hx hb htg giX0 hown hK hP 0 rfl rfl 1 (by decide) (htg _ kw_201) (fun _ h9 => h9) rfl dX0_optional_62 ?_
            refine lv_iload_n hx hb dX0_optional_65 rfl (lv_at hl 1 rfl) ?_
            refine lv_iload_n hx hb dX0_optional_66 rfl (lv_at hl 2 rfl) ?_
            obtain ⟨P_required_13, P_parent_14, hq_12, hf⟩ := bn2_c hf
            refine x_v (xrV (As := [.int x1, .int x2]) (b := aP) (rest := []) ⟨hx, hb, hml, hown, htg⟩ (c_f_Patterns_hang l D cI cJ cZ _ aP x1 x2 aP_slots aP_termsSeen aP_matches aP_matchCount aP_variables aP_havingVariable aP_told aP_parent aP_allBefore P_required P_hinted P_count P_parent hq_12) kc_f_Patterns_hang kw_316 kw_317 kw_318 kw_3 dd_f_Patterns_hang ⟨Nat.le_of_ble_eq_true rfl, Nat.le_of_ble_eq_true rfl⟩ rfl rfl (hP.sub [1, 2] rfl) (hD.sub [1, 2] (by decide) rfl) hK hN hP (q0 := 1) rfl rfl rfl hl.1 rfl (Nat.le_of_ble_eq_true rfl) dX0_optional_67 ⟨Nat.le_of_ble_eq_true rfl, Nat.le_of_ble_eq_true rfl⟩) hP hD hS hA [1, 2] [0] rfl rfl (by decide) (by decide) (fun _ H locs hP hD hS => ?_)
            have hP : va_P D vwCl [(aJ, .inr (0, [.ref aT, .ref aP, .ref aF, .ref aQ, .ref aM, .ref aB, .int J_hasRun, .ref aJ_plainOrder, .ref aC])), (aP, .inr (2, [.ref aP_slots, .ref aP_termsSeen, .ref aP_matches, .ref aP_matchCount, .ref aP_variables, .ref aP_havingVariable, .ref aP_told, .ref aP_parent, .ref aP_allBefore, .int P_required_13, .int P_hinted, .int P_count])), (aP_parent, .inl (cI, 8, .inl P_parent_14))] H := hP
            have hD : va_D A [(aJ, .inr (0, [.ref aT, .ref aP, .ref aF, .ref aQ, .ref aM, .ref aB, .int J_hasRun, .ref aJ_plainOrder, .ref aC])), (aP, .inr (2, [.ref aP_slots, .ref aP_termsSeen, .ref aP_matches, .ref aP_matchCount, .ref aP_variables, .ref aP_havingVariable, .ref aP_told, .ref aP_parent, .ref aP_allBefore, .int P_required_13, .int P_hinted, .int P_count])), (aP_parent, .inl (cI, 8, .inl P_parent_14))] := hD
            refine lv_iconst (v := (1 : Int32)) hx hb dX0_optional_70 (by decide) ?_
            have hf := Option.some.inj hf
            obtain ⟨k9_0, f9_0⟩ := Prod.mk.inj hf
            obtain ⟨k9_1, f9_1⟩ := Prod.mk.inj f9_0
            subst k9_0
            subst k9_1
            subst f9_1
            exact x_iret (fun _ => 0) hQ hx hb hr hlk hK hP hD hS dX0_optional_71
          · have hf := xb_f c_11 hf
            refine lv_bipush (v := (-3 : Int32)) hx hb dX0_optional_58 (by decide) ?_
            have hf := Option.some.inj hf
            obtain ⟨k9_0, f9_0⟩ := Prod.mk.inj hf
            obtain ⟨k9_1, f9_1⟩ := Prod.mk.inj f9_0
            subst k9_0
            subst k9_1
            subst f9_1
            exact x_iret (fun _ => 0) hQ hx hb hr hlk hK hP hD hS dX0_optional_60
    · have hf := xb_t c_4 hf
      refine lv_iconst (v := (-1 : Int32)) hx hb dX0_optional_22 (by decide) ?_
      have hf := Option.some.inj hf
      obtain ⟨k9_0, f9_0⟩ := Prod.mk.inj hf
      obtain ⟨k9_1, f9_1⟩ := Prod.mk.inj f9_0
      subst k9_0
      subst k9_1
      subst f9_1
      exact x_iret (fun _ => 0) hQ hx hb hr hlk hK (hP.sub [0, 2, 1] rfl) (hD.sub [0, 2, 1] (by decide) rfl) hS dX0_optional_23
