abbrev rm_f_Filters_add : Room := { frames := 0, cells := 0, slots := 0, locals := 0 }
set_option maxHeartbeats 4000000 in
set_option maxRecDepth 100000 in
theorem c_f_Filters_add (l : Launch) (D : va_G) (cI cJ cZ : ClassId) (sz : Nat) (aF : Nat) (x1 : Int32) (x2 : Int32) (x3 : Int32) (x4 : Int32) (aF_variable : Nat) (aF_kind : Nat) (aF_value : Nat) (F_safeOnes : Int32) (F_count : Int32) (F_variable : Nat → Int32) (F_kind : Nat → Int32) (F_value : Nat → Int32) {r : Int32} {F_safeOnes' : Int32} {F_count' : Int32} {F_variable' : Nat → Int32} {F_kind' : Nat → Int32} {F_value' : Nat → Int32} (hf : f_Filters_add x1 x2 x3 x4 F_safeOnes F_count F_variable F_kind F_value = some (r, F_safeOnes', F_count', F_variable', F_kind', F_value')) : Met l yX1_add (.code yX1_add cX1_add 6 (some .int) :: GW) rm_f_Filters_add (va_Pc [.ref aF, .int x1, .int x2, .int x3, .int x4] (xP D (xT cI cJ cZ) sz [(aF, .inr (1, [.ref aF_variable, .ref aF_kind, .ref aF_value, .int F_safeOnes, .int F_count])), (aF_variable, .inl (cI, 8, .inl F_variable)), (aF_kind, .inl (cI, 8, .inl F_kind)), (aF_value, .inl (cI, 8, .inl F_value))])) (va_Qi (fun r2 (_ : Nat → Nat) => r2 = r) (bB D (xT cI cJ cZ) (fun _ => [(aF, .inr (1, [.ref aF_variable, .ref aF_kind, .ref aF_value, .int F_safeOnes', .int F_count'])), (aF_variable, .inl (cI, 8, .inl F_variable')), (aF_kind, .inl (cI, 8, .inl F_kind')), (aF_value, .inl (cI, 8, .inl F_value'))]) (va_A [(aF, .inr (1, [.ref aF_variable, .ref aF_kind, .ref aF_value, .int F_safeOnes, .int F_count])), (aF_variable, .inl (cI, 8, .inl F_variable)), (aF_kind, .inl (cI, 8, .inl F_kind)), (aF_value, .inl (cI, 8, .inl F_value))] sz)) (va_A [(aF, .inr (1, [.ref aF_variable, .ref aF_kind, .ref aF_value, .int F_safeOnes, .int F_count])), (aF_variable, .inl (cI, 8, .inl F_variable)), (aF_kind, .inl (cI, 8, .inl F_kind)), (aF_value, .inl (cI, 8, .inl F_value))] sz)) 0 0 (va_A [(aF, .inr (1, [.ref aF_variable, .ref aF_kind, .ref aF_value, .int F_safeOnes, .int F_count])), (aF_variable, .inl (cI, 8, .inl F_variable)), (aF_kind, .inl (cI, 8, .inl F_kind)), (aF_value, .inl (cI, 8, .inl F_value))] sz) := by
  refine con_start (y := yX1_add) (bytes := cX1_add) (maxL := 6) (av := [.ref aF, .int x1, .int x2, .int x3, .int x4]) (Qc := fun A => va_Qi (fun r2 (_ : Nat → Nat) => r2 = r) (bB D (xT cI cJ cZ) (fun _ => [(aF, .inr (1, [.ref aF_variable, .ref aF_kind, .ref aF_value, .int F_safeOnes', .int F_count'])), (aF_variable, .inl (cI, 8, .inl F_variable')), (aF_kind, .inl (cI, 8, .inl F_kind')), (aF_value, .inl (cI, 8, .inl F_value'))]) A) A) (by decide) (Nat.le_of_ble_eq_true rfl) ?_
  intro p e s m args below meth c Q A hx hb hr hlk hml hown hin htg hN hK hQ hA hP hD hS ls hl
  have hl : lv_has ls 6 [(0, .ref aF), (1, .int x1), (2, .int x2), (3, .int x3), (4, .int x4)] := hl
  have hown : s.vm.findClass RX1 = some m.cls := hown
  have hf := (f_Filters_add_u x1 x2 x3 x4 F_safeOnes F_count F_variable F_kind F_value).symm.trans hf
  refine lv_aload_n hx hb dX1_add_0 rfl (lv_at hl 0 rfl) ?_
  refine va_get (D := D) (ci := 1) (v := .int F_count) (C := RX1) (T := TX1) (N := 5) hx hb htg giX1 hown hK hP 0 rfl rfl 4 (by decide) (htg _ kw_102) (fun _ h9 => h9) rfl dX1_add_1 ?_
  refine lv_istore (lv' := [(5, .int F_count), (0, .ref aF), (1, .int x1), (2, .int x2), (3, .int x3), (4, .int x4)]) hx hb dX1_add_4 hl (by decide) rfl (fun ls hl => ?_)
  refine lv_aload_n hx hb dX1_add_6 rfl (lv_at hl 1 rfl) ?_
  refine lv_dup hx hb dX1_add_7 rfl ?_
  refine va_get (D := D) (ci := 1) (v := .int F_count) (C := RX1) (T := TX1) (N := 5) hx hb htg giX1 hown hK hP 0 rfl rfl 4 (by decide) (htg _ kw_102) (fun _ h9 => h9) rfl dX1_add_8 ?_
  refine lv_iconst (v := (1 : Int32)) hx hb dX1_add_11 (by decide) ?_
  refine lv_iadd hx hb dX1_add_12 ?_
  refine lv_topi (fun v_1 ev_1 => ?_)
  have hf := nm_nm ev_1 hf
  refine va_put (D := D) (ci := 1) (v := .int v_1) (ty := .int) (C := RX1) (T := TX1) (N := 5) hx hb htg giX1 tyX1 tyX1_ok nmX1 hown hK hP hD hS 0 rfl rfl 4 (by decide) (htg _ kw_102) (fun _ h9 => h9) rfl (by decide +kernel) rfl rfl (Nat.le_of_ble_eq_true rfl) dX1_add_13 (fun H locs hP hD hS => ?_)
  have hP : va_P D vwCl [(aF, .inr (1, [.ref aF_variable, .ref aF_kind, .ref aF_value, .int F_safeOnes, .int v_1])), (aF_variable, .inl (cI, 8, .inl F_variable)), (aF_kind, .inl (cI, 8, .inl F_kind)), (aF_value, .inl (cI, 8, .inl F_value))] H := hP
  have hD : va_D A [(aF, .inr (1, [.ref aF_variable, .ref aF_kind, .ref aF_value, .int F_safeOnes, .int v_1])), (aF_variable, .inl (cI, 8, .inl F_variable)), (aF_kind, .inl (cI, 8, .inl F_kind)), (aF_value, .inl (cI, 8, .inl F_value))] := hD
  refine lv_aload_n hx hb dX1_add_16 rfl (lv_at hl 1 rfl) ?_
  refine va_get (D := D) (ci := 1) (v := .ref aF_variable) (C := RX1) (T := TX1) (N := 5) hx hb htg giX1 hown hK hP 0 rfl rfl 0 (by decide) (htg _ kw_96) (fun _ h9 => h9) rfl dX1_add_17 ?_
  refine lv_iload hx hb dX1_add_20 (lv_at hl 0 rfl) ?_
  refine lv_iload_n hx hb dX1_add_22 rfl (lv_at hl 2 rfl) ?_
  have g_2 : vp_in F_count 8 := gd_in hf
  have hf := gd_el hf
  refine x_iast hx hb hK hP hD hS 1 0 rfl rfl g_2 dX1_add_23 (fun F_variable_3 eF_variable_3 H locs hP hD hS => ?_)
  have hf := nm_nm eF_variable_3 hf
  have hP : va_P D vwCl [(aF, .inr (1, [.ref aF_variable, .ref aF_kind, .ref aF_value, .int F_safeOnes, .int v_1])), (aF_variable, .inl (cI, 8, .inl F_variable_3)), (aF_kind, .inl (cI, 8, .inl F_kind)), (aF_value, .inl (cI, 8, .inl F_value))] H := hP
  have hD : va_D A [(aF, .inr (1, [.ref aF_variable, .ref aF_kind, .ref aF_value, .int F_safeOnes, .int v_1])), (aF_variable, .inl (cI, 8, .inl F_variable_3)), (aF_kind, .inl (cI, 8, .inl F_kind)), (aF_value, .inl (cI, 8, .inl F_value))] := hD
  refine lv_aload_n hx hb dX1_add_24 rfl (lv_at hl 1 rfl) ?_
  refine va_get (D := D) (ci := 1) (v := .ref aF_kind) (C := RX1) (T := TX1) (N := 5) hx hb htg giX1 hown hK hP 0 rfl rfl 1 (by decide) (htg _ kw_98) (fun _ h9 => h9) rfl dX1_add_25 ?_
  refine lv_iload hx hb dX1_add_28 (lv_at hl 0 rfl) ?_
  refine lv_iload_n hx hb dX1_add_30 rfl (lv_at hl 3 rfl) ?_
  refine x_iast hx hb hK hP hD hS 2 0 rfl rfl g_2 dX1_add_31 (fun F_kind_4 eF_kind_4 H locs hP hD hS => ?_)
  have hf := nm_nm eF_kind_4 hf
  have hP : va_P D vwCl [(aF, .inr (1, [.ref aF_variable, .ref aF_kind, .ref aF_value, .int F_safeOnes, .int v_1])), (aF_variable, .inl (cI, 8, .inl F_variable_3)), (aF_kind, .inl (cI, 8, .inl F_kind_4)), (aF_value, .inl (cI, 8, .inl F_value))] H := hP
  have hD : va_D A [(aF, .inr (1, [.ref aF_variable, .ref aF_kind, .ref aF_value, .int F_safeOnes, .int v_1])), (aF_variable, .inl (cI, 8, .inl F_variable_3)), (aF_kind, .inl (cI, 8, .inl F_kind_4)), (aF_value, .inl (cI, 8, .inl F_value))] := hD
  refine lv_aload_n hx hb dX1_add_32 rfl (lv_at hl 1 rfl) ?_
  refine va_get (D := D) (ci := 1) (v := .ref aF_value) (C := RX1) (T := TX1) (N := 5) hx hb htg giX1 hown hK hP 0 rfl rfl 2 (by decide) (htg _ kw_99) (fun _ h9 => h9) rfl dX1_add_33 ?_
  refine lv_iload hx hb dX1_add_36 (lv_at hl 0 rfl) ?_
  refine lv_iload_n hx hb dX1_add_38 rfl (lv_at hl 4 rfl) ?_
  refine x_iast hx hb hK hP hD hS 3 0 rfl rfl g_2 dX1_add_39 (fun F_value_5 eF_value_5 H locs hP hD hS => ?_)
  have hf := nm_nm eF_value_5 hf
  have hP : va_P D vwCl [(aF, .inr (1, [.ref aF_variable, .ref aF_kind, .ref aF_value, .int F_safeOnes, .int v_1])), (aF_variable, .inl (cI, 8, .inl F_variable_3)), (aF_kind, .inl (cI, 8, .inl F_kind_4)), (aF_value, .inl (cI, 8, .inl F_value_5))] H := hP
  have hD : va_D A [(aF, .inr (1, [.ref aF_variable, .ref aF_kind, .ref aF_value, .int F_safeOnes, .int v_1])), (aF_variable, .inl (cI, 8, .inl F_variable_3)), (aF_kind, .inl (cI, 8, .inl F_kind_4)), (aF_value, .inl (cI, 8, .inl F_value_5))] := hD
  refine lv_iload hx hb dX1_add_40 (lv_at hl 5 rfl) ?_
  refine lv_if_eq (tgt := 58) hx hb dX1_add_42 (by decide) (fun c_6 => ?_) (fun c_6 => ?_)
  · have hf := xb_t c_6 hf
    refine lv_iload hx hb dX1_add_58 (lv_at hl 0 rfl) ?_
    have hf := Option.some.inj hf
    obtain ⟨k9_0, f9_0⟩ := Prod.mk.inj hf
    obtain ⟨k9_1, f9_1⟩ := Prod.mk.inj f9_0
    obtain ⟨k9_2, f9_2⟩ := Prod.mk.inj f9_1
    obtain ⟨k9_3, f9_3⟩ := Prod.mk.inj f9_2
    obtain ⟨k9_4, f9_4⟩ := Prod.mk.inj f9_3
    subst k9_0
    subst k9_1
    subst k9_2
    subst k9_3
    subst k9_4
    subst f9_4
    exact x_iret (fun _ => 0) hQ hx hb hr hlk hK hP hD hS dX1_add_60
  · have hf := xb_f c_6 hf
    refine lv_aload_n hx hb dX1_add_45 rfl (lv_at hl 1 rfl) ?_
    refine lv_dup hx hb dX1_add_46 rfl ?_
    refine va_get (D := D) (ci := 1) (v := .int F_safeOnes) (C := RX1) (T := TX1) (N := 5) hx hb htg giX1 hown hK hP 0 rfl rfl 3 (by decide) (htg _ kw_100) (fun _ h9 => h9) rfl dX1_add_47 ?_
    refine lv_iconst (v := (1 : Int32)) hx hb dX1_add_50 (by decide) ?_
    refine lv_iload hx hb dX1_add_51 (lv_at hl 0 rfl) ?_
    refine lv_ishl hx hb dX1_add_53 ?_
    refine lv_ior hx hb dX1_add_54 ?_
    refine lv_topi (fun v_7 ev_7 => ?_)
    have hf := nm_nm ev_7 hf
    refine va_put (D := D) (ci := 1) (v := .int v_7) (ty := .int) (C := RX1) (T := TX1) (N := 5) hx hb htg giX1 tyX1 tyX1_ok nmX1 hown hK hP hD hS 0 rfl rfl 3 (by decide) (htg _ kw_100) (fun _ h9 => h9) rfl (by decide +kernel) rfl rfl (Nat.le_of_ble_eq_true rfl) dX1_add_55 (fun H locs hP hD hS => ?_)
    have hP : va_P D vwCl [(aF, .inr (1, [.ref aF_variable, .ref aF_kind, .ref aF_value, .int v_7, .int v_1])), (aF_variable, .inl (cI, 8, .inl F_variable_3)), (aF_kind, .inl (cI, 8, .inl F_kind_4)), (aF_value, .inl (cI, 8, .inl F_value_5))] H := hP
    have hD : va_D A [(aF, .inr (1, [.ref aF_variable, .ref aF_kind, .ref aF_value, .int v_7, .int v_1])), (aF_variable, .inl (cI, 8, .inl F_variable_3)), (aF_kind, .inl (cI, 8, .inl F_kind_4)), (aF_value, .inl (cI, 8, .inl F_value_5))] := hD
    refine lv_iload hx hb dX1_add_58 (lv_at hl 0 rfl) ?_
    have hf := Option.some.inj hf
    obtain ⟨k9_0, f9_0⟩ := Prod.mk.inj hf
    obtain ⟨k9_1, f9_1⟩ := Prod.mk.inj f9_0
    obtain ⟨k9_2, f9_2⟩ := Prod.mk.inj f9_1
    obtain ⟨k9_3, f9_3⟩ := Prod.mk.inj f9_2
    obtain ⟨k9_4, f9_4⟩ := Prod.mk.inj f9_3
    subst k9_0
    subst k9_1
    subst k9_2
    subst k9_3
    subst k9_4
    subst f9_4
    exact x_iret (fun _ => 0) hQ hx hb hr hlk hK hP hD hS dX1_add_60
