abbrev rm_f_Filters_holds : Room := { frames := 0, cells := 0, slots := 0, locals := 0 }
set_option maxHeartbeats 4000000 in
set_option maxRecDepth 100000 in
theorem c_f_Filters_holds (l : Launch) (D : va_G) (cI cJ cZ : ClassId) (sz : Nat) (aF : Nat) (x1 : Int32) (x2 : Int32) (aF_variable : Nat) (aF_kind : Nat) (aF_value : Nat) (F_safeOnes : Int32) (F_count : Int32) (F_kind : Nat → Int32) (F_value : Nat → Int32) {r : Int32} (hf : f_Filters_holds x1 x2 F_kind F_value = some r) : Met l yX1_holds (.code yX1_holds cX1_holds 3 (some .boolean) :: GW) rm_f_Filters_holds (va_Pc [.ref aF, .int x1, .int x2] (xP D (xT cI cJ cZ) sz [(aF, .inr (1, [.ref aF_variable, .ref aF_kind, .ref aF_value, .int F_safeOnes, .int F_count])), (aF_kind, .inl (cI, 8, .inl F_kind)), (aF_value, .inl (cI, 8, .inl F_value))])) (va_Qi (fun r2 (_ : Nat → Nat) => r2 = r ∧ (r = 0 ∨ r = 1)) (bB D (xT cI cJ cZ) (fun _ => [(aF, .inr (1, [.ref aF_variable, .ref aF_kind, .ref aF_value, .int F_safeOnes, .int F_count])), (aF_kind, .inl (cI, 8, .inl F_kind)), (aF_value, .inl (cI, 8, .inl F_value))]) (va_A [(aF, .inr (1, [.ref aF_variable, .ref aF_kind, .ref aF_value, .int F_safeOnes, .int F_count])), (aF_kind, .inl (cI, 8, .inl F_kind)), (aF_value, .inl (cI, 8, .inl F_value))] sz)) (va_A [(aF, .inr (1, [.ref aF_variable, .ref aF_kind, .ref aF_value, .int F_safeOnes, .int F_count])), (aF_kind, .inl (cI, 8, .inl F_kind)), (aF_value, .inl (cI, 8, .inl F_value))] sz)) 0 0 (va_A [(aF, .inr (1, [.ref aF_variable, .ref aF_kind, .ref aF_value, .int F_safeOnes, .int F_count])), (aF_kind, .inl (cI, 8, .inl F_kind)), (aF_value, .inl (cI, 8, .inl F_value))] sz) := by
  refine con_start (y := yX1_holds) (bytes := cX1_holds) (maxL := 3) (av := [.ref aF, .int x1, .int x2]) (Qc := fun A => va_Qi (fun r2 (_ : Nat → Nat) => r2 = r ∧ (r = 0 ∨ r = 1)) (bB D (xT cI cJ cZ) (fun _ => [(aF, .inr (1, [.ref aF_variable, .ref aF_kind, .ref aF_value, .int F_safeOnes, .int F_count])), (aF_kind, .inl (cI, 8, .inl F_kind)), (aF_value, .inl (cI, 8, .inl F_value))]) A) A) (by decide) (Nat.le_of_ble_eq_true rfl) ?_
  intro p e s m args below meth c Q A hx hb hr hlk hml hown hin htg hN hK hQ hA hP hD hS ls hl
  have hl : lv_has ls 3 [(0, .ref aF), (1, .int x1), (2, .int x2)] := hl
  have hown : s.vm.findClass RX1 = some m.cls := hown
  have hf := (f_Filters_holds_u x1 x2 F_kind F_value).symm.trans hf
  refine lv_iload_n hx hb dX1_holds_0 rfl (lv_at hl 2 rfl) ?_
  refine lv_iconst (v := (-1 : Int32)) hx hb dX1_holds_1 (by decide) ?_
  refine lv_icmp_ne (tgt := 7) hx hb dX1_holds_2 (by decide) (fun c_1 => ?_) (fun c_1 => ?_)
  · have hf := xb_f c_1 hf
    refine lv_aload_n hx hb dX1_holds_7 rfl (lv_at hl 0 rfl) ?_
    refine va_get (D := D) (ci := 1) (v := .ref aF_kind) (C := RX1) (T := TX1) (N := 5) hx hb htg giX1 hown hK hP 0 rfl rfl 1 (by decide) (htg _ kw_98) (fun _ h9 => h9) rfl dX1_holds_8 ?_
    refine lv_iload_n hx hb dX1_holds_11 rfl (lv_at hl 1 rfl) ?_
    have g_2 : vp_in x1 8 := gd_in hf
    have hf := gd_el hf
    refine va_iald hx hb hK hP 1 0 rfl rfl g_2 dX1_holds_12 ?_
    refine lv_topi (fun sw_3 esw_3 => ?_)
    have hf := nm_nm esw_3 hf
    rcases Decidable.em (sw_3 = (0 : Int32)) with cs_13_0 | cs_13_0
    · have hf := xb_t cs_13_0 hf
      refine lv_tableIn (off := 27) (tgt := 40) hx hb dX1_holds_13 (by rw [cs_13_0]; decide) (by rw [cs_13_0]; decide) (by rw [cs_13_0]; decide) (by decide) ?_
      refine lv_iload_n hx hb dX1_holds_40 rfl (lv_at hl 2 rfl) ?_
      refine lv_aload_n hx hb dX1_holds_41 rfl (lv_at hl 0 rfl) ?_
      refine va_get (D := D) (ci := 1) (v := .ref aF_value) (C := RX1) (T := TX1) (N := 5) hx hb htg giX1 hown hK hP 0 rfl rfl 2 (by decide) (htg _ kw_99) (fun _ h9 => h9) rfl dX1_holds_42 ?_
      refine lv_iload_n hx hb dX1_holds_45 rfl (lv_at hl 1 rfl) ?_
      refine va_iald hx hb hK hP 2 0 rfl rfl g_2 dX1_holds_46 ?_
      refine lv_icmp_ne (tgt := 54) hx hb dX1_holds_47 (by decide) (fun c_4 => ?_) (fun c_4 => ?_)
      · have hf := xb_f c_4 hf
        refine lv_iconst (v := (0 : Int32)) hx hb dX1_holds_54 (by decide) ?_
        have hf := Option.some.inj hf
        subst hf
        exact x_zret (fun _ => 0) hQ hx hb hr hlk (by decide) hK hP hD hS dX1_holds_55
      · have hf := xb_t c_4 hf
        refine lv_iconst (v := (1 : Int32)) hx hb dX1_holds_50 (by decide) ?_
        refine lv_goto (tgt := 55) hx hb dX1_holds_51 (by decide) ?_
        have hf := Option.some.inj hf
        subst hf
        exact x_zret (fun _ => 0) hQ hx hb hr hlk (by decide) hK hP hD hS dX1_holds_55
    · have hf := xb_f cs_13_0 hf
      rcases Decidable.em (sw_3 = (1 : Int32)) with cs_13_1 | cs_13_1
      · have hf := xb_t cs_13_1 hf
        refine lv_tableIn (off := 43) (tgt := 56) hx hb dX1_holds_13 (by rw [cs_13_1]; decide) (by rw [cs_13_1]; decide) (by rw [cs_13_1]; decide) (by decide) ?_
        refine lv_iload_n hx hb dX1_holds_56 rfl (lv_at hl 2 rfl) ?_
        refine lv_aload_n hx hb dX1_holds_57 rfl (lv_at hl 0 rfl) ?_
        refine va_get (D := D) (ci := 1) (v := .ref aF_value) (C := RX1) (T := TX1) (N := 5) hx hb htg giX1 hown hK hP 0 rfl rfl 2 (by decide) (htg _ kw_99) (fun _ h9 => h9) rfl dX1_holds_58 ?_
        refine lv_iload_n hx hb dX1_holds_61 rfl (lv_at hl 1 rfl) ?_
        refine va_iald hx hb hK hP 2 0 rfl rfl g_2 dX1_holds_62 ?_
        refine lv_icmp_eq (tgt := 70) hx hb dX1_holds_63 (by decide) (fun c_5 => ?_) (fun c_5 => ?_)
        · have hf := xb_t c_5 hf
          refine lv_iconst (v := (0 : Int32)) hx hb dX1_holds_70 (by decide) ?_
          have hf := Option.some.inj hf
          subst hf
          exact x_zret (fun _ => 0) hQ hx hb hr hlk (by decide) hK hP hD hS dX1_holds_71
        · have hf := xb_f c_5 hf
          refine lv_iconst (v := (1 : Int32)) hx hb dX1_holds_66 (by decide) ?_
          refine lv_goto (tgt := 71) hx hb dX1_holds_67 (by decide) ?_
          have hf := Option.some.inj hf
          subst hf
          exact x_zret (fun _ => 0) hQ hx hb hr hlk (by decide) hK hP hD hS dX1_holds_71
      · have hf := xb_f cs_13_1 hf
        rcases Decidable.em (sw_3 = (2 : Int32)) with cs_13_2 | cs_13_2
        · have hf := xb_t cs_13_2 hf
          refine lv_tableIn (off := 59) (tgt := 72) hx hb dX1_holds_13 (by rw [cs_13_2]; decide) (by rw [cs_13_2]; decide) (by rw [cs_13_2]; decide) (by decide) ?_
          refine lv_iload_n hx hb dX1_holds_72 rfl (lv_at hl 2 rfl) ?_
          refine lv_aload_n hx hb dX1_holds_73 rfl (lv_at hl 0 rfl) ?_
          refine va_get (D := D) (ci := 1) (v := .ref aF_value) (C := RX1) (T := TX1) (N := 5) hx hb htg giX1 hown hK hP 0 rfl rfl 2 (by decide) (htg _ kw_99) (fun _ h9 => h9) rfl dX1_holds_74 ?_
          refine lv_iload_n hx hb dX1_holds_77 rfl (lv_at hl 1 rfl) ?_
          refine va_iald hx hb hK hP 2 0 rfl rfl g_2 dX1_holds_78 ?_
          refine lv_icmp_ge (tgt := 86) hx hb dX1_holds_79 (by decide) (fun c_6 => ?_) (fun c_6 => ?_)
          · have hf := xb_t c_6 hf
            refine lv_iconst (v := (0 : Int32)) hx hb dX1_holds_86 (by decide) ?_
            have hf := Option.some.inj hf
            subst hf
            exact x_zret (fun _ => 0) hQ hx hb hr hlk (by decide) hK hP hD hS dX1_holds_87
          · have hf := xb_f c_6 hf
            refine lv_iconst (v := (1 : Int32)) hx hb dX1_holds_82 (by decide) ?_
            refine lv_goto (tgt := 87) hx hb dX1_holds_83 (by decide) ?_
            have hf := Option.some.inj hf
            subst hf
            exact x_zret (fun _ => 0) hQ hx hb hr hlk (by decide) hK hP hD hS dX1_holds_87
        · have hf := xb_f cs_13_2 hf
          refine lv_tableOut (tgt := 88) hx hb dX1_holds_13 (by have z0 : sw_3.toInt ≠ 0 := fun h => cs_13_0 (Int32.toInt_inj.mp (h.trans (by decide))); have z1 : sw_3.toInt ≠ 1 := fun h => cs_13_1 (Int32.toInt_inj.mp (h.trans (by decide))); have z2 : sw_3.toInt ≠ 2 := fun h => cs_13_2 (Int32.toInt_inj.mp (h.trans (by decide))); omega) (by decide) ?_
          refine lv_iload_n hx hb dX1_holds_88 rfl (lv_at hl 2 rfl) ?_
          refine lv_aload_n hx hb dX1_holds_89 rfl (lv_at hl 0 rfl) ?_
          refine va_get (D := D) (ci := 1) (v := .ref aF_value) (C := RX1) (T := TX1) (N := 5) hx hb htg giX1 hown hK hP 0 rfl rfl 2 (by decide) (htg _ kw_99) (fun _ h9 => h9) rfl dX1_holds_90 ?_
          refine lv_iload_n hx hb dX1_holds_93 rfl (lv_at hl 1 rfl) ?_
          refine va_iald hx hb hK hP 2 0 rfl rfl g_2 dX1_holds_94 ?_
          refine lv_icmp_le (tgt := 102) hx hb dX1_holds_95 (by decide) (fun c_7 => ?_) (fun c_7 => ?_)
          · have hf := xb_t c_7 hf
            refine lv_iconst (v := (0 : Int32)) hx hb dX1_holds_102 (by decide) ?_
            have hf := Option.some.inj hf
            subst hf
            exact x_zret (fun _ => 0) hQ hx hb hr hlk (by decide) hK hP hD hS dX1_holds_103
          · have hf := xb_f c_7 hf
            refine lv_iconst (v := (1 : Int32)) hx hb dX1_holds_98 (by decide) ?_
            refine lv_goto (tgt := 103) hx hb dX1_holds_99 (by decide) ?_
            have hf := Option.some.inj hf
            subst hf
            exact x_zret (fun _ => 0) hQ hx hb hr hlk (by decide) hK hP hD hS dX1_holds_103
  · have hf := xb_t c_1 hf
    refine lv_iconst (v := (0 : Int32)) hx hb dX1_holds_5 (by decide) ?_
    have hf := Option.some.inj hf
    subst hf
    exact x_zret (fun _ => 0) hQ hx hb hr hlk (by decide) hK hP hD hS dX1_holds_6
