abbrev rm_f_Filters_allHold : Room := { frames := 1, cells := 0, slots := 0, locals := 22 }
set_option maxHeartbeats 4000000 in
set_option maxRecDepth 100000 in
theorem c_f_Filters_allHold (l : Launch) (D : va_G) (cI cJ cZ : ClassId) (sz : Nat) (n : Nat) (aF : Nat) (x1 : Int32) (x2 : Int64) (aF_variable : Nat) (aF_kind : Nat) (aF_value : Nat) (F_safeOnes : Int32) (F_count : Int32) (F_variable : Nat → Int32) (F_kind : Nat → Int32) (F_value : Nat → Int32) {r : Int32} (hf : f_Filters_allHold n x1 x2 F_count F_variable F_kind F_value = some r) : Met l yX1_allHold (.code yX1_allHold cX1_allHold 5 (some .boolean) :: GW) rm_f_Filters_allHold (va_Pc [.ref aF, .int x1, .long x2] (xP D (xT cI cJ cZ) sz [(aF, .inr (1, [.ref aF_variable, .ref aF_kind, .ref aF_value, .int F_safeOnes, .int F_count])), (aF_variable, .inl (cI, 8, .inl F_variable)), (aF_kind, .inl (cI, 8, .inl F_kind)), (aF_value, .inl (cI, 8, .inl F_value))])) (va_Qi (fun r2 (_ : Nat → Nat) => r2 = r ∧ (r = 0 ∨ r = 1)) (bB D (xT cI cJ cZ) (fun _ => [(aF, .inr (1, [.ref aF_variable, .ref aF_kind, .ref aF_value, .int F_safeOnes, .int F_count])), (aF_variable, .inl (cI, 8, .inl F_variable)), (aF_kind, .inl (cI, 8, .inl F_kind)), (aF_value, .inl (cI, 8, .inl F_value))]) (va_A [(aF, .inr (1, [.ref aF_variable, .ref aF_kind, .ref aF_value, .int F_safeOnes, .int F_count])), (aF_variable, .inl (cI, 8, .inl F_variable)), (aF_kind, .inl (cI, 8, .inl F_kind)), (aF_value, .inl (cI, 8, .inl F_value))] sz)) (va_A [(aF, .inr (1, [.ref aF_variable, .ref aF_kind, .ref aF_value, .int F_safeOnes, .int F_count])), (aF_variable, .inl (cI, 8, .inl F_variable)), (aF_kind, .inl (cI, 8, .inl F_kind)), (aF_value, .inl (cI, 8, .inl F_value))] sz)) 0 0 (va_A [(aF, .inr (1, [.ref aF_variable, .ref aF_kind, .ref aF_value, .int F_safeOnes, .int F_count])), (aF_variable, .inl (cI, 8, .inl F_variable)), (aF_kind, .inl (cI, 8, .inl F_kind)), (aF_value, .inl (cI, 8, .inl F_value))] sz) := by
  refine con_start (y := yX1_allHold) (bytes := cX1_allHold) (maxL := 5) (av := [.ref aF, .int x1, .long x2]) (Qc := fun A => va_Qi (fun r2 (_ : Nat → Nat) => r2 = r ∧ (r = 0 ∨ r = 1)) (bB D (xT cI cJ cZ) (fun _ => [(aF, .inr (1, [.ref aF_variable, .ref aF_kind, .ref aF_value, .int F_safeOnes, .int F_count])), (aF_variable, .inl (cI, 8, .inl F_variable)), (aF_kind, .inl (cI, 8, .inl F_kind)), (aF_value, .inl (cI, 8, .inl F_value))]) A) A) (by decide) (Nat.le_of_ble_eq_true rfl) ?_
  intro p e s m args below meth c Q A hx hb hr hlk hml hown hin htg hN hK hQ hA hP hD hS ls hl
  have hl : lv_has ls 5 [(0, .ref aF), (1, .int x1), (2, .long x2)] := hl
  have hown : s.vm.findClass RX1 = some m.cls := hown
  have hf := (f_Filters_allHold_u n x1 x2 F_count F_variable F_kind F_value).symm.trans hf
  refine lv_iconst (v := (0 : Int32)) hx hb dX1_allHold_0 (by decide) ?_
  refine lv_istore (lv' := [(4, .int (0 : Int32)), (0, .ref aF), (1, .int x1), (2, .long x2)]) hx hb dX1_allHold_1 hl (by decide) rfl (fun ls hl => ?_)
  have L_3_21 : ∀ (k : Nat) (x4_22 : Int32) (o_21 : (Int32 ⊕ Unit)), f_Filters_allHold_L0 n x1 x2 F_count F_variable F_kind F_value k x4_22 = some o_21 → (∀ z : Int32, some (Sum.inl z) = some o_21 → z = r) → ∀ (H : Heap) (locs : List Loc), va_P D vwCl [(aF, .inr (1, [.ref aF_variable, .ref aF_kind, .ref aF_value, .int F_safeOnes, .int F_count])), (aF_variable, .inl (cI, 8, .inl F_variable)), (aF_kind, .inl (cI, 8, .inl F_kind)), (aF_value, .inl (cI, 8, .inl F_value))] H → va_D A [(aF, .inr (1, [.ref aF_variable, .ref aF_kind, .ref aF_value, .int F_safeOnes, .int F_count])), (aF_variable, .inl (cI, 8, .inl F_variable)), (aF_kind, .inl (cI, 8, .inl F_kind)), (aF_value, .inl (cI, 8, .inl F_value))] → va_S A s.heap H locs → ∀ ls : Array Slot, lv_has ls 5 [(0, .ref aF), (1, .int x1), (2, .long x2), (4, .int x4_22)] → (some (Sum.inr ()) = some o_21 → ∀ (H : Heap) (locs : List Loc), va_P D vwCl [(aF, .inr (1, [.ref aF_variable, .ref aF_kind, .ref aF_value, .int F_safeOnes, .int F_count])), (aF_variable, .inl (cI, 8, .inl F_variable)), (aF_kind, .inl (cI, 8, .inl F_kind)), (aF_value, .inl (cI, 8, .inl F_value))] H → va_D A [(aF, .inr (1, [.ref aF_variable, .ref aF_kind, .ref aF_value, .int F_safeOnes, .int F_count])), (aF_variable, .inl (cI, 8, .inl F_variable)), (aF_kind, .inl (cI, 8, .inl F_kind)), (aF_value, .inl (cI, 8, .inl F_value))] → va_S A s.heap H locs → ∀ ls : Array Slot, lv_has ls 5 [] → W p l e rm_f_Filters_allHold s m args below meth c H locs 0 0 Q (F0 m 49 ls [])) → W p l e rm_f_Filters_allHold s m args below meth c H locs 0 0 Q (F0 m 3 ls []) := by
    intro k
    induction k with
    | zero =>
      intro x4_22 o_21 hf
      exact absurd (((f_Filters_allHold_L0_z n x1 x2 F_count F_variable F_kind F_value x4_22).symm.trans hf)) (fun h => by cases h)
    | succ k ih =>
      intro x4_22 o_21 hf hret_21 H locs hP hD hS ls hl hX_21
      have hf := (f_Filters_allHold_L0_s n x1 x2 F_count F_variable F_kind F_value k x4_22).symm.trans hf
      refine lv_iload hx hb dX1_allHold_3 (lv_at hl 3 rfl) ?_
      refine lv_aload_n hx hb dX1_allHold_5 rfl (lv_at hl 0 rfl) ?_
      refine va_get (D := D) (ci := 1) (v := .int F_count) (C := RX1) (T := TX1) (N := 5) hx hb htg giX1 hown hK hP 0 rfl rfl 4 (by decide) (htg _ kw_102) (fun _ h9 => h9) rfl dX1_allHold_6 ?_
      refine lv_icmp_ge (tgt := 49) hx hb dX1_allHold_9 (by decide) (fun c_23 => ?_) (fun c_23 => ?_)
      · have hf := xb_t c_23 hf
        exact hX_21  hf _ _ hP hD hS _ (lv_sub hl [] rfl)
      · have hf := xb_f c_23 hf
        refine lv_iload_n hx hb dX1_allHold_12 rfl (lv_at hl 1 rfl) ?_
        refine lv_iload hx hb dX1_allHold_13 (lv_at hl 3 rfl) ?_
        refine x_z (xrSN (As := [.int x1, .int x4_22]) (rest := []) ⟨hx, hb, hml, hown, htg⟩ (c_f_JoinOrder_inSet l D cI cJ cZ _ x1 x4_22 rfl) kc_f_JoinOrder_inSet kn_512 kw_306 kw_1 dd_f_JoinOrder_inSet ⟨Nat.le_of_ble_eq_true rfl, Nat.le_of_ble_eq_true rfl⟩ rfl rfl (hP.sub [] rfl) (hD.sub [] (by decide) rfl) hK hN rfl hl.1 rfl (Nat.le_of_ble_eq_true rfl) dX1_allHold_15 ⟨Nat.le_of_ble_eq_true rfl, Nat.le_of_ble_eq_true rfl⟩) hP hD hS hA [] [0, 1, 2, 3] rfl rfl (by decide) (by decide) (fun _ H locs bz_24 hP hD hS => ?_)
        have hP : va_P D vwCl [(aF, .inr (1, [.ref aF_variable, .ref aF_kind, .ref aF_value, .int F_safeOnes, .int F_count])), (aF_variable, .inl (cI, 8, .inl F_variable)), (aF_kind, .inl (cI, 8, .inl F_kind)), (aF_value, .inl (cI, 8, .inl F_value))] H := hP
        have hD : va_D A [(aF, .inr (1, [.ref aF_variable, .ref aF_kind, .ref aF_value, .int F_safeOnes, .int F_count])), (aF_variable, .inl (cI, 8, .inl F_variable)), (aF_kind, .inl (cI, 8, .inl F_kind)), (aF_value, .inl (cI, 8, .inl F_value))] := hD
        refine lv_if_eq (tgt := 43) hx hb dX1_allHold_18 (by decide) (fun c_25 => ?_) (fun c_25 => ?_)
        · have hf := xb_t c_25 hf
          obtain ⟨x4_26, ex4_26⟩ : ∃ y : Int32, y = x4_22 + (1 : Int32) := ⟨_, rfl⟩
          have hf := nm_nm ex4_26 hf
          refine lv_iinc (v := x4_26) (lv' := [(4, .int x4_26), (0, .ref aF), (1, .int x1), (2, .long x2)]) hx hb dX1_allHold_43 hl (k := 3) rfl (by rw [ex4_26]; rfl) (by decide) rfl (fun ls hl => ?_)
          refine lv_goto (tgt := 3) hx hb dX1_allHold_46 (by decide) ?_
          exact ih x4_26 o_21 hf hret_21 _ _ hP hD hS _ (lv_sub hl [1, 2, 3, 0] rfl) hX_21
        · have hf := xb_f c_25 hf
          refine lv_aload_n hx hb dX1_allHold_21 rfl (lv_at hl 0 rfl) ?_
          refine lv_iload hx hb dX1_allHold_22 (lv_at hl 3 rfl) ?_
          refine lv_lload_n hx hb dX1_allHold_24 rfl (lv_at hl 2 rfl) ?_
          refine lv_aload_n hx hb dX1_allHold_25 rfl (lv_at hl 0 rfl) ?_
          refine va_get (D := D) (ci := 1) (v := .ref aF_variable) (C := RX1) (T := TX1) (N := 5) hx hb htg giX1 hown hK hP 0 rfl rfl 0 (by decide) (htg _ kw_96) (fun _ h9 => h9) rfl dX1_allHold_26 ?_
          refine lv_iload hx hb dX1_allHold_29 (lv_at hl 3 rfl) ?_
          have g_27 : vp_in x4_22 8 := gd_in hf
          have hf := gd_el hf
          refine va_iald hx hb hK hP 1 0 rfl rfl g_27 dX1_allHold_31 ?_
          refine x_i (xrS (As := [.long x2, .int (F_variable x4_22.toNatClampNeg)]) (rest := [.int x4_22, .ref aF]) ⟨hx, hb, hml, hown, htg⟩ (c_f_Table_termOf l D cI cJ cZ _ x2 (F_variable x4_22.toNatClampNeg) rfl) kc_f_Table_termOf kw_513 kw_496 kw_7 dd_f_Table_termOf ⟨Nat.le_of_ble_eq_true rfl, Nat.le_of_ble_eq_true rfl⟩ rfl rfl (hP.sub [] rfl) (hD.sub [] (by decide) rfl) hK hN rfl hl.1 rfl (Nat.le_of_ble_eq_true rfl) dX1_allHold_32 ⟨Nat.le_of_ble_eq_true rfl, Nat.le_of_ble_eq_true rfl⟩) hP hD hS hA [] [0, 1, 2, 3] rfl rfl (by decide) (by decide) (fun _ H locs hP hD hS => ?_)
          have hP : va_P D vwCl [(aF, .inr (1, [.ref aF_variable, .ref aF_kind, .ref aF_value, .int F_safeOnes, .int F_count])), (aF_variable, .inl (cI, 8, .inl F_variable)), (aF_kind, .inl (cI, 8, .inl F_kind)), (aF_value, .inl (cI, 8, .inl F_value))] H := hP
          have hD : va_D A [(aF, .inr (1, [.ref aF_variable, .ref aF_kind, .ref aF_value, .int F_safeOnes, .int F_count])), (aF_variable, .inl (cI, 8, .inl F_variable)), (aF_kind, .inl (cI, 8, .inl F_kind)), (aF_value, .inl (cI, 8, .inl F_value))] := hD
          obtain ⟨r_30, hq_29, hf⟩ := bn1_c hf
          refine x_z (xrV (As := [.int x4_22, .int (f_Table_termOf x2 (F_variable x4_22.toNatClampNeg))]) (b := aF) (rest := []) ⟨hx, hb, hml, hown, htg⟩ (c_f_Filters_holds l D cI cJ cZ _ aF x4_22 (f_Table_termOf x2 (F_variable x4_22.toNatClampNeg)) aF_variable aF_kind aF_value F_safeOnes F_count F_kind F_value hq_29) kc_f_Filters_holds kw_514 kw_516 kp_18 kw_4 dd_f_Filters_holds ⟨Nat.le_of_ble_eq_true rfl, Nat.le_of_ble_eq_true rfl⟩ rfl rfl (hP.sub [0, 2, 3] rfl) (hD.sub [0, 2, 3] (by decide) rfl) hK hN hP (q0 := 0) rfl rfl rfl hl.1 rfl (Nat.le_of_ble_eq_true rfl) dX1_allHold_35 ⟨Nat.le_of_ble_eq_true rfl, Nat.le_of_ble_eq_true rfl⟩) hP hD hS hA [0, 2, 3] [1] rfl rfl (by decide) (by decide) (fun _ H locs bz_29 hP hD hS => ?_)
          have hP : va_P D vwCl [(aF_variable, .inl (cI, 8, .inl F_variable)), (aF, .inr (1, [.ref aF_variable, .ref aF_kind, .ref aF_value, .int F_safeOnes, .int F_count])), (aF_kind, .inl (cI, 8, .inl F_kind)), (aF_value, .inl (cI, 8, .inl F_value))] H := hP
          have hD : va_D A [(aF_variable, .inl (cI, 8, .inl F_variable)), (aF, .inr (1, [.ref aF_variable, .ref aF_kind, .ref aF_value, .int F_safeOnes, .int F_count])), (aF_kind, .inl (cI, 8, .inl F_kind)), (aF_value, .inl (cI, 8, .inl F_value))] := hD
          refine lv_if_ne (tgt := 43) hx hb dX1_allHold_38 (by decide) (fun c_31 => ?_) (fun c_31 => ?_)
          · have hf := xb_f c_31 hf
            obtain ⟨x4_32, ex4_32⟩ : ∃ y : Int32, y = x4_22 + (1 : Int32) := ⟨_, rfl⟩
            have hf := nm_nm ex4_32 hf
            refine lv_iinc (v := x4_32) (lv' := [(4, .int x4_32), (0, .ref aF), (1, .int x1), (2, .long x2)]) hx hb dX1_allHold_43 hl (k := 3) rfl (by rw [ex4_32]; rfl) (by decide) rfl (fun ls hl => ?_)
            refine lv_goto (tgt := 3) hx hb dX1_allHold_46 (by decide) ?_
            exact ih x4_32 o_21 hf hret_21 _ _ (hP.sub [1, 0, 2, 3] rfl) (hD.sub [1, 0, 2, 3] (by decide) rfl) hS _ (lv_sub hl [1, 2, 3, 0] rfl) hX_21
          · have hf := xb_t c_31 hf
            refine lv_iconst (v := (0 : Int32)) hx hb dX1_allHold_41 (by decide) ?_
            have hf := congrArg some (hret_21 _ hf)
            have hf := Option.some.inj hf
            subst hf
            exact x_zret (fun _ => 0) hQ hx hb hr hlk (by decide) hK (hP.sub [1, 0, 2, 3] rfl) (hD.sub [1, 0, 2, 3] (by decide) rfl) hS dX1_allHold_42
  obtain ⟨o_21, ho_21, hret_21, hk_21⟩ := bd0_s hf
  refine L_3_21 n (0 : Int32) o_21 ho_21 hret_21 _ _ hP hD hS _ (lv_sub hl [1, 2, 3, 0] rfl) (fun  hf H locs hP hD hS ls hl => ?_)
  have hf := hk_21  hf
  refine lv_iconst (v := (1 : Int32)) hx hb dX1_allHold_49 (by decide) ?_
  have hf := Option.some.inj hf
  subst hf
  exact x_zret (fun _ => 0) hQ hx hb hr hlk (by decide) hK hP hD hS dX1_allHold_50
