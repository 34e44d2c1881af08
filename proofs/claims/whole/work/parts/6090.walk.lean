abbrev rm_f_Table_sift : Room := { frames := 2, cells := 0, slots := 0, locals := 46 }
set_option maxHeartbeats 4000000 in
set_option maxRecDepth 100000 in
theorem c_f_Table_sift (l : Launch) (D : va_G) (cI cJ cZ : ClassId) (sz : Nat) (n : Nat) (aB : Nat) (aF : Nat) (x2 : Int32) (aB_rows : Nat) (aB_spare : Nat) (B_count : Int32) (B_found : Int32) (B_crowded : Int32) (B_rows : Nat → Int64) (aF_variable : Nat) (aF_kind : Nat) (aF_value : Nat) (F_safeOnes : Int32) (F_count : Int32) (F_variable : Nat → Int32) (F_kind : Nat → Int32) (F_value : Nat → Int32) {B_count' : Int32} {B_rows' : Nat → Int64} (hf : f_Table_sift n x2 B_count B_rows F_count F_variable F_kind F_value = some (B_count', B_rows')) : Met l yX5_sift (.code yX5_sift cX5_sift 5 none :: GW) rm_f_Table_sift (va_Pc [.ref aB, .ref aF, .int x2] (xP D (xT cI cJ cZ) sz [(aB, .inr (5, [.ref aB_rows, .ref aB_spare, .int B_count, .int B_found, .int B_crowded])), (aB_rows, .inl (cJ, 500, .inr (.inl B_rows))), (aF, .inr (1, [.ref aF_variable, .ref aF_kind, .ref aF_value, .int F_safeOnes, .int F_count])), (aF_variable, .inl (cI, 8, .inl F_variable)), (aF_kind, .inl (cI, 8, .inl F_kind)), (aF_value, .inl (cI, 8, .inl F_value))])) (va_Qv (fun (_ : Nat → Nat) => True) (bB D (xT cI cJ cZ) (fun _ => [(aB, .inr (5, [.ref aB_rows, .ref aB_spare, .int B_count', .int B_found, .int B_crowded])), (aB_rows, .inl (cJ, 500, .inr (.inl B_rows'))), (aF, .inr (1, [.ref aF_variable, .ref aF_kind, .ref aF_value, .int F_safeOnes, .int F_count])), (aF_variable, .inl (cI, 8, .inl F_variable)), (aF_kind, .inl (cI, 8, .inl F_kind)), (aF_value, .inl (cI, 8, .inl F_value))]) (va_A [(aB, .inr (5, [.ref aB_rows, .ref aB_spare, .int B_count, .int B_found, .int B_crowded])), (aB_rows, .inl (cJ, 500, .inr (.inl B_rows))), (aF, .inr (1, [.ref aF_variable, .ref aF_kind, .ref aF_value, .int F_safeOnes, .int F_count])), (aF_variable, .inl (cI, 8, .inl F_variable)), (aF_kind, .inl (cI, 8, .inl F_kind)), (aF_value, .inl (cI, 8, .inl F_value))] sz)) (va_A [(aB, .inr (5, [.ref aB_rows, .ref aB_spare, .int B_count, .int B_found, .int B_crowded])), (aB_rows, .inl (cJ, 500, .inr (.inl B_rows))), (aF, .inr (1, [.ref aF_variable, .ref aF_kind, .ref aF_value, .int F_safeOnes, .int F_count])), (aF_variable, .inl (cI, 8, .inl F_variable)), (aF_kind, .inl (cI, 8, .inl F_kind)), (aF_value, .inl (cI, 8, .inl F_value))] sz)) 0 0 (va_A [(aB, .inr (5, [.ref aB_rows, .ref aB_spare, .int B_count, .int B_found, .int B_crowded])), (aB_rows, .inl (cJ, 500, .inr (.inl B_rows))), (aF, .inr (1, [.ref aF_variable, .ref aF_kind, .ref aF_value, .int F_safeOnes, .int F_count])), (aF_variable, .inl (cI, 8, .inl F_variable)), (aF_kind, .inl (cI, 8, .inl F_kind)), (aF_value, .inl (cI, 8, .inl F_value))] sz) := by
  refine con_start (y := yX5_sift) (bytes := cX5_sift) (maxL := 5) (av := [.ref aB, .ref aF, .int x2]) (Qc := fun A => va_Qv (fun (_ : Nat → Nat) => True) (bB D (xT cI cJ cZ) (fun _ => [(aB, .inr (5, [.ref aB_rows, .ref aB_spare, .int B_count', .int B_found, .int B_crowded])), (aB_rows, .inl (cJ, 500, .inr (.inl B_rows'))), (aF, .inr (1, [.ref aF_variable, .ref aF_kind, .ref aF_value, .int F_safeOnes, .int F_count])), (aF_variable, .inl (cI, 8, .inl F_variable)), (aF_kind, .inl (cI, 8, .inl F_kind)), (aF_value, .inl (cI, 8, .inl F_value))]) A) A) (by decide) (Nat.le_of_ble_eq_true rfl) ?_
  intro p e s m args below meth c Q A hx hb hr hlk hml hown hin htg hN hK hQ hA hP hD hS ls hl
  have hl : lv_has ls 5 [(0, .ref aB), (1, .ref aF), (2, .int x2)] := hl
  have hown : s.vm.findClass RX5 = some m.cls := hown
  have hf := (f_Table_sift_u n x2 B_count B_rows F_count F_variable F_kind F_value).symm.trans hf
  refine lv_iload_n hx hb dX5_sift_0 rfl (lv_at hl 2 rfl) ?_
  refine lv_if_ne (tgt := 5) hx hb dX5_sift_1 (by decide) (fun c_1 => ?_) (fun c_1 => ?_)
  · have hf := xb_f c_1 hf
    refine lv_iconst (v := (0 : Int32)) hx hb dX5_sift_5 (by decide) ?_
    refine lv_istore_n (lv' := [(3, .int (0 : Int32)), (0, .ref aB), (1, .ref aF), (2, .int x2)]) hx hb dX5_sift_6 rfl hl (by decide) rfl (fun ls hl => ?_)
    refine lv_iconst (v := (0 : Int32)) hx hb dX5_sift_7 (by decide) ?_
    refine lv_istore (lv' := [(4, .int (0 : Int32)), (3, .int (0 : Int32)), (0, .ref aB), (1, .ref aF), (2, .int x2)]) hx hb dX5_sift_8 hl (by decide) rfl (fun ls hl => ?_)
    have L_10_25 : ∀ (k : Nat) (B_rows_26 : Nat → Int64) (x3_27 : Int32) (x4_28 : Int32) (o_25 : ((Nat → Int64) × Int32)), f_Table_sift_L0 n x2 B_count F_count F_variable F_kind F_value k B_rows_26 x3_27 x4_28 = some o_25 → ∀ (H : Heap) (locs : List Loc), va_P D vwCl [(aB, .inr (5, [.ref aB_rows, .ref aB_spare, .int B_count, .int B_found, .int B_crowded])), (aB_rows, .inl (cJ, 500, .inr (.inl B_rows_26))), (aF, .inr (1, [.ref aF_variable, .ref aF_kind, .ref aF_value, .int F_safeOnes, .int F_count])), (aF_variable, .inl (cI, 8, .inl F_variable)), (aF_kind, .inl (cI, 8, .inl F_kind)), (aF_value, .inl (cI, 8, .inl F_value))] H → va_D A [(aB, .inr (5, [.ref aB_rows, .ref aB_spare, .int B_count, .int B_found, .int B_crowded])), (aB_rows, .inl (cJ, 500, .inr (.inl B_rows_26))), (aF, .inr (1, [.ref aF_variable, .ref aF_kind, .ref aF_value, .int F_safeOnes, .int F_count])), (aF_variable, .inl (cI, 8, .inl F_variable)), (aF_kind, .inl (cI, 8, .inl F_kind)), (aF_value, .inl (cI, 8, .inl F_value))] → va_S A s.heap H locs → ∀ ls : Array Slot, lv_has ls 5 [(0, .ref aB), (1, .ref aF), (2, .int x2), (3, .int x3_27), (4, .int x4_28)] → (∀ (B_rows_29 : Nat → Int64) (x3_30 : Int32), some ((B_rows_29, x3_30)) = some o_25 → ∀ (H : Heap) (locs : List Loc), va_P D vwCl [(aB, .inr (5, [.ref aB_rows, .ref aB_spare, .int B_count, .int B_found, .int B_crowded])), (aB_rows, .inl (cJ, 500, .inr (.inl B_rows_29))), (aF, .inr (1, [.ref aF_variable, .ref aF_kind, .ref aF_value, .int F_safeOnes, .int F_count])), (aF_variable, .inl (cI, 8, .inl F_variable)), (aF_kind, .inl (cI, 8, .inl F_kind)), (aF_value, .inl (cI, 8, .inl F_value))] H → va_D A [(aB, .inr (5, [.ref aB_rows, .ref aB_spare, .int B_count, .int B_found, .int B_crowded])), (aB_rows, .inl (cJ, 500, .inr (.inl B_rows_29))), (aF, .inr (1, [.ref aF_variable, .ref aF_kind, .ref aF_value, .int F_safeOnes, .int F_count])), (aF_variable, .inl (cI, 8, .inl F_variable)), (aF_kind, .inl (cI, 8, .inl F_kind)), (aF_value, .inl (cI, 8, .inl F_value))] → va_S A s.heap H locs → ∀ ls : Array Slot, lv_has ls 5 [(0, .ref aB), (3, .int x3_30)] → W p l e rm_f_Table_sift s m args below meth c H locs 0 0 Q (F0 m 56 ls [])) → W p l e rm_f_Table_sift s m args below meth c H locs 0 0 Q (F0 m 10 ls []) := by
      intro k
      induction k with
      | zero =>
        intro B_rows_26 x3_27 x4_28 o_25 hf
        exact absurd (((f_Table_sift_L0_z n x2 B_count F_count F_variable F_kind F_value B_rows_26 x3_27 x4_28).symm.trans hf)) (fun h => by cases h)
      | succ k ih =>
        intro B_rows_26 x3_27 x4_28 o_25 hf H locs hP hD hS ls hl hX_25
        have hf := (f_Table_sift_L0_s n x2 B_count F_count F_variable F_kind F_value k B_rows_26 x3_27 x4_28).symm.trans hf
        refine lv_iload hx hb dX5_sift_10 (lv_at hl 4 rfl) ?_
        refine lv_aload_n hx hb dX5_sift_12 rfl (lv_at hl 0 rfl) ?_
        refine va_get (D := D) (ci := 5) (v := .int B_count) (C := RX5) (T := TX5) (N := 5) hx hb htg giX5 hown hK hP 0 rfl rfl 2 (by decide) (htg _ kw_184) (fun _ h9 => h9) rfl dX5_sift_13 ?_
        refine lv_icmp_ge (tgt := 56) hx hb dX5_sift_16 (by decide) (fun c_31 => ?_) (fun c_31 => ?_)
        · have hf := xb_t c_31 hf
          exact hX_25 B_rows_26 x3_27 hf _ _ hP hD hS _ (lv_sub hl [0, 3] rfl)
        · have hf := xb_f c_31 hf
          refine lv_aload_n hx hb dX5_sift_19 rfl (lv_at hl 1 rfl) ?_
          refine lv_iload_n hx hb dX5_sift_20 rfl (lv_at hl 2 rfl) ?_
          refine lv_aload_n hx hb dX5_sift_21 rfl (lv_at hl 0 rfl) ?_
          refine va_get (D := D) (ci := 5) (v := .ref aB_rows) (C := RX5) (T := TX5) (N := 5) hx hb htg giX5 hown hK hP 0 rfl rfl 0 (by decide) (htg _ kw_181) (fun _ h9 => h9) rfl dX5_sift_22 ?_
          refine lv_iload hx hb dX5_sift_25 (lv_at hl 4 rfl) ?_
          have g_32 : vp_in x4_28 500 := gd_in hf
          have hf := gd_el hf
          refine va_lald hx hb hK hP 1 1 rfl rfl g_32 dX5_sift_27 ?_
          obtain ⟨r_34, hq_33, hf⟩ := bn1_c hf
          refine x_z (xrV (As := [.int x2, .long (B_rows_26 x4_28.toNatClampNeg)]) (b := aF) (rest := []) ⟨hx, hb, hml, hown, htg⟩ (c_f_Filters_allHold l D cI cJ cZ _ n aF x2 (B_rows_26 x4_28.toNatClampNeg) aF_variable aF_kind aF_value F_safeOnes F_count F_variable F_kind F_value hq_33) kc_f_Filters_allHold kw_508 kw_509 kw_510 kw_4 dd_f_Filters_allHold ⟨Nat.le_of_ble_eq_true rfl, Nat.le_of_ble_eq_true rfl⟩ rfl rfl (hP.sub [2, 3, 4, 5] rfl) (hD.sub [2, 3, 4, 5] (by decide) rfl) hK hN hP (q0 := 2) rfl rfl rfl hl.1 rfl (Nat.le_of_ble_eq_true rfl) dX5_sift_28 ⟨Nat.le_of_ble_eq_true rfl, Nat.le_of_ble_eq_true rfl⟩) hP hD hS hA [2, 3, 4, 5] [0, 1] rfl rfl (by decide) (by decide) (fun _ H locs bz_33 hP hD hS => ?_)
          have hP : va_P D vwCl [(aB, .inr (5, [.ref aB_rows, .ref aB_spare, .int B_count, .int B_found, .int B_crowded])), (aB_rows, .inl (cJ, 500, .inr (.inl B_rows_26))), (aF, .inr (1, [.ref aF_variable, .ref aF_kind, .ref aF_value, .int F_safeOnes, .int F_count])), (aF_variable, .inl (cI, 8, .inl F_variable)), (aF_kind, .inl (cI, 8, .inl F_kind)), (aF_value, .inl (cI, 8, .inl F_value))] H := hP
          have hD : va_D A [(aB, .inr (5, [.ref aB_rows, .ref aB_spare, .int B_count, .int B_found, .int B_crowded])), (aB_rows, .inl (cJ, 500, .inr (.inl B_rows_26))), (aF, .inr (1, [.ref aF_variable, .ref aF_kind, .ref aF_value, .int F_safeOnes, .int F_count])), (aF_variable, .inl (cI, 8, .inl F_variable)), (aF_kind, .inl (cI, 8, .inl F_kind)), (aF_value, .inl (cI, 8, .inl F_value))] := hD
          refine lv_if_eq (tgt := 50) hx hb dX5_sift_31 (by decide) (fun c_35 => ?_) (fun c_35 => ?_)
          · have hf := xb_t c_35 hf
            obtain ⟨x4_36, ex4_36⟩ : ∃ y : Int32, y = x4_28 + (1 : Int32) := ⟨_, rfl⟩
            have hf := nm_nm ex4_36 hf
            refine lv_iinc (v := x4_36) (lv' := [(4, .int x4_36), (0, .ref aB), (1, .ref aF), (2, .int x2), (3, .int x3_27)]) hx hb dX5_sift_50 hl (k := 4) rfl (by rw [ex4_36]; rfl) (by decide) rfl (fun ls hl => ?_)
            refine lv_goto (tgt := 10) hx hb dX5_sift_53 (by decide) ?_
            exact ih B_rows_26 x3_27 x4_36 o_25 hf _ _ hP hD hS _ (lv_sub hl [1, 2, 3, 4, 0] rfl) hX_25
          · have hf := xb_f c_35 hf
            refine lv_aload_n hx hb dX5_sift_34 rfl (lv_at hl 0 rfl) ?_
            refine va_get (D := D) (ci := 5) (v := .ref aB_rows) (C := RX5) (T := TX5) (N := 5) hx hb htg giX5 hown hK hP 0 rfl rfl 0 (by decide) (htg _ kw_181) (fun _ h9 => h9) rfl dX5_sift_35 ?_
            refine lv_iload_n hx hb dX5_sift_38 rfl (lv_at hl 3 rfl) ?_
            refine lv_aload_n hx hb dX5_sift_39 rfl (lv_at hl 0 rfl) ?_
            refine va_get (D := D) (ci := 5) (v := .ref aB_rows) (C := RX5) (T := TX5) (N := 5) hx hb htg giX5 hown hK hP 0 rfl rfl 0 (by decide) (htg _ kw_181) (fun _ h9 => h9) rfl dX5_sift_40 ?_
            refine lv_iload hx hb dX5_sift_43 (lv_at hl 4 rfl) ?_
            refine va_lald hx hb hK hP 1 1 rfl rfl g_32 dX5_sift_45 ?_
            refine lv_topl (fun v_37 ev_37 => ?_)
            have hf := nm_nm ev_37 hf
            have g_38 : vp_in x3_27 500 := gd_in hf
            have hf := gd_el hf
            refine x_last hx hb hK hP hD hS 1 1 rfl rfl g_38 dX5_sift_46 (fun B_rows_39 eB_rows_39 H locs hP hD hS => ?_)
            have hf := nm_nm eB_rows_39 hf
            have hP : va_P D vwCl [(aB, .inr (5, [.ref aB_rows, .ref aB_spare, .int B_count, .int B_found, .int B_crowded])), (aB_rows, .inl (cJ, 500, .inr (.inl B_rows_39))), (aF, .inr (1, [.ref aF_variable, .ref aF_kind, .ref aF_value, .int F_safeOnes, .int F_count])), (aF_variable, .inl (cI, 8, .inl F_variable)), (aF_kind, .inl (cI, 8, .inl F_kind)), (aF_value, .inl (cI, 8, .inl F_value))] H := hP
            have hD : va_D A [(aB, .inr (5, [.ref aB_rows, .ref aB_spare, .int B_count, .int B_found, .int B_crowded])), (aB_rows, .inl (cJ, 500, .inr (.inl B_rows_39))), (aF, .inr (1, [.ref aF_variable, .ref aF_kind, .ref aF_value, .int F_safeOnes, .int F_count])), (aF_variable, .inl (cI, 8, .inl F_variable)), (aF_kind, .inl (cI, 8, .inl F_kind)), (aF_value, .inl (cI, 8, .inl F_value))] := hD
            obtain ⟨x3_40, ex3_40⟩ : ∃ y : Int32, y = x3_27 + (1 : Int32) := ⟨_, rfl⟩
            have hf := nm_nm ex3_40 hf
            refine lv_iinc (v := x3_40) (lv' := [(3, .int x3_40), (0, .ref aB), (1, .ref aF), (2, .int x2), (4, .int x4_28)]) hx hb dX5_sift_47 hl (k := 3) rfl (by rw [ex3_40]; rfl) (by decide) rfl (fun ls hl => ?_)
            obtain ⟨x4_41, ex4_41⟩ : ∃ y : Int32, y = x4_28 + (1 : Int32) := ⟨_, rfl⟩
            have hf := nm_nm ex4_41 hf
            refine lv_iinc (v := x4_41) (lv' := [(4, .int x4_41), (3, .int x3_40), (0, .ref aB), (1, .ref aF), (2, .int x2)]) hx hb dX5_sift_50 hl (k := 4) rfl (by rw [ex4_41]; rfl) (by decide) rfl (fun ls hl => ?_)
            refine lv_goto (tgt := 10) hx hb dX5_sift_53 (by decide) ?_
            exact ih B_rows_39 x3_40 x4_41 o_25 hf _ _ hP hD hS _ (lv_sub hl [2, 3, 4, 1, 0] rfl) hX_25
    obtain ⟨o_25, ho_25, hk_25⟩ := bn2_s hf
    refine L_10_25 n B_rows (0 : Int32) (0 : Int32) o_25 ho_25 _ _ hP hD hS _ (lv_sub hl [2, 3, 4, 1, 0] rfl) (fun B_rows_29 x3_30 hf H locs hP hD hS ls hl => ?_)
    have hf := hk_25 _ _ hf
    refine lv_aload_n hx hb dX5_sift_56 rfl (lv_at hl 0 rfl) ?_
    refine lv_iload_n hx hb dX5_sift_57 rfl (lv_at hl 1 rfl) ?_
    refine va_put (D := D) (ci := 5) (v := .int x3_30) (ty := .int) (C := RX5) (T := TX5) (N := 5) hx hb htg giX5 tyX5 tyX5_ok nmX5 hown hK hP hD hS 0 rfl rfl 2 (by decide) (htg _ kw_184) (fun _ h9 => h9) rfl (by decide +kernel) rfl rfl (Nat.le_of_ble_eq_true rfl) dX5_sift_58 (fun H locs hP hD hS => ?_)
    have hP : va_P D vwCl [(aB, .inr (5, [.ref aB_rows, .ref aB_spare, .int x3_30, .int B_found, .int B_crowded])), (aB_rows, .inl (cJ, 500, .inr (.inl B_rows_29))), (aF, .inr (1, [.ref aF_variable, .ref aF_kind, .ref aF_value, .int F_safeOnes, .int F_count])), (aF_variable, .inl (cI, 8, .inl F_variable)), (aF_kind, .inl (cI, 8, .inl F_kind)), (aF_value, .inl (cI, 8, .inl F_value))] H := hP
    have hD : va_D A [(aB, .inr (5, [.ref aB_rows, .ref aB_spare, .int x3_30, .int B_found, .int B_crowded])), (aB_rows, .inl (cJ, 500, .inr (.inl B_rows_29))), (aF, .inr (1, [.ref aF_variable, .ref aF_kind, .ref aF_value, .int F_safeOnes, .int F_count])), (aF_variable, .inl (cI, 8, .inl F_variable)), (aF_kind, .inl (cI, 8, .inl F_kind)), (aF_value, .inl (cI, 8, .inl F_value))] := hD
    have hf := Option.some.inj hf
    obtain ⟨k9_0, f9_0⟩ := Prod.mk.inj hf
    subst k9_0
    subst f9_0
    exact x_vret (fun _ => 0) hQ hx hb hr hlk hK hP hD hS dX5_sift_61
  · have hf := xb_t c_1 hf
    have hf := Option.some.inj hf
    obtain ⟨k9_0, f9_0⟩ := Prod.mk.inj hf
    subst k9_0
    subst f9_0
    exact x_vret (fun _ => 0) hQ hx hb hr hlk hK hP hD hS dX5_sift_4
