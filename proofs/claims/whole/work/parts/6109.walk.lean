abbrev rm_f_Table_bindsTheSame : Room := { frames := 1, cells := 0, slots := 0, locals := 26 }
set_option maxHeartbeats 4000000 in
set_option maxRecDepth 100000 in
theorem c_f_Table_bindsTheSame (l : Launch) (D : va_G) (cI cJ cZ : ClassId) (sz : Nat) (n : Nat) (aB : Nat) (aC : Nat) (aB_rows : Nat) (aB_spare : Nat) (B_count : Int32) (B_found : Int32) (B_crowded : Int32) (aC_rows : Nat) (aC_spare : Nat) (C_count : Int32) (C_found : Int32) (C_crowded : Int32) (B_rows : Nat → Int64) (C_rows : Nat → Int64) (B_spare : Nat → Int64) {r : Int32} {B_rows' : Nat → Int64} {B_spare' : Nat → Int64} (hf : f_Table_bindsTheSame n B_count C_count B_rows C_rows B_spare = some (r, B_rows', B_spare')) : Met l yX5_bindsTheSame (.code yX5_bindsTheSame cX5_bindsTheSame 3 (some .boolean) :: GW) rm_f_Table_bindsTheSame (va_Pc [.ref aB, .ref aC] (xP D (xT cI cJ cZ) sz [(aB, .inr (5, [.ref aB_rows, .ref aB_spare, .int B_count, .int B_found, .int B_crowded])), (aC, .inr (5, [.ref aC_rows, .ref aC_spare, .int C_count, .int C_found, .int C_crowded])), (aB_rows, .inl (cJ, 500, .inr (.inl B_rows))), (aC_rows, .inl (cJ, 500, .inr (.inl C_rows))), (aB_spare, .inl (cJ, 500, .inr (.inl B_spare)))])) (va_Qi (fun r2 (_ : Nat → Nat) => r2 = r ∧ (r = 0 ∨ r = 1)) (bB D (xT cI cJ cZ) (fun _ => [(aB, .inr (5, [.ref aB_rows, .ref aB_spare, .int B_count, .int B_found, .int B_crowded])), (aC, .inr (5, [.ref aC_rows, .ref aC_spare, .int C_count, .int C_found, .int C_crowded])), (aB_rows, .inl (cJ, 500, .inr (.inl B_rows'))), (aC_rows, .inl (cJ, 500, .inr (.inl C_rows))), (aB_spare, .inl (cJ, 500, .inr (.inl B_spare')))]) (va_A [(aB, .inr (5, [.ref aB_rows, .ref aB_spare, .int B_count, .int B_found, .int B_crowded])), (aC, .inr (5, [.ref aC_rows, .ref aC_spare, .int C_count, .int C_found, .int C_crowded])), (aB_rows, .inl (cJ, 500, .inr (.inl B_rows))), (aC_rows, .inl (cJ, 500, .inr (.inl C_rows))), (aB_spare, .inl (cJ, 500, .inr (.inl B_spare)))] sz)) (va_A [(aB, .inr (5, [.ref aB_rows, .ref aB_spare, .int B_count, .int B_found, .int B_crowded])), (aC, .inr (5, [.ref aC_rows, .ref aC_spare, .int C_count, .int C_found, .int C_crowded])), (aB_rows, .inl (cJ, 500, .inr (.inl B_rows))), (aC_rows, .inl (cJ, 500, .inr (.inl C_rows))), (aB_spare, .inl (cJ, 500, .inr (.inl B_spare)))] sz)) 0 0 (va_A [(aB, .inr (5, [.ref aB_rows, .ref aB_spare, .int B_count, .int B_found, .int B_crowded])), (aC, .inr (5, [.ref aC_rows, .ref aC_spare, .int C_count, .int C_found, .int C_crowded])), (aB_rows, .inl (cJ, 500, .inr (.inl B_rows))), (aC_rows, .inl (cJ, 500, .inr (.inl C_rows))), (aB_spare, .inl (cJ, 500, .inr (.inl B_spare)))] sz) := by
  refine con_start (y := yX5_bindsTheSame) (bytes := cX5_bindsTheSame) (maxL := 3) (av := [.ref aB, .ref aC]) (Qc := fun A => va_Qi (fun r2 (_ : Nat → Nat) => r2 = r ∧ (r = 0 ∨ r = 1)) (bB D (xT cI cJ cZ) (fun _ => [(aB, .inr (5, [.ref aB_rows, .ref aB_spare, .int B_count, .int B_found, .int B_crowded])), (aC, .inr (5, [.ref aC_rows, .ref aC_spare, .int C_count, .int C_found, .int C_crowded])), (aB_rows, .inl (cJ, 500, .inr (.inl B_rows'))), (aC_rows, .inl (cJ, 500, .inr (.inl C_rows))), (aB_spare, .inl (cJ, 500, .inr (.inl B_spare')))]) A) A) (by decide) (Nat.le_of_ble_eq_true rfl) ?_
  intro p e s m args below meth c Q A hx hb hr hlk hml hown hin htg hN hK hQ hA hP hD hS ls hl
  have hl : lv_has ls 3 [(0, .ref aB), (1, .ref aC)] := hl
  have hown : s.vm.findClass RX5 = some m.cls := hown
  have hf := (f_Table_bindsTheSame_u n B_count C_count B_rows C_rows B_spare).symm.trans hf
  refine lv_aload_n hx hb dX5_bindsTheSame_0 rfl (lv_at hl 0 rfl) ?_
  refine va_get (D := D) (ci := 5) (v := .int B_count) (C := RX5) (T := TX5) (N := 5) hx hb htg giX5 hown hK hP 0 rfl rfl 2 (by decide) (htg _ kw_184) (fun _ h9 => h9) rfl dX5_bindsTheSame_1 ?_
  refine lv_aload_n hx hb dX5_bindsTheSame_4 rfl (lv_at hl 1 rfl) ?_
  refine va_get (D := D) (ci := 5) (v := .int C_count) (C := RX5) (T := TX5) (N := 5) hx hb htg giX5 hown hK hP 1 rfl rfl 2 (by decide) (htg _ kw_184) (fun _ h9 => h9) rfl dX5_bindsTheSame_5 ?_
  refine lv_icmp_eq (tgt := 13) hx hb dX5_bindsTheSame_8 (by decide) (fun c_1 => ?_) (fun c_1 => ?_)
  · have hf := xb_t c_1 hf
    refine lv_iconst (v := (0 : Int32)) hx hb dX5_bindsTheSame_13 (by decide) ?_
    refine lv_istore_n (lv' := [(2, .int (0 : Int32)), (0, .ref aB), (1, .ref aC)]) hx hb dX5_bindsTheSame_14 rfl hl (by decide) rfl (fun ls hl => ?_)
    have L_15_18 : ∀ (k : Nat) (B_rows_19 : Nat → Int64) (B_spare_20 : Nat → Int64) (x2_21 : Int32) (o_18 : ((Nat → Int64) × (Nat → Int64))), f_Table_bindsTheSame_L0 n B_count C_rows k B_rows_19 B_spare_20 x2_21 = some o_18 → ∀ (H : Heap) (locs : List Loc), va_P D vwCl [(aB, .inr (5, [.ref aB_rows, .ref aB_spare, .int B_count, .int B_found, .int B_crowded])), (aC, .inr (5, [.ref aC_rows, .ref aC_spare, .int C_count, .int C_found, .int C_crowded])), (aB_rows, .inl (cJ, 500, .inr (.inl B_rows_19))), (aC_rows, .inl (cJ, 500, .inr (.inl C_rows))), (aB_spare, .inl (cJ, 500, .inr (.inl B_spare_20)))] H → va_D A [(aB, .inr (5, [.ref aB_rows, .ref aB_spare, .int B_count, .int B_found, .int B_crowded])), (aC, .inr (5, [.ref aC_rows, .ref aC_spare, .int C_count, .int C_found, .int C_crowded])), (aB_rows, .inl (cJ, 500, .inr (.inl B_rows_19))), (aC_rows, .inl (cJ, 500, .inr (.inl C_rows))), (aB_spare, .inl (cJ, 500, .inr (.inl B_spare_20)))] → va_S A s.heap H locs → ∀ ls : Array Slot, lv_has ls 3 [(0, .ref aB), (1, .ref aC), (2, .int x2_21)] → (∀ (B_rows_22 : Nat → Int64) (B_spare_23 : Nat → Int64), some ((B_rows_22, B_spare_23)) = some o_18 → ∀ (H : Heap) (locs : List Loc), va_P D vwCl [(aB, .inr (5, [.ref aB_rows, .ref aB_spare, .int B_count, .int B_found, .int B_crowded])), (aC, .inr (5, [.ref aC_rows, .ref aC_spare, .int C_count, .int C_found, .int C_crowded])), (aB_rows, .inl (cJ, 500, .inr (.inl B_rows_22))), (aC_rows, .inl (cJ, 500, .inr (.inl C_rows))), (aB_spare, .inl (cJ, 500, .inr (.inl B_spare_23)))] H → va_D A [(aB, .inr (5, [.ref aB_rows, .ref aB_spare, .int B_count, .int B_found, .int B_crowded])), (aC, .inr (5, [.ref aC_rows, .ref aC_spare, .int C_count, .int C_found, .int C_crowded])), (aB_rows, .inl (cJ, 500, .inr (.inl B_rows_22))), (aC_rows, .inl (cJ, 500, .inr (.inl C_rows))), (aB_spare, .inl (cJ, 500, .inr (.inl B_spare_23)))] → va_S A s.heap H locs → ∀ ls : Array Slot, lv_has ls 3 [(0, .ref aB)] → W p l e rm_f_Table_bindsTheSame s m args below meth c H locs 0 0 Q (F0 m 57 ls [])) → W p l e rm_f_Table_bindsTheSame s m args below meth c H locs 0 0 Q (F0 m 15 ls []) := by
      intro k
      induction k with
      | zero =>
        intro B_rows_19 B_spare_20 x2_21 o_18 hf
        exact absurd (((f_Table_bindsTheSame_L0_z n B_count C_rows B_rows_19 B_spare_20 x2_21).symm.trans hf)) (fun h => by cases h)
      | succ k ih =>
        intro B_rows_19 B_spare_20 x2_21 o_18 hf H locs hP hD hS ls hl hX_18
        have hf := (f_Table_bindsTheSame_L0_s n B_count C_rows k B_rows_19 B_spare_20 x2_21).symm.trans hf
        refine lv_iload_n hx hb dX5_bindsTheSame_15 rfl (lv_at hl 2 rfl) ?_
        refine lv_aload_n hx hb dX5_bindsTheSame_16 rfl (lv_at hl 0 rfl) ?_
        refine va_get (D := D) (ci := 5) (v := .int B_count) (C := RX5) (T := TX5) (N := 5) hx hb htg giX5 hown hK hP 0 rfl rfl 2 (by decide) (htg _ kw_184) (fun _ h9 => h9) rfl dX5_bindsTheSame_17 ?_
        refine lv_icmp_ge (tgt := 57) hx hb dX5_bindsTheSame_20 (by decide) (fun c_24 => ?_) (fun c_24 => ?_)
        · have hf := xb_t c_24 hf
          exact hX_18 B_rows_19 B_spare_20 hf _ _ hP hD hS _ (lv_sub hl [0] rfl)
        · have hf := xb_f c_24 hf
          refine lv_aload_n hx hb dX5_bindsTheSame_23 rfl (lv_at hl 0 rfl) ?_
          refine va_get (D := D) (ci := 5) (v := .ref aB_rows) (C := RX5) (T := TX5) (N := 5) hx hb htg giX5 hown hK hP 0 rfl rfl 0 (by decide) (htg _ kw_181) (fun _ h9 => h9) rfl dX5_bindsTheSame_24 ?_
          refine lv_iload_n hx hb dX5_bindsTheSame_27 rfl (lv_at hl 2 rfl) ?_
          refine lv_dup2_11 hx hb dX5_bindsTheSame_28 rfl rfl ?_
          have g_25 : vp_in x2_21 500 := gd_in hf
          have hf := gd_el hf
          refine va_lald hx hb hK hP 2 1 rfl rfl g_25 dX5_bindsTheSame_29 ?_
          refine lv_ldc2 (v := (281474976710655 : Int64)) hx hb hown (htg _ kw_553) dX5_bindsTheSame_30 ?_
          refine lv_land hx hb dX5_bindsTheSame_33 ?_
          refine lv_topl (fun v_26 ev_26 => ?_)
          have hf := nm_nm ev_26 hf
          refine x_last hx hb hK hP hD hS 2 1 rfl rfl g_25 dX5_bindsTheSame_34 (fun B_rows_27 eB_rows_27 H locs hP hD hS => ?_)
          have hf := nm_nm eB_rows_27 hf
          have hP : va_P D vwCl [(aB, .inr (5, [.ref aB_rows, .ref aB_spare, .int B_count, .int B_found, .int B_crowded])), (aC, .inr (5, [.ref aC_rows, .ref aC_spare, .int C_count, .int C_found, .int C_crowded])), (aB_rows, .inl (cJ, 500, .inr (.inl B_rows_27))), (aC_rows, .inl (cJ, 500, .inr (.inl C_rows))), (aB_spare, .inl (cJ, 500, .inr (.inl B_spare_20)))] H := hP
          have hD : va_D A [(aB, .inr (5, [.ref aB_rows, .ref aB_spare, .int B_count, .int B_found, .int B_crowded])), (aC, .inr (5, [.ref aC_rows, .ref aC_spare, .int C_count, .int C_found, .int C_crowded])), (aB_rows, .inl (cJ, 500, .inr (.inl B_rows_27))), (aC_rows, .inl (cJ, 500, .inr (.inl C_rows))), (aB_spare, .inl (cJ, 500, .inr (.inl B_spare_20)))] := hD
          refine lv_aload_n hx hb dX5_bindsTheSame_35 rfl (lv_at hl 0 rfl) ?_
          refine va_get (D := D) (ci := 5) (v := .ref aB_spare) (C := RX5) (T := TX5) (N := 5) hx hb htg giX5 hown hK hP 0 rfl rfl 1 (by decide) (htg _ kw_183) (fun _ h9 => h9) rfl dX5_bindsTheSame_36 ?_
          refine lv_iload_n hx hb dX5_bindsTheSame_39 rfl (lv_at hl 2 rfl) ?_
          refine lv_aload_n hx hb dX5_bindsTheSame_40 rfl (lv_at hl 1 rfl) ?_
          refine va_get (D := D) (ci := 5) (v := .ref aC_rows) (C := RX5) (T := TX5) (N := 5) hx hb htg giX5 hown hK hP 1 rfl rfl 0 (by decide) (htg _ kw_181) (fun _ h9 => h9) rfl dX5_bindsTheSame_41 ?_
          refine lv_iload_n hx hb dX5_bindsTheSame_44 rfl (lv_at hl 2 rfl) ?_
          refine va_lald hx hb hK hP 3 1 rfl rfl g_25 dX5_bindsTheSame_45 ?_
          refine lv_ldc2 (v := (281474976710655 : Int64)) hx hb hown (htg _ kw_553) dX5_bindsTheSame_46 ?_
          refine lv_land hx hb dX5_bindsTheSame_49 ?_
          refine lv_topl (fun v_28 ev_28 => ?_)
          have hf := nm_nm ev_28 hf
          refine x_last hx hb hK hP hD hS 4 1 rfl rfl g_25 dX5_bindsTheSame_50 (fun B_spare_29 eB_spare_29 H locs hP hD hS => ?_)
          have hf := nm_nm eB_spare_29 hf
          have hP : va_P D vwCl [(aB, .inr (5, [.ref aB_rows, .ref aB_spare, .int B_count, .int B_found, .int B_crowded])), (aC, .inr (5, [.ref aC_rows, .ref aC_spare, .int C_count, .int C_found, .int C_crowded])), (aB_rows, .inl (cJ, 500, .inr (.inl B_rows_27))), (aC_rows, .inl (cJ, 500, .inr (.inl C_rows))), (aB_spare, .inl (cJ, 500, .inr (.inl B_spare_29)))] H := hP
          have hD : va_D A [(aB, .inr (5, [.ref aB_rows, .ref aB_spare, .int B_count, .int B_found, .int B_crowded])), (aC, .inr (5, [.ref aC_rows, .ref aC_spare, .int C_count, .int C_found, .int C_crowded])), (aB_rows, .inl (cJ, 500, .inr (.inl B_rows_27))), (aC_rows, .inl (cJ, 500, .inr (.inl C_rows))), (aB_spare, .inl (cJ, 500, .inr (.inl B_spare_29)))] := hD
          obtain ⟨x2_30, ex2_30⟩ : ∃ y : Int32, y = x2_21 + (1 : Int32) := ⟨_, rfl⟩
          have hf := nm_nm ex2_30 hf
          refine lv_iinc (v := x2_30) (lv' := [(2, .int x2_30), (0, .ref aB), (1, .ref aC)]) hx hb dX5_bindsTheSame_51 hl (k := 2) rfl (by rw [ex2_30]; rfl) (by decide) rfl (fun ls hl => ?_)
          refine lv_goto (tgt := 15) hx hb dX5_bindsTheSame_54 (by decide) ?_
          exact ih B_rows_27 B_spare_29 x2_30 o_18 hf _ _ hP hD hS _ (lv_sub hl [1, 2, 0] rfl) hX_18
    obtain ⟨o_18, ho_18, hk_18⟩ := bn2_s hf
    refine L_15_18 n B_rows B_spare (0 : Int32) o_18 ho_18 _ _ hP hD hS _ (lv_sub hl [1, 2, 0] rfl) (fun B_rows_22 B_spare_23 hf H locs hP hD hS ls hl => ?_)
    have hf := hk_18 _ _ hf
    refine lv_aload_n hx hb dX5_bindsTheSame_57 rfl (lv_at hl 0 rfl) ?_
    refine va_get (D := D) (ci := 5) (v := .ref aB_rows) (C := RX5) (T := TX5) (N := 5) hx hb htg giX5 hown hK hP 0 rfl rfl 0 (by decide) (htg _ kw_181) (fun _ h9 => h9) rfl dX5_bindsTheSame_58 ?_
    refine lv_aload_n hx hb dX5_bindsTheSame_61 rfl (lv_at hl 0 rfl) ?_
    refine va_get (D := D) (ci := 5) (v := .int B_count) (C := RX5) (T := TX5) (N := 5) hx hb htg giX5 hown hK hP 0 rfl rfl 2 (by decide) (htg _ kw_184) (fun _ h9 => h9) rfl dX5_bindsTheSame_62 ?_
    obtain ⟨B_rows_32, hq_31, hf⟩ := bn1_c hf
    refine x_v (xrS (As := [.ref aB_rows, .int B_count]) (rest := []) ⟨hx, hb, hml, hown, htg⟩ (c_f_Table_sort l D cI cJ cZ _ n aB_rows B_count B_rows_22 hq_31) kc_f_Table_sort kw_554 kw_555 kw_7 dd_f_Table_sort ⟨Nat.le_of_ble_eq_true rfl, Nat.le_of_ble_eq_true rfl⟩ rfl rfl (hP.sub [2] rfl) (hD.sub [2] (by decide) rfl) hK hN rfl hl.1 rfl (Nat.le_of_ble_eq_true rfl) dX5_bindsTheSame_65 ⟨Nat.le_of_ble_eq_true rfl, Nat.le_of_ble_eq_true rfl⟩) hP hD hS hA [2] [0, 1, 3, 4] rfl rfl (by decide) (by decide) (fun _ H locs hP hD hS => ?_)
    have hP : va_P D vwCl [(aB, .inr (5, [.ref aB_rows, .ref aB_spare, .int B_count, .int B_found, .int B_crowded])), (aC, .inr (5, [.ref aC_rows, .ref aC_spare, .int C_count, .int C_found, .int C_crowded])), (aC_rows, .inl (cJ, 500, .inr (.inl C_rows))), (aB_spare, .inl (cJ, 500, .inr (.inl B_spare_23))), (aB_rows, .inl (cJ, 500, .inr (.inl B_rows_32)))] H := hP
    have hD : va_D A [(aB, .inr (5, [.ref aB_rows, .ref aB_spare, .int B_count, .int B_found, .int B_crowded])), (aC, .inr (5, [.ref aC_rows, .ref aC_spare, .int C_count, .int C_found, .int C_crowded])), (aC_rows, .inl (cJ, 500, .inr (.inl C_rows))), (aB_spare, .inl (cJ, 500, .inr (.inl B_spare_23))), (aB_rows, .inl (cJ, 500, .inr (.inl B_rows_32)))] := hD
    refine lv_aload_n hx hb dX5_bindsTheSame_68 rfl (lv_at hl 0 rfl) ?_
    refine va_get (D := D) (ci := 5) (v := .ref aB_spare) (C := RX5) (T := TX5) (N := 5) hx hb htg giX5 hown hK hP 0 rfl rfl 1 (by decide) (htg _ kw_183) (fun _ h9 => h9) rfl dX5_bindsTheSame_69 ?_
    refine lv_aload_n hx hb dX5_bindsTheSame_72 rfl (lv_at hl 0 rfl) ?_
    refine va_get (D := D) (ci := 5) (v := .int B_count) (C := RX5) (T := TX5) (N := 5) hx hb htg giX5 hown hK hP 0 rfl rfl 2 (by decide) (htg _ kw_184) (fun _ h9 => h9) rfl dX5_bindsTheSame_73 ?_
    obtain ⟨B_spare_34, hq_33, hf⟩ := bn1_c hf
    refine x_v (xrS (As := [.ref aB_spare, .int B_count]) (rest := []) ⟨hx, hb, hml, hown, htg⟩ (c_f_Table_sort l D cI cJ cZ _ n aB_spare B_count B_spare_23 hq_33) kc_f_Table_sort kw_554 kw_555 kw_7 dd_f_Table_sort ⟨Nat.le_of_ble_eq_true rfl, Nat.le_of_ble_eq_true rfl⟩ rfl rfl (hP.sub [3] rfl) (hD.sub [3] (by decide) rfl) hK hN rfl hl.1 rfl (Nat.le_of_ble_eq_true rfl) dX5_bindsTheSame_76 ⟨Nat.le_of_ble_eq_true rfl, Nat.le_of_ble_eq_true rfl⟩) hP hD hS hA [3] [0, 1, 2, 4] rfl rfl (by decide) (by decide) (fun _ H locs hP hD hS => ?_)
    have hP : va_P D vwCl [(aB, .inr (5, [.ref aB_rows, .ref aB_spare, .int B_count, .int B_found, .int B_crowded])), (aC, .inr (5, [.ref aC_rows, .ref aC_spare, .int C_count, .int C_found, .int C_crowded])), (aC_rows, .inl (cJ, 500, .inr (.inl C_rows))), (aB_rows, .inl (cJ, 500, .inr (.inl B_rows_32))), (aB_spare, .inl (cJ, 500, .inr (.inl B_spare_34)))] H := hP
    have hD : va_D A [(aB, .inr (5, [.ref aB_rows, .ref aB_spare, .int B_count, .int B_found, .int B_crowded])), (aC, .inr (5, [.ref aC_rows, .ref aC_spare, .int C_count, .int C_found, .int C_crowded])), (aC_rows, .inl (cJ, 500, .inr (.inl C_rows))), (aB_rows, .inl (cJ, 500, .inr (.inl B_rows_32))), (aB_spare, .inl (cJ, 500, .inr (.inl B_spare_34)))] := hD
    refine lv_iconst (v := (0 : Int32)) hx hb dX5_bindsTheSame_79 (by decide) ?_
    refine lv_istore_n (lv' := [(2, .int (0 : Int32)), (0, .ref aB)]) hx hb dX5_bindsTheSame_80 rfl hl (by decide) rfl (fun ls hl => ?_)
    have L_81_43 : ∀ (k : Nat) (x2_44 : Int32) (o_43 : ((Int32 × (Nat → Int64) × (Nat → Int64)) ⊕ Unit)), f_Table_bindsTheSame_L1 n B_count B_rows_32 B_spare_34 k x2_44 = some o_43 → (∀ z : (Int32 × (Nat → Int64) × (Nat → Int64)), some (Sum.inl z) = some o_43 → z = (r, B_rows', B_spare')) → ∀ (H : Heap) (locs : List Loc), va_P D vwCl [(aB, .inr (5, [.ref aB_rows, .ref aB_spare, .int B_count, .int B_found, .int B_crowded])), (aC, .inr (5, [.ref aC_rows, .ref aC_spare, .int C_count, .int C_found, .int C_crowded])), (aB_rows, .inl (cJ, 500, .inr (.inl B_rows_32))), (aC_rows, .inl (cJ, 500, .inr (.inl C_rows))), (aB_spare, .inl (cJ, 500, .inr (.inl B_spare_34)))] H → va_D A [(aB, .inr (5, [.ref aB_rows, .ref aB_spare, .int B_count, .int B_found, .int B_crowded])), (aC, .inr (5, [.ref aC_rows, .ref aC_spare, .int C_count, .int C_found, .int C_crowded])), (aB_rows, .inl (cJ, 500, .inr (.inl B_rows_32))), (aC_rows, .inl (cJ, 500, .inr (.inl C_rows))), (aB_spare, .inl (cJ, 500, .inr (.inl B_spare_34)))] → va_S A s.heap H locs → ∀ ls : Array Slot, lv_has ls 3 [(0, .ref aB), (2, .int x2_44)] → (some (Sum.inr ()) = some o_43 → ∀ (H : Heap) (locs : List Loc), va_P D vwCl [(aB, .inr (5, [.ref aB_rows, .ref aB_spare, .int B_count, .int B_found, .int B_crowded])), (aC, .inr (5, [.ref aC_rows, .ref aC_spare, .int C_count, .int C_found, .int C_crowded])), (aB_rows, .inl (cJ, 500, .inr (.inl B_rows_32))), (aC_rows, .inl (cJ, 500, .inr (.inl C_rows))), (aB_spare, .inl (cJ, 500, .inr (.inl B_spare_34)))] H → va_D A [(aB, .inr (5, [.ref aB_rows, .ref aB_spare, .int B_count, .int B_found, .int B_crowded])), (aC, .inr (5, [.ref aC_rows, .ref aC_spare, .int C_count, .int C_found, .int C_crowded])), (aB_rows, .inl (cJ, 500, .inr (.inl B_rows_32))), (aC_rows, .inl (cJ, 500, .inr (.inl C_rows))), (aB_spare, .inl (cJ, 500, .inr (.inl B_spare_34)))] → va_S A s.heap H locs → ∀ ls : Array Slot, lv_has ls 3 [] → W p l e rm_f_Table_bindsTheSame s m args below meth c H locs 0 0 Q (F0 m 113 ls [])) → W p l e rm_f_Table_bindsTheSame s m args below meth c H locs 0 0 Q (F0 m 81 ls []) := by
      intro k
      induction k with
      | zero =>
        intro x2_44 o_43 hf
        exact absurd (((f_Table_bindsTheSame_L1_z n B_count B_rows_32 B_spare_34 x2_44).symm.trans hf)) (fun h => by cases h)
      | succ k ih =>
        intro x2_44 o_43 hf hret_43 H locs hP hD hS ls hl hX_43
        have hf := (f_Table_bindsTheSame_L1_s n B_count B_rows_32 B_spare_34 k x2_44).symm.trans hf
        refine lv_iload_n hx hb dX5_bindsTheSame_81 rfl (lv_at hl 1 rfl) ?_
        refine lv_aload_n hx hb dX5_bindsTheSame_82 rfl (lv_at hl 0 rfl) ?_
        refine va_get (D := D) (ci := 5) (v := .int B_count) (C := RX5) (T := TX5) (N := 5) hx hb htg giX5 hown hK hP 0 rfl rfl 2 (by decide) (htg _ kw_184) (fun _ h9 => h9) rfl dX5_bindsTheSame_83 ?_
        refine lv_icmp_ge (tgt := 113) hx hb dX5_bindsTheSame_86 (by decide) (fun c_45 => ?_) (fun c_45 => ?_)
        · have hf := xb_t c_45 hf
          exact hX_43  hf _ _ hP hD hS _ (lv_sub hl [] rfl)
        · have hf := xb_f c_45 hf
          refine lv_aload_n hx hb dX5_bindsTheSame_89 rfl (lv_at hl 0 rfl) ?_
          refine va_get (D := D) (ci := 5) (v := .ref aB_rows) (C := RX5) (T := TX5) (N := 5) hx hb htg giX5 hown hK hP 0 rfl rfl 0 (by decide) (htg _ kw_181) (fun _ h9 => h9) rfl dX5_bindsTheSame_90 ?_
          refine lv_iload_n hx hb dX5_bindsTheSame_93 rfl (lv_at hl 1 rfl) ?_
          have g_46 : vp_in x2_44 500 := gd_in hf
          have hf := gd_el hf
          refine va_lald hx hb hK hP 2 1 rfl rfl g_46 dX5_bindsTheSame_94 ?_
          refine lv_aload_n hx hb dX5_bindsTheSame_95 rfl (lv_at hl 0 rfl) ?_
          refine va_get (D := D) (ci := 5) (v := .ref aB_spare) (C := RX5) (T := TX5) (N := 5) hx hb htg giX5 hown hK hP 0 rfl rfl 1 (by decide) (htg _ kw_183) (fun _ h9 => h9) rfl dX5_bindsTheSame_96 ?_
          refine lv_iload_n hx hb dX5_bindsTheSame_99 rfl (lv_at hl 1 rfl) ?_
          refine va_lald hx hb hK hP 4 1 rfl rfl g_46 dX5_bindsTheSame_100 ?_
          refine W.lcmp hx hb dX5_bindsTheSame_101 ?_
          refine lv_if_eq (tgt := 107) hx hb dX5_bindsTheSame_102 (by decide) (fun c_47 => ?_) (fun c_47 => ?_)
          · have hf := xb_t c_47 hf
            obtain ⟨x2_48, ex2_48⟩ : ∃ y : Int32, y = x2_44 + (1 : Int32) := ⟨_, rfl⟩
            have hf := nm_nm ex2_48 hf
            refine lv_iinc (v := x2_48) (lv' := [(2, .int x2_48), (0, .ref aB)]) hx hb dX5_bindsTheSame_107 hl (k := 1) rfl (by rw [ex2_48]; rfl) (by decide) rfl (fun ls hl => ?_)
            refine lv_goto (tgt := 81) hx hb dX5_bindsTheSame_110 (by decide) ?_
            exact ih x2_48 o_43 hf hret_43 _ _ hP hD hS _ (lv_sub hl [1, 0] rfl) hX_43
          · have hf := xb_f c_47 hf
            refine lv_iconst (v := (0 : Int32)) hx hb dX5_bindsTheSame_105 (by decide) ?_
            have hf := congrArg some (hret_43 _ hf)
            have hf := Option.some.inj hf
            obtain ⟨k9_0, f9_0⟩ := Prod.mk.inj hf
            obtain ⟨k9_1, f9_1⟩ := Prod.mk.inj f9_0
            subst k9_0
            subst k9_1
            subst f9_1
            exact x_zret (fun _ => 0) hQ hx hb hr hlk (by decide) hK hP hD hS dX5_bindsTheSame_106
    obtain ⟨o_43, ho_43, hret_43, hk_43⟩ := bd0_s hf
    refine L_81_43 n (0 : Int32) o_43 ho_43 hret_43 _ _ (hP.sub [0, 1, 3, 2, 4] rfl) (hD.sub [0, 1, 3, 2, 4] (by decide) rfl) hS _ (lv_sub hl [1, 0] rfl) (fun  hf H locs hP hD hS ls hl => ?_)
    have hf := hk_43  hf
    refine lv_iconst (v := (1 : Int32)) hx hb dX5_bindsTheSame_113 (by decide) ?_
    have hf := Option.some.inj hf
    obtain ⟨k9_0, f9_0⟩ := Prod.mk.inj hf
    obtain ⟨k9_1, f9_1⟩ := Prod.mk.inj f9_0
    subst k9_0
    subst k9_1
    subst f9_1
    exact x_zret (fun _ => 0) hQ hx hb hr hlk (by decide) hK hP hD hS dX5_bindsTheSame_114
  · have hf := xb_f c_1 hf
    refine lv_iconst (v := (0 : Int32)) hx hb dX5_bindsTheSame_11 (by decide) ?_
    have hf := Option.some.inj hf
    obtain ⟨k9_0, f9_0⟩ := Prod.mk.inj hf
    obtain ⟨k9_1, f9_1⟩ := Prod.mk.inj f9_0
    subst k9_0
    subst k9_1
    subst f9_1
    exact x_zret (fun _ => 0) hQ hx hb hr hlk (by decide) hK hP hD hS dX5_bindsTheSame_12
