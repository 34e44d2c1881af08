abbrev rm_f_JoinOrder_keeps : Room := { frames := 6, cells := 0, slots := 0, locals := 148 }
set_option maxHeartbeats 4000000 in
set_option maxRecDepth 100000 in
theorem c_f_JoinOrder_keeps (l : Launch) (D : va_G) (cI cJ cZ : ClassId) (sz : Nat) (n : Nat) (aJ : Nat) (aT : Nat) (aP : Nat) (aF : Nat) (aQ : Nat) (aM : Nat) (aB : Nat) (J_hasRun : Int32) (aJ_plainOrder : Nat) (aC : Nat) (aB_rows : Nat) (aB_spare : Nat) (B_count : Int32) (B_found : Int32) (B_crowded : Int32) (aP_slots : Nat) (aP_termsSeen : Nat) (aP_matches : Nat) (aP_matchCount : Nat) (aP_variables : Nat) (aP_havingVariable : Nat) (aP_told : Nat) (aP_parent : Nat) (aP_allBefore : Nat) (P_required : Int32) (P_hinted : Int32) (P_count : Int32) (J_plainOrder : Nat → Int32) (P_parent : Nat → Int32) (aC_rows : Nat) (aC_spare : Nat) (C_count : Int32) (C_found : Int32) (C_crowded : Int32) (C_rows : Nat → Int64) (C_spare : Nat → Int64) (P_slots : Nat → Int32) (P_matchCount : Nat → Int32) (P_matches : Nat → Int32) (aF_variable : Nat) (aF_kind : Nat) (aF_value : Nat) (F_safeOnes : Int32) (F_count : Int32) (F_variable : Nat → Int32) (F_kind : Nat → Int32) (F_value : Nat → Int32) (B_rows : Nat → Int64) {r : Int32} {J_plainOrder' : Nat → Int32} {aC_rows' : Nat} {aC_spare' : Nat} {C_count' : Int32} {C_found' : Int32} {C_crowded' : Int32} {C_rows' : Nat → Int64} {C_spare' : Nat → Int64} (hf : f_JoinOrder_keeps n J_hasRun B_count B_crowded P_required P_count J_plainOrder P_parent aC_rows aC_spare C_count C_found C_crowded C_rows C_spare P_slots P_matchCount P_matches F_count F_variable F_kind F_value B_rows = some (r, J_plainOrder', aC_rows', aC_spare', C_count', C_found', C_crowded', C_rows', C_spare')) : Met l yX0_keeps (.code yX0_keeps cX0_keeps 1 (some .boolean) :: GW) rm_f_JoinOrder_keeps (va_Pc [.ref aJ] (xP D (xT cI cJ cZ) sz [(aJ, .inr (0, [.ref aT, .ref aP, .ref aF, .ref aQ, .ref aM, .ref aB, .int J_hasRun, .ref aJ_plainOrder, .ref aC])), (aB, .inr (5, [.ref aB_rows, .ref aB_spare, .int B_count, .int B_found, .int B_crowded])), (aP, .inr (2, [.ref aP_slots, .ref aP_termsSeen, .ref aP_matches, .ref aP_matchCount, .ref aP_variables, .ref aP_havingVariable, .ref aP_told, .ref aP_parent, .ref aP_allBefore, .int P_required, .int P_hinted, .int P_count])), (aJ_plainOrder, .inl (cI, 8, .inl J_plainOrder)), (aP_parent, .inl (cI, 8, .inl P_parent)), (aC, .inr (5, [.ref aC_rows, .ref aC_spare, .int C_count, .int C_found, .int C_crowded])), (aC_rows, .inl (cJ, 500, .inr (.inl C_rows))), (aC_spare, .inl (cJ, 500, .inr (.inl C_spare))), (aP_slots, .inl (cI, 24, .inl P_slots)), (aP_matchCount, .inl (cI, 8, .inl P_matchCount)), (aP_matches, .inl (cI, 640, .inl P_matches)), (aF, .inr (1, [.ref aF_variable, .ref aF_kind, .ref aF_value, .int F_safeOnes, .int F_count])), (aF_variable, .inl (cI, 8, .inl F_variable)), (aF_kind, .inl (cI, 8, .inl F_kind)), (aF_value, .inl (cI, 8, .inl F_value)), (aB_rows, .inl (cJ, 500, .inr (.inl B_rows)))])) (va_Qi (fun r2 (_ : Nat → Nat) => r2 = r ∧ (r = 0 ∨ r = 1)) (bB D (xT cI cJ cZ) (fun _ => [(aJ, .inr (0, [.ref aT, .ref aP, .ref aF, .ref aQ, .ref aM, .ref aB, .int J_hasRun, .ref aJ_plainOrder, .ref aC])), (aB, .inr (5, [.ref aB_rows, .ref aB_spare, .int B_count, .int B_found, .int B_crowded])), (aP, .inr (2, [.ref aP_slots, .ref aP_termsSeen, .ref aP_matches, .ref aP_matchCount, .ref aP_variables, .ref aP_havingVariable, .ref aP_told, .ref aP_parent, .ref aP_allBefore, .int P_required, .int P_hinted, .int P_count])), (aJ_plainOrder, .inl (cI, 8, .inl J_plainOrder')), (aP_parent, .inl (cI, 8, .inl P_parent)), (aC, .inr (5, [.ref aC_rows', .ref aC_spare', .int C_count', .int C_found', .int C_crowded'])), (aC_rows', .inl (cJ, 500, .inr (.inl C_rows'))), (aC_spare', .inl (cJ, 500, .inr (.inl C_spare'))), (aP_slots, .inl (cI, 24, .inl P_slots)), (aP_matchCount, .inl (cI, 8, .inl P_matchCount)), (aP_matches, .inl (cI, 640, .inl P_matches)), (aF, .inr (1, [.ref aF_variable, .ref aF_kind, .ref aF_value, .int F_safeOnes, .int F_count])), (aF_variable, .inl (cI, 8, .inl F_variable)), (aF_kind, .inl (cI, 8, .inl F_kind)), (aF_value, .inl (cI, 8, .inl F_value)), (aB_rows, .inl (cJ, 500, .inr (.inl B_rows)))]) (va_A [(aJ, .inr (0, [.ref aT, .ref aP, .ref aF, .ref aQ, .ref aM, .ref aB, .int J_hasRun, .ref aJ_plainOrder, .ref aC])), (aB, .inr (5, [.ref aB_rows, .ref aB_spare, .int B_count, .int B_found, .int B_crowded])), (aP, .inr (2, [.ref aP_slots, .ref aP_termsSeen, .ref aP_matches, .ref aP_matchCount, .ref aP_variables, .ref aP_havingVariable, .ref aP_told, .ref aP_parent, .ref aP_allBefore, .int P_required, .int P_hinted, .int P_count])), (aJ_plainOrder, .inl (cI, 8, .inl J_plainOrder)), (aP_parent, .inl (cI, 8, .inl P_parent)), (aC, .inr (5, [.ref aC_rows, .ref aC_spare, .int C_count, .int C_found, .int C_crowded])), (aC_rows, .inl (cJ, 500, .inr (.inl C_rows))), (aC_spare, .inl (cJ, 500, .inr (.inl C_spare))), (aP_slots, .inl (cI, 24, .inl P_slots)), (aP_matchCount, .inl (cI, 8, .inl P_matchCount)), (aP_matches, .inl (cI, 640, .inl P_matches)), (aF, .inr (1, [.ref aF_variable, .ref aF_kind, .ref aF_value, .int F_safeOnes, .int F_count])), (aF_variable, .inl (cI, 8, .inl F_variable)), (aF_kind, .inl (cI, 8, .inl F_kind)), (aF_value, .inl (cI, 8, .inl F_value)), (aB_rows, .inl (cJ, 500, .inr (.inl B_rows)))] sz)) (va_A [(aJ, .inr (0, [.ref aT, .ref aP, .ref aF, .ref aQ, .ref aM, .ref aB, .int J_hasRun, .ref aJ_plainOrder, .ref aC])), (aB, .inr (5, [.ref aB_rows, .ref aB_spare, .int B_count, .int B_found, .int B_crowded])), (aP, .inr (2, [.ref aP_slots, .ref aP_termsSeen, .ref aP_matches, .ref aP_matchCount, .ref aP_variables, .ref aP_havingVariable, .ref aP_told, .ref aP_parent, .ref aP_allBefore, .int P_required, .int P_hinted, .int P_count])), (aJ_plainOrder, .inl (cI, 8, .inl J_plainOrder)), (aP_parent, .inl (cI, 8, .inl P_parent)), (aC, .inr (5, [.ref aC_rows, .ref aC_spare, .int C_count, .int C_found, .int C_crowded])), (aC_rows, .inl (cJ, 500, .inr (.inl C_rows))), (aC_spare, .inl (cJ, 500, .inr (.inl C_spare))), (aP_slots, .inl (cI, 24, .inl P_slots)), (aP_matchCount, .inl (cI, 8, .inl P_matchCount)), (aP_matches, .inl (cI, 640, .inl P_matches)), (aF, .inr (1, [.ref aF_variable, .ref aF_kind, .ref aF_value, .int F_safeOnes, .int F_count])), (aF_variable, .inl (cI, 8, .inl F_variable)), (aF_kind, .inl (cI, 8, .inl F_kind)), (aF_value, .inl (cI, 8, .inl F_value)), (aB_rows, .inl (cJ, 500, .inr (.inl B_rows)))] sz)) 0 0 (va_A [(aJ, .inr (0, [.ref aT, .ref aP, .ref aF, .ref aQ, .ref aM, .ref aB, .int J_hasRun, .ref aJ_plainOrder, .ref aC])), (aB, .inr (5, [.ref aB_rows, .ref aB_spare, .int B_count, .int B_found, .int B_crowded])), (aP, .inr (2, [.ref aP_slots, .ref aP_termsSeen, .ref aP_matches, .ref aP_matchCount, .ref aP_variables, .ref aP_havingVariable, .ref aP_told, .ref aP_parent, .ref aP_allBefore, .int P_required, .int P_hinted, .int P_count])), (aJ_plainOrder, .inl (cI, 8, .inl J_plainOrder)), (aP_parent, .inl (cI, 8, .inl P_parent)), (aC, .inr (5, [.ref aC_rows, .ref aC_spare, .int C_count, .int C_found, .int C_crowded])), (aC_rows, .inl (cJ, 500, .inr (.inl C_rows))), (aC_spare, .inl (cJ, 500, .inr (.inl C_spare))), (aP_slots, .inl (cI, 24, .inl P_slots)), (aP_matchCount, .inl (cI, 8, .inl P_matchCount)), (aP_matches, .inl (cI, 640, .inl P_matches)), (aF, .inr (1, [.ref aF_variable, .ref aF_kind, .ref aF_value, .int F_safeOnes, .int F_count])), (aF_variable, .inl (cI, 8, .inl F_variable)), (aF_kind, .inl (cI, 8, .inl F_kind)), (aF_value, .inl (cI, 8, .inl F_value)), (aB_rows, .inl (cJ, 500, .inr (.inl B_rows)))] sz) := by
  refine con_start (y := yX0_keeps) (bytes := cX0_keeps) (maxL := 1) (av := [.ref aJ]) (Qc := fun A => va_Qi (fun r2 (_ : Nat → Nat) => r2 = r ∧ (r = 0 ∨ r = 1)) (bB D (xT cI cJ cZ) (fun _ => [(aJ, .inr (0, [.ref aT, .ref aP, .ref aF, .ref aQ, .ref aM, .ref aB, .int J_hasRun, .ref aJ_plainOrder, .ref aC])), (aB, .inr (5, [.ref aB_rows, .ref aB_spare, .int B_count, .int B_found, .int B_crowded])), (aP, .inr (2, [.ref aP_slots, .ref aP_termsSeen, .ref aP_matches, .ref aP_matchCount, .ref aP_variables, .ref aP_havingVariable, .ref aP_told, .ref aP_parent, .ref aP_allBefore, .int P_required, .int P_hinted, .int P_count])), (aJ_plainOrder, .inl (cI, 8, .inl J_plainOrder')), (aP_parent, .inl (cI, 8, .inl P_parent)), (aC, .inr (5, [.ref aC_rows', .ref aC_spare', .int C_count', .int C_found', .int C_crowded'])), (aC_rows', .inl (cJ, 500, .inr (.inl C_rows'))), (aC_spare', .inl (cJ, 500, .inr (.inl C_spare'))), (aP_slots, .inl (cI, 24, .inl P_slots)), (aP_matchCount, .inl (cI, 8, .inl P_matchCount)), (aP_matches, .inl (cI, 640, .inl P_matches)), (aF, .inr (1, [.ref aF_variable, .ref aF_kind, .ref aF_value, .int F_safeOnes, .int F_count])), (aF_variable, .inl (cI, 8, .inl F_variable)), (aF_kind, .inl (cI, 8, .inl F_kind)), (aF_value, .inl (cI, 8, .inl F_value)), (aB_rows, .inl (cJ, 500, .inr (.inl B_rows)))]) A) A) (by decide) (Nat.le_of_ble_eq_true rfl) ?_
  intro p e s m args below meth c Q A hx hb hr hlk hml hown hin htg hN hK hQ hA hP hD hS ls hl
  have hl : lv_has ls 1 [(0, .ref aJ)] := hl
  have hown : s.vm.findClass RX0 = some m.cls := hown
  have hf := (f_JoinOrder_keeps_u n J_hasRun B_count B_crowded P_required P_count J_plainOrder P_parent aC_rows aC_spare C_count C_found C_crowded C_rows C_spare P_slots P_matchCount P_matches F_count F_variable F_kind F_value B_rows).symm.trans hf
  refine lv_aload_n hx hb dX0_keeps_0 rfl (lv_at hl 0 rfl) ?_
  refine va_get (D := D) (ci := 0) (v := .int J_hasRun) (C := RX0) (T := TX0) (N := 9) hx hb htg giX0 hown hK hP 0 rfl rfl 6 (by decide) (htg _ kw_206) (fun _ h9 => h9) rfl dX0_keeps_1 ?_
  refine lv_if_eq (tgt := 17) hx hb dX0_keeps_4 (by decide) (fun c_1 => ?_) (fun c_1 => ?_)
  · have hf := xb_t c_1 hf
    refine lv_iconst (v := (0 : Int32)) hx hb dX0_keeps_17 (by decide) ?_
    have hf := Option.some.inj hf
    obtain ⟨k9_0, f9_0⟩ := Prod.mk.inj hf
    obtain ⟨k9_1, f9_1⟩ := Prod.mk.inj f9_0
    obtain ⟨k9_2, f9_2⟩ := Prod.mk.inj f9_1
    obtain ⟨k9_3, f9_3⟩ := Prod.mk.inj f9_2
    obtain ⟨k9_4, f9_4⟩ := Prod.mk.inj f9_3
    obtain ⟨k9_5, f9_5⟩ := Prod.mk.inj f9_4
    obtain ⟨k9_6, f9_6⟩ := Prod.mk.inj f9_5
    obtain ⟨k9_7, f9_7⟩ := Prod.mk.inj f9_6
    subst k9_0
    subst k9_1
    subst k9_2
    subst k9_3
    subst k9_4
    subst k9_5
    subst k9_6
    subst k9_7
    subst f9_7
    exact x_zret (fun _ => 0) hQ hx hb hr hlk (by decide) hK hP hD hS dX0_keeps_18
  · have hf := xb_f c_1 hf
    refine lv_aload_n hx hb dX0_keeps_7 rfl (lv_at hl 0 rfl) ?_
    refine va_get (D := D) (ci := 0) (v := .ref aB) (C := RX0) (T := TX0) (N := 9) hx hb htg giX0 hown hK hP 0 rfl rfl 5 (by decide) (htg _ kw_205) (fun _ h9 => h9) rfl dX0_keeps_8 ?_
    refine va_getN (D := D) (ci := 5) (v := .int B_crowded) (C := RX5) (T := TX5) (N := 5) hx hb htg giX5 hown hK hP 1 rfl rfl 4 (by decide) (va_Nw.use rfl (hN _ kn_188)) (fun _ h9 => h9) rfl dX0_keeps_11 ?_
    refine lv_if_eq (tgt := 19) hx hb dX0_keeps_14 (by decide) (fun c_2 => ?_) (fun c_2 => ?_)
    · have hf := xb_t c_2 hf
      refine lv_aload_n hx hb dX0_keeps_19 rfl (lv_at hl 0 rfl) ?_
      obtain ⟨J_plainOrder_4, aC_rows_5, aC_spare_6, C_count_7, C_found_8, C_crowded_9, C_rows_10, C_spare_11, hq_3, hf⟩ := bn8_c hf
      refine x_v (xrV (As := []) (b := aJ) (rest := []) ⟨hx, hb, hml, hown, htg⟩ (c_f_JoinOrder_makePlainOnes l D cI cJ cZ _ n aJ aT aP aF aQ aM aB J_hasRun aJ_plainOrder aC aP_slots aP_termsSeen aP_matches aP_matchCount aP_variables aP_havingVariable aP_told aP_parent aP_allBefore P_required P_hinted P_count J_plainOrder P_parent aC_rows aC_spare C_count C_found C_crowded C_rows C_spare P_slots P_matchCount P_matches aF_variable aF_kind aF_value F_safeOnes F_count F_variable F_kind F_value hq_3) kc_f_JoinOrder_makePlainOnes kw_535 kw_537 kp_19 kw_1 dd_f_JoinOrder_makePlainOnes ⟨Nat.le_of_ble_eq_true rfl, Nat.le_of_ble_eq_true rfl⟩ rfl rfl (hP.sub [0, 2, 3, 4, 5, 6, 7, 8, 9, 10, 11, 12, 13, 14] rfl) (hD.sub [0, 2, 3, 4, 5, 6, 7, 8, 9, 10, 11, 12, 13, 14] (by decide) rfl) hK hN hP (q0 := 0) rfl rfl rfl hl.1 rfl (Nat.le_of_ble_eq_true rfl) dX0_keeps_20 ⟨Nat.le_of_ble_eq_true rfl, Nat.le_of_ble_eq_true rfl⟩) hP hD hS hA [0, 2, 3, 4, 5, 6, 7, 8, 9, 10, 11, 12, 13, 14] [1, 15] rfl rfl (by decide) (by decide) (fun _ H locs hP hD hS => ?_)
      have hP : va_P D vwCl [(aB, .inr (5, [.ref aB_rows, .ref aB_spare, .int B_count, .int B_found, .int B_crowded])), (aB_rows, .inl (cJ, 500, .inr (.inl B_rows))), (aJ, .inr (0, [.ref aT, .ref aP, .ref aF, .ref aQ, .ref aM, .ref aB, .int J_hasRun, .ref aJ_plainOrder, .ref aC])), (aP, .inr (2, [.ref aP_slots, .ref aP_termsSeen, .ref aP_matches, .ref aP_matchCount, .ref aP_variables, .ref aP_havingVariable, .ref aP_told, .ref aP_parent, .ref aP_allBefore, .int P_required, .int P_hinted, .int P_count])), (aJ_plainOrder, .inl (cI, 8, .inl J_plainOrder_4)), (aP_parent, .inl (cI, 8, .inl P_parent)), (aC, .inr (5, [.ref aC_rows_5, .ref aC_spare_6, .int C_count_7, .int C_found_8, .int C_crowded_9])), (aC_rows_5, .inl (cJ, 500, .inr (.inl C_rows_10))), (aC_spare_6, .inl (cJ, 500, .inr (.inl C_spare_11))), (aP_slots, .inl (cI, 24, .inl P_slots)), (aP_matchCount, .inl (cI, 8, .inl P_matchCount)), (aP_matches, .inl (cI, 640, .inl P_matches)), (aF, .inr (1, [.ref aF_variable, .ref aF_kind, .ref aF_value, .int F_safeOnes, .int F_count])), (aF_variable, .inl (cI, 8, .inl F_variable)), (aF_kind, .inl (cI, 8, .inl F_kind)), (aF_value, .inl (cI, 8, .inl F_value))] H := hP
      have hD : va_D A [(aB, .inr (5, [.ref aB_rows, .ref aB_spare, .int B_count, .int B_found, .int B_crowded])), (aB_rows, .inl (cJ, 500, .inr (.inl B_rows))), (aJ, .inr (0, [.ref aT, .ref aP, .ref aF, .ref aQ, .ref aM, .ref aB, .int J_hasRun, .ref aJ_plainOrder, .ref aC])), (aP, .inr (2, [.ref aP_slots, .ref aP_termsSeen, .ref aP_matches, .ref aP_matchCount, .ref aP_variables, .ref aP_havingVariable, .ref aP_told, .ref aP_parent, .ref aP_allBefore, .int P_required, .int P_hinted, .int P_count])), (aJ_plainOrder, .inl (cI, 8, .inl J_plainOrder_4)), (aP_parent, .inl (cI, 8, .inl P_parent)), (aC, .inr (5, [.ref aC_rows_5, .ref aC_spare_6, .int C_count_7, .int C_found_8, .int C_crowded_9])), (aC_rows_5, .inl (cJ, 500, .inr (.inl C_rows_10))), (aC_spare_6, .inl (cJ, 500, .inr (.inl C_spare_11))), (aP_slots, .inl (cI, 24, .inl P_slots)), (aP_matchCount, .inl (cI, 8, .inl P_matchCount)), (aP_matches, .inl (cI, 640, .inl P_matches)), (aF, .inr (1, [.ref aF_variable, .ref aF_kind, .ref aF_value, .int F_safeOnes, .int F_count])), (aF_variable, .inl (cI, 8, .inl F_variable)), (aF_kind, .inl (cI, 8, .inl F_kind)), (aF_value, .inl (cI, 8, .inl F_value))] := hD
      refine lv_aload_n hx hb dX0_keeps_23 rfl (lv_at hl 0 rfl) ?_
      refine va_get (D := D) (ci := 0) (v := .ref aC) (C := RX0) (T := TX0) (N := 9) hx hb htg giX0 hown hK hP 2 rfl rfl 8 (by decide) (htg _ kw_208) (fun _ h9 => h9) rfl dX0_keeps_24 ?_
      refine va_getN (D := D) (ci := 5) (v := .int C_crowded_9) (C := RX5) (T := TX5) (N := 5) hx hb htg giX5 hown hK hP 6 rfl rfl 4 (by decide) (va_Nw.use rfl (hN _ kn_188)) (fun _ h9 => h9) rfl dX0_keeps_27 ?_
      refine lv_if_ne (tgt := 51) hx hb dX0_keeps_30 (by decide) (fun c_12 => ?_) (fun c_12 => ?_)
      · have hf := xb_f c_12 hf
        refine lv_iconst (v := (0 : Int32)) hx hb dX0_keeps_51 (by decide) ?_
        have hf := Option.some.inj hf
        obtain ⟨k9_0, f9_0⟩ := Prod.mk.inj hf
        obtain ⟨k9_1, f9_1⟩ := Prod.mk.inj f9_0
        obtain ⟨k9_2, f9_2⟩ := Prod.mk.inj f9_1
        obtain ⟨k9_3, f9_3⟩ := Prod.mk.inj f9_2
        obtain ⟨k9_4, f9_4⟩ := Prod.mk.inj f9_3
        obtain ⟨k9_5, f9_5⟩ := Prod.mk.inj f9_4
        obtain ⟨k9_6, f9_6⟩ := Prod.mk.inj f9_5
        obtain ⟨k9_7, f9_7⟩ := Prod.mk.inj f9_6
        subst k9_0
        subst k9_1
        subst k9_2
        subst k9_3
        subst k9_4
        subst k9_5
        subst k9_6
        subst k9_7
        subst f9_7
        exact x_zret (fun _ => 0) hQ hx hb hr hlk (by decide) hK (hP.sub [2, 0, 3, 4, 5, 6, 7, 8, 9, 10, 11, 12, 13, 14, 15, 1] rfl) (hD.sub [2, 0, 3, 4, 5, 6, 7, 8, 9, 10, 11, 12, 13, 14, 15, 1] (by decide) rfl) hS dX0_keeps_52
      · have hf := xb_t c_12 hf
        refine lv_aload_n hx hb dX0_keeps_33 rfl (lv_at hl 0 rfl) ?_
        refine va_get (D := D) (ci := 0) (v := .ref aC) (C := RX0) (T := TX0) (N := 9) hx hb htg giX0 hown hK hP 2 rfl rfl 8 (by decide) (htg _ kw_208) (fun _ h9 => h9) rfl dX0_keeps_34 ?_
        refine lv_aload_n hx hb dX0_keeps_37 rfl (lv_at hl 0 rfl) ?_
        refine va_get (D := D) (ci := 0) (v := .ref aB) (C := RX0) (T := TX0) (N := 9) hx hb htg giX0 hown hK hP 2 rfl rfl 5 (by decide) (htg _ kw_205) (fun _ h9 => h9) rfl dX0_keeps_38 ?_
        obtain ⟨r_14, C_rows_15, C_spare_16, hq_13, hf⟩ := bn3_c hf
        refine x_z (xrV (As := [.ref aB]) (b := aC) (rest := []) ⟨hx, hb, hml, hown, htg⟩ (c_f_Table_bindsTheSame l D cI cJ cZ _ n aC aB aC_rows_5 aC_spare_6 C_count_7 C_found_8 C_crowded_9 aB_rows aB_spare B_count B_found B_crowded C_rows_10 B_rows C_spare_11 hq_13) kc_f_Table_bindsTheSame kw_549 kw_550 kw_551 kw_7 dd_f_Table_bindsTheSame ⟨Nat.le_of_ble_eq_true rfl, Nat.le_of_ble_eq_true rfl⟩ rfl rfl (hP.sub [6, 0, 7, 1, 8] rfl) (hD.sub [6, 0, 7, 1, 8] (by decide) rfl) hK hN hP (q0 := 6) rfl rfl rfl hl.1 rfl (Nat.le_of_ble_eq_true rfl) dX0_keeps_41 ⟨Nat.le_of_ble_eq_true rfl, Nat.le_of_ble_eq_true rfl⟩) hP hD hS hA [6, 0, 7, 1, 8] [2, 3, 4, 5, 9, 10, 11, 12, 13, 14, 15] rfl rfl (by decide) (by decide) (fun _ H locs bz_13 hP hD hS => ?_)
        have hP : va_P D vwCl [(aJ, .inr (0, [.ref aT, .ref aP, .ref aF, .ref aQ, .ref aM, .ref aB, .int J_hasRun, .ref aJ_plainOrder, .ref aC])), (aP, .inr (2, [.ref aP_slots, .ref aP_termsSeen, .ref aP_matches, .ref aP_matchCount, .ref aP_variables, .ref aP_havingVariable, .ref aP_told, .ref aP_parent, .ref aP_allBefore, .int P_required, .int P_hinted, .int P_count])), (aJ_plainOrder, .inl (cI, 8, .inl J_plainOrder_4)), (aP_parent, .inl (cI, 8, .inl P_parent)), (aP_slots, .inl (cI, 24, .inl P_slots)), (aP_matchCount, .inl (cI, 8, .inl P_matchCount)), (aP_matches, .inl (cI, 640, .inl P_matches)), (aF, .inr (1, [.ref aF_variable, .ref aF_kind, .ref aF_value, .int F_safeOnes, .int F_count])), (aF_variable, .inl (cI, 8, .inl F_variable)), (aF_kind, .inl (cI, 8, .inl F_kind)), (aF_value, .inl (cI, 8, .inl F_value)), (aC, .inr (5, [.ref aC_rows_5, .ref aC_spare_6, .int C_count_7, .int C_found_8, .int C_crowded_9])), (aB, .inr (5, [.ref aB_rows, .ref aB_spare, .int B_count, .int B_found, .int B_crowded])), (aC_rows_5, .inl (cJ, 500, .inr (.inl C_rows_15))), (aB_rows, .inl (cJ, 500, .inr (.inl B_rows))), (aC_spare_6, .inl (cJ, 500, .inr (.inl C_spare_16)))] H := hP
        have hD : va_D A [(aJ, .inr (0, [.ref aT, .ref aP, .ref aF, .ref aQ, .ref aM, .ref aB, .int J_hasRun, .ref aJ_plainOrder, .ref aC])), (aP, .inr (2, [.ref aP_slots, .ref aP_termsSeen, .ref aP_matches, .ref aP_matchCount, .ref aP_variables, .ref aP_havingVariable, .ref aP_told, .ref aP_parent, .ref aP_allBefore, .int P_required, .int P_hinted, .int P_count])), (aJ_plainOrder, .inl (cI, 8, .inl J_plainOrder_4)), (aP_parent, .inl (cI, 8, .inl P_parent)), (aP_slots, .inl (cI, 24, .inl P_slots)), (aP_matchCount, .inl (cI, 8, .inl P_matchCount)), (aP_matches, .inl (cI, 640, .inl P_matches)), (aF, .inr (1, [.ref aF_variable, .ref aF_kind, .ref aF_value, .int F_safeOnes, .int F_count])), (aF_variable, .inl (cI, 8, .inl F_variable)), (aF_kind, .inl (cI, 8, .inl F_kind)), (aF_value, .inl (cI, 8, .inl F_value)), (aC, .inr (5, [.ref aC_rows_5, .ref aC_spare_6, .int C_count_7, .int C_found_8, .int C_crowded_9])), (aB, .inr (5, [.ref aB_rows, .ref aB_spare, .int B_count, .int B_found, .int B_crowded])), (aC_rows_5, .inl (cJ, 500, .inr (.inl C_rows_15))), (aB_rows, .inl (cJ, 500, .inr (.inl B_rows))), (aC_spare_6, .inl (cJ, 500, .inr (.inl C_spare_16)))] := hD
        refine lv_if_eq (tgt := 51) hx hb dX0_keeps_44 (by decide) (fun c_17 => ?_) (fun c_17 => ?_)
        · have hf := xb_t c_17 hf
          refine lv_iconst (v := (0 : Int32)) hx hb dX0_keeps_51 (by decide) ?_
          have hf := Option.some.inj hf
          obtain ⟨k9_0, f9_0⟩ := Prod.mk.inj hf
          obtain ⟨k9_1, f9_1⟩ := Prod.mk.inj f9_0
          obtain ⟨k9_2, f9_2⟩ := Prod.mk.inj f9_1
          obtain ⟨k9_3, f9_3⟩ := Prod.mk.inj f9_2
          obtain ⟨k9_4, f9_4⟩ := Prod.mk.inj f9_3
          obtain ⟨k9_5, f9_5⟩ := Prod.mk.inj f9_4
          obtain ⟨k9_6, f9_6⟩ := Prod.mk.inj f9_5
          obtain ⟨k9_7, f9_7⟩ := Prod.mk.inj f9_6
          subst k9_0
          subst k9_1
          subst k9_2
          subst k9_3
          subst k9_4
          subst k9_5
          subst k9_6
          subst k9_7
          subst f9_7
          exact x_zret (fun _ => 0) hQ hx hb hr hlk (by decide) hK (hP.sub [0, 12, 1, 2, 3, 11, 13, 15, 4, 5, 6, 7, 8, 9, 10, 14] rfl) (hD.sub [0, 12, 1, 2, 3, 11, 13, 15, 4, 5, 6, 7, 8, 9, 10, 14] (by decide) rfl) hS dX0_keeps_52
        · have hf := xb_f c_17 hf
          refine lv_iconst (v := (1 : Int32)) hx hb dX0_keeps_47 (by decide) ?_
          refine lv_goto (tgt := 52) hx hb dX0_keeps_48 (by decide) ?_
          have hf := Option.some.inj hf
          obtain ⟨k9_0, f9_0⟩ := Prod.mk.inj hf
          obtain ⟨k9_1, f9_1⟩ := Prod.mk.inj f9_0
          obtain ⟨k9_2, f9_2⟩ := Prod.mk.inj f9_1
          obtain ⟨k9_3, f9_3⟩ := Prod.mk.inj f9_2
          obtain ⟨k9_4, f9_4⟩ := Prod.mk.inj f9_3
          obtain ⟨k9_5, f9_5⟩ := Prod.mk.inj f9_4
          obtain ⟨k9_6, f9_6⟩ := Prod.mk.inj f9_5
          obtain ⟨k9_7, f9_7⟩ := Prod.mk.inj f9_6
          subst k9_0
          subst k9_1
          subst k9_2
          subst k9_3
          subst k9_4
          subst k9_5
          subst k9_6
          subst k9_7
          subst f9_7
          exact x_zret (fun _ => 0) hQ hx hb hr hlk (by decide) hK (hP.sub [0, 12, 1, 2, 3, 11, 13, 15, 4, 5, 6, 7, 8, 9, 10, 14] rfl) (hD.sub [0, 12, 1, 2, 3, 11, 13, 15, 4, 5, 6, 7, 8, 9, 10, 14] (by decide) rfl) hS dX0_keeps_52
    · have hf := xb_f c_2 hf
      refine lv_iconst (v := (0 : Int32)) hx hb dX0_keeps_17 (by decide) ?_
      have hf := Option.some.inj hf
      obtain ⟨k9_0, f9_0⟩ := Prod.mk.inj hf
      obtain ⟨k9_1, f9_1⟩ := Prod.mk.inj f9_0
      obtain ⟨k9_2, f9_2⟩ := Prod.mk.inj f9_1
      obtain ⟨k9_3, f9_3⟩ := Prod.mk.inj f9_2
      obtain ⟨k9_4, f9_4⟩ := Prod.mk.inj f9_3
      obtain ⟨k9_5, f9_5⟩ := Prod.mk.inj f9_4
      obtain ⟨k9_6, f9_6⟩ := Prod.mk.inj f9_5
      obtain ⟨k9_7, f9_7⟩ := Prod.mk.inj f9_6
      subst k9_0
      subst k9_1
      subst k9_2
      subst k9_3
      subst k9_4
      subst k9_5
      subst k9_6
      subst k9_7
      subst f9_7
      exact x_zret (fun _ => 0) hQ hx hb hr hlk (by decide) hK hP hD hS dX0_keeps_18
