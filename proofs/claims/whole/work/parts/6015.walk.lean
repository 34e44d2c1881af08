abbrev rm_f_JoinOrder_triple : Room := { frames := 5, cells := 0, slots := 0, locals := 116 }
set_option maxHeartbeats 4000000 in
set_option maxRecDepth 100000 in
theorem c_f_JoinOrder_triple (l : Launch) (D : va_G) (cI cJ cZ : ClassId) (sz : Nat) (n : Nat) (aJ : Nat) (x1 : Int32) (x2 : Int32) (x3 : Int32) (aT : Nat) (aP : Nat) (aF : Nat) (aQ : Nat) (aM : Nat) (aB : Nat) (J_hasRun : Int32) (aJ_plainOrder : Nat) (aC : Nat) (aT_packed : Nat) (T_count : Int32) (T_packed : Nat → Int32) (aP_slots : Nat) (aP_termsSeen : Nat) (aP_matches : Nat) (aP_matchCount : Nat) (aP_variables : Nat) (aP_havingVariable : Nat) (aP_told : Nat) (aP_parent : Nat) (aP_allBefore : Nat) (P_required : Int32) (P_hinted : Int32) (P_count : Int32) (P_matchCount : Nat → Int32) (P_slots : Nat → Int32) (P_matches : Nat → Int32) (P_termsSeen : Nat → Int32) {r : Int32} {T_count' : Int32} {T_packed' : Nat → Int32} {P_matchCount' : Nat → Int32} {P_matches' : Nat → Int32} {P_termsSeen' : Nat → Int32} (hf : f_JoinOrder_triple n x1 x2 x3 T_count T_packed P_count P_matchCount P_slots P_matches P_termsSeen = some (r, T_count', T_packed', P_matchCount', P_matches', P_termsSeen')) : Met l yX0_triple (.code yX0_triple cX0_triple 5 (some .int) :: GW) rm_f_JoinOrder_triple (va_Pc [.ref aJ, .int x1, .int x2, .int x3] (xP D (xT cI cJ cZ) sz [(aJ, .inr (0, [.ref aT, .ref aP, .ref aF, .ref aQ, .ref aM, .ref aB, .int J_hasRun, .ref aJ_plainOrder, .ref aC])), (aT, .inr (6, [.ref aT_packed, .int T_count])), (aT_packed, .inl (cI, 80, .inl T_packed)), (aP, .inr (2, [.ref aP_slots, .ref aP_termsSeen, .ref aP_matches, .ref aP_matchCount, .ref aP_variables, .ref aP_havingVariable, .ref aP_told, .ref aP_parent, .ref aP_allBefore, .int P_required, .int P_hinted, .int P_count])), (aP_matchCount, .inl (cI, 8, .inl P_matchCount)), (aP_slots, .inl (cI, 24, .inl P_slots)), (aP_matches, .inl (cI, 640, .inl P_matches)), (aP_termsSeen, .inl (cI, 24, .inl P_termsSeen))])) (va_Qi (fun r2 (_ : Nat → Nat) => r2 = r) (bB D (xT cI cJ cZ) (fun _ => [(aJ, .inr (0, [.ref aT, .ref aP, .ref aF, .ref aQ, .ref aM, .ref aB, .int J_hasRun, .ref aJ_plainOrder, .ref aC])), (aT, .inr (6, [.ref aT_packed, .int T_count'])), (aT_packed, .inl (cI, 80, .inl T_packed')), (aP, .inr (2, [.ref aP_slots, .ref aP_termsSeen, .ref aP_matches, .ref aP_matchCount, .ref aP_variables, .ref aP_havingVariable, .ref aP_told, .ref aP_parent, .ref aP_allBefore, .int P_required, .int P_hinted, .int P_count])), (aP_matchCount, .inl (cI, 8, .inl P_matchCount')), (aP_slots, .inl (cI, 24, .inl P_slots)), (aP_matches, .inl (cI, 640, .inl P_matches')), (aP_termsSeen, .inl (cI, 24, .inl P_termsSeen'))]) (va_A [(aJ, .inr (0, [.ref aT, .ref aP, .ref aF, .ref aQ, .ref aM, .ref aB, .int J_hasRun, .ref aJ_plainOrder, .ref aC])), (aT, .inr (6, [.ref aT_packed, .int T_count])), (aT_packed, .inl (cI, 80, .inl T_packed)), (aP, .inr (2, [.ref aP_slots, .ref aP_termsSeen, .ref aP_matches, .ref aP_matchCount, .ref aP_variables, .ref aP_havingVariable, .ref aP_told, .ref aP_parent, .ref aP_allBefore, .int P_required, .int P_hinted, .int P_count])), (aP_matchCount, .inl (cI, 8, .inl P_matchCount)), (aP_slots, .inl (cI, 24, .inl P_slots)), (aP_matches, .inl (cI, 640, .inl P_matches)), (aP_termsSeen, .inl (cI, 24, .inl P_termsSeen))] sz)) (va_A [(aJ, .inr (0, [.ref aT, .ref aP, .ref aF, .ref aQ, .ref aM, .ref aB, .int J_hasRun, .ref aJ_plainOrder, .ref aC])), (aT, .inr (6, [.ref aT_packed, .int T_count])), (aT_packed, .inl (cI, 80, .inl T_packed)), (aP, .inr (2, [.ref aP_slots, .ref aP_termsSeen, .ref aP_matches, .ref aP_matchCount, .ref aP_variables, .ref aP_havingVariable, .ref aP_told, .ref aP_parent, .ref aP_allBefore, .int P_required, .int P_hinted, .int P_count])), (aP_matchCount, .inl (cI, 8, .inl P_matchCount)), (aP_slots, .inl (cI, 24, .inl P_slots)), (aP_matches, .inl (cI, 640, .inl P_matches)), (aP_termsSeen, .inl (cI, 24, .inl P_termsSeen))] sz)) 0 0 (va_A [(aJ, .inr (0, [.ref aT, .ref aP, .ref aF, .ref aQ, .ref aM, .ref aB, .int J_hasRun, .ref aJ_plainOrder, .ref aC])), (aT, .inr (6, [.ref aT_packed, .int T_count])), (aT_packed, .inl (cI, 80, .inl T_packed)), (aP, .inr (2, [.ref aP_slots, .ref aP_termsSeen, .ref aP_matches, .ref aP_matchCount, .ref aP_variables, .ref aP_havingVariable, .ref aP_told, .ref aP_parent, .ref aP_allBefore, .int P_required, .int P_hinted, .int P_count])), (aP_matchCount, .inl (cI, 8, .inl P_matchCount)), (aP_slots, .inl (cI, 24, .inl P_slots)), (aP_matches, .inl (cI, 640, .inl P_matches)), (aP_termsSeen, .inl (cI, 24, .inl P_termsSeen))] sz) := by
  refine con_start (y := yX0_triple) (bytes := cX0_triple) (maxL := 5) (av := [.ref aJ, .int x1, .int x2, .int x3]) (Qc := fun A => va_Qi (fun r2 (_ : Nat → Nat) => r2 = r) (bB D (xT cI cJ cZ) (fun _ => [(aJ, .inr (0, [.ref aT, .ref aP, .ref aF, .ref aQ, .ref aM, .ref aB, .int J_hasRun, .ref aJ_plainOrder, .ref aC])), (aT, .inr (6, [.ref aT_packed, .int T_count'])), (aT_packed, .inl (cI, 80, .inl T_packed')), (aP, .inr (2, [.ref aP_slots, .ref aP_termsSeen, .ref aP_matches, .ref aP_matchCount, .ref aP_variables, .ref aP_havingVariable, .ref aP_told, .ref aP_parent, .ref aP_allBefore, .int P_required, .int P_hinted, .int P_count])), (aP_matchCount, .inl (cI, 8, .inl P_matchCount')), (aP_slots, .inl (cI, 24, .inl P_slots)), (aP_matches, .inl (cI, 640, .inl P_matches')), (aP_termsSeen, .inl (cI, 24, .inl P_termsSeen'))]) A) A) (by decide) (Nat.le_of_ble_eq_true rfl) ?_
  intro p e s m args below meth c Q A hx hb hr hlk hml hown hin htg hN hK hQ hA hP hD hS ls hl
  have hl : lv_has ls 5 [(0, .ref aJ), (1, .int x1), (2, .int x2), (3, .int x3)] := hl
  have hown : s.vm.findClass RX0 = some m.cls := hown
  have hf := (f_JoinOrder_triple_u n x1 x2 x3 T_count T_packed P_count P_matchCount P_slots P_matches P_termsSeen).symm.trans hf
  refine lv_iload_n hx hb dX0_triple_0 rfl (lv_at hl 1 rfl) ?_
  refine x_z (xrS (As := [.int x1]) (rest := []) ⟨hx, hb, hml, hown, htg⟩ (c_f_JoinOrder_isTerm l D cI cJ cZ _ x1 rfl) kc_f_JoinOrder_isTerm kw_232 kw_233 kw_1 dd_f_JoinOrder_isTerm ⟨Nat.le_of_ble_eq_true rfl, Nat.le_of_ble_eq_true rfl⟩ rfl rfl (hP.sub [] rfl) (hD.sub [] (by decide) rfl) hK hN rfl hl.1 rfl (Nat.le_of_ble_eq_true rfl) dX0_triple_1 ⟨Nat.le_of_ble_eq_true rfl, Nat.le_of_ble_eq_true rfl⟩) hP hD hS hA [] [0, 1, 2, 3, 4, 5, 6, 7] rfl rfl (by decide) (by decide) (fun _ H locs bz_1 hP hD hS => ?_)
  have hP : va_P D vwCl [(aJ, .inr (0, [.ref aT, .ref aP, .ref aF, .ref aQ, .ref aM, .ref aB, .int J_hasRun, .ref aJ_plainOrder, .ref aC])), (aT, .inr (6, [.ref aT_packed, .int T_count])), (aT_packed, .inl (cI, 80, .inl T_packed)), (aP, .inr (2, [.ref aP_slots, .ref aP_termsSeen, .ref aP_matches, .ref aP_matchCount, .ref aP_variables, .ref aP_havingVariable, .ref aP_told, .ref aP_parent, .ref aP_allBefore, .int P_required, .int P_hinted, .int P_count])), (aP_matchCount, .inl (cI, 8, .inl P_matchCount)), (aP_slots, .inl (cI, 24, .inl P_slots)), (aP_matches, .inl (cI, 640, .inl P_matches)), (aP_termsSeen, .inl (cI, 24, .inl P_termsSeen))] H := hP
  have hD : va_D A [(aJ, .inr (0, [.ref aT, .ref aP, .ref aF, .ref aQ, .ref aM, .ref aB, .int J_hasRun, .ref aJ_plainOrder, .ref aC])), (aT, .inr (6, [.ref aT_packed, .int T_count])), (aT_packed, .inl (cI, 80, .inl T_packed)), (aP, .inr (2, [.ref aP_slots, .ref aP_termsSeen, .ref aP_matches, .ref aP_matchCount, .ref aP_variables, .ref aP_havingVariable, .ref aP_told, .ref aP_parent, .ref aP_allBefore, .int P_required, .int P_hinted, .int P_count])), (aP_matchCount, .inl (cI, 8, .inl P_matchCount)), (aP_slots, .inl (cI, 24, .inl P_slots)), (aP_matches, .inl (cI, 640, .inl P_matches)), (aP_termsSeen, .inl (cI, 24, .inl P_termsSeen))] := hD
  refine lv_if_eq (tgt := 21) hx hb dX0_triple_4 (by decide) (fun c_2 => ?_) (fun c_2 => ?_)
  · have hf := xb_t c_2 hf
    refine lv_bipush (v := (-2 : Int32)) hx hb dX0_triple_21 (by decide) ?_
    have hf := Option.some.inj hf
    obtain ⟨k9_0, f9_0⟩ := Prod.mk.inj hf
    obtain ⟨k9_1, f9_1⟩ := Prod.mk.inj f9_0
    obtain ⟨k9_2, f9_2⟩ := Prod.mk.inj f9_1
    obtain ⟨k9_3, f9_3⟩ := Prod.mk.inj f9_2
    obtain ⟨k9_4, f9_4⟩ := Prod.mk.inj f9_3
    subst k9_0
    subst k9_1
    subst k9_2
    subst k9_3
    subst k9_4
    subst f9_4
    exact x_iret (fun _ => 0) hQ hx hb hr hlk hK hP hD hS dX0_triple_23
  · have hf := xb_f c_2 hf
    refine lv_iload_n hx hb dX0_triple_7 rfl (lv_at hl 2 rfl) ?_
    refine x_z (xrS (As := [.int x2]) (rest := []) ⟨hx, hb, hml, hown, htg⟩ (c_f_JoinOrder_isTerm l D cI cJ cZ _ x2 rfl) kc_f_JoinOrder_isTerm kw_232 kw_233 kw_1 dd_f_JoinOrder_isTerm ⟨Nat.le_of_ble_eq_true rfl, Nat.le_of_ble_eq_true rfl⟩ rfl rfl (hP.sub [] rfl) (hD.sub [] (by decide) rfl) hK hN rfl hl.1 rfl (Nat.le_of_ble_eq_true rfl) dX0_triple_8 ⟨Nat.le_of_ble_eq_true rfl, Nat.le_of_ble_eq_true rfl⟩) hP hD hS hA [] [0, 1, 2, 3, 4, 5, 6, 7] rfl rfl (by decide) (by decide) (fun _ H locs bz_3 hP hD hS => ?_)
    have hP : va_P D vwCl [(aJ, .inr (0, [.ref aT, .ref aP, .ref aF, .ref aQ, .ref aM, .ref aB, .int J_hasRun, .ref aJ_plainOrder, .ref aC])), (aT, .inr (6, [.ref aT_packed, .int T_count])), (aT_packed, .inl (cI, 80, .inl T_packed)), (aP, .inr (2, [.ref aP_slots, .ref aP_termsSeen, .ref aP_matches, .ref aP_matchCount, .ref aP_variables, .ref aP_havingVariable, .ref aP_told, .ref aP_parent, .ref aP_allBefore, .int P_required, .int P_hinted, .int P_count])), (aP_matchCount, .inl (cI, 8, .inl P_matchCount)), (aP_slots, .inl (cI, 24, .inl P_slots)), (aP_matches, .inl (cI, 640, .inl P_matches)), (aP_termsSeen, .inl (cI, 24, .inl P_termsSeen))] H := hP
    have hD : va_D A [(aJ, .inr (0, [.ref aT, .ref aP, .ref aF, .ref aQ, .ref aM, .ref aB, .int J_hasRun, .ref aJ_plainOrder, .ref aC])), (aT, .inr (6, [.ref aT_packed, .int T_count])), (aT_packed, .inl (cI, 80, .inl T_packed)), (aP, .inr (2, [.ref aP_slots, .ref aP_termsSeen, .ref aP_matches, .ref aP_matchCount, .ref aP_variables, .ref aP_havingVariable, .ref aP_told, .ref aP_parent, .ref aP_allBefore, .int P_required, .int P_hinted, .int P_count])), (aP_matchCount, .inl (cI, 8, .inl P_matchCount)), (aP_slots, .inl (cI, 24, .inl P_slots)), (aP_matches, .inl (cI, 640, .inl P_matches)), (aP_termsSeen, .inl (cI, 24, .inl P_termsSeen))] := hD
    refine lv_if_eq (tgt := 21) hx hb dX0_triple_11 (by decide) (fun c_4 => ?_) (fun c_4 => ?_)
    · have hf := xb_t c_4 hf
      refine lv_bipush (v := (-2 : Int32)) hx hb dX0_triple_21 (by decide) ?_
      have hf := Option.some.inj hf
      obtain ⟨k9_0, f9_0⟩ := Prod.mk.inj hf
      obtain ⟨k9_1, f9_1⟩ := Prod.mk.inj f9_0
      obtain ⟨k9_2, f9_2⟩ := Prod.mk.inj f9_1
      obtain ⟨k9_3, f9_3⟩ := Prod.mk.inj f9_2
      obtain ⟨k9_4, f9_4⟩ := Prod.mk.inj f9_3
      subst k9_0
      subst k9_1
      subst k9_2
      subst k9_3
      subst k9_4
      subst f9_4
      exact x_iret (fun _ => 0) hQ hx hb hr hlk hK hP hD hS dX0_triple_23
    · have hf := xb_f c_4 hf
      refine lv_iload_n hx hb dX0_triple_14 rfl (lv_at hl 3 rfl) ?_
      refine x_z (xrS (As := [.int x3]) (rest := []) ⟨hx, hb, hml, hown, htg⟩ (c_f_JoinOrder_isTerm l D cI cJ cZ _ x3 rfl) kc_f_JoinOrder_isTerm kw_232 kw_233 kw_1 dd_f_JoinOrder_isTerm ⟨Nat.le_of_ble_eq_true rfl, Nat.le_of_ble_eq_true rfl⟩ rfl rfl (hP.sub [] rfl) (hD.sub [] (by decide) rfl) hK hN rfl hl.1 rfl (Nat.le_of_ble_eq_true rfl) dX0_triple_15 ⟨Nat.le_of_ble_eq_true rfl, Nat.le_of_ble_eq_true rfl⟩) hP hD hS hA [] [0, 1, 2, 3, 4, 5, 6, 7] rfl rfl (by decide) (by decide) (fun _ H locs bz_5 hP hD hS => ?_)
      have hP : va_P D vwCl [(aJ, .inr (0, [.ref aT, .ref aP, .ref aF, .ref aQ, .ref aM, .ref aB, .int J_hasRun, .ref aJ_plainOrder, .ref aC])), (aT, .inr (6, [.ref aT_packed, .int T_count])), (aT_packed, .inl (cI, 80, .inl T_packed)), (aP, .inr (2, [.ref aP_slots, .ref aP_termsSeen, .ref aP_matches, .ref aP_matchCount, .ref aP_variables, .ref aP_havingVariable, .ref aP_told, .ref aP_parent, .ref aP_allBefore, .int P_required, .int P_hinted, .int P_count])), (aP_matchCount, .inl (cI, 8, .inl P_matchCount)), (aP_slots, .inl (cI, 24, .inl P_slots)), (aP_matches, .inl (cI, 640, .inl P_matches)), (aP_termsSeen, .inl (cI, 24, .inl P_termsSeen))] H := hP
      have hD : va_D A [(aJ, .inr (0, [.ref aT, .ref aP, .ref aF, .ref aQ, .ref aM, .ref aB, .int J_hasRun, .ref aJ_plainOrder, .ref aC])), (aT, .inr (6, [.ref aT_packed, .int T_count])), (aT_packed, .inl (cI, 80, .inl T_packed)), (aP, .inr (2, [.ref aP_slots, .ref aP_termsSeen, .ref aP_matches, .ref aP_matchCount, .ref aP_variables, .ref aP_havingVariable, .ref aP_told, .ref aP_parent, .ref aP_allBefore, .int P_required, .int P_hinted, .int P_count])), (aP_matchCount, .inl (cI, 8, .inl P_matchCount)), (aP_slots, .inl (cI, 24, .inl P_slots)), (aP_matches, .inl (cI, 640, .inl P_matches)), (aP_termsSeen, .inl (cI, 24, .inl P_termsSeen))] := hD
      refine lv_if_ne (tgt := 24) hx hb dX0_triple_18 (by decide) (fun c_6 => ?_) (fun c_6 => ?_)
      · have hf := xb_f c_6 hf
        refine lv_iload_n hx hb dX0_triple_24 rfl (lv_at hl 1 rfl) ?_
        refine lv_iload_n hx hb dX0_triple_25 rfl (lv_at hl 2 rfl) ?_
        refine lv_iload_n hx hb dX0_triple_26 rfl (lv_at hl 3 rfl) ?_
        refine x_i (xrS (As := [.int x1, .int x2, .int x3]) (rest := []) ⟨hx, hb, hml, hown, htg⟩ (c_f_Triples_pack l D cI cJ cZ _ x1 x2 x3 rfl) kc_f_Triples_pack kw_235 kw_236 kw_2 dd_f_Triples_pack ⟨Nat.le_of_ble_eq_true rfl, Nat.le_of_ble_eq_true rfl⟩ rfl rfl (hP.sub [] rfl) (hD.sub [] (by decide) rfl) hK hN rfl hl.1 rfl (Nat.le_of_ble_eq_true rfl) dX0_triple_27 ⟨Nat.le_of_ble_eq_true rfl, Nat.le_of_ble_eq_true rfl⟩) hP hD hS hA [] [0, 1, 2, 3, 4, 5, 6, 7] rfl rfl (by decide) (by decide) (fun _ H locs hP hD hS => ?_)
        have hP : va_P D vwCl [(aJ, .inr (0, [.ref aT, .ref aP, .ref aF, .ref aQ, .ref aM, .ref aB, .int J_hasRun, .ref aJ_plainOrder, .ref aC])), (aT, .inr (6, [.ref aT_packed, .int T_count])), (aT_packed, .inl (cI, 80, .inl T_packed)), (aP, .inr (2, [.ref aP_slots, .ref aP_termsSeen, .ref aP_matches, .ref aP_matchCount, .ref aP_variables, .ref aP_havingVariable, .ref aP_told, .ref aP_parent, .ref aP_allBefore, .int P_required, .int P_hinted, .int P_count])), (aP_matchCount, .inl (cI, 8, .inl P_matchCount)), (aP_slots, .inl (cI, 24, .inl P_slots)), (aP_matches, .inl (cI, 640, .inl P_matches)), (aP_termsSeen, .inl (cI, 24, .inl P_termsSeen))] H := hP
        have hD : va_D A [(aJ, .inr (0, [.ref aT, .ref aP, .ref aF, .ref aQ, .ref aM, .ref aB, .int J_hasRun, .ref aJ_plainOrder, .ref aC])), (aT, .inr (6, [.ref aT_packed, .int T_count])), (aT_packed, .inl (cI, 80, .inl T_packed)), (aP, .inr (2, [.ref aP_slots, .ref aP_termsSeen, .ref aP_matches, .ref aP_matchCount, .ref aP_variables, .ref aP_havingVariable, .ref aP_told, .ref aP_parent, .ref aP_allBefore, .int P_required, .int P_hinted, .int P_count])), (aP_matchCount, .inl (cI, 8, .inl P_matchCount)), (aP_slots, .inl (cI, 24, .inl P_slots)), (aP_matches, .inl (cI, 640, .inl P_matches)), (aP_termsSeen, .inl (cI, 24, .inl P_termsSeen))] := hD
        refine lv_topi (fun x4_8 ex4_8 => ?_)
        have hf := nm_nm ex4_8 hf
        refine lv_istore (lv' := [(4, .int x4_8), (0, .ref aJ), (1, .int x1), (2, .int x2), (3, .int x3)]) hx hb dX0_triple_30 hl (by decide) rfl (fun ls hl => ?_)
        refine lv_aload_n hx hb dX0_triple_32 rfl (lv_at hl 1 rfl) ?_
        refine va_get (D := D) (ci := 0) (v := .ref aT) (C := RX0) (T := TX0) (N := 9) hx hb htg giX0 hown hK hP 0 rfl rfl 0 (by decide) (htg _ kw_200) (fun _ h9 => h9) rfl dX0_triple_33 ?_
        refine lv_iload hx hb dX0_triple_36 (lv_at hl 0 rfl) ?_
        obtain ⟨r_10, hq_9, hf⟩ := bn1_c hf
        refine x_z (xrV (As := [.int x4_8]) (b := aT) (rest := []) ⟨hx, hb, hml, hown, htg⟩ (c_f_Triples_has l D cI cJ cZ _ n aT x4_8 aT_packed T_count T_packed hq_9) kc_f_Triples_has kw_241 kw_242 kw_243 kw_2 dd_f_Triples_has ⟨Nat.le_of_ble_eq_true rfl, Nat.le_of_ble_eq_true rfl⟩ rfl rfl (hP.sub [1, 2] rfl) (hD.sub [1, 2] (by decide) rfl) hK hN hP (q0 := 1) rfl rfl rfl hl.1 rfl (Nat.le_of_ble_eq_true rfl) dX0_triple_38 ⟨Nat.le_of_ble_eq_true rfl, Nat.le_of_ble_eq_true rfl⟩) hP hD hS hA [1, 2] [0, 3, 4, 5, 6, 7] rfl rfl (by decide) (by decide) (fun _ H locs bz_9 hP hD hS => ?_)
        have hP : va_P D vwCl [(aJ, .inr (0, [.ref aT, .ref aP, .ref aF, .ref aQ, .ref aM, .ref aB, .int J_hasRun, .ref aJ_plainOrder, .ref aC])), (aP, .inr (2, [.ref aP_slots, .ref aP_termsSeen, .ref aP_matches, .ref aP_matchCount, .ref aP_variables, .ref aP_havingVariable, .ref aP_told, .ref aP_parent, .ref aP_allBefore, .int P_required, .int P_hinted, .int P_count])), (aP_matchCount, .inl (cI, 8, .inl P_matchCount)), (aP_slots, .inl (cI, 24, .inl P_slots)), (aP_matches, .inl (cI, 640, .inl P_matches)), (aP_termsSeen, .inl (cI, 24, .inl P_termsSeen)), (aT, .inr (6, [.ref aT_packed, .int T_count])), (aT_packed, .inl (cI, 80, .inl T_packed))] H := hP
        have hD : va_D A [(aJ, .inr (0, [.ref aT, .ref aP, .ref aF, .ref aQ, .ref aM, .ref aB, .int J_hasRun, .ref aJ_plainOrder, .ref aC])), (aP, .inr (2, [.ref aP_slots, .ref aP_termsSeen, .ref aP_matches, .ref aP_matchCount, .ref aP_variables, .ref aP_havingVariable, .ref aP_told, .ref aP_parent, .ref aP_allBefore, .int P_required, .int P_hinted, .int P_count])), (aP_matchCount, .inl (cI, 8, .inl P_matchCount)), (aP_slots, .inl (cI, 24, .inl P_slots)), (aP_matches, .inl (cI, 640, .inl P_matches)), (aP_termsSeen, .inl (cI, 24, .inl P_termsSeen)), (aT, .inr (6, [.ref aT_packed, .int T_count])), (aT_packed, .inl (cI, 80, .inl T_packed))] := hD
        refine lv_if_eq (tgt := 52) hx hb dX0_triple_41 (by decide) (fun c_11 => ?_) (fun c_11 => ?_)
        · have hf := xb_t c_11 hf
          refine lv_aload_n hx hb dX0_triple_52 rfl (lv_at hl 1 rfl) ?_
          refine va_get (D := D) (ci := 0) (v := .ref aT) (C := RX0) (T := TX0) (N := 9) hx hb htg giX0 hown hK hP 0 rfl rfl 0 (by decide) (htg _ kw_200) (fun _ h9 => h9) rfl dX0_triple_53 ?_
          refine va_getN (D := D) (ci := 6) (v := .int T_count) (C := RX6) (T := TX6) (N := 2) hx hb htg giX6 hown hK hP 6 rfl rfl 1 (by decide) (va_Nw.use rfl (hN _ kn_27)) (fun _ h9 => h9) rfl dX0_triple_56 ?_
          refine lv_bipush (v := (80 : Int32)) hx hb dX0_triple_59 (by decide) ?_
          refine lv_icmp_lt (tgt := 67) hx hb dX0_triple_61 (by decide) (fun c_12 => ?_) (fun c_12 => ?_)
          · have hf := xb_t c_12 hf
            refine lv_aload_n hx hb dX0_triple_67 rfl (lv_at hl 1 rfl) ?_
            refine va_get (D := D) (ci := 0) (v := .ref aT) (C := RX0) (T := TX0) (N := 9) hx hb htg giX0 hown hK hP 0 rfl rfl 0 (by decide) (htg _ kw_200) (fun _ h9 => h9) rfl dX0_triple_68 ?_
            refine lv_iload hx hb dX0_triple_71 (lv_at hl 0 rfl) ?_
            obtain ⟨T_count_14, T_packed_15, hq_13, hf⟩ := bn2_c hf
            refine x_v (xrV (As := [.int x4_8]) (b := aT) (rest := []) ⟨hx, hb, hml, hown, htg⟩ (c_f_Triples_add l D cI cJ cZ _ aT x4_8 aT_packed T_count T_packed hq_13) kc_f_Triples_add kw_245 kw_246 kw_247 kw_2 dd_f_Triples_add ⟨Nat.le_of_ble_eq_true rfl, Nat.le_of_ble_eq_true rfl⟩ rfl rfl (hP.sub [6, 7] rfl) (hD.sub [6, 7] (by decide) rfl) hK hN hP (q0 := 6) rfl rfl rfl hl.1 rfl (Nat.le_of_ble_eq_true rfl) dX0_triple_73 ⟨Nat.le_of_ble_eq_true rfl, Nat.le_of_ble_eq_true rfl⟩) hP hD hS hA [6, 7] [0, 1, 2, 3, 4, 5] rfl rfl (by decide) (by decide) (fun _ H locs hP hD hS => ?_)
            have hP : va_P D vwCl [(aJ, .inr (0, [.ref aT, .ref aP, .ref aF, .ref aQ, .ref aM, .ref aB, .int J_hasRun, .ref aJ_plainOrder, .ref aC])), (aP, .inr (2, [.ref aP_slots, .ref aP_termsSeen, .ref aP_matches, .ref aP_matchCount, .ref aP_variables, .ref aP_havingVariable, .ref aP_told, .ref aP_parent, .ref aP_allBefore, .int P_required, .int P_hinted, .int P_count])), (aP_matchCount, .inl (cI, 8, .inl P_matchCount)), (aP_slots, .inl (cI, 24, .inl P_slots)), (aP_matches, .inl (cI, 640, .inl P_matches)), (aP_termsSeen, .inl (cI, 24, .inl P_termsSeen)), (aT, .inr (6, [.ref aT_packed, .int T_count_14])), (aT_packed, .inl (cI, 80, .inl T_packed_15))] H := hP
            have hD : va_D A [(aJ, .inr (0, [.ref aT, .ref aP, .ref aF, .ref aQ, .ref aM, .ref aB, .int J_hasRun, .ref aJ_plainOrder, .ref aC])), (aP, .inr (2, [.ref aP_slots, .ref aP_termsSeen, .ref aP_matches, .ref aP_matchCount, .ref aP_variables, .ref aP_havingVariable, .ref aP_told, .ref aP_parent, .ref aP_allBefore, .int P_required, .int P_hinted, .int P_count])), (aP_matchCount, .inl (cI, 8, .inl P_matchCount)), (aP_slots, .inl (cI, 24, .inl P_slots)), (aP_matches, .inl (cI, 640, .inl P_matches)), (aP_termsSeen, .inl (cI, 24, .inl P_termsSeen)), (aT, .inr (6, [.ref aT_packed, .int T_count_14])), (aT_packed, .inl (cI, 80, .inl T_packed_15))] := hD
            refine lv_aload_n hx hb dX0_triple_76 rfl (lv_at hl 1 rfl) ?_
            refine va_get (D := D) (ci := 0) (v := .ref aP) (C := RX0) (T := TX0) (N := 9) hx hb htg giX0 hown hK hP 0 rfl rfl 1 (by decide) (htg _ kw_201) (fun _ h9 => h9) rfl dX0_triple_77 ?_
            refine lv_iload hx hb dX0_triple_80 (lv_at hl 0 rfl) ?_
            obtain ⟨P_matchCount_17, P_matches_18, P_termsSeen_19, hq_16, hf⟩ := bn3_c hf
            refine x_v (xrV (As := [.int x4_8]) (b := aP) (rest := []) ⟨hx, hb, hml, hown, htg⟩ (c_f_Patterns_meetAll l D cI cJ cZ _ n aP x4_8 aP_slots aP_termsSeen aP_matches aP_matchCount aP_variables aP_havingVariable aP_told aP_parent aP_allBefore P_required P_hinted P_count P_matchCount P_slots P_matches P_termsSeen hq_16) kc_f_Patterns_meetAll kw_249 kw_250 kw_251 kw_3 dd_f_Patterns_meetAll ⟨Nat.le_of_ble_eq_true rfl, Nat.le_of_ble_eq_true rfl⟩ rfl rfl (hP.sub [1, 2, 3, 4, 5] rfl) (hD.sub [1, 2, 3, 4, 5] (by decide) rfl) hK hN hP (q0 := 1) rfl rfl rfl hl.1 rfl (Nat.le_of_ble_eq_true rfl) dX0_triple_82 ⟨Nat.le_of_ble_eq_true rfl, Nat.le_of_ble_eq_true rfl⟩) hP hD hS hA [1, 2, 3, 4, 5] [0, 6, 7] rfl rfl (by decide) (by decide) (fun _ H locs hP hD hS => ?_)
            have hP : va_P D vwCl [(aJ, .inr (0, [.ref aT, .ref aP, .ref aF, .ref aQ, .ref aM, .ref aB, .int J_hasRun, .ref aJ_plainOrder, .ref aC])), (aT, .inr (6, [.ref aT_packed, .int T_count_14])), (aT_packed, .inl (cI, 80, .inl T_packed_15)), (aP, .inr (2, [.ref aP_slots, .ref aP_termsSeen, .ref aP_matches, .ref aP_matchCount, .ref aP_variables, .ref aP_havingVariable, .ref aP_told, .ref aP_parent, .ref aP_allBefore, .int P_required, .int P_hinted, .int P_count])), (aP_matchCount, .inl (cI, 8, .inl P_matchCount_17)), (aP_slots, .inl (cI, 24, .inl P_slots)), (aP_matches, .inl (cI, 640, .inl P_matches_18)), (aP_termsSeen, .inl (cI, 24, .inl P_termsSeen_19))] H := hP
            have hD : va_D A [(aJ, .inr (0, [.ref aT, .ref aP, .ref aF, .ref aQ, .ref aM, .ref aB, .int J_hasRun, .ref aJ_plainOrder, .ref aC])), (aT, .inr (6, [.ref aT_packed, .int T_count_14])), (aT_packed, .inl (cI, 80, .inl T_packed_15)), (aP, .inr (2, [.ref aP_slots, .ref aP_termsSeen, .ref aP_matches, .ref aP_matchCount, .ref aP_variables, .ref aP_havingVariable, .ref aP_told, .ref aP_parent, .ref aP_allBefore, .int P_required, .int P_hinted, .int P_count])), (aP_matchCount, .inl (cI, 8, .inl P_matchCount_17)), (aP_slots, .inl (cI, 24, .inl P_slots)), (aP_matches, .inl (cI, 640, .inl P_matches_18)), (aP_termsSeen, .inl (cI, 24, .inl P_termsSeen_19))] := hD
            refine lv_aload_n hx hb dX0_triple_85 rfl (lv_at hl 1 rfl) ?_
            refine va_get (D := D) (ci := 0) (v := .ref aT) (C := RX0) (T := TX0) (N := 9) hx hb htg giX0 hown hK hP 0 rfl rfl 0 (by decide) (htg _ kw_200) (fun _ h9 => h9) rfl dX0_triple_86 ?_
            refine va_getN (D := D) (ci := 6) (v := .int T_count_14) (C := RX6) (T := TX6) (N := 2) hx hb htg giX6 hown hK hP 1 rfl rfl 1 (by decide) (va_Nw.use rfl (hN _ kn_27)) (fun _ h9 => h9) rfl dX0_triple_89 ?_
            have hf := Option.some.inj hf
            obtain ⟨k9_0, f9_0⟩ := Prod.mk.inj hf
            obtain ⟨k9_1, f9_1⟩ := Prod.mk.inj f9_0
            obtain ⟨k9_2, f9_2⟩ := Prod.mk.inj f9_1
            obtain ⟨k9_3, f9_3⟩ := Prod.mk.inj f9_2
            obtain ⟨k9_4, f9_4⟩ := Prod.mk.inj f9_3
            subst k9_0
            subst k9_1
            subst k9_2
            subst k9_3
            subst k9_4
            subst f9_4
            exact x_iret (fun _ => 0) hQ hx hb hr hlk hK hP hD hS dX0_triple_92
          · have hf := xb_f c_12 hf
            refine lv_bipush (v := (-4 : Int32)) hx hb dX0_triple_64 (by decide) ?_
            have hf := Option.some.inj hf
            obtain ⟨k9_0, f9_0⟩ := Prod.mk.inj hf
            obtain ⟨k9_1, f9_1⟩ := Prod.mk.inj f9_0
            obtain ⟨k9_2, f9_2⟩ := Prod.mk.inj f9_1
            obtain ⟨k9_3, f9_3⟩ := Prod.mk.inj f9_2
            obtain ⟨k9_4, f9_4⟩ := Prod.mk.inj f9_3
            subst k9_0
            subst k9_1
            subst k9_2
            subst k9_3
            subst k9_4
            subst f9_4
            exact x_iret (fun _ => 0) hQ hx hb hr hlk hK (hP.sub [0, 6, 7, 1, 2, 3, 4, 5] rfl) (hD.sub [0, 6, 7, 1, 2, 3, 4, 5] (by decide) rfl) hS dX0_triple_66
        · have hf := xb_f c_11 hf
          refine lv_aload_n hx hb dX0_triple_44 rfl (lv_at hl 1 rfl) ?_
          refine va_get (D := D) (ci := 0) (v := .ref aT) (C := RX0) (T := TX0) (N := 9) hx hb htg giX0 hown hK hP 0 rfl rfl 0 (by decide) (htg _ kw_200) (fun _ h9 => h9) rfl dX0_triple_45 ?_
          refine va_getN (D := D) (ci := 6) (v := .int T_count) (C := RX6) (T := TX6) (N := 2) hx hb htg giX6 hown hK hP 6 rfl rfl 1 (by decide) (va_Nw.use rfl (hN _ kn_27)) (fun _ h9 => h9) rfl dX0_triple_48 ?_
          have hf := Option.some.inj hf
          obtain ⟨k9_0, f9_0⟩ := Prod.mk.inj hf
          obtain ⟨k9_1, f9_1⟩ := Prod.mk.inj f9_0
          obtain ⟨k9_2, f9_2⟩ := Prod.mk.inj f9_1
          obtain ⟨k9_3, f9_3⟩ := Prod.mk.inj f9_2
          obtain ⟨k9_4, f9_4⟩ := Prod.mk.inj f9_3
          subst k9_0
          subst k9_1
          subst k9_2
          subst k9_3
          subst k9_4
          subst f9_4
          exact x_iret (fun _ => 0) hQ hx hb hr hlk hK (hP.sub [0, 6, 7, 1, 2, 3, 4, 5] rfl) (hD.sub [0, 6, 7, 1, 2, 3, 4, 5] (by decide) rfl) hS dX0_triple_51
      · have hf := xb_t c_6 hf
        refine lv_bipush (v := (-2 : Int32)) hx hb dX0_triple_21 (by decide) ?_
        have hf := Option.some.inj hf
        obtain ⟨k9_0, f9_0⟩ := Prod.mk.inj hf
        obtain ⟨k9_1, f9_1⟩ := Prod.mk.inj f9_0
        obtain ⟨k9_2, f9_2⟩ := Prod.mk.inj f9_1
        obtain ⟨k9_3, f9_3⟩ := Prod.mk.inj f9_2
        obtain ⟨k9_4, f9_4⟩ := Prod.mk.inj f9_3
        subst k9_0
        subst k9_1
        subst k9_2
        subst k9_3
        subst k9_4
        subst f9_4
        exact x_iret (fun _ => 0) hQ hx hb hr hlk hK hP hD hS dX0_triple_23
