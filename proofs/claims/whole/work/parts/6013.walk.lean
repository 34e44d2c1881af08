abbrev rm_f_Patterns_meet : Room := { frames := 3, cells := 0, slots := 0, locals := 71 }
set_option maxHeartbeats 4000000 in
set_option maxRecDepth 100000 in
theorem c_f_Patterns_meet (l : Launch) (D : va_G) (cI cJ cZ : ClassId) (sz : Nat) (n : Nat) (aP : Nat) (x1 : Int32) (x2 : Int32) (aP_slots : Nat) (aP_termsSeen : Nat) (aP_matches : Nat) (aP_matchCount : Nat) (aP_variables : Nat) (aP_havingVariable : Nat) (aP_told : Nat) (aP_parent : Nat) (aP_allBefore : Nat) (P_required : Int32) (P_hinted : Int32) (P_count : Int32) (P_matchCount : Nat → Int32) (P_slots : Nat → Int32) (P_matches : Nat → Int32) (P_termsSeen : Nat → Int32) {P_matchCount' : Nat → Int32} {P_matches' : Nat → Int32} {P_termsSeen' : Nat → Int32} (hf : f_Patterns_meet n x1 x2 P_matchCount P_slots P_matches P_termsSeen = some (P_matchCount', P_matches', P_termsSeen')) : Met l yX2_meet (.code yX2_meet cX2_meet 4 none :: GW) rm_f_Patterns_meet (va_Pc [.ref aP, .int x1, .int x2] (xP D (xT cI cJ cZ) sz [(aP, .inr (2, [.ref aP_slots, .ref aP_termsSeen, .ref aP_matches, .ref aP_matchCount, .ref aP_variables, .ref aP_havingVariable, .ref aP_told, .ref aP_parent, .ref aP_allBefore, .int P_required, .int P_hinted, .int P_count])), (aP_matchCount, .inl (cI, 8, .inl P_matchCount)), (aP_slots, .inl (cI, 24, .inl P_slots)), (aP_matches, .inl (cI, 640, .inl P_matches)), (aP_termsSeen, .inl (cI, 24, .inl P_termsSeen))])) (va_Qv (fun (_ : Nat → Nat) => True) (bB D (xT cI cJ cZ) (fun _ => [(aP, .inr (2, [.ref aP_slots, .ref aP_termsSeen, .ref aP_matches, .ref aP_matchCount, .ref aP_variables, .ref aP_havingVariable, .ref aP_told, .ref aP_parent, .ref aP_allBefore, .int P_required, .int P_hinted, .int P_count])), (aP_matchCount, .inl (cI, 8, .inl P_matchCount')), (aP_slots, .inl (cI, 24, .inl P_slots)), (aP_matches, .inl (cI, 640, .inl P_matches')), (aP_termsSeen, .inl (cI, 24, .inl P_termsSeen'))]) (va_A [(aP, .inr (2, [.ref aP_slots, .ref aP_termsSeen, .ref aP_matches, .ref aP_matchCount, .ref aP_variables, .ref aP_havingVariable, .ref aP_told, .ref aP_parent, .ref aP_allBefore, .int P_required, .int P_hinted, .int P_count])), (aP_matchCount, .inl (cI, 8, .inl P_matchCount)), (aP_slots, .inl (cI, 24, .inl P_slots)), (aP_matches, .inl (cI, 640, .inl P_matches)), (aP_termsSeen, .inl (cI, 24, .inl P_termsSeen))] sz)) (va_A [(aP, .inr (2, [.ref aP_slots, .ref aP_termsSeen, .ref aP_matches, .ref aP_matchCount, .ref aP_variables, .ref aP_havingVariable, .ref aP_told, .ref aP_parent, .ref aP_allBefore, .int P_required, .int P_hinted, .int P_count])), (aP_matchCount, .inl (cI, 8, .inl P_matchCount)), (aP_slots, .inl (cI, 24, .inl P_slots)), (aP_matches, .inl (cI, 640, .inl P_matches)), (aP_termsSeen, .inl (cI, 24, .inl P_termsSeen))] sz)) 0 0 (va_A [(aP, .inr (2, [.ref aP_slots, .ref aP_termsSeen, .ref aP_matches, .ref aP_matchCount, .ref aP_variables, .ref aP_havingVariable, .ref aP_told, .ref aP_parent, .ref aP_allBefore, .int P_required, .int P_hinted, .int P_count])), (aP_matchCount, .inl (cI, 8, .inl P_matchCount)), (aP_slots, .inl (cI, 24, .inl P_slots)), (aP_matches, .inl (cI, 640, .inl P_matches)), (aP_termsSeen, .inl (cI, 24, .inl P_termsSeen))] sz) := by
  refine con_start (y := yX2_meet) (bytes := cX2_meet) (maxL := 4) (av := [.ref aP, .int x1, .int x2]) (Qc := fun A => va_Qv (fun (_ : Nat → Nat) => True) (bB D (xT cI cJ cZ) (fun _ => [(aP, .inr (2, [.ref aP_slots, .ref aP_termsSeen, .ref aP_matches, .ref aP_matchCount, .ref aP_variables, .ref aP_havingVariable, .ref aP_told, .ref aP_parent, .ref aP_allBefore, .int P_required, .int P_hinted, .int P_count])), (aP_matchCount, .inl (cI, 8, .inl P_matchCount')), (aP_slots, .inl (cI, 24, .inl P_slots)), (aP_matches, .inl (cI, 640, .inl P_matches')), (aP_termsSeen, .inl (cI, 24, .inl P_termsSeen'))]) A) A) (by decide) (Nat.le_of_ble_eq_true rfl) ?_
  intro p e s m args below meth c Q A hx hb hr hlk hml hown hin htg hN hK hQ hA hP hD hS ls hl
  have hl : lv_has ls 4 [(0, .ref aP), (1, .int x1), (2, .int x2)] := hl
  have hown : s.vm.findClass RX2 = some m.cls := hown
  have hf := (f_Patterns_meet_u n x1 x2 P_matchCount P_slots P_matches P_termsSeen).symm.trans hf
  refine lv_aload_n hx hb dX2_meet_0 rfl (lv_at hl 0 rfl) ?_
  refine va_get (D := D) (ci := 2) (v := .ref aP_matchCount) (C := RX2) (T := TX2) (N := 12) hx hb htg giX2 hown hK hP 0 rfl rfl 3 (by decide) (htg _ kw_46) (fun _ h9 => h9) rfl dX2_meet_1 ?_
  refine lv_iload_n hx hb dX2_meet_4 rfl (lv_at hl 1 rfl) ?_
  have g_1 : vp_in x1 8 := gd_in hf
  have hf := gd_el hf
  refine va_iald hx hb hK hP 1 0 rfl rfl g_1 dX2_meet_5 ?_
  refine lv_bipush (v := (80 : Int32)) hx hb dX2_meet_6 (by decide) ?_
  refine lv_icmp_ge (tgt := 20) hx hb dX2_meet_8 (by decide) (fun c_2 => ?_) (fun c_2 => ?_)
  · have hf := xb_t c_2 hf
    have hf := Option.some.inj hf
    obtain ⟨k9_0, f9_0⟩ := Prod.mk.inj hf
    obtain ⟨k9_1, f9_1⟩ := Prod.mk.inj f9_0
    subst k9_0
    subst k9_1
    subst f9_1
    exact x_vret (fun _ => 0) hQ hx hb hr hlk hK hP hD hS dX2_meet_20
  · have hf := xb_f c_2 hf
    refine lv_aload_n hx hb dX2_meet_11 rfl (lv_at hl 0 rfl) ?_
    refine lv_iload_n hx hb dX2_meet_12 rfl (lv_at hl 1 rfl) ?_
    refine lv_iload_n hx hb dX2_meet_13 rfl (lv_at hl 2 rfl) ?_
    obtain ⟨r_4, hq_3, hf⟩ := bn1_c hf
    refine x_z (xrV (As := [.int x1, .int x2]) (b := aP) (rest := []) ⟨hx, hb, hml, hown, htg⟩ (c_f_Patterns_fits l D cI cJ cZ _ n aP x1 x2 aP_slots aP_termsSeen aP_matches aP_matchCount aP_variables aP_havingVariable aP_told aP_parent aP_allBefore P_required P_hinted P_count P_slots hq_3) kc_f_Patterns_fits kw_257 kw_259 kp_1 kw_3 dd_f_Patterns_fits ⟨Nat.le_of_ble_eq_true rfl, Nat.le_of_ble_eq_true rfl⟩ rfl rfl (hP.sub [0, 2] rfl) (hD.sub [0, 2] (by decide) rfl) hK hN hP (q0 := 0) rfl rfl rfl hl.1 rfl (Nat.le_of_ble_eq_true rfl) dX2_meet_14 ⟨Nat.le_of_ble_eq_true rfl, Nat.le_of_ble_eq_true rfl⟩) hP hD hS hA [0, 2] [1, 3, 4] rfl rfl (by decide) (by decide) (fun _ H locs bz_3 hP hD hS => ?_)
    have hP : va_P D vwCl [(aP_matchCount, .inl (cI, 8, .inl P_matchCount)), (aP_matches, .inl (cI, 640, .inl P_matches)), (aP_termsSeen, .inl (cI, 24, .inl P_termsSeen)), (aP, .inr (2, [.ref aP_slots, .ref aP_termsSeen, .ref aP_matches, .ref aP_matchCount, .ref aP_variables, .ref aP_havingVariable, .ref aP_told, .ref aP_parent, .ref aP_allBefore, .int P_required, .int P_hinted, .int P_count])), (aP_slots, .inl (cI, 24, .inl P_slots))] H := hP
    have hD : va_D A [(aP_matchCount, .inl (cI, 8, .inl P_matchCount)), (aP_matches, .inl (cI, 640, .inl P_matches)), (aP_termsSeen, .inl (cI, 24, .inl P_termsSeen)), (aP, .inr (2, [.ref aP_slots, .ref aP_termsSeen, .ref aP_matches, .ref aP_matchCount, .ref aP_variables, .ref aP_havingVariable, .ref aP_told, .ref aP_parent, .ref aP_allBefore, .int P_required, .int P_hinted, .int P_count])), (aP_slots, .inl (cI, 24, .inl P_slots))] := hD
    refine lv_if_ne (tgt := 21) hx hb dX2_meet_17 (by decide) (fun c_5 => ?_) (fun c_5 => ?_)
    · have hf := xb_f c_5 hf
      refine lv_aload_n hx hb dX2_meet_21 rfl (lv_at hl 0 rfl) ?_
      refine va_get (D := D) (ci := 2) (v := .ref aP_matches) (C := RX2) (T := TX2) (N := 12) hx hb htg giX2 hown hK hP 3 rfl rfl 2 (by decide) (htg _ kw_44) (fun _ h9 => h9) rfl dX2_meet_22 ?_
      refine lv_iload_n hx hb dX2_meet_25 rfl (lv_at hl 1 rfl) ?_
      refine lv_bipush (v := (80 : Int32)) hx hb dX2_meet_26 (by decide) ?_
      refine lv_imul hx hb dX2_meet_28 ?_
      refine lv_aload_n hx hb dX2_meet_29 rfl (lv_at hl 0 rfl) ?_
      refine va_get (D := D) (ci := 2) (v := .ref aP_matchCount) (C := RX2) (T := TX2) (N := 12) hx hb htg giX2 hown hK hP 3 rfl rfl 3 (by decide) (htg _ kw_46) (fun _ h9 => h9) rfl dX2_meet_30 ?_
      refine lv_iload_n hx hb dX2_meet_33 rfl (lv_at hl 1 rfl) ?_
      refine va_iald hx hb hK hP 0 0 rfl rfl g_1 dX2_meet_34 ?_
      refine lv_iadd hx hb dX2_meet_35 ?_
      refine lv_iload_n hx hb dX2_meet_36 rfl (lv_at hl 2 rfl) ?_
      have g_6 : vp_in ((x1 * (80 : Int32)) + (P_matchCount x1.toNatClampNeg)) 640 := gd_in hf
      have hf := gd_el hf
      refine x_iast hx hb hK hP hD hS 1 0 rfl rfl g_6 dX2_meet_37 (fun P_matches_7 eP_matches_7 H locs hP hD hS => ?_)
      have hf := nm_nm eP_matches_7 hf
      have hP : va_P D vwCl [(aP_matchCount, .inl (cI, 8, .inl P_matchCount)), (aP_matches, .inl (cI, 640, .inl P_matches_7)), (aP_termsSeen, .inl (cI, 24, .inl P_termsSeen)), (aP, .inr (2, [.ref aP_slots, .ref aP_termsSeen, .ref aP_matches, .ref aP_matchCount, .ref aP_variables, .ref aP_havingVariable, .ref aP_told, .ref aP_parent, .ref aP_allBefore, .int P_required, .int P_hinted, .int P_count])), (aP_slots, .inl (cI, 24, .inl P_slots))] H := hP
      have hD : va_D A [(aP_matchCount, .inl (cI, 8, .inl P_matchCount)), (aP_matches, .inl (cI, 640, .inl P_matches_7)), (aP_termsSeen, .inl (cI, 24, .inl P_termsSeen)), (aP, .inr (2, [.ref aP_slots, .ref aP_termsSeen, .ref aP_matches, .ref aP_matchCount, .ref aP_variables, .ref aP_havingVariable, .ref aP_told, .ref aP_parent, .ref aP_allBefore, .int P_required, .int P_hinted, .int P_count])), (aP_slots, .inl (cI, 24, .inl P_slots))] := hD
      refine lv_aload_n hx hb dX2_meet_38 rfl (lv_at hl 0 rfl) ?_
      refine va_get (D := D) (ci := 2) (v := .ref aP_matchCount) (C := RX2) (T := TX2) (N := 12) hx hb htg giX2 hown hK hP 3 rfl rfl 3 (by decide) (htg _ kw_46) (fun _ h9 => h9) rfl dX2_meet_39 ?_
      refine lv_iload_n hx hb dX2_meet_42 rfl (lv_at hl 1 rfl) ?_
      refine lv_dup2_11 hx hb dX2_meet_43 rfl rfl ?_
      refine va_iald hx hb hK hP 0 0 rfl rfl g_1 dX2_meet_44 ?_
      refine lv_iconst (v := (1 : Int32)) hx hb dX2_meet_45 (by decide) ?_
      refine lv_iadd hx hb dX2_meet_46 ?_
      refine lv_topi (fun v_8 ev_8 => ?_)
      have hf := nm_nm ev_8 hf
      refine x_iast hx hb hK hP hD hS 0 0 rfl rfl g_1 dX2_meet_47 (fun P_matchCount_9 eP_matchCount_9 H locs hP hD hS => ?_)
      have hf := nm_nm eP_matchCount_9 hf
      have hP : va_P D vwCl [(aP_matchCount, .inl (cI, 8, .inl P_matchCount_9)), (aP_matches, .inl (cI, 640, .inl P_matches_7)), (aP_termsSeen, .inl (cI, 24, .inl P_termsSeen)), (aP, .inr (2, [.ref aP_slots, .ref aP_termsSeen, .ref aP_matches, .ref aP_matchCount, .ref aP_variables, .ref aP_havingVariable, .ref aP_told, .ref aP_parent, .ref aP_allBefore, .int P_required, .int P_hinted, .int P_count])), (aP_slots, .inl (cI, 24, .inl P_slots))] H := hP
      have hD : va_D A [(aP_matchCount, .inl (cI, 8, .inl P_matchCount_9)), (aP_matches, .inl (cI, 640, .inl P_matches_7)), (aP_termsSeen, .inl (cI, 24, .inl P_termsSeen)), (aP, .inr (2, [.ref aP_slots, .ref aP_termsSeen, .ref aP_matches, .ref aP_matchCount, .ref aP_variables, .ref aP_havingVariable, .ref aP_told, .ref aP_parent, .ref aP_allBefore, .int P_required, .int P_hinted, .int P_count])), (aP_slots, .inl (cI, 24, .inl P_slots))] := hD
      refine lv_iconst (v := (0 : Int32)) hx hb dX2_meet_48 (by decide) ?_
      refine lv_istore_n (lv' := [(3, .int (0 : Int32)), (0, .ref aP), (1, .int x1), (2, .int x2)]) hx hb dX2_meet_49 rfl hl (by decide) rfl (fun ls hl => ?_)
      have L_50_24 : ∀ (k : Nat) (P_termsSeen_25 : Nat → Int32) (x3_26 : Int32) (o_24 : (Nat → Int32)), f_Patterns_meet_L0 n x1 x2 k P_termsSeen_25 x3_26 = some o_24 → ∀ (H : Heap) (locs : List Loc), va_P D vwCl [(aP, .inr (2, [.ref aP_slots, .ref aP_termsSeen, .ref aP_matches, .ref aP_matchCount, .ref aP_variables, .ref aP_havingVariable, .ref aP_told, .ref aP_parent, .ref aP_allBefore, .int P_required, .int P_hinted, .int P_count])), (aP_matchCount, .inl (cI, 8, .inl P_matchCount_9)), (aP_slots, .inl (cI, 24, .inl P_slots)), (aP_matches, .inl (cI, 640, .inl P_matches_7)), (aP_termsSeen, .inl (cI, 24, .inl P_termsSeen_25))] H → va_D A [(aP, .inr (2, [.ref aP_slots, .ref aP_termsSeen, .ref aP_matches, .ref aP_matchCount, .ref aP_variables, .ref aP_havingVariable, .ref aP_told, .ref aP_parent, .ref aP_allBefore, .int P_required, .int P_hinted, .int P_count])), (aP_matchCount, .inl (cI, 8, .inl P_matchCount_9)), (aP_slots, .inl (cI, 24, .inl P_slots)), (aP_matches, .inl (cI, 640, .inl P_matches_7)), (aP_termsSeen, .inl (cI, 24, .inl P_termsSeen_25))] → va_S A s.heap H locs → ∀ ls : Array Slot, lv_has ls 4 [(0, .ref aP), (1, .int x1), (2, .int x2), (3, .int x3_26)] → (∀ (P_termsSeen_27 : Nat → Int32), some (P_termsSeen_27) = some o_24 → ∀ (H : Heap) (locs : List Loc), va_P D vwCl [(aP, .inr (2, [.ref aP_slots, .ref aP_termsSeen, .ref aP_matches, .ref aP_matchCount, .ref aP_variables, .ref aP_havingVariable, .ref aP_told, .ref aP_parent, .ref aP_allBefore, .int P_required, .int P_hinted, .int P_count])), (aP_matchCount, .inl (cI, 8, .inl P_matchCount_9)), (aP_slots, .inl (cI, 24, .inl P_slots)), (aP_matches, .inl (cI, 640, .inl P_matches_7)), (aP_termsSeen, .inl (cI, 24, .inl P_termsSeen_27))] H → va_D A [(aP, .inr (2, [.ref aP_slots, .ref aP_termsSeen, .ref aP_matches, .ref aP_matchCount, .ref aP_variables, .ref aP_havingVariable, .ref aP_told, .ref aP_parent, .ref aP_allBefore, .int P_required, .int P_hinted, .int P_count])), (aP_matchCount, .inl (cI, 8, .inl P_matchCount_9)), (aP_slots, .inl (cI, 24, .inl P_slots)), (aP_matches, .inl (cI, 640, .inl P_matches_7)), (aP_termsSeen, .inl (cI, 24, .inl P_termsSeen_27))] → va_S A s.heap H locs → ∀ ls : Array Slot, lv_has ls 4 [] → W p l e rm_f_Patterns_meet s m args below meth c H locs 0 0 Q (F0 m 81 ls [])) → W p l e rm_f_Patterns_meet s m args below meth c H locs 0 0 Q (F0 m 50 ls []) := by
        intro k
        induction k with
        | zero =>
          intro P_termsSeen_25 x3_26 o_24 hf
          exact absurd (((f_Patterns_meet_L0_z n x1 x2 P_termsSeen_25 x3_26).symm.trans hf)) (fun h => by cases h)
        | succ k ih =>
          intro P_termsSeen_25 x3_26 o_24 hf H locs hP hD hS ls hl hX_24
          have hf := (f_Patterns_meet_L0_s n x1 x2 k P_termsSeen_25 x3_26).symm.trans hf
          refine lv_iload_n hx hb dX2_meet_50 rfl (lv_at hl 3 rfl) ?_
          refine lv_iconst (v := (3 : Int32)) hx hb dX2_meet_51 (by decide) ?_
          refine lv_icmp_ge (tgt := 81) hx hb dX2_meet_52 (by decide) (fun c_28 => ?_) (fun c_28 => ?_)
          · have hf := xb_t c_28 hf
            exact hX_24 P_termsSeen_25 hf _ _ hP hD hS _ (lv_sub hl [] rfl)
          · have hf := xb_f c_28 hf
            refine lv_aload_n hx hb dX2_meet_55 rfl (lv_at hl 0 rfl) ?_
            refine va_get (D := D) (ci := 2) (v := .ref aP_termsSeen) (C := RX2) (T := TX2) (N := 12) hx hb htg giX2 hown hK hP 0 rfl rfl 1 (by decide) (htg _ kw_43) (fun _ h9 => h9) rfl dX2_meet_56 ?_
            refine lv_iload_n hx hb dX2_meet_59 rfl (lv_at hl 1 rfl) ?_
            refine lv_iconst (v := (3 : Int32)) hx hb dX2_meet_60 (by decide) ?_
            refine lv_imul hx hb dX2_meet_61 ?_
            refine lv_iload_n hx hb dX2_meet_62 rfl (lv_at hl 3 rfl) ?_
            refine lv_iadd hx hb dX2_meet_63 ?_
            refine lv_dup2_11 hx hb dX2_meet_64 rfl rfl ?_
            have g_29 : vp_in ((x1 * (3 : Int32)) + x3_26) 24 := gd_in hf
            have hf := gd_el hf
            refine va_iald hx hb hK hP 4 0 rfl rfl g_29 dX2_meet_65 ?_
            refine lv_iconst (v := (1 : Int32)) hx hb dX2_meet_66 (by decide) ?_
            refine lv_iload_n hx hb dX2_meet_67 rfl (lv_at hl 2 rfl) ?_
            refine lv_iload_n hx hb dX2_meet_68 rfl (lv_at hl 3 rfl) ?_
            refine x_i (xrS (As := [.int x2, .int x3_26]) (rest := [.int (1 : Int32), .int (P_termsSeen_25 ((x1 * (3 : Int32)) + x3_26).toNatClampNeg), .int ((x1 * (3 : Int32)) + x3_26), .ref aP_termsSeen]) ⟨hx, hb, hml, hown, htg⟩ (c_f_Triples_part l D cI cJ cZ _ x2 x3_26 rfl) kc_f_Triples_part kw_265 kw_266 kw_2 dd_f_Triples_part ⟨Nat.le_of_ble_eq_true rfl, Nat.le_of_ble_eq_true rfl⟩ rfl rfl (hP.sub [] rfl) (hD.sub [] (by decide) rfl) hK hN rfl hl.1 rfl (Nat.le_of_ble_eq_true rfl) dX2_meet_69 ⟨Nat.le_of_ble_eq_true rfl, Nat.le_of_ble_eq_true rfl⟩) hP hD hS hA [] [0, 1, 2, 3, 4] rfl rfl (by decide) (by decide) (fun _ H locs hP hD hS => ?_)
            have hP : va_P D vwCl [(aP, .inr (2, [.ref aP_slots, .ref aP_termsSeen, .ref aP_matches, .ref aP_matchCount, .ref aP_variables, .ref aP_havingVariable, .ref aP_told, .ref aP_parent, .ref aP_allBefore, .int P_required, .int P_hinted, .int P_count])), (aP_matchCount, .inl (cI, 8, .inl P_matchCount_9)), (aP_slots, .inl (cI, 24, .inl P_slots)), (aP_matches, .inl (cI, 640, .inl P_matches_7)), (aP_termsSeen, .inl (cI, 24, .inl P_termsSeen_25))] H := hP
            have hD : va_D A [(aP, .inr (2, [.ref aP_slots, .ref aP_termsSeen, .ref aP_matches, .ref aP_matchCount, .ref aP_variables, .ref aP_havingVariable, .ref aP_told, .ref aP_parent, .ref aP_allBefore, .int P_required, .int P_hinted, .int P_count])), (aP_matchCount, .inl (cI, 8, .inl P_matchCount_9)), (aP_slots, .inl (cI, 24, .inl P_slots)), (aP_matches, .inl (cI, 640, .inl P_matches_7)), (aP_termsSeen, .inl (cI, 24, .inl P_termsSeen_25))] := hD
            refine lv_ishl hx hb dX2_meet_72 ?_
            refine lv_ior hx hb dX2_meet_73 ?_
            refine lv_topi (fun v_31 ev_31 => ?_)
            have hf := nm_nm ev_31 hf
            refine x_iast hx hb hK hP hD hS 4 0 rfl rfl g_29 dX2_meet_74 (fun P_termsSeen_32 eP_termsSeen_32 H locs hP hD hS => ?_)
            have hf := nm_nm eP_termsSeen_32 hf
            have hP : va_P D vwCl [(aP, .inr (2, [.ref aP_slots, .ref aP_termsSeen, .ref aP_matches, .ref aP_matchCount, .ref aP_variables, .ref aP_havingVariable, .ref aP_told, .ref aP_parent, .ref aP_allBefore, .int P_required, .int P_hinted, .int P_count])), (aP_matchCount, .inl (cI, 8, .inl P_matchCount_9)), (aP_slots, .inl (cI, 24, .inl P_slots)), (aP_matches, .inl (cI, 640, .inl P_matches_7)), (aP_termsSeen, .inl (cI, 24, .inl P_termsSeen_32))] H := hP
            have hD : va_D A [(aP, .inr (2, [.ref aP_slots, .ref aP_termsSeen, .ref aP_matches, .ref aP_matchCount, .ref aP_variables, .ref aP_havingVariable, .ref aP_told, .ref aP_parent, .ref aP_allBefore, .int P_required, .int P_hinted, .int P_count])), (aP_matchCount, .inl (cI, 8, .inl P_matchCount_9)), (aP_slots, .inl (cI, 24, .inl P_slots)), (aP_matches, .inl (cI, 640, .inl P_matches_7)), (aP_termsSeen, .inl (cI, 24, .inl P_termsSeen_32))] := hD
            obtain ⟨x3_33, ex3_33⟩ : ∃ y : Int32, y = x3_26 + (1 : Int32) := ⟨_, rfl⟩
            have hf := nm_nm ex3_33 hf
            refine lv_iinc (v := x3_33) (lv' := [(3, .int x3_33), (0, .ref aP), (1, .int x1), (2, .int x2)]) hx hb dX2_meet_75 hl (k := 3) rfl (by rw [ex3_33]; rfl) (by decide) rfl (fun ls hl => ?_)
            refine lv_goto (tgt := 50) hx hb dX2_meet_78 (by decide) ?_
            exact ih P_termsSeen_32 x3_33 o_24 hf _ _ hP hD hS _ (lv_sub hl [1, 2, 3, 0] rfl) hX_24
      obtain ⟨o_24, ho_24, hk_24⟩ := bn1_s hf
      refine L_50_24 n P_termsSeen (0 : Int32) o_24 ho_24 _ _ (hP.sub [3, 0, 4, 1, 2] rfl) (hD.sub [3, 0, 4, 1, 2] (by decide) rfl) hS _ (lv_sub hl [1, 2, 3, 0] rfl) (fun P_termsSeen_27 hf H locs hP hD hS ls hl => ?_)
      have hf := hk_24 _ hf
      have hf := Option.some.inj hf
      obtain ⟨k9_0, f9_0⟩ := Prod.mk.inj hf
      obtain ⟨k9_1, f9_1⟩ := Prod.mk.inj f9_0
      subst k9_0
      subst k9_1
      subst f9_1
      exact x_vret (fun _ => 0) hQ hx hb hr hlk hK hP hD hS dX2_meet_81
    · have hf := xb_t c_5 hf
      have hf := Option.some.inj hf
      obtain ⟨k9_0, f9_0⟩ := Prod.mk.inj hf
      obtain ⟨k9_1, f9_1⟩ := Prod.mk.inj f9_0
      subst k9_0
      subst k9_1
      subst f9_1
      exact x_vret (fun _ => 0) hQ hx hb hr hlk hK (hP.sub [3, 0, 4, 1, 2] rfl) (hD.sub [3, 0, 4, 1, 2] (by decide) rfl) hS dX2_meet_20
