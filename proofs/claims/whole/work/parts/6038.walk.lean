abbrev rm_f_Patterns_putBefore : Room := { frames := 2, cells := 0, slots := 0, locals := 43 }
set_option maxHeartbeats 4000000 in
set_option maxRecDepth 100000 in
theorem c_f_Patterns_putBefore (l : Launch) (D : va_G) (cI cJ cZ : ClassId) (sz : Nat) (n : Nat) (aP : Nat) (x1 : Int32) (x2 : Int32) (aP_slots : Nat) (aP_termsSeen : Nat) (aP_matches : Nat) (aP_matchCount : Nat) (aP_variables : Nat) (aP_havingVariable : Nat) (aP_told : Nat) (aP_parent : Nat) (aP_allBefore : Nat) (P_required : Int32) (P_hinted : Int32) (P_count : Int32) (P_allBefore : Nat → Int32) {P_hinted' : Int32} {P_allBefore' : Nat → Int32} (hf : f_Patterns_putBefore n x1 x2 P_hinted P_count P_allBefore = some (P_hinted', P_allBefore')) : Met l yX2_putBefore (.code yX2_putBefore cX2_putBefore 5 none :: GW) rm_f_Patterns_putBefore (va_Pc [.ref aP, .int x1, .int x2] (xP D (xT cI cJ cZ) sz [(aP, .inr (2, [.ref aP_slots, .ref aP_termsSeen, .ref aP_matches, .ref aP_matchCount, .ref aP_variables, .ref aP_havingVariable, .ref aP_told, .ref aP_parent, .ref aP_allBefore, .int P_required, .int P_hinted, .int P_count])), (aP_allBefore, .inl (cI, 8, .inl P_allBefore))])) (va_Qv (fun (_ : Nat → Nat) => True) (bB D (xT cI cJ cZ) (fun _ => [(aP, .inr (2, [.ref aP_slots, .ref aP_termsSeen, .ref aP_matches, .ref aP_matchCount, .ref aP_variables, .ref aP_havingVariable, .ref aP_told, .ref aP_parent, .ref aP_allBefore, .int P_required, .int P_hinted', .int P_count])), (aP_allBefore, .inl (cI, 8, .inl P_allBefore'))]) (va_A [(aP, .inr (2, [.ref aP_slots, .ref aP_termsSeen, .ref aP_matches, .ref aP_matchCount, .ref aP_variables, .ref aP_havingVariable, .ref aP_told, .ref aP_parent, .ref aP_allBefore, .int P_required, .int P_hinted, .int P_count])), (aP_allBefore, .inl (cI, 8, .inl P_allBefore))] sz)) (va_A [(aP, .inr (2, [.ref aP_slots, .ref aP_termsSeen, .ref aP_matches, .ref aP_matchCount, .ref aP_variables, .ref aP_havingVariable, .ref aP_told, .ref aP_parent, .ref aP_allBefore, .int P_required, .int P_hinted, .int P_count])), (aP_allBefore, .inl (cI, 8, .inl P_allBefore))] sz)) 0 0 (va_A [(aP, .inr (2, [.ref aP_slots, .ref aP_termsSeen, .ref aP_matches, .ref aP_matchCount, .ref aP_variables, .ref aP_havingVariable, .ref aP_told, .ref aP_parent, .ref aP_allBefore, .int P_required, .int P_hinted, .int P_count])), (aP_allBefore, .inl (cI, 8, .inl P_allBefore))] sz) := by
  refine con_start (y := yX2_putBefore) (bytes := cX2_putBefore) (maxL := 5) (av := [.ref aP, .int x1, .int x2]) (Qc := fun A => va_Qv (fun (_ : Nat → Nat) => True) (bB D (xT cI cJ cZ) (fun _ => [(aP, .inr (2, [.ref aP_slots, .ref aP_termsSeen, .ref aP_matches, .ref aP_matchCount, .ref aP_variables, .ref aP_havingVariable, .ref aP_told, .ref aP_parent, .ref aP_allBefore, .int P_required, .int P_hinted', .int P_count])), (aP_allBefore, .inl (cI, 8, .inl P_allBefore'))]) A) A) (by decide) (Nat.le_of_ble_eq_true rfl) ?_
  intro p e s m args below meth c Q A hx hb hr hlk hml hown hin htg hN hK hQ hA hP hD hS ls hl
  have hl : lv_has ls 5 [(0, .ref aP), (1, .int x1), (2, .int x2)] := hl
  have hown : s.vm.findClass RX2 = some m.cls := hown
  have hf := (f_Patterns_putBefore_u n x1 x2 P_hinted P_count P_allBefore).symm.trans hf
  refine lv_aload_n hx hb dX2_putBefore_0 rfl (lv_at hl 0 rfl) ?_
  refine va_get (D := D) (ci := 2) (v := .ref aP_allBefore) (C := RX2) (T := TX2) (N := 12) hx hb htg giX2 hown hK hP 0 rfl rfl 8 (by decide) (htg _ kw_57) (fun _ h9 => h9) rfl dX2_putBefore_1 ?_
  refine lv_iload_n hx hb dX2_putBefore_4 rfl (lv_at hl 1 rfl) ?_
  have g_1 : vp_in x1 8 := gd_in hf
  have hf := gd_el hf
  refine va_iald hx hb hK hP 1 0 rfl rfl g_1 dX2_putBefore_5 ?_
  refine lv_iconst (v := (1 : Int32)) hx hb dX2_putBefore_6 (by decide) ?_
  refine lv_iload_n hx hb dX2_putBefore_7 rfl (lv_at hl 1 rfl) ?_
  refine lv_ishl hx hb dX2_putBefore_8 ?_
  refine lv_ior hx hb dX2_putBefore_9 ?_
  refine lv_topi (fun x3_2 ex3_2 => ?_)
  have hf := nm_nm ex3_2 hf
  refine lv_istore_n (lv' := [(3, .int x3_2), (0, .ref aP), (1, .int x1), (2, .int x2)]) hx hb dX2_putBefore_10 rfl hl (by decide) rfl (fun ls hl => ?_)
  refine lv_iconst (v := (0 : Int32)) hx hb dX2_putBefore_11 (by decide) ?_
  refine lv_istore (lv' := [(4, .int (0 : Int32)), (3, .int x3_2), (0, .ref aP), (1, .int x1), (2, .int x2)]) hx hb dX2_putBefore_12 hl (by decide) rfl (fun ls hl => ?_)
  have L_14_31 : ∀ (k : Nat) (P_allBefore_32 : Nat → Int32) (x4_33 : Int32) (o_31 : (Nat → Int32)), f_Patterns_putBefore_L0 n x2 P_count x3_2 k P_allBefore_32 x4_33 = some o_31 → ∀ (H : Heap) (locs : List Loc), va_P D vwCl [(aP, .inr (2, [.ref aP_slots, .ref aP_termsSeen, .ref aP_matches, .ref aP_matchCount, .ref aP_variables, .ref aP_havingVariable, .ref aP_told, .ref aP_parent, .ref aP_allBefore, .int P_required, .int P_hinted, .int P_count])), (aP_allBefore, .inl (cI, 8, .inl P_allBefore_32))] H → va_D A [(aP, .inr (2, [.ref aP_slots, .ref aP_termsSeen, .ref aP_matches, .ref aP_matchCount, .ref aP_variables, .ref aP_havingVariable, .ref aP_told, .ref aP_parent, .ref aP_allBefore, .int P_required, .int P_hinted, .int P_count])), (aP_allBefore, .inl (cI, 8, .inl P_allBefore_32))] → va_S A s.heap H locs → ∀ ls : Array Slot, lv_has ls 5 [(0, .ref aP), (1, .int x1), (2, .int x2), (3, .int x3_2), (4, .int x4_33)] → (∀ (P_allBefore_34 : Nat → Int32), some (P_allBefore_34) = some o_31 → ∀ (H : Heap) (locs : List Loc), va_P D vwCl [(aP, .inr (2, [.ref aP_slots, .ref aP_termsSeen, .ref aP_matches, .ref aP_matchCount, .ref aP_variables, .ref aP_havingVariable, .ref aP_told, .ref aP_parent, .ref aP_allBefore, .int P_required, .int P_hinted, .int P_count])), (aP_allBefore, .inl (cI, 8, .inl P_allBefore_34))] H → va_D A [(aP, .inr (2, [.ref aP_slots, .ref aP_termsSeen, .ref aP_matches, .ref aP_matchCount, .ref aP_variables, .ref aP_havingVariable, .ref aP_told, .ref aP_parent, .ref aP_allBefore, .int P_required, .int P_hinted, .int P_count])), (aP_allBefore, .inl (cI, 8, .inl P_allBefore_34))] → va_S A s.heap H locs → ∀ ls : Array Slot, lv_has ls 5 [(0, .ref aP), (1, .int x1), (2, .int x2)] → W p l e rm_f_Patterns_putBefore s m args below meth c H locs 0 0 Q (F0 m 56 ls [])) → W p l e rm_f_Patterns_putBefore s m args below meth c H locs 0 0 Q (F0 m 14 ls []) := by
    intro k
    induction k with
    | zero =>
      intro P_allBefore_32 x4_33 o_31 hf
      exact absurd (((f_Patterns_putBefore_L0_z n x2 P_count x3_2 P_allBefore_32 x4_33).symm.trans hf)) (fun h => by cases h)
    | succ k ih =>
      intro P_allBefore_32 x4_33 o_31 hf H locs hP hD hS ls hl hX_31
      have hf := (f_Patterns_putBefore_L0_s n x2 P_count x3_2 k P_allBefore_32 x4_33).symm.trans hf
      refine lv_iload hx hb dX2_putBefore_14 (lv_at hl 4 rfl) ?_
      refine lv_aload_n hx hb dX2_putBefore_16 rfl (lv_at hl 0 rfl) ?_
      refine va_get (D := D) (ci := 2) (v := .int P_count) (C := RX2) (T := TX2) (N := 12) hx hb htg giX2 hown hK hP 0 rfl rfl 11 (by decide) (htg _ kw_62) (fun _ h9 => h9) rfl dX2_putBefore_17 ?_
      refine lv_icmp_ge (tgt := 56) hx hb dX2_putBefore_20 (by decide) (fun c_35 => ?_) (fun c_35 => ?_)
      · have hf := xb_t c_35 hf
        exact hX_31 P_allBefore_32 hf _ _ hP hD hS _ (lv_sub hl [0, 1, 2] rfl)
      · have hf := xb_f c_35 hf
        refine lv_iload hx hb dX2_putBefore_23 (lv_at hl 4 rfl) ?_
        refine lv_iload_n hx hb dX2_putBefore_25 rfl (lv_at hl 2 rfl) ?_
        refine lv_icmp_eq (tgt := 39) hx hb dX2_putBefore_26 (by decide) (fun c_36 => ?_) (fun c_36 => ?_)
        · have hf := xb_t c_36 hf
          refine lv_aload_n hx hb dX2_putBefore_39 rfl (lv_at hl 0 rfl) ?_
          refine va_get (D := D) (ci := 2) (v := .ref aP_allBefore) (C := RX2) (T := TX2) (N := 12) hx hb htg giX2 hown hK hP 0 rfl rfl 8 (by decide) (htg _ kw_57) (fun _ h9 => h9) rfl dX2_putBefore_40 ?_
          refine lv_iload hx hb dX2_putBefore_43 (lv_at hl 4 rfl) ?_
          refine lv_dup2_11 hx hb dX2_putBefore_45 rfl rfl ?_
          have g_37 : vp_in x4_33 8 := gd_in hf
          have hf := gd_el hf
          refine va_iald hx hb hK hP 1 0 rfl rfl g_37 dX2_putBefore_46 ?_
          refine lv_iload_n hx hb dX2_putBefore_47 rfl (lv_at hl 3 rfl) ?_
          refine lv_ior hx hb dX2_putBefore_48 ?_
          refine lv_topi (fun v_38 ev_38 => ?_)
          have hf := nm_nm ev_38 hf
          refine x_iast hx hb hK hP hD hS 1 0 rfl rfl g_37 dX2_putBefore_49 (fun P_allBefore_39 eP_allBefore_39 H locs hP hD hS => ?_)
          have hf := nm_nm eP_allBefore_39 hf
          have hP : va_P D vwCl [(aP, .inr (2, [.ref aP_slots, .ref aP_termsSeen, .ref aP_matches, .ref aP_matchCount, .ref aP_variables, .ref aP_havingVariable, .ref aP_told, .ref aP_parent, .ref aP_allBefore, .int P_required, .int P_hinted, .int P_count])), (aP_allBefore, .inl (cI, 8, .inl P_allBefore_39))] H := hP
          have hD : va_D A [(aP, .inr (2, [.ref aP_slots, .ref aP_termsSeen, .ref aP_matches, .ref aP_matchCount, .ref aP_variables, .ref aP_havingVariable, .ref aP_told, .ref aP_parent, .ref aP_allBefore, .int P_required, .int P_hinted, .int P_count])), (aP_allBefore, .inl (cI, 8, .inl P_allBefore_39))] := hD
          obtain ⟨x4_40, ex4_40⟩ : ∃ y : Int32, y = x4_33 + (1 : Int32) := ⟨_, rfl⟩
          have hf := nm_nm ex4_40 hf
          refine lv_iinc (v := x4_40) (lv' := [(4, .int x4_40), (0, .ref aP), (1, .int x1), (2, .int x2), (3, .int x3_2)]) hx hb dX2_putBefore_50 hl (k := 4) rfl (by rw [ex4_40]; rfl) (by decide) rfl (fun ls hl => ?_)
          refine lv_goto (tgt := 14) hx hb dX2_putBefore_53 (by decide) ?_
          exact ih P_allBefore_39 x4_40 o_31 hf _ _ hP hD hS _ (lv_sub hl [1, 2, 3, 4, 0] rfl) hX_31
        · have hf := xb_f c_36 hf
          refine lv_aload_n hx hb dX2_putBefore_29 rfl (lv_at hl 0 rfl) ?_
          refine lv_iload_n hx hb dX2_putBefore_30 rfl (lv_at hl 2 rfl) ?_
          refine lv_iload hx hb dX2_putBefore_31 (lv_at hl 4 rfl) ?_
          obtain ⟨r_42, hq_41, hf⟩ := bn1_c hf
          refine x_z (xrV (As := [.int x2, .int x4_33]) (b := aP) (rest := []) ⟨hx, hb, hml, hown, htg⟩ (c_f_Patterns_isBefore l D cI cJ cZ _ aP x2 x4_33 aP_slots aP_termsSeen aP_matches aP_matchCount aP_variables aP_havingVariable aP_told aP_parent aP_allBefore P_required P_hinted P_count P_allBefore_32 hq_41) kc_f_Patterns_isBefore kw_345 kw_338 kw_339 kw_3 dd_f_Patterns_isBefore ⟨Nat.le_of_ble_eq_true rfl, Nat.le_of_ble_eq_true rfl⟩ rfl rfl hP hD hK hN hP (q0 := 0) rfl rfl rfl hl.1 rfl (Nat.le_of_ble_eq_true rfl) dX2_putBefore_33 ⟨Nat.le_of_ble_eq_true rfl, Nat.le_of_ble_eq_true rfl⟩) hP hD hS hA [0, 1] [] rfl rfl (by decide) (by decide) (fun _ H locs bz_41 hP hD hS => ?_)
          have hP : va_P D vwCl [(aP, .inr (2, [.ref aP_slots, .ref aP_termsSeen, .ref aP_matches, .ref aP_matchCount, .ref aP_variables, .ref aP_havingVariable, .ref aP_told, .ref aP_parent, .ref aP_allBefore, .int P_required, .int P_hinted, .int P_count])), (aP_allBefore, .inl (cI, 8, .inl P_allBefore_32))] H := hP
          have hD : va_D A [(aP, .inr (2, [.ref aP_slots, .ref aP_termsSeen, .ref aP_matches, .ref aP_matchCount, .ref aP_variables, .ref aP_havingVariable, .ref aP_told, .ref aP_parent, .ref aP_allBefore, .int P_required, .int P_hinted, .int P_count])), (aP_allBefore, .inl (cI, 8, .inl P_allBefore_32))] := hD
          refine lv_if_eq (tgt := 50) hx hb dX2_putBefore_36 (by decide) (fun c_43 => ?_) (fun c_43 => ?_)
          · have hf := xb_t c_43 hf
            obtain ⟨x4_44, ex4_44⟩ : ∃ y : Int32, y = x4_33 + (1 : Int32) := ⟨_, rfl⟩
            have hf := nm_nm ex4_44 hf
            refine lv_iinc (v := x4_44) (lv' := [(4, .int x4_44), (0, .ref aP), (1, .int x1), (2, .int x2), (3, .int x3_2)]) hx hb dX2_putBefore_50 hl (k := 4) rfl (by rw [ex4_44]; rfl) (by decide) rfl (fun ls hl => ?_)
            refine lv_goto (tgt := 14) hx hb dX2_putBefore_53 (by decide) ?_
            exact ih P_allBefore_32 x4_44 o_31 hf _ _ hP hD hS _ (lv_sub hl [1, 2, 3, 4, 0] rfl) hX_31
          · have hf := xb_f c_43 hf
            refine lv_aload_n hx hb dX2_putBefore_39 rfl (lv_at hl 0 rfl) ?_
            refine va_get (D := D) (ci := 2) (v := .ref aP_allBefore) (C := RX2) (T := TX2) (N := 12) hx hb htg giX2 hown hK hP 0 rfl rfl 8 (by decide) (htg _ kw_57) (fun _ h9 => h9) rfl dX2_putBefore_40 ?_
            refine lv_iload hx hb dX2_putBefore_43 (lv_at hl 4 rfl) ?_
            refine lv_dup2_11 hx hb dX2_putBefore_45 rfl rfl ?_
            have g_45 : vp_in x4_33 8 := gd_in hf
            have hf := gd_el hf
            refine va_iald hx hb hK hP 1 0 rfl rfl g_45 dX2_putBefore_46 ?_
            refine lv_iload_n hx hb dX2_putBefore_47 rfl (lv_at hl 3 rfl) ?_
            refine lv_ior hx hb dX2_putBefore_48 ?_
            refine lv_topi (fun v_46 ev_46 => ?_)
            have hf := nm_nm ev_46 hf
            refine x_iast hx hb hK hP hD hS 1 0 rfl rfl g_45 dX2_putBefore_49 (fun P_allBefore_47 eP_allBefore_47 H locs hP hD hS => ?_)
            have hf := nm_nm eP_allBefore_47 hf
            have hP : va_P D vwCl [(aP, .inr (2, [.ref aP_slots, .ref aP_termsSeen, .ref aP_matches, .ref aP_matchCount, .ref aP_variables, .ref aP_havingVariable, .ref aP_told, .ref aP_parent, .ref aP_allBefore, .int P_required, .int P_hinted, .int P_count])), (aP_allBefore, .inl (cI, 8, .inl P_allBefore_47))] H := hP
            have hD : va_D A [(aP, .inr (2, [.ref aP_slots, .ref aP_termsSeen, .ref aP_matches, .ref aP_matchCount, .ref aP_variables, .ref aP_havingVariable, .ref aP_told, .ref aP_parent, .ref aP_allBefore, .int P_required, .int P_hinted, .int P_count])), (aP_allBefore, .inl (cI, 8, .inl P_allBefore_47))] := hD
            obtain ⟨x4_48, ex4_48⟩ : ∃ y : Int32, y = x4_33 + (1 : Int32) := ⟨_, rfl⟩
            have hf := nm_nm ex4_48 hf
            refine lv_iinc (v := x4_48) (lv' := [(4, .int x4_48), (0, .ref aP), (1, .int x1), (2, .int x2), (3, .int x3_2)]) hx hb dX2_putBefore_50 hl (k := 4) rfl (by rw [ex4_48]; rfl) (by decide) rfl (fun ls hl => ?_)
            refine lv_goto (tgt := 14) hx hb dX2_putBefore_53 (by decide) ?_
            exact ih P_allBefore_47 x4_48 o_31 hf _ _ hP hD hS _ (lv_sub hl [1, 2, 3, 4, 0] rfl) hX_31
  obtain ⟨o_31, ho_31, hk_31⟩ := bn1_s hf
  refine L_14_31 n P_allBefore (0 : Int32) o_31 ho_31 _ _ hP hD hS _ (lv_sub hl [2, 3, 4, 1, 0] rfl) (fun P_allBefore_34 hf H locs hP hD hS ls hl => ?_)
  have hf := hk_31 _ hf
  refine lv_aload_n hx hb dX2_putBefore_56 rfl (lv_at hl 0 rfl) ?_
  refine lv_dup hx hb dX2_putBefore_57 rfl ?_
  refine va_get (D := D) (ci := 2) (v := .int P_hinted) (C := RX2) (T := TX2) (N := 12) hx hb htg giX2 hown hK hP 0 rfl rfl 10 (by decide) (htg _ kw_61) (fun _ h9 => h9) rfl dX2_putBefore_58 ?_
  refine lv_iconst (v := (1 : Int32)) hx hb dX2_putBefore_61 (by decide) ?_
  refine lv_iload_n hx hb dX2_putBefore_62 rfl (lv_at hl 1 rfl) ?_
  refine lv_ishl hx hb dX2_putBefore_63 ?_
  refine lv_iconst (v := (1 : Int32)) hx hb dX2_putBefore_64 (by decide) ?_
  refine lv_iload_n hx hb dX2_putBefore_65 rfl (lv_at hl 2 rfl) ?_
  refine lv_ishl hx hb dX2_putBefore_66 ?_
  refine lv_ior hx hb dX2_putBefore_67 ?_
  refine lv_ior hx hb dX2_putBefore_68 ?_
  refine lv_topi (fun v_49 ev_49 => ?_)
  have hf := nm_nm ev_49 hf
  refine va_put (D := D) (ci := 2) (v := .int v_49) (ty := .int) (C := RX2) (T := TX2) (N := 12) hx hb htg giX2 tyX2 tyX2_ok nmX2 hown hK hP hD hS 0 rfl rfl 10 (by decide) (htg _ kw_61) (fun _ h9 => h9) rfl (by decide +kernel) rfl rfl (Nat.le_of_ble_eq_true rfl) dX2_putBefore_69 (fun H locs hP hD hS => ?_)
  have hP : va_P D vwCl [(aP, .inr (2, [.ref aP_slots, .ref aP_termsSeen, .ref aP_matches, .ref aP_matchCount, .ref aP_variables, .ref aP_havingVariable, .ref aP_told, .ref aP_parent, .ref aP_allBefore, .int P_required, .int v_49, .int P_count])), (aP_allBefore, .inl (cI, 8, .inl P_allBefore_34))] H := hP
  have hD : va_D A [(aP, .inr (2, [.ref aP_slots, .ref aP_termsSeen, .ref aP_matches, .ref aP_matchCount, .ref aP_variables, .ref aP_havingVariable, .ref aP_told, .ref aP_parent, .ref aP_allBefore, .int P_required, .int v_49, .int P_count])), (aP_allBefore, .inl (cI, 8, .inl P_allBefore_34))] := hD
  have hf := Option.some.inj hf
  obtain ⟨k9_0, f9_0⟩ := Prod.mk.inj hf
  subst k9_0
  subst f9_0
  exact x_vret (fun _ => 0) hQ hx hb hr hlk hK hP hD hS dX2_putBefore_72
