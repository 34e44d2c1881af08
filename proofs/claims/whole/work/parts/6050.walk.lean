abbrev rm_f_Planner_nextOnes : Room := { frames := 2, cells := 0, slots := 0, locals := 44 }
set_option maxHeartbeats 4000000 in
set_option maxRecDepth 100000 in
theorem c_f_Planner_nextOnes (l : Launch) (D : va_G) (cI cJ cZ : ClassId) (sz : Nat) (n : Nat) (x0 : Int32) (aP : Nat) (aP_slots : Nat) (aP_termsSeen : Nat) (aP_matches : Nat) (aP_matchCount : Nat) (aP_variables : Nat) (aP_havingVariable : Nat) (aP_told : Nat) (aP_parent : Nat) (aP_allBefore : Nat) (P_required : Int32) (P_hinted : Int32) (P_count : Int32) (P_variables : Nat → Int32) (P_allBefore : Nat → Int32) {r : Int32} (hf : f_Planner_nextOnes n x0 P_required P_count P_variables P_allBefore = some r) : Met l yX4_nextOnes (.code yX4_nextOnes cX4_nextOnes 7 (some .int) :: GW) rm_f_Planner_nextOnes (va_Pc [.int x0, .ref aP] (xP D (xT cI cJ cZ) sz [(aP, .inr (2, [.ref aP_slots, .ref aP_termsSeen, .ref aP_matches, .ref aP_matchCount, .ref aP_variables, .ref aP_havingVariable, .ref aP_told, .ref aP_parent, .ref aP_allBefore, .int P_required, .int P_hinted, .int P_count])), (aP_variables, .inl (cI, 8, .inl P_variables)), (aP_allBefore, .inl (cI, 8, .inl P_allBefore))])) (va_Qi (fun r2 (_ : Nat → Nat) => r2 = r) (bB D (xT cI cJ cZ) (fun _ => [(aP, .inr (2, [.ref aP_slots, .ref aP_termsSeen, .ref aP_matches, .ref aP_matchCount, .ref aP_variables, .ref aP_havingVariable, .ref aP_told, .ref aP_parent, .ref aP_allBefore, .int P_required, .int P_hinted, .int P_count])), (aP_variables, .inl (cI, 8, .inl P_variables)), (aP_allBefore, .inl (cI, 8, .inl P_allBefore))]) (va_A [(aP, .inr (2, [.ref aP_slots, .ref aP_termsSeen, .ref aP_matches, .ref aP_matchCount, .ref aP_variables, .ref aP_havingVariable, .ref aP_told, .ref aP_parent, .ref aP_allBefore, .int P_required, .int P_hinted, .int P_count])), (aP_variables, .inl (cI, 8, .inl P_variables)), (aP_allBefore, .inl (cI, 8, .inl P_allBefore))] sz)) (va_A [(aP, .inr (2, [.ref aP_slots, .ref aP_termsSeen, .ref aP_matches, .ref aP_matchCount, .ref aP_variables, .ref aP_havingVariable, .ref aP_told, .ref aP_parent, .ref aP_allBefore, .int P_required, .int P_hinted, .int P_count])), (aP_variables, .inl (cI, 8, .inl P_variables)), (aP_allBefore, .inl (cI, 8, .inl P_allBefore))] sz)) 0 0 (va_A [(aP, .inr (2, [.ref aP_slots, .ref aP_termsSeen, .ref aP_matches, .ref aP_matchCount, .ref aP_variables, .ref aP_havingVariable, .ref aP_told, .ref aP_parent, .ref aP_allBefore, .int P_required, .int P_hinted, .int P_count])), (aP_variables, .inl (cI, 8, .inl P_variables)), (aP_allBefore, .inl (cI, 8, .inl P_allBefore))] sz) := by
  refine con_start (y := yX4_nextOnes) (bytes := cX4_nextOnes) (maxL := 7) (av := [.int x0, .ref aP]) (Qc := fun A => va_Qi (fun r2 (_ : Nat → Nat) => r2 = r) (bB D (xT cI cJ cZ) (fun _ => [(aP, .inr (2, [.ref aP_slots, .ref aP_termsSeen, .ref aP_matches, .ref aP_matchCount, .ref aP_variables, .ref aP_havingVariable, .ref aP_told, .ref aP_parent, .ref aP_allBefore, .int P_required, .int P_hinted, .int P_count])), (aP_variables, .inl (cI, 8, .inl P_variables)), (aP_allBefore, .inl (cI, 8, .inl P_allBefore))]) A) A) (by decide) (Nat.le_of_ble_eq_true rfl) ?_
  intro p e s m args below meth c Q A hx hb hr hlk hml hown hin htg hN hK hQ hA hP hD hS ls hl
  have hl : lv_has ls 7 [(0, .int x0), (1, .ref aP)] := hl
  have hown : s.vm.findClass RX4 = some m.cls := hown
  have hf := (f_Planner_nextOnes_u n x0 P_required P_count P_variables P_allBefore).symm.trans hf
  refine lv_iload_n hx hb dX4_nextOnes_0 rfl (lv_at hl 0 rfl) ?_
  refine lv_aload_n hx hb dX4_nextOnes_1 rfl (lv_at hl 1 rfl) ?_
  obtain ⟨r_2, hq_1, hf⟩ := bn1_c hf
  refine x_i (xrS (As := [.int x0, .ref aP]) (rest := []) ⟨hx, hb, hml, hown, htg⟩ (c_f_Planner_variablesOf l D cI cJ cZ _ n x0 aP aP_slots aP_termsSeen aP_matches aP_matchCount aP_variables aP_havingVariable aP_told aP_parent aP_allBefore P_required P_hinted P_count P_variables hq_1) kc_f_Planner_variablesOf kw_404 kw_405 kw_5 dd_f_Planner_variablesOf ⟨Nat.le_of_ble_eq_true rfl, Nat.le_of_ble_eq_true rfl⟩ rfl rfl (hP.sub [0, 1] rfl) (hD.sub [0, 1] (by decide) rfl) hK hN rfl hl.1 rfl (Nat.le_of_ble_eq_true rfl) dX4_nextOnes_2 ⟨Nat.le_of_ble_eq_true rfl, Nat.le_of_ble_eq_true rfl⟩) hP hD hS hA [0, 1] [2] rfl rfl (by decide) (by decide) (fun _ H locs hP hD hS => ?_)
  have hP : va_P D vwCl [(aP_allBefore, .inl (cI, 8, .inl P_allBefore)), (aP, .inr (2, [.ref aP_slots, .ref aP_termsSeen, .ref aP_matches, .ref aP_matchCount, .ref aP_variables, .ref aP_havingVariable, .ref aP_told, .ref aP_parent, .ref aP_allBefore, .int P_required, .int P_hinted, .int P_count])), (aP_variables, .inl (cI, 8, .inl P_variables))] H := hP
  have hD : va_D A [(aP_allBefore, .inl (cI, 8, .inl P_allBefore)), (aP, .inr (2, [.ref aP_slots, .ref aP_termsSeen, .ref aP_matches, .ref aP_matchCount, .ref aP_variables, .ref aP_havingVariable, .ref aP_told, .ref aP_parent, .ref aP_allBefore, .int P_required, .int P_hinted, .int P_count])), (aP_variables, .inl (cI, 8, .inl P_variables))] := hD
  refine lv_istore_n (lv' := [(2, .int r_2), (0, .int x0), (1, .ref aP)]) hx hb dX4_nextOnes_5 rfl hl (by decide) rfl (fun ls hl => ?_)
  refine lv_iconst (v := (0 : Int32)) hx hb dX4_nextOnes_6 (by decide) ?_
  refine lv_istore_n (lv' := [(3, .int (0 : Int32)), (2, .int r_2), (0, .int x0), (1, .ref aP)]) hx hb dX4_nextOnes_7 rfl hl (by decide) rfl (fun ls hl => ?_)
  refine lv_iconst (v := (0 : Int32)) hx hb dX4_nextOnes_8 (by decide) ?_
  refine lv_istore (lv' := [(4, .int (0 : Int32)), (3, .int (0 : Int32)), (2, .int r_2), (0, .int x0), (1, .ref aP)]) hx hb dX4_nextOnes_9 hl (by decide) rfl (fun ls hl => ?_)
  refine lv_iconst (v := (0 : Int32)) hx hb dX4_nextOnes_11 (by decide) ?_
  refine lv_istore (lv' := [(5, .int (0 : Int32)), (4, .int (0 : Int32)), (3, .int (0 : Int32)), (2, .int r_2), (0, .int x0), (1, .ref aP)]) hx hb dX4_nextOnes_12 hl (by decide) rfl (fun ls hl => ?_)
  have L_14_31 : ∀ (k : Nat) (x3_32 : Int32) (x4_33 : Int32) (x5_34 : Int32) (o_31 : (Int32 × Int32)), f_Planner_nextOnes_L0 n x0 P_required P_count P_variables P_allBefore r_2 k x3_32 x4_33 x5_34 = some o_31 → ∀ (H : Heap) (locs : List Loc), va_P D vwCl [(aP, .inr (2, [.ref aP_slots, .ref aP_termsSeen, .ref aP_matches, .ref aP_matchCount, .ref aP_variables, .ref aP_havingVariable, .ref aP_told, .ref aP_parent, .ref aP_allBefore, .int P_required, .int P_hinted, .int P_count])), (aP_variables, .inl (cI, 8, .inl P_variables)), (aP_allBefore, .inl (cI, 8, .inl P_allBefore))] H → va_D A [(aP, .inr (2, [.ref aP_slots, .ref aP_termsSeen, .ref aP_matches, .ref aP_matchCount, .ref aP_variables, .ref aP_havingVariable, .ref aP_told, .ref aP_parent, .ref aP_allBefore, .int P_required, .int P_hinted, .int P_count])), (aP_variables, .inl (cI, 8, .inl P_variables)), (aP_allBefore, .inl (cI, 8, .inl P_allBefore))] → va_S A s.heap H locs → ∀ ls : Array Slot, lv_has ls 7 [(0, .int x0), (1, .ref aP), (2, .int r_2), (3, .int x3_32), (4, .int x4_33), (5, .int x5_34)] → (∀ (x3_35 : Int32) (x4_36 : Int32), some ((x3_35, x4_36)) = some o_31 → ∀ (H : Heap) (locs : List Loc), va_P D vwCl [(aP, .inr (2, [.ref aP_slots, .ref aP_termsSeen, .ref aP_matches, .ref aP_matchCount, .ref aP_variables, .ref aP_havingVariable, .ref aP_told, .ref aP_parent, .ref aP_allBefore, .int P_required, .int P_hinted, .int P_count])), (aP_variables, .inl (cI, 8, .inl P_variables)), (aP_allBefore, .inl (cI, 8, .inl P_allBefore))] H → va_D A [(aP, .inr (2, [.ref aP_slots, .ref aP_termsSeen, .ref aP_matches, .ref aP_matchCount, .ref aP_variables, .ref aP_havingVariable, .ref aP_told, .ref aP_parent, .ref aP_allBefore, .int P_required, .int P_hinted, .int P_count])), (aP_variables, .inl (cI, 8, .inl P_variables)), (aP_allBefore, .inl (cI, 8, .inl P_allBefore))] → va_S A s.heap H locs → ∀ ls : Array Slot, lv_has ls 7 [(3, .int x3_35), (4, .int x4_36)] → W p l e rm_f_Planner_nextOnes s m args below meth c H locs 0 0 Q (F0 m 91 ls [])) → W p l e rm_f_Planner_nextOnes s m args below meth c H locs 0 0 Q (F0 m 14 ls []) := by
    intro k
    induction k with
    | zero =>
      intro x3_32 x4_33 x5_34 o_31 hf
      exact absurd (((f_Planner_nextOnes_L0_z n x0 P_required P_count P_variables P_allBefore r_2 x3_32 x4_33 x5_34).symm.trans hf)) (fun h => by cases h)
    | succ k ih =>
      intro x3_32 x4_33 x5_34 o_31 hf H locs hP hD hS ls hl hX_31
      have hf := (f_Planner_nextOnes_L0_s n x0 P_required P_count P_variables P_allBefore r_2 k x3_32 x4_33 x5_34).symm.trans hf
      refine lv_iload hx hb dX4_nextOnes_14 (lv_at hl 5 rfl) ?_
      refine lv_aload_n hx hb dX4_nextOnes_16 rfl (lv_at hl 1 rfl) ?_
      refine va_getN (D := D) (ci := 2) (v := .int P_count) (C := RX2) (T := TX2) (N := 12) hx hb htg giX2 hown hK hP 0 rfl rfl 11 (by decide) (va_Nw.use rfl (hN _ kn_63)) (fun _ h9 => h9) rfl dX4_nextOnes_17 ?_
      refine lv_icmp_ge (tgt := 91) hx hb dX4_nextOnes_20 (by decide) (fun c_37 => ?_) (fun c_37 => ?_)
      · have hf := xb_t c_37 hf
        exact hX_31 x3_32 x4_33 hf _ _ hP hD hS _ (lv_sub hl [3, 4] rfl)
      · have hf := xb_f c_37 hf
        refine lv_aload_n hx hb dX4_nextOnes_23 rfl (lv_at hl 1 rfl) ?_
        refine va_getN (D := D) (ci := 2) (v := .int P_required) (C := RX2) (T := TX2) (N := 12) hx hb htg giX2 hown hK hP 0 rfl rfl 9 (by decide) (va_Nw.use rfl (hN _ kn_59)) (fun _ h9 => h9) rfl dX4_nextOnes_24 ?_
        refine lv_iload_n hx hb dX4_nextOnes_27 rfl (lv_at hl 0 rfl) ?_
        refine lv_iconst (v := (-1 : Int32)) hx hb dX4_nextOnes_28 (by decide) ?_
        refine lv_ixor hx hb dX4_nextOnes_29 ?_
        refine lv_iand hx hb dX4_nextOnes_30 ?_
        refine lv_iload hx hb dX4_nextOnes_31 (lv_at hl 5 rfl) ?_
        refine x_z (xrSN (As := [.int (P_required &&& (x0 ^^^ (-1 : Int32))), .int x5_34]) (rest := []) ⟨hx, hb, hml, hown, htg⟩ (c_f_JoinOrder_inSet l D cI cJ cZ _ (P_required &&& (x0 ^^^ (-1 : Int32))) x5_34 rfl) kc_f_JoinOrder_inSet kn_385 kw_306 kw_1 dd_f_JoinOrder_inSet ⟨Nat.le_of_ble_eq_true rfl, Nat.le_of_ble_eq_true rfl⟩ rfl rfl (hP.sub [] rfl) (hD.sub [] (by decide) rfl) hK hN rfl hl.1 rfl (Nat.le_of_ble_eq_true rfl) dX4_nextOnes_33 ⟨Nat.le_of_ble_eq_true rfl, Nat.le_of_ble_eq_true rfl⟩) hP hD hS hA [] [0, 1, 2] rfl rfl (by decide) (by decide) (fun _ H locs bz_38 hP hD hS => ?_)
        have hP : va_P D vwCl [(aP, .inr (2, [.ref aP_slots, .ref aP_termsSeen, .ref aP_matches, .ref aP_matchCount, .ref aP_variables, .ref aP_havingVariable, .ref aP_told, .ref aP_parent, .ref aP_allBefore, .int P_required, .int P_hinted, .int P_count])), (aP_variables, .inl (cI, 8, .inl P_variables)), (aP_allBefore, .inl (cI, 8, .inl P_allBefore))] H := hP
        have hD : va_D A [(aP, .inr (2, [.ref aP_slots, .ref aP_termsSeen, .ref aP_matches, .ref aP_matchCount, .ref aP_variables, .ref aP_havingVariable, .ref aP_told, .ref aP_parent, .ref aP_allBefore, .int P_required, .int P_hinted, .int P_count])), (aP_variables, .inl (cI, 8, .inl P_variables)), (aP_allBefore, .inl (cI, 8, .inl P_allBefore))] := hD
        refine lv_topi (fun x6_39 ex6_39 => ?_)
        have hf := nm_nm ex6_39 hf
        refine lv_istore (lv' := [(6, .int x6_39), (0, .int x0), (1, .ref aP), (2, .int r_2), (3, .int x3_32), (4, .int x4_33), (5, .int x5_34)]) hx hb dX4_nextOnes_36 hl (by decide) rfl (fun ls hl => ?_)
        refine lv_iload hx hb dX4_nextOnes_38 (lv_at hl 0 rfl) ?_
        refine lv_if_eq (tgt := 85) hx hb dX4_nextOnes_40 (by decide) (fun c_40 => ?_) (fun c_40 => ?_)
        · have hf := xb_t c_40 hf
          obtain ⟨x5_41, ex5_41⟩ : ∃ y : Int32, y = x5_34 + (1 : Int32) := ⟨_, rfl⟩
          have hf := nm_nm ex5_41 hf
          refine lv_iinc (v := x5_41) (lv' := [(5, .int x5_41), (6, .int x6_39), (0, .int x0), (1, .ref aP), (2, .int r_2), (3, .int x3_32), (4, .int x4_33)]) hx hb dX4_nextOnes_85 hl (k := 6) rfl (by rw [ex5_41]; rfl) (by decide) rfl (fun ls hl => ?_)
          refine lv_goto (tgt := 14) hx hb dX4_nextOnes_88 (by decide) ?_
          exact ih x3_32 x4_33 x5_41 o_31 hf _ _ hP hD hS _ (lv_sub hl [2, 3, 4, 5, 6, 0] rfl) hX_31
        · have hf := xb_f c_40 hf
          refine lv_aload_n hx hb dX4_nextOnes_43 rfl (lv_at hl 2 rfl) ?_
          refine va_getN (D := D) (ci := 2) (v := .ref aP_allBefore) (C := RX2) (T := TX2) (N := 12) hx hb htg giX2 hown hK hP 0 rfl rfl 8 (by decide) (va_Nw.use rfl (hN _ kn_58)) (fun _ h9 => h9) rfl dX4_nextOnes_44 ?_
          refine lv_iload hx hb dX4_nextOnes_47 (lv_at hl 6 rfl) ?_
          have g_42 : vp_in x5_34 8 := gd_in hf
          have hf := gd_el hf
          refine va_iald hx hb hK hP 2 0 rfl rfl g_42 dX4_nextOnes_49 ?_
          refine lv_iload_n hx hb dX4_nextOnes_50 rfl (lv_at hl 1 rfl) ?_
          refine lv_iconst (v := (-1 : Int32)) hx hb dX4_nextOnes_51 (by decide) ?_
          refine lv_ixor hx hb dX4_nextOnes_52 ?_
          refine lv_iand hx hb dX4_nextOnes_53 ?_
          refine lv_if_ne (tgt := 85) hx hb dX4_nextOnes_54 (by decide) (fun c_43 => ?_) (fun c_43 => ?_)
          · have hf := xb_f c_43 hf
            obtain ⟨x5_44, ex5_44⟩ : ∃ y : Int32, y = x5_34 + (1 : Int32) := ⟨_, rfl⟩
            have hf := nm_nm ex5_44 hf
            refine lv_iinc (v := x5_44) (lv' := [(5, .int x5_44), (6, .int x6_39), (0, .int x0), (1, .ref aP), (2, .int r_2), (3, .int x3_32), (4, .int x4_33)]) hx hb dX4_nextOnes_85 hl (k := 6) rfl (by rw [ex5_44]; rfl) (by decide) rfl (fun ls hl => ?_)
            refine lv_goto (tgt := 14) hx hb dX4_nextOnes_88 (by decide) ?_
            exact ih x3_32 x4_33 x5_44 o_31 hf _ _ hP hD hS _ (lv_sub hl [2, 3, 4, 5, 6, 0] rfl) hX_31
          · have hf := xb_t c_43 hf
            refine lv_iload_n hx hb dX4_nextOnes_57 rfl (lv_at hl 4 rfl) ?_
            refine lv_iconst (v := (1 : Int32)) hx hb dX4_nextOnes_58 (by decide) ?_
            refine lv_iload hx hb dX4_nextOnes_59 (lv_at hl 6 rfl) ?_
            refine lv_ishl hx hb dX4_nextOnes_61 ?_
            refine lv_ior hx hb dX4_nextOnes_62 ?_
            refine lv_topi (fun x3_45 ex3_45 => ?_)
            have hf := nm_nm ex3_45 hf
            refine lv_istore_n (lv' := [(3, .int x3_45), (6, .int x6_39), (0, .int x0), (1, .ref aP), (2, .int r_2), (4, .int x4_33), (5, .int x5_34)]) hx hb dX4_nextOnes_63 rfl hl (by decide) rfl (fun ls hl => ?_)
            refine lv_aload_n hx hb dX4_nextOnes_64 rfl (lv_at hl 3 rfl) ?_
            refine va_getN (D := D) (ci := 2) (v := .ref aP_variables) (C := RX2) (T := TX2) (N := 12) hx hb htg giX2 hown hK hP 0 rfl rfl 4 (by decide) (va_Nw.use rfl (hN _ kn_50)) (fun _ h9 => h9) rfl dX4_nextOnes_65 ?_
            refine lv_iload hx hb dX4_nextOnes_68 (lv_at hl 6 rfl) ?_
            refine va_iald hx hb hK hP 1 0 rfl rfl g_42 dX4_nextOnes_70 ?_
            refine lv_iload_n hx hb dX4_nextOnes_71 rfl (lv_at hl 4 rfl) ?_
            refine lv_iand hx hb dX4_nextOnes_72 ?_
            refine lv_if_eq (tgt := 85) hx hb dX4_nextOnes_73 (by decide) (fun c_46 => ?_) (fun c_46 => ?_)
            · have hf := xb_t c_46 hf
              obtain ⟨x5_47, ex5_47⟩ : ∃ y : Int32, y = x5_34 + (1 : Int32) := ⟨_, rfl⟩
              have hf := nm_nm ex5_47 hf
              refine lv_iinc (v := x5_47) (lv' := [(5, .int x5_47), (3, .int x3_45), (6, .int x6_39), (0, .int x0), (1, .ref aP), (2, .int r_2), (4, .int x4_33)]) hx hb dX4_nextOnes_85 hl (k := 6) rfl (by rw [ex5_47]; rfl) (by decide) rfl (fun ls hl => ?_)
              refine lv_goto (tgt := 14) hx hb dX4_nextOnes_88 (by decide) ?_
              exact ih x3_45 x4_33 x5_47 o_31 hf _ _ hP hD hS _ (lv_sub hl [3, 4, 5, 1, 6, 0] rfl) hX_31
            · have hf := xb_f c_46 hf
              refine lv_iload hx hb dX4_nextOnes_76 (lv_at hl 5 rfl) ?_
              refine lv_iconst (v := (1 : Int32)) hx hb dX4_nextOnes_78 (by decide) ?_
              refine lv_iload hx hb dX4_nextOnes_79 (lv_at hl 6 rfl) ?_
              refine lv_ishl hx hb dX4_nextOnes_81 ?_
              refine lv_ior hx hb dX4_nextOnes_82 ?_
              refine lv_topi (fun x4_48 ex4_48 => ?_)
              have hf := nm_nm ex4_48 hf
              refine lv_istore (lv' := [(4, .int x4_48), (3, .int x3_45), (6, .int x6_39), (0, .int x0), (1, .ref aP), (2, .int r_2), (5, .int x5_34)]) hx hb dX4_nextOnes_83 hl (by decide) rfl (fun ls hl => ?_)
              obtain ⟨x5_49, ex5_49⟩ : ∃ y : Int32, y = x5_34 + (1 : Int32) := ⟨_, rfl⟩
              have hf := nm_nm ex5_49 hf
              refine lv_iinc (v := x5_49) (lv' := [(5, .int x5_49), (4, .int x4_48), (3, .int x3_45), (6, .int x6_39), (0, .int x0), (1, .ref aP), (2, .int r_2)]) hx hb dX4_nextOnes_85 hl (k := 6) rfl (by rw [ex5_49]; rfl) (by decide) rfl (fun ls hl => ?_)
              refine lv_goto (tgt := 14) hx hb dX4_nextOnes_88 (by decide) ?_
              exact ih x3_45 x4_48 x5_49 o_31 hf _ _ hP hD hS _ (lv_sub hl [4, 5, 6, 2, 1, 0] rfl) hX_31
  obtain ⟨o_31, ho_31, hk_31⟩ := bn2_s hf
  refine L_14_31 n (0 : Int32) (0 : Int32) (0 : Int32) o_31 ho_31 _ _ (hP.sub [1, 2, 0] rfl) (hD.sub [1, 2, 0] (by decide) rfl) hS _ (lv_sub hl [4, 5, 3, 2, 1, 0] rfl) (fun x3_35 x4_36 hf H locs hP hD hS ls hl => ?_)
  have hf := hk_31 _ _ hf
  refine lv_iload hx hb dX4_nextOnes_91 (lv_at hl 1 rfl) ?_
  refine lv_if_eq (tgt := 101) hx hb dX4_nextOnes_93 (by decide) (fun c_50 => ?_) (fun c_50 => ?_)
  · have hf := xb_t c_50 hf
    refine lv_iload_n hx hb dX4_nextOnes_101 rfl (lv_at hl 0 rfl) ?_
    have hf := Option.some.inj hf
    subst hf
    exact x_iret (fun _ => 0) hQ hx hb hr hlk hK hP hD hS dX4_nextOnes_102
  · have hf := xb_f c_50 hf
    refine lv_iload hx hb dX4_nextOnes_96 (lv_at hl 1 rfl) ?_
    refine lv_goto (tgt := 102) hx hb dX4_nextOnes_98 (by decide) ?_
    have hf := Option.some.inj hf
    subst hf
    exact x_iret (fun _ => 0) hQ hx hb hr hlk hK hP hD hS dX4_nextOnes_102
