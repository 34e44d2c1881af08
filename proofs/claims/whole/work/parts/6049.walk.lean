abbrev rm_f_Planner_variablesOf : Room := { frames := 1, cells := 0, slots := 0, locals := 21 }
set_option maxHeartbeats 4000000 in
set_option maxRecDepth 100000 in
theorem c_f_Planner_variablesOf (l : Launch) (D : va_G) (cI cJ cZ : ClassId) (sz : Nat) (n : Nat) (x0 : Int32) (aP : Nat) (aP_slots : Nat) (aP_termsSeen : Nat) (aP_matches : Nat) (aP_matchCount : Nat) (aP_variables : Nat) (aP_havingVariable : Nat) (aP_told : Nat) (aP_parent : Nat) (aP_allBefore : Nat) (P_required : Int32) (P_hinted : Int32) (P_count : Int32) (P_variables : Nat → Int32) {r : Int32} (hf : f_Planner_variablesOf n x0 P_count P_variables = some r) : Met l yX4_variablesOf (.code yX4_variablesOf cX4_variablesOf 4 (some .int) :: GW) rm_f_Planner_variablesOf (va_Pc [.int x0, .ref aP] (xP D (xT cI cJ cZ) sz [(aP, .inr (2, [.ref aP_slots, .ref aP_termsSeen, .ref aP_matches, .ref aP_matchCount, .ref aP_variables, .ref aP_havingVariable, .ref aP_told, .ref aP_parent, .ref aP_allBefore, .int P_required, .int P_hinted, .int P_count])), (aP_variables, .inl (cI, 8, .inl P_variables))])) (va_Qi (fun r2 (_ : Nat → Nat) => r2 = r) (bB D (xT cI cJ cZ) (fun _ => [(aP, .inr (2, [.ref aP_slots, .ref aP_termsSeen, .ref aP_matches, .ref aP_matchCount, .ref aP_variables, .ref aP_havingVariable, .ref aP_told, .ref aP_parent, .ref aP_allBefore, .int P_required, .int P_hinted, .int P_count])), (aP_variables, .inl (cI, 8, .inl P_variables))]) (va_A [(aP, .inr (2, [.ref aP_slots, .ref aP_termsSeen, .ref aP_matches, .ref aP_matchCount, .ref aP_variables, .ref aP_havingVariable, .ref aP_told, .ref aP_parent, .ref aP_allBefore, .int P_required, .int P_hinted, .int P_count])), (aP_variables, .inl (cI, 8, .inl P_variables))] sz)) (va_A [(aP, .inr (2, [.ref aP_slots, .ref aP_termsSeen, .ref aP_matches, .ref aP_matchCount, .ref aP_variables, .ref aP_havingVariable, .ref aP_told, .ref aP_parent, .ref aP_allBefore, .int P_required, .int P_hinted, .int P_count])), (aP_variables, .inl (cI, 8, .inl P_variables))] sz)) 0 0 (va_A [(aP, .inr (2, [.ref aP_slots, .ref aP_termsSeen, .ref aP_matches, .ref aP_matchCount, .ref aP_variables, .ref aP_havingVariable, .ref aP_told, .ref aP_parent, .ref aP_allBefore, .int P_required, .int P_hinted, .int P_count])), (aP_variables, .inl (cI, 8, .inl P_variables))] sz) := by
  refine con_start (y := yX4_variablesOf) (bytes := cX4_variablesOf) (maxL := 4) (av := [.int x0, .ref aP]) (Qc := fun A => va_Qi (fun r2 (_ : Nat → Nat) => r2 = r) (bB D (xT cI cJ cZ) (fun _ => [(aP, .inr (2, [.ref aP_slots, .ref aP_termsSeen, .ref aP_matches, .ref aP_matchCount, .ref aP_variables, .ref aP_havingVariable, .ref aP_told, .ref aP_parent, .ref aP_allBefore, .int P_required, .int P_hinted, .int P_count])), (aP_variables, .inl (cI, 8, .inl P_variables))]) A) A) (by decide) (Nat.le_of_ble_eq_true rfl) ?_
  intro p e s m args below meth c Q A hx hb hr hlk hml hown hin htg hN hK hQ hA hP hD hS ls hl
  have hl : lv_has ls 4 [(0, .int x0), (1, .ref aP)] := hl
  have hown : s.vm.findClass RX4 = some m.cls := hown
  have hf := (f_Planner_variablesOf_u n x0 P_count P_variables).symm.trans hf
  refine lv_iconst (v := (0 : Int32)) hx hb dX4_variablesOf_0 (by decide) ?_
  refine lv_istore_n (lv' := [(2, .int (0 : Int32)), (0, .int x0), (1, .ref aP)]) hx hb dX4_variablesOf_1 rfl hl (by decide) rfl (fun ls hl => ?_)
  refine lv_iconst (v := (0 : Int32)) hx hb dX4_variablesOf_2 (by decide) ?_
  refine lv_istore_n (lv' := [(3, .int (0 : Int32)), (2, .int (0 : Int32)), (0, .int x0), (1, .ref aP)]) hx hb dX4_variablesOf_3 rfl hl (by decide) rfl (fun ls hl => ?_)
  have L_4_16 : ∀ (k : Nat) (x2_17 : Int32) (x3_18 : Int32) (o_16 : Int32), f_Planner_variablesOf_L0 n x0 P_count P_variables k x2_17 x3_18 = some o_16 → ∀ (H : Heap) (locs : List Loc), va_P D vwCl [(aP, .inr (2, [.ref aP_slots, .ref aP_termsSeen, .ref aP_matches, .ref aP_matchCount, .ref aP_variables, .ref aP_havingVariable, .ref aP_told, .ref aP_parent, .ref aP_allBefore, .int P_required, .int P_hinted, .int P_count])), (aP_variables, .inl (cI, 8, .inl P_variables))] H → va_D A [(aP, .inr (2, [.ref aP_slots, .ref aP_termsSeen, .ref aP_matches, .ref aP_matchCount, .ref aP_variables, .ref aP_havingVariable, .ref aP_told, .ref aP_parent, .ref aP_allBefore, .int P_required, .int P_hinted, .int P_count])), (aP_variables, .inl (cI, 8, .inl P_variables))] → va_S A s.heap H locs → ∀ ls : Array Slot, lv_has ls 4 [(0, .int x0), (1, .ref aP), (2, .int x2_17), (3, .int x3_18)] → (∀ (x2_19 : Int32), some (x2_19) = some o_16 → ∀ (H : Heap) (locs : List Loc), va_P D vwCl [(aP, .inr (2, [.ref aP_slots, .ref aP_termsSeen, .ref aP_matches, .ref aP_matchCount, .ref aP_variables, .ref aP_havingVariable, .ref aP_told, .ref aP_parent, .ref aP_allBefore, .int P_required, .int P_hinted, .int P_count])), (aP_variables, .inl (cI, 8, .inl P_variables))] H → va_D A [(aP, .inr (2, [.ref aP_slots, .ref aP_termsSeen, .ref aP_matches, .ref aP_matchCount, .ref aP_variables, .ref aP_havingVariable, .ref aP_told, .ref aP_parent, .ref aP_allBefore, .int P_required, .int P_hinted, .int P_count])), (aP_variables, .inl (cI, 8, .inl P_variables))] → va_S A s.heap H locs → ∀ ls : Array Slot, lv_has ls 4 [(2, .int x2_19)] → W p l e rm_f_Planner_variablesOf s m args below meth c H locs 0 0 Q (F0 m 35 ls [])) → W p l e rm_f_Planner_variablesOf s m args below meth c H locs 0 0 Q (F0 m 4 ls []) := by
    intro k
    induction k with
    | zero =>
      intro x2_17 x3_18 o_16 hf
      exact absurd (((f_Planner_variablesOf_L0_z n x0 P_count P_variables x2_17 x3_18).symm.trans hf)) (fun h => by cases h)
    | succ k ih =>
      intro x2_17 x3_18 o_16 hf H locs hP hD hS ls hl hX_16
      have hf := (f_Planner_variablesOf_L0_s n x0 P_count P_variables k x2_17 x3_18).symm.trans hf
      refine lv_iload_n hx hb dX4_variablesOf_4 rfl (lv_at hl 3 rfl) ?_
      refine lv_aload_n hx hb dX4_variablesOf_5 rfl (lv_at hl 1 rfl) ?_
      refine va_getN (D := D) (ci := 2) (v := .int P_count) (C := RX2) (T := TX2) (N := 12) hx hb htg giX2 hown hK hP 0 rfl rfl 11 (by decide) (va_Nw.use rfl (hN _ kn_63)) (fun _ h9 => h9) rfl dX4_variablesOf_6 ?_
      refine lv_icmp_ge (tgt := 35) hx hb dX4_variablesOf_9 (by decide) (fun c_20 => ?_) (fun c_20 => ?_)
      · have hf := xb_t c_20 hf
        exact hX_16 x2_17 hf _ _ hP hD hS _ (lv_sub hl [2] rfl)
      · have hf := xb_f c_20 hf
        refine lv_iload_n hx hb dX4_variablesOf_12 rfl (lv_at hl 0 rfl) ?_
        refine lv_iload_n hx hb dX4_variablesOf_13 rfl (lv_at hl 3 rfl) ?_
        refine x_z (xrSN (As := [.int x0, .int x3_18]) (rest := []) ⟨hx, hb, hml, hown, htg⟩ (c_f_JoinOrder_inSet l D cI cJ cZ _ x0 x3_18 rfl) kc_f_JoinOrder_inSet kn_385 kw_306 kw_1 dd_f_JoinOrder_inSet ⟨Nat.le_of_ble_eq_true rfl, Nat.le_of_ble_eq_true rfl⟩ rfl rfl (hP.sub [] rfl) (hD.sub [] (by decide) rfl) hK hN rfl hl.1 rfl (Nat.le_of_ble_eq_true rfl) dX4_variablesOf_14 ⟨Nat.le_of_ble_eq_true rfl, Nat.le_of_ble_eq_true rfl⟩) hP hD hS hA [] [0, 1] rfl rfl (by decide) (by decide) (fun _ H locs bz_21 hP hD hS => ?_)
        have hP : va_P D vwCl [(aP, .inr (2, [.ref aP_slots, .ref aP_termsSeen, .ref aP_matches, .ref aP_matchCount, .ref aP_variables, .ref aP_havingVariable, .ref aP_told, .ref aP_parent, .ref aP_allBefore, .int P_required, .int P_hinted, .int P_count])), (aP_variables, .inl (cI, 8, .inl P_variables))] H := hP
        have hD : va_D A [(aP, .inr (2, [.ref aP_slots, .ref aP_termsSeen, .ref aP_matches, .ref aP_matchCount, .ref aP_variables, .ref aP_havingVariable, .ref aP_told, .ref aP_parent, .ref aP_allBefore, .int P_required, .int P_hinted, .int P_count])), (aP_variables, .inl (cI, 8, .inl P_variables))] := hD
        refine lv_if_eq (tgt := 29) hx hb dX4_variablesOf_17 (by decide) (fun c_22 => ?_) (fun c_22 => ?_)
        · have hf := xb_t c_22 hf
          obtain ⟨x3_23, ex3_23⟩ : ∃ y : Int32, y = x3_18 + (1 : Int32) := ⟨_, rfl⟩
          have hf := nm_nm ex3_23 hf
          refine lv_iinc (v := x3_23) (lv' := [(3, .int x3_23), (0, .int x0), (1, .ref aP), (2, .int x2_17)]) hx hb dX4_variablesOf_29 hl (k := 3) rfl (by rw [ex3_23]; rfl) (by decide) rfl (fun ls hl => ?_)
          refine lv_goto (tgt := 4) hx hb dX4_variablesOf_32 (by decide) ?_
          exact ih x2_17 x3_23 o_16 hf _ _ hP hD hS _ (lv_sub hl [1, 2, 3, 0] rfl) hX_16
        · have hf := xb_f c_22 hf
          refine lv_iload_n hx hb dX4_variablesOf_20 rfl (lv_at hl 2 rfl) ?_
          refine lv_aload_n hx hb dX4_variablesOf_21 rfl (lv_at hl 1 rfl) ?_
          refine va_getN (D := D) (ci := 2) (v := .ref aP_variables) (C := RX2) (T := TX2) (N := 12) hx hb htg giX2 hown hK hP 0 rfl rfl 4 (by decide) (va_Nw.use rfl (hN _ kn_50)) (fun _ h9 => h9) rfl dX4_variablesOf_22 ?_
          refine lv_iload_n hx hb dX4_variablesOf_25 rfl (lv_at hl 3 rfl) ?_
          have g_24 : vp_in x3_18 8 := gd_in hf
          have hf := gd_el hf
          refine va_iald hx hb hK hP 1 0 rfl rfl g_24 dX4_variablesOf_26 ?_
          refine lv_ior hx hb dX4_variablesOf_27 ?_
          refine lv_topi (fun x2_25 ex2_25 => ?_)
          have hf := nm_nm ex2_25 hf
          refine lv_istore_n (lv' := [(2, .int x2_25), (0, .int x0), (1, .ref aP), (3, .int x3_18)]) hx hb dX4_variablesOf_28 rfl hl (by decide) rfl (fun ls hl => ?_)
          obtain ⟨x3_26, ex3_26⟩ : ∃ y : Int32, y = x3_18 + (1 : Int32) := ⟨_, rfl⟩
          have hf := nm_nm ex3_26 hf
          refine lv_iinc (v := x3_26) (lv' := [(3, .int x3_26), (2, .int x2_25), (0, .int x0), (1, .ref aP)]) hx hb dX4_variablesOf_29 hl (k := 3) rfl (by rw [ex3_26]; rfl) (by decide) rfl (fun ls hl => ?_)
          refine lv_goto (tgt := 4) hx hb dX4_variablesOf_32 (by decide) ?_
          exact ih x2_25 x3_26 o_16 hf _ _ hP hD hS _ (lv_sub hl [2, 3, 1, 0] rfl) hX_16
  obtain ⟨o_16, ho_16, hk_16⟩ := bn1_s hf
  refine L_4_16 n (0 : Int32) (0 : Int32) o_16 ho_16 _ _ hP hD hS _ (lv_sub hl [2, 3, 1, 0] rfl) (fun x2_19 hf H locs hP hD hS ls hl => ?_)
  have hf := hk_16 _ hf
  refine lv_iload_n hx hb dX4_variablesOf_35 rfl (lv_at hl 0 rfl) ?_
  have hf := Option.some.inj hf
  subst hf
  exact x_iret (fun _ => 0) hQ hx hb hr hlk hK hP hD hS dX4_variablesOf_36
