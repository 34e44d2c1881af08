abbrev rm_f_Plan_firstBinding : Room := { frames := 2, cells := 0, slots := 0, locals := 42 }
set_option maxHeartbeats 4000000 in
set_option maxRecDepth 100000 in
theorem c_f_Plan_firstBinding (l : Launch) (D : va_G) (cI cJ cZ : ClassId) (sz : Nat) (n : Nat) (aM : Nat) (x1 : Int32) (aP : Nat) (aM_order : Nat) (aM_joins : Nat) (aM_acting : Nat) (aM_estimates : Nat) (aM_actsBehind : Nat) (M_steps : Int32) (M_filters : Int32) (M_order : Nat → Int32) (aP_slots : Nat) (aP_termsSeen : Nat) (aP_matches : Nat) (aP_matchCount : Nat) (aP_variables : Nat) (aP_havingVariable : Nat) (aP_told : Nat) (aP_parent : Nat) (aP_allBefore : Nat) (P_required : Int32) (P_hinted : Int32) (P_count : Int32) (P_variables : Nat → Int32) {r : Int32} (hf : f_Plan_firstBinding n x1 M_steps M_order P_required P_variables = some r) : Met l yX3_firstBinding (.code yX3_firstBinding cX3_firstBinding 5 (some .int) :: GW) rm_f_Plan_firstBinding (va_Pc [.ref aM, .int x1, .ref aP] (xP D (xT cI cJ cZ) sz [(aM, .inr (3, [.ref aM_order, .ref aM_joins, .ref aM_acting, .ref aM_estimates, .ref aM_actsBehind, .int M_steps, .int M_filters])), (aM_order, .inl (cI, 8, .inl M_order)), (aP, .inr (2, [.ref aP_slots, .ref aP_termsSeen, .ref aP_matches, .ref aP_matchCount, .ref aP_variables, .ref aP_havingVariable, .ref aP_told, .ref aP_parent, .ref aP_allBefore, .int P_required, .int P_hinted, .int P_count])), (aP_variables, .inl (cI, 8, .inl P_variables))])) (va_Qi (fun r2 (_ : Nat → Nat) => r2 = r) (bB D (xT cI cJ cZ) (fun _ => [(aM, .inr (3, [.ref aM_order, .ref aM_joins, .ref aM_acting, .ref aM_estimates, .ref aM_actsBehind, .int M_steps, .int M_filters])), (aM_order, .inl (cI, 8, .inl M_order)), (aP, .inr (2, [.ref aP_slots, .ref aP_termsSeen, .ref aP_matches, .ref aP_matchCount, .ref aP_variables, .ref aP_havingVariable, .ref aP_told, .ref aP_parent, .ref aP_allBefore, .int P_required, .int P_hinted, .int P_count])), (aP_variables, .inl (cI, 8, .inl P_variables))]) (va_A [(aM, .inr (3, [.ref aM_order, .ref aM_joins, .ref aM_acting, .ref aM_estimates, .ref aM_actsBehind, .int M_steps, .int M_filters])), (aM_order, .inl (cI, 8, .inl M_order)), (aP, .inr (2, [.ref aP_slots, .ref aP_termsSeen, .ref aP_matches, .ref aP_matchCount, .ref aP_variables, .ref aP_havingVariable, .ref aP_told, .ref aP_parent, .ref aP_allBefore, .int P_required, .int P_hinted, .int P_count])), (aP_variables, .inl (cI, 8, .inl P_variables))] sz)) (va_A [(aM, .inr (3, [.ref aM_order, .ref aM_joins, .ref aM_acting, .ref aM_estimates, .ref aM_actsBehind, .int M_steps, .int M_filters])), (aM_order, .inl (cI, 8, .inl M_order)), (aP, .inr (2, [.ref aP_slots, .ref aP_termsSeen, .ref aP_matches, .ref aP_matchCount, .ref aP_variables, .ref aP_havingVariable, .ref aP_told, .ref aP_parent, .ref aP_allBefore, .int P_required, .int P_hinted, .int P_count])), (aP_variables, .inl (cI, 8, .inl P_variables))] sz)) 0 0 (va_A [(aM, .inr (3, [.ref aM_order, .ref aM_joins, .ref aM_acting, .ref aM_estimates, .ref aM_actsBehind, .int M_steps, .int M_filters])), (aM_order, .inl (cI, 8, .inl M_order)), (aP, .inr (2, [.ref aP_slots, .ref aP_termsSeen, .ref aP_matches, .ref aP_matchCount, .ref aP_variables, .ref aP_havingVariable, .ref aP_told, .ref aP_parent, .ref aP_allBefore, .int P_required, .int P_hinted, .int P_count])), (aP_variables, .inl (cI, 8, .inl P_variables))] sz) := by
  refine con_start (y := yX3_firstBinding) (bytes := cX3_firstBinding) (maxL := 5) (av := [.ref aM, .int x1, .ref aP]) (Qc := fun A => va_Qi (fun r2 (_ : Nat → Nat) => r2 = r) (bB D (xT cI cJ cZ) (fun _ => [(aM, .inr (3, [.ref aM_order, .ref aM_joins, .ref aM_acting, .ref aM_estimates, .ref aM_actsBehind, .int M_steps, .int M_filters])), (aM_order, .inl (cI, 8, .inl M_order)), (aP, .inr (2, [.ref aP_slots, .ref aP_termsSeen, .ref aP_matches, .ref aP_matchCount, .ref aP_variables, .ref aP_havingVariable, .ref aP_told, .ref aP_parent, .ref aP_allBefore, .int P_required, .int P_hinted, .int P_count])), (aP_variables, .inl (cI, 8, .inl P_variables))]) A) A) (by decide) (Nat.le_of_ble_eq_true rfl) ?_
  intro p e s m args below meth c Q A hx hb hr hlk hml hown hin htg hN hK hQ hA hP hD hS ls hl
  have hl : lv_has ls 5 [(0, .ref aM), (1, .int x1), (2, .ref aP)] := hl
  have hown : s.vm.findClass RX3 = some m.cls := hown
  have hf := (f_Plan_firstBinding_u n x1 M_steps M_order P_required P_variables).symm.trans hf
  refine lv_iconst (v := (0 : Int32)) hx hb dX3_firstBinding_0 (by decide) ?_
  refine lv_istore_n (lv' := [(3, .int (0 : Int32)), (0, .ref aM), (1, .int x1), (2, .ref aP)]) hx hb dX3_firstBinding_1 rfl hl (by decide) rfl (fun ls hl => ?_)
  have L_2_21 : ∀ (k : Nat) (x3_22 : Int32) (o_21 : (Int32 ⊕ Unit)), f_Plan_firstBinding_L0 n x1 M_steps M_order P_required P_variables k x3_22 = some o_21 → (∀ z : Int32, some (Sum.inl z) = some o_21 → z = r) → ∀ (H : Heap) (locs : List Loc), va_P D vwCl [(aM, .inr (3, [.ref aM_order, .ref aM_joins, .ref aM_acting, .ref aM_estimates, .ref aM_actsBehind, .int M_steps, .int M_filters])), (aM_order, .inl (cI, 8, .inl M_order)), (aP, .inr (2, [.ref aP_slots, .ref aP_termsSeen, .ref aP_matches, .ref aP_matchCount, .ref aP_variables, .ref aP_havingVariable, .ref aP_told, .ref aP_parent, .ref aP_allBefore, .int P_required, .int P_hinted, .int P_count])), (aP_variables, .inl (cI, 8, .inl P_variables))] H → va_D A [(aM, .inr (3, [.ref aM_order, .ref aM_joins, .ref aM_acting, .ref aM_estimates, .ref aM_actsBehind, .int M_steps, .int M_filters])), (aM_order, .inl (cI, 8, .inl M_order)), (aP, .inr (2, [.ref aP_slots, .ref aP_termsSeen, .ref aP_matches, .ref aP_matchCount, .ref aP_variables, .ref aP_havingVariable, .ref aP_told, .ref aP_parent, .ref aP_allBefore, .int P_required, .int P_hinted, .int P_count])), (aP_variables, .inl (cI, 8, .inl P_variables))] → va_S A s.heap H locs → ∀ ls : Array Slot, lv_has ls 5 [(0, .ref aM), (1, .int x1), (2, .ref aP), (3, .int x3_22)] → (some (Sum.inr ()) = some o_21 → ∀ (H : Heap) (locs : List Loc), va_P D vwCl [(aM, .inr (3, [.ref aM_order, .ref aM_joins, .ref aM_acting, .ref aM_estimates, .ref aM_actsBehind, .int M_steps, .int M_filters])), (aM_order, .inl (cI, 8, .inl M_order)), (aP, .inr (2, [.ref aP_slots, .ref aP_termsSeen, .ref aP_matches, .ref aP_matchCount, .ref aP_variables, .ref aP_havingVariable, .ref aP_told, .ref aP_parent, .ref aP_allBefore, .int P_required, .int P_hinted, .int P_count])), (aP_variables, .inl (cI, 8, .inl P_variables))] H → va_D A [(aM, .inr (3, [.ref aM_order, .ref aM_joins, .ref aM_acting, .ref aM_estimates, .ref aM_actsBehind, .int M_steps, .int M_filters])), (aM_order, .inl (cI, 8, .inl M_order)), (aP, .inr (2, [.ref aP_slots, .ref aP_termsSeen, .ref aP_matches, .ref aP_matchCount, .ref aP_variables, .ref aP_havingVariable, .ref aP_told, .ref aP_parent, .ref aP_allBefore, .int P_required, .int P_hinted, .int P_count])), (aP_variables, .inl (cI, 8, .inl P_variables))] → va_S A s.heap H locs → ∀ ls : Array Slot, lv_has ls 5 [(0, .ref aM)] → W p l e rm_f_Plan_firstBinding s m args below meth c H locs 0 0 Q (F0 m 49 ls [])) → W p l e rm_f_Plan_firstBinding s m args below meth c H locs 0 0 Q (F0 m 2 ls []) := by
    intro k
    induction k with
    | zero =>
      intro x3_22 o_21 hf
      exact absurd (((f_Plan_firstBinding_L0_z n x1 M_steps M_order P_required P_variables x3_22).symm.trans hf)) (fun h => by cases h)
    | succ k ih =>
      intro x3_22 o_21 hf hret_21 H locs hP hD hS ls hl hX_21
      have hf := (f_Plan_firstBinding_L0_s n x1 M_steps M_order P_required P_variables k x3_22).symm.trans hf
      refine lv_iload_n hx hb dX3_firstBinding_2 rfl (lv_at hl 3 rfl) ?_
      refine lv_aload_n hx hb dX3_firstBinding_3 rfl (lv_at hl 0 rfl) ?_
      refine va_get (D := D) (ci := 3) (v := .int M_steps) (C := RX3) (T := TX3) (N := 7) hx hb htg giX3 hown hK hP 0 rfl rfl 5 (by decide) (htg _ kw_155) (fun _ h9 => h9) rfl dX3_firstBinding_4 ?_
      refine lv_icmp_ge (tgt := 49) hx hb dX3_firstBinding_7 (by decide) (fun c_23 => ?_) (fun c_23 => ?_)
      · have hf := xb_t c_23 hf
        exact hX_21  hf _ _ hP hD hS _ (lv_sub hl [0] rfl)
      · have hf := xb_f c_23 hf
        refine lv_aload_n hx hb dX3_firstBinding_10 rfl (lv_at hl 0 rfl) ?_
        refine va_get (D := D) (ci := 3) (v := .ref aM_order) (C := RX3) (T := TX3) (N := 7) hx hb htg giX3 hown hK hP 0 rfl rfl 0 (by decide) (htg _ kw_142) (fun _ h9 => h9) rfl dX3_firstBinding_11 ?_
        refine lv_iload_n hx hb dX3_firstBinding_14 rfl (lv_at hl 3 rfl) ?_
        have g_24 : vp_in x3_22 8 := gd_in hf
        have hf := gd_el hf
        refine va_iald hx hb hK hP 1 0 rfl rfl g_24 dX3_firstBinding_15 ?_
        refine lv_topi (fun x4_25 ex4_25 => ?_)
        have hf := nm_nm ex4_25 hf
        refine lv_istore (lv' := [(4, .int x4_25), (0, .ref aM), (1, .int x1), (2, .ref aP), (3, .int x3_22)]) hx hb dX3_firstBinding_16 hl (by decide) rfl (fun ls hl => ?_)
        refine lv_aload_n hx hb dX3_firstBinding_18 rfl (lv_at hl 3 rfl) ?_
        refine lv_iload hx hb dX3_firstBinding_19 (lv_at hl 0 rfl) ?_
        refine x_z (xrV (As := [.int x4_25]) (b := aP) (rest := []) ⟨hx, hb, hml, hown, htg⟩ (c_f_Patterns_isRequired l D cI cJ cZ _ aP x4_25 aP_slots aP_termsSeen aP_matches aP_matchCount aP_variables aP_havingVariable aP_told aP_parent aP_allBefore P_required P_hinted P_count rfl) kc_f_Patterns_isRequired kw_444 kw_302 kw_303 kw_3 dd_f_Patterns_isRequired ⟨Nat.le_of_ble_eq_true rfl, Nat.le_of_ble_eq_true rfl⟩ rfl rfl (hP.sub [2] rfl) (hD.sub [2] (by decide) rfl) hK hN hP (q0 := 2) rfl rfl rfl hl.1 rfl (Nat.le_of_ble_eq_true rfl) dX3_firstBinding_21 ⟨Nat.le_of_ble_eq_true rfl, Nat.le_of_ble_eq_true rfl⟩) hP hD hS hA [2] [0, 1, 3] rfl rfl (by decide) (by decide) (fun _ H locs bz_26 hP hD hS => ?_)
        have hP : va_P D vwCl [(aM, .inr (3, [.ref aM_order, .ref aM_joins, .ref aM_acting, .ref aM_estimates, .ref aM_actsBehind, .int M_steps, .int M_filters])), (aM_order, .inl (cI, 8, .inl M_order)), (aP_variables, .inl (cI, 8, .inl P_variables)), (aP, .inr (2, [.ref aP_slots, .ref aP_termsSeen, .ref aP_matches, .ref aP_matchCount, .ref aP_variables, .ref aP_havingVariable, .ref aP_told, .ref aP_parent, .ref aP_allBefore, .int P_required, .int P_hinted, .int P_count]))] H := hP
        have hD : va_D A [(aM, .inr (3, [.ref aM_order, .ref aM_joins, .ref aM_acting, .ref aM_estimates, .ref aM_actsBehind, .int M_steps, .int M_filters])), (aM_order, .inl (cI, 8, .inl M_order)), (aP_variables, .inl (cI, 8, .inl P_variables)), (aP, .inr (2, [.ref aP_slots, .ref aP_termsSeen, .ref aP_matches, .ref aP_matchCount, .ref aP_variables, .ref aP_havingVariable, .ref aP_told, .ref aP_parent, .ref aP_allBefore, .int P_required, .int P_hinted, .int P_count]))] := hD
        refine lv_if_eq (tgt := 43) hx hb dX3_firstBinding_24 (by decide) (fun c_27 => ?_) (fun c_27 => ?_)
        · have hf := xb_t c_27 hf
          obtain ⟨x3_28, ex3_28⟩ : ∃ y : Int32, y = x3_22 + (1 : Int32) := ⟨_, rfl⟩
          have hf := nm_nm ex3_28 hf
          refine lv_iinc (v := x3_28) (lv' := [(3, .int x3_28), (4, .int x4_25), (0, .ref aM), (1, .int x1), (2, .ref aP)]) hx hb dX3_firstBinding_43 hl (k := 4) rfl (by rw [ex3_28]; rfl) (by decide) rfl (fun ls hl => ?_)
          refine lv_goto (tgt := 2) hx hb dX3_firstBinding_46 (by decide) ?_
          exact ih x3_28 o_21 hf hret_21 _ _ (hP.sub [0, 1, 3, 2] rfl) (hD.sub [0, 1, 3, 2] (by decide) rfl) hS _ (lv_sub hl [2, 3, 4, 0] rfl) hX_21
        · have hf := xb_f c_27 hf
          refine lv_aload_n hx hb dX3_firstBinding_27 rfl (lv_at hl 3 rfl) ?_
          refine va_getN (D := D) (ci := 2) (v := .ref aP_variables) (C := RX2) (T := TX2) (N := 12) hx hb htg giX2 hown hK hP 3 rfl rfl 4 (by decide) (va_Nw.use rfl (hN _ kn_49)) (fun _ h9 => h9) rfl dX3_firstBinding_28 ?_
          refine lv_iload hx hb dX3_firstBinding_31 (lv_at hl 0 rfl) ?_
          have g_29 : vp_in x4_25 8 := gd_in hf
          have hf := gd_el hf
          refine va_iald hx hb hK hP 2 0 rfl rfl g_29 dX3_firstBinding_33 ?_
          refine lv_iload_n hx hb dX3_firstBinding_34 rfl (lv_at hl 2 rfl) ?_
          refine x_z (xrSN (As := [.int (P_variables x4_25.toNatClampNeg), .int x1]) (rest := []) ⟨hx, hb, hml, hown, htg⟩ (c_f_JoinOrder_inSet l D cI cJ cZ _ (P_variables x4_25.toNatClampNeg) x1 rfl) kc_f_JoinOrder_inSet kn_439 kw_306 kw_1 dd_f_JoinOrder_inSet ⟨Nat.le_of_ble_eq_true rfl, Nat.le_of_ble_eq_true rfl⟩ rfl rfl (hP.sub [] rfl) (hD.sub [] (by decide) rfl) hK hN rfl hl.1 rfl (Nat.le_of_ble_eq_true rfl) dX3_firstBinding_35 ⟨Nat.le_of_ble_eq_true rfl, Nat.le_of_ble_eq_true rfl⟩) hP hD hS hA [] [0, 1, 2, 3] rfl rfl (by decide) (by decide) (fun _ H locs bz_30 hP hD hS => ?_)
          have hP : va_P D vwCl [(aM, .inr (3, [.ref aM_order, .ref aM_joins, .ref aM_acting, .ref aM_estimates, .ref aM_actsBehind, .int M_steps, .int M_filters])), (aM_order, .inl (cI, 8, .inl M_order)), (aP_variables, .inl (cI, 8, .inl P_variables)), (aP, .inr (2, [.ref aP_slots, .ref aP_termsSeen, .ref aP_matches, .ref aP_matchCount, .ref aP_variables, .ref aP_havingVariable, .ref aP_told, .ref aP_parent, .ref aP_allBefore, .int P_required, .int P_hinted, .int P_count]))] H := hP
          have hD : va_D A [(aM, .inr (3, [.ref aM_order, .ref aM_joins, .ref aM_acting, .ref aM_estimates, .ref aM_actsBehind, .int M_steps, .int M_filters])), (aM_order, .inl (cI, 8, .inl M_order)), (aP_variables, .inl (cI, 8, .inl P_variables)), (aP, .inr (2, [.ref aP_slots, .ref aP_termsSeen, .ref aP_matches, .ref aP_matchCount, .ref aP_variables, .ref aP_havingVariable, .ref aP_told, .ref aP_parent, .ref aP_allBefore, .int P_required, .int P_hinted, .int P_count]))] := hD
          refine lv_if_eq (tgt := 43) hx hb dX3_firstBinding_38 (by decide) (fun c_31 => ?_) (fun c_31 => ?_)
          · have hf := xb_t c_31 hf
            obtain ⟨x3_32, ex3_32⟩ : ∃ y : Int32, y = x3_22 + (1 : Int32) := ⟨_, rfl⟩
            have hf := nm_nm ex3_32 hf
            refine lv_iinc (v := x3_32) (lv' := [(3, .int x3_32), (4, .int x4_25), (0, .ref aM), (1, .int x1), (2, .ref aP)]) hx hb dX3_firstBinding_43 hl (k := 4) rfl (by rw [ex3_32]; rfl) (by decide) rfl (fun ls hl => ?_)
            refine lv_goto (tgt := 2) hx hb dX3_firstBinding_46 (by decide) ?_
            exact ih x3_32 o_21 hf hret_21 _ _ (hP.sub [0, 1, 3, 2] rfl) (hD.sub [0, 1, 3, 2] (by decide) rfl) hS _ (lv_sub hl [2, 3, 4, 0] rfl) hX_21
          · have hf := xb_f c_31 hf
            refine lv_iload_n hx hb dX3_firstBinding_41 rfl (lv_at hl 4 rfl) ?_
            have hf := congrArg some (hret_21 _ hf)
            have hf := Option.some.inj hf
            subst hf
            exact x_iret (fun _ => 0) hQ hx hb hr hlk hK (hP.sub [0, 1, 3, 2] rfl) (hD.sub [0, 1, 3, 2] (by decide) rfl) hS dX3_firstBinding_42
  obtain ⟨o_21, ho_21, hret_21, hk_21⟩ := bd0_s hf
  refine L_2_21 n (0 : Int32) o_21 ho_21 hret_21 _ _ hP hD hS _ (lv_sub hl [1, 2, 3, 0] rfl) (fun  hf H locs hP hD hS ls hl => ?_)
  have hf := hk_21  hf
  refine lv_aload_n hx hb dX3_firstBinding_49 rfl (lv_at hl 0 rfl) ?_
  refine va_get (D := D) (ci := 3) (v := .int M_steps) (C := RX3) (T := TX3) (N := 7) hx hb htg giX3 hown hK hP 0 rfl rfl 5 (by decide) (htg _ kw_155) (fun _ h9 => h9) rfl dX3_firstBinding_50 ?_
  refine lv_iconst (v := (1 : Int32)) hx hb dX3_firstBinding_53 (by decide) ?_
  refine lv_isub hx hb dX3_firstBinding_54 ?_
  have hf := Option.some.inj hf
  subst hf
  exact x_iret (fun _ => 0) hQ hx hb hr hlk hK hP hD hS dX3_firstBinding_55
