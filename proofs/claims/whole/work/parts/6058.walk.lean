abbrev rm_f_Patterns_orderOptional : Room := { frames := 2, cells := 0, slots := 0, locals := 43 }
set_option maxHeartbeats 4000000 in
set_option maxRecDepth 100000 in
theorem c_f_Patterns_orderOptional (l : Launch) (D : va_G) (cI cJ cZ : ClassId) (sz : Nat) (n : Nat) (aP : Nat) (aZ : Nat) (x2 : Int32) (aP_slots : Nat) (aP_termsSeen : Nat) (aP_matches : Nat) (aP_matchCount : Nat) (aP_variables : Nat) (aP_havingVariable : Nat) (aP_told : Nat) (aP_parent : Nat) (aP_allBefore : Nat) (P_required : Int32) (P_hinted : Int32) (P_count : Int32) (P_parent : Nat → Int32) (Z : Nat → Int32) {Z' : Nat → Int32} (hf : f_Patterns_orderOptional n x2 P_required P_count P_parent Z = some Z') : Met l yX2_orderOptional (.code yX2_orderOptional cX2_orderOptional 6 none :: GW) rm_f_Patterns_orderOptional (va_Pc [.ref aP, .ref aZ, .int x2] (xP D (xT cI cJ cZ) sz [(aP, .inr (2, [.ref aP_slots, .ref aP_termsSeen, .ref aP_matches, .ref aP_matchCount, .ref aP_variables, .ref aP_havingVariable, .ref aP_told, .ref aP_parent, .ref aP_allBefore, .int P_required, .int P_hinted, .int P_count])), (aP_parent, .inl (cI, 8, .inl P_parent)), (aZ, .inl (cI, 8, .inl Z))])) (va_Qv (fun (_ : Nat → Nat) => True) (bB D (xT cI cJ cZ) (fun _ => [(aP, .inr (2, [.ref aP_slots, .ref aP_termsSeen, .ref aP_matches, .ref aP_matchCount, .ref aP_variables, .ref aP_havingVariable, .ref aP_told, .ref aP_parent, .ref aP_allBefore, .int P_required, .int P_hinted, .int P_count])), (aP_parent, .inl (cI, 8, .inl P_parent)), (aZ, .inl (cI, 8, .inl Z'))]) (va_A [(aP, .inr (2, [.ref aP_slots, .ref aP_termsSeen, .ref aP_matches, .ref aP_matchCount, .ref aP_variables, .ref aP_havingVariable, .ref aP_told, .ref aP_parent, .ref aP_allBefore, .int P_required, .int P_hinted, .int P_count])), (aP_parent, .inl (cI, 8, .inl P_parent)), (aZ, .inl (cI, 8, .inl Z))] sz)) (va_A [(aP, .inr (2, [.ref aP_slots, .ref aP_termsSeen, .ref aP_matches, .ref aP_matchCount, .ref aP_variables, .ref aP_havingVariable, .ref aP_told, .ref aP_parent, .ref aP_allBefore, .int P_required, .int P_hinted, .int P_count])), (aP_parent, .inl (cI, 8, .inl P_parent)), (aZ, .inl (cI, 8, .inl Z))] sz)) 0 0 (va_A [(aP, .inr (2, [.ref aP_slots, .ref aP_termsSeen, .ref aP_matches, .ref aP_matchCount, .ref aP_variables, .ref aP_havingVariable, .ref aP_told, .ref aP_parent, .ref aP_allBefore, .int P_required, .int P_hinted, .int P_count])), (aP_parent, .inl (cI, 8, .inl P_parent)), (aZ, .inl (cI, 8, .inl Z))] sz) := by
  refine con_start (y := yX2_orderOptional) (bytes := cX2_orderOptional) (maxL := 6) (av := [.ref aP, .ref aZ, .int x2]) (Qc := fun A => va_Qv (fun (_ : Nat → Nat) => True) (bB D (xT cI cJ cZ) (fun _ => [(aP, .inr (2, [.ref aP_slots, .ref aP_termsSeen, .ref aP_matches, .ref aP_matchCount, .ref aP_variables, .ref aP_havingVariable, .ref aP_told, .ref aP_parent, .ref aP_allBefore, .int P_required, .int P_hinted, .int P_count])), (aP_parent, .inl (cI, 8, .inl P_parent)), (aZ, .inl (cI, 8, .inl Z'))]) A) A) (by decide) (Nat.le_of_ble_eq_true rfl) ?_
  intro p e s m args below meth c Q A hx hb hr hlk hml hown hin htg hN hK hQ hA hP hD hS ls hl
  have hl : lv_has ls 6 [(0, .ref aP), (1, .ref aZ), (2, .int x2)] := hl
  have hown : s.vm.findClass RX2 = some m.cls := hown
  have hf := (f_Patterns_orderOptional_u n x2 P_required P_count P_parent Z).symm.trans hf
  refine lv_aload_n hx hb dX2_orderOptional_0 rfl (lv_at hl 0 rfl) ?_
  refine va_get (D := D) (ci := 2) (v := .int P_required) (C := RX2) (T := TX2) (N := 12) hx hb htg giX2 hown hK hP 0 rfl rfl 9 (by decide) (htg _ kw_60) (fun _ h9 => h9) rfl dX2_orderOptional_1 ?_
  refine lv_istore_n (lv' := [(3, .int P_required), (0, .ref aP), (1, .ref aZ), (2, .int x2)]) hx hb dX2_orderOptional_4 rfl hl (by decide) rfl (fun ls hl => ?_)
  refine lv_iload_n hx hb dX2_orderOptional_5 rfl (lv_at hl 3 rfl) ?_
  refine lv_istore (lv' := [(4, .int x2), (3, .int P_required), (0, .ref aP), (1, .ref aZ), (2, .int x2)]) hx hb dX2_orderOptional_6 hl (by decide) rfl (fun ls hl => ?_)
  have L_8_18 : ∀ (k : Nat) (Z_19 : Nat → Int32) (x3_20 : Int32) (x4_21 : Int32) (o_18 : (Nat → Int32)), f_Patterns_orderOptional_L0 n P_count P_parent k Z_19 x3_20 x4_21 = some o_18 → ∀ (H : Heap) (locs : List Loc), va_P D vwCl [(aP, .inr (2, [.ref aP_slots, .ref aP_termsSeen, .ref aP_matches, .ref aP_matchCount, .ref aP_variables, .ref aP_havingVariable, .ref aP_told, .ref aP_parent, .ref aP_allBefore, .int P_required, .int P_hinted, .int P_count])), (aP_parent, .inl (cI, 8, .inl P_parent)), (aZ, .inl (cI, 8, .inl Z_19))] H → va_D A [(aP, .inr (2, [.ref aP_slots, .ref aP_termsSeen, .ref aP_matches, .ref aP_matchCount, .ref aP_variables, .ref aP_havingVariable, .ref aP_told, .ref aP_parent, .ref aP_allBefore, .int P_required, .int P_hinted, .int P_count])), (aP_parent, .inl (cI, 8, .inl P_parent)), (aZ, .inl (cI, 8, .inl Z_19))] → va_S A s.heap H locs → ∀ ls : Array Slot, lv_has ls 6 [(0, .ref aP), (1, .ref aZ), (3, .int x3_20), (4, .int x4_21)] → (∀ (Z_22 : Nat → Int32), some (Z_22) = some o_18 → ∀ (H : Heap) (locs : List Loc), va_P D vwCl [(aP, .inr (2, [.ref aP_slots, .ref aP_termsSeen, .ref aP_matches, .ref aP_matchCount, .ref aP_variables, .ref aP_havingVariable, .ref aP_told, .ref aP_parent, .ref aP_allBefore, .int P_required, .int P_hinted, .int P_count])), (aP_parent, .inl (cI, 8, .inl P_parent)), (aZ, .inl (cI, 8, .inl Z_22))] H → va_D A [(aP, .inr (2, [.ref aP_slots, .ref aP_termsSeen, .ref aP_matches, .ref aP_matchCount, .ref aP_variables, .ref aP_havingVariable, .ref aP_told, .ref aP_parent, .ref aP_allBefore, .int P_required, .int P_hinted, .int P_count])), (aP_parent, .inl (cI, 8, .inl P_parent)), (aZ, .inl (cI, 8, .inl Z_22))] → va_S A s.heap H locs → ∀ ls : Array Slot, lv_has ls 6 [] → W p l e rm_f_Patterns_orderOptional s m args below meth c H locs 0 0 Q (F0 m 43 ls [])) → W p l e rm_f_Patterns_orderOptional s m args below meth c H locs 0 0 Q (F0 m 8 ls []) := by
    intro k
    induction k with
    | zero =>
      intro Z_19 x3_20 x4_21 o_18 hf
      exact absurd (((f_Patterns_orderOptional_L0_z n P_count P_parent Z_19 x3_20 x4_21).symm.trans hf)) (fun h => by cases h)
    | succ k ih =>
      intro Z_19 x3_20 x4_21 o_18 hf H locs hP hD hS ls hl hX_18
      have hf := (f_Patterns_orderOptional_L0_s n P_count P_parent k Z_19 x3_20 x4_21).symm.trans hf
      refine lv_iload hx hb dX2_orderOptional_8 (lv_at hl 3 rfl) ?_
      refine lv_aload_n hx hb dX2_orderOptional_10 rfl (lv_at hl 0 rfl) ?_
      refine va_get (D := D) (ci := 2) (v := .int P_count) (C := RX2) (T := TX2) (N := 12) hx hb htg giX2 hown hK hP 0 rfl rfl 11 (by decide) (htg _ kw_62) (fun _ h9 => h9) rfl dX2_orderOptional_11 ?_
      refine lv_icmp_ge (tgt := 43) hx hb dX2_orderOptional_14 (by decide) (fun c_23 => ?_) (fun c_23 => ?_)
      · have hf := xb_t c_23 hf
        exact hX_18 Z_19 hf _ _ hP hD hS _ (lv_sub hl [] rfl)
      · have hf := xb_f c_23 hf
        refine lv_aload_n hx hb dX2_orderOptional_17 rfl (lv_at hl 0 rfl) ?_
        refine lv_iload_n hx hb dX2_orderOptional_18 rfl (lv_at hl 2 rfl) ?_
        obtain ⟨r_25, hq_24, hf⟩ := bn1_c hf
        refine x_i (xrV (As := [.int x3_20]) (b := aP) (rest := []) ⟨hx, hb, hml, hown, htg⟩ (c_f_Patterns_nextOptional l D cI cJ cZ _ n aP x3_20 aP_slots aP_termsSeen aP_matches aP_matchCount aP_variables aP_havingVariable aP_told aP_parent aP_allBefore P_required P_hinted P_count P_parent hq_24) kc_f_Patterns_nextOptional kw_431 kw_433 kp_13 kw_3 dd_f_Patterns_nextOptional ⟨Nat.le_of_ble_eq_true rfl, Nat.le_of_ble_eq_true rfl⟩ rfl rfl (hP.sub [0, 1] rfl) (hD.sub [0, 1] (by decide) rfl) hK hN hP (q0 := 0) rfl rfl rfl hl.1 rfl (Nat.le_of_ble_eq_true rfl) dX2_orderOptional_19 ⟨Nat.le_of_ble_eq_true rfl, Nat.le_of_ble_eq_true rfl⟩) hP hD hS hA [0, 1] [2] rfl rfl (by decide) (by decide) (fun _ H locs hP hD hS => ?_)
        have hP : va_P D vwCl [(aZ, .inl (cI, 8, .inl Z_19)), (aP, .inr (2, [.ref aP_slots, .ref aP_termsSeen, .ref aP_matches, .ref aP_matchCount, .ref aP_variables, .ref aP_havingVariable, .ref aP_told, .ref aP_parent, .ref aP_allBefore, .int P_required, .int P_hinted, .int P_count])), (aP_parent, .inl (cI, 8, .inl P_parent))] H := hP
        have hD : va_D A [(aZ, .inl (cI, 8, .inl Z_19)), (aP, .inr (2, [.ref aP_slots, .ref aP_termsSeen, .ref aP_matches, .ref aP_matchCount, .ref aP_variables, .ref aP_havingVariable, .ref aP_told, .ref aP_parent, .ref aP_allBefore, .int P_required, .int P_hinted, .int P_count])), (aP_parent, .inl (cI, 8, .inl P_parent))] := hD
        refine lv_istore (lv' := [(5, .int r_25), (0, .ref aP), (1, .ref aZ), (3, .int x3_20), (4, .int x4_21)]) hx hb dX2_orderOptional_22 hl (by decide) rfl (fun ls hl => ?_)
        refine lv_aload_n hx hb dX2_orderOptional_24 rfl (lv_at hl 2 rfl) ?_
        refine lv_iload hx hb dX2_orderOptional_25 (lv_at hl 4 rfl) ?_
        refine lv_iload hx hb dX2_orderOptional_27 (lv_at hl 0 rfl) ?_
        have g_26 : vp_in x4_21 8 := gd_in hf
        have hf := gd_el hf
        refine x_iast hx hb hK hP hD hS 0 0 rfl rfl g_26 dX2_orderOptional_29 (fun Z_27 eZ_27 H locs hP hD hS => ?_)
        have hf := nm_nm eZ_27 hf
        have hP : va_P D vwCl [(aZ, .inl (cI, 8, .inl Z_27)), (aP, .inr (2, [.ref aP_slots, .ref aP_termsSeen, .ref aP_matches, .ref aP_matchCount, .ref aP_variables, .ref aP_havingVariable, .ref aP_told, .ref aP_parent, .ref aP_allBefore, .int P_required, .int P_hinted, .int P_count])), (aP_parent, .inl (cI, 8, .inl P_parent))] H := hP
        have hD : va_D A [(aZ, .inl (cI, 8, .inl Z_27)), (aP, .inr (2, [.ref aP_slots, .ref aP_termsSeen, .ref aP_matches, .ref aP_matchCount, .ref aP_variables, .ref aP_havingVariable, .ref aP_told, .ref aP_parent, .ref aP_allBefore, .int P_required, .int P_hinted, .int P_count])), (aP_parent, .inl (cI, 8, .inl P_parent))] := hD
        refine lv_iload_n hx hb dX2_orderOptional_30 rfl (lv_at hl 3 rfl) ?_
        refine lv_iconst (v := (1 : Int32)) hx hb dX2_orderOptional_31 (by decide) ?_
        refine lv_iload hx hb dX2_orderOptional_32 (lv_at hl 0 rfl) ?_
        refine lv_ishl hx hb dX2_orderOptional_34 ?_
        refine lv_ior hx hb dX2_orderOptional_35 ?_
        refine lv_topi (fun x3_28 ex3_28 => ?_)
        have hf := nm_nm ex3_28 hf
        refine lv_istore_n (lv' := [(3, .int x3_28), (5, .int r_25), (0, .ref aP), (1, .ref aZ), (4, .int x4_21)]) hx hb dX2_orderOptional_36 rfl hl (by decide) rfl (fun ls hl => ?_)
        obtain ⟨x4_29, ex4_29⟩ : ∃ y : Int32, y = x4_21 + (1 : Int32) := ⟨_, rfl⟩
        have hf := nm_nm ex4_29 hf
        refine lv_iinc (v := x4_29) (lv' := [(4, .int x4_29), (3, .int x3_28), (5, .int r_25), (0, .ref aP), (1, .ref aZ)]) hx hb dX2_orderOptional_37 hl (k := 4) rfl (by rw [ex4_29]; rfl) (by decide) rfl (fun ls hl => ?_)
        refine lv_goto (tgt := 8) hx hb dX2_orderOptional_40 (by decide) ?_
        exact ih Z_27 x3_28 x4_29 o_18 hf _ _ (hP.sub [1, 2, 0] rfl) (hD.sub [1, 2, 0] (by decide) rfl) hS _ (lv_sub hl [3, 4, 1, 0] rfl) hX_18
  obtain ⟨o_18, ho_18, hk_18⟩ := bn1_s hf
  refine L_8_18 n Z P_required x2 o_18 ho_18 _ _ hP hD hS _ (lv_sub hl [2, 3, 1, 0] rfl) (fun Z_22 hf H locs hP hD hS ls hl => ?_)
  have hf := hk_18 _ hf
  have hf := Option.some.inj hf
  subst hf
  exact x_vret (fun _ => 0) hQ hx hb hr hlk hK hP hD hS dX2_orderOptional_43
