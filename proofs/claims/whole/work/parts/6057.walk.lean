abbrev rm_f_Patterns_nextOptional : Room := { frames := 1, cells := 0, slots := 0, locals := 21 }
set_option maxHeartbeats 4000000 in
set_option maxRecDepth 100000 in
theorem c_f_Patterns_nextOptional (l : Launch) (D : va_G) (cI cJ cZ : ClassId) (sz : Nat) (n : Nat) (aP : Nat) (x1 : Int32) (aP_slots : Nat) (aP_termsSeen : Nat) (aP_matches : Nat) (aP_matchCount : Nat) (aP_variables : Nat) (aP_havingVariable : Nat) (aP_told : Nat) (aP_parent : Nat) (aP_allBefore : Nat) (P_required : Int32) (P_hinted : Int32) (P_count : Int32) (P_parent : Nat → Int32) {r : Int32} (hf : f_Patterns_nextOptional n x1 P_count P_parent = some r) : Met l yX2_nextOptional (.code yX2_nextOptional cX2_nextOptional 3 (some .int) :: GW) rm_f_Patterns_nextOptional (va_Pc [.ref aP, .int x1] (xP D (xT cI cJ cZ) sz [(aP, .inr (2, [.ref aP_slots, .ref aP_termsSeen, .ref aP_matches, .ref aP_matchCount, .ref aP_variables, .ref aP_havingVariable, .ref aP_told, .ref aP_parent, .ref aP_allBefore, .int P_required, .int P_hinted, .int P_count])), (aP_parent, .inl (cI, 8, .inl P_parent))])) (va_Qi (fun r2 (_ : Nat → Nat) => r2 = r) (bB D (xT cI cJ cZ) (fun _ => [(aP, .inr (2, [.ref aP_slots, .ref aP_termsSeen, .ref aP_matches, .ref aP_matchCount, .ref aP_variables, .ref aP_havingVariable, .ref aP_told, .ref aP_parent, .ref aP_allBefore, .int P_required, .int P_hinted, .int P_count])), (aP_parent, .inl (cI, 8, .inl P_parent))]) (va_A [(aP, .inr (2, [.ref aP_slots, .ref aP_termsSeen, .ref aP_matches, .ref aP_matchCount, .ref aP_variables, .ref aP_havingVariable, .ref aP_told, .ref aP_parent, .ref aP_allBefore, .int P_required, .int P_hinted, .int P_count])), (aP_parent, .inl (cI, 8, .inl P_parent))] sz)) (va_A [(aP, .inr (2, [.ref aP_slots, .ref aP_termsSeen, .ref aP_matches, .ref aP_matchCount, .ref aP_variables, .ref aP_havingVariable, .ref aP_told, .ref aP_parent, .ref aP_allBefore, .int P_required, .int P_hinted, .int P_count])), (aP_parent, .inl (cI, 8, .inl P_parent))] sz)) 0 0 (va_A [(aP, .inr (2, [.ref aP_slots, .ref aP_termsSeen, .ref aP_matches, .ref aP_matchCount, .ref aP_variables, .ref aP_havingVariable, .ref aP_told, .ref aP_parent, .ref aP_allBefore, .int P_required, .int P_hinted, .int P_count])), (aP_parent, .inl (cI, 8, .inl P_parent))] sz) := by
  refine con_start (y := yX2_nextOptional) (bytes := cX2_nextOptional) (maxL := 3) (av := [.ref aP, .int x1]) (Qc := fun A => va_Qi (fun r2 (_ : Nat → Nat) => r2 = r) (bB D (xT cI cJ cZ) (fun _ => [(aP, .inr (2, [.ref aP_slots, .ref aP_termsSeen, .ref aP_matches, .ref aP_matchCount, .ref aP_variables, .ref aP_havingVariable, .ref aP_told, .ref aP_parent, .ref aP_allBefore, .int P_required, .int P_hinted, .int P_count])), (aP_parent, .inl (cI, 8, .inl P_parent))]) A) A) (by decide) (Nat.le_of_ble_eq_true rfl) ?_
  intro p e s m args below meth c Q A hx hb hr hlk hml hown hin htg hN hK hQ hA hP hD hS ls hl
  have hl : lv_has ls 3 [(0, .ref aP), (1, .int x1)] := hl
  have hown : s.vm.findClass RX2 = some m.cls := hown
  have hf := (f_Patterns_nextOptional_u n x1 P_count P_parent).symm.trans hf
  refine lv_iconst (v := (0 : Int32)) hx hb dX2_nextOptional_0 (by decide) ?_
  refine lv_istore_n (lv' := [(2, .int (0 : Int32)), (0, .ref aP), (1, .int x1)]) hx hb dX2_nextOptional_1 rfl hl (by decide) rfl (fun ls hl => ?_)
  have L_2_17 : ∀ (k : Nat) (x2_18 : Int32) (o_17 : (Int32 ⊕ Unit)), f_Patterns_nextOptional_L0 n x1 P_count P_parent k x2_18 = some o_17 → (∀ z : Int32, some (Sum.inl z) = some o_17 → z = r) → ∀ (H : Heap) (locs : List Loc), va_P D vwCl [(aP, .inr (2, [.ref aP_slots, .ref aP_termsSeen, .ref aP_matches, .ref aP_matchCount, .ref aP_variables, .ref aP_havingVariable, .ref aP_told, .ref aP_parent, .ref aP_allBefore, .int P_required, .int P_hinted, .int P_count])), (aP_parent, .inl (cI, 8, .inl P_parent))] H → va_D A [(aP, .inr (2, [.ref aP_slots, .ref aP_termsSeen, .ref aP_matches, .ref aP_matchCount, .ref aP_variables, .ref aP_havingVariable, .ref aP_told, .ref aP_parent, .ref aP_allBefore, .int P_required, .int P_hinted, .int P_count])), (aP_parent, .inl (cI, 8, .inl P_parent))] → va_S A s.heap H locs → ∀ ls : Array Slot, lv_has ls 3 [(0, .ref aP), (1, .int x1), (2, .int x2_18)] → (some (Sum.inr ()) = some o_17 → ∀ (H : Heap) (locs : List Loc), va_P D vwCl [(aP, .inr (2, [.ref aP_slots, .ref aP_termsSeen, .ref aP_matches, .ref aP_matchCount, .ref aP_variables, .ref aP_havingVariable, .ref aP_told, .ref aP_parent, .ref aP_allBefore, .int P_required, .int P_hinted, .int P_count])), (aP_parent, .inl (cI, 8, .inl P_parent))] H → va_D A [(aP, .inr (2, [.ref aP_slots, .ref aP_termsSeen, .ref aP_matches, .ref aP_matchCount, .ref aP_variables, .ref aP_havingVariable, .ref aP_told, .ref aP_parent, .ref aP_allBefore, .int P_required, .int P_hinted, .int P_count])), (aP_parent, .inl (cI, 8, .inl P_parent))] → va_S A s.heap H locs → ∀ ls : Array Slot, lv_has ls 3 [] → W p l e rm_f_Patterns_nextOptional s m args below meth c H locs 0 0 Q (F0 m 39 ls [])) → W p l e rm_f_Patterns_nextOptional s m args below meth c H locs 0 0 Q (F0 m 2 ls []) := by
    intro k
    induction k with
    | zero =>
      intro x2_18 o_17 hf
      exact absurd (((f_Patterns_nextOptional_L0_z n x1 P_count P_parent x2_18).symm.trans hf)) (fun h => by cases h)
    | succ k ih =>
      intro x2_18 o_17 hf hret_17 H locs hP hD hS ls hl hX_17
      have hf := (f_Patterns_nextOptional_L0_s n x1 P_count P_parent k x2_18).symm.trans hf
      refine lv_iload_n hx hb dX2_nextOptional_2 rfl (lv_at hl 2 rfl) ?_
      refine lv_aload_n hx hb dX2_nextOptional_3 rfl (lv_at hl 0 rfl) ?_
      refine va_get (D := D) (ci := 2) (v := .int P_count) (C := RX2) (T := TX2) (N := 12) hx hb htg giX2 hown hK hP 0 rfl rfl 11 (by decide) (htg _ kw_62) (fun _ h9 => h9) rfl dX2_nextOptional_4 ?_
      refine lv_icmp_ge (tgt := 39) hx hb dX2_nextOptional_7 (by decide) (fun c_19 => ?_) (fun c_19 => ?_)
      · have hf := xb_t c_19 hf
        exact hX_17  hf _ _ hP hD hS _ (lv_sub hl [] rfl)
      · have hf := xb_f c_19 hf
        refine lv_iload_n hx hb dX2_nextOptional_10 rfl (lv_at hl 1 rfl) ?_
        refine lv_iload_n hx hb dX2_nextOptional_11 rfl (lv_at hl 2 rfl) ?_
        refine x_z (xrSN (As := [.int x1, .int x2_18]) (rest := []) ⟨hx, hb, hml, hown, htg⟩ (c_f_JoinOrder_inSet l D cI cJ cZ _ x1 x2_18 rfl) kc_f_JoinOrder_inSet kn_305 kw_306 kw_1 dd_f_JoinOrder_inSet ⟨Nat.le_of_ble_eq_true rfl, Nat.le_of_ble_eq_true rfl⟩ rfl rfl (hP.sub [] rfl) (hD.sub [] (by decide) rfl) hK hN rfl hl.1 rfl (Nat.le_of_ble_eq_true rfl) dX2_nextOptional_12 ⟨Nat.le_of_ble_eq_true rfl, Nat.le_of_ble_eq_true rfl⟩) hP hD hS hA [] [0, 1] rfl rfl (by decide) (by decide) (fun _ H locs bz_20 hP hD hS => ?_)
        have hP : va_P D vwCl [(aP, .inr (2, [.ref aP_slots, .ref aP_termsSeen, .ref aP_matches, .ref aP_matchCount, .ref aP_variables, .ref aP_havingVariable, .ref aP_told, .ref aP_parent, .ref aP_allBefore, .int P_required, .int P_hinted, .int P_count])), (aP_parent, .inl (cI, 8, .inl P_parent))] H := hP
        have hD : va_D A [(aP, .inr (2, [.ref aP_slots, .ref aP_termsSeen, .ref aP_matches, .ref aP_matchCount, .ref aP_variables, .ref aP_havingVariable, .ref aP_told, .ref aP_parent, .ref aP_allBefore, .int P_required, .int P_hinted, .int P_count])), (aP_parent, .inl (cI, 8, .inl P_parent))] := hD
        refine lv_if_ne (tgt := 33) hx hb dX2_nextOptional_15 (by decide) (fun c_21 => ?_) (fun c_21 => ?_)
        · have hf := xb_f c_21 hf
          obtain ⟨x2_22, ex2_22⟩ : ∃ y : Int32, y = x2_18 + (1 : Int32) := ⟨_, rfl⟩
          have hf := nm_nm ex2_22 hf
          refine lv_iinc (v := x2_22) (lv' := [(2, .int x2_22), (0, .ref aP), (1, .int x1)]) hx hb dX2_nextOptional_33 hl (k := 2) rfl (by rw [ex2_22]; rfl) (by decide) rfl (fun ls hl => ?_)
          refine lv_goto (tgt := 2) hx hb dX2_nextOptional_36 (by decide) ?_
          exact ih x2_22 o_17 hf hret_17 _ _ hP hD hS _ (lv_sub hl [1, 2, 0] rfl) hX_17
        · have hf := xb_t c_21 hf
          refine lv_iload_n hx hb dX2_nextOptional_18 rfl (lv_at hl 1 rfl) ?_
          refine lv_aload_n hx hb dX2_nextOptional_19 rfl (lv_at hl 0 rfl) ?_
          refine va_get (D := D) (ci := 2) (v := .ref aP_parent) (C := RX2) (T := TX2) (N := 12) hx hb htg giX2 hown hK hP 0 rfl rfl 7 (by decide) (htg _ kw_55) (fun _ h9 => h9) rfl dX2_nextOptional_20 ?_
          refine lv_iload_n hx hb dX2_nextOptional_23 rfl (lv_at hl 2 rfl) ?_
          have g_23 : vp_in x2_18 8 := gd_in hf
          have hf := gd_el hf
          refine va_iald hx hb hK hP 1 0 rfl rfl g_23 dX2_nextOptional_24 ?_
          refine x_z (xrSN (As := [.int x1, .int (P_parent x2_18.toNatClampNeg)]) (rest := []) ⟨hx, hb, hml, hown, htg⟩ (c_f_JoinOrder_inSet l D cI cJ cZ _ x1 (P_parent x2_18.toNatClampNeg) rfl) kc_f_JoinOrder_inSet kn_305 kw_306 kw_1 dd_f_JoinOrder_inSet ⟨Nat.le_of_ble_eq_true rfl, Nat.le_of_ble_eq_true rfl⟩ rfl rfl (hP.sub [] rfl) (hD.sub [] (by decide) rfl) hK hN rfl hl.1 rfl (Nat.le_of_ble_eq_true rfl) dX2_nextOptional_25 ⟨Nat.le_of_ble_eq_true rfl, Nat.le_of_ble_eq_true rfl⟩) hP hD hS hA [] [0, 1] rfl rfl (by decide) (by decide) (fun _ H locs bz_24 hP hD hS => ?_)
          have hP : va_P D vwCl [(aP, .inr (2, [.ref aP_slots, .ref aP_termsSeen, .ref aP_matches, .ref aP_matchCount, .ref aP_variables, .ref aP_havingVariable, .ref aP_told, .ref aP_parent, .ref aP_allBefore, .int P_required, .int P_hinted, .int P_count])), (aP_parent, .inl (cI, 8, .inl P_parent))] H := hP
          have hD : va_D A [(aP, .inr (2, [.ref aP_slots, .ref aP_termsSeen, .ref aP_matches, .ref aP_matchCount, .ref aP_variables, .ref aP_havingVariable, .ref aP_told, .ref aP_parent, .ref aP_allBefore, .int P_required, .int P_hinted, .int P_count])), (aP_parent, .inl (cI, 8, .inl P_parent))] := hD
          refine lv_if_eq (tgt := 33) hx hb dX2_nextOptional_28 (by decide) (fun c_25 => ?_) (fun c_25 => ?_)
          · have hf := xb_t c_25 hf
            obtain ⟨x2_26, ex2_26⟩ : ∃ y : Int32, y = x2_18 + (1 : Int32) := ⟨_, rfl⟩
            have hf := nm_nm ex2_26 hf
            refine lv_iinc (v := x2_26) (lv' := [(2, .int x2_26), (0, .ref aP), (1, .int x1)]) hx hb dX2_nextOptional_33 hl (k := 2) rfl (by rw [ex2_26]; rfl) (by decide) rfl (fun ls hl => ?_)
            refine lv_goto (tgt := 2) hx hb dX2_nextOptional_36 (by decide) ?_
            exact ih x2_26 o_17 hf hret_17 _ _ hP hD hS _ (lv_sub hl [1, 2, 0] rfl) hX_17
          · have hf := xb_f c_25 hf
            refine lv_iload_n hx hb dX2_nextOptional_31 rfl (lv_at hl 2 rfl) ?_
            have hf := congrArg some (hret_17 _ hf)
            have hf := Option.some.inj hf
            subst hf
            exact x_iret (fun _ => 0) hQ hx hb hr hlk hK hP hD hS dX2_nextOptional_32
  obtain ⟨o_17, ho_17, hret_17, hk_17⟩ := bd0_s hf
  refine L_2_17 n (0 : Int32) o_17 ho_17 hret_17 _ _ hP hD hS _ (lv_sub hl [1, 2, 0] rfl) (fun  hf H locs hP hD hS ls hl => ?_)
  have hf := hk_17  hf
  refine lv_iconst (v := (0 : Int32)) hx hb dX2_nextOptional_39 (by decide) ?_
  have hf := Option.some.inj hf
  subst hf
  exact x_iret (fun _ => 0) hQ hx hb hr hlk hK hP hD hS dX2_nextOptional_40
