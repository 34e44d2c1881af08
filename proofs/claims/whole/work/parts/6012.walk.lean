abbrev rm_f_Patterns_fits : Room := { frames := 2, cells := 0, slots := 0, locals := 46 }
set_option maxHeartbeats 4000000 in
set_option maxRecDepth 100000 in
theorem c_f_Patterns_fits (l : Launch) (D : va_G) (cI cJ cZ : ClassId) (sz : Nat) (n : Nat) (aP : Nat) (x1 : Int32) (x2 : Int32) (aP_slots : Nat) (aP_termsSeen : Nat) (aP_matches : Nat) (aP_matchCount : Nat) (aP_variables : Nat) (aP_havingVariable : Nat) (aP_told : Nat) (aP_parent : Nat) (aP_allBefore : Nat) (P_required : Int32) (P_hinted : Int32) (P_count : Int32) (P_slots : Nat → Int32) {r : Int32} (hf : f_Patterns_fits n x1 x2 P_slots = some r) : Met l yX2_fits (.code yX2_fits cX2_fits 6 (some .boolean) :: GW) rm_f_Patterns_fits (va_Pc [.ref aP, .int x1, .int x2] (xP D (xT cI cJ cZ) sz [(aP, .inr (2, [.ref aP_slots, .ref aP_termsSeen, .ref aP_matches, .ref aP_matchCount, .ref aP_variables, .ref aP_havingVariable, .ref aP_told, .ref aP_parent, .ref aP_allBefore, .int P_required, .int P_hinted, .int P_count])), (aP_slots, .inl (cI, 24, .inl P_slots))])) (va_Qi (fun r2 (_ : Nat → Nat) => r2 = r ∧ (r = 0 ∨ r = 1)) (bB D (xT cI cJ cZ) (fun _ => [(aP, .inr (2, [.ref aP_slots, .ref aP_termsSeen, .ref aP_matches, .ref aP_matchCount, .ref aP_variables, .ref aP_havingVariable, .ref aP_told, .ref aP_parent, .ref aP_allBefore, .int P_required, .int P_hinted, .int P_count])), (aP_slots, .inl (cI, 24, .inl P_slots))]) (va_A [(aP, .inr (2, [.ref aP_slots, .ref aP_termsSeen, .ref aP_matches, .ref aP_matchCount, .ref aP_variables, .ref aP_havingVariable, .ref aP_told, .ref aP_parent, .ref aP_allBefore, .int P_required, .int P_hinted, .int P_count])), (aP_slots, .inl (cI, 24, .inl P_slots))] sz)) (va_A [(aP, .inr (2, [.ref aP_slots, .ref aP_termsSeen, .ref aP_matches, .ref aP_matchCount, .ref aP_variables, .ref aP_havingVariable, .ref aP_told, .ref aP_parent, .ref aP_allBefore, .int P_required, .int P_hinted, .int P_count])), (aP_slots, .inl (cI, 24, .inl P_slots))] sz)) 0 0 (va_A [(aP, .inr (2, [.ref aP_slots, .ref aP_termsSeen, .ref aP_matches, .ref aP_matchCount, .ref aP_variables, .ref aP_havingVariable, .ref aP_told, .ref aP_parent, .ref aP_allBefore, .int P_required, .int P_hinted, .int P_count])), (aP_slots, .inl (cI, 24, .inl P_slots))] sz) := by
  refine con_start (y := yX2_fits) (bytes := cX2_fits) (maxL := 6) (av := [.ref aP, .int x1, .int x2]) (Qc := fun A => va_Qi (fun r2 (_ : Nat → Nat) => r2 = r ∧ (r = 0 ∨ r = 1)) (bB D (xT cI cJ cZ) (fun _ => [(aP, .inr (2, [.ref aP_slots, .ref aP_termsSeen, .ref aP_matches, .ref aP_matchCount, .ref aP_variables, .ref aP_havingVariable, .ref aP_told, .ref aP_parent, .ref aP_allBefore, .int P_required, .int P_hinted, .int P_count])), (aP_slots, .inl (cI, 24, .inl P_slots))]) A) A) (by decide) (Nat.le_of_ble_eq_true rfl) ?_
  intro p e s m args below meth c Q A hx hb hr hlk hml hown hin htg hN hK hQ hA hP hD hS ls hl
  have hl : lv_has ls 6 [(0, .ref aP), (1, .int x1), (2, .int x2)] := hl
  have hown : s.vm.findClass RX2 = some m.cls := hown
  have hf := (f_Patterns_fits_u n x1 x2 P_slots).symm.trans hf
  refine lv_iconst (v := (0 : Int32)) hx hb dX2_fits_0 (by decide) ?_
  refine lv_istore_n (lv' := [(3, .int (0 : Int32)), (0, .ref aP), (1, .int x1), (2, .int x2)]) hx hb dX2_fits_1 rfl hl (by decide) rfl (fun ls hl => ?_)
  have L_2_26 : ∀ (k : Nat) (x3_27 : Int32) (o_26 : (Int32 ⊕ Unit)), f_Patterns_fits_L0 n x1 x2 P_slots k x3_27 = some o_26 → (∀ z : Int32, some (Sum.inl z) = some o_26 → z = r) → ∀ (H : Heap) (locs : List Loc), va_P D vwCl [(aP, .inr (2, [.ref aP_slots, .ref aP_termsSeen, .ref aP_matches, .ref aP_matchCount, .ref aP_variables, .ref aP_havingVariable, .ref aP_told, .ref aP_parent, .ref aP_allBefore, .int P_required, .int P_hinted, .int P_count])), (aP_slots, .inl (cI, 24, .inl P_slots))] H → va_D A [(aP, .inr (2, [.ref aP_slots, .ref aP_termsSeen, .ref aP_matches, .ref aP_matchCount, .ref aP_variables, .ref aP_havingVariable, .ref aP_told, .ref aP_parent, .ref aP_allBefore, .int P_required, .int P_hinted, .int P_count])), (aP_slots, .inl (cI, 24, .inl P_slots))] → va_S A s.heap H locs → ∀ ls : Array Slot, lv_has ls 6 [(0, .ref aP), (1, .int x1), (2, .int x2), (3, .int x3_27)] → (some (Sum.inr ()) = some o_26 → ∀ (H : Heap) (locs : List Loc), va_P D vwCl [(aP, .inr (2, [.ref aP_slots, .ref aP_termsSeen, .ref aP_matches, .ref aP_matchCount, .ref aP_variables, .ref aP_havingVariable, .ref aP_told, .ref aP_parent, .ref aP_allBefore, .int P_required, .int P_hinted, .int P_count])), (aP_slots, .inl (cI, 24, .inl P_slots))] H → va_D A [(aP, .inr (2, [.ref aP_slots, .ref aP_termsSeen, .ref aP_matches, .ref aP_matchCount, .ref aP_variables, .ref aP_havingVariable, .ref aP_told, .ref aP_parent, .ref aP_allBefore, .int P_required, .int P_hinted, .int P_count])), (aP_slots, .inl (cI, 24, .inl P_slots))] → va_S A s.heap H locs → ∀ ls : Array Slot, lv_has ls 6 [] → W p l e rm_f_Patterns_fits s m args below meth c H locs 0 0 Q (F0 m 55 ls [])) → W p l e rm_f_Patterns_fits s m args below meth c H locs 0 0 Q (F0 m 2 ls []) := by
    intro k
    induction k with
    | zero =>
      intro x3_27 o_26 hf
      exact absurd (((f_Patterns_fits_L0_z n x1 x2 P_slots x3_27).symm.trans hf)) (fun h => by cases h)
    | succ k ih =>
      intro x3_27 o_26 hf hret_26 H locs hP hD hS ls hl hX_26
      have hf := (f_Patterns_fits_L0_s n x1 x2 P_slots k x3_27).symm.trans hf
      refine lv_iload_n hx hb dX2_fits_2 rfl (lv_at hl 3 rfl) ?_
      refine lv_iconst (v := (3 : Int32)) hx hb dX2_fits_3 (by decide) ?_
      refine lv_icmp_ge (tgt := 55) hx hb dX2_fits_4 (by decide) (fun c_28 => ?_) (fun c_28 => ?_)
      · have hf := xb_t c_28 hf
        exact hX_26  hf _ _ hP hD hS _ (lv_sub hl [] rfl)
      · have hf := xb_f c_28 hf
        refine lv_aload_n hx hb dX2_fits_7 rfl (lv_at hl 0 rfl) ?_
        refine lv_iload_n hx hb dX2_fits_8 rfl (lv_at hl 1 rfl) ?_
        refine lv_iload_n hx hb dX2_fits_9 rfl (lv_at hl 3 rfl) ?_
        obtain ⟨r_30, hq_29, hf⟩ := bn1_c hf
        refine x_i (xrV (As := [.int x1, .int x3_27]) (b := aP) (rest := []) ⟨hx, hb, hml, hown, htg⟩ (c_f_Patterns_slot l D cI cJ cZ _ aP x1 x3_27 aP_slots aP_termsSeen aP_matches aP_matchCount aP_variables aP_havingVariable aP_told aP_parent aP_allBefore P_required P_hinted P_count P_slots hq_29) kc_f_Patterns_slot kw_261 kw_262 kw_263 kw_3 dd_f_Patterns_slot ⟨Nat.le_of_ble_eq_true rfl, Nat.le_of_ble_eq_true rfl⟩ rfl rfl hP hD hK hN hP (q0 := 0) rfl rfl rfl hl.1 rfl (Nat.le_of_ble_eq_true rfl) dX2_fits_10 ⟨Nat.le_of_ble_eq_true rfl, Nat.le_of_ble_eq_true rfl⟩) hP hD hS hA [0, 1] [] rfl rfl (by decide) (by decide) (fun _ H locs hP hD hS => ?_)
        have hP : va_P D vwCl [(aP, .inr (2, [.ref aP_slots, .ref aP_termsSeen, .ref aP_matches, .ref aP_matchCount, .ref aP_variables, .ref aP_havingVariable, .ref aP_told, .ref aP_parent, .ref aP_allBefore, .int P_required, .int P_hinted, .int P_count])), (aP_slots, .inl (cI, 24, .inl P_slots))] H := hP
        have hD : va_D A [(aP, .inr (2, [.ref aP_slots, .ref aP_termsSeen, .ref aP_matches, .ref aP_matchCount, .ref aP_variables, .ref aP_havingVariable, .ref aP_told, .ref aP_parent, .ref aP_allBefore, .int P_required, .int P_hinted, .int P_count])), (aP_slots, .inl (cI, 24, .inl P_slots))] := hD
        refine lv_istore (lv' := [(4, .int r_30), (0, .ref aP), (1, .int x1), (2, .int x2), (3, .int x3_27)]) hx hb dX2_fits_13 hl (by decide) rfl (fun ls hl => ?_)
        refine lv_iload_n hx hb dX2_fits_15 rfl (lv_at hl 3 rfl) ?_
        refine lv_iload_n hx hb dX2_fits_16 rfl (lv_at hl 4 rfl) ?_
        refine x_i (xrS (As := [.int x2, .int x3_27]) (rest := []) ⟨hx, hb, hml, hown, htg⟩ (c_f_Triples_part l D cI cJ cZ _ x2 x3_27 rfl) kc_f_Triples_part kw_265 kw_266 kw_2 dd_f_Triples_part ⟨Nat.le_of_ble_eq_true rfl, Nat.le_of_ble_eq_true rfl⟩ rfl rfl (hP.sub [] rfl) (hD.sub [] (by decide) rfl) hK hN rfl hl.1 rfl (Nat.le_of_ble_eq_true rfl) dX2_fits_17 ⟨Nat.le_of_ble_eq_true rfl, Nat.le_of_ble_eq_true rfl⟩) hP hD hS hA [] [0, 1] rfl rfl (by decide) (by decide) (fun _ H locs hP hD hS => ?_)
        have hP : va_P D vwCl [(aP, .inr (2, [.ref aP_slots, .ref aP_termsSeen, .ref aP_matches, .ref aP_matchCount, .ref aP_variables, .ref aP_havingVariable, .ref aP_told, .ref aP_parent, .ref aP_allBefore, .int P_required, .int P_hinted, .int P_count])), (aP_slots, .inl (cI, 24, .inl P_slots))] H := hP
        have hD : va_D A [(aP, .inr (2, [.ref aP_slots, .ref aP_termsSeen, .ref aP_matches, .ref aP_matchCount, .ref aP_variables, .ref aP_havingVariable, .ref aP_told, .ref aP_parent, .ref aP_allBefore, .int P_required, .int P_hinted, .int P_count])), (aP_slots, .inl (cI, 24, .inl P_slots))] := hD
        refine lv_topi (fun x5_32 ex5_32 => ?_)
        have hf := nm_nm ex5_32 hf
        refine lv_istore (lv' := [(5, .int x5_32), (4, .int r_30), (0, .ref aP), (1, .int x1), (2, .int x2), (3, .int x3_27)]) hx hb dX2_fits_20 hl (by decide) rfl (fun ls hl => ?_)
        refine lv_iload hx hb dX2_fits_22 (lv_at hl 1 rfl) ?_
        refine lv_if_lt (tgt := 37) hx hb dX2_fits_24 (by decide) (fun c_33 => ?_) (fun c_33 => ?_)
        · have hf := xb_t c_33 hf
          refine lv_aload_n hx hb dX2_fits_37 rfl (lv_at hl 2 rfl) ?_
          refine lv_iload_n hx hb dX2_fits_38 rfl (lv_at hl 3 rfl) ?_
          refine lv_iload_n hx hb dX2_fits_39 rfl (lv_at hl 4 rfl) ?_
          refine lv_iload_n hx hb dX2_fits_40 rfl (lv_at hl 5 rfl) ?_
          obtain ⟨r_35, hq_34, hf⟩ := bn1_c hf
          refine x_z (xrV (As := [.int x1, .int x2, .int x3_27]) (b := aP) (rest := []) ⟨hx, hb, hml, hown, htg⟩ (c_f_Patterns_agrees l D cI cJ cZ _ n aP x1 x2 x3_27 aP_slots aP_termsSeen aP_matches aP_matchCount aP_variables aP_havingVariable aP_told aP_parent aP_allBefore P_required P_hinted P_count P_slots hq_34) kc_f_Patterns_agrees kw_268 kw_270 kp_2 kw_3 dd_f_Patterns_agrees ⟨Nat.le_of_ble_eq_true rfl, Nat.le_of_ble_eq_true rfl⟩ rfl rfl hP hD hK hN hP (q0 := 0) rfl rfl rfl hl.1 rfl (Nat.le_of_ble_eq_true rfl) dX2_fits_41 ⟨Nat.le_of_ble_eq_true rfl, Nat.le_of_ble_eq_true rfl⟩) hP hD hS hA [0, 1] [] rfl rfl (by decide) (by decide) (fun _ H locs bz_34 hP hD hS => ?_)
          have hP : va_P D vwCl [(aP, .inr (2, [.ref aP_slots, .ref aP_termsSeen, .ref aP_matches, .ref aP_matchCount, .ref aP_variables, .ref aP_havingVariable, .ref aP_told, .ref aP_parent, .ref aP_allBefore, .int P_required, .int P_hinted, .int P_count])), (aP_slots, .inl (cI, 24, .inl P_slots))] H := hP
          have hD : va_D A [(aP, .inr (2, [.ref aP_slots, .ref aP_termsSeen, .ref aP_matches, .ref aP_matchCount, .ref aP_variables, .ref aP_havingVariable, .ref aP_told, .ref aP_parent, .ref aP_allBefore, .int P_required, .int P_hinted, .int P_count])), (aP_slots, .inl (cI, 24, .inl P_slots))] := hD
          refine lv_if_ne (tgt := 49) hx hb dX2_fits_44 (by decide) (fun c_36 => ?_) (fun c_36 => ?_)
          · have hf := xb_f c_36 hf
            obtain ⟨x3_37, ex3_37⟩ : ∃ y : Int32, y = x3_27 + (1 : Int32) := ⟨_, rfl⟩
            have hf := nm_nm ex3_37 hf
            refine lv_iinc (v := x3_37) (lv' := [(3, .int x3_37), (5, .int x5_32), (4, .int r_30), (0, .ref aP), (1, .int x1), (2, .int x2)]) hx hb dX2_fits_49 hl (k := 5) rfl (by rw [ex3_37]; rfl) (by decide) rfl (fun ls hl => ?_)
            refine lv_goto (tgt := 2) hx hb dX2_fits_52 (by decide) ?_
            exact ih x3_37 o_26 hf hret_26 _ _ hP hD hS _ (lv_sub hl [3, 4, 5, 0] rfl) hX_26
          · have hf := xb_t c_36 hf
            refine lv_iconst (v := (0 : Int32)) hx hb dX2_fits_47 (by decide) ?_
            have hf := congrArg some (hret_26 _ hf)
            have hf := Option.some.inj hf
            subst hf
            exact x_zret (fun _ => 0) hQ hx hb hr hlk (by decide) hK hP hD hS dX2_fits_48
        · have hf := xb_f c_33 hf
          refine lv_iload hx hb dX2_fits_27 (lv_at hl 0 rfl) ?_
          refine lv_iload hx hb dX2_fits_29 (lv_at hl 1 rfl) ?_
          refine lv_icmp_eq (tgt := 49) hx hb dX2_fits_31 (by decide) (fun c_38 => ?_) (fun c_38 => ?_)
          · have hf := xb_t c_38 hf
            obtain ⟨x3_39, ex3_39⟩ : ∃ y : Int32, y = x3_27 + (1 : Int32) := ⟨_, rfl⟩
            have hf := nm_nm ex3_39 hf
            refine lv_iinc (v := x3_39) (lv' := [(3, .int x3_39), (5, .int x5_32), (4, .int r_30), (0, .ref aP), (1, .int x1), (2, .int x2)]) hx hb dX2_fits_49 hl (k := 5) rfl (by rw [ex3_39]; rfl) (by decide) rfl (fun ls hl => ?_)
            refine lv_goto (tgt := 2) hx hb dX2_fits_52 (by decide) ?_
            exact ih x3_39 o_26 hf hret_26 _ _ hP hD hS _ (lv_sub hl [3, 4, 5, 0] rfl) hX_26
          · have hf := xb_f c_38 hf
            refine lv_goto (tgt := 47) hx hb dX2_fits_34 (by decide) ?_
            refine lv_iconst (v := (0 : Int32)) hx hb dX2_fits_47 (by decide) ?_
            have hf := congrArg some (hret_26 _ hf)
            have hf := Option.some.inj hf
            subst hf
            exact x_zret (fun _ => 0) hQ hx hb hr hlk (by decide) hK hP hD hS dX2_fits_48
  obtain ⟨o_26, ho_26, hret_26, hk_26⟩ := bd0_s hf
  refine L_2_26 n (0 : Int32) o_26 ho_26 hret_26 _ _ hP hD hS _ (lv_sub hl [1, 2, 3, 0] rfl) (fun  hf H locs hP hD hS ls hl => ?_)
  have hf := hk_26  hf
  refine lv_iconst (v := (1 : Int32)) hx hb dX2_fits_55 (by decide) ?_
  have hf := Option.some.inj hf
  subst hf
  exact x_zret (fun _ => 0) hQ hx hb hr hlk (by decide) hK hP hD hS dX2_fits_56
