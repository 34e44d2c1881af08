abbrev rm_f_Patterns_orderByNumbers : Room := { frames := 3, cells := 0, slots := 0, locals := 68 }
set_option maxHeartbeats 4000000 in
set_option maxRecDepth 100000 in
theorem c_f_Patterns_orderByNumbers (l : Launch) (D : va_G) (cI cJ cZ : ClassId) (sz : Nat) (n : Nat) (aP : Nat) (aZ : Nat) (aP_slots : Nat) (aP_termsSeen : Nat) (aP_matches : Nat) (aP_matchCount : Nat) (aP_variables : Nat) (aP_havingVariable : Nat) (aP_told : Nat) (aP_parent : Nat) (aP_allBefore : Nat) (P_required : Int32) (P_hinted : Int32) (P_count : Int32) (Z : Nat → Int32) (P_parent : Nat → Int32) {r : Int32} {Z' : Nat → Int32} (hf : f_Patterns_orderByNumbers n P_required P_count Z P_parent = some (r, Z')) : Met l yX2_orderByNumbers (.code yX2_orderByNumbers cX2_orderByNumbers 4 (some .int) :: GW) rm_f_Patterns_orderByNumbers (va_Pc [.ref aP, .ref aZ] (xP D (xT cI cJ cZ) sz [(aP, .inr (2, [.ref aP_slots, .ref aP_termsSeen, .ref aP_matches, .ref aP_matchCount, .ref aP_variables, .ref aP_havingVariable, .ref aP_told, .ref aP_parent, .ref aP_allBefore, .int P_required, .int P_hinted, .int P_count])), (aZ, .inl (cI, 8, .inl Z)), (aP_parent, .inl (cI, 8, .inl P_parent))])) (va_Qi (fun r2 (_ : Nat → Nat) => r2 = r) (bB D (xT cI cJ cZ) (fun _ => [(aP, .inr (2, [.ref aP_slots, .ref aP_termsSeen, .ref aP_matches, .ref aP_matchCount, .ref aP_variables, .ref aP_havingVariable, .ref aP_told, .ref aP_parent, .ref aP_allBefore, .int P_required, .int P_hinted, .int P_count])), (aZ, .inl (cI, 8, .inl Z')), (aP_parent, .inl (cI, 8, .inl P_parent))]) (va_A [(aP, .inr (2, [.ref aP_slots, .ref aP_termsSeen, .ref aP_matches, .ref aP_matchCount, .ref aP_variables, .ref aP_havingVariable, .ref aP_told, .ref aP_parent, .ref aP_allBefore, .int P_required, .int P_hinted, .int P_count])), (aZ, .inl (cI, 8, .inl Z)), (aP_parent, .inl (cI, 8, .inl P_parent))] sz)) (va_A [(aP, .inr (2, [.ref aP_slots, .ref aP_termsSeen, .ref aP_matches, .ref aP_matchCount, .ref aP_variables, .ref aP_havingVariable, .ref aP_told, .ref aP_parent, .ref aP_allBefore, .int P_required, .int P_hinted, .int P_count])), (aZ, .inl (cI, 8, .inl Z)), (aP_parent, .inl (cI, 8, .inl P_parent))] sz)) 0 0 (va_A [(aP, .inr (2, [.ref aP_slots, .ref aP_termsSeen, .ref aP_matches, .ref aP_matchCount, .ref aP_variables, .ref aP_havingVariable, .ref aP_told, .ref aP_parent, .ref aP_allBefore, .int P_required, .int P_hinted, .int P_count])), (aZ, .inl (cI, 8, .inl Z)), (aP_parent, .inl (cI, 8, .inl P_parent))] sz) := by
  refine con_start (y := yX2_orderByNumbers) (bytes := cX2_orderByNumbers) (maxL := 4) (av := [.ref aP, .ref aZ]) (Qc := fun A => va_Qi (fun r2 (_ : Nat → Nat) => r2 = r) (bB D (xT cI cJ cZ) (fun _ => [(aP, .inr (2, [.ref aP_slots, .ref aP_termsSeen, .ref aP_matches, .ref aP_matchCount, .ref aP_variables, .ref aP_havingVariable, .ref aP_told, .ref aP_parent, .ref aP_allBefore, .int P_required, .int P_hinted, .int P_count])), (aZ, .inl (cI, 8, .inl Z')), (aP_parent, .inl (cI, 8, .inl P_parent))]) A) A) (by decide) (Nat.le_of_ble_eq_true rfl) ?_
  intro p e s m args below meth c Q A hx hb hr hlk hml hown hin htg hN hK hQ hA hP hD hS ls hl
  have hl : lv_has ls 4 [(0, .ref aP), (1, .ref aZ)] := hl
  have hown : s.vm.findClass RX2 = some m.cls := hown
  have hf := (f_Patterns_orderByNumbers_u n P_required P_count Z P_parent).symm.trans hf
  refine lv_iconst (v := (0 : Int32)) hx hb dX2_orderByNumbers_0 (by decide) ?_
  refine lv_istore_n (lv' := [(2, .int (0 : Int32)), (0, .ref aP), (1, .ref aZ)]) hx hb dX2_orderByNumbers_1 rfl hl (by decide) rfl (fun ls hl => ?_)
  refine lv_iconst (v := (0 : Int32)) hx hb dX2_orderByNumbers_2 (by decide) ?_
  refine lv_istore_n (lv' := [(3, .int (0 : Int32)), (2, .int (0 : Int32)), (0, .ref aP), (1, .ref aZ)]) hx hb dX2_orderByNumbers_3 rfl hl (by decide) rfl (fun ls hl => ?_)
  have L_4_19 : ∀ (k : Nat) (Z_20 : Nat → Int32) (x2_21 : Int32) (x3_22 : Int32) (o_19 : ((Nat → Int32) × Int32)), f_Patterns_orderByNumbers_L0 n P_required P_count k Z_20 x2_21 x3_22 = some o_19 → ∀ (H : Heap) (locs : List Loc), va_P D vwCl [(aP, .inr (2, [.ref aP_slots, .ref aP_termsSeen, .ref aP_matches, .ref aP_matchCount, .ref aP_variables, .ref aP_havingVariable, .ref aP_told, .ref aP_parent, .ref aP_allBefore, .int P_required, .int P_hinted, .int P_count])), (aZ, .inl (cI, 8, .inl Z_20)), (aP_parent, .inl (cI, 8, .inl P_parent))] H → va_D A [(aP, .inr (2, [.ref aP_slots, .ref aP_termsSeen, .ref aP_matches, .ref aP_matchCount, .ref aP_variables, .ref aP_havingVariable, .ref aP_told, .ref aP_parent, .ref aP_allBefore, .int P_required, .int P_hinted, .int P_count])), (aZ, .inl (cI, 8, .inl Z_20)), (aP_parent, .inl (cI, 8, .inl P_parent))] → va_S A s.heap H locs → ∀ ls : Array Slot, lv_has ls 4 [(0, .ref aP), (1, .ref aZ), (2, .int x2_21), (3, .int x3_22)] → (∀ (Z_23 : Nat → Int32) (x2_24 : Int32), some ((Z_23, x2_24)) = some o_19 → ∀ (H : Heap) (locs : List Loc), va_P D vwCl [(aP, .inr (2, [.ref aP_slots, .ref aP_termsSeen, .ref aP_matches, .ref aP_matchCount, .ref aP_variables, .ref aP_havingVariable, .ref aP_told, .ref aP_parent, .ref aP_allBefore, .int P_required, .int P_hinted, .int P_count])), (aZ, .inl (cI, 8, .inl Z_23)), (aP_parent, .inl (cI, 8, .inl P_parent))] H → va_D A [(aP, .inr (2, [.ref aP_slots, .ref aP_termsSeen, .ref aP_matches, .ref aP_matchCount, .ref aP_variables, .ref aP_havingVariable, .ref aP_told, .ref aP_parent, .ref aP_allBefore, .int P_required, .int P_hinted, .int P_count])), (aZ, .inl (cI, 8, .inl Z_23)), (aP_parent, .inl (cI, 8, .inl P_parent))] → va_S A s.heap H locs → ∀ ls : Array Slot, lv_has ls 4 [(0, .ref aP), (1, .ref aZ), (2, .int x2_24)] → W p l e rm_f_Patterns_orderByNumbers s m args below meth c H locs 0 0 Q (F0 m 33 ls [])) → W p l e rm_f_Patterns_orderByNumbers s m args below meth c H locs 0 0 Q (F0 m 4 ls []) := by
    intro k
    induction k with
    | zero =>
      intro Z_20 x2_21 x3_22 o_19 hf
      exact absurd (((f_Patterns_orderByNumbers_L0_z n P_required P_count Z_20 x2_21 x3_22).symm.trans hf)) (fun h => by cases h)
    | succ k ih =>
      intro Z_20 x2_21 x3_22 o_19 hf H locs hP hD hS ls hl hX_19
      have hf := (f_Patterns_orderByNumbers_L0_s n P_required P_count k Z_20 x2_21 x3_22).symm.trans hf
      refine lv_iload_n hx hb dX2_orderByNumbers_4 rfl (lv_at hl 3 rfl) ?_
      refine lv_aload_n hx hb dX2_orderByNumbers_5 rfl (lv_at hl 0 rfl) ?_
      refine va_get (D := D) (ci := 2) (v := .int P_count) (C := RX2) (T := TX2) (N := 12) hx hb htg giX2 hown hK hP 0 rfl rfl 11 (by decide) (htg _ kw_62) (fun _ h9 => h9) rfl dX2_orderByNumbers_6 ?_
      refine lv_icmp_ge (tgt := 33) hx hb dX2_orderByNumbers_9 (by decide) (fun c_25 => ?_) (fun c_25 => ?_)
      · have hf := xb_t c_25 hf
        exact hX_19 Z_20 x2_21 hf _ _ hP hD hS _ (lv_sub hl [0, 1, 2] rfl)
      · have hf := xb_f c_25 hf
        refine lv_aload_n hx hb dX2_orderByNumbers_12 rfl (lv_at hl 0 rfl) ?_
        refine lv_iload_n hx hb dX2_orderByNumbers_13 rfl (lv_at hl 3 rfl) ?_
        refine x_z (xrV (As := [.int x3_22]) (b := aP) (rest := []) ⟨hx, hb, hml, hown, htg⟩ (c_f_Patterns_isRequired l D cI cJ cZ _ aP x3_22 aP_slots aP_termsSeen aP_matches aP_matchCount aP_variables aP_havingVariable aP_told aP_parent aP_allBefore P_required P_hinted P_count rfl) kc_f_Patterns_isRequired kw_543 kw_302 kw_303 kw_3 dd_f_Patterns_isRequired ⟨Nat.le_of_ble_eq_true rfl, Nat.le_of_ble_eq_true rfl⟩ rfl rfl (hP.sub [0] rfl) (hD.sub [0] (by decide) rfl) hK hN hP (q0 := 0) rfl rfl rfl hl.1 rfl (Nat.le_of_ble_eq_true rfl) dX2_orderByNumbers_14 ⟨Nat.le_of_ble_eq_true rfl, Nat.le_of_ble_eq_true rfl⟩) hP hD hS hA [0] [1, 2] rfl rfl (by decide) (by decide) (fun _ H locs bz_26 hP hD hS => ?_)
        have hP : va_P D vwCl [(aZ, .inl (cI, 8, .inl Z_20)), (aP_parent, .inl (cI, 8, .inl P_parent)), (aP, .inr (2, [.ref aP_slots, .ref aP_termsSeen, .ref aP_matches, .ref aP_matchCount, .ref aP_variables, .ref aP_havingVariable, .ref aP_told, .ref aP_parent, .ref aP_allBefore, .int P_required, .int P_hinted, .int P_count]))] H := hP
        have hD : va_D A [(aZ, .inl (cI, 8, .inl Z_20)), (aP_parent, .inl (cI, 8, .inl P_parent)), (aP, .inr (2, [.ref aP_slots, .ref aP_termsSeen, .ref aP_matches, .ref aP_matchCount, .ref aP_variables, .ref aP_havingVariable, .ref aP_told, .ref aP_parent, .ref aP_allBefore, .int P_required, .int P_hinted, .int P_count]))] := hD
        refine lv_if_eq (tgt := 27) hx hb dX2_orderByNumbers_17 (by decide) (fun c_27 => ?_) (fun c_27 => ?_)
        · have hf := xb_t c_27 hf
          obtain ⟨x3_28, ex3_28⟩ : ∃ y : Int32, y = x3_22 + (1 : Int32) := ⟨_, rfl⟩
          have hf := nm_nm ex3_28 hf
          refine lv_iinc (v := x3_28) (lv' := [(3, .int x3_28), (0, .ref aP), (1, .ref aZ), (2, .int x2_21)]) hx hb dX2_orderByNumbers_27 hl (k := 3) rfl (by rw [ex3_28]; rfl) (by decide) rfl (fun ls hl => ?_)
          refine lv_goto (tgt := 4) hx hb dX2_orderByNumbers_30 (by decide) ?_
          exact ih Z_20 x2_21 x3_28 o_19 hf _ _ (hP.sub [2, 0, 1] rfl) (hD.sub [2, 0, 1] (by decide) rfl) hS _ (lv_sub hl [1, 2, 3, 0] rfl) hX_19
        · have hf := xb_f c_27 hf
          refine lv_aload_n hx hb dX2_orderByNumbers_20 rfl (lv_at hl 1 rfl) ?_
          refine lv_iload_n hx hb dX2_orderByNumbers_21 rfl (lv_at hl 2 rfl) ?_
          refine lv_iload_n hx hb dX2_orderByNumbers_22 rfl (lv_at hl 3 rfl) ?_
          have g_29 : vp_in x2_21 8 := gd_in hf
          have hf := gd_el hf
          refine x_iast hx hb hK hP hD hS 0 0 rfl rfl g_29 dX2_orderByNumbers_23 (fun Z_30 eZ_30 H locs hP hD hS => ?_)
          have hf := nm_nm eZ_30 hf
          have hP : va_P D vwCl [(aZ, .inl (cI, 8, .inl Z_30)), (aP_parent, .inl (cI, 8, .inl P_parent)), (aP, .inr (2, [.ref aP_slots, .ref aP_termsSeen, .ref aP_matches, .ref aP_matchCount, .ref aP_variables, .ref aP_havingVariable, .ref aP_told, .ref aP_parent, .ref aP_allBefore, .int P_required, .int P_hinted, .int P_count]))] H := hP
          have hD : va_D A [(aZ, .inl (cI, 8, .inl Z_30)), (aP_parent, .inl (cI, 8, .inl P_parent)), (aP, .inr (2, [.ref aP_slots, .ref aP_termsSeen, .ref aP_matches, .ref aP_matchCount, .ref aP_variables, .ref aP_havingVariable, .ref aP_told, .ref aP_parent, .ref aP_allBefore, .int P_required, .int P_hinted, .int P_count]))] := hD
          obtain ⟨x2_31, ex2_31⟩ : ∃ y : Int32, y = x2_21 + (1 : Int32) := ⟨_, rfl⟩
          have hf := nm_nm ex2_31 hf
          refine lv_iinc (v := x2_31) (lv' := [(2, .int x2_31), (0, .ref aP), (1, .ref aZ), (3, .int x3_22)]) hx hb dX2_orderByNumbers_24 hl (k := 2) rfl (by rw [ex2_31]; rfl) (by decide) rfl (fun ls hl => ?_)
          obtain ⟨x3_32, ex3_32⟩ : ∃ y : Int32, y = x3_22 + (1 : Int32) := ⟨_, rfl⟩
          have hf := nm_nm ex3_32 hf
          refine lv_iinc (v := x3_32) (lv' := [(3, .int x3_32), (2, .int x2_31), (0, .ref aP), (1, .ref aZ)]) hx hb dX2_orderByNumbers_27 hl (k := 3) rfl (by rw [ex3_32]; rfl) (by decide) rfl (fun ls hl => ?_)
          refine lv_goto (tgt := 4) hx hb dX2_orderByNumbers_30 (by decide) ?_
          exact ih Z_30 x2_31 x3_32 o_19 hf _ _ (hP.sub [2, 0, 1] rfl) (hD.sub [2, 0, 1] (by decide) rfl) hS _ (lv_sub hl [2, 3, 1, 0] rfl) hX_19
  obtain ⟨o_19, ho_19, hk_19⟩ := bn2_s hf
  refine L_4_19 n Z (0 : Int32) (0 : Int32) o_19 ho_19 _ _ hP hD hS _ (lv_sub hl [2, 3, 1, 0] rfl) (fun Z_23 x2_24 hf H locs hP hD hS ls hl => ?_)
  have hf := hk_19 _ _ hf
  refine lv_aload_n hx hb dX2_orderByNumbers_33 rfl (lv_at hl 0 rfl) ?_
  refine lv_aload_n hx hb dX2_orderByNumbers_34 rfl (lv_at hl 1 rfl) ?_
  refine lv_iload_n hx hb dX2_orderByNumbers_35 rfl (lv_at hl 2 rfl) ?_
  obtain ⟨Z_34, hq_33, hf⟩ := bn1_c hf
  refine x_v (xrV (As := [.ref aZ, .int x2_24]) (b := aP) (rest := []) ⟨hx, hb, hml, hown, htg⟩ (c_f_Patterns_orderOptional l D cI cJ cZ _ n aP aZ x2_24 aP_slots aP_termsSeen aP_matches aP_matchCount aP_variables aP_havingVariable aP_told aP_parent aP_allBefore P_required P_hinted P_count P_parent Z_23 hq_33) kc_f_Patterns_orderOptional kw_544 kw_428 kw_429 kw_3 dd_f_Patterns_orderOptional ⟨Nat.le_of_ble_eq_true rfl, Nat.le_of_ble_eq_true rfl⟩ rfl rfl (hP.sub [0, 2, 1] rfl) (hD.sub [0, 2, 1] (by decide) rfl) hK hN hP (q0 := 0) rfl rfl rfl hl.1 rfl (Nat.le_of_ble_eq_true rfl) dX2_orderByNumbers_36 ⟨Nat.le_of_ble_eq_true rfl, Nat.le_of_ble_eq_true rfl⟩) hP hD hS hA [0, 2, 1] [] rfl rfl (by decide) (by decide) (fun _ H locs hP hD hS => ?_)
  have hP : va_P D vwCl [(aP, .inr (2, [.ref aP_slots, .ref aP_termsSeen, .ref aP_matches, .ref aP_matchCount, .ref aP_variables, .ref aP_havingVariable, .ref aP_told, .ref aP_parent, .ref aP_allBefore, .int P_required, .int P_hinted, .int P_count])), (aP_parent, .inl (cI, 8, .inl P_parent)), (aZ, .inl (cI, 8, .inl Z_34))] H := hP
  have hD : va_D A [(aP, .inr (2, [.ref aP_slots, .ref aP_termsSeen, .ref aP_matches, .ref aP_matchCount, .ref aP_variables, .ref aP_havingVariable, .ref aP_told, .ref aP_parent, .ref aP_allBefore, .int P_required, .int P_hinted, .int P_count])), (aP_parent, .inl (cI, 8, .inl P_parent)), (aZ, .inl (cI, 8, .inl Z_34))] := hD
  refine lv_aload_n hx hb dX2_orderByNumbers_39 rfl (lv_at hl 0 rfl) ?_
  refine va_get (D := D) (ci := 2) (v := .int P_count) (C := RX2) (T := TX2) (N := 12) hx hb htg giX2 hown hK hP 0 rfl rfl 11 (by decide) (htg _ kw_62) (fun _ h9 => h9) rfl dX2_orderByNumbers_40 ?_
  have hf := Option.some.inj hf
  obtain ⟨k9_0, f9_0⟩ := Prod.mk.inj hf
  subst k9_0
  subst f9_0
  exact x_iret (fun _ => 0) hQ hx hb hr hlk hK (hP.sub [0, 2, 1] rfl) (hD.sub [0, 2, 1] (by decide) rfl) hS dX2_orderByNumbers_43
