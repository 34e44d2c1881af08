abbrev rm_f_Table_bindings : Room := { frames := 1, cells := 0, slots := 0, locals := 22 }
set_option maxHeartbeats 4000000 in
set_option maxRecDepth 100000 in
theorem c_f_Table_bindings (l : Launch) (D : va_G) (cI cJ cZ : ClassId) (sz : Nat) (n : Nat) (x0 : Int32) (aP : Nat) (x2 : Int32) (aP_slots : Nat) (aP_termsSeen : Nat) (aP_matches : Nat) (aP_matchCount : Nat) (aP_variables : Nat) (aP_havingVariable : Nat) (aP_told : Nat) (aP_parent : Nat) (aP_allBefore : Nat) (P_required : Int32) (P_hinted : Int32) (P_count : Int32) (P_slots : Nat → Int32) {r : Int64} (hf : f_Table_bindings n x0 x2 P_slots = some r) : Met l yX5_bindings (.code yX5_bindings cX5_bindings 7 (some .long) :: GW) rm_f_Table_bindings (va_Pc [.int x0, .ref aP, .int x2] (xP D (xT cI cJ cZ) sz [(aP, .inr (2, [.ref aP_slots, .ref aP_termsSeen, .ref aP_matches, .ref aP_matchCount, .ref aP_variables, .ref aP_havingVariable, .ref aP_told, .ref aP_parent, .ref aP_allBefore, .int P_required, .int P_hinted, .int P_count])), (aP_slots, .inl (cI, 24, .inl P_slots))])) (va_Ql (fun r2 (_ : Nat → Nat) => r2 = r) (bB D (xT cI cJ cZ) (fun _ => [(aP, .inr (2, [.ref aP_slots, .ref aP_termsSeen, .ref aP_matches, .ref aP_matchCount, .ref aP_variables, .ref aP_havingVariable, .ref aP_told, .ref aP_parent, .ref aP_allBefore, .int P_required, .int P_hinted, .int P_count])), (aP_slots, .inl (cI, 24, .inl P_slots))]) (va_A [(aP, .inr (2, [.ref aP_slots, .ref aP_termsSeen, .ref aP_matches, .ref aP_matchCount, .ref aP_variables, .ref aP_havingVariable, .ref aP_told, .ref aP_parent, .ref aP_allBefore, .int P_required, .int P_hinted, .int P_count])), (aP_slots, .inl (cI, 24, .inl P_slots))] sz)) (va_A [(aP, .inr (2, [.ref aP_slots, .ref aP_termsSeen, .ref aP_matches, .ref aP_matchCount, .ref aP_variables, .ref aP_havingVariable, .ref aP_told, .ref aP_parent, .ref aP_allBefore, .int P_required, .int P_hinted, .int P_count])), (aP_slots, .inl (cI, 24, .inl P_slots))] sz)) 0 0 (va_A [(aP, .inr (2, [.ref aP_slots, .ref aP_termsSeen, .ref aP_matches, .ref aP_matchCount, .ref aP_variables, .ref aP_havingVariable, .ref aP_told, .ref aP_parent, .ref aP_allBefore, .int P_required, .int P_hinted, .int P_count])), (aP_slots, .inl (cI, 24, .inl P_slots))] sz) := by
  refine con_start (y := yX5_bindings) (bytes := cX5_bindings) (maxL := 7) (av := [.int x0, .ref aP, .int x2]) (Qc := fun A => va_Ql (fun r2 (_ : Nat → Nat) => r2 = r) (bB D (xT cI cJ cZ) (fun _ => [(aP, .inr (2, [.ref aP_slots, .ref aP_termsSeen, .ref aP_matches, .ref aP_matchCount, .ref aP_variables, .ref aP_havingVariable, .ref aP_told, .ref aP_parent, .ref aP_allBefore, .int P_required, .int P_hinted, .int P_count])), (aP_slots, .inl (cI, 24, .inl P_slots))]) A) A) (by decide) (Nat.le_of_ble_eq_true rfl) ?_
  intro p e s m args below meth c Q A hx hb hr hlk hml hown hin htg hN hK hQ hA hP hD hS ls hl
  have hl : lv_has ls 7 [(0, .int x0), (1, .ref aP), (2, .int x2)] := hl
  have hown : s.vm.findClass RX5 = some m.cls := hown
  have hf := (f_Table_bindings_u n x0 x2 P_slots).symm.trans hf
  refine lv_lconst (v := (0 : Int64)) hx hb dX5_bindings_0 (by decide) ?_
  refine lv_lstore_n (lv' := [(3, .long (0 : Int64)), (0, .int x0), (1, .ref aP), (2, .int x2)]) hx hb dX5_bindings_1 rfl hl (by decide) rfl (fun ls hl => ?_)
  refine lv_iconst (v := (0 : Int32)) hx hb dX5_bindings_2 (by decide) ?_
  refine lv_istore (lv' := [(5, .int (0 : Int32)), (3, .long (0 : Int64)), (0, .int x0), (1, .ref aP), (2, .int x2)]) hx hb dX5_bindings_3 hl (by decide) rfl (fun ls hl => ?_)
  have L_5_21 : ∀ (k : Nat) (x3_22 : Int64) (x5_23 : Int32) (o_21 : Int64), f_Table_bindings_L0 n x0 x2 P_slots k x3_22 x5_23 = some o_21 → ∀ (H : Heap) (locs : List Loc), va_P D vwCl [(aP, .inr (2, [.ref aP_slots, .ref aP_termsSeen, .ref aP_matches, .ref aP_matchCount, .ref aP_variables, .ref aP_havingVariable, .ref aP_told, .ref aP_parent, .ref aP_allBefore, .int P_required, .int P_hinted, .int P_count])), (aP_slots, .inl (cI, 24, .inl P_slots))] H → va_D A [(aP, .inr (2, [.ref aP_slots, .ref aP_termsSeen, .ref aP_matches, .ref aP_matchCount, .ref aP_variables, .ref aP_havingVariable, .ref aP_told, .ref aP_parent, .ref aP_allBefore, .int P_required, .int P_hinted, .int P_count])), (aP_slots, .inl (cI, 24, .inl P_slots))] → va_S A s.heap H locs → ∀ ls : Array Slot, lv_has ls 7 [(0, .int x0), (1, .ref aP), (2, .int x2), (3, .long x3_22), (5, .int x5_23)] → (∀ (x3_24 : Int64), some (x3_24) = some o_21 → ∀ (H : Heap) (locs : List Loc), va_P D vwCl [(aP, .inr (2, [.ref aP_slots, .ref aP_termsSeen, .ref aP_matches, .ref aP_matchCount, .ref aP_variables, .ref aP_havingVariable, .ref aP_told, .ref aP_parent, .ref aP_allBefore, .int P_required, .int P_hinted, .int P_count])), (aP_slots, .inl (cI, 24, .inl P_slots))] H → va_D A [(aP, .inr (2, [.ref aP_slots, .ref aP_termsSeen, .ref aP_matches, .ref aP_matchCount, .ref aP_variables, .ref aP_havingVariable, .ref aP_told, .ref aP_parent, .ref aP_allBefore, .int P_required, .int P_hinted, .int P_count])), (aP_slots, .inl (cI, 24, .inl P_slots))] → va_S A s.heap H locs → ∀ ls : Array Slot, lv_has ls 7 [(3, .long x3_24)] → W p l e rm_f_Table_bindings s m args below meth c H locs 0 0 Q (F0 m 52 ls [])) → W p l e rm_f_Table_bindings s m args below meth c H locs 0 0 Q (F0 m 5 ls []) := by
    intro k
    induction k with
    | zero =>
      intro x3_22 x5_23 o_21 hf
      exact absurd (((f_Table_bindings_L0_z n x0 x2 P_slots x3_22 x5_23).symm.trans hf)) (fun h => by cases h)
    | succ k ih =>
      intro x3_22 x5_23 o_21 hf H locs hP hD hS ls hl hX_21
      have hf := (f_Table_bindings_L0_s n x0 x2 P_slots k x3_22 x5_23).symm.trans hf
      refine lv_iload hx hb dX5_bindings_5 (lv_at hl 4 rfl) ?_
      refine lv_iconst (v := (3 : Int32)) hx hb dX5_bindings_7 (by decide) ?_
      refine lv_icmp_ge (tgt := 52) hx hb dX5_bindings_8 (by decide) (fun c_25 => ?_) (fun c_25 => ?_)
      · have hf := xb_t c_25 hf
        exact hX_21 x3_22 hf _ _ hP hD hS _ (lv_sub hl [3] rfl)
      · have hf := xb_f c_25 hf
        refine lv_aload_n hx hb dX5_bindings_11 rfl (lv_at hl 1 rfl) ?_
        refine lv_iload_n hx hb dX5_bindings_12 rfl (lv_at hl 2 rfl) ?_
        refine lv_iload hx hb dX5_bindings_13 (lv_at hl 4 rfl) ?_
        obtain ⟨r_27, hq_26, hf⟩ := bn1_c hf
        refine x_i (xrV (As := [.int x2, .int x5_23]) (b := aP) (rest := []) ⟨hx, hb, hml, hown, htg⟩ (c_f_Patterns_slot l D cI cJ cZ _ aP x2 x5_23 aP_slots aP_termsSeen aP_matches aP_matchCount aP_variables aP_havingVariable aP_told aP_parent aP_allBefore P_required P_hinted P_count P_slots hq_26) kc_f_Patterns_slot kw_493 kw_262 kw_263 kw_3 dd_f_Patterns_slot ⟨Nat.le_of_ble_eq_true rfl, Nat.le_of_ble_eq_true rfl⟩ rfl rfl hP hD hK hN hP (q0 := 0) rfl rfl rfl hl.1 rfl (Nat.le_of_ble_eq_true rfl) dX5_bindings_15 ⟨Nat.le_of_ble_eq_true rfl, Nat.le_of_ble_eq_true rfl⟩) hP hD hS hA [0, 1] [] rfl rfl (by decide) (by decide) (fun _ H locs hP hD hS => ?_)
        have hP : va_P D vwCl [(aP, .inr (2, [.ref aP_slots, .ref aP_termsSeen, .ref aP_matches, .ref aP_matchCount, .ref aP_variables, .ref aP_havingVariable, .ref aP_told, .ref aP_parent, .ref aP_allBefore, .int P_required, .int P_hinted, .int P_count])), (aP_slots, .inl (cI, 24, .inl P_slots))] H := hP
        have hD : va_D A [(aP, .inr (2, [.ref aP_slots, .ref aP_termsSeen, .ref aP_matches, .ref aP_matchCount, .ref aP_variables, .ref aP_havingVariable, .ref aP_told, .ref aP_parent, .ref aP_allBefore, .int P_required, .int P_hinted, .int P_count])), (aP_slots, .inl (cI, 24, .inl P_slots))] := hD
        refine lv_istore (lv' := [(6, .int r_27), (0, .int x0), (1, .ref aP), (2, .int x2), (3, .long x3_22), (5, .int x5_23)]) hx hb dX5_bindings_18 hl (by decide) rfl (fun ls hl => ?_)
        refine lv_iload hx hb dX5_bindings_20 (lv_at hl 0 rfl) ?_
        refine lv_if_ge (tgt := 46) hx hb dX5_bindings_22 (by decide) (fun c_28 => ?_) (fun c_28 => ?_)
        · have hf := xb_t c_28 hf
          obtain ⟨x5_29, ex5_29⟩ : ∃ y : Int32, y = x5_23 + (1 : Int32) := ⟨_, rfl⟩
          have hf := nm_nm ex5_29 hf
          refine lv_iinc (v := x5_29) (lv' := [(5, .int x5_29), (6, .int r_27), (0, .int x0), (1, .ref aP), (2, .int x2), (3, .long x3_22)]) hx hb dX5_bindings_46 hl (k := 5) rfl (by rw [ex5_29]; rfl) (by decide) rfl (fun ls hl => ?_)
          refine lv_goto (tgt := 5) hx hb dX5_bindings_49 (by decide) ?_
          exact ih x3_22 x5_29 o_21 hf _ _ hP hD hS _ (lv_sub hl [2, 3, 4, 5, 0] rfl) hX_21
        · have hf := xb_f c_28 hf
          refine lv_lload_n hx hb dX5_bindings_25 rfl (lv_at hl 4 rfl) ?_
          refine lv_iload_n hx hb dX5_bindings_26 rfl (lv_at hl 1 rfl) ?_
          refine lv_iload hx hb dX5_bindings_27 (lv_at hl 5 rfl) ?_
          refine x_i (xrS (As := [.int x0, .int x5_23]) (rest := [.long x3_22]) ⟨hx, hb, hml, hown, htg⟩ (c_f_Triples_part l D cI cJ cZ _ x0 x5_23 rfl) kc_f_Triples_part kw_503 kw_266 kw_2 dd_f_Triples_part ⟨Nat.le_of_ble_eq_true rfl, Nat.le_of_ble_eq_true rfl⟩ rfl rfl (hP.sub [] rfl) (hD.sub [] (by decide) rfl) hK hN rfl hl.1 rfl (Nat.le_of_ble_eq_true rfl) dX5_bindings_29 ⟨Nat.le_of_ble_eq_true rfl, Nat.le_of_ble_eq_true rfl⟩) hP hD hS hA [] [0, 1] rfl rfl (by decide) (by decide) (fun _ H locs hP hD hS => ?_)
          have hP : va_P D vwCl [(aP, .inr (2, [.ref aP_slots, .ref aP_termsSeen, .ref aP_matches, .ref aP_matchCount, .ref aP_variables, .ref aP_havingVariable, .ref aP_told, .ref aP_parent, .ref aP_allBefore, .int P_required, .int P_hinted, .int P_count])), (aP_slots, .inl (cI, 24, .inl P_slots))] H := hP
          have hD : va_D A [(aP, .inr (2, [.ref aP_slots, .ref aP_termsSeen, .ref aP_matches, .ref aP_matchCount, .ref aP_variables, .ref aP_havingVariable, .ref aP_told, .ref aP_parent, .ref aP_allBefore, .int P_required, .int P_hinted, .int P_count])), (aP_slots, .inl (cI, 24, .inl P_slots))] := hD
          refine lv_iconst (v := (1 : Int32)) hx hb dX5_bindings_32 (by decide) ?_
          refine lv_iadd hx hb dX5_bindings_33 ?_
          refine lv_i2l hx hb dX5_bindings_34 rfl ?_
          refine lv_iload hx hb dX5_bindings_35 (lv_at hl 0 rfl) ?_
          refine x_i (xrSN (As := [.int r_27]) (rest := [.long (((f_Triples_part x0 x5_23) + (1 : Int32)).toInt64), .long x3_22]) ⟨hx, hb, hml, hown, htg⟩ (c_f_JoinOrder_indexOf l D cI cJ cZ _ r_27 rfl) kc_f_JoinOrder_indexOf kn_494 kw_291 kw_1 dd_f_JoinOrder_indexOf ⟨Nat.le_of_ble_eq_true rfl, Nat.le_of_ble_eq_true rfl⟩ rfl rfl (hP.sub [] rfl) (hD.sub [] (by decide) rfl) hK hN rfl hl.1 rfl (Nat.le_of_ble_eq_true rfl) dX5_bindings_37 ⟨Nat.le_of_ble_eq_true rfl, Nat.le_of_ble_eq_true rfl⟩) hP hD hS hA [] [0, 1] rfl rfl (by decide) (by decide) (fun _ H locs hP hD hS => ?_)
          have hP : va_P D vwCl [(aP, .inr (2, [.ref aP_slots, .ref aP_termsSeen, .ref aP_matches, .ref aP_matchCount, .ref aP_variables, .ref aP_havingVariable, .ref aP_told, .ref aP_parent, .ref aP_allBefore, .int P_required, .int P_hinted, .int P_count])), (aP_slots, .inl (cI, 24, .inl P_slots))] H := hP
          have hD : va_D A [(aP, .inr (2, [.ref aP_slots, .ref aP_termsSeen, .ref aP_matches, .ref aP_matchCount, .ref aP_variables, .ref aP_havingVariable, .ref aP_told, .ref aP_parent, .ref aP_allBefore, .int P_required, .int P_hinted, .int P_count])), (aP_slots, .inl (cI, 24, .inl P_slots))] := hD
          refine lv_bipush (v := (6 : Int32)) hx hb dX5_bindings_40 (by decide) ?_
          refine lv_imul hx hb dX5_bindings_42 ?_
          refine lv_lshl hx hb dX5_bindings_43 rfl ?_
          refine lv_lor hx hb dX5_bindings_44 ?_
          refine lv_topl (fun x3_32 ex3_32 => ?_)
          have hf := nm_nm ex3_32 hf
          refine lv_lstore_n (lv' := [(3, .long x3_32), (6, .int r_27), (0, .int x0), (1, .ref aP), (2, .int x2), (5, .int x5_23)]) hx hb dX5_bindings_45 rfl hl (by decide) rfl (fun ls hl => ?_)
          obtain ⟨x5_33, ex5_33⟩ : ∃ y : Int32, y = x5_23 + (1 : Int32) := ⟨_, rfl⟩
          have hf := nm_nm ex5_33 hf
          refine lv_iinc (v := x5_33) (lv' := [(5, .int x5_33), (3, .long x3_32), (6, .int r_27), (0, .int x0), (1, .ref aP), (2, .int x2)]) hx hb dX5_bindings_46 hl (k := 5) rfl (by rw [ex5_33]; rfl) (by decide) rfl (fun ls hl => ?_)
          refine lv_goto (tgt := 5) hx hb dX5_bindings_49 (by decide) ?_
          exact ih x3_32 x5_33 o_21 hf _ _ hP hD hS _ (lv_sub hl [3, 4, 5, 1, 0] rfl) hX_21
  obtain ⟨o_21, ho_21, hk_21⟩ := bn1_s hf
  refine L_5_21 n (0 : Int64) (0 : Int32) o_21 ho_21 _ _ hP hD hS _ (lv_sub hl [2, 3, 4, 1, 0] rfl) (fun x3_24 hf H locs hP hD hS ls hl => ?_)
  have hf := hk_21 _ hf
  refine lv_lload_n hx hb dX5_bindings_52 rfl (lv_at hl 0 rfl) ?_
  have hf := Option.some.inj hf
  subst hf
  exact x_lret (fun _ => 0) hQ hx hb hr hlk hK hP hD hS dX5_bindings_53
