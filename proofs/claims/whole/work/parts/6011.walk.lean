abbrev rm_f_Patterns_agrees : Room := { frames := 1, cells := 0, slots := 0, locals := 22 }
set_option maxHeartbeats 4000000 in
set_option maxRecDepth 100000 in
theorem c_f_Patterns_agrees (l : Launch) (D : va_G) (cI cJ cZ : ClassId) (sz : Nat) (n : Nat) (aP : Nat) (x1 : Int32) (x2 : Int32) (x3 : Int32) (aP_slots : Nat) (aP_termsSeen : Nat) (aP_matches : Nat) (aP_matchCount : Nat) (aP_variables : Nat) (aP_havingVariable : Nat) (aP_told : Nat) (aP_parent : Nat) (aP_allBefore : Nat) (P_required : Int32) (P_hinted : Int32) (P_count : Int32) (P_slots : Nat → Int32) {r : Int32} (hf : f_Patterns_agrees n x1 x2 x3 P_slots = some r) : Met l yX2_agrees (.code yX2_agrees cX2_agrees 5 (some .boolean) :: GW) rm_f_Patterns_agrees (va_Pc [.ref aP, .int x1, .int x2, .int x3] (xP D (xT cI cJ cZ) sz [(aP, .inr (2, [.ref aP_slots, .ref aP_termsSeen, .ref aP_matches, .ref aP_matchCount, .ref aP_variables, .ref aP_havingVariable, .ref aP_told, .ref aP_parent, .ref aP_allBefore, .int P_required, .int P_hinted, .int P_count])), (aP_slots, .inl (cI, 24, .inl P_slots))])) (va_Qi (fun r2 (_ : Nat → Nat) => r2 = r ∧ (r = 0 ∨ r = 1)) (bB D (xT cI cJ cZ) (fun _ => [(aP, .inr (2, [.ref aP_slots, .ref aP_termsSeen, .ref aP_matches, .ref aP_matchCount, .ref aP_variables, .ref aP_havingVariable, .ref aP_told, .ref aP_parent, .ref aP_allBefore, .int P_required, .int P_hinted, .int P_count])), (aP_slots, .inl (cI, 24, .inl P_slots))]) (va_A [(aP, .inr (2, [.ref aP_slots, .ref aP_termsSeen, .ref aP_matches, .ref aP_matchCount, .ref aP_variables, .ref aP_havingVariable, .ref aP_told, .ref aP_parent, .ref aP_allBefore, .int P_required, .int P_hinted, .int P_count])), (aP_slots, .inl (cI, 24, .inl P_slots))] sz)) (va_A [(aP, .inr (2, [.ref aP_slots, .ref aP_termsSeen, .ref aP_matches, .ref aP_matchCount, .ref aP_variables, .ref aP_havingVariable, .ref aP_told, .ref aP_parent, .ref aP_allBefore, .int P_required, .int P_hinted, .int P_count])), (aP_slots, .inl (cI, 24, .inl P_slots))] sz)) 0 0 (va_A [(aP, .inr (2, [.ref aP_slots, .ref aP_termsSeen, .ref aP_matches, .ref aP_matchCount, .ref aP_variables, .ref aP_havingVariable, .ref aP_told, .ref aP_parent, .ref aP_allBefore, .int P_required, .int P_hinted, .int P_count])), (aP_slots, .inl (cI, 24, .inl P_slots))] sz) := by
  refine con_start (y := yX2_agrees) (bytes := cX2_agrees) (maxL := 5) (av := [.ref aP, .int x1, .int x2, .int x3]) (Qc := fun A => va_Qi (fun r2 (_ : Nat → Nat) => r2 = r ∧ (r = 0 ∨ r = 1)) (bB D (xT cI cJ cZ) (fun _ => [(aP, .inr (2, [.ref aP_slots, .ref aP_termsSeen, .ref aP_matches, .ref aP_matchCount, .ref aP_variables, .ref aP_havingVariable, .ref aP_told, .ref aP_parent, .ref aP_allBefore, .int P_required, .int P_hinted, .int P_count])), (aP_slots, .inl (cI, 24, .inl P_slots))]) A) A) (by decide) (Nat.le_of_ble_eq_true rfl) ?_
  intro p e s m args below meth c Q A hx hb hr hlk hml hown hin htg hN hK hQ hA hP hD hS ls hl
  have hl : lv_has ls 5 [(0, .ref aP), (1, .int x1), (2, .int x2), (3, .int x3)] := hl
  have hown : s.vm.findClass RX2 = some m.cls := hown
  have hf := (f_Patterns_agrees_u n x1 x2 x3 P_slots).symm.trans hf
  refine lv_iconst (v := (0 : Int32)) hx hb dX2_agrees_0 (by decide) ?_
  refine lv_istore (lv' := [(4, .int (0 : Int32)), (0, .ref aP), (1, .int x1), (2, .int x2), (3, .int x3)]) hx hb dX2_agrees_1 hl (by decide) rfl (fun ls hl => ?_)
  have L_3_24 : ∀ (k : Nat) (x4_25 : Int32) (o_24 : (Int32 ⊕ Unit)), f_Patterns_agrees_L0 n x1 x2 x3 P_slots k x4_25 = some o_24 → (∀ z : Int32, some (Sum.inl z) = some o_24 → z = r) → ∀ (H : Heap) (locs : List Loc), va_P D vwCl [(aP, .inr (2, [.ref aP_slots, .ref aP_termsSeen, .ref aP_matches, .ref aP_matchCount, .ref aP_variables, .ref aP_havingVariable, .ref aP_told, .ref aP_parent, .ref aP_allBefore, .int P_required, .int P_hinted, .int P_count])), (aP_slots, .inl (cI, 24, .inl P_slots))] H → va_D A [(aP, .inr (2, [.ref aP_slots, .ref aP_termsSeen, .ref aP_matches, .ref aP_matchCount, .ref aP_variables, .ref aP_havingVariable, .ref aP_told, .ref aP_parent, .ref aP_allBefore, .int P_required, .int P_hinted, .int P_count])), (aP_slots, .inl (cI, 24, .inl P_slots))] → va_S A s.heap H locs → ∀ ls : Array Slot, lv_has ls 5 [(0, .ref aP), (1, .int x1), (2, .int x2), (3, .int x3), (4, .int x4_25)] → (some (Sum.inr ()) = some o_24 → ∀ (H : Heap) (locs : List Loc), va_P D vwCl [(aP, .inr (2, [.ref aP_slots, .ref aP_termsSeen, .ref aP_matches, .ref aP_matchCount, .ref aP_variables, .ref aP_havingVariable, .ref aP_told, .ref aP_parent, .ref aP_allBefore, .int P_required, .int P_hinted, .int P_count])), (aP_slots, .inl (cI, 24, .inl P_slots))] H → va_D A [(aP, .inr (2, [.ref aP_slots, .ref aP_termsSeen, .ref aP_matches, .ref aP_matchCount, .ref aP_variables, .ref aP_havingVariable, .ref aP_told, .ref aP_parent, .ref aP_allBefore, .int P_required, .int P_hinted, .int P_count])), (aP_slots, .inl (cI, 24, .inl P_slots))] → va_S A s.heap H locs → ∀ ls : Array Slot, lv_has ls 5 [] → W p l e rm_f_Patterns_agrees s m args below meth c H locs 0 0 Q (F0 m 47 ls [])) → W p l e rm_f_Patterns_agrees s m args below meth c H locs 0 0 Q (F0 m 3 ls []) := by
    intro k
    induction k with
    | zero =>
      intro x4_25 o_24 hf
      exact absurd (((f_Patterns_agrees_L0_z n x1 x2 x3 P_slots x4_25).symm.trans hf)) (fun h => by cases h)
    | succ k ih =>
      intro x4_25 o_24 hf hret_24 H locs hP hD hS ls hl hX_24
      have hf := (f_Patterns_agrees_L0_s n x1 x2 x3 P_slots k x4_25).symm.trans hf
      refine lv_iload hx hb dX2_agrees_3 (lv_at hl 4 rfl) ?_
      refine lv_iload_n hx hb dX2_agrees_5 rfl (lv_at hl 3 rfl) ?_
      refine lv_icmp_ge (tgt := 47) hx hb dX2_agrees_6 (by decide) (fun c_26 => ?_) (fun c_26 => ?_)
      · have hf := xb_t c_26 hf
        exact hX_24  hf _ _ hP hD hS _ (lv_sub hl [] rfl)
      · have hf := xb_f c_26 hf
        refine lv_aload_n hx hb dX2_agrees_9 rfl (lv_at hl 0 rfl) ?_
        refine lv_iload_n hx hb dX2_agrees_10 rfl (lv_at hl 1 rfl) ?_
        refine lv_iload hx hb dX2_agrees_11 (lv_at hl 4 rfl) ?_
        obtain ⟨r_28, hq_27, hf⟩ := bn1_c hf
        refine x_i (xrV (As := [.int x1, .int x4_25]) (b := aP) (rest := []) ⟨hx, hb, hml, hown, htg⟩ (c_f_Patterns_slot l D cI cJ cZ _ aP x1 x4_25 aP_slots aP_termsSeen aP_matches aP_matchCount aP_variables aP_havingVariable aP_told aP_parent aP_allBefore P_required P_hinted P_count P_slots hq_27) kc_f_Patterns_slot kw_261 kw_262 kw_263 kw_3 dd_f_Patterns_slot ⟨Nat.le_of_ble_eq_true rfl, Nat.le_of_ble_eq_true rfl⟩ rfl rfl hP hD hK hN hP (q0 := 0) rfl rfl rfl hl.1 rfl (Nat.le_of_ble_eq_true rfl) dX2_agrees_13 ⟨Nat.le_of_ble_eq_true rfl, Nat.le_of_ble_eq_true rfl⟩) hP hD hS hA [0, 1] [] rfl rfl (by decide) (by decide) (fun _ H locs hP hD hS => ?_)
        have hP : va_P D vwCl [(aP, .inr (2, [.ref aP_slots, .ref aP_termsSeen, .ref aP_matches, .ref aP_matchCount, .ref aP_variables, .ref aP_havingVariable, .ref aP_told, .ref aP_parent, .ref aP_allBefore, .int P_required, .int P_hinted, .int P_count])), (aP_slots, .inl (cI, 24, .inl P_slots))] H := hP
        have hD : va_D A [(aP, .inr (2, [.ref aP_slots, .ref aP_termsSeen, .ref aP_matches, .ref aP_matchCount, .ref aP_variables, .ref aP_havingVariable, .ref aP_told, .ref aP_parent, .ref aP_allBefore, .int P_required, .int P_hinted, .int P_count])), (aP_slots, .inl (cI, 24, .inl P_slots))] := hD
        refine lv_aload_n hx hb dX2_agrees_16 rfl (lv_at hl 0 rfl) ?_
        refine lv_iload_n hx hb dX2_agrees_17 rfl (lv_at hl 1 rfl) ?_
        refine lv_iload_n hx hb dX2_agrees_18 rfl (lv_at hl 3 rfl) ?_
        obtain ⟨r_30, hq_29, hf⟩ := bn1_c hf
        refine x_i (xrV (As := [.int x1, .int x3]) (b := aP) (rest := [.int r_28]) ⟨hx, hb, hml, hown, htg⟩ (c_f_Patterns_slot l D cI cJ cZ _ aP x1 x3 aP_slots aP_termsSeen aP_matches aP_matchCount aP_variables aP_havingVariable aP_told aP_parent aP_allBefore P_required P_hinted P_count P_slots hq_29) kc_f_Patterns_slot kw_261 kw_262 kw_263 kw_3 dd_f_Patterns_slot ⟨Nat.le_of_ble_eq_true rfl, Nat.le_of_ble_eq_true rfl⟩ rfl rfl hP hD hK hN hP (q0 := 0) rfl rfl rfl hl.1 rfl (Nat.le_of_ble_eq_true rfl) dX2_agrees_19 ⟨Nat.le_of_ble_eq_true rfl, Nat.le_of_ble_eq_true rfl⟩) hP hD hS hA [0, 1] [] rfl rfl (by decide) (by decide) (fun _ H locs hP hD hS => ?_)
        have hP : va_P D vwCl [(aP, .inr (2, [.ref aP_slots, .ref aP_termsSeen, .ref aP_matches, .ref aP_matchCount, .ref aP_variables, .ref aP_havingVariable, .ref aP_told, .ref aP_parent, .ref aP_allBefore, .int P_required, .int P_hinted, .int P_count])), (aP_slots, .inl (cI, 24, .inl P_slots))] H := hP
        have hD : va_D A [(aP, .inr (2, [.ref aP_slots, .ref aP_termsSeen, .ref aP_matches, .ref aP_matchCount, .ref aP_variables, .ref aP_havingVariable, .ref aP_told, .ref aP_parent, .ref aP_allBefore, .int P_required, .int P_hinted, .int P_count])), (aP_slots, .inl (cI, 24, .inl P_slots))] := hD
        refine lv_icmp_ne (tgt := 41) hx hb dX2_agrees_22 (by decide) (fun c_31 => ?_) (fun c_31 => ?_)
        · have hf := xb_f c_31 hf
          obtain ⟨x4_32, ex4_32⟩ : ∃ y : Int32, y = x4_25 + (1 : Int32) := ⟨_, rfl⟩
          have hf := nm_nm ex4_32 hf
          refine lv_iinc (v := x4_32) (lv' := [(4, .int x4_32), (0, .ref aP), (1, .int x1), (2, .int x2), (3, .int x3)]) hx hb dX2_agrees_41 hl (k := 4) rfl (by rw [ex4_32]; rfl) (by decide) rfl (fun ls hl => ?_)
          refine lv_goto (tgt := 3) hx hb dX2_agrees_44 (by decide) ?_
          exact ih x4_32 o_24 hf hret_24 _ _ hP hD hS _ (lv_sub hl [1, 2, 3, 4, 0] rfl) hX_24
        · have hf := xb_t c_31 hf
          refine lv_iload_n hx hb dX2_agrees_25 rfl (lv_at hl 2 rfl) ?_
          refine lv_iload hx hb dX2_agrees_26 (lv_at hl 4 rfl) ?_
          refine x_i (xrS (As := [.int x2, .int x4_25]) (rest := []) ⟨hx, hb, hml, hown, htg⟩ (c_f_Triples_part l D cI cJ cZ _ x2 x4_25 rfl) kc_f_Triples_part kw_265 kw_266 kw_2 dd_f_Triples_part ⟨Nat.le_of_ble_eq_true rfl, Nat.le_of_ble_eq_true rfl⟩ rfl rfl (hP.sub [] rfl) (hD.sub [] (by decide) rfl) hK hN rfl hl.1 rfl (Nat.le_of_ble_eq_true rfl) dX2_agrees_28 ⟨Nat.le_of_ble_eq_true rfl, Nat.le_of_ble_eq_true rfl⟩) hP hD hS hA [] [0, 1] rfl rfl (by decide) (by decide) (fun _ H locs hP hD hS => ?_)
          have hP : va_P D vwCl [(aP, .inr (2, [.ref aP_slots, .ref aP_termsSeen, .ref aP_matches, .ref aP_matchCount, .ref aP_variables, .ref aP_havingVariable, .ref aP_told, .ref aP_parent, .ref aP_allBefore, .int P_required, .int P_hinted, .int P_count])), (aP_slots, .inl (cI, 24, .inl P_slots))] H := hP
          have hD : va_D A [(aP, .inr (2, [.ref aP_slots, .ref aP_termsSeen, .ref aP_matches, .ref aP_matchCount, .ref aP_variables, .ref aP_havingVariable, .ref aP_told, .ref aP_parent, .ref aP_allBefore, .int P_required, .int P_hinted, .int P_count])), (aP_slots, .inl (cI, 24, .inl P_slots))] := hD
          refine lv_iload_n hx hb dX2_agrees_31 rfl (lv_at hl 2 rfl) ?_
          refine lv_iload_n hx hb dX2_agrees_32 rfl (lv_at hl 3 rfl) ?_
          refine x_i (xrS (As := [.int x2, .int x3]) (rest := [.int (f_Triples_part x2 x4_25)]) ⟨hx, hb, hml, hown, htg⟩ (c_f_Triples_part l D cI cJ cZ _ x2 x3 rfl) kc_f_Triples_part kw_265 kw_266 kw_2 dd_f_Triples_part ⟨Nat.le_of_ble_eq_true rfl, Nat.le_of_ble_eq_true rfl⟩ rfl rfl (hP.sub [] rfl) (hD.sub [] (by decide) rfl) hK hN rfl hl.1 rfl (Nat.le_of_ble_eq_true rfl) dX2_agrees_33 ⟨Nat.le_of_ble_eq_true rfl, Nat.le_of_ble_eq_true rfl⟩) hP hD hS hA [] [0, 1] rfl rfl (by decide) (by decide) (fun _ H locs hP hD hS => ?_)
          have hP : va_P D vwCl [(aP, .inr (2, [.ref aP_slots, .ref aP_termsSeen, .ref aP_matches, .ref aP_matchCount, .ref aP_variables, .ref aP_havingVariable, .ref aP_told, .ref aP_parent, .ref aP_allBefore, .int P_required, .int P_hinted, .int P_count])), (aP_slots, .inl (cI, 24, .inl P_slots))] H := hP
          have hD : va_D A [(aP, .inr (2, [.ref aP_slots, .ref aP_termsSeen, .ref aP_matches, .ref aP_matchCount, .ref aP_variables, .ref aP_havingVariable, .ref aP_told, .ref aP_parent, .ref aP_allBefore, .int P_required, .int P_hinted, .int P_count])), (aP_slots, .inl (cI, 24, .inl P_slots))] := hD
          refine lv_icmp_eq (tgt := 41) hx hb dX2_agrees_36 (by decide) (fun c_35 => ?_) (fun c_35 => ?_)
          · have hf := xb_t c_35 hf
            obtain ⟨x4_36, ex4_36⟩ : ∃ y : Int32, y = x4_25 + (1 : Int32) := ⟨_, rfl⟩
            have hf := nm_nm ex4_36 hf
            refine lv_iinc (v := x4_36) (lv' := [(4, .int x4_36), (0, .ref aP), (1, .int x1), (2, .int x2), (3, .int x3)]) hx hb dX2_agrees_41 hl (k := 4) rfl (by rw [ex4_36]; rfl) (by decide) rfl (fun ls hl => ?_)
            refine lv_goto (tgt := 3) hx hb dX2_agrees_44 (by decide) ?_
            exact ih x4_36 o_24 hf hret_24 _ _ hP hD hS _ (lv_sub hl [1, 2, 3, 4, 0] rfl) hX_24
          · have hf := xb_f c_35 hf
            refine lv_iconst (v := (0 : Int32)) hx hb dX2_agrees_39 (by decide) ?_
            have hf := congrArg some (hret_24 _ hf)
            have hf := Option.some.inj hf
            subst hf
            exact x_zret (fun _ => 0) hQ hx hb hr hlk (by decide) hK hP hD hS dX2_agrees_40
  obtain ⟨o_24, ho_24, hret_24, hk_24⟩ := bd0_s hf
  refine L_3_24 n (0 : Int32) o_24 ho_24 hret_24 _ _ hP hD hS _ (lv_sub hl [1, 2, 3, 4, 0] rfl) (fun  hf H locs hP hD hS ls hl => ?_)
  have hf := hk_24  hf
  refine lv_iconst (v := (1 : Int32)) hx hb dX2_agrees_47 (by decide) ?_
  have hf := Option.some.inj hf
  subst hf
  exact x_zret (fun _ => 0) hQ hx hb hr hlk (by decide) hK hP hD hS dX2_agrees_48
