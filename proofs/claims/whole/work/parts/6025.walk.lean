abbrev rm_f_Patterns_hangsOn : Room := { frames := 0, cells := 0, slots := 0, locals := 0 }
set_option maxHeartbeats 4000000 in
set_option maxRecDepth 100000 in
theorem c_f_Patterns_hangsOn (l : Launch) (D : va_G) (cI cJ cZ : ClassId) (sz : Nat) (n : Nat) (aP : Nat) (x1 : Int32) (x2 : Int32) (aP_slots : Nat) (aP_termsSeen : Nat) (aP_matches : Nat) (aP_matchCount : Nat) (aP_variables : Nat) (aP_havingVariable : Nat) (aP_told : Nat) (aP_parent : Nat) (aP_allBefore : Nat) (P_required : Int32) (P_hinted : Int32) (P_count : Int32) (P_parent : Nat → Int32) {r : Int32} (hf : f_Patterns_hangsOn n x1 x2 P_count P_parent = some r) : Met l yX2_hangsOn (.code yX2_hangsOn cX2_hangsOn 5 (some .boolean) :: GW) rm_f_Patterns_hangsOn (va_Pc [.ref aP, .int x1, .int x2] (xP D (xT cI cJ cZ) sz [(aP, .inr (2, [.ref aP_slots, .ref aP_termsSeen, .ref aP_matches, .ref aP_matchCount, .ref aP_variables, .ref aP_havingVariable, .ref aP_told, .ref aP_parent, .ref aP_allBefore, .int P_required, .int P_hinted, .int P_count])), (aP_parent, .inl (cI, 8, .inl P_parent))])) (va_Qi (fun r2 (_ : Nat → Nat) => r2 = r ∧ (r = 0 ∨ r = 1)) (bB D (xT cI cJ cZ) (fun _ => [(aP, .inr (2, [.ref aP_slots, .ref aP_termsSeen, .ref aP_matches, .ref aP_matchCount, .ref aP_variables, .ref aP_havingVariable, .ref aP_told, .ref aP_parent, .ref aP_allBefore, .int P_required, .int P_hinted, .int P_count])), (aP_parent, .inl (cI, 8, .inl P_parent))]) (va_A [(aP, .inr (2, [.ref aP_slots, .ref aP_termsSeen, .ref aP_matches, .ref aP_matchCount, .ref aP_variables, .ref aP_havingVariable, .ref aP_told, .ref aP_parent, .ref aP_allBefore, .int P_required, .int P_hinted, .int P_count])), (aP_parent, .inl (cI, 8, .inl P_parent))] sz)) (va_A [(aP, .inr (2, [.ref aP_slots, .ref aP_termsSeen, .ref aP_matches, .ref aP_matchCount, .ref aP_variables, .ref aP_havingVariable, .ref aP_told, .ref aP_parent, .ref aP_allBefore, .int P_required, .int P_hinted, .int P_count])), (aP_parent, .inl (cI, 8, .inl P_parent))] sz)) 0 0 (va_A [(aP, .inr (2, [.ref aP_slots, .ref aP_termsSeen, .ref aP_matches, .ref aP_matchCount, .ref aP_variables, .ref aP_havingVariable, .ref aP_told, .ref aP_parent, .ref aP_allBefore, .int P_required, .int P_hinted, .int P_count])), (aP_parent, .inl (cI, 8, .inl P_parent))] sz) := by
  refine con_start (y := yX2_hangsOn) (bytes := cX2_hangsOn) (maxL := 5) (av := [.ref aP, .int x1, .int x2]) (Qc := fun A => va_Qi (fun r2 (_ : Nat → Nat) => r2 = r ∧ (r = 0 ∨ r = 1)) (bB D (xT cI cJ cZ) (fun _ => [(aP, .inr (2, [.ref aP_slots, .ref aP_termsSeen, .ref aP_matches, .ref aP_matchCount, .ref aP_variables, .ref aP_havingVariable, .ref aP_told, .ref aP_parent, .ref aP_allBefore, .int P_required, .int P_hinted, .int P_count])), (aP_parent, .inl (cI, 8, .inl P_parent))]) A) A) (by decide) (Nat.le_of_ble_eq_true rfl) ?_
  intro p e s m args below meth c Q A hx hb hr hlk hml hown hin htg hN hK hQ hA hP hD hS ls hl
  have hl : lv_has ls 5 [(0, .ref aP), (1, .int x1), (2, .int x2)] := hl
  have hown : s.vm.findClass RX2 = some m.cls := hown
  have hf := (f_Patterns_hangsOn_u n x1 x2 P_count P_parent).symm.trans hf
  refine lv_iload_n hx hb dX2_hangsOn_0 rfl (lv_at hl 1 rfl) ?_
  refine lv_istore_n (lv' := [(3, .int x1), (0, .ref aP), (1, .int x1), (2, .int x2)]) hx hb dX2_hangsOn_1 rfl hl (by decide) rfl (fun ls hl => ?_)
  refine lv_iconst (v := (0 : Int32)) hx hb dX2_hangsOn_2 (by decide) ?_
  refine lv_istore (lv' := [(4, .int (0 : Int32)), (3, .int x1), (0, .ref aP), (1, .int x1), (2, .int x2)]) hx hb dX2_hangsOn_3 hl (by decide) rfl (fun ls hl => ?_)
  have L_5_15 : ∀ (k : Nat) (x3_16 : Int32) (x4_17 : Int32) (o_15 : (Int32 ⊕ Unit)), f_Patterns_hangsOn_L0 n x2 P_count P_parent k x3_16 x4_17 = some o_15 → (∀ z : Int32, some (Sum.inl z) = some o_15 → z = r) → ∀ (H : Heap) (locs : List Loc), va_P D vwCl [(aP, .inr (2, [.ref aP_slots, .ref aP_termsSeen, .ref aP_matches, .ref aP_matchCount, .ref aP_variables, .ref aP_havingVariable, .ref aP_told, .ref aP_parent, .ref aP_allBefore, .int P_required, .int P_hinted, .int P_count])), (aP_parent, .inl (cI, 8, .inl P_parent))] H → va_D A [(aP, .inr (2, [.ref aP_slots, .ref aP_termsSeen, .ref aP_matches, .ref aP_matchCount, .ref aP_variables, .ref aP_havingVariable, .ref aP_told, .ref aP_parent, .ref aP_allBefore, .int P_required, .int P_hinted, .int P_count])), (aP_parent, .inl (cI, 8, .inl P_parent))] → va_S A s.heap H locs → ∀ ls : Array Slot, lv_has ls 5 [(0, .ref aP), (2, .int x2), (3, .int x3_16), (4, .int x4_17)] → (some (Sum.inr ()) = some o_15 → ∀ (H : Heap) (locs : List Loc), va_P D vwCl [(aP, .inr (2, [.ref aP_slots, .ref aP_termsSeen, .ref aP_matches, .ref aP_matchCount, .ref aP_variables, .ref aP_havingVariable, .ref aP_told, .ref aP_parent, .ref aP_allBefore, .int P_required, .int P_hinted, .int P_count])), (aP_parent, .inl (cI, 8, .inl P_parent))] H → va_D A [(aP, .inr (2, [.ref aP_slots, .ref aP_termsSeen, .ref aP_matches, .ref aP_matchCount, .ref aP_variables, .ref aP_havingVariable, .ref aP_told, .ref aP_parent, .ref aP_allBefore, .int P_required, .int P_hinted, .int P_count])), (aP_parent, .inl (cI, 8, .inl P_parent))] → va_S A s.heap H locs → ∀ ls : Array Slot, lv_has ls 5 [] → W p l e rm_f_Patterns_hangsOn s m args below meth c H locs 0 0 Q (F0 m 39 ls [])) → W p l e rm_f_Patterns_hangsOn s m args below meth c H locs 0 0 Q (F0 m 5 ls []) := by
    intro k
    induction k with
    | zero =>
      intro x3_16 x4_17 o_15 hf
      exact absurd (((f_Patterns_hangsOn_L0_z n x2 P_count P_parent x3_16 x4_17).symm.trans hf)) (fun h => by cases h)
    | succ k ih =>
      intro x3_16 x4_17 o_15 hf hret_15 H locs hP hD hS ls hl hX_15
      have hf := (f_Patterns_hangsOn_L0_s n x2 P_count P_parent k x3_16 x4_17).symm.trans hf
      refine lv_iload hx hb dX2_hangsOn_5 (lv_at hl 3 rfl) ?_
      refine lv_aload_n hx hb dX2_hangsOn_7 rfl (lv_at hl 0 rfl) ?_
      refine va_get (D := D) (ci := 2) (v := .int P_count) (C := RX2) (T := TX2) (N := 12) hx hb htg giX2 hown hK hP 0 rfl rfl 11 (by decide) (htg _ kw_62) (fun _ h9 => h9) rfl dX2_hangsOn_8 ?_
      refine lv_icmp_ge (tgt := 39) hx hb dX2_hangsOn_11 (by decide) (fun c_18 => ?_) (fun c_18 => ?_)
      · have hf := xb_t c_18 hf
        exact hX_15  hf _ _ hP hD hS _ (lv_sub hl [] rfl)
      · have hf := xb_f c_18 hf
        refine lv_iload_n hx hb dX2_hangsOn_14 rfl (lv_at hl 2 rfl) ?_
        refine lv_iconst (v := (-1 : Int32)) hx hb dX2_hangsOn_15 (by decide) ?_
        refine lv_icmp_eq (tgt := 39) hx hb dX2_hangsOn_16 (by decide) (fun c_19 => ?_) (fun c_19 => ?_)
        · have hf := xb_t c_19 hf
          exact hX_15  hf _ _ hP hD hS _ (lv_sub hl [] rfl)
        · have hf := xb_f c_19 hf
          refine lv_iload_n hx hb dX2_hangsOn_19 rfl (lv_at hl 2 rfl) ?_
          refine lv_iload_n hx hb dX2_hangsOn_20 rfl (lv_at hl 1 rfl) ?_
          refine lv_icmp_ne (tgt := 26) hx hb dX2_hangsOn_21 (by decide) (fun c_20 => ?_) (fun c_20 => ?_)
          · have hf := xb_f c_20 hf
            refine lv_aload_n hx hb dX2_hangsOn_26 rfl (lv_at hl 0 rfl) ?_
            refine va_get (D := D) (ci := 2) (v := .ref aP_parent) (C := RX2) (T := TX2) (N := 12) hx hb htg giX2 hown hK hP 0 rfl rfl 7 (by decide) (htg _ kw_55) (fun _ h9 => h9) rfl dX2_hangsOn_27 ?_
            refine lv_iload_n hx hb dX2_hangsOn_30 rfl (lv_at hl 2 rfl) ?_
            have g_21 : vp_in x3_16 8 := gd_in hf
            have hf := gd_el hf
            refine va_iald hx hb hK hP 1 0 rfl rfl g_21 dX2_hangsOn_31 ?_
            refine lv_topi (fun x3_22 ex3_22 => ?_)
            have hf := nm_nm ex3_22 hf
            refine lv_istore_n (lv' := [(3, .int x3_22), (0, .ref aP), (2, .int x2), (4, .int x4_17)]) hx hb dX2_hangsOn_32 rfl hl (by decide) rfl (fun ls hl => ?_)
            obtain ⟨x4_23, ex4_23⟩ : ∃ y : Int32, y = x4_17 + (1 : Int32) := ⟨_, rfl⟩
            have hf := nm_nm ex4_23 hf
            refine lv_iinc (v := x4_23) (lv' := [(4, .int x4_23), (3, .int x3_22), (0, .ref aP), (2, .int x2)]) hx hb dX2_hangsOn_33 hl (k := 3) rfl (by rw [ex4_23]; rfl) (by decide) rfl (fun ls hl => ?_)
            refine lv_goto (tgt := 5) hx hb dX2_hangsOn_36 (by decide) ?_
            exact ih x3_22 x4_23 o_15 hf hret_15 _ _ hP hD hS _ (lv_sub hl [2, 3, 1, 0] rfl) hX_15
          · have hf := xb_t c_20 hf
            refine lv_iconst (v := (1 : Int32)) hx hb dX2_hangsOn_24 (by decide) ?_
            have hf := congrArg some (hret_15 _ hf)
            have hf := Option.some.inj hf
            subst hf
            exact x_zret (fun _ => 0) hQ hx hb hr hlk (by decide) hK hP hD hS dX2_hangsOn_25
  obtain ⟨o_15, ho_15, hret_15, hk_15⟩ := bd0_s hf
  refine L_5_15 n x1 (0 : Int32) o_15 ho_15 hret_15 _ _ hP hD hS _ (lv_sub hl [2, 4, 1, 0] rfl) (fun  hf H locs hP hD hS ls hl => ?_)
  have hf := hk_15  hf
  refine lv_iconst (v := (0 : Int32)) hx hb dX2_hangsOn_39 (by decide) ?_
  have hf := Option.some.inj hf
  subst hf
  exact x_zret (fun _ => 0) hQ hx hb hr hlk (by decide) hK hP hD hS dX2_hangsOn_40
