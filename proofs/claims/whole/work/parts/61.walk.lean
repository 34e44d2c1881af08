abbrev rm_f_Patterns_meetAll : Room := { frames := 4, cells := 0, slots := 0, locals := 94 }
set_option maxHeartbeats 4000000 in
set_option maxRecDepth 100000 in
theorem c_f_Patterns_meetAll (l : Launch) (D : va_G) (cI cJ cZ : ClassId) (sz : Nat) (n : Nat) (aP : Nat) (x1 : Int32) (aP_slots : Nat) (aP_termsSeen : Nat) (aP_matches : Nat) (aP_matchCount : Nat) (aP_variables : Nat) (aP_havingVariable : Nat) (aP_told : Nat) (aP_parent : Nat) (aP_allBefore : Nat) (P_required : Int32) (P_hinted : Int32) (P_count : Int32) (P_matchCount : Nat → Int32) (P_slots : Nat → Int32) (P_matches : Nat → Int32) (P_termsSeen : Nat → Int32) {P_matchCount' : Nat → Int32} {P_matches' : Nat → Int32} {P_termsSeen' : Nat → Int32} (hf : f_Patterns_meetAll n x1 P_count P_matchCount P_slots P_matches P_termsSeen = some (P_matchCount', P_matches', P_termsSeen')) : Met l yX2_meetAll (.code yX2_meetAll cX2_meetAll 3 none :: GW) rm_f_Patterns_meetAll (va_Pc [.ref aP, .int x1] (xP D (xT cI cJ cZ) sz [(aP, .inr (2, [.ref aP_slots, .ref aP_termsSeen, .ref aP_matches, .ref aP_matchCount, .ref aP_variables, .ref aP_havingVariable, .ref aP_told, .ref aP_parent, .ref aP_allBefore, .int P_required, .int P_hinted, .int P_count])), (aP_matchCount, .inl (cI, 8, .inl P_matchCount)), (aP_slots, .inl (cI, 24, .inl P_slots)), (aP_matches, .inl (cI, 640, .inl P_matches)), (aP_termsSeen, .inl (cI, 24, .inl P_termsSeen))])) (va_Qv (fun (_ : Nat → Nat) => True) (bB D (xT cI cJ cZ) (fun _ => [(aP, .inr (2, [.ref aP_slots, .ref aP_termsSeen, .ref aP_matches, .ref aP_matchCount, .ref aP_variables, .ref aP_havingVariable, .ref aP_told, .ref aP_parent, .ref aP_allBefore, .int P_required, .int P_hinted, .int P_count])), (aP_matchCount, .inl (cI, 8, .inl P_matchCount')), (aP_slots, .inl (cI, 24, .inl P_slots)), (aP_matches, .inl (cI, 640, .inl P_matches')), (aP_termsSeen, .inl (cI, 24, .inl P_termsSeen'))]) (va_A [(aP, .inr (2, [.ref aP_slots, .ref aP_termsSeen, .ref aP_matches, .ref aP_matchCount, .ref aP_variables, .ref aP_havingVariable, .ref aP_told, .ref aP_parent, .ref aP_allBefore, .int P_required, .int P_hinted, .int P_count])), (aP_matchCount, .inl (cI, 8, .inl P_matchCount)), (aP_slots, .inl (cI, 24, .inl P_slots)), (aP_matches, .inl (cI, 640, .inl P_matches)), (aP_termsSeen, .inl (cI, 24, .inl P_termsSeen))] sz)) (va_A [(aP, .inr (2, [.ref aP_slots, .ref aP_termsSeen, .ref aP_matches, .ref aP_matchCount, .ref aP_variables, .ref aP_havingVariable, .ref aP_told, .ref aP_parent, .ref aP_allBefore, .int P_required, .int P_hinted, .int P_count])), (aP_matchCount, .inl (cI, 8, .inl P_matchCount)), (aP_slots, .inl (cI, 24, .inl P_slots)), (aP_matches, .inl (cI, 640, .inl P_matches)), (aP_termsSeen, .inl (cI, 24, .inl P_termsSeen))] sz)) 0 0 (va_A [(aP, .inr (2, [.ref aP_slots, .ref aP_termsSeen, .ref aP_matches, .ref aP_matchCount, .ref aP_variables, .ref aP_havingVariable, .ref aP_told, .ref aP_parent, .ref aP_allBefore, .int P_required, .int P_hinted, .int P_count])), (aP_matchCount, .inl (cI, 8, .inl P_matchCount)), (aP_slots, .inl (cI, 24, .inl P_slots)), (aP_matches, .inl (cI, 640, .inl P_matches)), (aP_termsSeen, .inl (cI, 24, .inl P_termsSeen))] sz) := by
  refine con_start (Qc := fun A => va_Qv (fun (_ : Nat → Nat) => True) (bB D (xT cI cJ cZ) (fun _ => [(aP, .inr (2, [.ref aP_slots, .ref aP_termsSeen, .ref aP_matches, .ref aP_matchCount, .ref aP_variables, .ref aP_havingVariable, .ref aP_told, .ref aP_parent, .ref aP_allBefore, .int P_required, .int P_hinted, .int P_count])), (aP_matchCount, .inl (cI, 8, .inl P_matchCount')), (aP_slots, .inl (cI, 24, .inl P_slots)), (aP_matches, .inl (cI, 640, .inl P_matches')), (aP_termsSeen, .inl (cI, 24, .inl P_termsSeen'))]) A) A) (by decide) (Nat.le_of_ble_eq_true rfl) ?_
  intro p e s m args below meth c Q A hx hb hr hlk hml hown hin htg hN hK hQ hA hP hD hS ls hl
  have hl : lv_has ls 3 [(0, .ref aP), (1, .int x1)] := hl
  have hown : s.vm.findClass RX2 = some m.cls := hown
  have hf := (f_Patterns_meetAll_u n x1 P_count P_matchCount P_slots P_matches P_termsSeen).symm.trans hf
  refine lv_iconst (v := (0 : Int32)) hx hb dX2_meetAll_0 (by decide) ?_
  refine lv_istore_n (lv' := [(2, .int (0 : Int32)), (0, .ref aP), (1, .int x1)]) hx hb dX2_meetAll_1 rfl hl (by decide) rfl (fun ls hl => ?_)
  have L_2_17 : ∀ (k : Nat) (P_matchCount_18 : Nat → Int32) (P_matches_19 : Nat → Int32) (P_termsSeen_20 : Nat → Int32) (x2_21 : Int32) (o_17 : ((Nat → Int32) × (Nat → Int32) × (Nat → Int32))), f_Patterns_meetAll_L0 n x1 P_count P_slots k P_matchCount_18 P_matches_19 P_termsSeen_20 x2_21 = some o_17 → ∀ (H : Heap) (locs : List Loc), va_P D vwCl [(aP, .inr (2, [.ref aP_slots, .ref aP_termsSeen, .ref aP_matches, .ref aP_matchCount, .ref aP_variables, .ref aP_havingVariable, .ref aP_told, .ref aP_parent, .ref aP_allBefore, .int P_required, .int P_hinted, .int P_count])), (aP_matchCount, .inl (cI, 8, .inl P_matchCount_18)), (aP_slots, .inl (cI, 24, .inl P_slots)), (aP_matches, .inl (cI, 640, .inl P_matches_19)), (aP_termsSeen, .inl (cI, 24, .inl P_termsSeen_20))] H → va_D A [(aP, .inr (2, [.ref aP_slots, .ref aP_termsSeen, .ref aP_matches, .ref aP_matchCount, .ref aP_variables, .ref aP_havingVariable, .ref aP_told, .ref aP_parent, .ref aP_allBefore, .int P_required, .int P_hinted, .int P_count])), (aP_matchCount, .inl (cI, 8, .inl P_matchCount_18)), (aP_slots, .inl (cI, 24, .inl P_slots)), (aP_matches, .inl (cI, 640, .inl P_matches_19)), (aP_termsSeen, .inl (cI, 24, .inl P_termsSeen_20))] → va_S A s.heap H locs → ∀ ls : Array Slot, lv_has ls 3 [(0, .ref aP), (1, .int x1), (2, .int x2_21)] → (∀ (P_matchCount_22 : Nat → Int32) (P_matches_23 : Nat → Int32) (P_termsSeen_24 : Nat → Int32), some ((P_matchCount_22, P_matches_23, P_termsSeen_24)) = some o_17 → ∀ (H : Heap) (locs : List Loc), va_P D vwCl [(aP, .inr (2, [.ref aP_slots, .ref aP_termsSeen, .ref aP_matches, .ref aP_matchCount, .ref aP_variables, .ref aP_havingVariable, .ref aP_told, .ref aP_parent, .ref aP_allBefore, .int P_required, .int P_hinted, .int P_count])), (aP_matchCount, .inl (cI, 8, .inl P_matchCount_22)), (aP_slots, .inl (cI, 24, .inl P_slots)), (aP_matches, .inl (cI, 640, .inl P_matches_23)), (aP_termsSeen, .inl (cI, 24, .inl P_termsSeen_24))] H → va_D A [(aP, .inr (2, [.ref aP_slots, .ref aP_termsSeen, .ref aP_matches, .ref aP_matchCount, .ref aP_variables, .ref aP_havingVariable, .ref aP_told, .ref aP_parent, .ref aP_allBefore, .int P_required, .int P_hinted, .int P_count])), (aP_matchCount, .inl (cI, 8, .inl P_matchCount_22)), (aP_slots, .inl (cI, 24, .inl P_slots)), (aP_matches, .inl (cI, 640, .inl P_matches_23)), (aP_termsSeen, .inl (cI, 24, .inl P_termsSeen_24))] → va_S A s.heap H locs → ∀ ls : Array Slot, lv_has ls 3 [] → W p l e rm_f_Patterns_meetAll s m args below meth c H locs 0 0 Q (F0 m 22 ls [])) → W p l e rm_f_Patterns_meetAll s m args below meth c H locs 0 0 Q (F0 m 2 ls []) := by
    intro k
    induction k with
    | zero =>
      intro P_matchCount_18 P_matches_19 P_termsSeen_20 x2_21 o_17 hf
      exact absurd (((f_Patterns_meetAll_L0_z n x1 P_count P_slots P_matchCount_18 P_matches_19 P_termsSeen_20 x2_21).symm.trans hf)) (fun h => by cases h)
    | succ k ih =>
      intro P_matchCount_18 P_matches_19 P_termsSeen_20 x2_21 o_17 hf H locs hP hD hS ls hl hX_17
      have hf := (f_Patterns_meetAll_L0_s n x1 P_count P_slots k P_matchCount_18 P_matches_19 P_termsSeen_20 x2_21).symm.trans hf
      refine lv_iload_n hx hb dX2_meetAll_2 rfl (lv_at hl 2 rfl) ?_
      refine lv_aload_n hx hb dX2_meetAll_3 rfl (lv_at hl 0 rfl) ?_
      refine va_get (D := D) (ci := 2) (v := .int P_count) (C := RX2) (T := TX2) (N := 12) hx hb htg giX2 hown hK hP 0 rfl rfl 11 (by decide) (htg _ kw_62) (fun _ h9 => h9) rfl dX2_meetAll_4 ?_
      refine lv_icmp_ge (tgt := 22) hx hb dX2_meetAll_7 (by decide) (fun c_25 => ?_) (fun c_25 => ?_)
      · have hf := xb_t c_25 hf
        exact hX_17 P_matchCount_18 P_matches_19 P_termsSeen_20 hf _ _ hP hD hS _ (lv_sub hl [] rfl)
      · have hf := xb_f c_25 hf
        refine lv_aload_n hx hb dX2_meetAll_10 rfl (lv_at hl 0 rfl) ?_
        refine lv_iload_n hx hb dX2_meetAll_11 rfl (lv_at hl 2 rfl) ?_
        refine lv_iload_n hx hb dX2_meetAll_12 rfl (lv_at hl 1 rfl) ?_
        obtain ⟨P_matchCount_27, P_matches_28, P_termsSeen_29, hq_26, hf⟩ := bn3_c hf
        refine x_v (xrV (As := [.int x2_21, .int x1]) (b := aP) (rest := []) ⟨hx, hb, hml, hown, htg⟩ (c_f_Patterns_meet l D cI cJ cZ _ n aP x2_21 x1 aP_slots aP_termsSeen aP_matches aP_matchCount aP_variables aP_havingVariable aP_told aP_parent aP_allBefore P_required P_hinted P_count P_matchCount_18 P_slots P_matches_19 P_termsSeen_20 hq_26) kc_f_Patterns_meet kw_253 kw_255 kp_0 kw_3 dd_f_Patterns_meet ⟨Nat.le_of_ble_eq_true rfl, Nat.le_of_ble_eq_true rfl⟩ rfl rfl hP hD hK hN hP (q0 := 0) rfl rfl rfl hl.1 rfl (Nat.le_of_ble_eq_true rfl) dX2_meetAll_13 ⟨Nat.le_of_ble_eq_true rfl, Nat.le_of_ble_eq_true rfl⟩) hP hD hS hA [0, 1, 2, 3, 4] [] rfl rfl (by decide) (by decide) (fun _ H locs hP hD hS => ?_)
        have hP : va_P D vwCl [(aP, .inr (2, [.ref aP_slots, .ref aP_termsSeen, .ref aP_matches, .ref aP_matchCount, .ref aP_variables, .ref aP_havingVariable, .ref aP_told, .ref aP_parent, .ref aP_allBefore, .int P_required, .int P_hinted, .int P_count])), (aP_matchCount, .inl (cI, 8, .inl P_matchCount_27)), (aP_slots, .inl (cI, 24, .inl P_slots)), (aP_matches, .inl (cI, 640, .inl P_matches_28)), (aP_termsSeen, .inl (cI, 24, .inl P_termsSeen_29))] H := hP
        have hD : va_D A [(aP, .inr (2, [.ref aP_slots, .ref aP_termsSeen, .ref aP_matches, .ref aP_matchCount, .ref aP_variables, .ref aP_havingVariable, .ref aP_told, .ref aP_parent, .ref aP_allBefore, .int P_required, .int P_hinted, .int P_count])), (aP_matchCount, .inl (cI, 8, .inl P_matchCount_27)), (aP_slots, .inl (cI, 24, .inl P_slots)), (aP_matches, .inl (cI, 640, .inl P_matches_28)), (aP_termsSeen, .inl (cI, 24, .inl P_termsSeen_29))] := hD
        obtain ⟨x2_30, ex2_30⟩ : ∃ y : Int32, y = x2_21 + (1 : Int32) := ⟨_, rfl⟩
        have hf := nm_nm ex2_30 hf
        refine lv_iinc (v := x2_30) (lv' := [(2, .int x2_30), (0, .ref aP), (1, .int x1)]) hx hb dX2_meetAll_16 hl (k := 2) rfl (by rw [ex2_30]; rfl) (by decide) rfl (fun ls hl => ?_)
        refine lv_goto (tgt := 2) hx hb dX2_meetAll_19 (by decide) ?_
        exact ih P_matchCount_27 P_matches_28 P_termsSeen_29 x2_30 o_17 hf _ _ hP hD hS _ (lv_sub hl [1, 2, 0] rfl) hX_17
  obtain ⟨o_17, ho_17, hk_17⟩ := bn3_s hf
  refine L_2_17 n P_matchCount P_matches P_termsSeen (0 : Int32) o_17 ho_17 _ _ hP hD hS _ (lv_sub hl [1, 2, 0] rfl) (fun P_matchCount_22 P_matches_23 P_termsSeen_24 hf H locs hP hD hS ls hl => ?_)
  have hf := hk_17 _ _ _ hf
  have hf := Option.some.inj hf
  cases hf
  exact x_vret (fun _ => 0) hQ hx hb hr hlk hK hP hD hS dX2_meetAll_22
abbrev rm_f_JoinOrder_triple : Room := { frames := 5, cells := 0, slots := 0, locals := 116 }
set_option maxHeartbeats 4000000 in
set_option maxRecDepth 100000 in
theorem c_f_JoinOrder_triple (l : Launch) (D : va_G) (cI cJ cZ : ClassId) (sz : Nat) (n : Nat) (aJ : Nat) (x1 : Int32) (x2 : Int32) (x3 : Int32) (aT : Nat) (aP : Nat) (aF : Nat) (aQ : Nat) (aM : Nat) (aB : Nat) (J_hasRun : Int32) (aJ_plainOrder : Nat) (aC : Nat) (aT_packed : Nat) (T_count : Int32) (T_packed : Nat → Int32) (aP_slots : Nat) (aP_termsSeen : Nat) (aP_matches : Nat) (aP_matchCount : Nat) (aP_variables : Nat) (aP_havingVariable : Nat) (aP_told : Nat) (aP_parent : Nat) (aP_allBefore : Nat) (P_required : Int32) (P_hinted : Int32) (P_count : Int32) (P_matchCount : Nat → Int32) (P_slots : Nat → Int32) (P_matches : Nat → Int32) (P_termsSeen : Nat → Int32) {r : Int32} {T_count' : Int32} {T_packed' : Nat → Int32} {P_matchCount' : Nat → Int32} {P_matches' : Nat → Int32} {P_termsSeen' : Nat → Int32} (hf : f_JoinOrder_triple n x1 x2 x3 T_count T_packed P_count P_matchCount P_slots P_matches P_termsSeen = some (r, T_count', T_packed', P_matchCount', P_matches', P_termsSeen')) : Met l yX0_triple (.code yX0_triple cX0_triple 5 (some .int) :: GW) rm_f_JoinOrder_triple (va_Pc [.ref aJ, .int x1, .int x2, .int x3] (xP D (xT cI cJ cZ) sz [(aJ, .inr (0, [.ref aT, .ref aP, .ref aF, .ref aQ, .ref aM, .ref aB, .int J_hasRun, .ref aJ_plainOrder, .ref aC])), (aT, .inr (6, [.ref aT_packed, .int T_count])), (aT_packed, .inl (cI, 80, .inl T_packed)), (aP, .inr (2, [.ref aP_slots, .ref aP_termsSeen, .ref aP_matches, .ref aP_matchCount, .ref aP_variables, .ref aP_havingVariable, .ref aP_told, .ref aP_parent, .ref aP_allBefore, .int P_required, .int P_hinted, .int P_count])), (aP_matchCount, .inl (cI, 8, .inl P_matchCount)), (aP_slots, .inl (cI, 24, .inl P_slots)), (aP_matches, .inl (cI, 640, .inl P_matches)), (aP_termsSeen, .inl (cI, 24, .inl P_termsSeen))])) (va_Qi (fun r2 (_ : Nat → Nat) => r2 = r) (bB D (xT cI cJ cZ) (fun _ => [(aJ, .inr (0, [.ref aT, .ref aP, .ref aF, .ref aQ, .ref aM, .ref aB, .int J_hasRun, .ref aJ_plainOrder, .ref aC])), (aT, .inr (6, [.ref aT_packed, .int T_count'])), (aT_packed, .inl (cI, 80, .inl T_packed')), (aP, .inr (2, [.ref aP_slots, .ref aP_termsSeen, .ref aP_matches, .ref aP_matchCount, .ref aP_variables, .ref aP_havingVariable, .ref aP_told, .ref aP_parent, .ref aP_allBefore, .int P_required, .int P_hinted, .int P_count])), (aP_matchCount, .inl (cI, 8, .inl P_matchCount')), (aP_slots, .inl (cI, 24, .inl P_slots)), (aP_matches, .inl (cI, 640, .inl P_matches')), (aP_termsSeen, .inl (cI, 24, .inl P_termsSeen'))]) (va_A [(aJ, .inr (0, [.ref aT, .ref aP, .ref aF, .ref aQ, .ref aM, .ref aB, .int J_hasRun, .ref aJ_plainOrder, .ref aC])), (aT, .inr (6, [.ref aT_packed, .int T_count])), (aT_packed, .inl (cI, 80, .inl T_packed)), (aP, .inr (2, [.ref aP_slots, .ref aP_termsSeen, .ref aP_matches, .ref aP_matchCount, .ref aP_variables, .ref aP_havingVariable, .ref aP_told, .ref aP_parent, .ref aP_allBefore, .int P_required, .int P_hinted, .int P_count])), (aP_matchCount, .inl (cI, 8, .inl P_matchCount)), (aP_slots, .inl (cI, 24, .inl P_slots)), (aP_matches, .inl (cI, 640, .inl P_matches)), (aP_termsSeen, .inl (cI, 24, .inl P_termsSeen))] sz)) (va_A [(aJ, .inr (0, [.ref aT, .ref aP, .ref aF, .ref aQ, .ref aM, .ref aB, .int J_hasRun, .ref aJ_plainOrder, .ref aC])), (aT, .inr (6, [.ref aT_packed, .int T_count])), (aT_packed, .inl (cI, 80, .inl T_packed)), (aP, .inr (2, [.ref aP_slots, .ref aP_termsSeen, .ref aP_matches, .ref aP_matchCount, .ref aP_variables, .ref aP_havingVariable, .ref aP_told, .ref aP_parent, .ref aP_allBefore, .int P_required, .int P_hinted, .int P_count])), (aP_matchCount, .inl (cI, 8, .inl P_matchCount)), (aP_slots, .inl (cI, 24, .inl P_slots)), (aP_matches, .inl (cI, 640, .inl P_matches)), (aP_termsSeen, .inl (cI, 24, .inl P_termsSeen))] sz)) 0 0 (va_A [(aJ, .inr (0, [.ref aT, .ref aP, .ref aF, .ref aQ, .ref aM, .ref aB, .int J_hasRun, .ref aJ_plainOrder, .ref aC])), (aT, .inr (6, [.ref aT_packed, .int T_count])), (aT_packed, .inl (cI, 80, .inl T_packed)), (aP, .inr (2, [.ref aP_slots, .ref aP_termsSeen, .ref aP_matches, .ref aP_matchCount, .ref aP_variables, .ref aP_havingVariable, .ref aP_told, .ref aP_parent, .ref aP_allBefore, .int P_required, .int P_hinted, .int P_count])), (aP_matchCount, .inl (cI, 8, .inl P_matchCount)), (aP_slots, .inl (cI, 24, .inl P_slots)), (aP_matches, .inl (cI, 640, .inl P_matches)), (aP_termsSeen, .inl (cI, 24, .inl P_termsSeen))] sz) := by
  refine con_start (Qc := fun A => va_Qi (fun r2 (_ : Nat → Nat) => r2 = r) (bB D (xT cI cJ cZ) (fun _ => [(aJ, .inr (0, [.ref aT, .ref aP, .ref aF, .ref aQ, .ref aM, .ref aB, .int J_hasRun, .ref aJ_plainOrder, .ref aC])), (aT, .inr (6, [.ref aT_packed, .int T_count'])), (aT_packed, .inl (cI, 80, .inl T_packed')), (aP, .inr (2, [.ref aP_slots, .ref aP_termsSeen, .ref aP_matches, .ref aP_matchCount, .ref aP_variables, .ref aP_havingVariable, .ref aP_told, .ref aP_parent, .ref aP_allBefore, .int P_required, .int P_hinted, .int P_count])), (aP_matchCount, .inl (cI, 8, .inl P_matchCount')), (aP_slots, .inl (cI, 24, .inl P_slots)), (aP_matches, .inl (cI, 640, .inl P_matches')), (aP_termsSeen, .inl (cI, 24, .inl P_termsSeen'))]) A) A) (by decide) (Nat.le_of_ble_eq_true rfl) ?_
  intro p e s m args below meth c Q A hx hb hr hlk hml hown hin htg hN hK hQ hA hP hD hS ls hl
  have hl : lv_has ls 5 [(0, .ref aJ), (1, .int x1), (2, .int x2), (3, .int x3)] := hl
  have hown : s.vm.findClass RX0 = some m.cls := hown
  have hf := (f_JoinOrder_triple_u n x1 x2 x3 T_count T_packed P_count P_matchCount P_slots P_matches P_termsSeen).symm.trans hf
  refine lv_iload_n hx hb dX0_triple_0 rfl (lv_at hl 1 rfl) ?_
  refine x_z (xrS (As := [.int x1]) (rest := []) ⟨hx, hb, hml, hown, htg⟩ (c_f_JoinOrder_isTerm l D cI cJ cZ _ x1 rfl) kc_f_JoinOrder_isTerm kw_232 kw_233 kw_1 dd_f_JoinOrder_isTerm ⟨Nat.le_of_ble_eq_true rfl, Nat.le_of_ble_eq_true rfl⟩ rfl rfl (hP.sub [] rfl) (hD.sub [] (by decide) rfl) hK hN rfl hl.1 rfl (Nat.le_of_ble_eq_true rfl) dX0_triple_1 ⟨Nat.le_of_ble_eq_true rfl, Nat.le_of_ble_eq_true rfl⟩) hP hD hS hA [] [0, 1, 2, 3, 4, 5, 6, 7] rfl rfl (by decide) (by decide) (fun _ H locs bz_1 hP hD hS => ?_)
  have hP : va_P D vwCl [(aJ, .inr (0, [.ref aT, .ref aP, .ref aF, .ref aQ, .ref aM, .ref aB, .int J_hasRun, .ref aJ_plainOrder, .ref aC])), (aT, .inr (6, [.ref aT_packed, .int T_count])), (aT_packed, .inl (cI, 80, .inl T_packed)), (aP, .inr (2, [.ref aP_slots, .ref aP_termsSeen, .ref aP_matches, .ref aP_matchCount, .ref aP_variables, .ref aP_havingVariable, .ref aP_told, .ref aP_parent, .ref aP_allBefore, .int P_required, .int P_hinted, .int P_count])), (aP_matchCount, .inl (cI, 8, .inl P_matchCount)), (aP_slots, .inl (cI, 24, .inl P_slots)), (aP_matches, .inl (cI, 640, .inl P_matches)), (aP_termsSeen, .inl (cI, 24, .inl P_termsSeen))] H := hP
  have hD : va_D A [(aJ, .inr (0, [.ref aT, .ref aP, .ref aF, .ref aQ, .ref aM, .ref aB, .int J_hasRun, .ref aJ_plainOrder, .ref aC])), (aT, .inr (6, [.ref aT_packed, .int T_count])), (aT_packed, .inl (cI, 80, .inl T_packed)), (aP, .inr (2, [.ref aP_slots, .ref aP_termsSeen, .ref aP_matches, .ref aP_matchCount, .ref aP_variables, .ref aP_havingVariable, .ref aP_told, .ref aP_parent, .ref aP_allBefore, .int P_required, .int P_hinted, .int P_count])), (aP_matchCount, .inl (cI, 8, .inl P_matchCount)), (aP_slots, .inl (cI, 24, .inl P_slots)), (aP_matches, .inl (cI, 640, .inl P_matches)), (aP_termsSeen, .inl (cI, 24, .inl P_termsSeen))] := hD
  refine lv_if_eq (tgt := 21) hx hb dX0_triple_4 (by decide) (fun c_2 => ?_) (fun c_2 => ?_)
  · have hf := xb_t c_2 hf
    refine lv_bipush (v := (-2 : Int32)) hx hb dX0_triple_21 (by decide) ?_
    have hf := Option.some.inj hf
    cases hf
    exact x_iret (fun _ => 0) hQ hx hb hr hlk hK hP hD hS dX0_triple_23
  · have hf := xb_f c_2 hf
    refine lv_iload_n hx hb dX0_triple_7 rfl (lv_at hl 2 rfl) ?_
    refine x_z (xrS (As := [.int x2]) (rest := []) ⟨hx, hb, hml, hown, htg⟩ (c_f_JoinOrder_isTerm l D cI cJ cZ _ x2 rfl) kc_f_JoinOrder_isTerm kw_232 kw_233 kw_1 dd_f_JoinOrder_isTerm ⟨Nat.le_of_ble_eq_true rfl, Nat.le_of_ble_eq_true rfl⟩ rfl rfl (hP.sub [] rfl) (hD.sub [] (by decide) rfl) hK hN rfl hl.1 rfl (Nat.le_of_ble_eq_true rfl) dX0_triple_8 ⟨Nat.le_of_ble_eq_true rfl, Nat.le_of_ble_eq_true rfl⟩) hP hD hS hA [] [0, 1, 2, 3, 4, 5, 6, 7] rfl rfl (by decide) (by decide) (fun _ H locs bz_3 hP hD hS => ?_)
    have hP : va_P D vwCl [(aJ, .inr (0, [.ref aT, .ref aP, .ref aF, .ref aQ, .ref aM, .ref aB, .int J_hasRun, .ref aJ_plainOrder, .ref aC])), (aT, .inr (6, [.ref aT_packed, .int T_count])), (aT_packed, .inl (cI, 80, .inl T_packed)), (aP, .inr (2, [.ref aP_slots, .ref aP_termsSeen, .ref aP_matches, .ref aP_matchCount, .ref aP_variables, .ref aP_havingVariable, .ref aP_told, .ref aP_parent, .ref aP_allBefore, .int P_required, .int P_hinted, .int P_count])), (aP_matchCount, .inl (cI, 8, .inl P_matchCount)), (aP_slots, .inl (cI, 24, .inl P_slots)), (aP_matches, .inl (cI, 640, .inl P_matches)), (aP_termsSeen, .inl (cI, 24, .inl P_termsSeen))] H := hP
    have hD : va_D A [(aJ, .inr (0, [.ref aT, .ref aP, .ref aF, .ref aQ, .ref aM, .ref aB, .int J_hasRun, .ref aJ_plainOrder, .ref aC])), (aT, .inr (6, [.ref aT_packed, .int T_count])), (aT_packed, .inl (cI, 80, .inl T_packed)), (aP, .inr (2, [.ref aP_slots, .ref aP_termsSeen, .ref aP_matches, .ref aP_matchCount, .ref aP_variables, .ref aP_havingVariable, .ref aP_told, .ref aP_parent, .ref aP_allBefore, .int P_required, .int P_hinted, .int P_count])), (aP_matchCount, .inl (cI, 8, .inl P_matchCount)), (aP_slots, .inl (cI, 24, .inl P_slots)), (aP_matches, .inl (cI, 640, .inl P_matches)), (aP_termsSeen, .inl (cI, 24, .inl P_termsSeen))] := hD
    refine lv_if_eq (tgt := 21) hx hb dX0_triple_11 (by decide) (fun c_4 => ?_) (fun c_4 => ?_)
    · have hf := xb_t c_4 hf
      refine lv_bipush (v := (-2 : Int32)) hx hb dX0_triple_21 (by decide) ?_
      have hf := Option.some.inj hf
      cases hf
      exact x_iret (fun _ => 0) hQ hx hb hr hlk hK hP hD hS dX0_triple_23
    · have hf := xb_f c_4 hf
      refine lv_iload_n hx hb dX0_triple_14 rfl (lv_at hl 3 rfl) ?_
      refine x_z (xrS (As := [.int x3]) (rest := []) ⟨hx, hb, hml, hown, htg⟩ (c_f_JoinOrder_isTerm l D cI cJ cZ _ x3 rfl) kc_f_JoinOrder_isTerm kw_232 kw_233 kw_1 dd_f_JoinOrder_isTerm ⟨Nat.le_of_ble_eq_true rfl, Nat.le_of_ble_eq_true rfl⟩ rfl rfl (hP.sub [] rfl) (hD.sub [] (by decide) rfl) hK hN rfl hl.1 rfl (Nat.le_of_ble_eq_true rfl) dX0_triple_15 ⟨Nat.le_of_ble_eq_true rfl, Nat.le_of_ble_eq_true rfl⟩) hP hD hS hA [] [0, 1, 2, 3, 4, 5, 6, 7] rfl rfl (by decide) (by decide) (fun _ H locs bz_5 hP hD hS => ?_)
      have hP : va_P D vwCl [(aJ, .inr (0, [.ref aT, .ref aP, .ref aF, .ref aQ, .ref aM, .ref aB, .int J_hasRun, .ref aJ_plainOrder, .ref aC])), (aT, .inr (6, [.ref aT_packed, .int T_count])), (aT_packed, .inl (cI, 80, .inl T_packed)), (aP, .inr (2, [.ref aP_slots, .ref aP_termsSeen, .ref aP_matches, .ref aP_matchCount, .ref aP_variables, .ref aP_havingVariable, .ref aP_told, .ref aP_parent, .ref aP_allBefore, .int P_required, .int P_hinted, .int P_count])), (aP_matchCount, .inl (cI, 8, .inl P_matchCount)), (aP_slots, .inl (cI, 24, .inl P_slots)), (aP_matches, .inl (cI, 640, .inl P_matches)), (aP_termsSeen, .inl (cI, 24, .inl P_termsSeen))] H := hP
      have hD : va_D A [(aJ, .inr (0, [.ref aT, .ref aP, .ref aF, .ref aQ, .ref aM, .ref aB, .int J_hasRun, .ref aJ_plainOrder, .ref aC])), (aT, .inr (6, [.ref aT_packed, .int T_count])), (aT_packed, .inl (cI, 80, .inl T_packed)), (aP, .inr (2, [.ref aP_slots, .ref aP_termsSeen, .ref aP_matches, .ref aP_matchCount, .ref aP_variables, .ref aP_havingVariable, .ref aP_told, .ref aP_parent, .ref aP_allBefore, .int P_required, .int P_hinted, .int P_count])), (aP_matchCount, .inl (cI, 8, .inl P_matchCount)), (aP_slots, .inl (cI, 24, .inl P_slots)), (aP_matches, .inl (cI, 640, .inl P_matches)), (aP_termsSeen, .inl (cI, 24, .inl P_termsSeen))] := hD
      refine lv_if_ne (tgt := 24) hx hb dX0_triple_18 (by decide) (fun c_6 => ?_) (fun c_6 => ?_)
      · have hf := xb_f c_6 hf
        refine lv_iload_n hx hb dX0_triple_24 rfl (lv_at hl 1 rfl) ?_
        refine lv_iload_n hx hb dX0_triple_25 rfl (lv_at hl 2 rfl) ?_
        refine lv_iload_n hx hb dX0_triple_26 rfl (lv_at hl 3 rfl) ?_
        refine x_i (xrS (As := [.int x1, .int x2, .int x3]) (rest := []) ⟨hx, hb, hml, hown, htg⟩ (c_f_Triples_pack l D cI cJ cZ _ x1 x2 x3 rfl) kc_f_Triples_pack kw_235 kw_236 kw_2 dd_f_Triples_pack ⟨Nat.le_of_ble_eq_true rfl, Nat.le_of_ble_eq_true rfl⟩ rfl rfl (hP.sub [] rfl) (hD.sub [] (by decide) rfl) hK hN rfl hl.1 rfl (Nat.le_of_ble_eq_true rfl) dX0_triple_27 ⟨Nat.le_of_ble_eq_true rfl, Nat.le_of_ble_eq_true rfl⟩) hP hD hS hA [] [0, 1, 2, 3, 4, 5, 6, 7] rfl rfl (by decide) (by decide) (fun _ H locs hP hD hS => ?_)
        have hP : va_P D vwCl [(aJ, .inr (0, [.ref aT, .ref aP, .ref aF, .ref aQ, .ref aM, .ref aB, .int J_hasRun, .ref aJ_plainOrder, .ref aC])), (aT, .inr (6, [.ref aT_packed, .int T_count])), (aT_packed, .inl (cI, 80, .inl T_packed)), (aP, .inr (2, [.ref aP_slots, .ref aP_termsSeen, .ref aP_matches, .ref aP_matchCount, .ref aP_variables, .ref aP_havingVariable, .ref aP_told, .ref aP_parent, .ref aP_allBefore, .int P_required, .int P_hinted, .int P_count])), (aP_matchCount, .inl (cI, 8, .inl P_matchCount)), (aP_slots, .inl (cI, 24, .inl P_slots)), (aP_matches, .inl (cI, 640, .inl P_matches)), (aP_termsSeen, .inl (cI, 24, .inl P_termsSeen))] H := hP
        have hD : va_D A [(aJ, .inr (0, [.ref aT, .ref aP, .ref aF, .ref aQ, .ref aM, .ref aB, .int J_hasRun, .ref aJ_plainOrder, .ref aC])), (aT, .inr (6, [.ref aT_packed, .int T_count])), (aT_packed, .inl (cI, 80, .inl T_packed)), (aP, .inr (2, [.ref aP_slots, .ref aP_termsSeen, .ref aP_matches, .ref aP_matchCount, .ref aP_variables, .ref aP_havingVariable, .ref aP_told, .ref aP_parent, .ref aP_allBefore, .int P_required, .int P_hinted, .int P_count])), (aP_matchCount, .inl (cI, 8, .inl P_matchCount)), (aP_slots, .inl (cI, 24, .inl P_slots)), (aP_matches, .inl (cI, 640, .inl P_matches)), (aP_termsSeen, .inl (cI, 24, .inl P_termsSeen))] := hD
        refine lv_topi (fun x4_8 ex4_8 => ?_)
        have hf := nm_nm ex4_8 hf
        refine lv_istore (lv' := [(4, .int x4_8), (0, .ref aJ), (1, .int x1), (2, .int x2), (3, .int x3)]) hx hb dX0_triple_30 hl (by decide) rfl (fun ls hl => ?_)
        refine lv_aload_n hx hb dX0_triple_32 rfl (lv_at hl 1 rfl) ?_
        refine va_get (D := D) (ci := 0) (v := .ref aT) (C := RX0) (T := TX0) (N := 9) hx hb htg giX0 hown hK hP 0 rfl rfl 0 (by decide) (htg _ kw_200) (fun _ h9 => h9) rfl dX0_triple_33 ?_
        refine lv_iload hx hb dX0_triple_36 (lv_at hl 0 rfl) ?_
        obtain ⟨r_10, hq_9, hf⟩ := bn1_c hf
        refine x_z (xrV (As := [.int x4_8]) (b := aT) (rest := []) ⟨hx, hb, hml, hown, htg⟩ (c_f_Triples_has l D cI cJ cZ _ n aT x4_8 aT_packed T_count T_packed hq_9) kc_f_Triples_has kw_241 kw_242 kw_243 kw_2 dd_f_Triples_has ⟨Nat.le_of_ble_eq_true rfl, Nat.le_of_ble_eq_true rfl⟩ rfl rfl (hP.sub [1, 2] rfl) (hD.sub [1, 2] (by decide) rfl) hK hN hP (q0 := 1) rfl rfl rfl hl.1 rfl (Nat.le_of_ble_eq_true rfl) dX0_triple_38 ⟨Nat.le_of_ble_eq_true rfl, Nat.le_of_ble_eq_true rfl⟩) hP hD hS hA [1, 2] [0, 3, 4, 5, 6, 7] rfl rfl (by decide) (by decide) (fun _ H locs bz_9 hP hD hS => ?_)
        have hP : va_P D vwCl [(aJ, .inr (0, [.ref aT, .ref aP, .ref aF, .ref aQ, .ref aM, .ref aB, .int J_hasRun, .ref aJ_plainOrder, .ref aC])), (aP, .inr (2, [.ref aP_slots, .ref aP_termsSeen, .ref aP_matches, .ref aP_matchCount, .ref aP_variables, .ref aP_havingVariable, .ref aP_told, .ref aP_parent, .ref aP_allBefore, .int P_required, .int P_hinted, .int P_count])), (aP_matchCount, .inl (cI, 8, .inl P_matchCount)), (aP_slots, .inl (cI, 24, .inl P_slots)), (aP_matches, .inl (cI, 640, .inl P_matches)), (aP_termsSeen, .inl (cI, 24, .inl P_termsSeen)), (aT, .inr (6, [.ref aT_packed, .int T_count])), (aT_packed, .inl (cI, 80, .inl T_packed))] H := hP
        have hD : va_D A [(aJ, .inr (0, [.ref aT, .ref aP, .ref aF, .ref aQ, .ref aM, .ref aB, .int J_hasRun, .ref aJ_plainOrder, .ref aC])), (aP, .inr (2, [.ref aP_slots, .ref aP_termsSeen, .ref aP_matches, .ref aP_matchCount, .ref aP_variables, .ref aP_havingVariable, .ref aP_told, .ref aP_parent, .ref aP_allBefore, .int P_required, .int P_hinted, .int P_count])), (aP_matchCount, .inl (cI, 8, .inl P_matchCount)), (aP_slots, .inl (cI, 24, .inl P_slots)), (aP_matches, .inl (cI, 640, .inl P_matches)), (aP_termsSeen, .inl (cI, 24, .inl P_termsSeen)), (aT, .inr (6, [.ref aT_packed, .int T_count])), (aT_packed, .inl (cI, 80, .inl T_packed))] := hD
        refine lv_if_eq (tgt := 52) hx hb dX0_triple_41 (by decide) (fun c_11 => ?_) (fun c_11 => ?_)
        · have hf := xb_t c_11 hf
          refine lv_aload_n hx hb dX0_triple_52 rfl (lv_at hl 1 rfl) ?_
          refine va_get (D := D) (ci := 0) (v := .ref aT) (C := RX0) (T := TX0) (N := 9) hx hb htg giX0 hown hK hP 0 rfl rfl 0 (by decide) (htg _ kw_200) (fun _ h9 => h9) rfl dX0_triple_53 ?_
          refine va_getN (D := D) (ci := 6) (v := .int T_count) (C := RX6) (T := TX6) (N := 2) hx hb htg giX6 hown hK hP 6 rfl rfl 1 (by decide) (va_Nw.use rfl (hN _ kn_27)) (fun _ h9 => h9) rfl dX0_triple_56 ?_
          refine lv_bipush (v := (80 : Int32)) hx hb dX0_triple_59 (by decide) ?_
          refine lv_icmp_lt (tgt := 67) hx hb dX0_triple_61 (by decide) (fun c_12 => ?_) (fun c_12 => ?_)
          · have hf := xb_t c_12 hf
            refine lv_aload_n hx hb dX0_triple_67 rfl (lv_at hl 1 rfl) ?_
            refine va_get (D := D) (ci := 0) (v := .ref aT) (C := RX0) (T := TX0) (N := 9) hx hb htg giX0 hown hK hP 0 rfl rfl 0 (by decide) (htg _ kw_200) (fun _ h9 => h9) rfl dX0_triple_68 ?_
            refine lv_iload hx hb dX0_triple_71 (lv_at hl 0 rfl) ?_
            obtain ⟨T_count_14, T_packed_15, hq_13, hf⟩ := bn2_c hf
            refine x_v (xrV (As := [.int x4_8]) (b := aT) (rest := []) ⟨hx, hb, hml, hown, htg⟩ (c_f_Triples_add l D cI cJ cZ _ aT x4_8 aT_packed T_count T_packed hq_13) kc_f_Triples_add kw_245 kw_246 kw_247 kw_2 dd_f_Triples_add ⟨Nat.le_of_ble_eq_true rfl, Nat.le_of_ble_eq_true rfl⟩ rfl rfl (hP.sub [6, 7] rfl) (hD.sub [6, 7] (by decide) rfl) hK hN hP (q0 := 6) rfl rfl rfl hl.1 rfl (Nat.le_of_ble_eq_true rfl) dX0_triple_73 ⟨Nat.le_of_ble_eq_true rfl, Nat.le_of_ble_eq_true rfl⟩) hP hD hS hA [6, 7] [0, 1, 2, 3, 4, 5] rfl rfl (by decide) (by decide) (fun _ H locs hP hD hS => ?_)
            have hP : va_P D vwCl [(aJ, .inr (0, [.ref aT, .ref aP, .ref aF, .ref aQ, .ref aM, .ref aB, .int J_hasRun, .ref aJ_plainOrder, .ref aC])), (aP, .inr (2, [.ref aP_slots, .ref aP_termsSeen, .ref aP_matches, .ref aP_matchCount, .ref aP_variables, .ref aP_havingVariable, .ref aP_told, .ref aP_parent, .ref aP_allBefore, .int P_required, .int P_hinted, .int P_count])), (aP_matchCount, .inl (cI, 8, .inl P_matchCount)), (aP_slots, .inl (cI, 24, .inl P_slots)), (aP_matches, .inl (cI, 640, .inl P_matches)), (aP_termsSeen, .inl (cI, 24, .inl P_termsSeen)), (aT, .inr (6, [.ref aT_packed, .int T_count_14])), (aT_packed, .inl (cI, 80, .inl T_packed_15))] H := hP
            have hD : va_D A [(aJ, .inr (0, [.ref aT, .ref aP, .ref aF, .ref aQ, .ref aM, .ref aB, .int J_hasRun, .ref aJ_plainOrder, .ref aC])), (aP, .inr (2, [.ref aP_slots, .ref aP_termsSeen, .ref aP_matches, .ref aP_matchCount, .ref aP_variables, .ref aP_havingVariable, .ref aP_told, .ref aP_parent, .ref aP_allBefore, .int P_required, .int P_hinted, .int P_count])), (aP_matchCount, .inl (cI, 8, .inl P_matchCount)), (aP_slots, .inl (cI, 24, .inl P_slots)), (aP_matches, .inl (cI, 640, .inl P_matches)), (aP_termsSeen, .inl (cI, 24, .inl P_termsSeen)), (aT, .inr (6, [.ref aT_packed, .int T_count_14])), (aT_packed, .inl (cI, 80, .inl T_packed_15))] := hD
            refine lv_aload_n hx hb dX0_triple_76 rfl (lv_at hl 1 rfl) ?_
            refine va_get (D := D) (ci := 0) (v := .ref aP) (C := RX0) (T := TX0) (N := 9) hx hb htg giX0 hown hK hP 0 rfl rfl 1 (by decide) (htg _ kw_201) (fun _ h9 => h9) rfl dX0_triple_77 ?_
            refine lv_iload hx hb dX0_triple_80 (lv_at hl 0 rfl) ?_
            obtain ⟨P_matchCount_17, P_matches_18, P_termsSeen_19, hq_16, hf⟩ := bn3_c hf
            refine x_v (xrV (As := [.int x4_8]) (b := aP) (rest := []) ⟨hx, hb, hml, hown, htg⟩ (c_f_Patterns_meetAll l D cI cJ cZ _ n aP x4_8 aP_slots aP_termsSeen aP_matches aP_matchCount aP_variables aP_havingVariable aP_told aP_parent aP_allBefore P_required P_hinted P_count P_matchCount P_slots P_matches P_termsSeen hq_16) kc_f_Patterns_meetAll kw_249 kw_250 kw_251 kw_3 dd_f_Patterns_meetAll ⟨Nat.le_of_ble_eq_true rfl, Nat.le_of_ble_eq_true rfl⟩ rfl rfl (hP.sub [1, 2, 3, 4, 5] rfl) (hD.sub [1, 2, 3, 4, 5] (by decide) rfl) hK hN hP (q0 := 1) rfl rfl rfl hl.1 rfl (Nat.le_of_ble_eq_true rfl) dX0_triple_82 ⟨Nat.le_of_ble_eq_true rfl, Nat.le_of_ble_eq_true rfl⟩) hP hD hS hA [1, 2, 3, 4, 5] [0, 6, 7] rfl rfl (by decide) (by decide) (fun _ H locs hP hD hS => ?_)
            have hP : va_P D vwCl [(aJ, .inr (0, [.ref aT, .ref aP, .ref aF, .ref aQ, .ref aM, .ref aB, .int J_hasRun, .ref aJ_plainOrder, .ref aC])), (aT, .inr (6, [.ref aT_packed, .int T_count_14])), (aT_packed, .inl (cI, 80, .inl T_packed_15)), (aP, .inr (2, [.ref aP_slots, .ref aP_termsSeen, .ref aP_matches, .ref aP_matchCount, .ref aP_variables, .ref aP_havingVariable, .ref aP_told, .ref aP_parent, .ref aP_allBefore, .int P_required, .int P_hinted, .int P_count])), (aP_matchCount, .inl (cI, 8, .inl P_matchCount_17)), (aP_slots, .inl (cI, 24, .inl P_slots)), (aP_matches, .inl (cI, 640, .inl P_matches_18)), (aP_termsSeen, .inl (cI, 24, .inl P_termsSeen_19))] H := hP
            have hD : va_D A [(aJ, .inr (0, [.ref aT, .ref aP, .ref aF, .ref aQ, .ref aM, .ref aB, .int J_hasRun, .ref aJ_plainOrder, .ref aC])), (aT, .inr (6, [.ref aT_packed, .int T_count_14])), (aT_packed, .inl (cI, 80, .inl T_packed_15)), (aP, .inr (2, [.ref aP_slots, .ref aP_termsSeen, .ref aP_matches, .ref aP_matchCount, .ref aP_variables, .ref aP_havingVariable, .ref aP_told, .ref aP_parent, .ref aP_allBefore, .int P_required, .int P_hinted, .int P_count])), (aP_matchCount, .inl (cI, 8, .inl P_matchCount_17)), (aP_slots, .inl (cI, 24, .inl P_slots)), (aP_matches, .inl (cI, 640, .inl P_matches_18)), (aP_termsSeen, .inl (cI, 24, .inl P_termsSeen_19))] := hD
            refine lv_aload_n hx hb dX0_triple_85 rfl (lv_at hl 1 rfl) ?_
            refine va_get (D := D) (ci := 0) (v := .ref aT) (C := RX0) (T := TX0) (N := 9) hx hb htg giX0 hown hK hP 0 rfl rfl 0 (by decide) (htg _ kw_200) (fun _ h9 => h9) rfl dX0_triple_86 ?_
            refine va_getN (D := D) (ci := 6) (v := .int T_count_14) (C := RX6) (T := TX6) (N := 2) hx hb htg giX6 hown hK hP 1 rfl rfl 1 (by decide) (va_Nw.use rfl (hN _ kn_27)) (fun _ h9 => h9) rfl dX0_triple_89 ?_
            have hf := Option.some.inj hf
            cases hf
            exact x_iret (fun _ => 0) hQ hx hb hr hlk hK hP hD hS dX0_triple_92
          · have hf := xb_f c_12 hf
            refine lv_bipush (v := (-4 : Int32)) hx hb dX0_triple_64 (by decide) ?_
            have hf := Option.some.inj hf
            cases hf
            exact x_iret (fun _ => 0) hQ hx hb hr hlk hK (hP.sub [0, 6, 7, 1, 2, 3, 4, 5] rfl) (hD.sub [0, 6, 7, 1, 2, 3, 4, 5] (by decide) rfl) hS dX0_triple_66
        · have hf := xb_f c_11 hf
          refine lv_aload_n hx hb dX0_triple_44 rfl (lv_at hl 1 rfl) ?_
          refine va_get (D := D) (ci := 0) (v := .ref aT) (C := RX0) (T := TX0) (N := 9) hx hb htg giX0 hown hK hP 0 rfl rfl 0 (by decide) (htg _ kw_200) (fun _ h9 => h9) rfl dX0_triple_45 ?_
          refine va_getN (D := D) (ci := 6) (v := .int T_count) (C := RX6) (T := TX6) (N := 2) hx hb htg giX6 hown hK hP 6 rfl rfl 1 (by decide) (va_Nw.use rfl (hN _ kn_27)) (fun _ h9 => h9) rfl dX0_triple_48 ?_
          have hf := Option.some.inj hf
          cases hf
          exact x_iret (fun _ => 0) hQ hx hb hr hlk hK (hP.sub [0, 6, 7, 1, 2, 3, 4, 5] rfl) (hD.sub [0, 6, 7, 1, 2, 3, 4, 5] (by decide) rfl) hS dX0_triple_51
      · have hf := xb_t c_6 hf
        refine lv_bipush (v := (-2 : Int32)) hx hb dX0_triple_21 (by decide) ?_
        have hf := Option.some.inj hf
        cases hf
        exact x_iret (fun _ => 0) hQ hx hb hr hlk hK hP hD hS dX0_triple_23
abbrev rm_f_JoinOrderModel_isTerm : Room := { frames := 0, cells := 0, slots := 0, locals := 0 }
set_option maxHeartbeats 4000000 in
set_option maxRecDepth 100000 in
theorem c_f_JoinOrderModel_isTerm (l : Launch) (D : va_G) (cI cJ cZ : ClassId) (sz : Nat) (x0 : Int32) {r : Int32} (hf : f_JoinOrderModel_isTerm x0 = r) : Met l yX7_isTerm (.code yX7_isTerm cX7_isTerm 1 (some .boolean) :: GW) rm_f_JoinOrderModel_isTerm (va_Pc [.int x0] (xP D (xT cI cJ cZ) sz [])) (va_Qi (fun r2 (_ : Nat → Nat) => r2 = r ∧ (r = 0 ∨ r = 1)) (bB D (xT cI cJ cZ) (fun _ => []) (va_A [] sz)) (va_A [] sz)) 0 0 (va_A [] sz) := by
  refine con_start (Qc := fun A => va_Qi (fun r2 (_ : Nat → Nat) => r2 = r ∧ (r = 0 ∨ r = 1)) (bB D (xT cI cJ cZ) (fun _ => []) A) A) (by decide) (Nat.le_of_ble_eq_true rfl) ?_
  intro p e s m args below meth c Q A hx hb hr hlk hml hown hin htg hN hK hQ hA hP hD hS ls hl
  have hl : lv_has ls 1 [(0, .int x0)] := hl
  have hown : s.vm.findClass RX7 = some m.cls := hown
  have hf := (f_JoinOrderModel_isTerm_u x0).symm.trans hf
  refine lv_iload_n hx hb dX7_isTerm_0 rfl (lv_at hl 0 rfl) ?_
  refine lv_if_lt (tgt := 14) hx hb dX7_isTerm_1 (by decide) (fun c_1 => ?_) (fun c_1 => ?_)
  · have hf := xb_t c_1 hf
    refine lv_iconst (v := (0 : Int32)) hx hb dX7_isTerm_14 (by decide) ?_
    have hf := hf
    cases hf
    exact x_zret (fun _ => 0) hQ hx hb hr hlk (by decide) hK hP hD hS dX7_isTerm_15
  · have hf := xb_f c_1 hf
    refine lv_iload_n hx hb dX7_isTerm_4 rfl (lv_at hl 0 rfl) ?_
    refine lv_bipush (v := (32 : Int32)) hx hb dX7_isTerm_5 (by decide) ?_
    refine lv_icmp_ge (tgt := 14) hx hb dX7_isTerm_7 (by decide) (fun c_2 => ?_) (fun c_2 => ?_)
    · have hf := xb_t c_2 hf
      refine lv_iconst (v := (0 : Int32)) hx hb dX7_isTerm_14 (by decide) ?_
      have hf := hf
      cases hf
      exact x_zret (fun _ => 0) hQ hx hb hr hlk (by decide) hK hP hD hS dX7_isTerm_15
    · have hf := xb_f c_2 hf
      refine lv_iconst (v := (1 : Int32)) hx hb dX7_isTerm_10 (by decide) ?_
      refine lv_goto (tgt := 15) hx hb dX7_isTerm_11 (by decide) ?_
      have hf := hf
      cases hf
      exact x_zret (fun _ => 0) hQ hx hb hr hlk (by decide) hK hP hD hS dX7_isTerm_15
abbrev rm_f_JoinOrderModel_triple : Room := { frames := 1, cells := 0, slots := 0, locals := 20 }
set_option maxHeartbeats 4000000 in
set_option maxRecDepth 100000 in
theorem c_f_JoinOrderModel_triple (l : Launch) (D : va_G) (cI cJ cZ : ClassId) (sz : Nat) (n : Nat) (aR : Nat) (x1 : Int32) (x2 : Int32) (x3 : Int32) (R_triples : Int32) (aR_facts : Nat) (R_patterns : Int32) (aR_cells : Nat) (aR_told : Nat) (aR_of : Nat) (aR_hints : Nat) (R_filters : Int32) (aR_looks : Nat) (aR_kinds : Nat) (aR_values : Nat) (aR_isSafe : Nat) (aR_sizes : Nat) (aR_spreads : Nat) (aR_isSeen : Nat) (aR_estimates : Nat) (aR_rest : Nat) (R_steps : Int32) (aR_order : Nat) (aR_joins : Nat) (aR_actsBehind : Nat) (aR_upTo : Nat) (R_filtersThen : Int32) (aR_behind : Nat) (R_rows : Int32) (aR_row : Nat) (aR_found : Nat) (R_comes : Int32) (aR_next : Nat) (aR_nextFound : Nat) (R_kept : Int32) (R_hasRoom : Int32) (aR_keep : Nat) (aR_isTaken : Nat) (R_facts : Nat → Int32) {r : Int32} {R_triples' : Int32} {R_facts' : Nat → Int32} (hf : f_JoinOrderModel_triple n x1 x2 x3 R_triples R_facts = some (r, R_triples', R_facts')) : Met l yX7_triple (.code yX7_triple cX7_triple 5 (some .int) :: GW) rm_f_JoinOrderModel_triple (va_Pc [.ref aR, .int x1, .int x2, .int x3] (xP D (xT cI cJ cZ) sz [(aR, .inr (7, [.int R_triples, .ref aR_facts, .int R_patterns, .ref aR_cells, .ref aR_told, .ref aR_of, .ref aR_hints, .int R_filters, .ref aR_looks, .ref aR_kinds, .ref aR_values, .ref aR_isSafe, .ref aR_sizes, .ref aR_spreads, .ref aR_isSeen, .ref aR_estimates, .ref aR_rest, .int R_steps, .ref aR_order, .ref aR_joins, .ref aR_actsBehind, .ref aR_upTo, .int R_filtersThen, .ref aR_behind, .int R_rows, .ref aR_row, .ref aR_found, .int R_comes, .ref aR_next, .ref aR_nextFound, .int R_kept, .int R_hasRoom, .ref aR_keep, .ref aR_isTaken])), (aR_facts, .inl (cI, 240, .inl R_facts))])) (va_Qi (fun r2 (_ : Nat → Nat) => r2 = r) (bB D (xT cI cJ cZ) (fun _ => [(aR, .inr (7, [.int R_triples', .ref aR_facts, .int R_patterns, .ref aR_cells, .ref aR_told, .ref aR_of, .ref aR_hints, .int R_filters, .ref aR_looks, .ref aR_kinds, .ref aR_values, .ref aR_isSafe, .ref aR_sizes, .ref aR_spreads, .ref aR_isSeen, .ref aR_estimates, .ref aR_rest, .int R_steps, .ref aR_order, .ref aR_joins, .ref aR_actsBehind, .ref aR_upTo, .int R_filtersThen, .ref aR_behind, .int R_rows, .ref aR_row, .ref aR_found, .int R_comes, .ref aR_next, .ref aR_nextFound, .int R_kept, .int R_hasRoom, .ref aR_keep, .ref aR_isTaken])), (aR_facts, .inl (cI, 240, .inl R_facts'))]) (va_A [(aR, .inr (7, [.int R_triples, .ref aR_facts, .int R_patterns, .ref aR_cells, .ref aR_told, .ref aR_of, .ref aR_hints, .int R_filters, .ref aR_looks, .ref aR_kinds, .ref aR_values, .ref aR_isSafe, .ref aR_sizes, .ref aR_spreads, .ref aR_isSeen, .ref aR_estimates, .ref aR_rest, .int R_steps, .ref aR_order, .ref aR_joins, .ref aR_actsBehind, .ref aR_upTo, .int R_filtersThen, .ref aR_behind, .int R_rows, .ref aR_row, .ref aR_found, .int R_comes, .ref aR_next, .ref aR_nextFound, .int R_kept, .int R_hasRoom, .ref aR_keep, .ref aR_isTaken])), (aR_facts, .inl (cI, 240, .inl R_facts))] sz)) (va_A [(aR, .inr (7, [.int R_triples, .ref aR_facts, .int R_patterns, .ref aR_cells, .ref aR_told, .ref aR_of, .ref aR_hints, .int R_filters, .ref aR_looks, .ref aR_kinds, .ref aR_values, .ref aR_isSafe, .ref aR_sizes, .ref aR_spreads, .ref aR_isSeen, .ref aR_estimates, .ref aR_rest, .int R_steps, .ref aR_order, .ref aR_joins, .ref aR_actsBehind, .ref aR_upTo, .int R_filtersThen, .ref aR_behind, .int R_rows, .ref aR_row, .ref aR_found, .int R_comes, .ref aR_next, .ref aR_nextFound, .int R_kept, .int R_hasRoom, .ref aR_keep, .ref aR_isTaken])), (aR_facts, .inl (cI, 240, .inl R_facts))] sz)) 0 0 (va_A [(aR, .inr (7, [.int R_triples, .ref aR_facts, .int R_patterns, .ref aR_cells, .ref aR_told, .ref aR_of, .ref aR_hints, .int R_filters, .ref aR_looks, .ref aR_kinds, .ref aR_values, .ref aR_isSafe, .ref aR_sizes, .ref aR_spreads, .ref aR_isSeen, .ref aR_estimates, .ref aR_rest, .int R_steps, .ref aR_order, .ref aR_joins, .ref aR_actsBehind, .ref aR_upTo, .int R_filtersThen, .ref aR_behind, .int R_rows, .ref aR_row, .ref aR_found, .int R_comes, .ref aR_next, .ref aR_nextFound, .int R_kept, .int R_hasRoom, .ref aR_keep, .ref aR_isTaken])), (aR_facts, .inl (cI, 240, .inl R_facts))] sz) := by
  refine con_start (Qc := fun A => va_Qi (fun r2 (_ : Nat → Nat) => r2 = r) (bB D (xT cI cJ cZ) (fun _ => [(aR, .inr (7, [.int R_triples', .ref aR_facts, .int R_patterns, .ref aR_cells, .ref aR_told, .ref aR_of, .ref aR_hints, .int R_filters, .ref aR_looks, .ref aR_kinds, .ref aR_values, .ref aR_isSafe, .ref aR_sizes, .ref aR_spreads, .ref aR_isSeen, .ref aR_estimates, .ref aR_rest, .int R_steps, .ref aR_order, .ref aR_joins, .ref aR_actsBehind, .ref aR_upTo, .int R_filtersThen, .ref aR_behind, .int R_rows, .ref aR_row, .ref aR_found, .int R_comes, .ref aR_next, .ref aR_nextFound, .int R_kept, .int R_hasRoom, .ref aR_keep, .ref aR_isTaken])), (aR_facts, .inl (cI, 240, .inl R_facts'))]) A) A) (by decide) (Nat.le_of_ble_eq_true rfl) ?_
  intro p e s m args below meth c Q A hx hb hr hlk hml hown hin htg hN hK hQ hA hP hD hS ls hl
  have hl : lv_has ls 5 [(0, .ref aR), (1, .int x1), (2, .int x2), (3, .int x3)] := hl
  have hown : s.vm.findClass RX7 = some m.cls := hown
  have hf := (f_JoinOrderModel_triple_u n x1 x2 x3 R_triples R_facts).symm.trans hf
  refine lv_iload_n hx hb dX7_triple_0 rfl (lv_at hl 1 rfl) ?_
  refine x_z (xrS (As := [.int x1]) (rest := []) ⟨hx, hb, hml, hown, htg⟩ (c_f_JoinOrderModel_isTerm l D cI cJ cZ _ x1 rfl) kc_f_JoinOrderModel_isTerm kw_671 kw_672 kw_8 dd_f_JoinOrderModel_isTerm ⟨Nat.le_of_ble_eq_true rfl, Nat.le_of_ble_eq_true rfl⟩ rfl rfl (hP.sub [] rfl) (hD.sub [] (by decide) rfl) hK hN rfl hl.1 rfl (Nat.le_of_ble_eq_true rfl) dX7_triple_1 ⟨Nat.le_of_ble_eq_true rfl, Nat.le_of_ble_eq_true rfl⟩) hP hD hS hA [] [0, 1] rfl rfl (by decide) (by decide) (fun _ H locs bz_1 hP hD hS => ?_)
  have hP : va_P D vwCl [(aR, .inr (7, [.int R_triples, .ref aR_facts, .int R_patterns, .ref aR_cells, .ref aR_told, .ref aR_of, .ref aR_hints, .int R_filters, .ref aR_looks, .ref aR_kinds, .ref aR_values, .ref aR_isSafe, .ref aR_sizes, .ref aR_spreads, .ref aR_isSeen, .ref aR_estimates, .ref aR_rest, .int R_steps, .ref aR_order, .ref aR_joins, .ref aR_actsBehind, .ref aR_upTo, .int R_filtersThen, .ref aR_behind, .int R_rows, .ref aR_row, .ref aR_found, .int R_comes, .ref aR_next, .ref aR_nextFound, .int R_kept, .int R_hasRoom, .ref aR_keep, .ref aR_isTaken])), (aR_facts, .inl (cI, 240, .inl R_facts))] H := hP
  have hD : va_D A [(aR, .inr (7, [.int R_triples, .ref aR_facts, .int R_patterns, .ref aR_cells, .ref aR_told, .ref aR_of, .ref aR_hints, .int R_filters, .ref aR_looks, .ref aR_kinds, .ref aR_values, .ref aR_isSafe, .ref aR_sizes, .ref aR_spreads, .ref aR_isSeen, .ref aR_estimates, .ref aR_rest, .int R_steps, .ref aR_order, .ref aR_joins, .ref aR_actsBehind, .ref aR_upTo, .int R_filtersThen, .ref aR_behind, .int R_rows, .ref aR_row, .ref aR_found, .int R_comes, .ref aR_next, .ref aR_nextFound, .int R_kept, .int R_hasRoom, .ref aR_keep, .ref aR_isTaken])), (aR_facts, .inl (cI, 240, .inl R_facts))] := hD
  refine lv_if_eq (tgt := 21) hx hb dX7_triple_4 (by decide) (fun c_2 => ?_) (fun c_2 => ?_)
  · have hf := xb_t c_2 hf
    refine lv_bipush (v := (-2 : Int32)) hx hb dX7_triple_21 (by decide) ?_
    have hf := Option.some.inj hf
    cases hf
    exact x_iret (fun _ => 0) hQ hx hb hr hlk hK hP hD hS dX7_triple_23
  · have hf := xb_f c_2 hf
    refine lv_iload_n hx hb dX7_triple_7 rfl (lv_at hl 2 rfl) ?_
    refine x_z (xrS (As := [.int x2]) (rest := []) ⟨hx, hb, hml, hown, htg⟩ (c_f_JoinOrderModel_isTerm l D cI cJ cZ _ x2 rfl) kc_f_JoinOrderModel_isTerm kw_671 kw_672 kw_8 dd_f_JoinOrderModel_isTerm ⟨Nat.le_of_ble_eq_true rfl, Nat.le_of_ble_eq_true rfl⟩ rfl rfl (hP.sub [] rfl) (hD.sub [] (by decide) rfl) hK hN rfl hl.1 rfl (Nat.le_of_ble_eq_true rfl) dX7_triple_8 ⟨Nat.le_of_ble_eq_true rfl, Nat.le_of_ble_eq_true rfl⟩) hP hD hS hA [] [0, 1] rfl rfl (by decide) (by decide) (fun _ H locs bz_3 hP hD hS => ?_)
    have hP : va_P D vwCl [(aR, .inr (7, [.int R_triples, .ref aR_facts, .int R_patterns, .ref aR_cells, .ref aR_told, .ref aR_of, .ref aR_hints, .int R_filters, .ref aR_looks, .ref aR_kinds, .ref aR_values, .ref aR_isSafe, .ref aR_sizes, .ref aR_spreads, .ref aR_isSeen, .ref aR_estimates, .ref aR_rest, .int R_steps, .ref aR_order, .ref aR_joins, .ref aR_actsBehind, .ref aR_upTo, .int R_filtersThen, .ref aR_behind, .int R_rows, .ref aR_row, .ref aR_found, .int R_comes, .ref aR_next, .ref aR_nextFound, .int R_kept, .int R_hasRoom, .ref aR_keep, .ref aR_isTaken])), (aR_facts, .inl (cI, 240, .inl R_facts))] H := hP
    have hD : va_D A [(aR, .inr (7, [.int R_triples, .ref aR_facts, .int R_patterns, .ref aR_cells, .ref aR_told, .ref aR_of, .ref aR_hints, .int R_filters, .ref aR_looks, .ref aR_kinds, .ref aR_values, .ref aR_isSafe, .ref aR_sizes, .ref aR_spreads, .ref aR_isSeen, .ref aR_estimates, .ref aR_rest, .int R_steps, .ref aR_order, .ref aR_joins, .ref aR_actsBehind, .ref aR_upTo, .int R_filtersThen, .ref aR_behind, .int R_rows, .ref aR_row, .ref aR_found, .int R_comes, .ref aR_next, .ref aR_nextFound, .int R_kept, .int R_hasRoom, .ref aR_keep, .ref aR_isTaken])), (aR_facts, .inl (cI, 240, .inl R_facts))] := hD
    refine lv_if_eq (tgt := 21) hx hb dX7_triple_11 (by decide) (fun c_4 => ?_) (fun c_4 => ?_)
    · have hf := xb_t c_4 hf
      refine lv_bipush (v := (-2 : Int32)) hx hb dX7_triple_21 (by decide) ?_
      have hf := Option.some.inj hf
      cases hf
      exact x_iret (fun _ => 0) hQ hx hb hr hlk hK hP hD hS dX7_triple_23
    · have hf := xb_f c_4 hf
      refine lv_iload_n hx hb dX7_triple_14 rfl (lv_at hl 3 rfl) ?_
      refine x_z (xrS (As := [.int x3]) (rest := []) ⟨hx, hb, hml, hown, htg⟩ (c_f_JoinOrderModel_isTerm l D cI cJ cZ _ x3 rfl) kc_f_JoinOrderModel_isTerm kw_671 kw_672 kw_8 dd_f_JoinOrderModel_isTerm ⟨Nat.le_of_ble_eq_true rfl, Nat.le_of_ble_eq_true rfl⟩ rfl rfl (hP.sub [] rfl) (hD.sub [] (by decide) rfl) hK hN rfl hl.1 rfl (Nat.le_of_ble_eq_true rfl) dX7_triple_15 ⟨Nat.le_of_ble_eq_true rfl, Nat.le_of_ble_eq_true rfl⟩) hP hD hS hA [] [0, 1] rfl rfl (by decide) (by decide) (fun _ H locs bz_5 hP hD hS => ?_)
      have hP : va_P D vwCl [(aR, .inr (7, [.int R_triples, .ref aR_facts, .int R_patterns, .ref aR_cells, .ref aR_told, .ref aR_of, .ref aR_hints, .int R_filters, .ref aR_looks, .ref aR_kinds, .ref aR_values, .ref aR_isSafe, .ref aR_sizes, .ref aR_spreads, .ref aR_isSeen, .ref aR_estimates, .ref aR_rest, .int R_steps, .ref aR_order, .ref aR_joins, .ref aR_actsBehind, .ref aR_upTo, .int R_filtersThen, .ref aR_behind, .int R_rows, .ref aR_row, .ref aR_found, .int R_comes, .ref aR_next, .ref aR_nextFound, .int R_kept, .int R_hasRoom, .ref aR_keep, .ref aR_isTaken])), (aR_facts, .inl (cI, 240, .inl R_facts))] H := hP
      have hD : va_D A [(aR, .inr (7, [.int R_triples, .ref aR_facts, .int R_patterns, .ref aR_cells, .ref aR_told, .ref aR_of, .ref aR_hints, .int R_filters, .ref aR_looks, .ref aR_kinds, .ref aR_values, .ref aR_isSafe, .ref aR_sizes, .ref aR_spreads, .ref aR_isSeen, .ref aR_estimates, .ref aR_rest, .int R_steps, .ref aR_order, .ref aR_joins, .ref aR_actsBehind, .ref aR_upTo, .int R_filtersThen, .ref aR_behind, .int R_rows, .ref aR_row, .ref aR_found, .int R_comes, .ref aR_next, .ref aR_nextFound, .int R_kept, .int R_hasRoom, .ref aR_keep, .ref aR_isTaken])), (aR_facts, .inl (cI, 240, .inl R_facts))] := hD
      refine lv_if_ne (tgt := 24) hx hb dX7_triple_18 (by decide) (fun c_6 => ?_) (fun c_6 => ?_)
      · have hf := xb_f c_6 hf
        refine lv_iconst (v := (0 : Int32)) hx hb dX7_triple_24 (by decide) ?_
        refine lv_istore (lv' := [(4, .int (0 : Int32)), (0, .ref aR), (1, .int x1), (2, .int x2), (3, .int x3)]) hx hb dX7_triple_25 hl (by decide) rfl (fun ls hl => ?_)
        have L_27_28 : ∀ (k : Nat) (x4_29 : Int32) (o_28 : ((Int32 × Int32 × (Nat → Int32)) ⊕ Unit)), f_JoinOrderModel_triple_L0 n x1 x2 x3 R_triples R_facts k x4_29 = some o_28 → (∀ z : (Int32 × Int32 × (Nat → Int32)), some (Sum.inl z) = some o_28 → z = (r, R_triples', R_facts')) → ∀ (H : Heap) (locs : List Loc), va_P D vwCl [(aR, .inr (7, [.int R_triples, .ref aR_facts, .int R_patterns, .ref aR_cells, .ref aR_told, .ref aR_of, .ref aR_hints, .int R_filters, .ref aR_looks, .ref aR_kinds, .ref aR_values, .ref aR_isSafe, .ref aR_sizes, .ref aR_spreads, .ref aR_isSeen, .ref aR_estimates, .ref aR_rest, .int R_steps, .ref aR_order, .ref aR_joins, .ref aR_actsBehind, .ref aR_upTo, .int R_filtersThen, .ref aR_behind, .int R_rows, .ref aR_row, .ref aR_found, .int R_comes, .ref aR_next, .ref aR_nextFound, .int R_kept, .int R_hasRoom, .ref aR_keep, .ref aR_isTaken])), (aR_facts, .inl (cI, 240, .inl R_facts))] H → va_D A [(aR, .inr (7, [.int R_triples, .ref aR_facts, .int R_patterns, .ref aR_cells, .ref aR_told, .ref aR_of, .ref aR_hints, .int R_filters, .ref aR_looks, .ref aR_kinds, .ref aR_values, .ref aR_isSafe, .ref aR_sizes, .ref aR_spreads, .ref aR_isSeen, .ref aR_estimates, .ref aR_rest, .int R_steps, .ref aR_order, .ref aR_joins, .ref aR_actsBehind, .ref aR_upTo, .int R_filtersThen, .ref aR_behind, .int R_rows, .ref aR_row, .ref aR_found, .int R_comes, .ref aR_next, .ref aR_nextFound, .int R_kept, .int R_hasRoom, .ref aR_keep, .ref aR_isTaken])), (aR_facts, .inl (cI, 240, .inl R_facts))] → va_S A s.heap H locs → ∀ ls : Array Slot, lv_has ls 5 [(0, .ref aR), (1, .int x1), (2, .int x2), (3, .int x3), (4, .int x4_29)] → (some (Sum.inr ()) = some o_28 → ∀ (H : Heap) (locs : List Loc), va_P D vwCl [(aR, .inr (7, [.int R_triples, .ref aR_facts, .int R_patterns, .ref aR_cells, .ref aR_told, .ref aR_of, .ref aR_hints, .int R_filters, .ref aR_looks, .ref aR_kinds, .ref aR_values, .ref aR_isSafe, .ref aR_sizes, .ref aR_spreads, .ref aR_isSeen, .ref aR_estimates, .ref aR_rest, .int R_steps, .ref aR_order, .ref aR_joins, .ref aR_actsBehind, .ref aR_upTo, .int R_filtersThen, .ref aR_behind, .int R_rows, .ref aR_row, .ref aR_found, .int R_comes, .ref aR_next, .ref aR_nextFound, .int R_kept, .int R_hasRoom, .ref aR_keep, .ref aR_isTaken])), (aR_facts, .inl (cI, 240, .inl R_facts))] H → va_D A [(aR, .inr (7, [.int R_triples, .ref aR_facts, .int R_patterns, .ref aR_cells, .ref aR_told, .ref aR_of, .ref aR_hints, .int R_filters, .ref aR_looks, .ref aR_kinds, .ref aR_values, .ref aR_isSafe, .ref aR_sizes, .ref aR_spreads, .ref aR_isSeen, .ref aR_estimates, .ref aR_rest, .int R_steps, .ref aR_order, .ref aR_joins, .ref aR_actsBehind, .ref aR_upTo, .int R_filtersThen, .ref aR_behind, .int R_rows, .ref aR_row, .ref aR_found, .int R_comes, .ref aR_next, .ref aR_nextFound, .int R_kept, .int R_hasRoom, .ref aR_keep, .ref aR_isTaken])), (aR_facts, .inl (cI, 240, .inl R_facts))] → va_S A s.heap H locs → ∀ ls : Array Slot, lv_has ls 5 [(0, .ref aR), (1, .int x1), (2, .int x2), (3, .int x3)] → W p l e rm_f_JoinOrderModel_triple s m args below meth c H locs 0 0 Q (F0 m 90 ls [])) → W p l e rm_f_JoinOrderModel_triple s m args below meth c H locs 0 0 Q (F0 m 27 ls []) := by
          intro k
          induction k with
          | zero =>
            intro x4_29 o_28 hf
            exact absurd (((f_JoinOrderModel_triple_L0_z n x1 x2 x3 R_triples R_facts x4_29).symm.trans hf)) (fun h => by cases h)
          | succ k ih =>
            intro x4_29 o_28 hf hret_28 H locs hP hD hS ls hl hX_28
            have hf := (f_JoinOrderModel_triple_L0_s n x1 x2 x3 R_triples R_facts k x4_29).symm.trans hf
            refine lv_iload hx hb dX7_triple_27 (lv_at hl 4 rfl) ?_
            refine lv_aload_n hx hb dX7_triple_29 rfl (lv_at hl 0 rfl) ?_
            refine va_get (D := D) (ci := 7) (v := .int R_triples) (C := RX7) (T := TX7) (N := 34) hx hb htg giX7 hown hK hP 0 rfl rfl 0 (by decide) (htg _ kw_563) (fun _ h9 => h9) rfl dX7_triple_30 ?_
            refine lv_icmp_ge (tgt := 90) hx hb dX7_triple_33 (by decide) (fun c_30 => ?_) (fun c_30 => ?_)
            · have hf := xb_t c_30 hf
              exact hX_28  hf _ _ hP hD hS _ (lv_sub hl [0, 1, 2, 3] rfl)
            · have hf := xb_f c_30 hf
              refine lv_aload_n hx hb dX7_triple_36 rfl (lv_at hl 0 rfl) ?_
              refine va_get (D := D) (ci := 7) (v := .ref aR_facts) (C := RX7) (T := TX7) (N := 34) hx hb htg giX7 hown hK hP 0 rfl rfl 1 (by decide) (htg _ kw_564) (fun _ h9 => h9) rfl dX7_triple_37 ?_
              refine lv_iconst (v := (3 : Int32)) hx hb dX7_triple_40 (by decide) ?_
              refine lv_iload hx hb dX7_triple_41 (lv_at hl 4 rfl) ?_
              refine lv_imul hx hb dX7_triple_43 ?_
              have g_31 : vp_in ((3 : Int32) * x4_29) 240 := gd_in hf
              have hf := gd_el hf
              refine va_iald hx hb hK hP 1 0 rfl rfl g_31 dX7_triple_44 ?_
              refine lv_iload_n hx hb dX7_triple_45 rfl (lv_at hl 1 rfl) ?_
              refine lv_icmp_ne (tgt := 84) hx hb dX7_triple_46 (by decide) (fun c_32 => ?_) (fun c_32 => ?_)
              · have hf := xb_f c_32 hf
                obtain ⟨x4_33, ex4_33⟩ : ∃ y : Int32, y = x4_29 + (1 : Int32) := ⟨_, rfl⟩
                have hf := nm_nm ex4_33 hf
                refine lv_iinc (v := x4_33) (lv' := [(4, .int x4_33), (0, .ref aR), (1, .int x1), (2, .int x2), (3, .int x3)]) hx hb dX7_triple_84 hl (k := 4) rfl (by rw [ex4_33]; rfl) (by decide) rfl (fun ls hl => ?_)
                refine lv_goto (tgt := 27) hx hb dX7_triple_87 (by decide) ?_
                exact ih x4_33 o_28 hf hret_28 _ _ hP hD hS _ (lv_sub hl [1, 2, 3, 4, 0] rfl) hX_28
              · have hf := xb_t c_32 hf
                refine lv_aload_n hx hb dX7_triple_49 rfl (lv_at hl 0 rfl) ?_
                refine va_get (D := D) (ci := 7) (v := .ref aR_facts) (C := RX7) (T := TX7) (N := 34) hx hb htg giX7 hown hK hP 0 rfl rfl 1 (by decide) (htg _ kw_564) (fun _ h9 => h9) rfl dX7_triple_50 ?_
                refine lv_iconst (v := (3 : Int32)) hx hb dX7_triple_53 (by decide) ?_
                refine lv_iload hx hb dX7_triple_54 (lv_at hl 4 rfl) ?_
                refine lv_imul hx hb dX7_triple_56 ?_
                refine lv_iconst (v := (1 : Int32)) hx hb dX7_triple_57 (by decide) ?_
                refine lv_iadd hx hb dX7_triple_58 ?_
                have g_34 : vp_in (((3 : Int32) * x4_29) + (1 : Int32)) 240 := gd_in hf
                have hf := gd_el hf
                refine va_iald hx hb hK hP 1 0 rfl rfl g_34 dX7_triple_59 ?_
                refine lv_iload_n hx hb dX7_triple_60 rfl (lv_at hl 2 rfl) ?_
                refine lv_icmp_ne (tgt := 84) hx hb dX7_triple_61 (by decide) (fun c_35 => ?_) (fun c_35 => ?_)
                · have hf := xb_f c_35 hf
                  obtain ⟨x4_36, ex4_36⟩ : ∃ y : Int32, y = x4_29 + (1 : Int32) := ⟨_, rfl⟩
                  have hf := nm_nm ex4_36 hf
                  refine lv_iinc (v := x4_36) (lv' := [(4, .int x4_36), (0, .ref aR), (1, .int x1), (2, .int x2), (3, .int x3)]) hx hb dX7_triple_84 hl (k := 4) rfl (by rw [ex4_36]; rfl) (by decide) rfl (fun ls hl => ?_)
                  refine lv_goto (tgt := 27) hx hb dX7_triple_87 (by decide) ?_
                  exact ih x4_36 o_28 hf hret_28 _ _ hP hD hS _ (lv_sub hl [1, 2, 3, 4, 0] rfl) hX_28
                · have hf := xb_t c_35 hf
                  refine lv_aload_n hx hb dX7_triple_64 rfl (lv_at hl 0 rfl) ?_
                  refine va_get (D := D) (ci := 7) (v := .ref aR_facts) (C := RX7) (T := TX7) (N := 34) hx hb htg giX7 hown hK hP 0 rfl rfl 1 (by decide) (htg _ kw_564) (fun _ h9 => h9) rfl dX7_triple_65 ?_
                  refine lv_iconst (v := (3 : Int32)) hx hb dX7_triple_68 (by decide) ?_
                  refine lv_iload hx hb dX7_triple_69 (lv_at hl 4 rfl) ?_
                  refine lv_imul hx hb dX7_triple_71 ?_
                  refine lv_iconst (v := (2 : Int32)) hx hb dX7_triple_72 (by decide) ?_
                  refine lv_iadd hx hb dX7_triple_73 ?_
                  have g_37 : vp_in (((3 : Int32) * x4_29) + (2 : Int32)) 240 := gd_in hf
                  have hf := gd_el hf
                  refine va_iald hx hb hK hP 1 0 rfl rfl g_37 dX7_triple_74 ?_
                  refine lv_iload_n hx hb dX7_triple_75 rfl (lv_at hl 3 rfl) ?_
                  refine lv_icmp_ne (tgt := 84) hx hb dX7_triple_76 (by decide) (fun c_38 => ?_) (fun c_38 => ?_)
                  · have hf := xb_f c_38 hf
                    obtain ⟨x4_39, ex4_39⟩ : ∃ y : Int32, y = x4_29 + (1 : Int32) := ⟨_, rfl⟩
                    have hf := nm_nm ex4_39 hf
                    refine lv_iinc (v := x4_39) (lv' := [(4, .int x4_39), (0, .ref aR), (1, .int x1), (2, .int x2), (3, .int x3)]) hx hb dX7_triple_84 hl (k := 4) rfl (by rw [ex4_39]; rfl) (by decide) rfl (fun ls hl => ?_)
                    refine lv_goto (tgt := 27) hx hb dX7_triple_87 (by decide) ?_
                    exact ih x4_39 o_28 hf hret_28 _ _ hP hD hS _ (lv_sub hl [1, 2, 3, 4, 0] rfl) hX_28
                  · have hf := xb_t c_38 hf
                    refine lv_aload_n hx hb dX7_triple_79 rfl (lv_at hl 0 rfl) ?_
                    refine va_get (D := D) (ci := 7) (v := .int R_triples) (C := RX7) (T := TX7) (N := 34) hx hb htg giX7 hown hK hP 0 rfl rfl 0 (by decide) (htg _ kw_563) (fun _ h9 => h9) rfl dX7_triple_80 ?_
                    have hf := congrArg some (hret_28 _ hf)
                    have hf := Option.some.inj hf
                    cases hf
                    exact x_iret (fun _ => 0) hQ hx hb hr hlk hK hP hD hS dX7_triple_83
        obtain ⟨o_28, ho_28, hret_28, hk_28⟩ := bd0_s hf
        refine L_27_28 n (0 : Int32) o_28 ho_28 hret_28 _ _ hP hD hS _ (lv_sub hl [1, 2, 3, 4, 0] rfl) (fun  hf H locs hP hD hS ls hl => ?_)
        have hf := hk_28  hf
        refine lv_aload_n hx hb dX7_triple_90 rfl (lv_at hl 0 rfl) ?_
        refine va_get (D := D) (ci := 7) (v := .int R_triples) (C := RX7) (T := TX7) (N := 34) hx hb htg giX7 hown hK hP 0 rfl rfl 0 (by decide) (htg _ kw_563) (fun _ h9 => h9) rfl dX7_triple_91 ?_
        refine lv_bipush (v := (80 : Int32)) hx hb dX7_triple_94 (by decide) ?_
        refine lv_icmp_ne (tgt := 102) hx hb dX7_triple_96 (by decide) (fun c_40 => ?_) (fun c_40 => ?_)
        · have hf := xb_f c_40 hf
          refine lv_aload_n hx hb dX7_triple_102 rfl (lv_at hl 0 rfl) ?_
          refine va_get (D := D) (ci := 7) (v := .ref aR_facts) (C := RX7) (T := TX7) (N := 34) hx hb htg giX7 hown hK hP 0 rfl rfl 1 (by decide) (htg _ kw_564) (fun _ h9 => h9) rfl dX7_triple_103 ?_
          refine lv_iconst (v := (3 : Int32)) hx hb dX7_triple_106 (by decide) ?_
          refine lv_aload_n hx hb dX7_triple_107 rfl (lv_at hl 0 rfl) ?_
          refine va_get (D := D) (ci := 7) (v := .int R_triples) (C := RX7) (T := TX7) (N := 34) hx hb htg giX7 hown hK hP 0 rfl rfl 0 (by decide) (htg _ kw_563) (fun _ h9 => h9) rfl dX7_triple_108 ?_
          refine lv_imul hx hb dX7_triple_111 ?_
          refine lv_iload_n hx hb dX7_triple_112 rfl (lv_at hl 1 rfl) ?_
          have g_41 : vp_in ((3 : Int32) * R_triples) 240 := gd_in hf
          have hf := gd_el hf
          refine x_iast hx hb hK hP hD hS 1 0 rfl rfl g_41 dX7_triple_113 (fun R_facts_42 eR_facts_42 H locs hP hD hS => ?_)
          have hf := nm_nm eR_facts_42 hf
          have hP : va_P D vwCl [(aR, .inr (7, [.int R_triples, .ref aR_facts, .int R_patterns, .ref aR_cells, .ref aR_told, .ref aR_of, .ref aR_hints, .int R_filters, .ref aR_looks, .ref aR_kinds, .ref aR_values, .ref aR_isSafe, .ref aR_sizes, .ref aR_spreads, .ref aR_isSeen, .ref aR_estimates, .ref aR_rest, .int R_steps, .ref aR_order, .ref aR_joins, .ref aR_actsBehind, .ref aR_upTo, .int R_filtersThen, .ref aR_behind, .int R_rows, .ref aR_row, .ref aR_found, .int R_comes, .ref aR_next, .ref aR_nextFound, .int R_kept, .int R_hasRoom, .ref aR_keep, .ref aR_isTaken])), (aR_facts, .inl (cI, 240, .inl R_facts_42))] H := hP
          have hD : va_D A [(aR, .inr (7, [.int R_triples, .ref aR_facts, .int R_patterns, .ref aR_cells, .ref aR_told, .ref aR_of, .ref aR_hints, .int R_filters, .ref aR_looks, .ref aR_kinds, .ref aR_values, .ref aR_isSafe, .ref aR_sizes, .ref aR_spreads, .ref aR_isSeen, .ref aR_estimates, .ref aR_rest, .int R_steps, .ref aR_order, .ref aR_joins, .ref aR_actsBehind, .ref aR_upTo, .int R_filtersThen, .ref aR_behind, .int R_rows, .ref aR_row, .ref aR_found, .int R_comes, .ref aR_next, .ref aR_nextFound, .int R_kept, .int R_hasRoom, .ref aR_keep, .ref aR_isTaken])), (aR_facts, .inl (cI, 240, .inl R_facts_42))] := hD
          refine lv_aload_n hx hb dX7_triple_114 rfl (lv_at hl 0 rfl) ?_
          refine va_get (D := D) (ci := 7) (v := .ref aR_facts) (C := RX7) (T := TX7) (N := 34) hx hb htg giX7 hown hK hP 0 rfl rfl 1 (by decide) (htg _ kw_564) (fun _ h9 => h9) rfl dX7_triple_115 ?_
          refine lv_iconst (v := (3 : Int32)) hx hb dX7_triple_118 (by decide) ?_
          refine lv_aload_n hx hb dX7_triple_119 rfl (lv_at hl 0 rfl) ?_
          refine va_get (D := D) (ci := 7) (v := .int R_triples) (C := RX7) (T := TX7) (N := 34) hx hb htg giX7 hown hK hP 0 rfl rfl 0 (by decide) (htg _ kw_563) (fun _ h9 => h9) rfl dX7_triple_120 ?_
          refine lv_imul hx hb dX7_triple_123 ?_
          refine lv_iconst (v := (1 : Int32)) hx hb dX7_triple_124 (by decide) ?_
          refine lv_iadd hx hb dX7_triple_125 ?_
          refine lv_iload_n hx hb dX7_triple_126 rfl (lv_at hl 2 rfl) ?_
          have g_43 : vp_in (((3 : Int32) * R_triples) + (1 : Int32)) 240 := gd_in hf
          have hf := gd_el hf
          refine x_iast hx hb hK hP hD hS 1 0 rfl rfl g_43 dX7_triple_127 (fun R_facts_44 eR_facts_44 H locs hP hD hS => ?_)
          have hf := nm_nm eR_facts_44 hf
          have hP : va_P D vwCl [(aR, .inr (7, [.int R_triples, .ref aR_facts, .int R_patterns, .ref aR_cells, .ref aR_told, .ref aR_of, .ref aR_hints, .int R_filters, .ref aR_looks, .ref aR_kinds, .ref aR_values, .ref aR_isSafe, .ref aR_sizes, .ref aR_spreads, .ref aR_isSeen, .ref aR_estimates, .ref aR_rest, .int R_steps, .ref aR_order, .ref aR_joins, .ref aR_actsBehind, .ref aR_upTo, .int R_filtersThen, .ref aR_behind, .int R_rows, .ref aR_row, .ref aR_found, .int R_comes, .ref aR_next, .ref aR_nextFound, .int R_kept, .int R_hasRoom, .ref aR_keep, .ref aR_isTaken])), (aR_facts, .inl (cI, 240, .inl R_facts_44))] H := hP
          have hD : va_D A [(aR, .inr (7, [.int R_triples, .ref aR_facts, .int R_patterns, .ref aR_cells, .ref aR_told, .ref aR_of, .ref aR_hints, .int R_filters, .ref aR_looks, .ref aR_kinds, .ref aR_values, .ref aR_isSafe, .ref aR_sizes, .ref aR_spreads, .ref aR_isSeen, .ref aR_estimates, .ref aR_rest, .int R_steps, .ref aR_order, .ref aR_joins, .ref aR_actsBehind, .ref aR_upTo, .int R_filtersThen, .ref aR_behind, .int R_rows, .ref aR_row, .ref aR_found, .int R_comes, .ref aR_next, .ref aR_nextFound, .int R_kept, .int R_hasRoom, .ref aR_keep, .ref aR_isTaken])), (aR_facts, .inl (cI, 240, .inl R_facts_44))] := hD
          refine lv_aload_n hx hb dX7_triple_128 rfl (lv_at hl 0 rfl) ?_
          refine va_get (D := D) (ci := 7) (v := .ref aR_facts) (C := RX7) (T := TX7) (N := 34) hx hb htg giX7 hown hK hP 0 rfl rfl 1 (by decide) (htg _ kw_564) (fun _ h9 => h9) rfl dX7_triple_129 ?_
          refine lv_iconst (v := (3 : Int32)) hx hb dX7_triple_132 (by decide) ?_
          refine lv_aload_n hx hb dX7_triple_133 rfl (lv_at hl 0 rfl) ?_
          refine va_get (D := D) (ci := 7) (v := .int R_triples) (C := RX7) (T := TX7) (N := 34) hx hb htg giX7 hown hK hP 0 rfl rfl 0 (by decide) (htg _ kw_563) (fun _ h9 => h9) rfl dX7_triple_134 ?_
          refine lv_imul hx hb dX7_triple_137 ?_
          refine lv_iconst (v := (2 : Int32)) hx hb dX7_triple_138 (by decide) ?_
          refine lv_iadd hx hb dX7_triple_139 ?_
          refine lv_iload_n hx hb dX7_triple_140 rfl (lv_at hl 3 rfl) ?_
          have g_45 : vp_in (((3 : Int32) * R_triples) + (2 : Int32)) 240 := gd_in hf
          have hf := gd_el hf
          refine x_iast hx hb hK hP hD hS 1 0 rfl rfl g_45 dX7_triple_141 (fun R_facts_46 eR_facts_46 H locs hP hD hS => ?_)
          have hf := nm_nm eR_facts_46 hf
          have hP : va_P D vwCl [(aR, .inr (7, [.int R_triples, .ref aR_facts, .int R_patterns, .ref aR_cells, .ref aR_told, .ref aR_of, .ref aR_hints, .int R_filters, .ref aR_looks, .ref aR_kinds, .ref aR_values, .ref aR_isSafe, .ref aR_sizes, .ref aR_spreads, .ref aR_isSeen, .ref aR_estimates, .ref aR_rest, .int R_steps, .ref aR_order, .ref aR_joins, .ref aR_actsBehind, .ref aR_upTo, .int R_filtersThen, .ref aR_behind, .int R_rows, .ref aR_row, .ref aR_found, .int R_comes, .ref aR_next, .ref aR_nextFound, .int R_kept, .int R_hasRoom, .ref aR_keep, .ref aR_isTaken])), (aR_facts, .inl (cI, 240, .inl R_facts_46))] H := hP
          have hD : va_D A [(aR, .inr (7, [.int R_triples, .ref aR_facts, .int R_patterns, .ref aR_cells, .ref aR_told, .ref aR_of, .ref aR_hints, .int R_filters, .ref aR_looks, .ref aR_kinds, .ref aR_values, .ref aR_isSafe, .ref aR_sizes, .ref aR_spreads, .ref aR_isSeen, .ref aR_estimates, .ref aR_rest, .int R_steps, .ref aR_order, .ref aR_joins, .ref aR_actsBehind, .ref aR_upTo, .int R_filtersThen, .ref aR_behind, .int R_rows, .ref aR_row, .ref aR_found, .int R_comes, .ref aR_next, .ref aR_nextFound, .int R_kept, .int R_hasRoom, .ref aR_keep, .ref aR_isTaken])), (aR_facts, .inl (cI, 240, .inl R_facts_46))] := hD
          refine lv_aload_n hx hb dX7_triple_142 rfl (lv_at hl 0 rfl) ?_
          refine lv_dup hx hb dX7_triple_143 rfl ?_
          refine va_get (D := D) (ci := 7) (v := .int R_triples) (C := RX7) (T := TX7) (N := 34) hx hb htg giX7 hown hK hP 0 rfl rfl 0 (by decide) (htg _ kw_563) (fun _ h9 => h9) rfl dX7_triple_144 ?_
          refine lv_iconst (v := (1 : Int32)) hx hb dX7_triple_147 (by decide) ?_
          refine lv_iadd hx hb dX7_triple_148 ?_
          refine lv_topi (fun v_47 ev_47 => ?_)
          have hf := nm_nm ev_47 hf
          refine va_put (D := D) (ci := 7) (v := .int v_47) (ty := .int) (C := RX7) (T := TX7) (N := 34) hx hb htg giX7 tyX7 tyX7_ok nmX7 hown hK hP hD hS 0 rfl rfl 0 (by decide) (htg _ kw_563) (fun _ h9 => h9) rfl (by decide +kernel) rfl rfl (Nat.le_of_ble_eq_true rfl) dX7_triple_149 (fun H locs hP hD hS => ?_)
          have hP : va_P D vwCl [(aR, .inr (7, [.int v_47, .ref aR_facts, .int R_patterns, .ref aR_cells, .ref aR_told, .ref aR_of, .ref aR_hints, .int R_filters, .ref aR_looks, .ref aR_kinds, .ref aR_values, .ref aR_isSafe, .ref aR_sizes, .ref aR_spreads, .ref aR_isSeen, .ref aR_estimates, .ref aR_rest, .int R_steps, .ref aR_order, .ref aR_joins, .ref aR_actsBehind, .ref aR_upTo, .int R_filtersThen, .ref aR_behind, .int R_rows, .ref aR_row, .ref aR_found, .int R_comes, .ref aR_next, .ref aR_nextFound, .int R_kept, .int R_hasRoom, .ref aR_keep, .ref aR_isTaken])), (aR_facts, .inl (cI, 240, .inl R_facts_46))] H := hP
          have hD : va_D A [(aR, .inr (7, [.int v_47, .ref aR_facts, .int R_patterns, .ref aR_cells, .ref aR_told, .ref aR_of, .ref aR_hints, .int R_filters, .ref aR_looks, .ref aR_kinds, .ref aR_values, .ref aR_isSafe, .ref aR_sizes, .ref aR_spreads, .ref aR_isSeen, .ref aR_estimates, .ref aR_rest, .int R_steps, .ref aR_order, .ref aR_joins, .ref aR_actsBehind, .ref aR_upTo, .int R_filtersThen, .ref aR_behind, .int R_rows, .ref aR_row, .ref aR_found, .int R_comes, .ref aR_next, .ref aR_nextFound, .int R_kept, .int R_hasRoom, .ref aR_keep, .ref aR_isTaken])), (aR_facts, .inl (cI, 240, .inl R_facts_46))] := hD
          refine lv_aload_n hx hb dX7_triple_152 rfl (lv_at hl 0 rfl) ?_
          refine va_get (D := D) (ci := 7) (v := .int v_47) (C := RX7) (T := TX7) (N := 34) hx hb htg giX7 hown hK hP 0 rfl rfl 0 (by decide) (htg _ kw_563) (fun _ h9 => h9) rfl dX7_triple_153 ?_
          have hf := Option.some.inj hf
          cases hf
          exact x_iret (fun _ => 0) hQ hx hb hr hlk hK hP hD hS dX7_triple_156
        · have hf := xb_t c_40 hf
          refine lv_bipush (v := (-4 : Int32)) hx hb dX7_triple_99 (by decide) ?_
          have hf := Option.some.inj hf
          cases hf
          exact x_iret (fun _ => 0) hQ hx hb hr hlk hK hP hD hS dX7_triple_101
      · have hf := xb_t c_6 hf
        refine lv_bipush (v := (-2 : Int32)) hx hb dX7_triple_21 (by decide) ?_
        have hf := Option.some.inj hf
        cases hf
        exact x_iret (fun _ => 0) hQ hx hb hr hlk hK hP hD hS dX7_triple_23
abbrev rm_f_JoinOrder_isVariable : Room := { frames := 0, cells := 0, slots := 0, locals := 0 }
set_option maxHeartbeats 4000000 in
set_option maxRecDepth 100000 in
theorem c_f_JoinOrder_isVariable (l : Launch) (D : va_G) (cI cJ cZ : ClassId) (sz : Nat) (x0 : Int32) {r : Int32} (hf : f_JoinOrder_isVariable x0 = r) : Met l yX0_isVariable (.code yX0_isVariable cX0_isVariable 1 (some .boolean) :: GW) rm_f_JoinOrder_isVariable (va_Pc [.int x0] (xP D (xT cI cJ cZ) sz [])) (va_Qi (fun r2 (_ : Nat → Nat) => r2 = r ∧ (r = 0 ∨ r = 1)) (bB D (xT cI cJ cZ) (fun _ => []) (va_A [] sz)) (va_A [] sz)) 0 0 (va_A [] sz) := by
  refine con_start (Qc := fun A => va_Qi (fun r2 (_ : Nat → Nat) => r2 = r ∧ (r = 0 ∨ r = 1)) (bB D (xT cI cJ cZ) (fun _ => []) A) A) (by decide) (Nat.le_of_ble_eq_true rfl) ?_
  intro p e s m args below meth c Q A hx hb hr hlk hml hown hin htg hN hK hQ hA hP hD hS ls hl
  have hl : lv_has ls 1 [(0, .int x0)] := hl
  have hown : s.vm.findClass RX0 = some m.cls := hown
  have hf := (f_JoinOrder_isVariable_u x0).symm.trans hf
  refine lv_iload_n hx hb dX0_isVariable_0 rfl (lv_at hl 0 rfl) ?_
  refine lv_if_ge (tgt := 14) hx hb dX0_isVariable_1 (by decide) (fun c_1 => ?_) (fun c_1 => ?_)
  · have hf := xb_t c_1 hf
    refine lv_iconst (v := (0 : Int32)) hx hb dX0_isVariable_14 (by decide) ?_
    have hf := hf
    cases hf
    exact x_zret (fun _ => 0) hQ hx hb hr hlk (by decide) hK hP hD hS dX0_isVariable_15
  · have hf := xb_f c_1 hf
    refine lv_iload_n hx hb dX0_isVariable_4 rfl (lv_at hl 0 rfl) ?_
    refine lv_bipush (v := (-8 : Int32)) hx hb dX0_isVariable_5 (by decide) ?_
    refine lv_icmp_lt (tgt := 14) hx hb dX0_isVariable_7 (by decide) (fun c_2 => ?_) (fun c_2 => ?_)
    · have hf := xb_t c_2 hf
      refine lv_iconst (v := (0 : Int32)) hx hb dX0_isVariable_14 (by decide) ?_
      have hf := hf
      cases hf
      exact x_zret (fun _ => 0) hQ hx hb hr hlk (by decide) hK hP hD hS dX0_isVariable_15
    · have hf := xb_f c_2 hf
      refine lv_iconst (v := (1 : Int32)) hx hb dX0_isVariable_10 (by decide) ?_
      refine lv_goto (tgt := 15) hx hb dX0_isVariable_11 (by decide) ?_
      have hf := hf
      cases hf
      exact x_zret (fun _ => 0) hQ hx hb hr hlk (by decide) hK hP hD hS dX0_isVariable_15
abbrev rm_f_JoinOrder_isSlot : Room := { frames := 1, cells := 0, slots := 0, locals := 20 }
set_option maxHeartbeats 4000000 in
set_option maxRecDepth 100000 in
theorem c_f_JoinOrder_isSlot (l : Launch) (D : va_G) (cI cJ cZ : ClassId) (sz : Nat) (x0 : Int32) {r : Int32} (hf : f_JoinOrder_isSlot x0 = r) : Met l yX0_isSlot (.code yX0_isSlot cX0_isSlot 1 (some .boolean) :: GW) rm_f_JoinOrder_isSlot (va_Pc [.int x0] (xP D (xT cI cJ cZ) sz [])) (va_Qi (fun r2 (_ : Nat → Nat) => r2 = r ∧ (r = 0 ∨ r = 1)) (bB D (xT cI cJ cZ) (fun _ => []) (va_A [] sz)) (va_A [] sz)) 0 0 (va_A [] sz) := by
  refine con_start (Qc := fun A => va_Qi (fun r2 (_ : Nat → Nat) => r2 = r ∧ (r = 0 ∨ r = 1)) (bB D (xT cI cJ cZ) (fun _ => []) A) A) (by decide) (Nat.le_of_ble_eq_true rfl) ?_
  intro p e s m args below meth c Q A hx hb hr hlk hml hown hin htg hN hK hQ hA hP hD hS ls hl
  have hl : lv_has ls 1 [(0, .int x0)] := hl
  have hown : s.vm.findClass RX0 = some m.cls := hown
  have hf := (f_JoinOrder_isSlot_u x0).symm.trans hf
  refine lv_iload_n hx hb dX0_isSlot_0 rfl (lv_at hl 0 rfl) ?_
  refine x_z (xrS (As := [.int x0]) (rest := []) ⟨hx, hb, hml, hown, htg⟩ (c_f_JoinOrder_isTerm l D cI cJ cZ _ x0 rfl) kc_f_JoinOrder_isTerm kw_232 kw_233 kw_1 dd_f_JoinOrder_isTerm ⟨Nat.le_of_ble_eq_true rfl, Nat.le_of_ble_eq_true rfl⟩ rfl rfl hP hD hK hN rfl hl.1 rfl (Nat.le_of_ble_eq_true rfl) dX0_isSlot_1 ⟨Nat.le_of_ble_eq_true rfl, Nat.le_of_ble_eq_true rfl⟩) hP hD hS hA [] [] rfl rfl (by decide) (by decide) (fun _ H locs bz_1 hP hD hS => ?_)
  have hP : va_P D vwCl [] H := hP
  have hD : va_D A [] := hD
  refine lv_if_ne (tgt := 14) hx hb dX0_isSlot_4 (by decide) (fun c_2 => ?_) (fun c_2 => ?_)
  · have hf := xb_f c_2 hf
    refine lv_iconst (v := (1 : Int32)) hx hb dX0_isSlot_14 (by decide) ?_
    refine lv_goto (tgt := 19) hx hb dX0_isSlot_15 (by decide) ?_
    have hf := hf
    cases hf
    exact x_zret (fun _ => 0) hQ hx hb hr hlk (by decide) hK hP hD hS dX0_isSlot_19
  · have hf := xb_t c_2 hf
    refine lv_iload_n hx hb dX0_isSlot_7 rfl (lv_at hl 0 rfl) ?_
    refine x_z (xrS (As := [.int x0]) (rest := []) ⟨hx, hb, hml, hown, htg⟩ (c_f_JoinOrder_isVariable l D cI cJ cZ _ x0 rfl) kc_f_JoinOrder_isVariable kw_279 kw_280 kw_1 dd_f_JoinOrder_isVariable ⟨Nat.le_of_ble_eq_true rfl, Nat.le_of_ble_eq_true rfl⟩ rfl rfl hP hD hK hN rfl hl.1 rfl (Nat.le_of_ble_eq_true rfl) dX0_isSlot_8 ⟨Nat.le_of_ble_eq_true rfl, Nat.le_of_ble_eq_true rfl⟩) hP hD hS hA [] [] rfl rfl (by decide) (by decide) (fun _ H locs bz_3 hP hD hS => ?_)
    have hP : va_P D vwCl [] H := hP
    have hD : va_D A [] := hD
    refine lv_if_eq (tgt := 18) hx hb dX0_isSlot_11 (by decide) (fun c_4 => ?_) (fun c_4 => ?_)
    · have hf := xb_t c_4 hf
      refine lv_iconst (v := (0 : Int32)) hx hb dX0_isSlot_18 (by decide) ?_
      have hf := hf
      cases hf
      exact x_zret (fun _ => 0) hQ hx hb hr hlk (by decide) hK hP hD hS dX0_isSlot_19
    · have hf := xb_f c_4 hf
      refine lv_iconst (v := (1 : Int32)) hx hb dX0_isSlot_14 (by decide) ?_
      refine lv_goto (tgt := 19) hx hb dX0_isSlot_15 (by decide) ?_
      have hf := hf
      cases hf
      exact x_zret (fun _ => 0) hQ hx hb hr hlk (by decide) hK hP hD hS dX0_isSlot_19
abbrev rm_f_JoinOrder_indexOf : Room := { frames := 0, cells := 0, slots := 0, locals := 0 }
set_option maxHeartbeats 4000000 in
set_option maxRecDepth 100000 in
theorem c_f_JoinOrder_indexOf (l : Launch) (D : va_G) (cI cJ cZ : ClassId) (sz : Nat) (x0 : Int32) {r : Int32} (hf : f_JoinOrder_indexOf x0 = r) : Met l yX0_indexOf (.code yX0_indexOf cX0_indexOf 1 (some .int) :: GW) rm_f_JoinOrder_indexOf (va_Pc [.int x0] (xP D (xT cI cJ cZ) sz [])) (va_Qi (fun r2 (_ : Nat → Nat) => r2 = r) (bB D (xT cI cJ cZ) (fun _ => []) (va_A [] sz)) (va_A [] sz)) 0 0 (va_A [] sz) := by
  refine con_start (Qc := fun A => va_Qi (fun r2 (_ : Nat → Nat) => r2 = r) (bB D (xT cI cJ cZ) (fun _ => []) A) A) (by decide) (Nat.le_of_ble_eq_true rfl) ?_
  intro p e s m args below meth c Q A hx hb hr hlk hml hown hin htg hN hK hQ hA hP hD hS ls hl
  have hl : lv_has ls 1 [(0, .int x0)] := hl
  have hown : s.vm.findClass RX0 = some m.cls := hown
  have hf := (f_JoinOrder_indexOf_u x0).symm.trans hf
  refine lv_iconst (v := (-1 : Int32)) hx hb dX0_indexOf_0 (by decide) ?_
  refine lv_iload_n hx hb dX0_indexOf_1 rfl (lv_at hl 0 rfl) ?_
  refine lv_isub hx hb dX0_indexOf_2 ?_
  have hf := hf
  cases hf
  exact x_iret (fun _ => 0) hQ hx hb hr hlk hK hP hD hS dX0_indexOf_3
abbrev rm_f_Patterns_putSlot : Room := { frames := 1, cells := 0, slots := 0, locals := 20 }
set_option maxHeartbeats 4000000 in
set_option maxRecDepth 100000 in
theorem c_f_Patterns_putSlot (l : Launch) (D : va_G) (cI cJ cZ : ClassId) (sz : Nat) (aP : Nat) (x1 : Int32) (x2 : Int32) (x3 : Int32) (aP_slots : Nat) (aP_termsSeen : Nat) (aP_matches : Nat) (aP_matchCount : Nat) (aP_variables : Nat) (aP_havingVariable : Nat) (aP_told : Nat) (aP_parent : Nat) (aP_allBefore : Nat) (P_required : Int32) (P_hinted : Int32) (P_count : Int32) (P_slots : Nat → Int32) (P_variables : Nat → Int32) (P_havingVariable : Nat → Int32) {P_slots' : Nat → Int32} {P_variables' : Nat → Int32} {P_havingVariable' : Nat → Int32} (hf : f_Patterns_putSlot x1 x2 x3 P_slots P_variables P_havingVariable = some (P_slots', P_variables', P_havingVariable')) : Met l yX2_putSlot (.code yX2_putSlot cX2_putSlot 4 none :: GW) rm_f_Patterns_putSlot (va_Pc [.ref aP, .int x1, .int x2, .int x3] (xP D (xT cI cJ cZ) sz [(aP, .inr (2, [.ref aP_slots, .ref aP_termsSeen, .ref aP_matches, .ref aP_matchCount, .ref aP_variables, .ref aP_havingVariable, .ref aP_told, .ref aP_parent, .ref aP_allBefore, .int P_required, .int P_hinted, .int P_count])), (aP_slots, .inl (cI, 24, .inl P_slots)), (aP_variables, .inl (cI, 8, .inl P_variables)), (aP_havingVariable, .inl (cI, 8, .inl P_havingVariable))])) (va_Qv (fun (_ : Nat → Nat) => True) (bB D (xT cI cJ cZ) (fun _ => [(aP, .inr (2, [.ref aP_slots, .ref aP_termsSeen, .ref aP_matches, .ref aP_matchCount, .ref aP_variables, .ref aP_havingVariable, .ref aP_told, .ref aP_parent, .ref aP_allBefore, .int P_required, .int P_hinted, .int P_count])), (aP_slots, .inl (cI, 24, .inl P_slots')), (aP_variables, .inl (cI, 8, .inl P_variables')), (aP_havingVariable, .inl (cI, 8, .inl P_havingVariable'))]) (va_A [(aP, .inr (2, [.ref aP_slots, .ref aP_termsSeen, .ref aP_matches, .ref aP_matchCount, .ref aP_variables, .ref aP_havingVariable, .ref aP_told, .ref aP_parent, .ref aP_allBefore, .int P_required, .int P_hinted, .int P_count])), (aP_slots, .inl (cI, 24, .inl P_slots)), (aP_variables, .inl (cI, 8, .inl P_variables)), (aP_havingVariable, .inl (cI, 8, .inl P_havingVariable))] sz)) (va_A [(aP, .inr (2, [.ref aP_slots, .ref aP_termsSeen, .ref aP_matches, .ref aP_matchCount, .ref aP_variables, .ref aP_havingVariable, .ref aP_told, .ref aP_parent, .ref aP_allBefore, .int P_required, .int P_hinted, .int P_count])), (aP_slots, .inl (cI, 24, .inl P_slots)), (aP_variables, .inl (cI, 8, .inl P_variables)), (aP_havingVariable, .inl (cI, 8, .inl P_havingVariable))] sz)) 0 0 (va_A [(aP, .inr (2, [.ref aP_slots, .ref aP_termsSeen, .ref aP_matches, .ref aP_matchCount, .ref aP_variables, .ref aP_havingVariable, .ref aP_told, .ref aP_parent, .ref aP_allBefore, .int P_required, .int P_hinted, .int P_count])), (aP_slots, .inl (cI, 24, .inl P_slots)), (aP_variables, .inl (cI, 8, .inl P_variables)), (aP_havingVariable, .inl (cI, 8, .inl P_havingVariable))] sz) := by
  refine con_start (Qc := fun A => va_Qv (fun (_ : Nat → Nat) => True) (bB D (xT cI cJ cZ) (fun _ => [(aP, .inr (2, [.ref aP_slots, .ref aP_termsSeen, .ref aP_matches, .ref aP_matchCount, .ref aP_variables, .ref aP_havingVariable, .ref aP_told, .ref aP_parent, .ref aP_allBefore, .int P_required, .int P_hinted, .int P_count])), (aP_slots, .inl (cI, 24, .inl P_slots')), (aP_variables, .inl (cI, 8, .inl P_variables')), (aP_havingVariable, .inl (cI, 8, .inl P_havingVariable'))]) A) A) (by decide) (Nat.le_of_ble_eq_true rfl) ?_
  intro p e s m args below meth c Q A hx hb hr hlk hml hown hin htg hN hK hQ hA hP hD hS ls hl
  have hl : lv_has ls 4 [(0, .ref aP), (1, .int x1), (2, .int x2), (3, .int x3)] := hl
  have hown : s.vm.findClass RX2 = some m.cls := hown
  have hf := (f_Patterns_putSlot_u x1 x2 x3 P_slots P_variables P_havingVariable).symm.trans hf
  refine lv_aload_n hx hb dX2_putSlot_0 rfl (lv_at hl 0 rfl) ?_
  refine va_get (D := D) (ci := 2) (v := .ref aP_slots) (C := RX2) (T := TX2) (N := 12) hx hb htg giX2 hown hK hP 0 rfl rfl 0 (by decide) (htg _ kw_42) (fun _ h9 => h9) rfl dX2_putSlot_1 ?_
  refine lv_iload_n hx hb dX2_putSlot_4 rfl (lv_at hl 1 rfl) ?_
  refine lv_iconst (v := (3 : Int32)) hx hb dX2_putSlot_5 (by decide) ?_
  refine lv_imul hx hb dX2_putSlot_6 ?_
  refine lv_iload_n hx hb dX2_putSlot_7 rfl (lv_at hl 2 rfl) ?_
  refine lv_iadd hx hb dX2_putSlot_8 ?_
  refine lv_iload_n hx hb dX2_putSlot_9 rfl (lv_at hl 3 rfl) ?_
  have g_1 : vp_in ((x1 * (3 : Int32)) + x2) 24 := gd_in hf
  have hf := gd_el hf
  refine x_iast hx hb hK hP hD hS 1 0 rfl rfl g_1 dX2_putSlot_10 (fun P_slots_2 eP_slots_2 H locs hP hD hS => ?_)
  have hf := nm_nm eP_slots_2 hf
  have hP : va_P D vwCl [(aP, .inr (2, [.ref aP_slots, .ref aP_termsSeen, .ref aP_matches, .ref aP_matchCount, .ref aP_variables, .ref aP_havingVariable, .ref aP_told, .ref aP_parent, .ref aP_allBefore, .int P_required, .int P_hinted, .int P_count])), (aP_slots, .inl (cI, 24, .inl P_slots_2)), (aP_variables, .inl (cI, 8, .inl P_variables)), (aP_havingVariable, .inl (cI, 8, .inl P_havingVariable))] H := hP
  have hD : va_D A [(aP, .inr (2, [.ref aP_slots, .ref aP_termsSeen, .ref aP_matches, .ref aP_matchCount, .ref aP_variables, .ref aP_havingVariable, .ref aP_told, .ref aP_parent, .ref aP_allBefore, .int P_required, .int P_hinted, .int P_count])), (aP_slots, .inl (cI, 24, .inl P_slots_2)), (aP_variables, .inl (cI, 8, .inl P_variables)), (aP_havingVariable, .inl (cI, 8, .inl P_havingVariable))] := hD
  refine lv_iload_n hx hb dX2_putSlot_11 rfl (lv_at hl 3 rfl) ?_
  refine lv_if_ge (tgt := 45) hx hb dX2_putSlot_12 (by decide) (fun c_3 => ?_) (fun c_3 => ?_)
  · have hf := xb_t c_3 hf
    have hf := Option.some.inj hf
    cases hf
    exact x_vret (fun _ => 0) hQ hx hb hr hlk hK hP hD hS dX2_putSlot_45
  · have hf := xb_f c_3 hf
    refine lv_aload_n hx hb dX2_putSlot_15 rfl (lv_at hl 0 rfl) ?_
    refine va_get (D := D) (ci := 2) (v := .ref aP_variables) (C := RX2) (T := TX2) (N := 12) hx hb htg giX2 hown hK hP 0 rfl rfl 4 (by decide) (htg _ kw_48) (fun _ h9 => h9) rfl dX2_putSlot_16 ?_
    refine lv_iload_n hx hb dX2_putSlot_19 rfl (lv_at hl 1 rfl) ?_
    refine lv_dup2_11 hx hb dX2_putSlot_20 rfl rfl ?_
    have g_4 : vp_in x1 8 := gd_in hf
    have hf := gd_el hf
    refine va_iald hx hb hK hP 2 0 rfl rfl g_4 dX2_putSlot_21 ?_
    refine lv_iconst (v := (1 : Int32)) hx hb dX2_putSlot_22 (by decide) ?_
    refine lv_iload_n hx hb dX2_putSlot_23 rfl (lv_at hl 3 rfl) ?_
    refine x_i (xrSN (As := [.int x3]) (rest := [.int (1 : Int32), .int (P_variables x1.toNatClampNeg), .int x1, .ref aP_variables]) ⟨hx, hb, hml, hown, htg⟩ (c_f_JoinOrder_indexOf l D cI cJ cZ _ x3 rfl) kc_f_JoinOrder_indexOf kn_290 kw_291 kw_1 dd_f_JoinOrder_indexOf ⟨Nat.le_of_ble_eq_true rfl, Nat.le_of_ble_eq_true rfl⟩ rfl rfl (hP.sub [] rfl) (hD.sub [] (by decide) rfl) hK hN rfl hl.1 rfl (Nat.le_of_ble_eq_true rfl) dX2_putSlot_24 ⟨Nat.le_of_ble_eq_true rfl, Nat.le_of_ble_eq_true rfl⟩) hP hD hS hA [] [0, 1, 2, 3] rfl rfl (by decide) (by decide) (fun _ H locs hP hD hS => ?_)
    have hP : va_P D vwCl [(aP, .inr (2, [.ref aP_slots, .ref aP_termsSeen, .ref aP_matches, .ref aP_matchCount, .ref aP_variables, .ref aP_havingVariable, .ref aP_told, .ref aP_parent, .ref aP_allBefore, .int P_required, .int P_hinted, .int P_count])), (aP_slots, .inl (cI, 24, .inl P_slots_2)), (aP_variables, .inl (cI, 8, .inl P_variables)), (aP_havingVariable, .inl (cI, 8, .inl P_havingVariable))] H := hP
    have hD : va_D A [(aP, .inr (2, [.ref aP_slots, .ref aP_termsSeen, .ref aP_matches, .ref aP_matchCount, .ref aP_variables, .ref aP_havingVariable, .ref aP_told, .ref aP_parent, .ref aP_allBefore, .int P_required, .int P_hinted, .int P_count])), (aP_slots, .inl (cI, 24, .inl P_slots_2)), (aP_variables, .inl (cI, 8, .inl P_variables)), (aP_havingVariable, .inl (cI, 8, .inl P_havingVariable))] := hD
    refine lv_ishl hx hb dX2_putSlot_27 ?_
    refine lv_ior hx hb dX2_putSlot_28 ?_
    refine lv_topi (fun v_6 ev_6 => ?_)
    have hf := nm_nm ev_6 hf
    refine x_iast hx hb hK hP hD hS 2 0 rfl rfl g_4 dX2_putSlot_29 (fun P_variables_7 eP_variables_7 H locs hP hD hS => ?_)
    have hf := nm_nm eP_variables_7 hf
    have hP : va_P D vwCl [(aP, .inr (2, [.ref aP_slots, .ref aP_termsSeen, .ref aP_matches, .ref aP_matchCount, .ref aP_variables, .ref aP_havingVariable, .ref aP_told, .ref aP_parent, .ref aP_allBefore, .int P_required, .int P_hinted, .int P_count])), (aP_slots, .inl (cI, 24, .inl P_slots_2)), (aP_variables, .inl (cI, 8, .inl P_variables_7)), (aP_havingVariable, .inl (cI, 8, .inl P_havingVariable))] H := hP
    have hD : va_D A [(aP, .inr (2, [.ref aP_slots, .ref aP_termsSeen, .ref aP_matches, .ref aP_matchCount, .ref aP_variables, .ref aP_havingVariable, .ref aP_told, .ref aP_parent, .ref aP_allBefore, .int P_required, .int P_hinted, .int P_count])), (aP_slots, .inl (cI, 24, .inl P_slots_2)), (aP_variables, .inl (cI, 8, .inl P_variables_7)), (aP_havingVariable, .inl (cI, 8, .inl P_havingVariable))] := hD
    refine lv_aload_n hx hb dX2_putSlot_30 rfl (lv_at hl 0 rfl) ?_
    refine va_get (D := D) (ci := 2) (v := .ref aP_havingVariable) (C := RX2) (T := TX2) (N := 12) hx hb htg giX2 hown hK hP 0 rfl rfl 5 (by decide) (htg _ kw_51) (fun _ h9 => h9) rfl dX2_putSlot_31 ?_
    refine lv_iload_n hx hb dX2_putSlot_34 rfl (lv_at hl 3 rfl) ?_
    refine x_i (xrSN (As := [.int x3]) (rest := [.ref aP_havingVariable]) ⟨hx, hb, hml, hown, htg⟩ (c_f_JoinOrder_indexOf l D cI cJ cZ _ x3 rfl) kc_f_JoinOrder_indexOf kn_290 kw_291 kw_1 dd_f_JoinOrder_indexOf ⟨Nat.le_of_ble_eq_true rfl, Nat.le_of_ble_eq_true rfl⟩ rfl rfl (hP.sub [] rfl) (hD.sub [] (by decide) rfl) hK hN rfl hl.1 rfl (Nat.le_of_ble_eq_true rfl) dX2_putSlot_35 ⟨Nat.le_of_ble_eq_true rfl, Nat.le_of_ble_eq_true rfl⟩) hP hD hS hA [] [0, 1, 2, 3] rfl rfl (by decide) (by decide) (fun _ H locs hP hD hS => ?_)
    have hP : va_P D vwCl [(aP, .inr (2, [.ref aP_slots, .ref aP_termsSeen, .ref aP_matches, .ref aP_matchCount, .ref aP_variables, .ref aP_havingVariable, .ref aP_told, .ref aP_parent, .ref aP_allBefore, .int P_required, .int P_hinted, .int P_count])), (aP_slots, .inl (cI, 24, .inl P_slots_2)), (aP_variables, .inl (cI, 8, .inl P_variables_7)), (aP_havingVariable, .inl (cI, 8, .inl P_havingVariable))] H := hP
    have hD : va_D A [(aP, .inr (2, [.ref aP_slots, .ref aP_termsSeen, .ref aP_matches, .ref aP_matchCount, .ref aP_variables, .ref aP_havingVariable, .ref aP_told, .ref aP_parent, .ref aP_allBefore, .int P_required, .int P_hinted, .int P_count])), (aP_slots, .inl (cI, 24, .inl P_slots_2)), (aP_variables, .inl (cI, 8, .inl P_variables_7)), (aP_havingVariable, .inl (cI, 8, .inl P_havingVariable))] := hD
    refine lv_dup2_11 hx hb dX2_putSlot_38 rfl rfl ?_
    have g_9 : vp_in (f_JoinOrder_indexOf x3) 8 := gd_in hf
    have hf := gd_el hf
    refine va_iald hx hb hK hP 3 0 rfl rfl g_9 dX2_putSlot_39 ?_
    refine lv_iconst (v := (1 : Int32)) hx hb dX2_putSlot_40 (by decide) ?_
    refine lv_iload_n hx hb dX2_putSlot_41 rfl (lv_at hl 1 rfl) ?_
    refine lv_ishl hx hb dX2_putSlot_42 ?_
    refine lv_ior hx hb dX2_putSlot_43 ?_
    refine lv_topi (fun v_10 ev_10 => ?_)
    have hf := nm_nm ev_10 hf
    refine x_iast hx hb hK hP hD hS 3 0 rfl rfl g_9 dX2_putSlot_44 (fun P_havingVariable_11 eP_havingVariable_11 H locs hP hD hS => ?_)
    have hf := nm_nm eP_havingVariable_11 hf
    have hP : va_P D vwCl [(aP, .inr (2, [.ref aP_slots, .ref aP_termsSeen, .ref aP_matches, .ref aP_matchCount, .ref aP_variables, .ref aP_havingVariable, .ref aP_told, .ref aP_parent, .ref aP_allBefore, .int P_required, .int P_hinted, .int P_count])), (aP_slots, .inl (cI, 24, .inl P_slots_2)), (aP_variables, .inl (cI, 8, .inl P_variables_7)), (aP_havingVariable, .inl (cI, 8, .inl P_havingVariable_11))] H := hP
    have hD : va_D A [(aP, .inr (2, [.ref aP_slots, .ref aP_termsSeen, .ref aP_matches, .ref aP_matchCount, .ref aP_variables, .ref aP_havingVariable, .ref aP_told, .ref aP_parent, .ref aP_allBefore, .int P_required, .int P_hinted, .int P_count])), (aP_slots, .inl (cI, 24, .inl P_slots_2)), (aP_variables, .inl (cI, 8, .inl P_variables_7)), (aP_havingVariable, .inl (cI, 8, .inl P_havingVariable_11))] := hD
    have hf := Option.some.inj hf
    cases hf
    exact x_vret (fun _ => 0) hQ hx hb hr hlk hK hP hD hS dX2_putSlot_45
abbrev rm_f_Patterns_add : Room := { frames := 4, cells := 0, slots := 0, locals := 94 }
set_option maxHeartbeats 4000000 in
set_option maxRecDepth 100000 in
theorem c_f_Patterns_add (l : Launch) (D : va_G) (cI cJ cZ : ClassId) (sz : Nat) (n : Nat) (aP : Nat) (x1 : Int32) (x2 : Int32) (x3 : Int32) (aT : Nat) (aP_slots : Nat) (aP_termsSeen : Nat) (aP_matches : Nat) (aP_matchCount : Nat) (aP_variables : Nat) (aP_havingVariable : Nat) (aP_told : Nat) (aP_parent : Nat) (aP_allBefore : Nat) (P_required : Int32) (P_hinted : Int32) (P_count : Int32) (P_slots : Nat → Int32) (P_variables : Nat → Int32) (P_havingVariable : Nat → Int32) (P_told : Nat → Int32) (P_parent : Nat → Int32) (aT_packed : Nat) (T_count : Int32) (T_packed : Nat → Int32) (P_matchCount : Nat → Int32) (P_matches : Nat → Int32) (P_termsSeen : Nat → Int32) {r : Int32} {P_required' : Int32} {P_count' : Int32} {P_slots' : Nat → Int32} {P_variables' : Nat → Int32} {P_havingVariable' : Nat → Int32} {P_told' : Nat → Int32} {P_parent' : Nat → Int32} {P_matchCount' : Nat → Int32} {P_matches' : Nat → Int32} {P_termsSeen' : Nat → Int32} (hf : f_Patterns_add n x1 x2 x3 P_required P_count P_slots P_variables P_havingVariable P_told P_parent T_count T_packed P_matchCount P_matches P_termsSeen = some (r, P_required', P_count', P_slots', P_variables', P_havingVariable', P_told', P_parent', P_matchCount', P_matches', P_termsSeen')) : Met l yX2_add (.code yX2_add cX2_add 7 (some .int) :: GW) rm_f_Patterns_add (va_Pc [.ref aP, .int x1, .int x2, .int x3, .ref aT] (xP D (xT cI cJ cZ) sz [(aP, .inr (2, [.ref aP_slots, .ref aP_termsSeen, .ref aP_matches, .ref aP_matchCount, .ref aP_variables, .ref aP_havingVariable, .ref aP_told, .ref aP_parent, .ref aP_allBefore, .int P_required, .int P_hinted, .int P_count])), (aP_slots, .inl (cI, 24, .inl P_slots)), (aP_variables, .inl (cI, 8, .inl P_variables)), (aP_havingVariable, .inl (cI, 8, .inl P_havingVariable)), (aP_told, .inl (cI, 8, .inl P_told)), (aP_parent, .inl (cI, 8, .inl P_parent)), (aT, .inr (6, [.ref aT_packed, .int T_count])), (aT_packed, .inl (cI, 80, .inl T_packed)), (aP_matchCount, .inl (cI, 8, .inl P_matchCount)), (aP_matches, .inl (cI, 640, .inl P_matches)), (aP_termsSeen, .inl (cI, 24, .inl P_termsSeen))])) (va_Qi (fun r2 (_ : Nat → Nat) => r2 = r) (bB D (xT cI cJ cZ) (fun _ => [(aP, .inr (2, [.ref aP_slots, .ref aP_termsSeen, .ref aP_matches, .ref aP_matchCount, .ref aP_variables, .ref aP_havingVariable, .ref aP_told, .ref aP_parent, .ref aP_allBefore, .int P_required', .int P_hinted, .int P_count'])), (aP_slots, .inl (cI, 24, .inl P_slots')), (aP_variables, .inl (cI, 8, .inl P_variables')), (aP_havingVariable, .inl (cI, 8, .inl P_havingVariable')), (aP_told, .inl (cI, 8, .inl P_told')), (aP_parent, .inl (cI, 8, .inl P_parent')), (aT, .inr (6, [.ref aT_packed, .int T_count])), (aT_packed, .inl (cI, 80, .inl T_packed)), (aP_matchCount, .inl (cI, 8, .inl P_matchCount')), (aP_matches, .inl (cI, 640, .inl P_matches')), (aP_termsSeen, .inl (cI, 24, .inl P_termsSeen'))]) (va_A [(aP, .inr (2, [.ref aP_slots, .ref aP_termsSeen, .ref aP_matches, .ref aP_matchCount, .ref aP_variables, .ref aP_havingVariable, .ref aP_told, .ref aP_parent, .ref aP_allBefore, .int P_required, .int P_hinted, .int P_count])), (aP_slots, .inl (cI, 24, .inl P_slots)), (aP_variables, .inl (cI, 8, .inl P_variables)), (aP_havingVariable, .inl (cI, 8, .inl P_havingVariable)), (aP_told, .inl (cI, 8, .inl P_told)), (aP_parent, .inl (cI, 8, .inl P_parent)), (aT, .inr (6, [.ref aT_packed, .int T_count])), (aT_packed, .inl (cI, 80, .inl T_packed)), (aP_matchCount, .inl (cI, 8, .inl P_matchCount)), (aP_matches, .inl (cI, 640, .inl P_matches)), (aP_termsSeen, .inl (cI, 24, .inl P_termsSeen))] sz)) (va_A [(aP, .inr (2, [.ref aP_slots, .ref aP_termsSeen, .ref aP_matches, .ref aP_matchCount, .ref aP_variables, .ref aP_havingVariable, .ref aP_told, .ref aP_parent, .ref aP_allBefore, .int P_required, .int P_hinted, .int P_count])), (aP_slots, .inl (cI, 24, .inl P_slots)), (aP_variables, .inl (cI, 8, .inl P_variables)), (aP_havingVariable, .inl (cI, 8, .inl P_havingVariable)), (aP_told, .inl (cI, 8, .inl P_told)), (aP_parent, .inl (cI, 8, .inl P_parent)), (aT, .inr (6, [.ref aT_packed, .int T_count])), (aT_packed, .inl (cI, 80, .inl T_packed)), (aP_matchCount, .inl (cI, 8, .inl P_matchCount)), (aP_matches, .inl (cI, 640, .inl P_matches)), (aP_termsSeen, .inl (cI, 24, .inl P_termsSeen))] sz)) 0 0 (va_A [(aP, .inr (2, [.ref aP_slots, .ref aP_termsSeen, .ref aP_matches, .ref aP_matchCount, .ref aP_variables, .ref aP_havingVariable, .ref aP_told, .ref aP_parent, .ref aP_allBefore, .int P_required, .int P_hinted, .int P_count])), (aP_slots, .inl (cI, 24, .inl P_slots)), (aP_variables, .inl (cI, 8, .inl P_variables)), (aP_havingVariable, .inl (cI, 8, .inl P_havingVariable)), (aP_told, .inl (cI, 8, .inl P_told)), (aP_parent, .inl (cI, 8, .inl P_parent)), (aT, .inr (6, [.ref aT_packed, .int T_count])), (aT_packed, .inl (cI, 80, .inl T_packed)), (aP_matchCount, .inl (cI, 8, .inl P_matchCount)), (aP_matches, .inl (cI, 640, .inl P_matches)), (aP_termsSeen, .inl (cI, 24, .inl P_termsSeen))] sz) := by
  refine con_start (Qc := fun A => va_Qi (fun r2 (_ : Nat → Nat) => r2 = r) (bB D (xT cI cJ cZ) (fun _ => [(aP, .inr (2, [.ref aP_slots, .ref aP_termsSeen, .ref aP_matches, .ref aP_matchCount, .ref aP_variables, .ref aP_havingVariable, .ref aP_told, .ref aP_parent, .ref aP_allBefore, .int P_required', .int P_hinted, .int P_count'])), (aP_slots, .inl (cI, 24, .inl P_slots')), (aP_variables, .inl (cI, 8, .inl P_variables')), (aP_havingVariable, .inl (cI, 8, .inl P_havingVariable')), (aP_told, .inl (cI, 8, .inl P_told')), (aP_parent, .inl (cI, 8, .inl P_parent')), (aT, .inr (6, [.ref aT_packed, .int T_count])), (aT_packed, .inl (cI, 80, .inl T_packed)), (aP_matchCount, .inl (cI, 8, .inl P_matchCount')), (aP_matches, .inl (cI, 640, .inl P_matches')), (aP_termsSeen, .inl (cI, 24, .inl P_termsSeen'))]) A) A) (by decide) (Nat.le_of_ble_eq_true rfl) ?_
  intro p e s m args below meth c Q A hx hb hr hlk hml hown hin htg hN hK hQ hA hP hD hS ls hl
  have hl : lv_has ls 7 [(0, .ref aP), (1, .int x1), (2, .int x2), (3, .int x3), (4, .ref aT)] := hl
  have hown : s.vm.findClass RX2 = some m.cls := hown
  have hf := (f_Patterns_add_u n x1 x2 x3 P_required P_count P_slots P_variables P_havingVariable P_told P_parent T_count T_packed P_matchCount P_matches P_termsSeen).symm.trans hf
  refine lv_aload_n hx hb dX2_add_0 rfl (lv_at hl 0 rfl) ?_
  refine va_get (D := D) (ci := 2) (v := .int P_count) (C := RX2) (T := TX2) (N := 12) hx hb htg giX2 hown hK hP 0 rfl rfl 11 (by decide) (htg _ kw_62) (fun _ h9 => h9) rfl dX2_add_1 ?_
  refine lv_istore (lv' := [(5, .int P_count), (0, .ref aP), (1, .int x1), (2, .int x2), (3, .int x3), (4, .ref aT)]) hx hb dX2_add_4 hl (by decide) rfl (fun ls hl => ?_)
  refine lv_aload_n hx hb dX2_add_6 rfl (lv_at hl 1 rfl) ?_
  refine lv_dup hx hb dX2_add_7 rfl ?_
  refine va_get (D := D) (ci := 2) (v := .int P_count) (C := RX2) (T := TX2) (N := 12) hx hb htg giX2 hown hK hP 0 rfl rfl 11 (by decide) (htg _ kw_62) (fun _ h9 => h9) rfl dX2_add_8 ?_
  refine lv_iconst (v := (1 : Int32)) hx hb dX2_add_11 (by decide) ?_
  refine lv_iadd hx hb dX2_add_12 ?_
  refine lv_topi (fun v_1 ev_1 => ?_)
  have hf := nm_nm ev_1 hf
  refine va_put (D := D) (ci := 2) (v := .int v_1) (ty := .int) (C := RX2) (T := TX2) (N := 12) hx hb htg giX2 tyX2 tyX2_ok nmX2 hown hK hP hD hS 0 rfl rfl 11 (by decide) (htg _ kw_62) (fun _ h9 => h9) rfl (by decide +kernel) rfl rfl (Nat.le_of_ble_eq_true rfl) dX2_add_13 (fun H locs hP hD hS => ?_)
  have hP : va_P D vwCl [(aP, .inr (2, [.ref aP_slots, .ref aP_termsSeen, .ref aP_matches, .ref aP_matchCount, .ref aP_variables, .ref aP_havingVariable, .ref aP_told, .ref aP_parent, .ref aP_allBefore, .int P_required, .int P_hinted, .int v_1])), (aP_slots, .inl (cI, 24, .inl P_slots)), (aP_variables, .inl (cI, 8, .inl P_variables)), (aP_havingVariable, .inl (cI, 8, .inl P_havingVariable)), (aP_told, .inl (cI, 8, .inl P_told)), (aP_parent, .inl (cI, 8, .inl P_parent)), (aT, .inr (6, [.ref aT_packed, .int T_count])), (aT_packed, .inl (cI, 80, .inl T_packed)), (aP_matchCount, .inl (cI, 8, .inl P_matchCount)), (aP_matches, .inl (cI, 640, .inl P_matches)), (aP_termsSeen, .inl (cI, 24, .inl P_termsSeen))] H := hP
  have hD : va_D A [(aP, .inr (2, [.ref aP_slots, .ref aP_termsSeen, .ref aP_matches, .ref aP_matchCount, .ref aP_variables, .ref aP_havingVariable, .ref aP_told, .ref aP_parent, .ref aP_allBefore, .int P_required, .int P_hinted, .int v_1])), (aP_slots, .inl (cI, 24, .inl P_slots)), (aP_variables, .inl (cI, 8, .inl P_variables)), (aP_havingVariable, .inl (cI, 8, .inl P_havingVariable)), (aP_told, .inl (cI, 8, .inl P_told)), (aP_parent, .inl (cI, 8, .inl P_parent)), (aT, .inr (6, [.ref aT_packed, .int T_count])), (aT_packed, .inl (cI, 80, .inl T_packed)), (aP_matchCount, .inl (cI, 8, .inl P_matchCount)), (aP_matches, .inl (cI, 640, .inl P_matches)), (aP_termsSeen, .inl (cI, 24, .inl P_termsSeen))] := hD
  refine lv_aload_n hx hb dX2_add_16 rfl (lv_at hl 1 rfl) ?_
  refine lv_iload hx hb dX2_add_17 (lv_at hl 0 rfl) ?_
  refine lv_iconst (v := (0 : Int32)) hx hb dX2_add_19 (by decide) ?_
  refine lv_iload_n hx hb dX2_add_20 rfl (lv_at hl 2 rfl) ?_
  obtain ⟨P_slots_3, P_variables_4, P_havingVariable_5, hq_2, hf⟩ := bn3_c hf
  refine x_v (xrV (As := [.int P_count, .int (0 : Int32), .int x1]) (b := aP) (rest := []) ⟨hx, hb, hml, hown, htg⟩ (c_f_Patterns_putSlot l D cI cJ cZ _ aP P_count (0 : Int32) x1 aP_slots aP_termsSeen aP_matches aP_matchCount aP_variables aP_havingVariable aP_told aP_parent aP_allBefore P_required P_hinted v_1 P_slots P_variables P_havingVariable hq_2) kc_f_Patterns_putSlot kw_286 kw_288 kp_3 kw_3 dd_f_Patterns_putSlot ⟨Nat.le_of_ble_eq_true rfl, Nat.le_of_ble_eq_true rfl⟩ rfl rfl (hP.sub [0, 1, 2, 3] rfl) (hD.sub [0, 1, 2, 3] (by decide) rfl) hK hN hP (q0 := 0) rfl rfl rfl hl.1 rfl (Nat.le_of_ble_eq_true rfl) dX2_add_21 ⟨Nat.le_of_ble_eq_true rfl, Nat.le_of_ble_eq_true rfl⟩) hP hD hS hA [0, 1, 2, 3] [4, 5, 6, 7, 8, 9, 10] rfl rfl (by decide) (by decide) (fun _ H locs hP hD hS => ?_)
  have hP : va_P D vwCl [(aP_told, .inl (cI, 8, .inl P_told)), (aP_parent, .inl (cI, 8, .inl P_parent)), (aT, .inr (6, [.ref aT_packed, .int T_count])), (aT_packed, .inl (cI, 80, .inl T_packed)), (aP_matchCount, .inl (cI, 8, .inl P_matchCount)), (aP_matches, .inl (cI, 640, .inl P_matches)), (aP_termsSeen, .inl (cI, 24, .inl P_termsSeen)), (aP, .inr (2, [.ref aP_slots, .ref aP_termsSeen, .ref aP_matches, .ref aP_matchCount, .ref aP_variables, .ref aP_havingVariable, .ref aP_told, .ref aP_parent, .ref aP_allBefore, .int P_required, .int P_hinted, .int v_1])), (aP_slots, .inl (cI, 24, .inl P_slots_3)), (aP_variables, .inl (cI, 8, .inl P_variables_4)), (aP_havingVariable, .inl (cI, 8, .inl P_havingVariable_5))] H := hP
  have hD : va_D A [(aP_told, .inl (cI, 8, .inl P_told)), (aP_parent, .inl (cI, 8, .inl P_parent)), (aT, .inr (6, [.ref aT_packed, .int T_count])), (aT_packed, .inl (cI, 80, .inl T_packed)), (aP_matchCount, .inl (cI, 8, .inl P_matchCount)), (aP_matches, .inl (cI, 640, .inl P_matches)), (aP_termsSeen, .inl (cI, 24, .inl P_termsSeen)), (aP, .inr (2, [.ref aP_slots, .ref aP_termsSeen, .ref aP_matches, .ref aP_matchCount, .ref aP_variables, .ref aP_havingVariable, .ref aP_told, .ref aP_parent, .ref aP_allBefore, .int P_required, .int P_hinted, .int v_1])), (aP_slots, .inl (cI, 24, .inl P_slots_3)), (aP_variables, .inl (cI, 8, .inl P_variables_4)), (aP_havingVariable, .inl (cI, 8, .inl P_havingVariable_5))] := hD
  refine lv_aload_n hx hb dX2_add_24 rfl (lv_at hl 1 rfl) ?_
  refine lv_iload hx hb dX2_add_25 (lv_at hl 0 rfl) ?_
  refine lv_iconst (v := (1 : Int32)) hx hb dX2_add_27 (by decide) ?_
  refine lv_iload_n hx hb dX2_add_28 rfl (lv_at hl 3 rfl) ?_
  obtain ⟨P_slots_7, P_variables_8, P_havingVariable_9, hq_6, hf⟩ := bn3_c hf
  refine x_v (xrV (As := [.int P_count, .int (1 : Int32), .int x2]) (b := aP) (rest := []) ⟨hx, hb, hml, hown, htg⟩ (c_f_Patterns_putSlot l D cI cJ cZ _ aP P_count (1 : Int32) x2 aP_slots aP_termsSeen aP_matches aP_matchCount aP_variables aP_havingVariable aP_told aP_parent aP_allBefore P_required P_hinted v_1 P_slots_3 P_variables_4 P_havingVariable_5 hq_6) kc_f_Patterns_putSlot kw_286 kw_288 kp_3 kw_3 dd_f_Patterns_putSlot ⟨Nat.le_of_ble_eq_true rfl, Nat.le_of_ble_eq_true rfl⟩ rfl rfl (hP.sub [7, 8, 9, 10] rfl) (hD.sub [7, 8, 9, 10] (by decide) rfl) hK hN hP (q0 := 7) rfl rfl rfl hl.1 rfl (Nat.le_of_ble_eq_true rfl) dX2_add_29 ⟨Nat.le_of_ble_eq_true rfl, Nat.le_of_ble_eq_true rfl⟩) hP hD hS hA [7, 8, 9, 10] [0, 1, 2, 3, 4, 5, 6] rfl rfl (by decide) (by decide) (fun _ H locs hP hD hS => ?_)
  have hP : va_P D vwCl [(aP_told, .inl (cI, 8, .inl P_told)), (aP_parent, .inl (cI, 8, .inl P_parent)), (aT, .inr (6, [.ref aT_packed, .int T_count])), (aT_packed, .inl (cI, 80, .inl T_packed)), (aP_matchCount, .inl (cI, 8, .inl P_matchCount)), (aP_matches, .inl (cI, 640, .inl P_matches)), (aP_termsSeen, .inl (cI, 24, .inl P_termsSeen)), (aP, .inr (2, [.ref aP_slots, .ref aP_termsSeen, .ref aP_matches, .ref aP_matchCount, .ref aP_variables, .ref aP_havingVariable, .ref aP_told, .ref aP_parent, .ref aP_allBefore, .int P_required, .int P_hinted, .int v_1])), (aP_slots, .inl (cI, 24, .inl P_slots_7)), (aP_variables, .inl (cI, 8, .inl P_variables_8)), (aP_havingVariable, .inl (cI, 8, .inl P_havingVariable_9))] H := hP
  have hD : va_D A [(aP_told, .inl (cI, 8, .inl P_told)), (aP_parent, .inl (cI, 8, .inl P_parent)), (aT, .inr (6, [.ref aT_packed, .int T_count])), (aT_packed, .inl (cI, 80, .inl T_packed)), (aP_matchCount, .inl (cI, 8, .inl P_matchCount)), (aP_matches, .inl (cI, 640, .inl P_matches)), (aP_termsSeen, .inl (cI, 24, .inl P_termsSeen)), (aP, .inr (2, [.ref aP_slots, .ref aP_termsSeen, .ref aP_matches, .ref aP_matchCount, .ref aP_variables, .ref aP_havingVariable, .ref aP_told, .ref aP_parent, .ref aP_allBefore, .int P_required, .int P_hinted, .int v_1])), (aP_slots, .inl (cI, 24, .inl P_slots_7)), (aP_variables, .inl (cI, 8, .inl P_variables_8)), (aP_havingVariable, .inl (cI, 8, .inl P_havingVariable_9))] := hD
  refine lv_aload_n hx hb dX2_add_32 rfl (lv_at hl 1 rfl) ?_
  refine lv_iload hx hb dX2_add_33 (lv_at hl 0 rfl) ?_
  refine lv_iconst (v := (2 : Int32)) hx hb dX2_add_35 (by decide) ?_
  refine lv_iload_n hx hb dX2_add_36 rfl (lv_at hl 4 rfl) ?_
  obtain ⟨P_slots_11, P_variables_12, P_havingVariable_13, hq_10, hf⟩ := bn3_c hf
  refine x_v (xrV (As := [.int P_count, .int (2 : Int32), .int x3]) (b := aP) (rest := []) ⟨hx, hb, hml, hown, htg⟩ (c_f_Patterns_putSlot l D cI cJ cZ _ aP P_count (2 : Int32) x3 aP_slots aP_termsSeen aP_matches aP_matchCount aP_variables aP_havingVariable aP_told aP_parent aP_allBefore P_required P_hinted v_1 P_slots_7 P_variables_8 P_havingVariable_9 hq_10) kc_f_Patterns_putSlot kw_286 kw_288 kp_3 kw_3 dd_f_Patterns_putSlot ⟨Nat.le_of_ble_eq_true rfl, Nat.le_of_ble_eq_true rfl⟩ rfl rfl (hP.sub [7, 8, 9, 10] rfl) (hD.sub [7, 8, 9, 10] (by decide) rfl) hK hN hP (q0 := 7) rfl rfl rfl hl.1 rfl (Nat.le_of_ble_eq_true rfl) dX2_add_37 ⟨Nat.le_of_ble_eq_true rfl, Nat.le_of_ble_eq_true rfl⟩) hP hD hS hA [7, 8, 9, 10] [0, 1, 2, 3, 4, 5, 6] rfl rfl (by decide) (by decide) (fun _ H locs hP hD hS => ?_)
  have hP : va_P D vwCl [(aP_told, .inl (cI, 8, .inl P_told)), (aP_parent, .inl (cI, 8, .inl P_parent)), (aT, .inr (6, [.ref aT_packed, .int T_count])), (aT_packed, .inl (cI, 80, .inl T_packed)), (aP_matchCount, .inl (cI, 8, .inl P_matchCount)), (aP_matches, .inl (cI, 640, .inl P_matches)), (aP_termsSeen, .inl (cI, 24, .inl P_termsSeen)), (aP, .inr (2, [.ref aP_slots, .ref aP_termsSeen, .ref aP_matches, .ref aP_matchCount, .ref aP_variables, .ref aP_havingVariable, .ref aP_told, .ref aP_parent, .ref aP_allBefore, .int P_required, .int P_hinted, .int v_1])), (aP_slots, .inl (cI, 24, .inl P_slots_11)), (aP_variables, .inl (cI, 8, .inl P_variables_12)), (aP_havingVariable, .inl (cI, 8, .inl P_havingVariable_13))] H := hP
  have hD : va_D A [(aP_told, .inl (cI, 8, .inl P_told)), (aP_parent, .inl (cI, 8, .inl P_parent)), (aT, .inr (6, [.ref aT_packed, .int T_count])), (aT_packed, .inl (cI, 80, .inl T_packed)), (aP_matchCount, .inl (cI, 8, .inl P_matchCount)), (aP_matches, .inl (cI, 640, .inl P_matches)), (aP_termsSeen, .inl (cI, 24, .inl P_termsSeen)), (aP, .inr (2, [.ref aP_slots, .ref aP_termsSeen, .ref aP_matches, .ref aP_matchCount, .ref aP_variables, .ref aP_havingVariable, .ref aP_told, .ref aP_parent, .ref aP_allBefore, .int P_required, .int P_hinted, .int v_1])), (aP_slots, .inl (cI, 24, .inl P_slots_11)), (aP_variables, .inl (cI, 8, .inl P_variables_12)), (aP_havingVariable, .inl (cI, 8, .inl P_havingVariable_13))] := hD
  refine lv_aload_n hx hb dX2_add_40 rfl (lv_at hl 1 rfl) ?_
  refine va_get (D := D) (ci := 2) (v := .ref aP_told) (C := RX2) (T := TX2) (N := 12) hx hb htg giX2 hown hK hP 7 rfl rfl 6 (by decide) (htg _ kw_53) (fun _ h9 => h9) rfl dX2_add_41 ?_
  refine lv_iload hx hb dX2_add_44 (lv_at hl 0 rfl) ?_
  refine lv_iconst (v := (-1 : Int32)) hx hb dX2_add_46 (by decide) ?_
  have g_14 : vp_in P_count 8 := gd_in hf
  have hf := gd_el hf
  refine x_iast hx hb hK hP hD hS 0 0 rfl rfl g_14 dX2_add_47 (fun P_told_15 eP_told_15 H locs hP hD hS => ?_)
  have hf := nm_nm eP_told_15 hf
  have hP : va_P D vwCl [(aP_told, .inl (cI, 8, .inl P_told_15)), (aP_parent, .inl (cI, 8, .inl P_parent)), (aT, .inr (6, [.ref aT_packed, .int T_count])), (aT_packed, .inl (cI, 80, .inl T_packed)), (aP_matchCount, .inl (cI, 8, .inl P_matchCount)), (aP_matches, .inl (cI, 640, .inl P_matches)), (aP_termsSeen, .inl (cI, 24, .inl P_termsSeen)), (aP, .inr (2, [.ref aP_slots, .ref aP_termsSeen, .ref aP_matches, .ref aP_matchCount, .ref aP_variables, .ref aP_havingVariable, .ref aP_told, .ref aP_parent, .ref aP_allBefore, .int P_required, .int P_hinted, .int v_1])), (aP_slots, .inl (cI, 24, .inl P_slots_11)), (aP_variables, .inl (cI, 8, .inl P_variables_12)), (aP_havingVariable, .inl (cI, 8, .inl P_havingVariable_13))] H := hP
  have hD : va_D A [(aP_told, .inl (cI, 8, .inl P_told_15)), (aP_parent, .inl (cI, 8, .inl P_parent)), (aT, .inr (6, [.ref aT_packed, .int T_count])), (aT_packed, .inl (cI, 80, .inl T_packed)), (aP_matchCount, .inl (cI, 8, .inl P_matchCount)), (aP_matches, .inl (cI, 640, .inl P_matches)), (aP_termsSeen, .inl (cI, 24, .inl P_termsSeen)), (aP, .inr (2, [.ref aP_slots, .ref aP_termsSeen, .ref aP_matches, .ref aP_matchCount, .ref aP_variables, .ref aP_havingVariable, .ref aP_told, .ref aP_parent, .ref aP_allBefore, .int P_required, .int P_hinted, .int v_1])), (aP_slots, .inl (cI, 24, .inl P_slots_11)), (aP_variables, .inl (cI, 8, .inl P_variables_12)), (aP_havingVariable, .inl (cI, 8, .inl P_havingVariable_13))] := hD
  refine lv_aload_n hx hb dX2_add_48 rfl (lv_at hl 1 rfl) ?_
  refine va_get (D := D) (ci := 2) (v := .ref aP_parent) (C := RX2) (T := TX2) (N := 12) hx hb htg giX2 hown hK hP 7 rfl rfl 7 (by decide) (htg _ kw_55) (fun _ h9 => h9) rfl dX2_add_49 ?_
  refine lv_iload hx hb dX2_add_52 (lv_at hl 0 rfl) ?_
  refine lv_iconst (v := (-1 : Int32)) hx hb dX2_add_54 (by decide) ?_
  refine x_iast hx hb hK hP hD hS 1 0 rfl rfl g_14 dX2_add_55 (fun P_parent_16 eP_parent_16 H locs hP hD hS => ?_)
  have hf := nm_nm eP_parent_16 hf
  have hP : va_P D vwCl [(aP_told, .inl (cI, 8, .inl P_told_15)), (aP_parent, .inl (cI, 8, .inl P_parent_16)), (aT, .inr (6, [.ref aT_packed, .int T_count])), (aT_packed, .inl (cI, 80, .inl T_packed)), (aP_matchCount, .inl (cI, 8, .inl P_matchCount)), (aP_matches, .inl (cI, 640, .inl P_matches)), (aP_termsSeen, .inl (cI, 24, .inl P_termsSeen)), (aP, .inr (2, [.ref aP_slots, .ref aP_termsSeen, .ref aP_matches, .ref aP_matchCount, .ref aP_variables, .ref aP_havingVariable, .ref aP_told, .ref aP_parent, .ref aP_allBefore, .int P_required, .int P_hinted, .int v_1])), (aP_slots, .inl (cI, 24, .inl P_slots_11)), (aP_variables, .inl (cI, 8, .inl P_variables_12)), (aP_havingVariable, .inl (cI, 8, .inl P_havingVariable_13))] H := hP
  have hD : va_D A [(aP_told, .inl (cI, 8, .inl P_told_15)), (aP_parent, .inl (cI, 8, .inl P_parent_16)), (aT, .inr (6, [.ref aT_packed, .int T_count])), (aT_packed, .inl (cI, 80, .inl T_packed)), (aP_matchCount, .inl (cI, 8, .inl P_matchCount)), (aP_matches, .inl (cI, 640, .inl P_matches)), (aP_termsSeen, .inl (cI, 24, .inl P_termsSeen)), (aP, .inr (2, [.ref aP_slots, .ref aP_termsSeen, .ref aP_matches, .ref aP_matchCount, .ref aP_variables, .ref aP_havingVariable, .ref aP_told, .ref aP_parent, .ref aP_allBefore, .int P_required, .int P_hinted, .int v_1])), (aP_slots, .inl (cI, 24, .inl P_slots_11)), (aP_variables, .inl (cI, 8, .inl P_variables_12)), (aP_havingVariable, .inl (cI, 8, .inl P_havingVariable_13))] := hD
  refine lv_aload_n hx hb dX2_add_56 rfl (lv_at hl 1 rfl) ?_
  refine lv_dup hx hb dX2_add_57 rfl ?_
  refine va_get (D := D) (ci := 2) (v := .int P_required) (C := RX2) (T := TX2) (N := 12) hx hb htg giX2 hown hK hP 7 rfl rfl 9 (by decide) (htg _ kw_60) (fun _ h9 => h9) rfl dX2_add_58 ?_
  refine lv_iconst (v := (1 : Int32)) hx hb dX2_add_61 (by decide) ?_
  refine lv_iload hx hb dX2_add_62 (lv_at hl 0 rfl) ?_
  refine lv_ishl hx hb dX2_add_64 ?_
  refine lv_ior hx hb dX2_add_65 ?_
  refine lv_topi (fun v_17 ev_17 => ?_)
  have hf := nm_nm ev_17 hf
  refine va_put (D := D) (ci := 2) (v := .int v_17) (ty := .int) (C := RX2) (T := TX2) (N := 12) hx hb htg giX2 tyX2 tyX2_ok nmX2 hown hK hP hD hS 7 rfl rfl 9 (by decide) (htg _ kw_60) (fun _ h9 => h9) rfl (by decide +kernel) rfl rfl (Nat.le_of_ble_eq_true rfl) dX2_add_66 (fun H locs hP hD hS => ?_)
  have hP : va_P D vwCl [(aP_told, .inl (cI, 8, .inl P_told_15)), (aP_parent, .inl (cI, 8, .inl P_parent_16)), (aT, .inr (6, [.ref aT_packed, .int T_count])), (aT_packed, .inl (cI, 80, .inl T_packed)), (aP_matchCount, .inl (cI, 8, .inl P_matchCount)), (aP_matches, .inl (cI, 640, .inl P_matches)), (aP_termsSeen, .inl (cI, 24, .inl P_termsSeen)), (aP, .inr (2, [.ref aP_slots, .ref aP_termsSeen, .ref aP_matches, .ref aP_matchCount, .ref aP_variables, .ref aP_havingVariable, .ref aP_told, .ref aP_parent, .ref aP_allBefore, .int v_17, .int P_hinted, .int v_1])), (aP_slots, .inl (cI, 24, .inl P_slots_11)), (aP_variables, .inl (cI, 8, .inl P_variables_12)), (aP_havingVariable, .inl (cI, 8, .inl P_havingVariable_13))] H := hP
  have hD : va_D A [(aP_told, .inl (cI, 8, .inl P_told_15)), (aP_parent, .inl (cI, 8, .inl P_parent_16)), (aT, .inr (6, [.ref aT_packed, .int T_count])), (aT_packed, .inl (cI, 80, .inl T_packed)), (aP_matchCount, .inl (cI, 8, .inl P_matchCount)), (aP_matches, .inl (cI, 640, .inl P_matches)), (aP_termsSeen, .inl (cI, 24, .inl P_termsSeen)), (aP, .inr (2, [.ref aP_slots, .ref aP_termsSeen, .ref aP_matches, .ref aP_matchCount, .ref aP_variables, .ref aP_havingVariable, .ref aP_told, .ref aP_parent, .ref aP_allBefore, .int v_17, .int P_hinted, .int v_1])), (aP_slots, .inl (cI, 24, .inl P_slots_11)), (aP_variables, .inl (cI, 8, .inl P_variables_12)), (aP_havingVariable, .inl (cI, 8, .inl P_havingVariable_13))] := hD
  refine lv_iconst (v := (0 : Int32)) hx hb dX2_add_69 (by decide) ?_
  refine lv_istore (lv' := [(6, .int (0 : Int32)), (5, .int P_count), (0, .ref aP), (1, .int x1), (2, .int x2), (3, .int x3), (4, .ref aT)]) hx hb dX2_add_70 hl (by decide) rfl (fun ls hl => ?_)
  have L_72_35 : ∀ (k : Nat) (P_matchCount_36 : Nat → Int32) (P_matches_37 : Nat → Int32) (P_termsSeen_38 : Nat → Int32) (x6_39 : Int32) (o_35 : ((Nat → Int32) × (Nat → Int32) × (Nat → Int32))), f_Patterns_add_L0 n P_count T_count T_packed P_slots_11 k P_matchCount_36 P_matches_37 P_termsSeen_38 x6_39 = some o_35 → ∀ (H : Heap) (locs : List Loc), va_P D vwCl [(aP, .inr (2, [.ref aP_slots, .ref aP_termsSeen, .ref aP_matches, .ref aP_matchCount, .ref aP_variables, .ref aP_havingVariable, .ref aP_told, .ref aP_parent, .ref aP_allBefore, .int v_17, .int P_hinted, .int v_1])), (aP_slots, .inl (cI, 24, .inl P_slots_11)), (aP_variables, .inl (cI, 8, .inl P_variables_12)), (aP_havingVariable, .inl (cI, 8, .inl P_havingVariable_13)), (aP_told, .inl (cI, 8, .inl P_told_15)), (aP_parent, .inl (cI, 8, .inl P_parent_16)), (aT, .inr (6, [.ref aT_packed, .int T_count])), (aT_packed, .inl (cI, 80, .inl T_packed)), (aP_matchCount, .inl (cI, 8, .inl P_matchCount_36)), (aP_matches, .inl (cI, 640, .inl P_matches_37)), (aP_termsSeen, .inl (cI, 24, .inl P_termsSeen_38))] H → va_D A [(aP, .inr (2, [.ref aP_slots, .ref aP_termsSeen, .ref aP_matches, .ref aP_matchCount, .ref aP_variables, .ref aP_havingVariable, .ref aP_told, .ref aP_parent, .ref aP_allBefore, .int v_17, .int P_hinted, .int v_1])), (aP_slots, .inl (cI, 24, .inl P_slots_11)), (aP_variables, .inl (cI, 8, .inl P_variables_12)), (aP_havingVariable, .inl (cI, 8, .inl P_havingVariable_13)), (aP_told, .inl (cI, 8, .inl P_told_15)), (aP_parent, .inl (cI, 8, .inl P_parent_16)), (aT, .inr (6, [.ref aT_packed, .int T_count])), (aT_packed, .inl (cI, 80, .inl T_packed)), (aP_matchCount, .inl (cI, 8, .inl P_matchCount_36)), (aP_matches, .inl (cI, 640, .inl P_matches_37)), (aP_termsSeen, .inl (cI, 24, .inl P_termsSeen_38))] → va_S A s.heap H locs → ∀ ls : Array Slot, lv_has ls 7 [(0, .ref aP), (4, .ref aT), (5, .int P_count), (6, .int x6_39)] → (∀ (P_matchCount_40 : Nat → Int32) (P_matches_41 : Nat → Int32) (P_termsSeen_42 : Nat → Int32), some ((P_matchCount_40, P_matches_41, P_termsSeen_42)) = some o_35 → ∀ (H : Heap) (locs : List Loc), va_P D vwCl [(aP, .inr (2, [.ref aP_slots, .ref aP_termsSeen, .ref aP_matches, .ref aP_matchCount, .ref aP_variables, .ref aP_havingVariable, .ref aP_told, .ref aP_parent, .ref aP_allBefore, .int v_17, .int P_hinted, .int v_1])), (aP_slots, .inl (cI, 24, .inl P_slots_11)), (aP_variables, .inl (cI, 8, .inl P_variables_12)), (aP_havingVariable, .inl (cI, 8, .inl P_havingVariable_13)), (aP_told, .inl (cI, 8, .inl P_told_15)), (aP_parent, .inl (cI, 8, .inl P_parent_16)), (aT, .inr (6, [.ref aT_packed, .int T_count])), (aT_packed, .inl (cI, 80, .inl T_packed)), (aP_matchCount, .inl (cI, 8, .inl P_matchCount_40)), (aP_matches, .inl (cI, 640, .inl P_matches_41)), (aP_termsSeen, .inl (cI, 24, .inl P_termsSeen_42))] H → va_D A [(aP, .inr (2, [.ref aP_slots, .ref aP_termsSeen, .ref aP_matches, .ref aP_matchCount, .ref aP_variables, .ref aP_havingVariable, .ref aP_told, .ref aP_parent, .ref aP_allBefore, .int v_17, .int P_hinted, .int v_1])), (aP_slots, .inl (cI, 24, .inl P_slots_11)), (aP_variables, .inl (cI, 8, .inl P_variables_12)), (aP_havingVariable, .inl (cI, 8, .inl P_havingVariable_13)), (aP_told, .inl (cI, 8, .inl P_told_15)), (aP_parent, .inl (cI, 8, .inl P_parent_16)), (aT, .inr (6, [.ref aT_packed, .int T_count])), (aT_packed, .inl (cI, 80, .inl T_packed)), (aP_matchCount, .inl (cI, 8, .inl P_matchCount_40)), (aP_matches, .inl (cI, 640, .inl P_matches_41)), (aP_termsSeen, .inl (cI, 24, .inl P_termsSeen_42))] → va_S A s.heap H locs → ∀ ls : Array Slot, lv_has ls 7 [(5, .int P_count)] → W p l e rm_f_Patterns_add s m args below meth c H locs 0 0 Q (F0 m 102 ls [])) → W p l e rm_f_Patterns_add s m args below meth c H locs 0 0 Q (F0 m 72 ls []) := by
    intro k
    induction k with
    | zero =>
      intro P_matchCount_36 P_matches_37 P_termsSeen_38 x6_39 o_35 hf
      exact absurd (((f_Patterns_add_L0_z n P_count T_count T_packed P_slots_11 P_matchCount_36 P_matches_37 P_termsSeen_38 x6_39).symm.trans hf)) (fun h => by cases h)
    | succ k ih =>
      intro P_matchCount_36 P_matches_37 P_termsSeen_38 x6_39 o_35 hf H locs hP hD hS ls hl hX_35
      have hf := (f_Patterns_add_L0_s n P_count T_count T_packed P_slots_11 k P_matchCount_36 P_matches_37 P_termsSeen_38 x6_39).symm.trans hf
      refine lv_iload hx hb dX2_add_72 (lv_at hl 3 rfl) ?_
      refine lv_aload hx hb dX2_add_74 (lv_at hl 1 rfl) ?_
      refine va_getN (D := D) (ci := 6) (v := .int T_count) (C := RX6) (T := TX6) (N := 2) hx hb htg giX6 hown hK hP 6 rfl rfl 1 (by decide) (va_Nw.use rfl (hN _ kn_29)) (fun _ h9 => h9) rfl dX2_add_76 ?_
      refine lv_icmp_ge (tgt := 102) hx hb dX2_add_79 (by decide) (fun c_43 => ?_) (fun c_43 => ?_)
      · have hf := xb_t c_43 hf
        exact hX_35 P_matchCount_36 P_matches_37 P_termsSeen_38 hf _ _ hP hD hS _ (lv_sub hl [2] rfl)
      · have hf := xb_f c_43 hf
        refine lv_aload_n hx hb dX2_add_82 rfl (lv_at hl 0 rfl) ?_
        refine lv_iload hx hb dX2_add_83 (lv_at hl 2 rfl) ?_
        refine lv_aload hx hb dX2_add_85 (lv_at hl 1 rfl) ?_
        refine va_getN (D := D) (ci := 6) (v := .ref aT_packed) (C := RX6) (T := TX6) (N := 2) hx hb htg giX6 hown hK hP 6 rfl rfl 0 (by decide) (va_Nw.use rfl (hN _ kn_26)) (fun _ h9 => h9) rfl dX2_add_87 ?_
        refine lv_iload hx hb dX2_add_90 (lv_at hl 3 rfl) ?_
        have g_44 : vp_in x6_39 80 := gd_in hf
        have hf := gd_el hf
        refine va_iald hx hb hK hP 7 0 rfl rfl g_44 dX2_add_92 ?_
        obtain ⟨P_matchCount_46, P_matches_47, P_termsSeen_48, hq_45, hf⟩ := bn3_c hf
        refine x_v (xrV (As := [.int P_count, .int (T_packed x6_39.toNatClampNeg)]) (b := aP) (rest := []) ⟨hx, hb, hml, hown, htg⟩ (c_f_Patterns_meet l D cI cJ cZ _ n aP P_count (T_packed x6_39.toNatClampNeg) aP_slots aP_termsSeen aP_matches aP_matchCount aP_variables aP_havingVariable aP_told aP_parent aP_allBefore v_17 P_hinted v_1 P_matchCount_36 P_slots_11 P_matches_37 P_termsSeen_38 hq_45) kc_f_Patterns_meet kw_253 kw_255 kp_0 kw_3 dd_f_Patterns_meet ⟨Nat.le_of_ble_eq_true rfl, Nat.le_of_ble_eq_true rfl⟩ rfl rfl (hP.sub [0, 8, 1, 9, 10] rfl) (hD.sub [0, 8, 1, 9, 10] (by decide) rfl) hK hN hP (q0 := 0) rfl rfl rfl hl.1 rfl (Nat.le_of_ble_eq_true rfl) dX2_add_93 ⟨Nat.le_of_ble_eq_true rfl, Nat.le_of_ble_eq_true rfl⟩) hP hD hS hA [0, 8, 1, 9, 10] [2, 3, 4, 5, 6, 7] rfl rfl (by decide) (by decide) (fun _ H locs hP hD hS => ?_)
        have hP : va_P D vwCl [(aP_variables, .inl (cI, 8, .inl P_variables_12)), (aP_havingVariable, .inl (cI, 8, .inl P_havingVariable_13)), (aP_told, .inl (cI, 8, .inl P_told_15)), (aP_parent, .inl (cI, 8, .inl P_parent_16)), (aT, .inr (6, [.ref aT_packed, .int T_count])), (aT_packed, .inl (cI, 80, .inl T_packed)), (aP, .inr (2, [.ref aP_slots, .ref aP_termsSeen, .ref aP_matches, .ref aP_matchCount, .ref aP_variables, .ref aP_havingVariable, .ref aP_told, .ref aP_parent, .ref aP_allBefore, .int v_17, .int P_hinted, .int v_1])), (aP_matchCount, .inl (cI, 8, .inl P_matchCount_46)), (aP_slots, .inl (cI, 24, .inl P_slots_11)), (aP_matches, .inl (cI, 640, .inl P_matches_47)), (aP_termsSeen, .inl (cI, 24, .inl P_termsSeen_48))] H := hP
        have hD : va_D A [(aP_variables, .inl (cI, 8, .inl P_variables_12)), (aP_havingVariable, .inl (cI, 8, .inl P_havingVariable_13)), (aP_told, .inl (cI, 8, .inl P_told_15)), (aP_parent, .inl (cI, 8, .inl P_parent_16)), (aT, .inr (6, [.ref aT_packed, .int T_count])), (aT_packed, .inl (cI, 80, .inl T_packed)), (aP, .inr (2, [.ref aP_slots, .ref aP_termsSeen, .ref aP_matches, .ref aP_matchCount, .ref aP_variables, .ref aP_havingVariable, .ref aP_told, .ref aP_parent, .ref aP_allBefore, .int v_17, .int P_hinted, .int v_1])), (aP_matchCount, .inl (cI, 8, .inl P_matchCount_46)), (aP_slots, .inl (cI, 24, .inl P_slots_11)), (aP_matches, .inl (cI, 640, .inl P_matches_47)), (aP_termsSeen, .inl (cI, 24, .inl P_termsSeen_48))] := hD
        obtain ⟨x6_49, ex6_49⟩ : ∃ y : Int32, y = x6_39 + (1 : Int32) := ⟨_, rfl⟩
        have hf := nm_nm ex6_49 hf
        refine lv_iinc (v := x6_49) (lv' := [(6, .int x6_49), (0, .ref aP), (4, .ref aT), (5, .int P_count)]) hx hb dX2_add_96 hl (k := 3) rfl (by rw [ex6_49]; rfl) (by decide) rfl (fun ls hl => ?_)
        refine lv_goto (tgt := 72) hx hb dX2_add_99 (by decide) ?_
        exact ih P_matchCount_46 P_matches_47 P_termsSeen_48 x6_49 o_35 hf _ _ (hP.sub [6, 8, 0, 1, 2, 3, 4, 5, 7, 9, 10] rfl) (hD.sub [6, 8, 0, 1, 2, 3, 4, 5, 7, 9, 10] (by decide) rfl) hS _ (lv_sub hl [1, 2, 3, 0] rfl) hX_35
  obtain ⟨o_35, ho_35, hk_35⟩ := bn3_s hf
  refine L_72_35 n P_matchCount P_matches P_termsSeen (0 : Int32) o_35 ho_35 _ _ (hP.sub [7, 8, 9, 10, 0, 1, 2, 3, 4, 5, 6] rfl) (hD.sub [7, 8, 9, 10, 0, 1, 2, 3, 4, 5, 6] (by decide) rfl) hS _ (lv_sub hl [2, 6, 1, 0] rfl) (fun P_matchCount_40 P_matches_41 P_termsSeen_42 hf H locs hP hD hS ls hl => ?_)
  have hf := hk_35 _ _ _ hf
  refine lv_iload hx hb dX2_add_102 (lv_at hl 0 rfl) ?_
  have hf := Option.some.inj hf
  cases hf
  exact x_iret (fun _ => 0) hQ hx hb hr hlk hK hP hD hS dX2_add_104
abbrev rm_f_JoinOrder_pattern : Room := { frames := 5, cells := 0, slots := 0, locals := 120 }
set_option maxHeartbeats 4000000 in
set_option maxRecDepth 100000 in
theorem c_f_JoinOrder_pattern (l : Launch) (D : va_G) (cI cJ cZ : ClassId) (sz : Nat) (n : Nat) (aJ : Nat) (x1 : Int32) (x2 : Int32) (x3 : Int32) (aT : Nat) (aP : Nat) (aF : Nat) (aQ : Nat) (aM : Nat) (aB : Nat) (J_hasRun : Int32) (aJ_plainOrder : Nat) (aC : Nat) (aP_slots : Nat) (aP_termsSeen : Nat) (aP_matches : Nat) (aP_matchCount : Nat) (aP_variables : Nat) (aP_havingVariable : Nat) (aP_told : Nat) (aP_parent : Nat) (aP_allBefore : Nat) (P_required : Int32) (P_hinted : Int32) (P_count : Int32) (P_slots : Nat → Int32) (P_variables : Nat → Int32) (P_havingVariable : Nat → Int32) (P_told : Nat → Int32) (P_parent : Nat → Int32) (aT_packed : Nat) (T_count : Int32) (T_packed : Nat → Int32) (P_matchCount : Nat → Int32) (P_matches : Nat → Int32) (P_termsSeen : Nat → Int32) {r : Int32} {P_required' : Int32} {P_count' : Int32} {P_slots' : Nat → Int32} {P_variables' : Nat → Int32} {P_havingVariable' : Nat → Int32} {P_told' : Nat → Int32} {P_parent' : Nat → Int32} {P_matchCount' : Nat → Int32} {P_matches' : Nat → Int32} {P_termsSeen' : Nat → Int32} (hf : f_JoinOrder_pattern n x1 x2 x3 P_required P_count P_slots P_variables P_havingVariable P_told P_parent T_count T_packed P_matchCount P_matches P_termsSeen = some (r, P_required', P_count', P_slots', P_variables', P_havingVariable', P_told', P_parent', P_matchCount', P_matches', P_termsSeen')) : Met l yX0_pattern (.code yX0_pattern cX0_pattern 4 (some .int) :: GW) rm_f_JoinOrder_pattern (va_Pc [.ref aJ, .int x1, .int x2, .int x3] (xP D (xT cI cJ cZ) sz [(aJ, .inr (0, [.ref aT, .ref aP, .ref aF, .ref aQ, .ref aM, .ref aB, .int J_hasRun, .ref aJ_plainOrder, .ref aC])), (aP, .inr (2, [.ref aP_slots, .ref aP_termsSeen, .ref aP_matches, .ref aP_matchCount, .ref aP_variables, .ref aP_havingVariable, .ref aP_told, .ref aP_parent, .ref aP_allBefore, .int P_required, .int P_hinted, .int P_count])), (aP_slots, .inl (cI, 24, .inl P_slots)), (aP_variables, .inl (cI, 8, .inl P_variables)), (aP_havingVariable, .inl (cI, 8, .inl P_havingVariable)), (aP_told, .inl (cI, 8, .inl P_told)), (aP_parent, .inl (cI, 8, .inl P_parent)), (aT, .inr (6, [.ref aT_packed, .int T_count])), (aT_packed, .inl (cI, 80, .inl T_packed)), (aP_matchCount, .inl (cI, 8, .inl P_matchCount)), (aP_matches, .inl (cI, 640, .inl P_matches)), (aP_termsSeen, .inl (cI, 24, .inl P_termsSeen))])) (va_Qi (fun r2 (_ : Nat → Nat) => r2 = r) (bB D (xT cI cJ cZ) (fun _ => [(aJ, .inr (0, [.ref aT, .ref aP, .ref aF, .ref aQ, .ref aM, .ref aB, .int J_hasRun, .ref aJ_plainOrder, .ref aC])), (aP, .inr (2, [.ref aP_slots, .ref aP_termsSeen, .ref aP_matches, .ref aP_matchCount, .ref aP_variables, .ref aP_havingVariable, .ref aP_told, .ref aP_parent, .ref aP_allBefore, .int P_required', .int P_hinted, .int P_count'])), (aP_slots, .inl (cI, 24, .inl P_slots')), (aP_variables, .inl (cI, 8, .inl P_variables')), (aP_havingVariable, .inl (cI, 8, .inl P_havingVariable')), (aP_told, .inl (cI, 8, .inl P_told')), (aP_parent, .inl (cI, 8, .inl P_parent')), (aT, .inr (6, [.ref aT_packed, .int T_count])), (aT_packed, .inl (cI, 80, .inl T_packed)), (aP_matchCount, .inl (cI, 8, .inl P_matchCount')), (aP_matches, .inl (cI, 640, .inl P_matches')), (aP_termsSeen, .inl (cI, 24, .inl P_termsSeen'))]) (va_A [(aJ, .inr (0, [.ref aT, .ref aP, .ref aF, .ref aQ, .ref aM, .ref aB, .int J_hasRun, .ref aJ_plainOrder, .ref aC])), (aP, .inr (2, [.ref aP_slots, .ref aP_termsSeen, .ref aP_matches, .ref aP_matchCount, .ref aP_variables, .ref aP_havingVariable, .ref aP_told, .ref aP_parent, .ref aP_allBefore, .int P_required, .int P_hinted, .int P_count])), (aP_slots, .inl (cI, 24, .inl P_slots)), (aP_variables, .inl (cI, 8, .inl P_variables)), (aP_havingVariable, .inl (cI, 8, .inl P_havingVariable)), (aP_told, .inl (cI, 8, .inl P_told)), (aP_parent, .inl (cI, 8, .inl P_parent)), (aT, .inr (6, [.ref aT_packed, .int T_count])), (aT_packed, .inl (cI, 80, .inl T_packed)), (aP_matchCount, .inl (cI, 8, .inl P_matchCount)), (aP_matches, .inl (cI, 640, .inl P_matches)), (aP_termsSeen, .inl (cI, 24, .inl P_termsSeen))] sz)) (va_A [(aJ, .inr (0, [.ref aT, .ref aP, .ref aF, .ref aQ, .ref aM, .ref aB, .int J_hasRun, .ref aJ_plainOrder, .ref aC])), (aP, .inr (2, [.ref aP_slots, .ref aP_termsSeen, .ref aP_matches, .ref aP_matchCount, .ref aP_variables, .ref aP_havingVariable, .ref aP_told, .ref aP_parent, .ref aP_allBefore, .int P_required, .int P_hinted, .int P_count])), (aP_slots, .inl (cI, 24, .inl P_slots)), (aP_variables, .inl (cI, 8, .inl P_variables)), (aP_havingVariable, .inl (cI, 8, .inl P_havingVariable)), (aP_told, .inl (cI, 8, .inl P_told)), (aP_parent, .inl (cI, 8, .inl P_parent)), (aT, .inr (6, [.ref aT_packed, .int T_count])), (aT_packed, .inl (cI, 80, .inl T_packed)), (aP_matchCount, .inl (cI, 8, .inl P_matchCount)), (aP_matches, .inl (cI, 640, .inl P_matches)), (aP_termsSeen, .inl (cI, 24, .inl P_termsSeen))] sz)) 0 0 (va_A [(aJ, .inr (0, [.ref aT, .ref aP, .ref aF, .ref aQ, .ref aM, .ref aB, .int J_hasRun, .ref aJ_plainOrder, .ref aC])), (aP, .inr (2, [.ref aP_slots, .ref aP_termsSeen, .ref aP_matches, .ref aP_matchCount, .ref aP_variables, .ref aP_havingVariable, .ref aP_told, .ref aP_parent, .ref aP_allBefore, .int P_required, .int P_hinted, .int P_count])), (aP_slots, .inl (cI, 24, .inl P_slots)), (aP_variables, .inl (cI, 8, .inl P_variables)), (aP_havingVariable, .inl (cI, 8, .inl P_havingVariable)), (aP_told, .inl (cI, 8, .inl P_told)), (aP_parent, .inl (cI, 8, .inl P_parent)), (aT, .inr (6, [.ref aT_packed, .int T_count])), (aT_packed, .inl (cI, 80, .inl T_packed)), (aP_matchCount, .inl (cI, 8, .inl P_matchCount)), (aP_matches, .inl (cI, 640, .inl P_matches)), (aP_termsSeen, .inl (cI, 24, .inl P_termsSeen))] sz) := by
  refine con_start (Qc := fun A => va_Qi (fun r2 (_ : Nat → Nat) => r2 = r) (bB D (xT cI cJ cZ) (fun _ => [(aJ, .inr (0, [.ref aT, .ref aP, .ref aF, .ref aQ, .ref aM, .ref aB, .int J_hasRun, .ref aJ_plainOrder, .ref aC])), (aP, .inr (2, [.ref aP_slots, .ref aP_termsSeen, .ref aP_matches, .ref aP_matchCount, .ref aP_variables, .ref aP_havingVariable, .ref aP_told, .ref aP_parent, .ref aP_allBefore, .int P_required', .int P_hinted, .int P_count'])), (aP_slots, .inl (cI, 24, .inl P_slots')), (aP_variables, .inl (cI, 8, .inl P_variables')), (aP_havingVariable, .inl (cI, 8, .inl P_havingVariable')), (aP_told, .inl (cI, 8, .inl P_told')), (aP_parent, .inl (cI, 8, .inl P_parent')), (aT, .inr (6, [.ref aT_packed, .int T_count])), (aT_packed, .inl (cI, 80, .inl T_packed)), (aP_matchCount, .inl (cI, 8, .inl P_matchCount')), (aP_matches, .inl (cI, 640, .inl P_matches')), (aP_termsSeen, .inl (cI, 24, .inl P_termsSeen'))]) A) A) (by decide) (Nat.le_of_ble_eq_true rfl) ?_
  intro p e s m args below meth c Q A hx hb hr hlk hml hown hin htg hN hK hQ hA hP hD hS ls hl
  have hl : lv_has ls 4 [(0, .ref aJ), (1, .int x1), (2, .int x2), (3, .int x3)] := hl
  have hown : s.vm.findClass RX0 = some m.cls := hown
  have hf := (f_JoinOrder_pattern_u n x1 x2 x3 P_required P_count P_slots P_variables P_havingVariable P_told P_parent T_count T_packed P_matchCount P_matches P_termsSeen).symm.trans hf
  refine lv_iload_n hx hb dX0_pattern_0 rfl (lv_at hl 1 rfl) ?_
  refine x_z (xrS (As := [.int x1]) (rest := []) ⟨hx, hb, hml, hown, htg⟩ (c_f_JoinOrder_isSlot l D cI cJ cZ _ x1 rfl) kc_f_JoinOrder_isSlot kw_276 kw_277 kw_1 dd_f_JoinOrder_isSlot ⟨Nat.le_of_ble_eq_true rfl, Nat.le_of_ble_eq_true rfl⟩ rfl rfl (hP.sub [] rfl) (hD.sub [] (by decide) rfl) hK hN rfl hl.1 rfl (Nat.le_of_ble_eq_true rfl) dX0_pattern_1 ⟨Nat.le_of_ble_eq_true rfl, Nat.le_of_ble_eq_true rfl⟩) hP hD hS hA [] [0, 1, 2, 3, 4, 5, 6, 7, 8, 9, 10, 11] rfl rfl (by decide) (by decide) (fun _ H locs bz_1 hP hD hS => ?_)
  have hP : va_P D vwCl [(aJ, .inr (0, [.ref aT, .ref aP, .ref aF, .ref aQ, .ref aM, .ref aB, .int J_hasRun, .ref aJ_plainOrder, .ref aC])), (aP, .inr (2, [.ref aP_slots, .ref aP_termsSeen, .ref aP_matches, .ref aP_matchCount, .ref aP_variables, .ref aP_havingVariable, .ref aP_told, .ref aP_parent, .ref aP_allBefore, .int P_required, .int P_hinted, .int P_count])), (aP_slots, .inl (cI, 24, .inl P_slots)), (aP_variables, .inl (cI, 8, .inl P_variables)), (aP_havingVariable, .inl (cI, 8, .inl P_havingVariable)), (aP_told, .inl (cI, 8, .inl P_told)), (aP_parent, .inl (cI, 8, .inl P_parent)), (aT, .inr (6, [.ref aT_packed, .int T_count])), (aT_packed, .inl (cI, 80, .inl T_packed)), (aP_matchCount, .inl (cI, 8, .inl P_matchCount)), (aP_matches, .inl (cI, 640, .inl P_matches)), (aP_termsSeen, .inl (cI, 24, .inl P_termsSeen))] H := hP
  have hD : va_D A [(aJ, .inr (0, [.ref aT, .ref aP, .ref aF, .ref aQ, .ref aM, .ref aB, .int J_hasRun, .ref aJ_plainOrder, .ref aC])), (aP, .inr (2, [.ref aP_slots, .ref aP_termsSeen, .ref aP_matches, .ref aP_matchCount, .ref aP_variables, .ref aP_havingVariable, .ref aP_told, .ref aP_parent, .ref aP_allBefore, .int P_required, .int P_hinted, .int P_count])), (aP_slots, .inl (cI, 24, .inl P_slots)), (aP_variables, .inl (cI, 8, .inl P_variables)), (aP_havingVariable, .inl (cI, 8, .inl P_havingVariable)), (aP_told, .inl (cI, 8, .inl P_told)), (aP_parent, .inl (cI, 8, .inl P_parent)), (aT, .inr (6, [.ref aT_packed, .int T_count])), (aT_packed, .inl (cI, 80, .inl T_packed)), (aP_matchCount, .inl (cI, 8, .inl P_matchCount)), (aP_matches, .inl (cI, 640, .inl P_matches)), (aP_termsSeen, .inl (cI, 24, .inl P_termsSeen))] := hD
  refine lv_if_eq (tgt := 21) hx hb dX0_pattern_4 (by decide) (fun c_2 => ?_) (fun c_2 => ?_)
  · have hf := xb_t c_2 hf
    refine lv_bipush (v := (-2 : Int32)) hx hb dX0_pattern_21 (by decide) ?_
    have hf := Option.some.inj hf
    cases hf
    exact x_iret (fun _ => 0) hQ hx hb hr hlk hK hP hD hS dX0_pattern_23
  · have hf := xb_f c_2 hf
    refine lv_iload_n hx hb dX0_pattern_7 rfl (lv_at hl 2 rfl) ?_
    refine x_z (xrS (As := [.int x2]) (rest := []) ⟨hx, hb, hml, hown, htg⟩ (c_f_JoinOrder_isSlot l D cI cJ cZ _ x2 rfl) kc_f_JoinOrder_isSlot kw_276 kw_277 kw_1 dd_f_JoinOrder_isSlot ⟨Nat.le_of_ble_eq_true rfl, Nat.le_of_ble_eq_true rfl⟩ rfl rfl (hP.sub [] rfl) (hD.sub [] (by decide) rfl) hK hN rfl hl.1 rfl (Nat.le_of_ble_eq_true rfl) dX0_pattern_8 ⟨Nat.le_of_ble_eq_true rfl, Nat.le_of_ble_eq_true rfl⟩) hP hD hS hA [] [0, 1, 2, 3, 4, 5, 6, 7, 8, 9, 10, 11] rfl rfl (by decide) (by decide) (fun _ H locs bz_3 hP hD hS => ?_)
    have hP : va_P D vwCl [(aJ, .inr (0, [.ref aT, .ref aP, .ref aF, .ref aQ, .ref aM, .ref aB, .int J_hasRun, .ref aJ_plainOrder, .ref aC])), (aP, .inr (2, [.ref aP_slots, .ref aP_termsSeen, .ref aP_matches, .ref aP_matchCount, .ref aP_variables, .ref aP_havingVariable, .ref aP_told, .ref aP_parent, .ref aP_allBefore, .int P_required, .int P_hinted, .int P_count])), (aP_slots, .inl (cI, 24, .inl P_slots)), (aP_variables, .inl (cI, 8, .inl P_variables)), (aP_havingVariable, .inl (cI, 8, .inl P_havingVariable)), (aP_told, .inl (cI, 8, .inl P_told)), (aP_parent, .inl (cI, 8, .inl P_parent)), (aT, .inr (6, [.ref aT_packed, .int T_count])), (aT_packed, .inl (cI, 80, .inl T_packed)), (aP_matchCount, .inl (cI, 8, .inl P_matchCount)), (aP_matches, .inl (cI, 640, .inl P_matches)), (aP_termsSeen, .inl (cI, 24, .inl P_termsSeen))] H := hP
    have hD : va_D A [(aJ, .inr (0, [.ref aT, .ref aP, .ref aF, .ref aQ, .ref aM, .ref aB, .int J_hasRun, .ref aJ_plainOrder, .ref aC])), (aP, .inr (2, [.ref aP_slots, .ref aP_termsSeen, .ref aP_matches, .ref aP_matchCount, .ref aP_variables, .ref aP_havingVariable, .ref aP_told, .ref aP_parent, .ref aP_allBefore, .int P_required, .int P_hinted, .int P_count])), (aP_slots, .inl (cI, 24, .inl P_slots)), (aP_variables, .inl (cI, 8, .inl P_variables)), (aP_havingVariable, .inl (cI, 8, .inl P_havingVariable)), (aP_told, .inl (cI, 8, .inl P_told)), (aP_parent, .inl (cI, 8, .inl P_parent)), (aT, .inr (6, [.ref aT_packed, .int T_count])), (aT_packed, .inl (cI, 80, .inl T_packed)), (aP_matchCount, .inl (cI, 8, .inl P_matchCount)), (aP_matches, .inl (cI, 640, .inl P_matches)), (aP_termsSeen, .inl (cI, 24, .inl P_termsSeen))] := hD
    refine lv_if_eq (tgt := 21) hx hb dX0_pattern_11 (by decide) (fun c_4 => ?_) (fun c_4 => ?_)
    · have hf := xb_t c_4 hf
      refine lv_bipush (v := (-2 : Int32)) hx hb dX0_pattern_21 (by decide) ?_
      have hf := Option.some.inj hf
      cases hf
      exact x_iret (fun _ => 0) hQ hx hb hr hlk hK hP hD hS dX0_pattern_23
    · have hf := xb_f c_4 hf
      refine lv_iload_n hx hb dX0_pattern_14 rfl (lv_at hl 3 rfl) ?_
      refine x_z (xrS (As := [.int x3]) (rest := []) ⟨hx, hb, hml, hown, htg⟩ (c_f_JoinOrder_isSlot l D cI cJ cZ _ x3 rfl) kc_f_JoinOrder_isSlot kw_276 kw_277 kw_1 dd_f_JoinOrder_isSlot ⟨Nat.le_of_ble_eq_true rfl, Nat.le_of_ble_eq_true rfl⟩ rfl rfl (hP.sub [] rfl) (hD.sub [] (by decide) rfl) hK hN rfl hl.1 rfl (Nat.le_of_ble_eq_true rfl) dX0_pattern_15 ⟨Nat.le_of_ble_eq_true rfl, Nat.le_of_ble_eq_true rfl⟩) hP hD hS hA [] [0, 1, 2, 3, 4, 5, 6, 7, 8, 9, 10, 11] rfl rfl (by decide) (by decide) (fun _ H locs bz_5 hP hD hS => ?_)
      have hP : va_P D vwCl [(aJ, .inr (0, [.ref aT, .ref aP, .ref aF, .ref aQ, .ref aM, .ref aB, .int J_hasRun, .ref aJ_plainOrder, .ref aC])), (aP, .inr (2, [.ref aP_slots, .ref aP_termsSeen, .ref aP_matches, .ref aP_matchCount, .ref aP_variables, .ref aP_havingVariable, .ref aP_told, .ref aP_parent, .ref aP_allBefore, .int P_required, .int P_hinted, .int P_count])), (aP_slots, .inl (cI, 24, .inl P_slots)), (aP_variables, .inl (cI, 8, .inl P_variables)), (aP_havingVariable, .inl (cI, 8, .inl P_havingVariable)), (aP_told, .inl (cI, 8, .inl P_told)), (aP_parent, .inl (cI, 8, .inl P_parent)), (aT, .inr (6, [.ref aT_packed, .int T_count])), (aT_packed, .inl (cI, 80, .inl T_packed)), (aP_matchCount, .inl (cI, 8, .inl P_matchCount)), (aP_matches, .inl (cI, 640, .inl P_matches)), (aP_termsSeen, .inl (cI, 24, .inl P_termsSeen))] H := hP
      have hD : va_D A [(aJ, .inr (0, [.ref aT, .ref aP, .ref aF, .ref aQ, .ref aM, .ref aB, .int J_hasRun, .ref aJ_plainOrder, .ref aC])), (aP, .inr (2, [.ref aP_slots, .ref aP_termsSeen, .ref aP_matches, .ref aP_matchCount, .ref aP_variables, .ref aP_havingVariable, .ref aP_told, .ref aP_parent, .ref aP_allBefore, .int P_required, .int P_hinted, .int P_count])), (aP_slots, .inl (cI, 24, .inl P_slots)), (aP_variables, .inl (cI, 8, .inl P_variables)), (aP_havingVariable, .inl (cI, 8, .inl P_havingVariable)), (aP_told, .inl (cI, 8, .inl P_told)), (aP_parent, .inl (cI, 8, .inl P_parent)), (aT, .inr (6, [.ref aT_packed, .int T_count])), (aT_packed, .inl (cI, 80, .inl T_packed)), (aP_matchCount, .inl (cI, 8, .inl P_matchCount)), (aP_matches, .inl (cI, 640, .inl P_matches)), (aP_termsSeen, .inl (cI, 24, .inl P_termsSeen))] := hD
      refine lv_if_ne (tgt := 24) hx hb dX0_pattern_18 (by decide) (fun c_6 => ?_) (fun c_6 => ?_)
      · have hf := xb_f c_6 hf
        refine lv_aload_n hx hb dX0_pattern_24 rfl (lv_at hl 0 rfl) ?_
        refine va_get (D := D) (ci := 0) (v := .ref aP) (C := RX0) (T := TX0) (N := 9) hx hb htg giX0 hown hK hP 0 rfl rfl 1 (by decide) (htg _ kw_201) (fun _ h9 => h9) rfl dX0_pattern_25 ?_
        refine va_getN (D := D) (ci := 2) (v := .int P_count) (C := RX2) (T := TX2) (N := 12) hx hb htg giX2 hown hK hP 1 rfl rfl 11 (by decide) (va_Nw.use rfl (hN _ kn_64)) (fun _ h9 => h9) rfl dX0_pattern_28 ?_
        refine lv_bipush (v := (8 : Int32)) hx hb dX0_pattern_31 (by decide) ?_
        refine lv_icmp_lt (tgt := 39) hx hb dX0_pattern_33 (by decide) (fun c_7 => ?_) (fun c_7 => ?_)
        · have hf := xb_t c_7 hf
          refine lv_aload_n hx hb dX0_pattern_39 rfl (lv_at hl 0 rfl) ?_
          refine va_get (D := D) (ci := 0) (v := .ref aP) (C := RX0) (T := TX0) (N := 9) hx hb htg giX0 hown hK hP 0 rfl rfl 1 (by decide) (htg _ kw_201) (fun _ h9 => h9) rfl dX0_pattern_40 ?_
          refine lv_iload_n hx hb dX0_pattern_43 rfl (lv_at hl 1 rfl) ?_
          refine lv_iload_n hx hb dX0_pattern_44 rfl (lv_at hl 2 rfl) ?_
          refine lv_iload_n hx hb dX0_pattern_45 rfl (lv_at hl 3 rfl) ?_
          refine lv_aload_n hx hb dX0_pattern_46 rfl (lv_at hl 0 rfl) ?_
          refine va_get (D := D) (ci := 0) (v := .ref aT) (C := RX0) (T := TX0) (N := 9) hx hb htg giX0 hown hK hP 0 rfl rfl 0 (by decide) (htg _ kw_200) (fun _ h9 => h9) rfl dX0_pattern_47 ?_
          obtain ⟨r_9, P_required_10, P_count_11, P_slots_12, P_variables_13, P_havingVariable_14, P_told_15, P_parent_16, P_matchCount_17, P_matches_18, P_termsSeen_19, hq_8, hf⟩ := bn11_c hf
          refine x_i (xrV (As := [.int x1, .int x2, .int x3, .ref aT]) (b := aP) (rest := []) ⟨hx, hb, hml, hown, htg⟩ (c_f_Patterns_add l D cI cJ cZ _ n aP x1 x2 x3 aT aP_slots aP_termsSeen aP_matches aP_matchCount aP_variables aP_havingVariable aP_told aP_parent aP_allBefore P_required P_hinted P_count P_slots P_variables P_havingVariable P_told P_parent aT_packed T_count T_packed P_matchCount P_matches P_termsSeen hq_8) kc_f_Patterns_add kw_282 kw_283 kw_284 kw_3 dd_f_Patterns_add ⟨Nat.le_of_ble_eq_true rfl, Nat.le_of_ble_eq_true rfl⟩ rfl rfl (hP.sub [1, 2, 3, 4, 5, 6, 7, 8, 9, 10, 11] rfl) (hD.sub [1, 2, 3, 4, 5, 6, 7, 8, 9, 10, 11] (by decide) rfl) hK hN hP (q0 := 1) rfl rfl rfl hl.1 rfl (Nat.le_of_ble_eq_true rfl) dX0_pattern_50 ⟨Nat.le_of_ble_eq_true rfl, Nat.le_of_ble_eq_true rfl⟩) hP hD hS hA [1, 2, 3, 4, 5, 6, 7, 8, 9, 10, 11] [0] rfl rfl (by decide) (by decide) (fun _ H locs hP hD hS => ?_)
          have hP : va_P D vwCl [(aJ, .inr (0, [.ref aT, .ref aP, .ref aF, .ref aQ, .ref aM, .ref aB, .int J_hasRun, .ref aJ_plainOrder, .ref aC])), (aP, .inr (2, [.ref aP_slots, .ref aP_termsSeen, .ref aP_matches, .ref aP_matchCount, .ref aP_variables, .ref aP_havingVariable, .ref aP_told, .ref aP_parent, .ref aP_allBefore, .int P_required_10, .int P_hinted, .int P_count_11])), (aP_slots, .inl (cI, 24, .inl P_slots_12)), (aP_variables, .inl (cI, 8, .inl P_variables_13)), (aP_havingVariable, .inl (cI, 8, .inl P_havingVariable_14)), (aP_told, .inl (cI, 8, .inl P_told_15)), (aP_parent, .inl (cI, 8, .inl P_parent_16)), (aT, .inr (6, [.ref aT_packed, .int T_count])), (aT_packed, .inl (cI, 80, .inl T_packed)), (aP_matchCount, .inl (cI, 8, .inl P_matchCount_17)), (aP_matches, .inl (cI, 640, .inl P_matches_18)), (aP_termsSeen, .inl (cI, 24, .inl P_termsSeen_19))] H := hP
          have hD : va_D A [(aJ, .inr (0, [.ref aT, .ref aP, .ref aF, .ref aQ, .ref aM, .ref aB, .int J_hasRun, .ref aJ_plainOrder, .ref aC])), (aP, .inr (2, [.ref aP_slots, .ref aP_termsSeen, .ref aP_matches, .ref aP_matchCount, .ref aP_variables, .ref aP_havingVariable, .ref aP_told, .ref aP_parent, .ref aP_allBefore, .int P_required_10, .int P_hinted, .int P_count_11])), (aP_slots, .inl (cI, 24, .inl P_slots_12)), (aP_variables, .inl (cI, 8, .inl P_variables_13)), (aP_havingVariable, .inl (cI, 8, .inl P_havingVariable_14)), (aP_told, .inl (cI, 8, .inl P_told_15)), (aP_parent, .inl (cI, 8, .inl P_parent_16)), (aT, .inr (6, [.ref aT_packed, .int T_count])), (aT_packed, .inl (cI, 80, .inl T_packed)), (aP_matchCount, .inl (cI, 8, .inl P_matchCount_17)), (aP_matches, .inl (cI, 640, .inl P_matches_18)), (aP_termsSeen, .inl (cI, 24, .inl P_termsSeen_19))] := hD
          have hf := Option.some.inj hf
          cases hf
          exact x_iret (fun _ => 0) hQ hx hb hr hlk hK hP hD hS dX0_pattern_53
        · have hf := xb_f c_7 hf
          refine lv_bipush (v := (-4 : Int32)) hx hb dX0_pattern_36 (by decide) ?_
          have hf := Option.some.inj hf
          cases hf
          exact x_iret (fun _ => 0) hQ hx hb hr hlk hK hP hD hS dX0_pattern_38
      · have hf := xb_t c_6 hf
        refine lv_bipush (v := (-2 : Int32)) hx hb dX0_pattern_21 (by decide) ?_
        have hf := Option.some.inj hf
        cases hf
        exact x_iret (fun _ => 0) hQ hx hb hr hlk hK hP hD hS dX0_pattern_23
abbrev rm_f_JoinOrderModel_isVariable : Room := { frames := 0, cells := 0, slots := 0, locals := 0 }
set_option maxHeartbeats 4000000 in
set_option maxRecDepth 100000 in
theorem c_f_JoinOrderModel_isVariable (l : Launch) (D : va_G) (cI cJ cZ : ClassId) (sz : Nat) (x0 : Int32) {r : Int32} (hf : f_JoinOrderModel_isVariable x0 = r) : Met l yX7_isVariable (.code yX7_isVariable cX7_isVariable 1 (some .boolean) :: GW) rm_f_JoinOrderModel_isVariable (va_Pc [.int x0] (xP D (xT cI cJ cZ) sz [])) (va_Qi (fun r2 (_ : Nat → Nat) => r2 = r ∧ (r = 0 ∨ r = 1)) (bB D (xT cI cJ cZ) (fun _ => []) (va_A [] sz)) (va_A [] sz)) 0 0 (va_A [] sz) := by
  refine con_start (Qc := fun A => va_Qi (fun r2 (_ : Nat → Nat) => r2 = r ∧ (r = 0 ∨ r = 1)) (bB D (xT cI cJ cZ) (fun _ => []) A) A) (by decide) (Nat.le_of_ble_eq_true rfl) ?_
  intro p e s m args below meth c Q A hx hb hr hlk hml hown hin htg hN hK hQ hA hP hD hS ls hl
  have hl : lv_has ls 1 [(0, .int x0)] := hl
  have hown : s.vm.findClass RX7 = some m.cls := hown
  have hf := (f_JoinOrderModel_isVariable_u x0).symm.trans hf
  refine lv_iload_n hx hb dX7_isVariable_0 rfl (lv_at hl 0 rfl) ?_
  refine lv_iconst (v := (-1 : Int32)) hx hb dX7_isVariable_1 (by decide) ?_
  refine lv_icmp_gt (tgt := 15) hx hb dX7_isVariable_2 (by decide) (fun c_1 => ?_) (fun c_1 => ?_)
  · have hf := xb_t c_1 hf
    refine lv_iconst (v := (0 : Int32)) hx hb dX7_isVariable_15 (by decide) ?_
    have hf := hf
    cases hf
    exact x_zret (fun _ => 0) hQ hx hb hr hlk (by decide) hK hP hD hS dX7_isVariable_16
  · have hf := xb_f c_1 hf
    refine lv_iload_n hx hb dX7_isVariable_5 rfl (lv_at hl 0 rfl) ?_
    refine lv_bipush (v := (-8 : Int32)) hx hb dX7_isVariable_6 (by decide) ?_
    refine lv_icmp_lt (tgt := 15) hx hb dX7_isVariable_8 (by decide) (fun c_2 => ?_) (fun c_2 => ?_)
    · have hf := xb_t c_2 hf
      refine lv_iconst (v := (0 : Int32)) hx hb dX7_isVariable_15 (by decide) ?_
      have hf := hf
      cases hf
      exact x_zret (fun _ => 0) hQ hx hb hr hlk (by decide) hK hP hD hS dX7_isVariable_16
    · have hf := xb_f c_2 hf
      refine lv_iconst (v := (1 : Int32)) hx hb dX7_isVariable_11 (by decide) ?_
      refine lv_goto (tgt := 16) hx hb dX7_isVariable_12 (by decide) ?_
      have hf := hf
      cases hf
      exact x_zret (fun _ => 0) hQ hx hb hr hlk (by decide) hK hP hD hS dX7_isVariable_16
abbrev rm_f_JoinOrderModel_isCell : Room := { frames := 1, cells := 0, slots := 0, locals := 20 }
set_option maxHeartbeats 4000000 in
set_option maxRecDepth 100000 in
theorem c_f_JoinOrderModel_isCell (l : Launch) (D : va_G) (cI cJ cZ : ClassId) (sz : Nat) (x0 : Int32) {r : Int32} (hf : f_JoinOrderModel_isCell x0 = r) : Met l yX7_isCell (.code yX7_isCell cX7_isCell 1 (some .boolean) :: GW) rm_f_JoinOrderModel_isCell (va_Pc [.int x0] (xP D (xT cI cJ cZ) sz [])) (va_Qi (fun r2 (_ : Nat → Nat) => r2 = r ∧ (r = 0 ∨ r = 1)) (bB D (xT cI cJ cZ) (fun _ => []) (va_A [] sz)) (va_A [] sz)) 0 0 (va_A [] sz) := by
  refine con_start (Qc := fun A => va_Qi (fun r2 (_ : Nat → Nat) => r2 = r ∧ (r = 0 ∨ r = 1)) (bB D (xT cI cJ cZ) (fun _ => []) A) A) (by decide) (Nat.le_of_ble_eq_true rfl) ?_
  intro p e s m args below meth c Q A hx hb hr hlk hml hown hin htg hN hK hQ hA hP hD hS ls hl
  have hl : lv_has ls 1 [(0, .int x0)] := hl
  have hown : s.vm.findClass RX7 = some m.cls := hown
  have hf := (f_JoinOrderModel_isCell_u x0).symm.trans hf
  refine lv_iload_n hx hb dX7_isCell_0 rfl (lv_at hl 0 rfl) ?_
  refine x_z (xrS (As := [.int x0]) (rest := []) ⟨hx, hb, hml, hown, htg⟩ (c_f_JoinOrderModel_isTerm l D cI cJ cZ _ x0 rfl) kc_f_JoinOrderModel_isTerm kw_671 kw_672 kw_8 dd_f_JoinOrderModel_isTerm ⟨Nat.le_of_ble_eq_true rfl, Nat.le_of_ble_eq_true rfl⟩ rfl rfl hP hD hK hN rfl hl.1 rfl (Nat.le_of_ble_eq_true rfl) dX7_isCell_1 ⟨Nat.le_of_ble_eq_true rfl, Nat.le_of_ble_eq_true rfl⟩) hP hD hS hA [] [] rfl rfl (by decide) (by decide) (fun _ H locs bz_1 hP hD hS => ?_)
  have hP : va_P D vwCl [] H := hP
  have hD : va_D A [] := hD
  refine lv_if_ne (tgt := 14) hx hb dX7_isCell_4 (by decide) (fun c_2 => ?_) (fun c_2 => ?_)
  · have hf := xb_f c_2 hf
    refine lv_iconst (v := (1 : Int32)) hx hb dX7_isCell_14 (by decide) ?_
    refine lv_goto (tgt := 19) hx hb dX7_isCell_15 (by decide) ?_
    have hf := hf
    cases hf
    exact x_zret (fun _ => 0) hQ hx hb hr hlk (by decide) hK hP hD hS dX7_isCell_19
  · have hf := xb_t c_2 hf
    refine lv_iload_n hx hb dX7_isCell_7 rfl (lv_at hl 0 rfl) ?_
    refine x_z (xrS (As := [.int x0]) (rest := []) ⟨hx, hb, hml, hown, htg⟩ (c_f_JoinOrderModel_isVariable l D cI cJ cZ _ x0 rfl) kc_f_JoinOrderModel_isVariable kw_681 kw_682 kw_8 dd_f_JoinOrderModel_isVariable ⟨Nat.le_of_ble_eq_true rfl, Nat.le_of_ble_eq_true rfl⟩ rfl rfl hP hD hK hN rfl hl.1 rfl (Nat.le_of_ble_eq_true rfl) dX7_isCell_8 ⟨Nat.le_of_ble_eq_true rfl, Nat.le_of_ble_eq_true rfl⟩) hP hD hS hA [] [] rfl rfl (by decide) (by decide) (fun _ H locs bz_3 hP hD hS => ?_)
    have hP : va_P D vwCl [] H := hP
    have hD : va_D A [] := hD
    refine lv_if_eq (tgt := 18) hx hb dX7_isCell_11 (by decide) (fun c_4 => ?_) (fun c_4 => ?_)
    · have hf := xb_t c_4 hf
      refine lv_iconst (v := (0 : Int32)) hx hb dX7_isCell_18 (by decide) ?_
      have hf := hf
      cases hf
      exact x_zret (fun _ => 0) hQ hx hb hr hlk (by decide) hK hP hD hS dX7_isCell_19
    · have hf := xb_f c_4 hf
      refine lv_iconst (v := (1 : Int32)) hx hb dX7_isCell_14 (by decide) ?_
      refine lv_goto (tgt := 19) hx hb dX7_isCell_15 (by decide) ?_
      have hf := hf
      cases hf
      exact x_zret (fun _ => 0) hQ hx hb hr hlk (by decide) hK hP hD hS dX7_isCell_19
abbrev rm_f_JoinOrderModel_pattern : Room := { frames := 2, cells := 0, slots := 0, locals := 40 }
set_option maxHeartbeats 4000000 in
set_option maxRecDepth 100000 in
theorem c_f_JoinOrderModel_pattern (l : Launch) (D : va_G) (cI cJ cZ : ClassId) (sz : Nat) (aR : Nat) (x1 : Int32) (x2 : Int32) (x3 : Int32) (R_triples : Int32) (aR_facts : Nat) (R_patterns : Int32) (aR_cells : Nat) (aR_told : Nat) (aR_of : Nat) (aR_hints : Nat) (R_filters : Int32) (aR_looks : Nat) (aR_kinds : Nat) (aR_values : Nat) (aR_isSafe : Nat) (aR_sizes : Nat) (aR_spreads : Nat) (aR_isSeen : Nat) (aR_estimates : Nat) (aR_rest : Nat) (R_steps : Int32) (aR_order : Nat) (aR_joins : Nat) (aR_actsBehind : Nat) (aR_upTo : Nat) (R_filtersThen : Int32) (aR_behind : Nat) (R_rows : Int32) (aR_row : Nat) (aR_found : Nat) (R_comes : Int32) (aR_next : Nat) (aR_nextFound : Nat) (R_kept : Int32) (R_hasRoom : Int32) (aR_keep : Nat) (aR_isTaken : Nat) (R_cells : Nat → Int32) (R_told : Nat → Int32) (R_of : Nat → Int32) {r : Int32} {R_patterns' : Int32} {R_cells' : Nat → Int32} {R_told' : Nat → Int32} {R_of' : Nat → Int32} (hf : f_JoinOrderModel_pattern x1 x2 x3 R_patterns R_cells R_told R_of = some (r, R_patterns', R_cells', R_told', R_of')) : Met l yX7_pattern (.code yX7_pattern cX7_pattern 4 (some .int) :: GW) rm_f_JoinOrderModel_pattern (va_Pc [.ref aR, .int x1, .int x2, .int x3] (xP D (xT cI cJ cZ) sz [(aR, .inr (7, [.int R_triples, .ref aR_facts, .int R_patterns, .ref aR_cells, .ref aR_told, .ref aR_of, .ref aR_hints, .int R_filters, .ref aR_looks, .ref aR_kinds, .ref aR_values, .ref aR_isSafe, .ref aR_sizes, .ref aR_spreads, .ref aR_isSeen, .ref aR_estimates, .ref aR_rest, .int R_steps, .ref aR_order, .ref aR_joins, .ref aR_actsBehind, .ref aR_upTo, .int R_filtersThen, .ref aR_behind, .int R_rows, .ref aR_row, .ref aR_found, .int R_comes, .ref aR_next, .ref aR_nextFound, .int R_kept, .int R_hasRoom, .ref aR_keep, .ref aR_isTaken])), (aR_cells, .inl (cI, 24, .inl R_cells)), (aR_told, .inl (cI, 8, .inl R_told)), (aR_of, .inl (cI, 8, .inl R_of))])) (va_Qi (fun r2 (_ : Nat → Nat) => r2 = r) (bB D (xT cI cJ cZ) (fun _ => [(aR, .inr (7, [.int R_triples, .ref aR_facts, .int R_patterns', .ref aR_cells, .ref aR_told, .ref aR_of, .ref aR_hints, .int R_filters, .ref aR_looks, .ref aR_kinds, .ref aR_values, .ref aR_isSafe, .ref aR_sizes, .ref aR_spreads, .ref aR_isSeen, .ref aR_estimates, .ref aR_rest, .int R_steps, .ref aR_order, .ref aR_joins, .ref aR_actsBehind, .ref aR_upTo, .int R_filtersThen, .ref aR_behind, .int R_rows, .ref aR_row, .ref aR_found, .int R_comes, .ref aR_next, .ref aR_nextFound, .int R_kept, .int R_hasRoom, .ref aR_keep, .ref aR_isTaken])), (aR_cells, .inl (cI, 24, .inl R_cells')), (aR_told, .inl (cI, 8, .inl R_told')), (aR_of, .inl (cI, 8, .inl R_of'))]) (va_A [(aR, .inr (7, [.int R_triples, .ref aR_facts, .int R_patterns, .ref aR_cells, .ref aR_told, .ref aR_of, .ref aR_hints, .int R_filters, .ref aR_looks, .ref aR_kinds, .ref aR_values, .ref aR_isSafe, .ref aR_sizes, .ref aR_spreads, .ref aR_isSeen, .ref aR_estimates, .ref aR_rest, .int R_steps, .ref aR_order, .ref aR_joins, .ref aR_actsBehind, .ref aR_upTo, .int R_filtersThen, .ref aR_behind, .int R_rows, .ref aR_row, .ref aR_found, .int R_comes, .ref aR_next, .ref aR_nextFound, .int R_kept, .int R_hasRoom, .ref aR_keep, .ref aR_isTaken])), (aR_cells, .inl (cI, 24, .inl R_cells)), (aR_told, .inl (cI, 8, .inl R_told)), (aR_of, .inl (cI, 8, .inl R_of))] sz)) (va_A [(aR, .inr (7, [.int R_triples, .ref aR_facts, .int R_patterns, .ref aR_cells, .ref aR_told, .ref aR_of, .ref aR_hints, .int R_filters, .ref aR_looks, .ref aR_kinds, .ref aR_values, .ref aR_isSafe, .ref aR_sizes, .ref aR_spreads, .ref aR_isSeen, .ref aR_estimates, .ref aR_rest, .int R_steps, .ref aR_order, .ref aR_joins, .ref aR_actsBehind, .ref aR_upTo, .int R_filtersThen, .ref aR_behind, .int R_rows, .ref aR_row, .ref aR_found, .int R_comes, .ref aR_next, .ref aR_nextFound, .int R_kept, .int R_hasRoom, .ref aR_keep, .ref aR_isTaken])), (aR_cells, .inl (cI, 24, .inl R_cells)), (aR_told, .inl (cI, 8, .inl R_told)), (aR_of, .inl (cI, 8, .inl R_of))] sz)) 0 0 (va_A [(aR, .inr (7, [.int R_triples, .ref aR_facts, .int R_patterns, .ref aR_cells, .ref aR_told, .ref aR_of, .ref aR_hints, .int R_filters, .ref aR_looks, .ref aR_kinds, .ref aR_values, .ref aR_isSafe, .ref aR_sizes, .ref aR_spreads, .ref aR_isSeen, .ref aR_estimates, .ref aR_rest, .int R_steps, .ref aR_order, .ref aR_joins, .ref aR_actsBehind, .ref aR_upTo, .int R_filtersThen, .ref aR_behind, .int R_rows, .ref aR_row, .ref aR_found, .int R_comes, .ref aR_next, .ref aR_nextFound, .int R_kept, .int R_hasRoom, .ref aR_keep, .ref aR_isTaken])), (aR_cells, .inl (cI, 24, .inl R_cells)), (aR_told, .inl (cI, 8, .inl R_told)), (aR_of, .inl (cI, 8, .inl R_of))] sz) := by
  refine con_start (Qc := fun A => va_Qi (fun r2 (_ : Nat → Nat) => r2 = r) (bB D (xT cI cJ cZ) (fun _ => [(aR, .inr (7, [.int R_triples, .ref aR_facts, .int R_patterns', .ref aR_cells, .ref aR_told, .ref aR_of, .ref aR_hints, .int R_filters, .ref aR_looks, .ref aR_kinds, .ref aR_values, .ref aR_isSafe, .ref aR_sizes, .ref aR_spreads, .ref aR_isSeen, .ref aR_estimates, .ref aR_rest, .int R_steps, .ref aR_order, .ref aR_joins, .ref aR_actsBehind, .ref aR_upTo, .int R_filtersThen, .ref aR_behind, .int R_rows, .ref aR_row, .ref aR_found, .int R_comes, .ref aR_next, .ref aR_nextFound, .int R_kept, .int R_hasRoom, .ref aR_keep, .ref aR_isTaken])), (aR_cells, .inl (cI, 24, .inl R_cells')), (aR_told, .inl (cI, 8, .inl R_told')), (aR_of, .inl (cI, 8, .inl R_of'))]) A) A) (by decide) (Nat.le_of_ble_eq_true rfl) ?_
  intro p e s m args below meth c Q A hx hb hr hlk hml hown hin htg hN hK hQ hA hP hD hS ls hl
  have hl : lv_has ls 4 [(0, .ref aR), (1, .int x1), (2, .int x2), (3, .int x3)] := hl
  have hown : s.vm.findClass RX7 = some m.cls := hown
  have hf := (f_JoinOrderModel_pattern_u x1 x2 x3 R_patterns R_cells R_told R_of).symm.trans hf
  refine lv_iload_n hx hb dX7_pattern_0 rfl (lv_at hl 1 rfl) ?_
  refine x_z (xrS (As := [.int x1]) (rest := []) ⟨hx, hb, hml, hown, htg⟩ (c_f_JoinOrderModel_isCell l D cI cJ cZ _ x1 rfl) kc_f_JoinOrderModel_isCell kw_678 kw_679 kw_8 dd_f_JoinOrderModel_isCell ⟨Nat.le_of_ble_eq_true rfl, Nat.le_of_ble_eq_true rfl⟩ rfl rfl (hP.sub [] rfl) (hD.sub [] (by decide) rfl) hK hN rfl hl.1 rfl (Nat.le_of_ble_eq_true rfl) dX7_pattern_1 ⟨Nat.le_of_ble_eq_true rfl, Nat.le_of_ble_eq_true rfl⟩) hP hD hS hA [] [0, 1, 2, 3] rfl rfl (by decide) (by decide) (fun _ H locs bz_1 hP hD hS => ?_)
  have hP : va_P D vwCl [(aR, .inr (7, [.int R_triples, .ref aR_facts, .int R_patterns, .ref aR_cells, .ref aR_told, .ref aR_of, .ref aR_hints, .int R_filters, .ref aR_looks, .ref aR_kinds, .ref aR_values, .ref aR_isSafe, .ref aR_sizes, .ref aR_spreads, .ref aR_isSeen, .ref aR_estimates, .ref aR_rest, .int R_steps, .ref aR_order, .ref aR_joins, .ref aR_actsBehind, .ref aR_upTo, .int R_filtersThen, .ref aR_behind, .int R_rows, .ref aR_row, .ref aR_found, .int R_comes, .ref aR_next, .ref aR_nextFound, .int R_kept, .int R_hasRoom, .ref aR_keep, .ref aR_isTaken])), (aR_cells, .inl (cI, 24, .inl R_cells)), (aR_told, .inl (cI, 8, .inl R_told)), (aR_of, .inl (cI, 8, .inl R_of))] H := hP
  have hD : va_D A [(aR, .inr (7, [.int R_triples, .ref aR_facts, .int R_patterns, .ref aR_cells, .ref aR_told, .ref aR_of, .ref aR_hints, .int R_filters, .ref aR_looks, .ref aR_kinds, .ref aR_values, .ref aR_isSafe, .ref aR_sizes, .ref aR_spreads, .ref aR_isSeen, .ref aR_estimates, .ref aR_rest, .int R_steps, .ref aR_order, .ref aR_joins, .ref aR_actsBehind, .ref aR_upTo, .int R_filtersThen, .ref aR_behind, .int R_rows, .ref aR_row, .ref aR_found, .int R_comes, .ref aR_next, .ref aR_nextFound, .int R_kept, .int R_hasRoom, .ref aR_keep, .ref aR_isTaken])), (aR_cells, .inl (cI, 24, .inl R_cells)), (aR_told, .inl (cI, 8, .inl R_told)), (aR_of, .inl (cI, 8, .inl R_of))] := hD
  refine lv_if_eq (tgt := 21) hx hb dX7_pattern_4 (by decide) (fun c_2 => ?_) (fun c_2 => ?_)
  · have hf := xb_t c_2 hf
    refine lv_bipush (v := (-2 : Int32)) hx hb dX7_pattern_21 (by decide) ?_
    have hf := Option.some.inj hf
    cases hf
    exact x_iret (fun _ => 0) hQ hx hb hr hlk hK hP hD hS dX7_pattern_23
  · have hf := xb_f c_2 hf
    refine lv_iload_n hx hb dX7_pattern_7 rfl (lv_at hl 2 rfl) ?_
    refine x_z (xrS (As := [.int x2]) (rest := []) ⟨hx, hb, hml, hown, htg⟩ (c_f_JoinOrderModel_isCell l D cI cJ cZ _ x2 rfl) kc_f_JoinOrderModel_isCell kw_678 kw_679 kw_8 dd_f_JoinOrderModel_isCell ⟨Nat.le_of_ble_eq_true rfl, Nat.le_of_ble_eq_true rfl⟩ rfl rfl (hP.sub [] rfl) (hD.sub [] (by decide) rfl) hK hN rfl hl.1 rfl (Nat.le_of_ble_eq_true rfl) dX7_pattern_8 ⟨Nat.le_of_ble_eq_true rfl, Nat.le_of_ble_eq_true rfl⟩) hP hD hS hA [] [0, 1, 2, 3] rfl rfl (by decide) (by decide) (fun _ H locs bz_3 hP hD hS => ?_)
    have hP : va_P D vwCl [(aR, .inr (7, [.int R_triples, .ref aR_facts, .int R_patterns, .ref aR_cells, .ref aR_told, .ref aR_of, .ref aR_hints, .int R_filters, .ref aR_looks, .ref aR_kinds, .ref aR_values, .ref aR_isSafe, .ref aR_sizes, .ref aR_spreads, .ref aR_isSeen, .ref aR_estimates, .ref aR_rest, .int R_steps, .ref aR_order, .ref aR_joins, .ref aR_actsBehind, .ref aR_upTo, .int R_filtersThen, .ref aR_behind, .int R_rows, .ref aR_row, .ref aR_found, .int R_comes, .ref aR_next, .ref aR_nextFound, .int R_kept, .int R_hasRoom, .ref aR_keep, .ref aR_isTaken])), (aR_cells, .inl (cI, 24, .inl R_cells)), (aR_told, .inl (cI, 8, .inl R_told)), (aR_of, .inl (cI, 8, .inl R_of))] H := hP
    have hD : va_D A [(aR, .inr (7, [.int R_triples, .ref aR_facts, .int R_patterns, .ref aR_cells, .ref aR_told, .ref aR_of, .ref aR_hints, .int R_filters, .ref aR_looks, .ref aR_kinds, .ref aR_values, .ref aR_isSafe, .ref aR_sizes, .ref aR_spreads, .ref aR_isSeen, .ref aR_estimates, .ref aR_rest, .int R_steps, .ref aR_order, .ref aR_joins, .ref aR_actsBehind, .ref aR_upTo, .int R_filtersThen, .ref aR_behind, .int R_rows, .ref aR_row, .ref aR_found, .int R_comes, .ref aR_next, .ref aR_nextFound, .int R_kept, .int R_hasRoom, .ref aR_keep, .ref aR_isTaken])), (aR_cells, .inl (cI, 24, .inl R_cells)), (aR_told, .inl (cI, 8, .inl R_told)), (aR_of, .inl (cI, 8, .inl R_of))] := hD
    refine lv_if_eq (tgt := 21) hx hb dX7_pattern_11 (by decide) (fun c_4 => ?_) (fun c_4 => ?_)
    · have hf := xb_t c_4 hf
      refine lv_bipush (v := (-2 : Int32)) hx hb dX7_pattern_21 (by decide) ?_
      have hf := Option.some.inj hf
      cases hf
      exact x_iret (fun _ => 0) hQ hx hb hr hlk hK hP hD hS dX7_pattern_23
    · have hf := xb_f c_4 hf
      refine lv_iload_n hx hb dX7_pattern_14 rfl (lv_at hl 3 rfl) ?_
      refine x_z (xrS (As := [.int x3]) (rest := []) ⟨hx, hb, hml, hown, htg⟩ (c_f_JoinOrderModel_isCell l D cI cJ cZ _ x3 rfl) kc_f_JoinOrderModel_isCell kw_678 kw_679 kw_8 dd_f_JoinOrderModel_isCell ⟨Nat.le_of_ble_eq_true rfl, Nat.le_of_ble_eq_true rfl⟩ rfl rfl (hP.sub [] rfl) (hD.sub [] (by decide) rfl) hK hN rfl hl.1 rfl (Nat.le_of_ble_eq_true rfl) dX7_pattern_15 ⟨Nat.le_of_ble_eq_true rfl, Nat.le_of_ble_eq_true rfl⟩) hP hD hS hA [] [0, 1, 2, 3] rfl rfl (by decide) (by decide) (fun _ H locs bz_5 hP hD hS => ?_)
      have hP : va_P D vwCl [(aR, .inr (7, [.int R_triples, .ref aR_facts, .int R_patterns, .ref aR_cells, .ref aR_told, .ref aR_of, .ref aR_hints, .int R_filters, .ref aR_looks, .ref aR_kinds, .ref aR_values, .ref aR_isSafe, .ref aR_sizes, .ref aR_spreads, .ref aR_isSeen, .ref aR_estimates, .ref aR_rest, .int R_steps, .ref aR_order, .ref aR_joins, .ref aR_actsBehind, .ref aR_upTo, .int R_filtersThen, .ref aR_behind, .int R_rows, .ref aR_row, .ref aR_found, .int R_comes, .ref aR_next, .ref aR_nextFound, .int R_kept, .int R_hasRoom, .ref aR_keep, .ref aR_isTaken])), (aR_cells, .inl (cI, 24, .inl R_cells)), (aR_told, .inl (cI, 8, .inl R_told)), (aR_of, .inl (cI, 8, .inl R_of))] H := hP
      have hD : va_D A [(aR, .inr (7, [.int R_triples, .ref aR_facts, .int R_patterns, .ref aR_cells, .ref aR_told, .ref aR_of, .ref aR_hints, .int R_filters, .ref aR_looks, .ref aR_kinds, .ref aR_values, .ref aR_isSafe, .ref aR_sizes, .ref aR_spreads, .ref aR_isSeen, .ref aR_estimates, .ref aR_rest, .int R_steps, .ref aR_order, .ref aR_joins, .ref aR_actsBehind, .ref aR_upTo, .int R_filtersThen, .ref aR_behind, .int R_rows, .ref aR_row, .ref aR_found, .int R_comes, .ref aR_next, .ref aR_nextFound, .int R_kept, .int R_hasRoom, .ref aR_keep, .ref aR_isTaken])), (aR_cells, .inl (cI, 24, .inl R_cells)), (aR_told, .inl (cI, 8, .inl R_told)), (aR_of, .inl (cI, 8, .inl R_of))] := hD
      refine lv_if_ne (tgt := 24) hx hb dX7_pattern_18 (by decide) (fun c_6 => ?_) (fun c_6 => ?_)
      · have hf := xb_f c_6 hf
        refine lv_aload_n hx hb dX7_pattern_24 rfl (lv_at hl 0 rfl) ?_
        refine va_get (D := D) (ci := 7) (v := .int R_patterns) (C := RX7) (T := TX7) (N := 34) hx hb htg giX7 hown hK hP 0 rfl rfl 2 (by decide) (htg _ kw_565) (fun _ h9 => h9) rfl dX7_pattern_25 ?_
        refine lv_bipush (v := (8 : Int32)) hx hb dX7_pattern_28 (by decide) ?_
        refine lv_icmp_ne (tgt := 36) hx hb dX7_pattern_30 (by decide) (fun c_7 => ?_) (fun c_7 => ?_)
        · have hf := xb_f c_7 hf
          refine lv_aload_n hx hb dX7_pattern_36 rfl (lv_at hl 0 rfl) ?_
          refine va_get (D := D) (ci := 7) (v := .ref aR_cells) (C := RX7) (T := TX7) (N := 34) hx hb htg giX7 hown hK hP 0 rfl rfl 3 (by decide) (htg _ kw_566) (fun _ h9 => h9) rfl dX7_pattern_37 ?_
          refine lv_iconst (v := (3 : Int32)) hx hb dX7_pattern_40 (by decide) ?_
          refine lv_aload_n hx hb dX7_pattern_41 rfl (lv_at hl 0 rfl) ?_
          refine va_get (D := D) (ci := 7) (v := .int R_patterns) (C := RX7) (T := TX7) (N := 34) hx hb htg giX7 hown hK hP 0 rfl rfl 2 (by decide) (htg _ kw_565) (fun _ h9 => h9) rfl dX7_pattern_42 ?_
          refine lv_imul hx hb dX7_pattern_45 ?_
          refine lv_iload_n hx hb dX7_pattern_46 rfl (lv_at hl 1 rfl) ?_
          have g_8 : vp_in ((3 : Int32) * R_patterns) 24 := gd_in hf
          have hf := gd_el hf
          refine x_iast hx hb hK hP hD hS 1 0 rfl rfl g_8 dX7_pattern_47 (fun R_cells_9 eR_cells_9 H locs hP hD hS => ?_)
          have hf := nm_nm eR_cells_9 hf
          have hP : va_P D vwCl [(aR, .inr (7, [.int R_triples, .ref aR_facts, .int R_patterns, .ref aR_cells, .ref aR_told, .ref aR_of, .ref aR_hints, .int R_filters, .ref aR_looks, .ref aR_kinds, .ref aR_values, .ref aR_isSafe, .ref aR_sizes, .ref aR_spreads, .ref aR_isSeen, .ref aR_estimates, .ref aR_rest, .int R_steps, .ref aR_order, .ref aR_joins, .ref aR_actsBehind, .ref aR_upTo, .int R_filtersThen, .ref aR_behind, .int R_rows, .ref aR_row, .ref aR_found, .int R_comes, .ref aR_next, .ref aR_nextFound, .int R_kept, .int R_hasRoom, .ref aR_keep, .ref aR_isTaken])), (aR_cells, .inl (cI, 24, .inl R_cells_9)), (aR_told, .inl (cI, 8, .inl R_told)), (aR_of, .inl (cI, 8, .inl R_of))] H := hP
          have hD : va_D A [(aR, .inr (7, [.int R_triples, .ref aR_facts, .int R_patterns, .ref aR_cells, .ref aR_told, .ref aR_of, .ref aR_hints, .int R_filters, .ref aR_looks, .ref aR_kinds, .ref aR_values, .ref aR_isSafe, .ref aR_sizes, .ref aR_spreads, .ref aR_isSeen, .ref aR_estimates, .ref aR_rest, .int R_steps, .ref aR_order, .ref aR_joins, .ref aR_actsBehind, .ref aR_upTo, .int R_filtersThen, .ref aR_behind, .int R_rows, .ref aR_row, .ref aR_found, .int R_comes, .ref aR_next, .ref aR_nextFound, .int R_kept, .int R_hasRoom, .ref aR_keep, .ref aR_isTaken])), (aR_cells, .inl (cI, 24, .inl R_cells_9)), (aR_told, .inl (cI, 8, .inl R_told)), (aR_of, .inl (cI, 8, .inl R_of))] := hD
          refine lv_aload_n hx hb dX7_pattern_48 rfl (lv_at hl 0 rfl) ?_
          refine va_get (D := D) (ci := 7) (v := .ref aR_cells) (C := RX7) (T := TX7) (N := 34) hx hb htg giX7 hown hK hP 0 rfl rfl 3 (by decide) (htg _ kw_566) (fun _ h9 => h9) rfl dX7_pattern_49 ?_
          refine lv_iconst (v := (3 : Int32)) hx hb dX7_pattern_52 (by decide) ?_
          refine lv_aload_n hx hb dX7_pattern_53 rfl (lv_at hl 0 rfl) ?_
          refine va_get (D := D) (ci := 7) (v := .int R_patterns) (C := RX7) (T := TX7) (N := 34) hx hb htg giX7 hown hK hP 0 rfl rfl 2 (by decide) (htg _ kw_565) (fun _ h9 => h9) rfl dX7_pattern_54 ?_
          refine lv_imul hx hb dX7_pattern_57 ?_
          refine lv_iconst (v := (1 : Int32)) hx hb dX7_pattern_58 (by decide) ?_
          refine lv_iadd hx hb dX7_pattern_59 ?_
          refine lv_iload_n hx hb dX7_pattern_60 rfl (lv_at hl 2 rfl) ?_
          have g_10 : vp_in (((3 : Int32) * R_patterns) + (1 : Int32)) 24 := gd_in hf
          have hf := gd_el hf
          refine x_iast hx hb hK hP hD hS 1 0 rfl rfl g_10 dX7_pattern_61 (fun R_cells_11 eR_cells_11 H locs hP hD hS => ?_)
          have hf := nm_nm eR_cells_11 hf
          have hP : va_P D vwCl [(aR, .inr (7, [.int R_triples, .ref aR_facts, .int R_patterns, .ref aR_cells, .ref aR_told, .ref aR_of, .ref aR_hints, .int R_filters, .ref aR_looks, .ref aR_kinds, .ref aR_values, .ref aR_isSafe, .ref aR_sizes, .ref aR_spreads, .ref aR_isSeen, .ref aR_estimates, .ref aR_rest, .int R_steps, .ref aR_order, .ref aR_joins, .ref aR_actsBehind, .ref aR_upTo, .int R_filtersThen, .ref aR_behind, .int R_rows, .ref aR_row, .ref aR_found, .int R_comes, .ref aR_next, .ref aR_nextFound, .int R_kept, .int R_hasRoom, .ref aR_keep, .ref aR_isTaken])), (aR_cells, .inl (cI, 24, .inl R_cells_11)), (aR_told, .inl (cI, 8, .inl R_told)), (aR_of, .inl (cI, 8, .inl R_of))] H := hP
          have hD : va_D A [(aR, .inr (7, [.int R_triples, .ref aR_facts, .int R_patterns, .ref aR_cells, .ref aR_told, .ref aR_of, .ref aR_hints, .int R_filters, .ref aR_looks, .ref aR_kinds, .ref aR_values, .ref aR_isSafe, .ref aR_sizes, .ref aR_spreads, .ref aR_isSeen, .ref aR_estimates, .ref aR_rest, .int R_steps, .ref aR_order, .ref aR_joins, .ref aR_actsBehind, .ref aR_upTo, .int R_filtersThen, .ref aR_behind, .int R_rows, .ref aR_row, .ref aR_found, .int R_comes, .ref aR_next, .ref aR_nextFound, .int R_kept, .int R_hasRoom, .ref aR_keep, .ref aR_isTaken])), (aR_cells, .inl (cI, 24, .inl R_cells_11)), (aR_told, .inl (cI, 8, .inl R_told)), (aR_of, .inl (cI, 8, .inl R_of))] := hD
          refine lv_aload_n hx hb dX7_pattern_62 rfl (lv_at hl 0 rfl) ?_
          refine va_get (D := D) (ci := 7) (v := .ref aR_cells) (C := RX7) (T := TX7) (N := 34) hx hb htg giX7 hown hK hP 0 rfl rfl 3 (by decide) (htg _ kw_566) (fun _ h9 => h9) rfl dX7_pattern_63 ?_
          refine lv_iconst (v := (3 : Int32)) hx hb dX7_pattern_66 (by decide) ?_
          refine lv_aload_n hx hb dX7_pattern_67 rfl (lv_at hl 0 rfl) ?_
          refine va_get (D := D) (ci := 7) (v := .int R_patterns) (C := RX7) (T := TX7) (N := 34) hx hb htg giX7 hown hK hP 0 rfl rfl 2 (by decide) (htg _ kw_565) (fun _ h9 => h9) rfl dX7_pattern_68 ?_
          refine lv_imul hx hb dX7_pattern_71 ?_
          refine lv_iconst (v := (2 : Int32)) hx hb dX7_pattern_72 (by decide) ?_
          refine lv_iadd hx hb dX7_pattern_73 ?_
          refine lv_iload_n hx hb dX7_pattern_74 rfl (lv_at hl 3 rfl) ?_
          have g_12 : vp_in (((3 : Int32) * R_patterns) + (2 : Int32)) 24 := gd_in hf
          have hf := gd_el hf
          refine x_iast hx hb hK hP hD hS 1 0 rfl rfl g_12 dX7_pattern_75 (fun R_cells_13 eR_cells_13 H locs hP hD hS => ?_)
          have hf := nm_nm eR_cells_13 hf
          have hP : va_P D vwCl [(aR, .inr (7, [.int R_triples, .ref aR_facts, .int R_patterns, .ref aR_cells, .ref aR_told, .ref aR_of, .ref aR_hints, .int R_filters, .ref aR_looks, .ref aR_kinds, .ref aR_values, .ref aR_isSafe, .ref aR_sizes, .ref aR_spreads, .ref aR_isSeen, .ref aR_estimates, .ref aR_rest, .int R_steps, .ref aR_order, .ref aR_joins, .ref aR_actsBehind, .ref aR_upTo, .int R_filtersThen, .ref aR_behind, .int R_rows, .ref aR_row, .ref aR_found, .int R_comes, .ref aR_next, .ref aR_nextFound, .int R_kept, .int R_hasRoom, .ref aR_keep, .ref aR_isTaken])), (aR_cells, .inl (cI, 24, .inl R_cells_13)), (aR_told, .inl (cI, 8, .inl R_told)), (aR_of, .inl (cI, 8, .inl R_of))] H := hP
          have hD : va_D A [(aR, .inr (7, [.int R_triples, .ref aR_facts, .int R_patterns, .ref aR_cells, .ref aR_told, .ref aR_of, .ref aR_hints, .int R_filters, .ref aR_looks, .ref aR_kinds, .ref aR_values, .ref aR_isSafe, .ref aR_sizes, .ref aR_spreads, .ref aR_isSeen, .ref aR_estimates, .ref aR_rest, .int R_steps, .ref aR_order, .ref aR_joins, .ref aR_actsBehind, .ref aR_upTo, .int R_filtersThen, .ref aR_behind, .int R_rows, .ref aR_row, .ref aR_found, .int R_comes, .ref aR_next, .ref aR_nextFound, .int R_kept, .int R_hasRoom, .ref aR_keep, .ref aR_isTaken])), (aR_cells, .inl (cI, 24, .inl R_cells_13)), (aR_told, .inl (cI, 8, .inl R_told)), (aR_of, .inl (cI, 8, .inl R_of))] := hD
          refine lv_aload_n hx hb dX7_pattern_76 rfl (lv_at hl 0 rfl) ?_
          refine va_get (D := D) (ci := 7) (v := .ref aR_told) (C := RX7) (T := TX7) (N := 34) hx hb htg giX7 hown hK hP 0 rfl rfl 4 (by decide) (htg _ kw_567) (fun _ h9 => h9) rfl dX7_pattern_77 ?_
          refine lv_aload_n hx hb dX7_pattern_80 rfl (lv_at hl 0 rfl) ?_
          refine va_get (D := D) (ci := 7) (v := .int R_patterns) (C := RX7) (T := TX7) (N := 34) hx hb htg giX7 hown hK hP 0 rfl rfl 2 (by decide) (htg _ kw_565) (fun _ h9 => h9) rfl dX7_pattern_81 ?_
          refine lv_iconst (v := (-1 : Int32)) hx hb dX7_pattern_84 (by decide) ?_
          have g_14 : vp_in R_patterns 8 := gd_in hf
          have hf := gd_el hf
          refine x_iast hx hb hK hP hD hS 2 0 rfl rfl g_14 dX7_pattern_85 (fun R_told_15 eR_told_15 H locs hP hD hS => ?_)
          have hf := nm_nm eR_told_15 hf
          have hP : va_P D vwCl [(aR, .inr (7, [.int R_triples, .ref aR_facts, .int R_patterns, .ref aR_cells, .ref aR_told, .ref aR_of, .ref aR_hints, .int R_filters, .ref aR_looks, .ref aR_kinds, .ref aR_values, .ref aR_isSafe, .ref aR_sizes, .ref aR_spreads, .ref aR_isSeen, .ref aR_estimates, .ref aR_rest, .int R_steps, .ref aR_order, .ref aR_joins, .ref aR_actsBehind, .ref aR_upTo, .int R_filtersThen, .ref aR_behind, .int R_rows, .ref aR_row, .ref aR_found, .int R_comes, .ref aR_next, .ref aR_nextFound, .int R_kept, .int R_hasRoom, .ref aR_keep, .ref aR_isTaken])), (aR_cells, .inl (cI, 24, .inl R_cells_13)), (aR_told, .inl (cI, 8, .inl R_told_15)), (aR_of, .inl (cI, 8, .inl R_of))] H := hP
          have hD : va_D A [(aR, .inr (7, [.int R_triples, .ref aR_facts, .int R_patterns, .ref aR_cells, .ref aR_told, .ref aR_of, .ref aR_hints, .int R_filters, .ref aR_looks, .ref aR_kinds, .ref aR_values, .ref aR_isSafe, .ref aR_sizes, .ref aR_spreads, .ref aR_isSeen, .ref aR_estimates, .ref aR_rest, .int R_steps, .ref aR_order, .ref aR_joins, .ref aR_actsBehind, .ref aR_upTo, .int R_filtersThen, .ref aR_behind, .int R_rows, .ref aR_row, .ref aR_found, .int R_comes, .ref aR_next, .ref aR_nextFound, .int R_kept, .int R_hasRoom, .ref aR_keep, .ref aR_isTaken])), (aR_cells, .inl (cI, 24, .inl R_cells_13)), (aR_told, .inl (cI, 8, .inl R_told_15)), (aR_of, .inl (cI, 8, .inl R_of))] := hD
          refine lv_aload_n hx hb dX7_pattern_86 rfl (lv_at hl 0 rfl) ?_
          refine va_get (D := D) (ci := 7) (v := .ref aR_of) (C := RX7) (T := TX7) (N := 34) hx hb htg giX7 hown hK hP 0 rfl rfl 5 (by decide) (htg _ kw_568) (fun _ h9 => h9) rfl dX7_pattern_87 ?_
          refine lv_aload_n hx hb dX7_pattern_90 rfl (lv_at hl 0 rfl) ?_
          refine va_get (D := D) (ci := 7) (v := .int R_patterns) (C := RX7) (T := TX7) (N := 34) hx hb htg giX7 hown hK hP 0 rfl rfl 2 (by decide) (htg _ kw_565) (fun _ h9 => h9) rfl dX7_pattern_91 ?_
          refine lv_iconst (v := (-1 : Int32)) hx hb dX7_pattern_94 (by decide) ?_
          refine x_iast hx hb hK hP hD hS 3 0 rfl rfl g_14 dX7_pattern_95 (fun R_of_16 eR_of_16 H locs hP hD hS => ?_)
          have hf := nm_nm eR_of_16 hf
          have hP : va_P D vwCl [(aR, .inr (7, [.int R_triples, .ref aR_facts, .int R_patterns, .ref aR_cells, .ref aR_told, .ref aR_of, .ref aR_hints, .int R_filters, .ref aR_looks, .ref aR_kinds, .ref aR_values, .ref aR_isSafe, .ref aR_sizes, .ref aR_spreads, .ref aR_isSeen, .ref aR_estimates, .ref aR_rest, .int R_steps, .ref aR_order, .ref aR_joins, .ref aR_actsBehind, .ref aR_upTo, .int R_filtersThen, .ref aR_behind, .int R_rows, .ref aR_row, .ref aR_found, .int R_comes, .ref aR_next, .ref aR_nextFound, .int R_kept, .int R_hasRoom, .ref aR_keep, .ref aR_isTaken])), (aR_cells, .inl (cI, 24, .inl R_cells_13)), (aR_told, .inl (cI, 8, .inl R_told_15)), (aR_of, .inl (cI, 8, .inl R_of_16))] H := hP
          have hD : va_D A [(aR, .inr (7, [.int R_triples, .ref aR_facts, .int R_patterns, .ref aR_cells, .ref aR_told, .ref aR_of, .ref aR_hints, .int R_filters, .ref aR_looks, .ref aR_kinds, .ref aR_values, .ref aR_isSafe, .ref aR_sizes, .ref aR_spreads, .ref aR_isSeen, .ref aR_estimates, .ref aR_rest, .int R_steps, .ref aR_order, .ref aR_joins, .ref aR_actsBehind, .ref aR_upTo, .int R_filtersThen, .ref aR_behind, .int R_rows, .ref aR_row, .ref aR_found, .int R_comes, .ref aR_next, .ref aR_nextFound, .int R_kept, .int R_hasRoom, .ref aR_keep, .ref aR_isTaken])), (aR_cells, .inl (cI, 24, .inl R_cells_13)), (aR_told, .inl (cI, 8, .inl R_told_15)), (aR_of, .inl (cI, 8, .inl R_of_16))] := hD
          refine lv_aload_n hx hb dX7_pattern_96 rfl (lv_at hl 0 rfl) ?_
          refine lv_dup hx hb dX7_pattern_97 rfl ?_
          refine va_get (D := D) (ci := 7) (v := .int R_patterns) (C := RX7) (T := TX7) (N := 34) hx hb htg giX7 hown hK hP 0 rfl rfl 2 (by decide) (htg _ kw_565) (fun _ h9 => h9) rfl dX7_pattern_98 ?_
          refine lv_iconst (v := (1 : Int32)) hx hb dX7_pattern_101 (by decide) ?_
          refine lv_iadd hx hb dX7_pattern_102 ?_
          refine lv_topi (fun v_17 ev_17 => ?_)
          have hf := nm_nm ev_17 hf
          refine va_put (D := D) (ci := 7) (v := .int v_17) (ty := .int) (C := RX7) (T := TX7) (N := 34) hx hb htg giX7 tyX7 tyX7_ok nmX7 hown hK hP hD hS 0 rfl rfl 2 (by decide) (htg _ kw_565) (fun _ h9 => h9) rfl (by decide +kernel) rfl rfl (Nat.le_of_ble_eq_true rfl) dX7_pattern_103 (fun H locs hP hD hS => ?_)
          have hP : va_P D vwCl [(aR, .inr (7, [.int R_triples, .ref aR_facts, .int v_17, .ref aR_cells, .ref aR_told, .ref aR_of, .ref aR_hints, .int R_filters, .ref aR_looks, .ref aR_kinds, .ref aR_values, .ref aR_isSafe, .ref aR_sizes, .ref aR_spreads, .ref aR_isSeen, .ref aR_estimates, .ref aR_rest, .int R_steps, .ref aR_order, .ref aR_joins, .ref aR_actsBehind, .ref aR_upTo, .int R_filtersThen, .ref aR_behind, .int R_rows, .ref aR_row, .ref aR_found, .int R_comes, .ref aR_next, .ref aR_nextFound, .int R_kept, .int R_hasRoom, .ref aR_keep, .ref aR_isTaken])), (aR_cells, .inl (cI, 24, .inl R_cells_13)), (aR_told, .inl (cI, 8, .inl R_told_15)), (aR_of, .inl (cI, 8, .inl R_of_16))] H := hP
          have hD : va_D A [(aR, .inr (7, [.int R_triples, .ref aR_facts, .int v_17, .ref aR_cells, .ref aR_told, .ref aR_of, .ref aR_hints, .int R_filters, .ref aR_looks, .ref aR_kinds, .ref aR_values, .ref aR_isSafe, .ref aR_sizes, .ref aR_spreads, .ref aR_isSeen, .ref aR_estimates, .ref aR_rest, .int R_steps, .ref aR_order, .ref aR_joins, .ref aR_actsBehind, .ref aR_upTo, .int R_filtersThen, .ref aR_behind, .int R_rows, .ref aR_row, .ref aR_found, .int R_comes, .ref aR_next, .ref aR_nextFound, .int R_kept, .int R_hasRoom, .ref aR_keep, .ref aR_isTaken])), (aR_cells, .inl (cI, 24, .inl R_cells_13)), (aR_told, .inl (cI, 8, .inl R_told_15)), (aR_of, .inl (cI, 8, .inl R_of_16))] := hD
          refine lv_aload_n hx hb dX7_pattern_106 rfl (lv_at hl 0 rfl) ?_
          refine va_get (D := D) (ci := 7) (v := .int v_17) (C := RX7) (T := TX7) (N := 34) hx hb htg giX7 hown hK hP 0 rfl rfl 2 (by decide) (htg _ kw_565) (fun _ h9 => h9) rfl dX7_pattern_107 ?_
          refine lv_iconst (v := (1 : Int32)) hx hb dX7_pattern_110 (by decide) ?_
          refine lv_isub hx hb dX7_pattern_111 ?_
          have hf := Option.some.inj hf
          cases hf
          exact x_iret (fun _ => 0) hQ hx hb hr hlk hK hP hD hS dX7_pattern_112
        · have hf := xb_t c_7 hf
          refine lv_bipush (v := (-4 : Int32)) hx hb dX7_pattern_33 (by decide) ?_
          have hf := Option.some.inj hf
          cases hf
          exact x_iret (fun _ => 0) hQ hx hb hr hlk hK hP hD hS dX7_pattern_35
      · have hf := xb_t c_6 hf
        refine lv_bipush (v := (-2 : Int32)) hx hb dX7_pattern_21 (by decide) ?_
        have hf := Option.some.inj hf
        cases hf
        exact x_iret (fun _ => 0) hQ hx hb hr hlk hK hP hD hS dX7_pattern_23
abbrev rm_f_Patterns_has : Room := { frames := 0, cells := 0, slots := 0, locals := 0 }
set_option maxHeartbeats 4000000 in
set_option maxRecDepth 100000 in
theorem c_f_Patterns_has (l : Launch) (D : va_G) (cI cJ cZ : ClassId) (sz : Nat) (aP : Nat) (x1 : Int32) (aP_slots : Nat) (aP_termsSeen : Nat) (aP_matches : Nat) (aP_matchCount : Nat) (aP_variables : Nat) (aP_havingVariable : Nat) (aP_told : Nat) (aP_parent : Nat) (aP_allBefore : Nat) (P_required : Int32) (P_hinted : Int32) (P_count : Int32) {r : Int32} (hf : f_Patterns_has x1 P_count = r) : Met l yX2_has (.code yX2_has cX2_has 2 (some .boolean) :: GW) rm_f_Patterns_has (va_Pc [.ref aP, .int x1] (xP D (xT cI cJ cZ) sz [(aP, .inr (2, [.ref aP_slots, .ref aP_termsSeen, .ref aP_matches, .ref aP_matchCount, .ref aP_variables, .ref aP_havingVariable, .ref aP_told, .ref aP_parent, .ref aP_allBefore, .int P_required, .int P_hinted, .int P_count]))])) (va_Qi (fun r2 (_ : Nat → Nat) => r2 = r ∧ (r = 0 ∨ r = 1)) (bB D (xT cI cJ cZ) (fun _ => [(aP, .inr (2, [.ref aP_slots, .ref aP_termsSeen, .ref aP_matches, .ref aP_matchCount, .ref aP_variables, .ref aP_havingVariable, .ref aP_told, .ref aP_parent, .ref aP_allBefore, .int P_required, .int P_hinted, .int P_count]))]) (va_A [(aP, .inr (2, [.ref aP_slots, .ref aP_termsSeen, .ref aP_matches, .ref aP_matchCount, .ref aP_variables, .ref aP_havingVariable, .ref aP_told, .ref aP_parent, .ref aP_allBefore, .int P_required, .int P_hinted, .int P_count]))] sz)) (va_A [(aP, .inr (2, [.ref aP_slots, .ref aP_termsSeen, .ref aP_matches, .ref aP_matchCount, .ref aP_variables, .ref aP_havingVariable, .ref aP_told, .ref aP_parent, .ref aP_allBefore, .int P_required, .int P_hinted, .int P_count]))] sz)) 0 0 (va_A [(aP, .inr (2, [.ref aP_slots, .ref aP_termsSeen, .ref aP_matches, .ref aP_matchCount, .ref aP_variables, .ref aP_havingVariable, .ref aP_told, .ref aP_parent, .ref aP_allBefore, .int P_required, .int P_hinted, .int P_count]))] sz) := by
  refine con_start (Qc := fun A => va_Qi (fun r2 (_ : Nat → Nat) => r2 = r ∧ (r = 0 ∨ r = 1)) (bB D (xT cI cJ cZ) (fun _ => [(aP, .inr (2, [.ref aP_slots, .ref aP_termsSeen, .ref aP_matches, .ref aP_matchCount, .ref aP_variables, .ref aP_havingVariable, .ref aP_told, .ref aP_parent, .ref aP_allBefore, .int P_required, .int P_hinted, .int P_count]))]) A) A) (by decide) (Nat.le_of_ble_eq_true rfl) ?_
  intro p e s m args below meth c Q A hx hb hr hlk hml hown hin htg hN hK hQ hA hP hD hS ls hl
  have hl : lv_has ls 2 [(0, .ref aP), (1, .int x1)] := hl
  have hown : s.vm.findClass RX2 = some m.cls := hown
  have hf := (f_Patterns_has_u x1 P_count).symm.trans hf
  refine lv_iload_n hx hb dX2_has_0 rfl (lv_at hl 1 rfl) ?_
  refine lv_if_lt (tgt := 16) hx hb dX2_has_1 (by decide) (fun c_1 => ?_) (fun c_1 => ?_)
  · have hf := xb_t c_1 hf
    refine lv_iconst (v := (0 : Int32)) hx hb dX2_has_16 (by decide) ?_
    have hf := hf
    cases hf
    exact x_zret (fun _ => 0) hQ hx hb hr hlk (by decide) hK hP hD hS dX2_has_17
  · have hf := xb_f c_1 hf
    refine lv_iload_n hx hb dX2_has_4 rfl (lv_at hl 1 rfl) ?_
    refine lv_aload_n hx hb dX2_has_5 rfl (lv_at hl 0 rfl) ?_
    refine va_get (D := D) (ci := 2) (v := .int P_count) (C := RX2) (T := TX2) (N := 12) hx hb htg giX2 hown hK hP 0 rfl rfl 11 (by decide) (htg _ kw_62) (fun _ h9 => h9) rfl dX2_has_6 ?_
    refine lv_icmp_ge (tgt := 16) hx hb dX2_has_9 (by decide) (fun c_2 => ?_) (fun c_2 => ?_)
    · have hf := xb_t c_2 hf
      refine lv_iconst (v := (0 : Int32)) hx hb dX2_has_16 (by decide) ?_
      have hf := hf
      cases hf
      exact x_zret (fun _ => 0) hQ hx hb hr hlk (by decide) hK hP hD hS dX2_has_17
    · have hf := xb_f c_2 hf
      refine lv_iconst (v := (1 : Int32)) hx hb dX2_has_12 (by decide) ?_
      refine lv_goto (tgt := 17) hx hb dX2_has_13 (by decide) ?_
      have hf := hf
      cases hf
      exact x_zret (fun _ => 0) hQ hx hb hr hlk (by decide) hK hP hD hS dX2_has_17
abbrev rm_f_JoinOrder_inSet : Room := { frames := 0, cells := 0, slots := 0, locals := 0 }
set_option maxHeartbeats 4000000 in
set_option maxRecDepth 100000 in
theorem c_f_JoinOrder_inSet (l : Launch) (D : va_G) (cI cJ cZ : ClassId) (sz : Nat) (x0 : Int32) (x1 : Int32) {r : Int32} (hf : f_JoinOrder_inSet x0 x1 = r) : Met l yX0_inSet (.code yX0_inSet cX0_inSet 2 (some .boolean) :: GW) rm_f_JoinOrder_inSet (va_Pc [.int x0, .int x1] (xP D (xT cI cJ cZ) sz [])) (va_Qi (fun r2 (_ : Nat → Nat) => r2 = r ∧ (r = 0 ∨ r = 1)) (bB D (xT cI cJ cZ) (fun _ => []) (va_A [] sz)) (va_A [] sz)) 0 0 (va_A [] sz) := by
  refine con_start (Qc := fun A => va_Qi (fun r2 (_ : Nat → Nat) => r2 = r ∧ (r = 0 ∨ r = 1)) (bB D (xT cI cJ cZ) (fun _ => []) A) A) (by decide) (Nat.le_of_ble_eq_true rfl) ?_
  intro p e s m args below meth c Q A hx hb hr hlk hml hown hin htg hN hK hQ hA hP hD hS ls hl
  have hl : lv_has ls 2 [(0, .int x0), (1, .int x1)] := hl
  have hown : s.vm.findClass RX0 = some m.cls := hown
  have hf := (f_JoinOrder_inSet_u x0 x1).symm.trans hf
  refine lv_iload_n hx hb dX0_inSet_0 rfl (lv_at hl 0 rfl) ?_
  refine lv_iload_n hx hb dX0_inSet_1 rfl (lv_at hl 1 rfl) ?_
  refine lv_ishr hx hb dX0_inSet_2 ?_
  refine lv_iconst (v := (1 : Int32)) hx hb dX0_inSet_3 (by decide) ?_
  refine lv_iand hx hb dX0_inSet_4 ?_
  refine lv_if_eq (tgt := 12) hx hb dX0_inSet_5 (by decide) (fun c_1 => ?_) (fun c_1 => ?_)
  · have hf := xb_t c_1 hf
    refine lv_iconst (v := (0 : Int32)) hx hb dX0_inSet_12 (by decide) ?_
    have hf := hf
    cases hf
    exact x_zret (fun _ => 0) hQ hx hb hr hlk (by decide) hK hP hD hS dX0_inSet_13
  · have hf := xb_f c_1 hf
    refine lv_iconst (v := (1 : Int32)) hx hb dX0_inSet_8 (by decide) ?_
    refine lv_goto (tgt := 13) hx hb dX0_inSet_9 (by decide) ?_
    have hf := hf
    cases hf
    exact x_zret (fun _ => 0) hQ hx hb hr hlk (by decide) hK hP hD hS dX0_inSet_13
abbrev rm_f_Patterns_isRequired : Room := { frames := 1, cells := 0, slots := 0, locals := 21 }
set_option maxHeartbeats 4000000 in
set_option maxRecDepth 100000 in
theorem c_f_Patterns_isRequired (l : Launch) (D : va_G) (cI cJ cZ : ClassId) (sz : Nat) (aP : Nat) (x1 : Int32) (aP_slots : Nat) (aP_termsSeen : Nat) (aP_matches : Nat) (aP_matchCount : Nat) (aP_variables : Nat) (aP_havingVariable : Nat) (aP_told : Nat) (aP_parent : Nat) (aP_allBefore : Nat) (P_required : Int32) (P_hinted : Int32) (P_count : Int32) {r : Int32} (hf : f_Patterns_isRequired x1 P_required = r) : Met l yX2_isRequired (.code yX2_isRequired cX2_isRequired 2 (some .boolean) :: GW) rm_f_Patterns_isRequired (va_Pc [.ref aP, .int x1] (xP D (xT cI cJ cZ) sz [(aP, .inr (2, [.ref aP_slots, .ref aP_termsSeen, .ref aP_matches, .ref aP_matchCount, .ref aP_variables, .ref aP_havingVariable, .ref aP_told, .ref aP_parent, .ref aP_allBefore, .int P_required, .int P_hinted, .int P_count]))])) (va_Qi (fun r2 (_ : Nat → Nat) => r2 = r ∧ (r = 0 ∨ r = 1)) (bB D (xT cI cJ cZ) (fun _ => [(aP, .inr (2, [.ref aP_slots, .ref aP_termsSeen, .ref aP_matches, .ref aP_matchCount, .ref aP_variables, .ref aP_havingVariable, .ref aP_told, .ref aP_parent, .ref aP_allBefore, .int P_required, .int P_hinted, .int P_count]))]) (va_A [(aP, .inr (2, [.ref aP_slots, .ref aP_termsSeen, .ref aP_matches, .ref aP_matchCount, .ref aP_variables, .ref aP_havingVariable, .ref aP_told, .ref aP_parent, .ref aP_allBefore, .int P_required, .int P_hinted, .int P_count]))] sz)) (va_A [(aP, .inr (2, [.ref aP_slots, .ref aP_termsSeen, .ref aP_matches, .ref aP_matchCount, .ref aP_variables, .ref aP_havingVariable, .ref aP_told, .ref aP_parent, .ref aP_allBefore, .int P_required, .int P_hinted, .int P_count]))] sz)) 0 0 (va_A [(aP, .inr (2, [.ref aP_slots, .ref aP_termsSeen, .ref aP_matches, .ref aP_matchCount, .ref aP_variables, .ref aP_havingVariable, .ref aP_told, .ref aP_parent, .ref aP_allBefore, .int P_required, .int P_hinted, .int P_count]))] sz) := by
  refine con_start (Qc := fun A => va_Qi (fun r2 (_ : Nat → Nat) => r2 = r ∧ (r = 0 ∨ r = 1)) (bB D (xT cI cJ cZ) (fun _ => [(aP, .inr (2, [.ref aP_slots, .ref aP_termsSeen, .ref aP_matches, .ref aP_matchCount, .ref aP_variables, .ref aP_havingVariable, .ref aP_told, .ref aP_parent, .ref aP_allBefore, .int P_required, .int P_hinted, .int P_count]))]) A) A) (by decide) (Nat.le_of_ble_eq_true rfl) ?_
  intro p e s m args below meth c Q A hx hb hr hlk hml hown hin htg hN hK hQ hA hP hD hS ls hl
  have hl : lv_has ls 2 [(0, .ref aP), (1, .int x1)] := hl
  have hown : s.vm.findClass RX2 = some m.cls := hown
  have hf := (f_Patterns_isRequired_u x1 P_required).symm.trans hf
  refine lv_aload_n hx hb dX2_isRequired_0 rfl (lv_at hl 0 rfl) ?_
  refine va_get (D := D) (ci := 2) (v := .int P_required) (C := RX2) (T := TX2) (N := 12) hx hb htg giX2 hown hK hP 0 rfl rfl 9 (by decide) (htg _ kw_60) (fun _ h9 => h9) rfl dX2_isRequired_1 ?_
  refine lv_iload_n hx hb dX2_isRequired_4 rfl (lv_at hl 1 rfl) ?_
  refine x_z (xrSN (As := [.int P_required, .int x1]) (rest := []) ⟨hx, hb, hml, hown, htg⟩ (c_f_JoinOrder_inSet l D cI cJ cZ _ P_required x1 rfl) kc_f_JoinOrder_inSet kn_305 kw_306 kw_1 dd_f_JoinOrder_inSet ⟨Nat.le_of_ble_eq_true rfl, Nat.le_of_ble_eq_true rfl⟩ rfl rfl (hP.sub [] rfl) (hD.sub [] (by decide) rfl) hK hN rfl hl.1 rfl (Nat.le_of_ble_eq_true rfl) dX2_isRequired_5 ⟨Nat.le_of_ble_eq_true rfl, Nat.le_of_ble_eq_true rfl⟩) hP hD hS hA [] [0] rfl rfl (by decide) (by decide) (fun _ H locs bz_1 hP hD hS => ?_)
  have hP : va_P D vwCl [(aP, .inr (2, [.ref aP_slots, .ref aP_termsSeen, .ref aP_matches, .ref aP_matchCount, .ref aP_variables, .ref aP_havingVariable, .ref aP_told, .ref aP_parent, .ref aP_allBefore, .int P_required, .int P_hinted, .int P_count]))] H := hP
  have hD : va_D A [(aP, .inr (2, [.ref aP_slots, .ref aP_termsSeen, .ref aP_matches, .ref aP_matchCount, .ref aP_variables, .ref aP_havingVariable, .ref aP_told, .ref aP_parent, .ref aP_allBefore, .int P_required, .int P_hinted, .int P_count]))] := hD
  have hf := hf
  cases hf
  exact x_zret (fun _ => 0) hQ hx hb hr hlk bz_1 hK hP hD hS dX2_isRequired_8
abbrev rm_f_Patterns_isHinted : Room := { frames := 1, cells := 0, slots := 0, locals := 21 }
set_option maxHeartbeats 4000000 in
set_option maxRecDepth 100000 in
theorem c_f_Patterns_isHinted (l : Launch) (D : va_G) (cI cJ cZ : ClassId) (sz : Nat) (aP : Nat) (x1 : Int32) (aP_slots : Nat) (aP_termsSeen : Nat) (aP_matches : Nat) (aP_matchCount : Nat) (aP_variables : Nat) (aP_havingVariable : Nat) (aP_told : Nat) (aP_parent : Nat) (aP_allBefore : Nat) (P_required : Int32) (P_hinted : Int32) (P_count : Int32) {r : Int32} (hf : f_Patterns_isHinted x1 P_hinted = r) : Met l yX2_isHinted (.code yX2_isHinted cX2_isHinted 2 (some .boolean) :: GW) rm_f_Patterns_isHinted (va_Pc [.ref aP, .int x1] (xP D (xT cI cJ cZ) sz [(aP, .inr (2, [.ref aP_slots, .ref aP_termsSeen, .ref aP_matches, .ref aP_matchCount, .ref aP_variables, .ref aP_havingVariable, .ref aP_told, .ref aP_parent, .ref aP_allBefore, .int P_required, .int P_hinted, .int P_count]))])) (va_Qi (fun r2 (_ : Nat → Nat) => r2 = r ∧ (r = 0 ∨ r = 1)) (bB D (xT cI cJ cZ) (fun _ => [(aP, .inr (2, [.ref aP_slots, .ref aP_termsSeen, .ref aP_matches, .ref aP_matchCount, .ref aP_variables, .ref aP_havingVariable, .ref aP_told, .ref aP_parent, .ref aP_allBefore, .int P_required, .int P_hinted, .int P_count]))]) (va_A [(aP, .inr (2, [.ref aP_slots, .ref aP_termsSeen, .ref aP_matches, .ref aP_matchCount, .ref aP_variables, .ref aP_havingVariable, .ref aP_told, .ref aP_parent, .ref aP_allBefore, .int P_required, .int P_hinted, .int P_count]))] sz)) (va_A [(aP, .inr (2, [.ref aP_slots, .ref aP_termsSeen, .ref aP_matches, .ref aP_matchCount, .ref aP_variables, .ref aP_havingVariable, .ref aP_told, .ref aP_parent, .ref aP_allBefore, .int P_required, .int P_hinted, .int P_count]))] sz)) 0 0 (va_A [(aP, .inr (2, [.ref aP_slots, .ref aP_termsSeen, .ref aP_matches, .ref aP_matchCount, .ref aP_variables, .ref aP_havingVariable, .ref aP_told, .ref aP_parent, .ref aP_allBefore, .int P_required, .int P_hinted, .int P_count]))] sz) := by
  refine con_start (Qc := fun A => va_Qi (fun r2 (_ : Nat → Nat) => r2 = r ∧ (r = 0 ∨ r = 1)) (bB D (xT cI cJ cZ) (fun _ => [(aP, .inr (2, [.ref aP_slots, .ref aP_termsSeen, .ref aP_matches, .ref aP_matchCount, .ref aP_variables, .ref aP_havingVariable, .ref aP_told, .ref aP_parent, .ref aP_allBefore, .int P_required, .int P_hinted, .int P_count]))]) A) A) (by decide) (Nat.le_of_ble_eq_true rfl) ?_
  intro p e s m args below meth c Q A hx hb hr hlk hml hown hin htg hN hK hQ hA hP hD hS ls hl
  have hl : lv_has ls 2 [(0, .ref aP), (1, .int x1)] := hl
  have hown : s.vm.findClass RX2 = some m.cls := hown
  have hf := (f_Patterns_isHinted_u x1 P_hinted).symm.trans hf
  refine lv_aload_n hx hb dX2_isHinted_0 rfl (lv_at hl 0 rfl) ?_
  refine va_get (D := D) (ci := 2) (v := .int P_hinted) (C := RX2) (T := TX2) (N := 12) hx hb htg giX2 hown hK hP 0 rfl rfl 10 (by decide) (htg _ kw_61) (fun _ h9 => h9) rfl dX2_isHinted_1 ?_
  refine lv_iload_n hx hb dX2_isHinted_4 rfl (lv_at hl 1 rfl) ?_
  refine x_z (xrSN (As := [.int P_hinted, .int x1]) (rest := []) ⟨hx, hb, hml, hown, htg⟩ (c_f_JoinOrder_inSet l D cI cJ cZ _ P_hinted x1 rfl) kc_f_JoinOrder_inSet kn_305 kw_306 kw_1 dd_f_JoinOrder_inSet ⟨Nat.le_of_ble_eq_true rfl, Nat.le_of_ble_eq_true rfl⟩ rfl rfl (hP.sub [] rfl) (hD.sub [] (by decide) rfl) hK hN rfl hl.1 rfl (Nat.le_of_ble_eq_true rfl) dX2_isHinted_5 ⟨Nat.le_of_ble_eq_true rfl, Nat.le_of_ble_eq_true rfl⟩) hP hD hS hA [] [0] rfl rfl (by decide) (by decide) (fun _ H locs bz_1 hP hD hS => ?_)
  have hP : va_P D vwCl [(aP, .inr (2, [.ref aP_slots, .ref aP_termsSeen, .ref aP_matches, .ref aP_matchCount, .ref aP_variables, .ref aP_havingVariable, .ref aP_told, .ref aP_parent, .ref aP_allBefore, .int P_required, .int P_hinted, .int P_count]))] H := hP
  have hD : va_D A [(aP, .inr (2, [.ref aP_slots, .ref aP_termsSeen, .ref aP_matches, .ref aP_matchCount, .ref aP_variables, .ref aP_havingVariable, .ref aP_told, .ref aP_parent, .ref aP_allBefore, .int P_required, .int P_hinted, .int P_count]))] := hD
  have hf := hf
  cases hf
  exact x_zret (fun _ => 0) hQ hx hb hr hlk bz_1 hK hP hD hS dX2_isHinted_8
abbrev rm_f_Patterns_hangsOn : Room := { frames := 0, cells := 0, slots := 0, locals := 0 }
set_option maxHeartbeats 4000000 in
set_option maxRecDepth 100000 in
theorem c_f_Patterns_hangsOn (l : Launch) (D : va_G) (cI cJ cZ : ClassId) (sz : Nat) (n : Nat) (aP : Nat) (x1 : Int32) (x2 : Int32) (aP_slots : Nat) (aP_termsSeen : Nat) (aP_matches : Nat) (aP_matchCount : Nat) (aP_variables : Nat) (aP_havingVariable : Nat) (aP_told : Nat) (aP_parent : Nat) (aP_allBefore : Nat) (P_required : Int32) (P_hinted : Int32) (P_count : Int32) (P_parent : Nat → Int32) {r : Int32} (hf : f_Patterns_hangsOn n x1 x2 P_count P_parent = some r) : Met l yX2_hangsOn (.code yX2_hangsOn cX2_hangsOn 5 (some .boolean) :: GW) rm_f_Patterns_hangsOn (va_Pc [.ref aP, .int x1, .int x2] (xP D (xT cI cJ cZ) sz [(aP, .inr (2, [.ref aP_slots, .ref aP_termsSeen, .ref aP_matches, .ref aP_matchCount, .ref aP_variables, .ref aP_havingVariable, .ref aP_told, .ref aP_parent, .ref aP_allBefore, .int P_required, .int P_hinted, .int P_count])), (aP_parent, .inl (cI, 8, .inl P_parent))])) (va_Qi (fun r2 (_ : Nat → Nat) => r2 = r ∧ (r = 0 ∨ r = 1)) (bB D (xT cI cJ cZ) (fun _ => [(aP, .inr (2, [.ref aP_slots, .ref aP_termsSeen, .ref aP_matches, .ref aP_matchCount, .ref aP_variables, .ref aP_havingVariable, .ref aP_told, .ref aP_parent, .ref aP_allBefore, .int P_required, .int P_hinted, .int P_count])), (aP_parent, .inl (cI, 8, .inl P_parent))]) (va_A [(aP, .inr (2, [.ref aP_slots, .ref aP_termsSeen, .ref aP_matches, .ref aP_matchCount, .ref aP_variables, .ref aP_havingVariable, .ref aP_told, .ref aP_parent, .ref aP_allBefore, .int P_required, .int P_hinted, .int P_count])), (aP_parent, .inl (cI, 8, .inl P_parent))] sz)) (va_A [(aP, .inr (2, [.ref aP_slots, .ref aP_termsSeen, .ref aP_matches, .ref aP_matchCount, .ref aP_variables, .ref aP_havingVariable, .ref aP_told, .ref aP_parent, .ref aP_allBefore, .int P_required, .int P_hinted, .int P_count])), (aP_parent, .inl (cI, 8, .inl P_parent))] sz)) 0 0 (va_A [(aP, .inr (2, [.ref aP_slots, .ref aP_termsSeen, .ref aP_matches, .ref aP_matchCount, .ref aP_variables, .ref aP_havingVariable, .ref aP_told, .ref aP_parent, .ref aP_allBefore, .int P_required, .int P_hinted, .int P_count])), (aP_parent, .inl (cI, 8, .inl P_parent))] sz) := by
  refine con_start (Qc := fun A => va_Qi (fun r2 (_ : Nat → Nat) => r2 = r ∧ (r = 0 ∨ r = 1)) (bB D (xT cI cJ cZ) (fun _ => [(aP, .inr (2, [.ref aP_slots, .ref aP_termsSeen, .ref aP_matches, .ref aP_matchCount, .ref aP_variables, .ref aP_havingVariable, .ref aP_told, .ref aP_parent, .ref aP_allBefore, .int P_required, .int P_hinted, .int P_count])), (aP_parent, .inl (cI, 8, .inl P_parent))]) A) A) (by decide) (Nat.le_of_ble_eq_true rfl) ?_
  intro p e s m args below meth c Q A hx hb hr hlk hml hown hin htg hN hK hQ hA hP hD hS ls hl
  have hl : lv_has ls 5 [(0, .ref aP), (1, .int x1), (2, .int x2)] := hl
  have hown : s.vm.findClass RX2 = some m.cls := hown
  have hf := (f_Patterns_hangsOn_u n x1 x2 P_count P_parent).symm.trans hf
  refine lv_iload_n hx hb dX2_hangsOn_0 rfl (lv_at hl 1 rfl) ?_
  refine lv_istore_n (lv' := [(3, .int x1), (0, .ref aP), (1, .int x1), (2, .int x2)]) hx hb dX2_hangsOn_1 rfl hl (by decide) rfl (fun ls hl => ?_)
  refine lv_iconst (v := (0 : Int32)) hx hb dX2_hangsOn_2 (by decide) ?_
  refine lv_istore (lv' := [(4, .int (0 : Int32)), (3, .int x1), (0, .ref aP), (1, .int x1), (2, .int x2)]) hx hb dX2_hangsOn_3 hl (by decide) rfl (fun ls hl => ?_)
  have L_5_15 : ∀ (k : Nat) (x3_16 : Int32) (x4_17 : Int32) (o_15 : (Int32 ⊕ Unit)), f_Patterns_hangsOn_L0 n x2 P_count P_parent k x3_16 x4_17 = some o_15 → (∀ z : Int32, some (Sum.inl z) = some o_15 → z = r) → ∀ (H : Heap) (locs : List Loc), va_P D vwCl [(aP, .inr (2, [.ref aP_slots, .ref aP_termsSeen, .ref aP_matches, .ref aP_matchCount, .ref aP_variables, .ref aP_havingVariable, .ref aP_told, .ref aP_parent, .ref aP_allBefore, .int P_required, .int P_hinted, .int P_count])), (aP_parent, .inl (cI, 8, .inl P_parent))] H → va_D A [(aP, .inr (2, [.ref aP_slots, .ref aP_termsSeen, .ref aP_matches, .ref aP_matchCount, .ref aP_variables, .ref aP_havingVariable, .ref aP_told, .ref aP_parent, .ref aP_allBefore, .int P_required, .int P_hinted, .int P_count])), (aP_parent, .inl (cI, 8, .inl P_parent))] → va_S A s.heap H locs → ∀ ls : Array Slot, lv_has ls 5 [(0, .ref aP), (2, .int x2), (3, .int x3_16), (4, .int x4_17)] → (some (Sum.inr ()) = some o_15 → ∀ (H : Heap) (locs : List Loc), va_P D vwCl [(aP, .inr (2, [.ref aP_slots, .ref aP_termsSeen, .ref aP_matches, .ref aP_matchCount, .ref aP_variables, .ref aP_havingVariable, .ref aP_told, .ref aP_parent, .ref aP_allBefore, .int P_required, .int P_hinted, .int P_count])), (aP_parent, .inl (cI, 8, .inl P_parent))] H → va_D A [(aP, .inr (2, [.ref aP_slots, .ref aP_termsSeen, .ref aP_matches, .ref aP_matchCount, .ref aP_variables, .ref aP_havingVariable, .ref aP_told, .ref aP_parent, .ref aP_allBefore, .int P_required, .int P_hinted, .int P_count])), (aP_parent, .inl (cI, 8, .inl P_parent))] → va_S A s.heap H locs → ∀ ls : Array Slot, lv_has ls 5 [] → W p l e rm_f_Patterns_hangsOn s m args below meth c H locs 0 0 Q (F0 m 39 ls [])) → W p l e rm_f_Patterns_hangsOn s m args below meth c H locs 0 0 Q (F0 m 5 ls []) := by
    intro k
    induction k with
    | zero =>
      intro x3_16 x4_17 o_15 hf
      exact absurd (((f_Patterns_hangsOn_L0_z n x2 P_count P_parent x3_16 x4_17).symm.trans hf)) (fun h => by cases h)
    | succ k ih =>
      intro x3_16 x4_17 o_15 hf hret_15 H locs hP hD hS ls hl hX_15
      have hf := (f_Patterns_hangsOn_L0_s n x2 P_count P_parent k x3_16 x4_17).symm.trans hf
      refine lv_iload hx hb dX2_hangsOn_5 (lv_at hl 3 rfl) ?_
      refine lv_aload_n hx hb dX2_hangsOn_7 rfl (lv_at hl 0 rfl) ?_
      refine va_get (D := D) (ci := 2) (v := .int P_count) (C := RX2) (T := TX2) (N := 12) hx hb htg giX2 hown hK hP 0 rfl rfl 11 (by decide) (htg _ kw_62) (fun _ h9 => h9) rfl dX2_hangsOn_8 ?_
      refine lv_icmp_ge (tgt := 39) hx hb dX2_hangsOn_11 (by decide) (fun c_18 => ?_) (fun c_18 => ?_)
      · have hf := xb_t c_18 hf
        exact hX_15  hf _ _ hP hD hS _ (lv_sub hl [] rfl)
      · have hf := xb_f c_18 hf
        refine lv_iload_n hx hb dX2_hangsOn_14 rfl (lv_at hl 2 rfl) ?_
        refine lv_iconst (v := (-1 : Int32)) hx hb dX2_hangsOn_15 (by decide) ?_
        refine lv_icmp_eq (tgt := 39) hx hb dX2_hangsOn_16 (by decide) (fun c_19 => ?_) (fun c_19 => ?_)
        · have hf := xb_t c_19 hf
          exact hX_15  hf _ _ hP hD hS _ (lv_sub hl [] rfl)
        · have hf := xb_f c_19 hf
          refine lv_iload_n hx hb dX2_hangsOn_19 rfl (lv_at hl 2 rfl) ?_
          refine lv_iload_n hx hb dX2_hangsOn_20 rfl (lv_at hl 1 rfl) ?_
          refine lv_icmp_ne (tgt := 26) hx hb dX2_hangsOn_21 (by decide) (fun c_20 => ?_) (fun c_20 => ?_)
          · have hf := xb_f c_20 hf
            refine lv_aload_n hx hb dX2_hangsOn_26 rfl (lv_at hl 0 rfl) ?_
            refine va_get (D := D) (ci := 2) (v := .ref aP_parent) (C := RX2) (T := TX2) (N := 12) hx hb htg giX2 hown hK hP 0 rfl rfl 7 (by decide) (htg _ kw_55) (fun _ h9 => h9) rfl dX2_hangsOn_27 ?_
            refine lv_iload_n hx hb dX2_hangsOn_30 rfl (lv_at hl 2 rfl) ?_
            have g_21 : vp_in x3_16 8 := gd_in hf
            have hf := gd_el hf
            refine va_iald hx hb hK hP 1 0 rfl rfl g_21 dX2_hangsOn_31 ?_
            refine lv_topi (fun x3_22 ex3_22 => ?_)
            have hf := nm_nm ex3_22 hf
            refine lv_istore_n (lv' := [(3, .int x3_22), (0, .ref aP), (2, .int x2), (4, .int x4_17)]) hx hb dX2_hangsOn_32 rfl hl (by decide) rfl (fun ls hl => ?_)
            obtain ⟨x4_23, ex4_23⟩ : ∃ y : Int32, y = x4_17 + (1 : Int32) := ⟨_, rfl⟩
            have hf := nm_nm ex4_23 hf
            refine lv_iinc (v := x4_23) (lv' := [(4, .int x4_23), (3, .int x3_22), (0, .ref aP), (2, .int x2)]) hx hb dX2_hangsOn_33 hl (k := 3) rfl (by rw [ex4_23]; rfl) (by decide) rfl (fun ls hl => ?_)
            refine lv_goto (tgt := 5) hx hb dX2_hangsOn_36 (by decide) ?_
            exact ih x3_22 x4_23 o_15 hf hret_15 _ _ hP hD hS _ (lv_sub hl [2, 3, 1, 0] rfl) hX_15
          · have hf := xb_t c_20 hf
            refine lv_iconst (v := (1 : Int32)) hx hb dX2_hangsOn_24 (by decide) ?_
            have hf := congrArg some (hret_15 _ hf)
            have hf := Option.some.inj hf
            cases hf
            exact x_zret (fun _ => 0) hQ hx hb hr hlk (by decide) hK hP hD hS dX2_hangsOn_25
  obtain ⟨o_15, ho_15, hret_15, hk_15⟩ := bd0_s hf
  refine L_5_15 n x1 (0 : Int32) o_15 ho_15 hret_15 _ _ hP hD hS _ (lv_sub hl [2, 4, 1, 0] rfl) (fun  hf H locs hP hD hS ls hl => ?_)
  have hf := hk_15  hf
  refine lv_iconst (v := (0 : Int32)) hx hb dX2_hangsOn_39 (by decide) ?_
  have hf := Option.some.inj hf
  cases hf
  exact x_zret (fun _ => 0) hQ hx hb hr hlk (by decide) hK hP hD hS dX2_hangsOn_40
