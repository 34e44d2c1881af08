abbrev rm_f_Planner_dividedBySpreads : Room := { frames := 1, cells := 0, slots := 0, locals := 22 }
set_option maxHeartbeats 4000000 in
set_option maxRecDepth 100000 in
theorem c_f_Planner_dividedBySpreads (l : Launch) (D : va_G) (cI cJ cZ : ClassId) (sz : Nat) (n : Nat) (aQ : Nat) (x1 : Int64) (x3 : Int32) (x4 : Int32) (aQ_spreads : Nat) (aQ_sizes : Nat) (aQ_estimates : Nat) (aQ_costAhead : Nat) (Q_spreads : Nat → Int32) {r : Int64} (hf : f_Planner_dividedBySpreads n x1 x3 x4 Q_spreads = some r) : Met l yX4_dividedBySpreads (.code yX4_dividedBySpreads cX4_dividedBySpreads 10 (some .long) :: GW) rm_f_Planner_dividedBySpreads (va_Pc [.ref aQ, .long x1, .int x3, .int x4] (xP D (xT cI cJ cZ) sz [(aQ, .inr (4, [.ref aQ_spreads, .ref aQ_sizes, .ref aQ_estimates, .ref aQ_costAhead])), (aQ_spreads, .inl (cI, 64, .inl Q_spreads))])) (va_Ql (fun r2 (_ : Nat → Nat) => r2 = r) (bB D (xT cI cJ cZ) (fun _ => [(aQ, .inr (4, [.ref aQ_spreads, .ref aQ_sizes, .ref aQ_estimates, .ref aQ_costAhead])), (aQ_spreads, .inl (cI, 64, .inl Q_spreads))]) (va_A [(aQ, .inr (4, [.ref aQ_spreads, .ref aQ_sizes, .ref aQ_estimates, .ref aQ_costAhead])), (aQ_spreads, .inl (cI, 64, .inl Q_spreads))] sz)) (va_A [(aQ, .inr (4, [.ref aQ_spreads, .ref aQ_sizes, .ref aQ_estimates, .ref aQ_costAhead])), (aQ_spreads, .inl (cI, 64, .inl Q_spreads))] sz)) 0 0 (va_A [(aQ, .inr (4, [.ref aQ_spreads, .ref aQ_sizes, .ref aQ_estimates, .ref aQ_costAhead])), (aQ_spreads, .inl (cI, 64, .inl Q_spreads))] sz) := by
  refine con_start (y := yX4_dividedBySpreads) (bytes := cX4_dividedBySpreads) (maxL := 10) (av := [.ref aQ, .long x1, .int x3, .int x4]) (Qc := fun A => va_Ql (fun r2 (_ : Nat → Nat) => r2 = r) (bB D (xT cI cJ cZ) (fun _ => [(aQ, .inr (4, [.ref aQ_spreads, .ref aQ_sizes, .ref aQ_estimates, .ref aQ_costAhead])), (aQ_spreads, .inl (cI, 64, .inl Q_spreads))]) A) A) (by decide) (Nat.le_of_ble_eq_true rfl) ?_
  intro p e s m args below meth c Q A hx hb hr hlk hml hown hin htg hN hK hQ hA hP hD hS ls hl
  have hl : lv_has ls 10 [(0, .ref aQ), (1, .long x1), (3, .int x3), (4, .int x4)] := hl
  have hown : s.vm.findClass RX4 = some m.cls := hown
  have hf := (f_Planner_dividedBySpreads_u n x1 x3 x4 Q_spreads).symm.trans hf
  refine lv_lload_n hx hb dX4_dividedBySpreads_0 rfl (lv_at hl 1 rfl) ?_
  refine lv_lstore (lv' := [(5, .long x1), (0, .ref aQ), (1, .long x1), (3, .int x3), (4, .int x4)]) hx hb dX4_dividedBySpreads_1 hl (by decide) rfl (fun ls hl => ?_)
  refine lv_iconst (v := (0 : Int32)) hx hb dX4_dividedBySpreads_3 (by decide) ?_
  refine lv_istore (lv' := [(7, .int (0 : Int32)), (5, .long x1), (0, .ref aQ), (1, .long x1), (3, .int x3), (4, .int x4)]) hx hb dX4_dividedBySpreads_4 hl (by decide) rfl (fun ls hl => ?_)
  refine lv_iconst (v := (0 : Int32)) hx hb dX4_dividedBySpreads_6 (by decide) ?_
  refine lv_istore (lv' := [(8, .int (0 : Int32)), (7, .int (0 : Int32)), (5, .long x1), (0, .ref aQ), (1, .long x1), (3, .int x3), (4, .int x4)]) hx hb dX4_dividedBySpreads_7 hl (by decide) rfl (fun ls hl => ?_)
  have L_9_30 : ∀ (k : Nat) (x5_31 : Int64) (x7_32 : Int32) (x8_33 : Int32) (o_30 : Int64), f_Planner_dividedBySpreads_L0 n x3 x4 Q_spreads k x5_31 x7_32 x8_33 = some o_30 → ∀ (H : Heap) (locs : List Loc), va_P D vwCl [(aQ, .inr (4, [.ref aQ_spreads, .ref aQ_sizes, .ref aQ_estimates, .ref aQ_costAhead])), (aQ_spreads, .inl (cI, 64, .inl Q_spreads))] H → va_D A [(aQ, .inr (4, [.ref aQ_spreads, .ref aQ_sizes, .ref aQ_estimates, .ref aQ_costAhead])), (aQ_spreads, .inl (cI, 64, .inl Q_spreads))] → va_S A s.heap H locs → ∀ ls : Array Slot, lv_has ls 10 [(0, .ref aQ), (3, .int x3), (4, .int x4), (5, .long x5_31), (7, .int x7_32), (8, .int x8_33)] → (∀ (x5_34 : Int64), some (x5_34) = some o_30 → ∀ (H : Heap) (locs : List Loc), va_P D vwCl [(aQ, .inr (4, [.ref aQ_spreads, .ref aQ_sizes, .ref aQ_estimates, .ref aQ_costAhead])), (aQ_spreads, .inl (cI, 64, .inl Q_spreads))] H → va_D A [(aQ, .inr (4, [.ref aQ_spreads, .ref aQ_sizes, .ref aQ_estimates, .ref aQ_costAhead])), (aQ_spreads, .inl (cI, 64, .inl Q_spreads))] → va_S A s.heap H locs → ∀ ls : Array Slot, lv_has ls 10 [(5, .long x5_34)] → W p l e rm_f_Planner_dividedBySpreads s m args below meth c H locs 0 0 Q (F0 m 89 ls [])) → W p l e rm_f_Planner_dividedBySpreads s m args below meth c H locs 0 0 Q (F0 m 9 ls []) := by
    intro k
    induction k with
    | zero =>
      intro x5_31 x7_32 x8_33 o_30 hf
      exact absurd (((f_Planner_dividedBySpreads_L0_z n x3 x4 Q_spreads x5_31 x7_32 x8_33).symm.trans hf)) (fun h => by cases h)
    | succ k ih =>
      intro x5_31 x7_32 x8_33 o_30 hf H locs hP hD hS ls hl hX_30
      have hf := (f_Planner_dividedBySpreads_L0_s n x3 x4 Q_spreads k x5_31 x7_32 x8_33).symm.trans hf
      refine lv_iload hx hb dX4_dividedBySpreads_9 (lv_at hl 5 rfl) ?_
      refine lv_bipush (v := (8 : Int32)) hx hb dX4_dividedBySpreads_11 (by decide) ?_
      refine lv_icmp_ge (tgt := 89) hx hb dX4_dividedBySpreads_13 (by decide) (fun c_35 => ?_) (fun c_35 => ?_)
      · have hf := xb_t c_35 hf
        exact hX_30 x5_31 hf _ _ hP hD hS _ (lv_sub hl [3] rfl)
      · have hf := xb_f c_35 hf
        refine lv_iload hx hb dX4_dividedBySpreads_16 (lv_at hl 2 rfl) ?_
        refine lv_iload hx hb dX4_dividedBySpreads_18 (lv_at hl 5 rfl) ?_
        refine lv_ishr hx hb dX4_dividedBySpreads_20 ?_
        refine lv_if_eq (tgt := 89) hx hb dX4_dividedBySpreads_21 (by decide) (fun c_36 => ?_) (fun c_36 => ?_)
        · have hf := xb_t c_36 hf
          exact hX_30 x5_31 hf _ _ hP hD hS _ (lv_sub hl [3] rfl)
        · have hf := xb_f c_36 hf
          refine lv_iload hx hb dX4_dividedBySpreads_24 (lv_at hl 2 rfl) ?_
          refine lv_iload hx hb dX4_dividedBySpreads_26 (lv_at hl 5 rfl) ?_
          refine x_z (xrSN (As := [.int x4, .int x8_33]) (rest := []) ⟨hx, hb, hml, hown, htg⟩ (c_f_JoinOrder_inSet l D cI cJ cZ _ x4 x8_33 rfl) kc_f_JoinOrder_inSet kn_385 kw_306 kw_1 dd_f_JoinOrder_inSet ⟨Nat.le_of_ble_eq_true rfl, Nat.le_of_ble_eq_true rfl⟩ rfl rfl (hP.sub [] rfl) (hD.sub [] (by decide) rfl) hK hN rfl hl.1 rfl (Nat.le_of_ble_eq_true rfl) dX4_dividedBySpreads_28 ⟨Nat.le_of_ble_eq_true rfl, Nat.le_of_ble_eq_true rfl⟩) hP hD hS hA [] [0, 1] rfl rfl (by decide) (by decide) (fun _ H locs bz_37 hP hD hS => ?_)
          have hP : va_P D vwCl [(aQ, .inr (4, [.ref aQ_spreads, .ref aQ_sizes, .ref aQ_estimates, .ref aQ_costAhead])), (aQ_spreads, .inl (cI, 64, .inl Q_spreads))] H := hP
          have hD : va_D A [(aQ, .inr (4, [.ref aQ_spreads, .ref aQ_sizes, .ref aQ_estimates, .ref aQ_costAhead])), (aQ_spreads, .inl (cI, 64, .inl Q_spreads))] := hD
          refine lv_if_eq (tgt := 83) hx hb dX4_dividedBySpreads_31 (by decide) (fun c_38 => ?_) (fun c_38 => ?_)
          · have hf := xb_t c_38 hf
            obtain ⟨x8_39, ex8_39⟩ : ∃ y : Int32, y = x8_33 + (1 : Int32) := ⟨_, rfl⟩
            have hf := nm_nm ex8_39 hf
            refine lv_iinc (v := x8_39) (lv' := [(8, .int x8_39), (0, .ref aQ), (3, .int x3), (4, .int x4), (5, .long x5_31), (7, .int x7_32)]) hx hb dX4_dividedBySpreads_83 hl (k := 5) rfl (by rw [ex8_39]; rfl) (by decide) rfl (fun ls hl => ?_)
            refine lv_goto (tgt := 9) hx hb dX4_dividedBySpreads_86 (by decide) ?_
            exact ih x5_31 x7_32 x8_39 o_30 hf _ _ hP hD hS _ (lv_sub hl [1, 2, 3, 4, 5, 0] rfl) hX_30
          · have hf := xb_f c_38 hf
            refine lv_aload_n hx hb dX4_dividedBySpreads_34 rfl (lv_at hl 0 rfl) ?_
            refine va_get (D := D) (ci := 4) (v := .ref aQ_spreads) (C := RX4) (T := TX4) (N := 4) hx hb htg giX4 hown hK hP 0 rfl rfl 0 (by decide) (htg _ kw_122) (fun _ h9 => h9) rfl dX4_dividedBySpreads_35 ?_
            refine lv_iload hx hb dX4_dividedBySpreads_38 (lv_at hl 5 rfl) ?_
            refine lv_bipush (v := (8 : Int32)) hx hb dX4_dividedBySpreads_40 (by decide) ?_
            refine lv_imul hx hb dX4_dividedBySpreads_42 ?_
            refine lv_iload_n hx hb dX4_dividedBySpreads_43 rfl (lv_at hl 1 rfl) ?_
            refine lv_iadd hx hb dX4_dividedBySpreads_44 ?_
            have g_40 : vp_in ((x8_33 * (8 : Int32)) + x3) 64 := gd_in hf
            have hf := gd_el hf
            refine va_iald hx hb hK hP 1 0 rfl rfl g_40 dX4_dividedBySpreads_45 ?_
            refine lv_topi (fun x9_41 ex9_41 => ?_)
            have hf := nm_nm ex9_41 hf
            refine lv_istore (lv' := [(9, .int x9_41), (0, .ref aQ), (3, .int x3), (4, .int x4), (5, .long x5_31), (7, .int x7_32), (8, .int x8_33)]) hx hb dX4_dividedBySpreads_46 hl (by decide) rfl (fun ls hl => ?_)
            refine lv_iload hx hb dX4_dividedBySpreads_48 (lv_at hl 5 rfl) ?_
            refine lv_if_ne (tgt := 60) hx hb dX4_dividedBySpreads_50 (by decide) (fun c_42 => ?_) (fun c_42 => ?_)
            · have hf := xb_f c_42 hf
              refine lv_lload hx hb dX4_dividedBySpreads_60 (lv_at hl 4 rfl) ?_
              refine lv_iload hx hb dX4_dividedBySpreads_62 (lv_at hl 5 rfl) ?_
              refine lv_iload hx hb dX4_dividedBySpreads_64 (lv_at hl 0 rfl) ?_
              refine va_mmax (x := x7_32) (y := x9_41) hx hb (hml.trans hl.1.symm) hown (htg _ kw_390) (htg _ kw_375) (htg _ kw_10) (htg _ kw_376) (Nat.le_of_ble_eq_true rfl) (Nat.le_of_ble_eq_true rfl) (Nat.le_of_ble_eq_true rfl) (Nat.le_of_ble_eq_true rfl) dX4_dividedBySpreads_66 ?_
              refine W.eq (g2 := F0 m 69 ls [.int (f_Math_max x7_32 x9_41), .long x5_31]) rfl ?_
              obtain ⟨r_44, hq_43, hf⟩ := bn1_c hf
              refine x_l (xrS (As := [.long x5_31, .int (f_Math_max x7_32 x9_41)]) (rest := []) ⟨hx, hb, hml, hown, htg⟩ (c_f_Planner_dividedUp l D cI cJ cZ _ x5_31 (f_Math_max x7_32 x9_41) hq_43) kc_f_Planner_dividedUp kw_391 kw_392 kw_5 dd_f_Planner_dividedUp ⟨Nat.le_of_ble_eq_true rfl, Nat.le_of_ble_eq_true rfl⟩ rfl rfl (hP.sub [] rfl) (hD.sub [] (by decide) rfl) hK hN rfl hl.1 rfl (Nat.le_of_ble_eq_true rfl) dX4_dividedBySpreads_69 ⟨Nat.le_of_ble_eq_true rfl, Nat.le_of_ble_eq_true rfl⟩) hP hD hS hA [] [0, 1] rfl rfl (by decide) (by decide) (fun _ H locs hP hD hS => ?_)
              have hP : va_P D vwCl [(aQ, .inr (4, [.ref aQ_spreads, .ref aQ_sizes, .ref aQ_estimates, .ref aQ_costAhead])), (aQ_spreads, .inl (cI, 64, .inl Q_spreads))] H := hP
              have hD : va_D A [(aQ, .inr (4, [.ref aQ_spreads, .ref aQ_sizes, .ref aQ_estimates, .ref aQ_costAhead])), (aQ_spreads, .inl (cI, 64, .inl Q_spreads))] := hD
              refine lv_lstore (lv' := [(5, .long r_44), (9, .int x9_41), (0, .ref aQ), (3, .int x3), (4, .int x4), (7, .int x7_32), (8, .int x8_33)]) hx hb dX4_dividedBySpreads_72 hl (by decide) rfl (fun ls hl => ?_)
              refine lv_iload hx hb dX4_dividedBySpreads_74 (lv_at hl 5 rfl) ?_
              refine lv_iload hx hb dX4_dividedBySpreads_76 (lv_at hl 1 rfl) ?_
              refine va_mmin (x := x7_32) (y := x9_41) hx hb (hml.trans hl.1.symm) hown (htg _ kw_394) (htg _ kw_395) (htg _ kw_10) (htg _ kw_396) (Nat.le_of_ble_eq_true rfl) (Nat.le_of_ble_eq_true rfl) (Nat.le_of_ble_eq_true rfl) (Nat.le_of_ble_eq_true rfl) dX4_dividedBySpreads_78 ?_
              refine W.eq (g2 := F0 m 81 ls [.int (f_Math_min x7_32 x9_41)]) rfl ?_
              refine lv_topi (fun x7_45 ex7_45 => ?_)
              have hf := nm_nm ex7_45 hf
              refine lv_istore (lv' := [(7, .int x7_45), (5, .long r_44), (9, .int x9_41), (0, .ref aQ), (3, .int x3), (4, .int x4), (8, .int x8_33)]) hx hb dX4_dividedBySpreads_81 hl (by decide) rfl (fun ls hl => ?_)
              obtain ⟨x8_46, ex8_46⟩ : ∃ y : Int32, y = x8_33 + (1 : Int32) := ⟨_, rfl⟩
              have hf := nm_nm ex8_46 hf
              refine lv_iinc (v := x8_46) (lv' := [(8, .int x8_46), (7, .int x7_45), (5, .long r_44), (9, .int x9_41), (0, .ref aQ), (3, .int x3), (4, .int x4)]) hx hb dX4_dividedBySpreads_83 hl (k := 6) rfl (by rw [ex8_46]; rfl) (by decide) rfl (fun ls hl => ?_)
              refine lv_goto (tgt := 9) hx hb dX4_dividedBySpreads_86 (by decide) ?_
              exact ih r_44 x7_45 x8_46 o_30 hf _ _ hP hD hS _ (lv_sub hl [4, 5, 6, 2, 1, 0] rfl) hX_30
            · have hf := xb_t c_42 hf
              refine lv_iload hx hb dX4_dividedBySpreads_53 (lv_at hl 0 rfl) ?_
              refine lv_istore (lv' := [(7, .int x9_41), (9, .int x9_41), (0, .ref aQ), (3, .int x3), (4, .int x4), (5, .long x5_31), (8, .int x8_33)]) hx hb dX4_dividedBySpreads_55 hl (by decide) rfl (fun ls hl => ?_)
              refine lv_goto (tgt := 83) hx hb dX4_dividedBySpreads_57 (by decide) ?_
              obtain ⟨x8_47, ex8_47⟩ : ∃ y : Int32, y = x8_33 + (1 : Int32) := ⟨_, rfl⟩
              have hf := nm_nm ex8_47 hf
              refine lv_iinc (v := x8_47) (lv' := [(8, .int x8_47), (7, .int x9_41), (9, .int x9_41), (0, .ref aQ), (3, .int x3), (4, .int x4), (5, .long x5_31)]) hx hb dX4_dividedBySpreads_83 hl (k := 6) rfl (by rw [ex8_47]; rfl) (by decide) rfl (fun ls hl => ?_)
              refine lv_goto (tgt := 9) hx hb dX4_dividedBySpreads_86 (by decide) ?_
              exact ih x5_31 x9_41 x8_47 o_30 hf _ _ hP hD hS _ (lv_sub hl [3, 4, 5, 6, 1, 0] rfl) hX_30
  obtain ⟨o_30, ho_30, hk_30⟩ := bn1_s hf
  refine L_9_30 n x1 (0 : Int32) (0 : Int32) o_30 ho_30 _ _ hP hD hS _ (lv_sub hl [3, 5, 6, 2, 1, 0] rfl) (fun x5_34 hf H locs hP hD hS ls hl => ?_)
  have hf := hk_30 _ hf
  refine lv_lload hx hb dX4_dividedBySpreads_89 (lv_at hl 0 rfl) ?_
  have hf := Option.some.inj hf
  subst hf
  exact x_lret (fun _ => 0) hQ hx hb hr hlk hK hP hD hS dX4_dividedBySpreads_91
