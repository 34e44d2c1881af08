abbrev rm_f_Triples_has : Room := { frames := 0, cells := 0, slots := 0, locals := 0 }
set_option maxHeartbeats 4000000 in
set_option maxRecDepth 100000 in
theorem c_f_Triples_has (l : Launch) (D : va_G) (cI cJ cZ : ClassId) (sz : Nat) (n : Nat) (aT : Nat) (x1 : Int32) (aT_packed : Nat) (T_count : Int32) (T_packed : Nat → Int32) {r : Int32} (hf : f_Triples_has n x1 T_count T_packed = some r) : Met l yX6_has (.code yX6_has cX6_has 3 (some .boolean) :: GW) rm_f_Triples_has (va_Pc [.ref aT, .int x1] (xP D (xT cI cJ cZ) sz [(aT, .inr (6, [.ref aT_packed, .int T_count])), (aT_packed, .inl (cI, 80, .inl T_packed))])) (va_Qi (fun r2 (_ : Nat → Nat) => r2 = r ∧ (r = 0 ∨ r = 1)) (bB D (xT cI cJ cZ) (fun _ => [(aT, .inr (6, [.ref aT_packed, .int T_count])), (aT_packed, .inl (cI, 80, .inl T_packed))]) (va_A [(aT, .inr (6, [.ref aT_packed, .int T_count])), (aT_packed, .inl (cI, 80, .inl T_packed))] sz)) (va_A [(aT, .inr (6, [.ref aT_packed, .int T_count])), (aT_packed, .inl (cI, 80, .inl T_packed))] sz)) 0 0 (va_A [(aT, .inr (6, [.ref aT_packed, .int T_count])), (aT_packed, .inl (cI, 80, .inl T_packed))] sz) := by
  refine con_start (y := yX6_has) (bytes := cX6_has) (maxL := 3) (av := [.ref aT, .int x1]) (Qc := fun A => va_Qi (fun r2 (_ : Nat → Nat) => r2 = r ∧ (r = 0 ∨ r = 1)) (bB D (xT cI cJ cZ) (fun _ => [(aT, .inr (6, [.ref aT_packed, .int T_count])), (aT_packed, .inl (cI, 80, .inl T_packed))]) A) A) (by decide) (Nat.le_of_ble_eq_true rfl) ?_
  intro p e s m args below meth c Q A hx hb hr hlk hml hown hin htg hN hK hQ hA hP hD hS ls hl
  have hl : lv_has ls 3 [(0, .ref aT), (1, .int x1)] := hl
  have hown : s.vm.findClass RX6 = some m.cls := hown
  have hf := (f_Triples_has_u n x1 T_count T_packed).symm.trans hf
  refine lv_iconst (v := (0 : Int32)) hx hb dX6_has_0 (by decide) ?_
  refine lv_istore_n (lv' := [(2, .int (0 : Int32)), (0, .ref aT), (1, .int x1)]) hx hb dX6_has_1 rfl hl (by decide) rfl (fun ls hl => ?_)
  have L_2_9 : ∀ (k : Nat) (x2_10 : Int32) (o_9 : (Int32 ⊕ Unit)), f_Triples_has_L0 n x1 T_count T_packed k x2_10 = some o_9 → (∀ z : Int32, some (Sum.inl z) = some o_9 → z = r) → ∀ (H : Heap) (locs : List Loc), va_P D vwCl [(aT, .inr (6, [.ref aT_packed, .int T_count])), (aT_packed, .inl (cI, 80, .inl T_packed))] H → va_D A [(aT, .inr (6, [.ref aT_packed, .int T_count])), (aT_packed, .inl (cI, 80, .inl T_packed))] → va_S A s.heap H locs → ∀ ls : Array Slot, lv_has ls 3 [(0, .ref aT), (1, .int x1), (2, .int x2_10)] → (some (Sum.inr ()) = some o_9 → ∀ (H : Heap) (locs : List Loc), va_P D vwCl [(aT, .inr (6, [.ref aT_packed, .int T_count])), (aT_packed, .inl (cI, 80, .inl T_packed))] H → va_D A [(aT, .inr (6, [.ref aT_packed, .int T_count])), (aT_packed, .inl (cI, 80, .inl T_packed))] → va_S A s.heap H locs → ∀ ls : Array Slot, lv_has ls 3 [] → W p l e rm_f_Triples_has s m args below meth c H locs 0 0 Q (F0 m 28 ls [])) → W p l e rm_f_Triples_has s m args below meth c H locs 0 0 Q (F0 m 2 ls []) := by
    intro k
    induction k with
    | zero =>
      intro x2_10 o_9 hf
      exact absurd (((f_Triples_has_L0_z n x1 T_count T_packed x2_10).symm.trans hf)) (fun h => by cases h)
    | succ k ih =>
      intro x2_10 o_9 hf hret_9 H locs hP hD hS ls hl hX_9
      have hf := (f_Triples_has_L0_s n x1 T_count T_packed k x2_10).symm.trans hf
      refine lv_iload_n hx hb dX6_has_2 rfl (lv_at hl 2 rfl) ?_
      refine lv_aload_n hx hb dX6_has_3 rfl (lv_at hl 0 rfl) ?_
      refine va_get (D := D) (ci := 6) (v := .int T_count) (C := RX6) (T := TX6) (N := 2) hx hb htg giX6 hown hK hP 0 rfl rfl 1 (by decide) (htg _ kw_28) (fun _ h9 => h9) rfl dX6_has_4 ?_
      refine lv_icmp_ge (tgt := 28) hx hb dX6_has_7 (by decide) (fun c_11 => ?_) (fun c_11 => ?_)
      · have hf := xb_t c_11 hf
        exact hX_9  hf _ _ hP hD hS _ (lv_sub hl [] rfl)
      · have hf := xb_f c_11 hf
        refine lv_aload_n hx hb dX6_has_10 rfl (lv_at hl 0 rfl) ?_
        refine va_get (D := D) (ci := 6) (v := .ref aT_packed) (C := RX6) (T := TX6) (N := 2) hx hb htg giX6 hown hK hP 0 rfl rfl 0 (by decide) (htg _ kw_25) (fun _ h9 => h9) rfl dX6_has_11 ?_
        refine lv_iload_n hx hb dX6_has_14 rfl (lv_at hl 2 rfl) ?_
        have g_12 : vp_in x2_10 80 := gd_in hf
        have hf := gd_el hf
        refine va_iald hx hb hK hP 1 0 rfl rfl g_12 dX6_has_15 ?_
        refine lv_iload_n hx hb dX6_has_16 rfl (lv_at hl 1 rfl) ?_
        refine lv_icmp_ne (tgt := 22) hx hb dX6_has_17 (by decide) (fun c_13 => ?_) (fun c_13 => ?_)
        · have hf := xb_f c_13 hf
          obtain ⟨x2_14, ex2_14⟩ : ∃ y : Int32, y = x2_10 + (1 : Int32) := ⟨_, rfl⟩
          have hf := nm_nm ex2_14 hf
          refine lv_iinc (v := x2_14) (lv' := [(2, .int x2_14), (0, .ref aT), (1, .int x1)]) hx hb dX6_has_22 hl (k := 2) rfl (by rw [ex2_14]; rfl) (by decide) rfl (fun ls hl => ?_)
          refine lv_goto (tgt := 2) hx hb dX6_has_25 (by decide) ?_
          exact ih x2_14 o_9 hf hret_9 _ _ hP hD hS _ (lv_sub hl [1, 2, 0] rfl) hX_9
        · have hf := xb_t c_13 hf
          refine lv_iconst (v := (1 : Int32)) hx hb dX6_has_20 (by decide) ?_
          have hf := congrArg some (hret_9 _ hf)
          have hf := Option.some.inj hf
          subst hf
          exact x_zret (fun _ => 0) hQ hx hb hr hlk (by decide) hK hP hD hS dX6_has_21
  obtain ⟨o_9, ho_9, hret_9, hk_9⟩ := bd0_s hf
  refine L_2_9 n (0 : Int32) o_9 ho_9 hret_9 _ _ hP hD hS _ (lv_sub hl [1, 2, 0] rfl) (fun  hf H locs hP hD hS ls hl => ?_)
  have hf := hk_9  hf
  refine lv_iconst (v := (0 : Int32)) hx hb dX6_has_28 (by decide) ?_
  have hf := Option.some.inj hf
  subst hf
  exact x_zret (fun _ => 0) hQ hx hb hr hlk (by decide) hK hP hD hS dX6_has_29
