abbrev rm_f_Table_sort : Room := { frames := 0, cells := 0, slots := 0, locals := 0 }
set_option maxHeartbeats 4000000 in
set_option maxRecDepth 100000 in
theorem c_f_Table_sort (l : Launch) (D : va_G) (cI cJ cZ : ClassId) (sz : Nat) (n : Nat) (aZ : Nat) (x1 : Int32) (Z : Nat → Int64) {Z' : Nat → Int64} (hf : f_Table_sort n x1 Z = some Z') : Met l yX5_sort (.code yX5_sort cX5_sort 7 none :: GW) rm_f_Table_sort (va_Pc [.ref aZ, .int x1] (xP D (xT cI cJ cZ) sz [(aZ, .inl (cJ, 500, .inr (.inl Z)))])) (va_Qv (fun (_ : Nat → Nat) => True) (bB D (xT cI cJ cZ) (fun _ => [(aZ, .inl (cJ, 500, .inr (.inl Z')))]) (va_A [(aZ, .inl (cJ, 500, .inr (.inl Z)))] sz)) (va_A [(aZ, .inl (cJ, 500, .inr (.inl Z)))] sz)) 0 0 (va_A [(aZ, .inl (cJ, 500, .inr (.inl Z)))] sz) := by
  refine con_start (y := yX5_sort) (bytes := cX5_sort) (maxL := 7) (av := [.ref aZ, .int x1]) (Qc := fun A => va_Qv (fun (_ : Nat → Nat) => True) (bB D (xT cI cJ cZ) (fun _ => [(aZ, .inl (cJ, 500, .inr (.inl Z')))]) A) A) (by decide) (Nat.le_of_ble_eq_true rfl) ?_
  intro p e s m args below meth c Q A hx hb hr hlk hml hown hin htg hN hK hQ hA hP hD hS ls hl
  have hl : lv_has ls 7 [(0, .ref aZ), (1, .int x1)] := hl
  have hown : s.vm.findClass RX5 = some m.cls := hown
  have hf := (f_Table_sort_u n x1 Z).symm.trans hf
  refine lv_iload_n hx hb dX5_sort_0 rfl (lv_at hl 1 rfl) ?_
  refine lv_iconst (v := (2 : Int32)) hx hb dX5_sort_1 (by decide) ?_
  refine lv_idiv hx hb dX5_sort_2 (by decide) ?_
  refine lv_topi (fun x2_1 ex2_1 => ?_)
  have hf := nm_nm ex2_1 hf
  refine lv_istore_n (lv' := [(2, .int x2_1), (0, .ref aZ), (1, .int x1)]) hx hb dX5_sort_3 rfl hl (by decide) rfl (fun ls hl => ?_)
  have L_4_218 : ∀ (k : Nat) (Z_219 : Nat → Int64) (x2_220 : Int32) (o_218 : (Nat → Int64)), f_Table_sort_L0 n x1 k Z_219 x2_220 = some o_218 → ∀ (H : Heap) (locs : List Loc), va_P D vwCl [(aZ, .inl (cJ, 500, .inr (.inl Z_219)))] H → va_D A [(aZ, .inl (cJ, 500, .inr (.inl Z_219)))] → va_S A s.heap H locs → ∀ ls : Array Slot, lv_has ls 7 [(0, .ref aZ), (1, .int x1), (2, .int x2_220)] → (∀ (Z_221 : Nat → Int64), some (Z_221) = some o_218 → ∀ (H : Heap) (locs : List Loc), va_P D vwCl [(aZ, .inl (cJ, 500, .inr (.inl Z_221)))] H → va_D A [(aZ, .inl (cJ, 500, .inr (.inl Z_221)))] → va_S A s.heap H locs → ∀ ls : Array Slot, lv_has ls 7 [] → W p l e rm_f_Table_sort s m args below meth c H locs 0 0 Q (F0 m 79 ls [])) → W p l e rm_f_Table_sort s m args below meth c H locs 0 0 Q (F0 m 4 ls []) := by
    intro k
    induction k with
    | zero =>
      intro Z_219 x2_220 o_218 hf
      exact absurd (((f_Table_sort_L0_z n x1 Z_219 x2_220).symm.trans hf)) (fun h => by cases h)
    | succ k ih =>
      intro Z_219 x2_220 o_218 hf H locs hP hD hS ls hl hX_218
      have hf := (f_Table_sort_L0_s n x1 k Z_219 x2_220).symm.trans hf
      refine lv_iload_n hx hb dX5_sort_4 rfl (lv_at hl 2 rfl) ?_
      refine lv_if_le (tgt := 79) hx hb dX5_sort_5 (by decide) (fun c_222 => ?_) (fun c_222 => ?_)
      · have hf := xb_t c_222 hf
        exact hX_218 Z_219 hf _ _ hP hD hS _ (lv_sub hl [] rfl)
      · have hf := xb_f c_222 hf
        refine lv_iload_n hx hb dX5_sort_8 rfl (lv_at hl 2 rfl) ?_
        refine lv_istore_n (lv' := [(3, .int x2_220), (0, .ref aZ), (1, .int x1), (2, .int x2_220)]) hx hb dX5_sort_9 rfl hl (by decide) rfl (fun ls hl => ?_)
        have L_10_291 : ∀ (k : Nat) (Z_292 : Nat → Int64) (x3_293 : Int32) (o_291 : (Nat → Int64)), f_Table_sort_L1 n x1 x2_220 k Z_292 x3_293 = some o_291 → ∀ (H : Heap) (locs : List Loc), va_P D vwCl [(aZ, .inl (cJ, 500, .inr (.inl Z_292)))] H → va_D A [(aZ, .inl (cJ, 500, .inr (.inl Z_292)))] → va_S A s.heap H locs → ∀ ls : Array Slot, lv_has ls 7 [(0, .ref aZ), (1, .int x1), (2, .int x2_220), (3, .int x3_293)] → (∀ (Z_294 : Nat → Int64), some (Z_294) = some o_291 → ∀ (H : Heap) (locs : List Loc), va_P D vwCl [(aZ, .inl (cJ, 500, .inr (.inl Z_294)))] H → va_D A [(aZ, .inl (cJ, 500, .inr (.inl Z_294)))] → va_S A s.heap H locs → ∀ ls : Array Slot, lv_has ls 7 [(0, .ref aZ), (1, .int x1), (2, .int x2_220)] → W p l e rm_f_Table_sort s m args below meth c H locs 0 0 Q (F0 m 72 ls [])) → W p l e rm_f_Table_sort s m args below meth c H locs 0 0 Q (F0 m 10 ls []) := by
          intro k
          induction k with
          | zero =>
            intro Z_292 x3_293 o_291 hf
            exact absurd (((f_Table_sort_L1_z n x1 x2_220 Z_292 x3_293).symm.trans hf)) (fun h => by cases h)
          | succ k ih =>
            intro Z_292 x3_293 o_291 hf H locs hP hD hS ls hl hX_291
            have hf := (f_Table_sort_L1_s n x1 x2_220 k Z_292 x3_293).symm.trans hf
            refine lv_iload_n hx hb dX5_sort_10 rfl (lv_at hl 3 rfl) ?_
            refine lv_iload_n hx hb dX5_sort_11 rfl (lv_at hl 1 rfl) ?_
            refine lv_icmp_ge (tgt := 72) hx hb dX5_sort_12 (by decide) (fun c_295 => ?_) (fun c_295 => ?_)
            · have hf := xb_t c_295 hf
              exact hX_291 Z_292 hf _ _ hP hD hS _ (lv_sub hl [0, 1, 2] rfl)
            · have hf := xb_f c_295 hf
              refine lv_aload_n hx hb dX5_sort_15 rfl (lv_at hl 0 rfl) ?_
              refine lv_iload_n hx hb dX5_sort_16 rfl (lv_at hl 3 rfl) ?_
              have g_296 : vp_in x3_293 500 := gd_in hf
              have hf := gd_el hf
              refine va_lald hx hb hK hP 0 1 rfl rfl g_296 dX5_sort_17 ?_
              refine lv_topl (fun x4_297 ex4_297 => ?_)
              have hf := nm_nm ex4_297 hf
              refine lv_lstore (lv' := [(4, .long x4_297), (0, .ref aZ), (1, .int x1), (2, .int x2_220), (3, .int x3_293)]) hx hb dX5_sort_18 hl (by decide) rfl (fun ls hl => ?_)
              refine lv_iload_n hx hb dX5_sort_20 rfl (lv_at hl 4 rfl) ?_
              refine lv_istore (lv' := [(6, .int x3_293), (4, .long x4_297), (0, .ref aZ), (1, .int x1), (2, .int x2_220), (3, .int x3_293)]) hx hb dX5_sort_21 hl (by decide) rfl (fun ls hl => ?_)
              have L_23_313 : ∀ (k : Nat) (Z_314 : Nat → Int64) (x6_315 : Int32) (o_313 : ((Nat → Int64) × Int32)), f_Table_sort_L2 n x2_220 x4_297 k Z_314 x6_315 = some o_313 → ∀ (H : Heap) (locs : List Loc), va_P D vwCl [(aZ, .inl (cJ, 500, .inr (.inl Z_314)))] H → va_D A [(aZ, .inl (cJ, 500, .inr (.inl Z_314)))] → va_S A s.heap H locs → ∀ ls : Array Slot, lv_has ls 7 [(0, .ref aZ), (1, .int x1), (2, .int x2_220), (3, .int x3_293), (4, .long x4_297), (6, .int x6_315)] → (∀ (Z_316 : Nat → Int64) (x6_317 : Int32), some ((Z_316, x6_317)) = some o_313 → ∀ (H : Heap) (locs : List Loc), va_P D vwCl [(aZ, .inl (cJ, 500, .inr (.inl Z_316)))] H → va_D A [(aZ, .inl (cJ, 500, .inr (.inl Z_316)))] → va_S A s.heap H locs → ∀ ls : Array Slot, lv_has ls 7 [(0, .ref aZ), (1, .int x1), (2, .int x2_220), (3, .int x3_293), (4, .long x4_297), (6, .int x6_317)] → W p l e rm_f_Table_sort s m args below meth c H locs 0 0 Q (F0 m 60 ls [])) → W p l e rm_f_Table_sort s m args below meth c H locs 0 0 Q (F0 m 23 ls []) := by
                intro k
                induction k with
                | zero =>
                  intro Z_314 x6_315 o_313 hf
                  exact absurd (((f_Table_sort_L2_z n x2_220 x4_297 Z_314 x6_315).symm.trans hf)) (fun h => by cases h)
                | succ k ih =>
                  intro Z_314 x6_315 o_313 hf H locs hP hD hS ls hl hX_313
                  have hf := (f_Table_sort_L2_s n x2_220 x4_297 k Z_314 x6_315).symm.trans hf
                  refine lv_iload hx hb dX5_sort_23 (lv_at hl 5 rfl) ?_
                  refine lv_iload_n hx hb dX5_sort_25 rfl (lv_at hl 2 rfl) ?_
                  refine lv_icmp_lt (tgt := 60) hx hb dX5_sort_26 (by decide) (fun c_318 => ?_) (fun c_318 => ?_)
                  · have hf := xb_t c_318 hf
                    exact hX_313 Z_314 x6_315 hf _ _ hP hD hS _ hl
                  · have hf := xb_f c_318 hf
                    refine lv_aload_n hx hb dX5_sort_29 rfl (lv_at hl 0 rfl) ?_
                    refine lv_iload hx hb dX5_sort_30 (lv_at hl 5 rfl) ?_
                    refine lv_iload_n hx hb dX5_sort_32 rfl (lv_at hl 2 rfl) ?_
                    refine lv_isub hx hb dX5_sort_33 ?_
                    have g_319 : vp_in (x6_315 - x2_220) 500 := gd_in hf
                    have hf := gd_el hf
                    refine va_lald hx hb hK hP 0 1 rfl rfl g_319 dX5_sort_34 ?_
                    refine lv_lload hx hb dX5_sort_35 (lv_at hl 4 rfl) ?_
                    refine W.lcmp hx hb dX5_sort_37 ?_
                    refine lv_if_le (tgt := 60) hx hb dX5_sort_38 (by decide) (fun c_320 => ?_) (fun c_320 => ?_)
                    · have hf := xb_t c_320 hf
                      exact hX_313 Z_314 x6_315 hf _ _ hP hD hS _ hl
                    · have hf := xb_f c_320 hf
                      refine lv_aload_n hx hb dX5_sort_41 rfl (lv_at hl 0 rfl) ?_
                      refine lv_iload hx hb dX5_sort_42 (lv_at hl 5 rfl) ?_
                      refine lv_aload_n hx hb dX5_sort_44 rfl (lv_at hl 0 rfl) ?_
                      refine lv_iload hx hb dX5_sort_45 (lv_at hl 5 rfl) ?_
                      refine lv_iload_n hx hb dX5_sort_47 rfl (lv_at hl 2 rfl) ?_
                      refine lv_isub hx hb dX5_sort_48 ?_
                      refine va_lald hx hb hK hP 0 1 rfl rfl g_319 dX5_sort_49 ?_
                      refine lv_topl (fun v_321 ev_321 => ?_)
                      have hf := nm_nm ev_321 hf
                      have g_322 : vp_in x6_315 500 := gd_in hf
                      have hf := gd_el hf
                      refine x_last hx hb hK hP hD hS 0 1 rfl rfl g_322 dX5_sort_50 (fun Z_323 eZ_323 H locs hP hD hS => ?_)
                      have hf := nm_nm eZ_323 hf
                      have hP : va_P D vwCl [(aZ, .inl (cJ, 500, .inr (.inl Z_323)))] H := hP
                      have hD : va_D A [(aZ, .inl (cJ, 500, .inr (.inl Z_323)))] := hD
                      refine lv_iload hx hb dX5_sort_51 (lv_at hl 5 rfl) ?_
                      refine lv_iload_n hx hb dX5_sort_53 rfl (lv_at hl 2 rfl) ?_
                      refine lv_isub hx hb dX5_sort_54 ?_
                      refine lv_topi (fun x6_324 ex6_324 => ?_)
                      have hf := nm_nm ex6_324 hf
                      refine lv_istore (lv' := [(6, .int x6_324), (0, .ref aZ), (1, .int x1), (2, .int x2_220), (3, .int x3_293), (4, .long x4_297)]) hx hb dX5_sort_55 hl (by decide) rfl (fun ls hl => ?_)
                      refine lv_goto (tgt := 23) hx hb dX5_sort_57 (by decide) ?_
                      exact ih Z_323 x6_324 o_313 hf _ _ hP hD hS _ (lv_sub hl [1, 2, 3, 4, 5, 0] rfl) hX_313
              obtain ⟨o_313, ho_313, hk_313⟩ := bn2_s hf
              refine L_23_313 n Z_292 x3_293 o_313 ho_313 _ _ hP hD hS _ (lv_sub hl [2, 3, 4, 5, 1, 0] rfl) (fun Z_316 x6_317 hf H locs hP hD hS ls hl => ?_)
              have hf := hk_313 _ _ hf
              refine lv_aload_n hx hb dX5_sort_60 rfl (lv_at hl 0 rfl) ?_
              refine lv_iload hx hb dX5_sort_61 (lv_at hl 5 rfl) ?_
              refine lv_lload hx hb dX5_sort_63 (lv_at hl 4 rfl) ?_
              have g_325 : vp_in x6_317 500 := gd_in hf
              have hf := gd_el hf
              refine x_last hx hb hK hP hD hS 0 1 rfl rfl g_325 dX5_sort_65 (fun Z_326 eZ_326 H locs hP hD hS => ?_)
              have hf := nm_nm eZ_326 hf
              have hP : va_P D vwCl [(aZ, .inl (cJ, 500, .inr (.inl Z_326)))] H := hP
              have hD : va_D A [(aZ, .inl (cJ, 500, .inr (.inl Z_326)))] := hD
              obtain ⟨x3_327, ex3_327⟩ : ∃ y : Int32, y = x3_293 + (1 : Int32) := ⟨_, rfl⟩
              have hf := nm_nm ex3_327 hf
              refine lv_iinc (v := x3_327) (lv' := [(3, .int x3_327), (0, .ref aZ), (1, .int x1), (2, .int x2_220), (4, .long x4_297), (6, .int x6_317)]) hx hb dX5_sort_66 hl (k := 3) rfl (by rw [ex3_327]; rfl) (by decide) rfl (fun ls hl => ?_)
              refine lv_goto (tgt := 10) hx hb dX5_sort_69 (by decide) ?_
              exact ih Z_326 x3_327 o_291 hf _ _ hP hD hS _ (lv_sub hl [1, 2, 3, 0] rfl) hX_291
        obtain ⟨o_291, ho_291, hk_291⟩ := bn1_s hf
        refine L_10_291 n Z_219 x2_220 o_291 ho_291 _ _ hP hD hS _ (lv_sub hl [1, 2, 3, 0] rfl) (fun Z_294 hf H locs hP hD hS ls hl => ?_)
        have hf := hk_291 _ hf
        refine lv_iload_n hx hb dX5_sort_72 rfl (lv_at hl 2 rfl) ?_
        refine lv_iconst (v := (2 : Int32)) hx hb dX5_sort_73 (by decide) ?_
        refine lv_idiv hx hb dX5_sort_74 (by decide) ?_
        refine lv_topi (fun x2_328 ex2_328 => ?_)
        have hf := nm_nm ex2_328 hf
        refine lv_istore_n (lv' := [(2, .int x2_328), (0, .ref aZ), (1, .int x1)]) hx hb dX5_sort_75 rfl hl (by decide) rfl (fun ls hl => ?_)
        refine lv_goto (tgt := 4) hx hb dX5_sort_76 (by decide) ?_
        exact ih Z_294 x2_328 o_218 hf _ _ hP hD hS _ (lv_sub hl [1, 2, 0] rfl) hX_218
  obtain ⟨o_218, ho_218, hk_218⟩ := bn1_s hf
  refine L_4_218 n Z x2_1 o_218 ho_218 _ _ hP hD hS _ (lv_sub hl [1, 2, 0] rfl) (fun Z_221 hf H locs hP hD hS ls hl => ?_)
  have hf := hk_218 _ hf
  have hf := Option.some.inj hf
  subst hf
  exact x_vret (fun _ => 0) hQ hx hb hr hlk hK hP hD hS dX5_sort_79
