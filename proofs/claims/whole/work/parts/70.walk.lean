abbrev rm_f_Table_sort : Room := { frames := 0, cells := 0, slots := 0, locals := 0 }
set_option maxHeartbeats 4000000 in
set_option maxRecDepth 100000 in
theorem c_f_Table_sort (l : Launch) (D : va_G) (cI cJ cZ : ClassId) (sz : Nat) (n : Nat) (aZ : Nat) (x1 : Int32) (Z : Nat → Int64) {Z' : Nat → Int64} (hf : f_Table_sort n x1 Z = some Z') : Met l yX5_sort (.code yX5_sort cX5_sort 7 none :: GW) rm_f_Table_sort (va_Pc [.ref aZ, .int x1] (xP D (xT cI cJ cZ) sz [(aZ, .inl (cJ, 500, .inr (.inl Z)))])) (va_Qv (fun (_ : Nat → Nat) => True) (bB D (xT cI cJ cZ) (fun _ => [(aZ, .inl (cJ, 500, .inr (.inl Z')))]) (va_A [(aZ, .inl (cJ, 500, .inr (.inl Z)))] sz)) (va_A [(aZ, .inl (cJ, 500, .inr (.inl Z)))] sz)) 0 0 (va_A [(aZ, .inl (cJ, 500, .inr (.inl Z)))] sz) := by
  refine con_start (Qc := fun A => va_Qv (fun (_ : Nat → Nat) => True) (bB D (xT cI cJ cZ) (fun _ => [(aZ, .inl (cJ, 500, .inr (.inl Z')))]) A) A) (by decide) (Nat.le_of_ble_eq_true rfl) ?_
  intro p e s m args below meth c Q A hx hb hr hlk hml hown hin htg hN hK hQ hA hP hD hS ls hl
  have hl : lv_has ls 7 [(0, .ref aZ), (1, .int x1)] := hl
  have hown : s.vm.findClass RX5 = some m.cls := hown
  have hf := (f_Table_sort_u n x1 Z).symm.trans hf
  refine lv_iload_n hx hb dX5_sort_0 rfl (lv_at hl 1 rfl) ?_
  refine lv_iconst (v := (2 : Int32)) hx hb dX5_sort_1 (by decide) ?_
  refine lv_idiv hx hb dX5_sort_2 (by decide) ?_
  refine lv_topi (fun x2_1 ex2_1 => ?_)
  have hf := nm_nm ex2_1 hf
  refine lv_istore_n (lv' := [(2, .int x2_1), (0, .ref aZ), (1, .int x1)]) hx hb dX5_sort_3 rfl hl (by decide) rfl (fun ls hl => ?_)
  have L_4_218 : ∀ (k : Nat) (Z_219 : Nat → Int64) (x2_220 : Int32) (o_218 : (Nat → Int64)), f_Table_sort_L0 n x1 k Z_219 x2_220 = some o_218 → ∀ (H : Heap) (locs : List Loc), va_P D vwCl [(aZ, .inl (cJ, 500, .inr (.inl Z_219)))] H → va_D A [(aZ, .inl (cJ, 500, .inr (.inl Z_219)))] → va_S A s.heap H locs → ∀ ls : Array Slot, lv_has ls 7 [(0, .ref aZ), (1, .int x1), (2, .int x2_220)] → (∀ (Z_221 : Nat → Int64), some (Z_221) = some o_218 → ∀ (H : Heap) (locs : List Loc), va_P D vwCl [(aZ, .inl (cJ, 500, .inr (.inl Z_221)))] H → va_D A [(aZ, .inl (cJ, 500, .inr (.inl Z_221)))] → va_S A s.heap H locs → ∀ ls : Array Slot, lv_has ls 7 [] → W p l e rm_f_Table_sort s m args below meth c H locs 0 0 Q (F0 m 79 ls [])) → W p l e rm_f_Table_sort s m args below meth c H locs 0 0 Q (F0 m 4 ls []) := by
    intro k
    induction k with
    | zero =>
      intro Z_219 x2_220 o_218 hf
      exact absurd (((f_Table_sort_L0_z n x1 Z_219 x2_220).symm.trans hf)) (fun h => by cases h)
    | succ k ih =>
      intro Z_219 x2_220 o_218 hf H locs hP hD hS ls hl hX_218
      have hf := (f_Table_sort_L0_s n x1 k Z_219 x2_220).symm.trans hf
      refine lv_iload_n hx hb dX5_sort_4 rfl (lv_at hl 2 rfl) ?_
      refine lv_if_le (tgt := 79) hx hb dX5_sort_5 (by decide) (fun c_222 => ?_) (fun c_222 => ?_)
      · have hf := xb_t c_222 hf
        exact hX_218 Z_219 hf _ _ hP hD hS _ (lv_sub hl [] rfl)
      · have hf := xb_f c_222 hf
        refine lv_iload_n hx hb dX5_sort_8 rfl (lv_at hl 2 rfl) ?_
        refine lv_istore_n (lv' := [(3, .int x2_220), (0, .ref aZ), (1, .int x1), (2, .int x2_220)]) hx hb dX5_sort_9 rfl hl (by decide) rfl (fun ls hl => ?_)
        have L_10_291 : ∀ (k : Nat) (Z_292 : Nat → Int64) (x3_293 : Int32) (o_291 : (Nat → Int64)), f_Table_sort_L1 n x1 x2_220 k Z_292 x3_293 = some o_291 → ∀ (H : Heap) (locs : List Loc), va_P D vwCl [(aZ, .inl (cJ, 500, .inr (.inl Z_292)))] H → va_D A [(aZ, .inl (cJ, 500, .inr (.inl Z_292)))] → va_S A s.heap H locs → ∀ ls : Array Slot, lv_has ls 7 [(0, .ref aZ), (1, .int x1), (2, .int x2_220), (3, .int x3_293)] → (∀ (Z_294 : Nat → Int64), some (Z_294) = some o_291 → ∀ (H : Heap) (locs : List Loc), va_P D vwCl [(aZ, .inl (cJ, 500, .inr (.inl Z_294)))] H → va_D A [(aZ, .inl (cJ, 500, .inr (.inl Z_294)))] → va_S A s.heap H locs → ∀ ls : Array Slot, lv_has ls 7 [(0, .ref aZ), (1, .int x1), (2, .int x2_220)] → W p l e rm_f_Table_sort s m args below meth c H locs 0 0 Q (F0 m 72 ls [])) → W p l e rm_f_Table_sort s m args below meth c H locs 0 0 Q (F0 m 10 ls []) := by
          intro k
          induction k with
          | zero =>
            intro Z_292 x3_293 o_291 hf
            exact absurd (((f_Table_sort_L1_z n x1 x2_220 Z_292 x3_293).symm.trans hf)) (fun h => by cases h)
          | succ k ih =>
            intro Z_292 x3_293 o_291 hf H locs hP hD hS ls hl hX_291
            have hf := (f_Table_sort_L1_s n x1 x2_220 k Z_292 x3_293).symm.trans hf
            refine lv_iload_n hx hb dX5_sort_10 rfl (lv_at hl 3 rfl) ?_
            refine lv_iload_n hx hb dX5_sort_11 rfl (lv_at hl 1 rfl) ?_
            refine lv_icmp_ge (tgt := 72) hx hb dX5_sort_12 (by decide) (fun c_295 => ?_) (fun c_295 => ?_)
            · have hf := xb_t c_295 hf
              exact hX_291 Z_292 hf _ _ hP hD hS _ (lv_sub hl [0, 1, 2] rfl)
            · have hf := xb_f c_295 hf
              refine lv_aload_n hx hb dX5_sort_15 rfl (lv_at hl 0 rfl) ?_
              refine lv_iload_n hx hb dX5_sort_16 rfl (lv_at hl 3 rfl) ?_
              have g_296 : vp_in x3_293 500 := gd_in hf
              have hf := gd_el hf
              refine va_lald hx hb hK hP 0 1 rfl rfl g_296 dX5_sort_17 ?_
              refine lv_topl (fun x4_297 ex4_297 => ?_)
              have hf := nm_nm ex4_297 hf
              refine lv_lstore (lv' := [(4, .long x4_297), (0, .ref aZ), (1, .int x1), (2, .int x2_220), (3, .int x3_293)]) hx hb dX5_sort_18 hl (by decide) rfl (fun ls hl => ?_)
              refine lv_iload_n hx hb dX5_sort_20 rfl (lv_at hl 4 rfl) ?_
              refine lv_istore (lv' := [(6, .int x3_293), (4, .long x4_297), (0, .ref aZ), (1, .int x1), (2, .int x2_220), (3, .int x3_293)]) hx hb dX5_sort_21 hl (by decide) rfl (fun ls hl => ?_)
              have L_23_313 : ∀ (k : Nat) (Z_314 : Nat → Int64) (x6_315 : Int32) (o_313 : ((Nat → Int64) × Int32)), f_Table_sort_L2 n x2_220 x4_297 k Z_314 x6_315 = some o_313 → ∀ (H : Heap) (locs : List Loc), va_P D vwCl [(aZ, .inl (cJ, 500, .inr (.inl Z_314)))] H → va_D A [(aZ, .inl (cJ, 500, .inr (.inl Z_314)))] → va_S A s.heap H locs → ∀ ls : Array Slot, lv_has ls 7 [(0, .ref aZ), (1, .int x1), (2, .int x2_220), (3, .int x3_293), (4, .long x4_297), (6, .int x6_315)] → (∀ (Z_316 : Nat → Int64) (x6_317 : Int32), some ((Z_316, x6_317)) = some o_313 → ∀ (H : Heap) (locs : List Loc), va_P D vwCl [(aZ, .inl (cJ, 500, .inr (.inl Z_316)))] H → va_D A [(aZ, .inl (cJ, 500, .inr (.inl Z_316)))] → va_S A s.heap H locs → ∀ ls : Array Slot, lv_has ls 7 [(0, .ref aZ), (1, .int x1), (2, .int x2_220), (3, .int x3_293), (4, .long x4_297), (6, .int x6_317)] → W p l e rm_f_Table_sort s m args below meth c H locs 0 0 Q (F0 m 60 ls [])) → W p l e rm_f_Table_sort s m args below meth c H locs 0 0 Q (F0 m 23 ls []) := by
                intro k
                induction k with
                | zero =>
                  intro Z_314 x6_315 o_313 hf
                  exact absurd (((f_Table_sort_L2_z n x2_220 x4_297 Z_314 x6_315).symm.trans hf)) (fun h => by cases h)
                | succ k ih =>
                  intro Z_314 x6_315 o_313 hf H locs hP hD hS ls hl hX_313
                  have hf := (f_Table_sort_L2_s n x2_220 x4_297 k Z_314 x6_315).symm.trans hf
                  refine lv_iload hx hb dX5_sort_23 (lv_at hl 5 rfl) ?_
                  refine lv_iload_n hx hb dX5_sort_25 rfl (lv_at hl 2 rfl) ?_
                  refine lv_icmp_lt (tgt := 60) hx hb dX5_sort_26 (by decide) (fun c_318 => ?_) (fun c_318 => ?_)
                  · have hf := xb_t c_318 hf
                    exact hX_313 Z_314 x6_315 hf _ _ hP hD hS _ hl
                  · have hf := xb_f c_318 hf
                    refine lv_aload_n hx hb dX5_sort_29 rfl (lv_at hl 0 rfl) ?_
                    refine lv_iload hx hb dX5_sort_30 (lv_at hl 5 rfl) ?_
                    refine lv_iload_n hx hb dX5_sort_32 rfl (lv_at hl 2 rfl) ?_
                    refine lv_isub hx hb dX5_sort_33 ?_
                    have g_319 : vp_in (x6_315 - x2_220) 500 := gd_in hf
                    have hf := gd_el hf
                    refine va_lald hx hb hK hP 0 1 rfl rfl g_319 dX5_sort_34 ?_
                    refine lv_lload hx hb dX5_sort_35 (lv_at hl 4 rfl) ?_
                    refine W.lcmp hx hb dX5_sort_37 ?_
                    refine lv_if_le (tgt := 60) hx hb dX5_sort_38 (by decide) (fun c_320 => ?_) (fun c_320 => ?_)
                    · have hf := xb_t c_320 hf
                      exact hX_313 Z_314 x6_315 hf _ _ hP hD hS _ hl
                    · have hf := xb_f c_320 hf
                      refine lv_aload_n hx hb dX5_sort_41 rfl (lv_at hl 0 rfl) ?_
                      refine lv_iload hx hb dX5_sort_42 (lv_at hl 5 rfl) ?_
                      refine lv_aload_n hx hb dX5_sort_44 rfl (lv_at hl 0 rfl) ?_
                      refine lv_iload hx hb dX5_sort_45 (lv_at hl 5 rfl) ?_
                      refine lv_iload_n hx hb dX5_sort_47 rfl (lv_at hl 2 rfl) ?_
                      refine lv_isub hx hb dX5_sort_48 ?_
                      refine va_lald hx hb hK hP 0 1 rfl rfl g_319 dX5_sort_49 ?_
                      refine lv_topl (fun v_321 ev_321 => ?_)
                      have hf := nm_nm ev_321 hf
                      have g_322 : vp_in x6_315 500 := gd_in hf
                      have hf := gd_el hf
                      refine x_last hx hb hK hP hD hS 0 1 rfl rfl g_322 dX5_sort_50 (fun Z_323 eZ_323 H locs hP hD hS => ?_)
                      have hf := nm_nm eZ_323 hf
                      have hP : va_P D vwCl [(aZ, .inl (cJ, 500, .inr (.inl Z_323)))] H := hP
                      have hD : va_D A [(aZ, .inl (cJ, 500, .inr (.inl Z_323)))] := hD
                      refine lv_iload hx hb dX5_sort_51 (lv_at hl 5 rfl) ?_
                      refine lv_iload_n hx hb dX5_sort_53 rfl (lv_at hl 2 rfl) ?_
                      refine lv_isub hx hb dX5_sort_54 ?_
                      refine lv_topi (fun x6_324 ex6_324 => ?_)
                      have hf := nm_nm ex6_324 hf
                      refine lv_istore (lv' := [(6, .int x6_324), (0, .ref aZ), (1, .int x1), (2, .int x2_220), (3, .int x3_293), (4, .long x4_297)]) hx hb dX5_sort_55 hl (by decide) rfl (fun ls hl => ?_)
                      refine lv_goto (tgt := 23) hx hb dX5_sort_57 (by decide) ?_
                      exact ih Z_323 x6_324 o_313 hf _ _ hP hD hS _ (lv_sub hl [1, 2, 3, 4, 5, 0] rfl) hX_313
              obtain ⟨o_313, ho_313, hk_313⟩ := bn2_s hf
              refine L_23_313 n Z_292 x3_293 o_313 ho_313 _ _ hP hD hS _ (lv_sub hl [2, 3, 4, 5, 1, 0] rfl) (fun Z_316 x6_317 hf H locs hP hD hS ls hl => ?_)
              have hf := hk_313 _ _ hf
              refine lv_aload_n hx hb dX5_sort_60 rfl (lv_at hl 0 rfl) ?_
              refine lv_iload hx hb dX5_sort_61 (lv_at hl 5 rfl) ?_
              refine lv_lload hx hb dX5_sort_63 (lv_at hl 4 rfl) ?_
              have g_325 : vp_in x6_317 500 := gd_in hf
              have hf := gd_el hf
              refine x_last hx hb hK hP hD hS 0 1 rfl rfl g_325 dX5_sort_65 (fun Z_326 eZ_326 H locs hP hD hS => ?_)
              have hf := nm_nm eZ_326 hf
              have hP : va_P D vwCl [(aZ, .inl (cJ, 500, .inr (.inl Z_326)))] H := hP
              have hD : va_D A [(aZ, .inl (cJ, 500, .inr (.inl Z_326)))] := hD
              obtain ⟨x3_327, ex3_327⟩ : ∃ y : Int32, y = x3_293 + (1 : Int32) := ⟨_, rfl⟩
              have hf := nm_nm ex3_327 hf
              refine lv_iinc (v := x3_327) (lv' := [(3, .int x3_327), (0, .ref aZ), (1, .int x1), (2, .int x2_220), (4, .long x4_297), (6, .int x6_317)]) hx hb dX5_sort_66 hl (k := 3) rfl (by rw [ex3_327]; rfl) (by decide) rfl (fun ls hl => ?_)
              refine lv_goto (tgt := 10) hx hb dX5_sort_69 (by decide) ?_
              exact ih Z_326 x3_327 o_291 hf _ _ hP hD hS _ (lv_sub hl [1, 2, 3, 0] rfl) hX_291
        obtain ⟨o_291, ho_291, hk_291⟩ := bn1_s hf
        refine L_10_291 n Z_219 x2_220 o_291 ho_291 _ _ hP hD hS _ (lv_sub hl [1, 2, 3, 0] rfl) (fun Z_294 hf H locs hP hD hS ls hl => ?_)
        have hf := hk_291 _ hf
        refine lv_iload_n hx hb dX5_sort_72 rfl (lv_at hl 2 rfl) ?_
        refine lv_iconst (v := (2 : Int32)) hx hb dX5_sort_73 (by decide) ?_
        refine lv_idiv hx hb dX5_sort_74 (by decide) ?_
        refine lv_topi (fun x2_328 ex2_328 => ?_)
        have hf := nm_nm ex2_328 hf
        refine lv_istore_n (lv' := [(2, .int x2_328), (0, .ref aZ), (1, .int x1)]) hx hb dX5_sort_75 rfl hl (by decide) rfl (fun ls hl => ?_)
        refine lv_goto (tgt := 4) hx hb dX5_sort_76 (by decide) ?_
        exact ih Z_294 x2_328 o_218 hf _ _ hP hD hS _ (lv_sub hl [1, 2, 0] rfl) hX_218
  obtain ⟨o_218, ho_218, hk_218⟩ := bn1_s hf
  refine L_4_218 n Z x2_1 o_218 ho_218 _ _ hP hD hS _ (lv_sub hl [1, 2, 0] rfl) (fun Z_221 hf H locs hP hD hS ls hl => ?_)
  have hf := hk_218 _ hf
  have hf := Option.some.inj hf
  cases hf
  exact x_vret (fun _ => 0) hQ hx hb hr hlk hK hP hD hS dX5_sort_79
abbrev rm_f_Table_bindsTheSame : Room := { frames := 1, cells := 0, slots := 0, locals := 26 }
set_option maxHeartbeats 4000000 in
set_option maxRecDepth 100000 in
theorem c_f_Table_bindsTheSame (l : Launch) (D : va_G) (cI cJ cZ : ClassId) (sz : Nat) (n : Nat) (aB : Nat) (aC : Nat) (aB_rows : Nat) (aB_spare : Nat) (B_count : Int32) (B_found : Int32) (B_crowded : Int32) (aC_rows : Nat) (aC_spare : Nat) (C_count : Int32) (C_found : Int32) (C_crowded : Int32) (B_rows : Nat → Int64) (C_rows : Nat → Int64) (B_spare : Nat → Int64) {r : Int32} {B_rows' : Nat → Int64} {B_spare' : Nat → Int64} (hf : f_Table_bindsTheSame n B_count C_count B_rows C_rows B_spare = some (r, B_rows', B_spare')) : Met l yX5_bindsTheSame (.code yX5_bindsTheSame cX5_bindsTheSame 3 (some .boolean) :: GW) rm_f_Table_bindsTheSame (va_Pc [.ref aB, .ref aC] (xP D (xT cI cJ cZ) sz [(aB, .inr (5, [.ref aB_rows, .ref aB_spare, .int B_count, .int B_found, .int B_crowded])), (aC, .inr (5, [.ref aC_rows, .ref aC_spare, .int C_count, .int C_found, .int C_crowded])), (aB_rows, .inl (cJ, 500, .inr (.inl B_rows))), (aC_rows, .inl (cJ, 500, .inr (.inl C_rows))), (aB_spare, .inl (cJ, 500, .inr (.inl B_spare)))])) (va_Qi (fun r2 (_ : Nat → Nat) => r2 = r ∧ (r = 0 ∨ r = 1)) (bB D (xT cI cJ cZ) (fun _ => [(aB, .inr (5, [.ref aB_rows, .ref aB_spare, .int B_count, .int B_found, .int B_crowded])), (aC, .inr (5, [.ref aC_rows, .ref aC_spare, .int C_count, .int C_found, .int C_crowded])), (aB_rows, .inl (cJ, 500, .inr (.inl B_rows'))), (aC_rows, .inl (cJ, 500, .inr (.inl C_rows))), (aB_spare, .inl (cJ, 500, .inr (.inl B_spare')))]) (va_A [(aB, .inr (5, [.ref aB_rows, .ref aB_spare, .int B_count, .int B_found, .int B_crowded])), (aC, .inr (5, [.ref aC_rows, .ref aC_spare, .int C_count, .int C_found, .int C_crowded])), (aB_rows, .inl (cJ, 500, .inr (.inl B_rows))), (aC_rows, .inl (cJ, 500, .inr (.inl C_rows))), (aB_spare, .inl (cJ, 500, .inr (.inl B_spare)))] sz)) (va_A [(aB, .inr (5, [.ref aB_rows, .ref aB_spare, .int B_count, .int B_found, .int B_crowded])), (aC, .inr (5, [.ref aC_rows, .ref aC_spare, .int C_count, .int C_found, .int C_crowded])), (aB_rows, .inl (cJ, 500, .inr (.inl B_rows))), (aC_rows, .inl (cJ, 500, .inr (.inl C_rows))), (aB_spare, .inl (cJ, 500, .inr (.inl B_spare)))] sz)) 0 0 (va_A [(aB, .inr (5, [.ref aB_rows, .ref aB_spare, .int B_count, .int B_found, .int B_crowded])), (aC, .inr (5, [.ref aC_rows, .ref aC_spare, .int C_count, .int C_found, .int C_crowded])), (aB_rows, .inl (cJ, 500, .inr (.inl B_rows))), (aC_rows, .inl (cJ, 500, .inr (.inl C_rows))), (aB_spare, .inl (cJ, 500, .inr (.inl B_spare)))] sz) := by
  refine con_start (Qc := fun A => va_Qi (fun r2 (_ : Nat → Nat) => r2 = r ∧ (r = 0 ∨ r = 1)) (bB D (xT cI cJ cZ) (fun _ => [(aB, .inr (5, [.ref aB_rows, .ref aB_spare, .int B_count, .int B_found, .int B_crowded])), (aC, .inr (5, [.ref aC_rows, .ref aC_spare, .int C_count, .int C_found, .int C_crowded])), (aB_rows, .inl (cJ, 500, .inr (.inl B_rows'))), (aC_rows, .inl (cJ, 500, .inr (.inl C_rows))), (aB_spare, .inl (cJ, 500, .inr (.inl B_spare')))]) A) A) (by decide) (Nat.le_of_ble_eq_true rfl) ?_
  intro p e s m args below meth c Q A hx hb hr hlk hml hown hin htg hN hK hQ hA hP hD hS ls hl
  have hl : lv_has ls 3 [(0, .ref aB), (1, .ref aC)] := hl
  have hown : s.vm.findClass RX5 = some m.cls := hown
  have hf := (f_Table_bindsTheSame_u n B_count C_count B_rows C_rows B_spare).symm.trans hf
  refine lv_aload_n hx hb dX5_bindsTheSame_0 rfl (lv_at hl 0 rfl) ?_
  refine va_get (D := D) (ci := 5) (v := .int B_count) (C := RX5) (T := TX5) (N := 5) hx hb htg giX5 hown hK hP 0 rfl rfl 2 (by decide) (htg _ kw_184) (fun _ h9 => h9) rfl dX5_bindsTheSame_1 ?_
  refine lv_aload_n hx hb dX5_bindsTheSame_4 rfl (lv_at hl 1 rfl) ?_
  refine va_get (D := D) (ci := 5) (v := .int C_count) (C := RX5) (T := TX5) (N := 5) hx hb htg giX5 hown hK hP 1 rfl rfl 2 (by decide) (htg _ kw_184) (fun _ h9 => h9) rfl dX5_bindsTheSame_5 ?_
  refine lv_icmp_eq (tgt := 13) hx hb dX5_bindsTheSame_8 (by decide) (fun c_1 => ?_) (fun c_1 => ?_)
  · have hf := xb_t c_1 hf
    refine lv_iconst (v := (0 : Int32)) hx hb dX5_bindsTheSame_13 (by decide) ?_
    refine lv_istore_n (lv' := [(2, .int (0 : Int32)), (0, .ref aB), (1, .ref aC)]) hx hb dX5_bindsTheSame_14 rfl hl (by decide) rfl (fun ls hl => ?_)
    have L_15_18 : ∀ (k : Nat) (B_rows_19 : Nat → Int64) (B_spare_20 : Nat → Int64) (x2_21 : Int32) (o_18 : ((Nat → Int64) × (Nat → Int64))), f_Table_bindsTheSame_L0 n B_count C_rows k B_rows_19 B_spare_20 x2_21 = some o_18 → ∀ (H : Heap) (locs : List Loc), va_P D vwCl [(aB, .inr (5, [.ref aB_rows, .ref aB_spare, .int B_count, .int B_found, .int B_crowded])), (aC, .inr (5, [.ref aC_rows, .ref aC_spare, .int C_count, .int C_found, .int C_crowded])), (aB_rows, .inl (cJ, 500, .inr (.inl B_rows_19))), (aC_rows, .inl (cJ, 500, .inr (.inl C_rows))), (aB_spare, .inl (cJ, 500, .inr (.inl B_spare_20)))] H → va_D A [(aB, .inr (5, [.ref aB_rows, .ref aB_spare, .int B_count, .int B_found, .int B_crowded])), (aC, .inr (5, [.ref aC_rows, .ref aC_spare, .int C_count, .int C_found, .int C_crowded])), (aB_rows, .inl (cJ, 500, .inr (.inl B_rows_19))), (aC_rows, .inl (cJ, 500, .inr (.inl C_rows))), (aB_spare, .inl (cJ, 500, .inr (.inl B_spare_20)))] → va_S A s.heap H locs → ∀ ls : Array Slot, lv_has ls 3 [(0, .ref aB), (1, .ref aC), (2, .int x2_21)] → (∀ (B_rows_22 : Nat → Int64) (B_spare_23 : Nat → Int64), some ((B_rows_22, B_spare_23)) = some o_18 → ∀ (H : Heap) (locs : List Loc), va_P D vwCl [(aB, .inr (5, [.ref aB_rows, .ref aB_spare, .int B_count, .int B_found, .int B_crowded])), (aC, .inr (5, [.ref aC_rows, .ref aC_spare, .int C_count, .int C_found, .int C_crowded])), (aB_rows, .inl (cJ, 500, .inr (.inl B_rows_22))), (aC_rows, .inl (cJ, 500, .inr (.inl C_rows))), (aB_spare, .inl (cJ, 500, .inr (.inl B_spare_23)))] H → va_D A [(aB, .inr (5, [.ref aB_rows, .ref aB_spare, .int B_count, .int B_found, .int B_crowded])), (aC, .inr (5, [.ref aC_rows, .ref aC_spare, .int C_count, .int C_found, .int C_crowded])), (aB_rows, .inl (cJ, 500, .inr (.inl B_rows_22))), (aC_rows, .inl (cJ, 500, .inr (.inl C_rows))), (aB_spare, .inl (cJ, 500, .inr (.inl B_spare_23)))] → va_S A s.heap H locs → ∀ ls : Array Slot, lv_has ls 3 [(0, .ref aB)] → W p l e rm_f_Table_bindsTheSame s m args below meth c H locs 0 0 Q (F0 m 57 ls [])) → W p l e rm_f_Table_bindsTheSame s m args below meth c H locs 0 0 Q (F0 m 15 ls []) := by
      intro k
      induction k with
      | zero =>
        intro B_rows_19 B_spare_20 x2_21 o_18 hf
        exact absurd (((f_Table_bindsTheSame_L0_z n B_count C_rows B_rows_19 B_spare_20 x2_21).symm.trans hf)) (fun h => by cases h)
      | succ k ih =>
        intro B_rows_19 B_spare_20 x2_21 o_18 hf H locs hP hD hS ls hl hX_18
        have hf := (f_Table_bindsTheSame_L0_s n B_count C_rows k B_rows_19 B_spare_20 x2_21).symm.trans hf
        refine lv_iload_n hx hb dX5_bindsTheSame_15 rfl (lv_at hl 2 rfl) ?_
        refine lv_aload_n hx hb dX5_bindsTheSame_16 rfl (lv_at hl 0 rfl) ?_
        refine va_get (D := D) (ci := 5) (v := .int B_count) (C := RX5) (T := TX5) (N := 5) hx hb htg giX5 hown hK hP 0 rfl rfl 2 (by decide) (htg _ kw_184) (fun _ h9 => h9) rfl dX5_bindsTheSame_17 ?_
        refine lv_icmp_ge (tgt := 57) hx hb dX5_bindsTheSame_20 (by decide) (fun c_24 => ?_) (fun c_24 => ?_)
        · have hf := xb_t c_24 hf
          exact hX_18 B_rows_19 B_spare_20 hf _ _ hP hD hS _ (lv_sub hl [0] rfl)
        · have hf := xb_f c_24 hf
          refine lv_aload_n hx hb dX5_bindsTheSame_23 rfl (lv_at hl 0 rfl) ?_
          refine va_get (D := D) (ci := 5) (v := .ref aB_rows) (C := RX5) (T := TX5) (N := 5) hx hb htg giX5 hown hK hP 0 rfl rfl 0 (by decide) (htg _ kw_181) (fun _ h9 => h9) rfl dX5_bindsTheSame_24 ?_
          refine lv_iload_n hx hb dX5_bindsTheSame_27 rfl (lv_at hl 2 rfl) ?_
          refine lv_dup2_11 hx hb dX5_bindsTheSame_28 rfl rfl ?_
          have g_25 : vp_in x2_21 500 := gd_in hf
          have hf := gd_el hf
          refine va_lald hx hb hK hP 2 1 rfl rfl g_25 dX5_bindsTheSame_29 ?_
          refine lv_ldc2 (v := (281474976710655 : Int64)) hx hb hown (htg _ kw_553) dX5_bindsTheSame_30 ?_
          refine lv_land hx hb dX5_bindsTheSame_33 ?_
          refine lv_topl (fun v_26 ev_26 => ?_)
          have hf := nm_nm ev_26 hf
          refine x_last hx hb hK hP hD hS 2 1 rfl rfl g_25 dX5_bindsTheSame_34 (fun B_rows_27 eB_rows_27 H locs hP hD hS => ?_)
          have hf := nm_nm eB_rows_27 hf
          have hP : va_P D vwCl [(aB, .inr (5, [.ref aB_rows, .ref aB_spare, .int B_count, .int B_found, .int B_crowded])), (aC, .inr (5, [.ref aC_rows, .ref aC_spare, .int C_count, .int C_found, .int C_crowded])), (aB_rows, .inl (cJ, 500, .inr (.inl B_rows_27))), (aC_rows, .inl (cJ, 500, .inr (.inl C_rows))), (aB_spare, .inl (cJ, 500, .inr (.inl B_spare_20)))] H := hP
          have hD : va_D A [(aB, .inr (5, [.ref aB_rows, .ref aB_spare, .int B_count, .int B_found, .int B_crowded])), (aC, .inr (5, [.ref aC_rows, .ref aC_spare, .int C_count, .int C_found, .int C_crowded])), (aB_rows, .inl (cJ, 500, .inr (.inl B_rows_27))), (aC_rows, .inl (cJ, 500, .inr (.inl C_rows))), (aB_spare, .inl (cJ, 500, .inr (.inl B_spare_20)))] := hD
          refine lv_aload_n hx hb dX5_bindsTheSame_35 rfl (lv_at hl 0 rfl) ?_
          refine va_get (D := D) (ci := 5) (v := .ref aB_spare) (C := RX5) (T := TX5) (N := 5) hx hb htg giX5 hown hK hP 0 rfl rfl 1 (by decide) (htg _ kw_183) (fun _ h9 => h9) rfl dX5_bindsTheSame_36 ?_
          refine lv_iload_n hx hb dX5_bindsTheSame_39 rfl (lv_at hl 2 rfl) ?_
          refine lv_aload_n hx hb dX5_bindsTheSame_40 rfl (lv_at hl 1 rfl) ?_
          refine va_get (D := D) (ci := 5) (v := .ref aC_rows) (C := RX5) (T := TX5) (N := 5) hx hb htg giX5 hown hK hP 1 rfl rfl 0 (by decide) (htg _ kw_181) (fun _ h9 => h9) rfl dX5_bindsTheSame_41 ?_
          refine lv_iload_n hx hb dX5_bindsTheSame_44 rfl (lv_at hl 2 rfl) ?_
          refine va_lald hx hb hK hP 3 1 rfl rfl g_25 dX5_bindsTheSame_45 ?_
          refine lv_ldc2 (v := (281474976710655 : Int64)) hx hb hown (htg _ kw_553) dX5_bindsTheSame_46 ?_
          refine lv_land hx hb dX5_bindsTheSame_49 ?_
          refine lv_topl (fun v_28 ev_28 => ?_)
          have hf := nm_nm ev_28 hf
          refine x_last hx hb hK hP hD hS 4 1 rfl rfl g_25 dX5_bindsTheSame_50 (fun B_spare_29 eB_spare_29 H locs hP hD hS => ?_)
          have hf := nm_nm eB_spare_29 hf
          have hP : va_P D vwCl [(aB, .inr (5, [.ref aB_rows, .ref aB_spare, .int B_count, .int B_found, .int B_crowded])), (aC, .inr (5, [.ref aC_rows, .ref aC_spare, .int C_count, .int C_found, .int C_crowded])), (aB_rows, .inl (cJ, 500, .inr (.inl B_rows_27))), (aC_rows, .inl (cJ, 500, .inr (.inl C_rows))), (aB_spare, .inl (cJ, 500, .inr (.inl B_spare_29)))] H := hP
          have hD : va_D A [(aB, .inr (5, [.ref aB_rows, .ref aB_spare, .int B_count, .int B_found, .int B_crowded])), (aC, .inr (5, [.ref aC_rows, .ref aC_spare, .int C_count, .int C_found, .int C_crowded])), (aB_rows, .inl (cJ, 500, .inr (.inl B_rows_27))), (aC_rows, .inl (cJ, 500, .inr (.inl C_rows))), (aB_spare, .inl (cJ, 500, .inr (.inl B_spare_29)))] := hD
          obtain ⟨x2_30, ex2_30⟩ : ∃ y : Int32, y = x2_21 + (1 : Int32) := ⟨_, rfl⟩
          have hf := nm_nm ex2_30 hf
          refine lv_iinc (v := x2_30) (lv' := [(2, .int x2_30), (0, .ref aB), (1, .ref aC)]) hx hb dX5_bindsTheSame_51 hl (k := 2) rfl (by rw [ex2_30]; rfl) (by decide) rfl (fun ls hl => ?_)
          refine lv_goto (tgt := 15) hx hb dX5_bindsTheSame_54 (by decide) ?_
          exact ih B_rows_27 B_spare_29 x2_30 o_18 hf _ _ hP hD hS _ (lv_sub hl [1, 2, 0] rfl) hX_18
    obtain ⟨o_18, ho_18, hk_18⟩ := bn2_s hf
    refine L_15_18 n B_rows B_spare (0 : Int32) o_18 ho_18 _ _ hP hD hS _ (lv_sub hl [1, 2, 0] rfl) (fun B_rows_22 B_spare_23 hf H locs hP hD hS ls hl => ?_)
    have hf := hk_18 _ _ hf
    refine lv_aload_n hx hb dX5_bindsTheSame_57 rfl (lv_at hl 0 rfl) ?_
    refine va_get (D := D) (ci := 5) (v := .ref aB_rows) (C := RX5) (T := TX5) (N := 5) hx hb htg giX5 hown hK hP 0 rfl rfl 0 (by decide) (htg _ kw_181) (fun _ h9 => h9) rfl dX5_bindsTheSame_58 ?_
    refine lv_aload_n hx hb dX5_bindsTheSame_61 rfl (lv_at hl 0 rfl) ?_
    refine va_get (D := D) (ci := 5) (v := .int B_count) (C := RX5) (T := TX5) (N := 5) hx hb htg giX5 hown hK hP 0 rfl rfl 2 (by decide) (htg _ kw_184) (fun _ h9 => h9) rfl dX5_bindsTheSame_62 ?_
    obtain ⟨B_rows_32, hq_31, hf⟩ := bn1_c hf
    refine x_v (xrS (As := [.ref aB_rows, .int B_count]) (rest := []) ⟨hx, hb, hml, hown, htg⟩ (c_f_Table_sort l D cI cJ cZ _ n aB_rows B_count B_rows_22 hq_31) kc_f_Table_sort kw_554 kw_555 kw_7 dd_f_Table_sort ⟨Nat.le_of_ble_eq_true rfl, Nat.le_of_ble_eq_true rfl⟩ rfl rfl (hP.sub [2] rfl) (hD.sub [2] (by decide) rfl) hK hN rfl hl.1 rfl (Nat.le_of_ble_eq_true rfl) dX5_bindsTheSame_65 ⟨Nat.le_of_ble_eq_true rfl, Nat.le_of_ble_eq_true rfl⟩) hP hD hS hA [2] [0, 1, 3, 4] rfl rfl (by decide) (by decide) (fun _ H locs hP hD hS => ?_)
    have hP : va_P D vwCl [(aB, .inr (5, [.ref aB_rows, .ref aB_spare, .int B_count, .int B_found, .int B_crowded])), (aC, .inr (5, [.ref aC_rows, .ref aC_spare, .int C_count, .int C_found, .int C_crowded])), (aC_rows, .inl (cJ, 500, .inr (.inl C_rows))), (aB_spare, .inl (cJ, 500, .inr (.inl B_spare_23))), (aB_rows, .inl (cJ, 500, .inr (.inl B_rows_32)))] H := hP
    have hD : va_D A [(aB, .inr (5, [.ref aB_rows, .ref aB_spare, .int B_count, .int B_found, .int B_crowded])), (aC, .inr (5, [.ref aC_rows, .ref aC_spare, .int C_count, .int C_found, .int C_crowded])), (aC_rows, .inl (cJ, 500, .inr (.inl C_rows))), (aB_spare, .inl (cJ, 500, .inr (.inl B_spare_23))), (aB_rows, .inl (cJ, 500, .inr (.inl B_rows_32)))] := hD
    refine lv_aload_n hx hb dX5_bindsTheSame_68 rfl (lv_at hl 0 rfl) ?_
    refine va_get (D := D) (ci := 5) (v := .ref aB_spare) (C := RX5) (T := TX5) (N := 5) hx hb htg giX5 hown hK hP 0 rfl rfl 1 (by decide) (htg _ kw_183) (fun _ h9 => h9) rfl dX5_bindsTheSame_69 ?_
    refine lv_aload_n hx hb dX5_bindsTheSame_72 rfl (lv_at hl 0 rfl) ?_
    refine va_get (D := D) (ci := 5) (v := .int B_count) (C := RX5) (T := TX5) (N := 5) hx hb htg giX5 hown hK hP 0 rfl rfl 2 (by decide) (htg _ kw_184) (fun _ h9 => h9) rfl dX5_bindsTheSame_73 ?_
    obtain ⟨B_spare_34, hq_33, hf⟩ := bn1_c hf
    refine x_v (xrS (As := [.ref aB_spare, .int B_count]) (rest := []) ⟨hx, hb, hml, hown, htg⟩ (c_f_Table_sort l D cI cJ cZ _ n aB_spare B_count B_spare_23 hq_33) kc_f_Table_sort kw_554 kw_555 kw_7 dd_f_Table_sort ⟨Nat.le_of_ble_eq_true rfl, Nat.le_of_ble_eq_true rfl⟩ rfl rfl (hP.sub [3] rfl) (hD.sub [3] (by decide) rfl) hK hN rfl hl.1 rfl (Nat.le_of_ble_eq_true rfl) dX5_bindsTheSame_76 ⟨Nat.le_of_ble_eq_true rfl, Nat.le_of_ble_eq_true rfl⟩) hP hD hS hA [3] [0, 1, 2, 4] rfl rfl (by decide) (by decide) (fun _ H locs hP hD hS => ?_)
    have hP : va_P D vwCl [(aB, .inr (5, [.ref aB_rows, .ref aB_spare, .int B_count, .int B_found, .int B_crowded])), (aC, .inr (5, [.ref aC_rows, .ref aC_spare, .int C_count, .int C_found, .int C_crowded])), (aC_rows, .inl (cJ, 500, .inr (.inl C_rows))), (aB_rows, .inl (cJ, 500, .inr (.inl B_rows_32))), (aB_spare, .inl (cJ, 500, .inr (.inl B_spare_34)))] H := hP
    have hD : va_D A [(aB, .inr (5, [.ref aB_rows, .ref aB_spare, .int B_count, .int B_found, .int B_crowded])), (aC, .inr (5, [.ref aC_rows, .ref aC_spare, .int C_count, .int C_found, .int C_crowded])), (aC_rows, .inl (cJ, 500, .inr (.inl C_rows))), (aB_rows, .inl (cJ, 500, .inr (.inl B_rows_32))), (aB_spare, .inl (cJ, 500, .inr (.inl B_spare_34)))] := hD
    refine lv_iconst (v := (0 : Int32)) hx hb dX5_bindsTheSame_79 (by decide) ?_
    refine lv_istore_n (lv' := [(2, .int (0 : Int32)), (0, .ref aB)]) hx hb dX5_bindsTheSame_80 rfl hl (by decide) rfl (fun ls hl => ?_)
    have L_81_43 : ∀ (k : Nat) (x2_44 : Int32) (o_43 : ((Int32 × (Nat → Int64) × (Nat → Int64)) ⊕ Unit)), f_Table_bindsTheSame_L1 n B_count B_rows_32 B_spare_34 k x2_44 = some o_43 → (∀ z : (Int32 × (Nat → Int64) × (Nat → Int64)), some (Sum.inl z) = some o_43 → z = (r, B_rows', B_spare')) → ∀ (H : Heap) (locs : List Loc), va_P D vwCl [(aB, .inr (5, [.ref aB_rows, .ref aB_spare, .int B_count, .int B_found, .int B_crowded])), (aC, .inr (5, [.ref aC_rows, .ref aC_spare, .int C_count, .int C_found, .int C_crowded])), (aB_rows, .inl (cJ, 500, .inr (.inl B_rows_32))), (aC_rows, .inl (cJ, 500, .inr (.inl C_rows))), (aB_spare, .inl (cJ, 500, .inr (.inl B_spare_34)))] H → va_D A [(aB, .inr (5, [.ref aB_rows, .ref aB_spare, .int B_count, .int B_found, .int B_crowded])), (aC, .inr (5, [.ref aC_rows, .ref aC_spare, .int C_count, .int C_found, .int C_crowded])), (aB_rows, .inl (cJ, 500, .inr (.inl B_rows_32))), (aC_rows, .inl (cJ, 500, .inr (.inl C_rows))), (aB_spare, .inl (cJ, 500, .inr (.inl B_spare_34)))] → va_S A s.heap H locs → ∀ ls : Array Slot, lv_has ls 3 [(0, .ref aB), (2, .int x2_44)] → (some (Sum.inr ()) = some o_43 → ∀ (H : Heap) (locs : List Loc), va_P D vwCl [(aB, .inr (5, [.ref aB_rows, .ref aB_spare, .int B_count, .int B_found, .int B_crowded])), (aC, .inr (5, [.ref aC_rows, .ref aC_spare, .int C_count, .int C_found, .int C_crowded])), (aB_rows, .inl (cJ, 500, .inr (.inl B_rows_32))), (aC_rows, .inl (cJ, 500, .inr (.inl C_rows))), (aB_spare, .inl (cJ, 500, .inr (.inl B_spare_34)))] H → va_D A [(aB, .inr (5, [.ref aB_rows, .ref aB_spare, .int B_count, .int B_found, .int B_crowded])), (aC, .inr (5, [.ref aC_rows, .ref aC_spare, .int C_count, .int C_found, .int C_crowded])), (aB_rows, .inl (cJ, 500, .inr (.inl B_rows_32))), (aC_rows, .inl (cJ, 500, .inr (.inl C_rows))), (aB_spare, .inl (cJ, 500, .inr (.inl B_spare_34)))] → va_S A s.heap H locs → ∀ ls : Array Slot, lv_has ls 3 [] → W p l e rm_f_Table_bindsTheSame s m args below meth c H locs 0 0 Q (F0 m 113 ls [])) → W p l e rm_f_Table_bindsTheSame s m args below meth c H locs 0 0 Q (F0 m 81 ls []) := by
      intro k
      induction k with
      | zero =>
        intro x2_44 o_43 hf
        exact absurd (((f_Table_bindsTheSame_L1_z n B_count B_rows_32 B_spare_34 x2_44).symm.trans hf)) (fun h => by cases h)
      | succ k ih =>
        intro x2_44 o_43 hf hret_43 H locs hP hD hS ls hl hX_43
        have hf := (f_Table_bindsTheSame_L1_s n B_count B_rows_32 B_spare_34 k x2_44).symm.trans hf
        refine lv_iload_n hx hb dX5_bindsTheSame_81 rfl (lv_at hl 1 rfl) ?_
        refine lv_aload_n hx hb dX5_bindsTheSame_82 rfl (lv_at hl 0 rfl) ?_
        refine va_get (D := D) (ci := 5) (v := .int B_count) (C := RX5) (T := TX5) (N := 5) hx hb htg giX5 hown hK hP 0 rfl rfl 2 (by decide) (htg _ kw_184) (fun _ h9 => h9) rfl dX5_bindsTheSame_83 ?_
        refine lv_icmp_ge (tgt := 113) hx hb dX5_bindsTheSame_86 (by decide) (fun c_45 => ?_) (fun c_45 => ?_)
        · have hf := xb_t c_45 hf
          exact hX_43  hf _ _ hP hD hS _ (lv_sub hl [] rfl)
        · have hf := xb_f c_45 hf
          refine lv_aload_n hx hb dX5_bindsTheSame_89 rfl (lv_at hl 0 rfl) ?_
          refine va_get (D := D) (ci := 5) (v := .ref aB_rows) (C := RX5) (T := TX5) (N := 5) hx hb htg giX5 hown hK hP 0 rfl rfl 0 (by decide) (htg _ kw_181) (fun _ h9 => h9) rfl dX5_bindsTheSame_90 ?_
          refine lv_iload_n hx hb dX5_bindsTheSame_93 rfl (lv_at hl 1 rfl) ?_
          have g_46 : vp_in x2_44 500 := gd_in hf
          have hf := gd_el hf
          refine va_lald hx hb hK hP 2 1 rfl rfl g_46 dX5_bindsTheSame_94 ?_
          refine lv_aload_n hx hb dX5_bindsTheSame_95 rfl (lv_at hl 0 rfl) ?_
          refine va_get (D := D) (ci := 5) (v := .ref aB_spare) (C := RX5) (T := TX5) (N := 5) hx hb htg giX5 hown hK hP 0 rfl rfl 1 (by decide) (htg _ kw_183) (fun _ h9 => h9) rfl dX5_bindsTheSame_96 ?_
          refine lv_iload_n hx hb dX5_bindsTheSame_99 rfl (lv_at hl 1 rfl) ?_
          refine va_lald hx hb hK hP 4 1 rfl rfl g_46 dX5_bindsTheSame_100 ?_
          refine W.lcmp hx hb dX5_bindsTheSame_101 ?_
          refine lv_if_eq (tgt := 107) hx hb dX5_bindsTheSame_102 (by decide) (fun c_47 => ?_) (fun c_47 => ?_)
          · have hf := xb_t c_47 hf
            obtain ⟨x2_48, ex2_48⟩ : ∃ y : Int32, y = x2_44 + (1 : Int32) := ⟨_, rfl⟩
            have hf := nm_nm ex2_48 hf
            refine lv_iinc (v := x2_48) (lv' := [(2, .int x2_48), (0, .ref aB)]) hx hb dX5_bindsTheSame_107 hl (k := 1) rfl (by rw [ex2_48]; rfl) (by decide) rfl (fun ls hl => ?_)
            refine lv_goto (tgt := 81) hx hb dX5_bindsTheSame_110 (by decide) ?_
            exact ih x2_48 o_43 hf hret_43 _ _ hP hD hS _ (lv_sub hl [1, 0] rfl) hX_43
          · have hf := xb_f c_47 hf
            refine lv_iconst (v := (0 : Int32)) hx hb dX5_bindsTheSame_105 (by decide) ?_
            have hf := congrArg some (hret_43 _ hf)
            have hf := Option.some.inj hf
            cases hf
            exact x_zret (fun _ => 0) hQ hx hb hr hlk (by decide) hK hP hD hS dX5_bindsTheSame_106
    obtain ⟨o_43, ho_43, hret_43, hk_43⟩ := bd0_s hf
    refine L_81_43 n (0 : Int32) o_43 ho_43 hret_43 _ _ (hP.sub [0, 1, 3, 2, 4] rfl) (hD.sub [0, 1, 3, 2, 4] (by decide) rfl) hS _ (lv_sub hl [1, 0] rfl) (fun  hf H locs hP hD hS ls hl => ?_)
    have hf := hk_43  hf
    refine lv_iconst (v := (1 : Int32)) hx hb dX5_bindsTheSame_113 (by decide) ?_
    have hf := Option.some.inj hf
    cases hf
    exact x_zret (fun _ => 0) hQ hx hb hr hlk (by decide) hK hP hD hS dX5_bindsTheSame_114
  · have hf := xb_f c_1 hf
    refine lv_iconst (v := (0 : Int32)) hx hb dX5_bindsTheSame_11 (by decide) ?_
    have hf := Option.some.inj hf
    cases hf
    exact x_zret (fun _ => 0) hQ hx hb hr hlk (by decide) hK hP hD hS dX5_bindsTheSame_12
abbrev rm_f_JoinOrder_keeps : Room := { frames := 6, cells := 0, slots := 0, locals := 148 }
set_option maxHeartbeats 4000000 in
set_option maxRecDepth 100000 in
theorem c_f_JoinOrder_keeps (l : Launch) (D : va_G) (cI cJ cZ : ClassId) (sz : Nat) (n : Nat) (aJ : Nat) (aT : Nat) (aP : Nat) (aF : Nat) (aQ : Nat) (aM : Nat) (aB : Nat) (J_hasRun : Int32) (aJ_plainOrder : Nat) (aC : Nat) (aB_rows : Nat) (aB_spare : Nat) (B_count : Int32) (B_found : Int32) (B_crowded : Int32) (aP_slots : Nat) (aP_termsSeen : Nat) (aP_matches : Nat) (aP_matchCount : Nat) (aP_variables : Nat) (aP_havingVariable : Nat) (aP_told : Nat) (aP_parent : Nat) (aP_allBefore : Nat) (P_required : Int32) (P_hinted : Int32) (P_count : Int32) (J_plainOrder : Nat → Int32) (P_parent : Nat → Int32) (aC_rows : Nat) (aC_spare : Nat) (C_count : Int32) (C_found : Int32) (C_crowded : Int32) (C_rows : Nat → Int64) (C_spare : Nat → Int64) (P_slots : Nat → Int32) (P_matchCount : Nat → Int32) (P_matches : Nat → Int32) (aF_variable : Nat) (aF_kind : Nat) (aF_value : Nat) (F_safeOnes : Int32) (F_count : Int32) (F_variable : Nat → Int32) (F_kind : Nat → Int32) (F_value : Nat → Int32) (B_rows : Nat → Int64) {r : Int32} {J_plainOrder' : Nat → Int32} {aC_rows' : Nat} {aC_spare' : Nat} {C_count' : Int32} {C_found' : Int32} {C_crowded' : Int32} {C_rows' : Nat → Int64} {C_spare' : Nat → Int64} (hf : f_JoinOrder_keeps n J_hasRun B_count B_crowded P_required P_count J_plainOrder P_parent aC_rows aC_spare C_count C_found C_crowded C_rows C_spare P_slots P_matchCount P_matches F_count F_variable F_kind F_value B_rows = some (r, J_plainOrder', aC_rows', aC_spare', C_count', C_found', C_crowded', C_rows', C_spare')) : Met l yX0_keeps (.code yX0_keeps cX0_keeps 1 (some .boolean) :: GW) rm_f_JoinOrder_keeps (va_Pc [.ref aJ] (xP D (xT cI cJ cZ) sz [(aJ, .inr (0, [.ref aT, .ref aP, .ref aF, .ref aQ, .ref aM, .ref aB, .int J_hasRun, .ref aJ_plainOrder, .ref aC])), (aB, .inr (5, [.ref aB_rows, .ref aB_spare, .int B_count, .int B_found, .int B_crowded])), (aP, .inr (2, [.ref aP_slots, .ref aP_termsSeen, .ref aP_matches, .ref aP_matchCount, .ref aP_variables, .ref aP_havingVariable, .ref aP_told, .ref aP_parent, .ref aP_allBefore, .int P_required, .int P_hinted, .int P_count])), (aJ_plainOrder, .inl (cI, 8, .inl J_plainOrder)), (aP_parent, .inl (cI, 8, .inl P_parent)), (aC, .inr (5, [.ref aC_rows, .ref aC_spare, .int C_count, .int C_found, .int C_crowded])), (aC_rows, .inl (cJ, 500, .inr (.inl C_rows))), (aC_spare, .inl (cJ, 500, .inr (.inl C_spare))), (aP_slots, .inl (cI, 24, .inl P_slots)), (aP_matchCount, .inl (cI, 8, .inl P_matchCount)), (aP_matches, .inl (cI, 640, .inl P_matches)), (aF, .inr (1, [.ref aF_variable, .ref aF_kind, .ref aF_value, .int F_safeOnes, .int F_count])), (aF_variable, .inl (cI, 8, .inl F_variable)), (aF_kind, .inl (cI, 8, .inl F_kind)), (aF_value, .inl (cI, 8, .inl F_value)), (aB_rows, .inl (cJ, 500, .inr (.inl B_rows)))])) (va_Qi (fun r2 (_ : Nat → Nat) => r2 = r ∧ (r = 0 ∨ r = 1)) (bB D (xT cI cJ cZ) (fun _ => [(aJ, .inr (0, [.ref aT, .ref aP, .ref aF, .ref aQ, .ref aM, .ref aB, .int J_hasRun, .ref aJ_plainOrder, .ref aC])), (aB, .inr (5, [.ref aB_rows, .ref aB_spare, .int B_count, .int B_found, .int B_crowded])), (aP, .inr (2, [.ref aP_slots, .ref aP_termsSeen, .ref aP_matches, .ref aP_matchCount, .ref aP_variables, .ref aP_havingVariable, .ref aP_told, .ref aP_parent, .ref aP_allBefore, .int P_required, .int P_hinted, .int P_count])), (aJ_plainOrder, .inl (cI, 8, .inl J_plainOrder')), (aP_parent, .inl (cI, 8, .inl P_parent)), (aC, .inr (5, [.ref aC_rows', .ref aC_spare', .int C_count', .int C_found', .int C_crowded'])), (aC_rows', .inl (cJ, 500, .inr (.inl C_rows'))), (aC_spare', .inl (cJ, 500, .inr (.inl C_spare'))), (aP_slots, .inl (cI, 24, .inl P_slots)), (aP_matchCount, .inl (cI, 8, .inl P_matchCount)), (aP_matches, .inl (cI, 640, .inl P_matches)), (aF, .inr (1, [.ref aF_variable, .ref aF_kind, .ref aF_value, .int F_safeOnes, .int F_count])), (aF_variable, .inl (cI, 8, .inl F_variable)), (aF_kind, .inl (cI, 8, .inl F_kind)), (aF_value, .inl (cI, 8, .inl F_value)), (aB_rows, .inl (cJ, 500, .inr (.inl B_rows)))]) (va_A [(aJ, .inr (0, [.ref aT, .ref aP, .ref aF, .ref aQ, .ref aM, .ref aB, .int J_hasRun, .ref aJ_plainOrder, .ref aC])), (aB, .inr (5, [.ref aB_rows, .ref aB_spare, .int B_count, .int B_found, .int B_crowded])), (aP, .inr (2, [.ref aP_slots, .ref aP_termsSeen, .ref aP_matches, .ref aP_matchCount, .ref aP_variables, .ref aP_havingVariable, .ref aP_told, .ref aP_parent, .ref aP_allBefore, .int P_required, .int P_hinted, .int P_count])), (aJ_plainOrder, .inl (cI, 8, .inl J_plainOrder)), (aP_parent, .inl (cI, 8, .inl P_parent)), (aC, .inr (5, [.ref aC_rows, .ref aC_spare, .int C_count, .int C_found, .int C_crowded])), (aC_rows, .inl (cJ, 500, .inr (.inl C_rows))), (aC_spare, .inl (cJ, 500, .inr (.inl C_spare))), (aP_slots, .inl (cI, 24, .inl P_slots)), (aP_matchCount, .inl (cI, 8, .inl P_matchCount)), (aP_matches, .inl (cI, 640, .inl P_matches)), (aF, .inr (1, [.ref aF_variable, .ref aF_kind, .ref aF_value, .int F_safeOnes, .int F_count])), (aF_variable, .inl (cI, 8, .inl F_variable)), (aF_kind, .inl (cI, 8, .inl F_kind)), (aF_value, .inl (cI, 8, .inl F_value)), (aB_rows, .inl (cJ, 500, .inr (.inl B_rows)))] sz)) (va_A [(aJ, .inr (0, [.ref aT, .ref aP, .ref aF, .ref aQ, .ref aM, .ref aB, .int J_hasRun, .ref aJ_plainOrder, .ref aC])), (aB, .inr (5, [.ref aB_rows, .ref aB_spare, .int B_count, .int B_found, .int B_crowded])), (aP, .inr (2, [.ref aP_slots, .ref aP_termsSeen, .ref aP_matches, .ref aP_matchCount, .ref aP_variables, .ref aP_havingVariable, .ref aP_told, .ref aP_parent, .ref aP_allBefore, .int P_required, .int P_hinted, .int P_count])), (aJ_plainOrder, .inl (cI, 8, .inl J_plainOrder)), (aP_parent, .inl (cI, 8, .inl P_parent)), (aC, .inr (5, [.ref aC_rows, .ref aC_spare, .int C_count, .int C_found, .int C_crowded])), (aC_rows, .inl (cJ, 500, .inr (.inl C_rows))), (aC_spare, .inl (cJ, 500, .inr (.inl C_spare))), (aP_slots, .inl (cI, 24, .inl P_slots)), (aP_matchCount, .inl (cI, 8, .inl P_matchCount)), (aP_matches, .inl (cI, 640, .inl P_matches)), (aF, .inr (1, [.ref aF_variable, .ref aF_kind, .ref aF_value, .int F_safeOnes, .int F_count])), (aF_variable, .inl (cI, 8, .inl F_variable)), (aF_kind, .inl (cI, 8, .inl F_kind)), (aF_value, .inl (cI, 8, .inl F_value)), (aB_rows, .inl (cJ, 500, .inr (.inl B_rows)))] sz)) 0 0 (va_A [(aJ, .inr (0, [.ref aT, .ref aP, .ref aF, .ref aQ, .ref aM, .ref aB, .int J_hasRun, .ref aJ_plainOrder, .ref aC])), (aB, .inr (5, [.ref aB_rows, .ref aB_spare, .int B_count, .int B_found, .int B_crowded])), (aP, .inr (2, [.ref aP_slots, .ref aP_termsSeen, .ref aP_matches, .ref aP_matchCount, .ref aP_variables, .ref aP_havingVariable, .ref aP_told, .ref aP_parent, .ref aP_allBefore, .int P_required, .int P_hinted, .int P_count])), (aJ_plainOrder, .inl (cI, 8, .inl J_plainOrder)), (aP_parent, .inl (cI, 8, .inl P_parent)), (aC, .inr (5, [.ref aC_rows, .ref aC_spare, .int C_count, .int C_found, .int C_crowded])), (aC_rows, .inl (cJ, 500, .inr (.inl C_rows))), (aC_spare, .inl (cJ, 500, .inr (.inl C_spare))), (aP_slots, .inl (cI, 24, .inl P_slots)), (aP_matchCount, .inl (cI, 8, .inl P_matchCount)), (aP_matches, .inl (cI, 640, .inl P_matches)), (aF, .inr (1, [.ref aF_variable, .ref aF_kind, .ref aF_value, .int F_safeOnes, .int F_count])), (aF_variable, .inl (cI, 8, .inl F_variable)), (aF_kind, .inl (cI, 8, .inl F_kind)), (aF_value, .inl (cI, 8, .inl F_value)), (aB_rows, .inl (cJ, 500, .inr (.inl B_rows)))] sz) := by
  refine con_start (Qc := fun A => va_Qi (fun r2 (_ : Nat → Nat) => r2 = r ∧ (r = 0 ∨ r = 1)) (bB D (xT cI cJ cZ) (fun _ => [(aJ, .inr (0, [.ref aT, .ref aP, .ref aF, .ref aQ, .ref aM, .ref aB, .int J_hasRun, .ref aJ_plainOrder, .ref aC])), (aB, .inr (5, [.ref aB_rows, .ref aB_spare, .int B_count, .int B_found, .int B_crowded])), (aP, .inr (2, [.ref aP_slots, .ref aP_termsSeen, .ref aP_matches, .ref aP_matchCount, .ref aP_variables, .ref aP_havingVariable, .ref aP_told, .ref aP_parent, .ref aP_allBefore, .int P_required, .int P_hinted, .int P_count])), (aJ_plainOrder, .inl (cI, 8, .inl J_plainOrder')), (aP_parent, .inl (cI, 8, .inl P_parent)), (aC, .inr (5, [.ref aC_rows', .ref aC_spare', .int C_count', .int C_found', .int C_crowded'])), (aC_rows', .inl (cJ, 500, .inr (.inl C_rows'))), (aC_spare', .inl (cJ, 500, .inr (.inl C_spare'))), (aP_slots, .inl (cI, 24, .inl P_slots)), (aP_matchCount, .inl (cI, 8, .inl P_matchCount)), (aP_matches, .inl (cI, 640, .inl P_matches)), (aF, .inr (1, [.ref aF_variable, .ref aF_kind, .ref aF_value, .int F_safeOnes, .int F_count])), (aF_variable, .inl (cI, 8, .inl F_variable)), (aF_kind, .inl (cI, 8, .inl F_kind)), (aF_value, .inl (cI, 8, .inl F_value)), (aB_rows, .inl (cJ, 500, .inr (.inl B_rows)))]) A) A) (by decide) (Nat.le_of_ble_eq_true rfl) ?_
  intro p e s m args below meth c Q A hx hb hr hlk hml hown hin htg hN hK hQ hA hP hD hS ls hl
  have hl : lv_has ls 1 [(0, .ref aJ)] := hl
  have hown : s.vm.findClass RX0 = some m.cls := hown
  have hf := (f_JoinOrder_keeps_u n J_hasRun B_count B_crowded P_required P_count J_plainOrder P_parent aC_rows aC_spare C_count C_found C_crowded C_rows C_spare P_slots P_matchCount P_matches F_count F_variable F_kind F_value B_rows).symm.trans hf
  refine lv_aload_n hx hb dX0_keeps_0 rfl (lv_at hl 0 rfl) ?_
  refine va_get (D := D) (ci := 0) (v := .int J_hasRun) (C := RX0) (T := TX0) (N := 9) hx hb htg giX0 hown hK hP 0 rfl rfl 6 (by decide) (htg _ kw_206) (fun _ h9 => h9) rfl dX0_keeps_1 ?_
  refine lv_if_eq (tgt := 17) hx hb dX0_keeps_4 (by decide) (fun c_1 => ?_) (fun c_1 => ?_)
  · have hf := xb_t c_1 hf
    refine lv_iconst (v := (0 : Int32)) hx hb dX0_keeps_17 (by decide) ?_
    have hf := Option.some.inj hf
    cases hf
    exact x_zret (fun _ => 0) hQ hx hb hr hlk (by decide) hK hP hD hS dX0_keeps_18
  · have hf := xb_f c_1 hf
    refine lv_aload_n hx hb dX0_keeps_7 rfl (lv_at hl 0 rfl) ?_
    refine va_get (D := D) (ci := 0) (v := .ref aB) (C := RX0) (T := TX0) (N := 9) hx hb htg giX0 hown hK hP 0 rfl rfl 5 (by decide) (htg _ kw_205) (fun _ h9 => h9) rfl dX0_keeps_8 ?_
    refine va_getN (D := D) (ci := 5) (v := .int B_crowded) (C := RX5) (T := TX5) (N := 5) hx hb htg giX5 hown hK hP 1 rfl rfl 4 (by decide) (va_Nw.use rfl (hN _ kn_188)) (fun _ h9 => h9) rfl dX0_keeps_11 ?_
    refine lv_if_eq (tgt := 19) hx hb dX0_keeps_14 (by decide) (fun c_2 => ?_) (fun c_2 => ?_)
    · have hf := xb_t c_2 hf
      refine lv_aload_n hx hb dX0_keeps_19 rfl (lv_at hl 0 rfl) ?_
      obtain ⟨J_plainOrder_4, aC_rows_5, aC_spare_6, C_count_7, C_found_8, C_crowded_9, C_rows_10, C_spare_11, hq_3, hf⟩ := bn8_c hf
      refine x_v (xrV (As := []) (b := aJ) (rest := []) ⟨hx, hb, hml, hown, htg⟩ (c_f_JoinOrder_makePlainOnes l D cI cJ cZ _ n aJ aT aP aF aQ aM aB J_hasRun aJ_plainOrder aC aP_slots aP_termsSeen aP_matches aP_matchCount aP_variables aP_havingVariable aP_told aP_parent aP_allBefore P_required P_hinted P_count J_plainOrder P_parent aC_rows aC_spare C_count C_found C_crowded C_rows C_spare P_slots P_matchCount P_matches aF_variable aF_kind aF_value F_safeOnes F_count F_variable F_kind F_value hq_3) kc_f_JoinOrder_makePlainOnes kw_535 kw_537 kp_19 kw_1 dd_f_JoinOrder_makePlainOnes ⟨Nat.le_of_ble_eq_true rfl, Nat.le_of_ble_eq_true rfl⟩ rfl rfl (hP.sub [0, 2, 3, 4, 5, 6, 7, 8, 9, 10, 11, 12, 13, 14] rfl) (hD.sub [0, 2, 3, 4, 5, 6, 7, 8, 9, 10, 11, 12, 13, 14] (by decide) rfl) hK hN hP (q0 := 0) rfl rfl rfl hl.1 rfl (Nat.le_of_ble_eq_true rfl) dX0_keeps_20 ⟨Nat.le_of_ble_eq_true rfl, Nat.le_of_ble_eq_true rfl⟩) hP hD hS hA [0, 2, 3, 4, 5, 6, 7, 8, 9, 10, 11, 12, 13, 14] [1, 15] rfl rfl (by decide) (by decide) (fun _ H locs hP hD hS => ?_)
      have hP : va_P D vwCl [(aB, .inr (5, [.ref aB_rows, .ref aB_spare, .int B_count, .int B_found, .int B_crowded])), (aB_rows, .inl (cJ, 500, .inr (.inl B_rows))), (aJ, .inr (0, [.ref aT, .ref aP, .ref aF, .ref aQ, .ref aM, .ref aB, .int J_hasRun, .ref aJ_plainOrder, .ref aC])), (aP, .inr (2, [.ref aP_slots, .ref aP_termsSeen, .ref aP_matches, .ref aP_matchCount, .ref aP_variables, .ref aP_havingVariable, .ref aP_told, .ref aP_parent, .ref aP_allBefore, .int P_required, .int P_hinted, .int P_count])), (aJ_plainOrder, .inl (cI, 8, .inl J_plainOrder_4)), (aP_parent, .inl (cI, 8, .inl P_parent)), (aC, .inr (5, [.ref aC_rows_5, .ref aC_spare_6, .int C_count_7, .int C_found_8, .int C_crowded_9])), (aC_rows_5, .inl (cJ, 500, .inr (.inl C_rows_10))), (aC_spare_6, .inl (cJ, 500, .inr (.inl C_spare_11))), (aP_slots, .inl (cI, 24, .inl P_slots)), (aP_matchCount, .inl (cI, 8, .inl P_matchCount)), (aP_matches, .inl (cI, 640, .inl P_matches)), (aF, .inr (1, [.ref aF_variable, .ref aF_kind, .ref aF_value, .int F_safeOnes, .int F_count])), (aF_variable, .inl (cI, 8, .inl F_variable)), (aF_kind, .inl (cI, 8, .inl F_kind)), (aF_value, .inl (cI, 8, .inl F_value))] H := hP
      have hD : va_D A [(aB, .inr (5, [.ref aB_rows, .ref aB_spare, .int B_count, .int B_found, .int B_crowded])), (aB_rows, .inl (cJ, 500, .inr (.inl B_rows))), (aJ, .inr (0, [.ref aT, .ref aP, .ref aF, .ref aQ, .ref aM, .ref aB, .int J_hasRun, .ref aJ_plainOrder, .ref aC])), (aP, .inr (2, [.ref aP_slots, .ref aP_termsSeen, .ref aP_matches, .ref aP_matchCount, .ref aP_variables, .ref aP_havingVariable, .ref aP_told, .ref aP_parent, .ref aP_allBefore, .int P_required, .int P_hinted, .int P_count])), (aJ_plainOrder, .inl (cI, 8, .inl J_plainOrder_4)), (aP_parent, .inl (cI, 8, .inl P_parent)), (aC, .inr (5, [.ref aC_rows_5, .ref aC_spare_6, .int C_count_7, .int C_found_8, .int C_crowded_9])), (aC_rows_5, .inl (cJ, 500, .inr (.inl C_rows_10))), (aC_spare_6, .inl (cJ, 500, .inr (.inl C_spare_11))), (aP_slots, .inl (cI, 24, .inl P_slots)), (aP_matchCount, .inl (cI, 8, .inl P_matchCount)), (aP_matches, .inl (cI, 640, .inl P_matches)), (aF, .inr (1, [.ref aF_variable, .ref aF_kind, .ref aF_value, .int F_safeOnes, .int F_count])), (aF_variable, .inl (cI, 8, .inl F_variable)), (aF_kind, .inl (cI, 8, .inl F_kind)), (aF_value, .inl (cI, 8, .inl F_value))] := hD
      refine lv_aload_n hx hb dX0_keeps_23 rfl (lv_at hl 0 rfl) ?_
      refine va_get (D := D) (ci := 0) (v := .ref aC) (C := RX0) (T := TX0) (N := 9) hx hb htg giX0 hown hK hP 2 rfl rfl 8 (by decide) (htg _ kw_208) (fun _ h9 => h9) rfl dX0_keeps_24 ?_
      refine va_getN (D := D) (ci := 5) (v := .int C_crowded_9) (C := RX5) (T := TX5) (N := 5) hx hb htg giX5 hown hK hP 6 rfl rfl 4 (by decide) (va_Nw.use rfl (hN _ kn_188)) (fun _ h9 => h9) rfl dX0_keeps_27 ?_
      refine lv_if_ne (tgt := 51) hx hb dX0_keeps_30 (by decide) (fun c_12 => ?_) (fun c_12 => ?_)
      · have hf := xb_f c_12 hf
        refine lv_iconst (v := (0 : Int32)) hx hb dX0_keeps_51 (by decide) ?_
        have hf := Option.some.inj hf
        cases hf
        exact x_zret (fun _ => 0) hQ hx hb hr hlk (by decide) hK (hP.sub [2, 0, 3, 4, 5, 6, 7, 8, 9, 10, 11, 12, 13, 14, 15, 1] rfl) (hD.sub [2, 0, 3, 4, 5, 6, 7, 8, 9, 10, 11, 12, 13, 14, 15, 1] (by decide) rfl) hS dX0_keeps_52
      · have hf := xb_t c_12 hf
        refine lv_aload_n hx hb dX0_keeps_33 rfl (lv_at hl 0 rfl) ?_
        refine va_get (D := D) (ci := 0) (v := .ref aC) (C := RX0) (T := TX0) (N := 9) hx hb htg giX0 hown hK hP 2 rfl rfl 8 (by decide) (htg _ kw_208) (fun _ h9 => h9) rfl dX0_keeps_34 ?_
        refine lv_aload_n hx hb dX0_keeps_37 rfl (lv_at hl 0 rfl) ?_
        refine va_get (D := D) (ci := 0) (v := .ref aB) (C := RX0) (T := TX0) (N := 9) hx hb htg giX0 hown hK hP 2 rfl rfl 5 (by decide) (htg _ kw_205) (fun _ h9 => h9) rfl dX0_keeps_38 ?_
        obtain ⟨r_14, C_rows_15, C_spare_16, hq_13, hf⟩ := bn3_c hf
        refine x_z (xrV (As := [.ref aB]) (b := aC) (rest := []) ⟨hx, hb, hml, hown, htg⟩ (c_f_Table_bindsTheSame l D cI cJ cZ _ n aC aB aC_rows_5 aC_spare_6 C_count_7 C_found_8 C_crowded_9 aB_rows aB_spare B_count B_found B_crowded C_rows_10 B_rows C_spare_11 hq_13) kc_f_Table_bindsTheSame kw_549 kw_550 kw_551 kw_7 dd_f_Table_bindsTheSame ⟨Nat.le_of_ble_eq_true rfl, Nat.le_of_ble_eq_true rfl⟩ rfl rfl (hP.sub [6, 0, 7, 1, 8] rfl) (hD.sub [6, 0, 7, 1, 8] (by decide) rfl) hK hN hP (q0 := 6) rfl rfl rfl hl.1 rfl (Nat.le_of_ble_eq_true rfl) dX0_keeps_41 ⟨Nat.le_of_ble_eq_true rfl, Nat.le_of_ble_eq_true rfl⟩) hP hD hS hA [6, 0, 7, 1, 8] [2, 3, 4, 5, 9, 10, 11, 12, 13, 14, 15] rfl rfl (by decide) (by decide) (fun _ H locs bz_13 hP hD hS => ?_)
        have hP : va_P D vwCl [(aJ, .inr (0, [.ref aT, .ref aP, .ref aF, .ref aQ, .ref aM, .ref aB, .int J_hasRun, .ref aJ_plainOrder, .ref aC])), (aP, .inr (2, [.ref aP_slots, .ref aP_termsSeen, .ref aP_matches, .ref aP_matchCount, .ref aP_variables, .ref aP_havingVariable, .ref aP_told, .ref aP_parent, .ref aP_allBefore, .int P_required, .int P_hinted, .int P_count])), (aJ_plainOrder, .inl (cI, 8, .inl J_plainOrder_4)), (aP_parent, .inl (cI, 8, .inl P_parent)), (aP_slots, .inl (cI, 24, .inl P_slots)), (aP_matchCount, .inl (cI, 8, .inl P_matchCount)), (aP_matches, .inl (cI, 640, .inl P_matches)), (aF, .inr (1, [.ref aF_variable, .ref aF_kind, .ref aF_value, .int F_safeOnes, .int F_count])), (aF_variable, .inl (cI, 8, .inl F_variable)), (aF_kind, .inl (cI, 8, .inl F_kind)), (aF_value, .inl (cI, 8, .inl F_value)), (aC, .inr (5, [.ref aC_rows_5, .ref aC_spare_6, .int C_count_7, .int C_found_8, .int C_crowded_9])), (aB, .inr (5, [.ref aB_rows, .ref aB_spare, .int B_count, .int B_found, .int B_crowded])), (aC_rows_5, .inl (cJ, 500, .inr (.inl C_rows_15))), (aB_rows, .inl (cJ, 500, .inr (.inl B_rows))), (aC_spare_6, .inl (cJ, 500, .inr (.inl C_spare_16)))] H := hP
        have hD : va_D A [(aJ, .inr (0, [.ref aT, .ref aP, .ref aF, .ref aQ, .ref aM, .ref aB, .int J_hasRun, .ref aJ_plainOrder, .ref aC])), (aP, .inr (2, [.ref aP_slots, .ref aP_termsSeen, .ref aP_matches, .ref aP_matchCount, .ref aP_variables, .ref aP_havingVariable, .ref aP_told, .ref aP_parent, .ref aP_allBefore, .int P_required, .int P_hinted, .int P_count])), (aJ_plainOrder, .inl (cI, 8, .inl J_plainOrder_4)), (aP_parent, .inl (cI, 8, .inl P_parent)), (aP_slots, .inl (cI, 24, .inl P_slots)), (aP_matchCount, .inl (cI, 8, .inl P_matchCount)), (aP_matches, .inl (cI, 640, .inl P_matches)), (aF, .inr (1, [.ref aF_variable, .ref aF_kind, .ref aF_value, .int F_safeOnes, .int F_count])), (aF_variable, .inl (cI, 8, .inl F_variable)), (aF_kind, .inl (cI, 8, .inl F_kind)), (aF_value, .inl (cI, 8, .inl F_value)), (aC, .inr (5, [.ref aC_rows_5, .ref aC_spare_6, .int C_count_7, .int C_found_8, .int C_crowded_9])), (aB, .inr (5, [.ref aB_rows, .ref aB_spare, .int B_count, .int B_found, .int B_crowded])), (aC_rows_5, .inl (cJ, 500, .inr (.inl C_rows_15))), (aB_rows, .inl (cJ, 500, .inr (.inl B_rows))), (aC_spare_6, .inl (cJ, 500, .inr (.inl C_spare_16)))] := hD
        refine lv_if_eq (tgt := 51) hx hb dX0_keeps_44 (by decide) (fun c_17 => ?_) (fun c_17 => ?_)
        · have hf := xb_t c_17 hf
          refine lv_iconst (v := (0 : Int32)) hx hb dX0_keeps_51 (by decide) ?_
          have hf := Option.some.inj hf
          cases hf
          exact x_zret (fun _ => 0) hQ hx hb hr hlk (by decide) hK (hP.sub [0, 12, 1, 2, 3, 11, 13, 15, 4, 5, 6, 7, 8, 9, 10, 14] rfl) (hD.sub [0, 12, 1, 2, 3, 11, 13, 15, 4, 5, 6, 7, 8, 9, 10, 14] (by decide) rfl) hS dX0_keeps_52
        · have hf := xb_f c_17 hf
          refine lv_iconst (v := (1 : Int32)) hx hb dX0_keeps_47 (by decide) ?_
          refine lv_goto (tgt := 52) hx hb dX0_keeps_48 (by decide) ?_
          have hf := Option.some.inj hf
          cases hf
          exact x_zret (fun _ => 0) hQ hx hb hr hlk (by decide) hK (hP.sub [0, 12, 1, 2, 3, 11, 13, 15, 4, 5, 6, 7, 8, 9, 10, 14] rfl) (hD.sub [0, 12, 1, 2, 3, 11, 13, 15, 4, 5, 6, 7, 8, 9, 10, 14] (by decide) rfl) hS dX0_keeps_52
    · have hf := xb_f c_2 hf
      refine lv_iconst (v := (0 : Int32)) hx hb dX0_keeps_17 (by decide) ?_
      have hf := Option.some.inj hf
      cases hf
      exact x_zret (fun _ => 0) hQ hx hb hr hlk (by decide) hK hP hD hS dX0_keeps_18
abbrev rm_f_JoinOrderModel_isAlike : Room := { frames := 0, cells := 0, slots := 0, locals := 0 }
set_option maxHeartbeats 4000000 in
set_option maxRecDepth 100000 in
theorem c_f_JoinOrderModel_isAlike (l : Launch) (D : va_G) (cI cJ cZ : ClassId) (sz : Nat) (n : Nat) (aR : Nat) (x1 : Int32) (x2 : Int32) (R_triples : Int32) (aR_facts : Nat) (R_patterns : Int32) (aR_cells : Nat) (aR_told : Nat) (aR_of : Nat) (aR_hints : Nat) (R_filters : Int32) (aR_looks : Nat) (aR_kinds : Nat) (aR_values : Nat) (aR_isSafe : Nat) (aR_sizes : Nat) (aR_spreads : Nat) (aR_isSeen : Nat) (aR_estimates : Nat) (aR_rest : Nat) (R_steps : Int32) (aR_order : Nat) (aR_joins : Nat) (aR_actsBehind : Nat) (aR_upTo : Nat) (R_filtersThen : Int32) (aR_behind : Nat) (R_rows : Int32) (aR_row : Nat) (aR_found : Nat) (R_comes : Int32) (aR_next : Nat) (aR_nextFound : Nat) (R_kept : Int32) (R_hasRoom : Int32) (aR_keep : Nat) (aR_isTaken : Nat) (R_row : Nat → Int32) (R_keep : Nat → Int32) {r : Int32} (hf : f_JoinOrderModel_isAlike n x1 x2 R_row R_keep = some r) : Met l yX7_isAlike (.code yX7_isAlike cX7_isAlike 5 (some .boolean) :: GW) rm_f_JoinOrderModel_isAlike (va_Pc [.ref aR, .int x1, .int x2] (xP D (xT cI cJ cZ) sz [(aR, .inr (7, [.int R_triples, .ref aR_facts, .int R_patterns, .ref aR_cells, .ref aR_told, .ref aR_of, .ref aR_hints, .int R_filters, .ref aR_looks, .ref aR_kinds, .ref aR_values, .ref aR_isSafe, .ref aR_sizes, .ref aR_spreads, .ref aR_isSeen, .ref aR_estimates, .ref aR_rest, .int R_steps, .ref aR_order, .ref aR_joins, .ref aR_actsBehind, .ref aR_upTo, .int R_filtersThen, .ref aR_behind, .int R_rows, .ref aR_row, .ref aR_found, .int R_comes, .ref aR_next, .ref aR_nextFound, .int R_kept, .int R_hasRoom, .ref aR_keep, .ref aR_isTaken])), (aR_row, .inl (cI, 4008, .inl R_row)), (aR_keep, .inl (cI, 4008, .inl R_keep))])) (va_Qi (fun r2 (_ : Nat → Nat) => r2 = r ∧ (r = 0 ∨ r = 1)) (bB D (xT cI cJ cZ) (fun _ => [(aR, .inr (7, [.int R_triples, .ref aR_facts, .int R_patterns, .ref aR_cells, .ref aR_told, .ref aR_of, .ref aR_hints, .int R_filters, .ref aR_looks, .ref aR_kinds, .ref aR_values, .ref aR_isSafe, .ref aR_sizes, .ref aR_spreads, .ref aR_isSeen, .ref aR_estimates, .ref aR_rest, .int R_steps, .ref aR_order, .ref aR_joins, .ref aR_actsBehind, .ref aR_upTo, .int R_filtersThen, .ref aR_behind, .int R_rows, .ref aR_row, .ref aR_found, .int R_comes, .ref aR_next, .ref aR_nextFound, .int R_kept, .int R_hasRoom, .ref aR_keep, .ref aR_isTaken])), (aR_row, .inl (cI, 4008, .inl R_row)), (aR_keep, .inl (cI, 4008, .inl R_keep))]) (va_A [(aR, .inr (7, [.int R_triples, .ref aR_facts, .int R_patterns, .ref aR_cells, .ref aR_told, .ref aR_of, .ref aR_hints, .int R_filters, .ref aR_looks, .ref aR_kinds, .ref aR_values, .ref aR_isSafe, .ref aR_sizes, .ref aR_spreads, .ref aR_isSeen, .ref aR_estimates, .ref aR_rest, .int R_steps, .ref aR_order, .ref aR_joins, .ref aR_actsBehind, .ref aR_upTo, .int R_filtersThen, .ref aR_behind, .int R_rows, .ref aR_row, .ref aR_found, .int R_comes, .ref aR_next, .ref aR_nextFound, .int R_kept, .int R_hasRoom, .ref aR_keep, .ref aR_isTaken])), (aR_row, .inl (cI, 4008, .inl R_row)), (aR_keep, .inl (cI, 4008, .inl R_keep))] sz)) (va_A [(aR, .inr (7, [.int R_triples, .ref aR_facts, .int R_patterns, .ref aR_cells, .ref aR_told, .ref aR_of, .ref aR_hints, .int R_filters, .ref aR_looks, .ref aR_kinds, .ref aR_values, .ref aR_isSafe, .ref aR_sizes, .ref aR_spreads, .ref aR_isSeen, .ref aR_estimates, .ref aR_rest, .int R_steps, .ref aR_order, .ref aR_joins, .ref aR_actsBehind, .ref aR_upTo, .int R_filtersThen, .ref aR_behind, .int R_rows, .ref aR_row, .ref aR_found, .int R_comes, .ref aR_next, .ref aR_nextFound, .int R_kept, .int R_hasRoom, .ref aR_keep, .ref aR_isTaken])), (aR_row, .inl (cI, 4008, .inl R_row)), (aR_keep, .inl (cI, 4008, .inl R_keep))] sz)) 0 0 (va_A [(aR, .inr (7, [.int R_triples, .ref aR_facts, .int R_patterns, .ref aR_cells, .ref aR_told, .ref aR_of, .ref aR_hints, .int R_filters, .ref aR_looks, .ref aR_kinds, .ref aR_values, .ref aR_isSafe, .ref aR_sizes, .ref aR_spreads, .ref aR_isSeen, .ref aR_estimates, .ref aR_rest, .int R_steps, .ref aR_order, .ref aR_joins, .ref aR_actsBehind, .ref aR_upTo, .int R_filtersThen, .ref aR_behind, .int R_rows, .ref aR_row, .ref aR_found, .int R_comes, .ref aR_next, .ref aR_nextFound, .int R_kept, .int R_hasRoom, .ref aR_keep, .ref aR_isTaken])), (aR_row, .inl (cI, 4008, .inl R_row)), (aR_keep, .inl (cI, 4008, .inl R_keep))] sz) := by
  refine con_start (Qc := fun A => va_Qi (fun r2 (_ : Nat → Nat) => r2 = r ∧ (r = 0 ∨ r = 1)) (bB D (xT cI cJ cZ) (fun _ => [(aR, .inr (7, [.int R_triples, .ref aR_facts, .int R_patterns, .ref aR_cells, .ref aR_told, .ref aR_of, .ref aR_hints, .int R_filters, .ref aR_looks, .ref aR_kinds, .ref aR_values, .ref aR_isSafe, .ref aR_sizes, .ref aR_spreads, .ref aR_isSeen, .ref aR_estimates, .ref aR_rest, .int R_steps, .ref aR_order, .ref aR_joins, .ref aR_actsBehind, .ref aR_upTo, .int R_filtersThen, .ref aR_behind, .int R_rows, .ref aR_row, .ref aR_found, .int R_comes, .ref aR_next, .ref aR_nextFound, .int R_kept, .int R_hasRoom, .ref aR_keep, .ref aR_isTaken])), (aR_row, .inl (cI, 4008, .inl R_row)), (aR_keep, .inl (cI, 4008, .inl R_keep))]) A) A) (by decide) (Nat.le_of_ble_eq_true rfl) ?_
  intro p e s m args below meth c Q A hx hb hr hlk hml hown hin htg hN hK hQ hA hP hD hS ls hl
  have hl : lv_has ls 5 [(0, .ref aR), (1, .int x1), (2, .int x2)] := hl
  have hown : s.vm.findClass RX7 = some m.cls := hown
  have hf := (f_JoinOrderModel_isAlike_u n x1 x2 R_row R_keep).symm.trans hf
  refine lv_iconst (v := (1 : Int32)) hx hb dX7_isAlike_0 (by decide) ?_
  refine lv_istore_n (lv' := [(3, .int (1 : Int32)), (0, .ref aR), (1, .int x1), (2, .int x2)]) hx hb dX7_isAlike_1 rfl hl (by decide) rfl (fun ls hl => ?_)
  refine lv_iconst (v := (0 : Int32)) hx hb dX7_isAlike_2 (by decide) ?_
  refine lv_istore (lv' := [(4, .int (0 : Int32)), (3, .int (1 : Int32)), (0, .ref aR), (1, .int x1), (2, .int x2)]) hx hb dX7_isAlike_3 hl (by decide) rfl (fun ls hl => ?_)
  have L_5_19 : ∀ (k : Nat) (x3_20 : Int32) (x4_21 : Int32) (o_19 : Int32), f_JoinOrderModel_isAlike_L0 n x1 x2 R_row R_keep k x3_20 x4_21 = some o_19 → ∀ (H : Heap) (locs : List Loc), va_P D vwCl [(aR, .inr (7, [.int R_triples, .ref aR_facts, .int R_patterns, .ref aR_cells, .ref aR_told, .ref aR_of, .ref aR_hints, .int R_filters, .ref aR_looks, .ref aR_kinds, .ref aR_values, .ref aR_isSafe, .ref aR_sizes, .ref aR_spreads, .ref aR_isSeen, .ref aR_estimates, .ref aR_rest, .int R_steps, .ref aR_order, .ref aR_joins, .ref aR_actsBehind, .ref aR_upTo, .int R_filtersThen, .ref aR_behind, .int R_rows, .ref aR_row, .ref aR_found, .int R_comes, .ref aR_next, .ref aR_nextFound, .int R_kept, .int R_hasRoom, .ref aR_keep, .ref aR_isTaken])), (aR_row, .inl (cI, 4008, .inl R_row)), (aR_keep, .inl (cI, 4008, .inl R_keep))] H → va_D A [(aR, .inr (7, [.int R_triples, .ref aR_facts, .int R_patterns, .ref aR_cells, .ref aR_told, .ref aR_of, .ref aR_hints, .int R_filters, .ref aR_looks, .ref aR_kinds, .ref aR_values, .ref aR_isSafe, .ref aR_sizes, .ref aR_spreads, .ref aR_isSeen, .ref aR_estimates, .ref aR_rest, .int R_steps, .ref aR_order, .ref aR_joins, .ref aR_actsBehind, .ref aR_upTo, .int R_filtersThen, .ref aR_behind, .int R_rows, .ref aR_row, .ref aR_found, .int R_comes, .ref aR_next, .ref aR_nextFound, .int R_kept, .int R_hasRoom, .ref aR_keep, .ref aR_isTaken])), (aR_row, .inl (cI, 4008, .inl R_row)), (aR_keep, .inl (cI, 4008, .inl R_keep))] → va_S A s.heap H locs → ∀ ls : Array Slot, lv_has ls 5 [(0, .ref aR), (1, .int x1), (2, .int x2), (3, .int x3_20), (4, .int x4_21)] → (∀ (x3_22 : Int32), some (x3_22) = some o_19 → ∀ (H : Heap) (locs : List Loc), va_P D vwCl [(aR, .inr (7, [.int R_triples, .ref aR_facts, .int R_patterns, .ref aR_cells, .ref aR_told, .ref aR_of, .ref aR_hints, .int R_filters, .ref aR_looks, .ref aR_kinds, .ref aR_values, .ref aR_isSafe, .ref aR_sizes, .ref aR_spreads, .ref aR_isSeen, .ref aR_estimates, .ref aR_rest, .int R_steps, .ref aR_order, .ref aR_joins, .ref aR_actsBehind, .ref aR_upTo, .int R_filtersThen, .ref aR_behind, .int R_rows, .ref aR_row, .ref aR_found, .int R_comes, .ref aR_next, .ref aR_nextFound, .int R_kept, .int R_hasRoom, .ref aR_keep, .ref aR_isTaken])), (aR_row, .inl (cI, 4008, .inl R_row)), (aR_keep, .inl (cI, 4008, .inl R_keep))] H → va_D A [(aR, .inr (7, [.int R_triples, .ref aR_facts, .int R_patterns, .ref aR_cells, .ref aR_told, .ref aR_of, .ref aR_hints, .int R_filters, .ref aR_looks, .ref aR_kinds, .ref aR_values, .ref aR_isSafe, .ref aR_sizes, .ref aR_spreads, .ref aR_isSeen, .ref aR_estimates, .ref aR_rest, .int R_steps, .ref aR_order, .ref aR_joins, .ref aR_actsBehind, .ref aR_upTo, .int R_filtersThen, .ref aR_behind, .int R_rows, .ref aR_row, .ref aR_found, .int R_comes, .ref aR_next, .ref aR_nextFound, .int R_kept, .int R_hasRoom, .ref aR_keep, .ref aR_isTaken])), (aR_row, .inl (cI, 4008, .inl R_row)), (aR_keep, .inl (cI, 4008, .inl R_keep))] → va_S A s.heap H locs → ∀ ls : Array Slot, lv_has ls 5 [(3, .int x3_22)] → W p l e rm_f_JoinOrderModel_isAlike s m args below meth c H locs 0 0 Q (F0 m 55 ls [])) → W p l e rm_f_JoinOrderModel_isAlike s m args below meth c H locs 0 0 Q (F0 m 5 ls []) := by
    intro k
    induction k with
    | zero =>
      intro x3_20 x4_21 o_19 hf
      exact absurd (((f_JoinOrderModel_isAlike_L0_z n x1 x2 R_row R_keep x3_20 x4_21).symm.trans hf)) (fun h => by cases h)
    | succ k ih =>
      intro x3_20 x4_21 o_19 hf H locs hP hD hS ls hl hX_19
      have hf := (f_JoinOrderModel_isAlike_L0_s n x1 x2 R_row R_keep k x3_20 x4_21).symm.trans hf
      refine lv_iload hx hb dX7_isAlike_5 (lv_at hl 4 rfl) ?_
      refine lv_bipush (v := (8 : Int32)) hx hb dX7_isAlike_7 (by decide) ?_
      refine lv_icmp_ge (tgt := 55) hx hb dX7_isAlike_9 (by decide) (fun c_23 => ?_) (fun c_23 => ?_)
      · have hf := xb_t c_23 hf
        exact hX_19 x3_20 hf _ _ hP hD hS _ (lv_sub hl [3] rfl)
      · have hf := xb_f c_23 hf
        refine lv_iload_n hx hb dX7_isAlike_12 rfl (lv_at hl 3 rfl) ?_
        refine lv_if_eq (tgt := 47) hx hb dX7_isAlike_13 (by decide) (fun c_24 => ?_) (fun c_24 => ?_)
        · have hf := xb_t c_24 hf
          refine lv_iconst (v := (0 : Int32)) hx hb dX7_isAlike_47 (by decide) ?_
          refine lv_istore_n (lv' := [(3, .int (0 : Int32)), (0, .ref aR), (1, .int x1), (2, .int x2), (4, .int x4_21)]) hx hb dX7_isAlike_48 rfl hl (by decide) rfl (fun ls hl => ?_)
          obtain ⟨x4_25, ex4_25⟩ : ∃ y : Int32, y = x4_21 + (1 : Int32) := ⟨_, rfl⟩
          have hf := nm_nm ex4_25 hf
          refine lv_iinc (v := x4_25) (lv' := [(4, .int x4_25), (3, .int (0 : Int32)), (0, .ref aR), (1, .int x1), (2, .int x2)]) hx hb dX7_isAlike_49 hl (k := 4) rfl (by rw [ex4_25]; rfl) (by decide) rfl (fun ls hl => ?_)
          refine lv_goto (tgt := 5) hx hb dX7_isAlike_52 (by decide) ?_
          exact ih (0 : Int32) x4_25 o_19 hf _ _ hP hD hS _ (lv_sub hl [2, 3, 4, 1, 0] rfl) hX_19
        · have hf := xb_f c_24 hf
          refine lv_aload_n hx hb dX7_isAlike_16 rfl (lv_at hl 0 rfl) ?_
          refine va_get (D := D) (ci := 7) (v := .ref aR_row) (C := RX7) (T := TX7) (N := 34) hx hb htg giX7 hown hK hP 0 rfl rfl 25 (by decide) (htg _ kw_588) (fun _ h9 => h9) rfl dX7_isAlike_17 ?_
          refine lv_bipush (v := (8 : Int32)) hx hb dX7_isAlike_20 (by decide) ?_
          refine lv_iload_n hx hb dX7_isAlike_22 rfl (lv_at hl 1 rfl) ?_
          refine lv_imul hx hb dX7_isAlike_23 ?_
          refine lv_iload hx hb dX7_isAlike_24 (lv_at hl 4 rfl) ?_
          refine lv_iadd hx hb dX7_isAlike_26 ?_
          have g_26 : vp_in (((8 : Int32) * x1) + x4_21) 4008 := gd_in hf
          have hf := gd_el hf
          refine va_iald hx hb hK hP 1 0 rfl rfl g_26 dX7_isAlike_27 ?_
          refine lv_aload_n hx hb dX7_isAlike_28 rfl (lv_at hl 0 rfl) ?_
          refine va_get (D := D) (ci := 7) (v := .ref aR_keep) (C := RX7) (T := TX7) (N := 34) hx hb htg giX7 hown hK hP 0 rfl rfl 32 (by decide) (htg _ kw_595) (fun _ h9 => h9) rfl dX7_isAlike_29 ?_
          refine lv_bipush (v := (8 : Int32)) hx hb dX7_isAlike_32 (by decide) ?_
          refine lv_iload_n hx hb dX7_isAlike_34 rfl (lv_at hl 2 rfl) ?_
          refine lv_imul hx hb dX7_isAlike_35 ?_
          refine lv_iload hx hb dX7_isAlike_36 (lv_at hl 4 rfl) ?_
          refine lv_iadd hx hb dX7_isAlike_38 ?_
          have g_27 : vp_in (((8 : Int32) * x2) + x4_21) 4008 := gd_in hf
          have hf := gd_el hf
          refine va_iald hx hb hK hP 2 0 rfl rfl g_27 dX7_isAlike_39 ?_
          refine lv_icmp_ne (tgt := 47) hx hb dX7_isAlike_40 (by decide) (fun c_28 => ?_) (fun c_28 => ?_)
          · have hf := xb_f c_28 hf
            refine lv_iconst (v := (0 : Int32)) hx hb dX7_isAlike_47 (by decide) ?_
            refine lv_istore_n (lv' := [(3, .int (0 : Int32)), (0, .ref aR), (1, .int x1), (2, .int x2), (4, .int x4_21)]) hx hb dX7_isAlike_48 rfl hl (by decide) rfl (fun ls hl => ?_)
            obtain ⟨x4_29, ex4_29⟩ : ∃ y : Int32, y = x4_21 + (1 : Int32) := ⟨_, rfl⟩
            have hf := nm_nm ex4_29 hf
            refine lv_iinc (v := x4_29) (lv' := [(4, .int x4_29), (3, .int (0 : Int32)), (0, .ref aR), (1, .int x1), (2, .int x2)]) hx hb dX7_isAlike_49 hl (k := 4) rfl (by rw [ex4_29]; rfl) (by decide) rfl (fun ls hl => ?_)
            refine lv_goto (tgt := 5) hx hb dX7_isAlike_52 (by decide) ?_
            exact ih (0 : Int32) x4_29 o_19 hf _ _ hP hD hS _ (lv_sub hl [2, 3, 4, 1, 0] rfl) hX_19
          · have hf := xb_t c_28 hf
            refine lv_iconst (v := (1 : Int32)) hx hb dX7_isAlike_43 (by decide) ?_
            refine lv_goto (tgt := 48) hx hb dX7_isAlike_44 (by decide) ?_
            refine lv_istore_n (lv' := [(3, .int (1 : Int32)), (0, .ref aR), (1, .int x1), (2, .int x2), (4, .int x4_21)]) hx hb dX7_isAlike_48 rfl hl (by decide) rfl (fun ls hl => ?_)
            obtain ⟨x4_30, ex4_30⟩ : ∃ y : Int32, y = x4_21 + (1 : Int32) := ⟨_, rfl⟩
            have hf := nm_nm ex4_30 hf
            refine lv_iinc (v := x4_30) (lv' := [(4, .int x4_30), (3, .int (1 : Int32)), (0, .ref aR), (1, .int x1), (2, .int x2)]) hx hb dX7_isAlike_49 hl (k := 4) rfl (by rw [ex4_30]; rfl) (by decide) rfl (fun ls hl => ?_)
            refine lv_goto (tgt := 5) hx hb dX7_isAlike_52 (by decide) ?_
            exact ih (1 : Int32) x4_30 o_19 hf _ _ hP hD hS _ (lv_sub hl [2, 3, 4, 1, 0] rfl) hX_19
  obtain ⟨o_19, ho_19, hk_19⟩ := bn1_s hf
  refine L_5_19 n (1 : Int32) (0 : Int32) o_19 ho_19 _ _ hP hD hS _ (lv_sub hl [2, 3, 4, 1, 0] rfl) (fun x3_22 hf H locs hP hD hS ls hl => ?_)
  have hf := hk_19 _ hf
  refine lv_iload_n hx hb dX7_isAlike_55 rfl (lv_at hl 0 rfl) ?_
  have gb_31 := gb_in hf
  have hf := gb_el hf
  have hf := Option.some.inj hf
  cases hf
  exact x_zret (fun _ => 0) hQ hx hb hr hlk gb_31 hK hP hD hS dX7_isAlike_56
abbrev rm_f_JoinOrderModel_keeps : Room := { frames := 5, cells := 0, slots := 0, locals := 114 }
set_option maxHeartbeats 4000000 in
set_option maxRecDepth 100000 in
theorem c_f_JoinOrderModel_keeps (l : Launch) (D : va_G) (cI cJ cZ : ClassId) (sz : Nat) (n : Nat) (aR : Nat) (R_triples : Int32) (aR_facts : Nat) (R_patterns : Int32) (aR_cells : Nat) (aR_told : Nat) (aR_of : Nat) (aR_hints : Nat) (R_filters : Int32) (aR_looks : Nat) (aR_kinds : Nat) (aR_values : Nat) (aR_isSafe : Nat) (aR_sizes : Nat) (aR_spreads : Nat) (aR_isSeen : Nat) (aR_estimates : Nat) (aR_rest : Nat) (R_steps : Int32) (aR_order : Nat) (aR_joins : Nat) (aR_actsBehind : Nat) (aR_upTo : Nat) (R_filtersThen : Int32) (aR_behind : Nat) (R_rows : Int32) (aR_row : Nat) (aR_found : Nat) (R_comes : Int32) (aR_next : Nat) (aR_nextFound : Nat) (R_kept : Int32) (R_hasRoom : Int32) (aR_keep : Nat) (aR_isTaken : Nat) (R_found : Nat → Int32) (R_row : Nat → Int32) (R_of : Nat → Int32) (R_next : Nat → Int32) (R_cells : Nat → Int32) (R_facts : Nat → Int32) (R_nextFound : Nat → Int32) (R_looks : Nat → Int32) (R_values : Nat → Int32) (R_kinds : Nat → Int32) (R_isTaken : Nat → Int32) (R_keep : Nat → Int32) {r : Int32} {R_rows' : Int32} {R_comes' : Int32} {R_found' : Nat → Int32} {R_row' : Nat → Int32} {R_next' : Nat → Int32} {R_nextFound' : Nat → Int32} {R_isTaken' : Nat → Int32} (hf : f_JoinOrderModel_keeps n R_triples R_patterns R_filters R_comes R_kept R_hasRoom R_found R_row R_of R_next R_cells R_facts R_nextFound R_looks R_values R_kinds R_isTaken R_keep = some (r, R_rows', R_comes', R_found', R_row', R_next', R_nextFound', R_isTaken')) : Met l yX7_keeps (.code yX7_keeps cX7_keeps 5 (some .boolean) :: GW) rm_f_JoinOrderModel_keeps (va_Pc [.ref aR] (xP D (xT cI cJ cZ) sz [(aR, .inr (7, [.int R_triples, .ref aR_facts, .int R_patterns, .ref aR_cells, .ref aR_told, .ref aR_of, .ref aR_hints, .int R_filters, .ref aR_looks, .ref aR_kinds, .ref aR_values, .ref aR_isSafe, .ref aR_sizes, .ref aR_spreads, .ref aR_isSeen, .ref aR_estimates, .ref aR_rest, .int R_steps, .ref aR_order, .ref aR_joins, .ref aR_actsBehind, .ref aR_upTo, .int R_filtersThen, .ref aR_behind, .int R_rows, .ref aR_row, .ref aR_found, .int R_comes, .ref aR_next, .ref aR_nextFound, .int R_kept, .int R_hasRoom, .ref aR_keep, .ref aR_isTaken])), (aR_found, .inl (cI, 501, .inl R_found)), (aR_row, .inl (cI, 4008, .inl R_row)), (aR_of, .inl (cI, 8, .inl R_of)), (aR_next, .inl (cI, 4008, .inl R_next)), (aR_cells, .inl (cI, 24, .inl R_cells)), (aR_facts, .inl (cI, 240, .inl R_facts)), (aR_nextFound, .inl (cI, 501, .inl R_nextFound)), (aR_looks, .inl (cI, 8, .inl R_looks)), (aR_values, .inl (cI, 8, .inl R_values)), (aR_kinds, .inl (cI, 8, .inl R_kinds)), (aR_isTaken, .inl (cZ, 501, .inl R_isTaken)), (aR_keep, .inl (cI, 4008, .inl R_keep))])) (va_Qi (fun r2 (_ : Nat → Nat) => r2 = r ∧ (r = 0 ∨ r = 1)) (bB D (xT cI cJ cZ) (fun _ => [(aR, .inr (7, [.int R_triples, .ref aR_facts, .int R_patterns, .ref aR_cells, .ref aR_told, .ref aR_of, .ref aR_hints, .int R_filters, .ref aR_looks, .ref aR_kinds, .ref aR_values, .ref aR_isSafe, .ref aR_sizes, .ref aR_spreads, .ref aR_isSeen, .ref aR_estimates, .ref aR_rest, .int R_steps, .ref aR_order, .ref aR_joins, .ref aR_actsBehind, .ref aR_upTo, .int R_filtersThen, .ref aR_behind, .int R_rows', .ref aR_row, .ref aR_found, .int R_comes', .ref aR_next, .ref aR_nextFound, .int R_kept, .int R_hasRoom, .ref aR_keep, .ref aR_isTaken])), (aR_found, .inl (cI, 501, .inl R_found')), (aR_row, .inl (cI, 4008, .inl R_row')), (aR_of, .inl (cI, 8, .inl R_of)), (aR_next, .inl (cI, 4008, .inl R_next')), (aR_cells, .inl (cI, 24, .inl R_cells)), (aR_facts, .inl (cI, 240, .inl R_facts)), (aR_nextFound, .inl (cI, 501, .inl R_nextFound')), (aR_looks, .inl (cI, 8, .inl R_looks)), (aR_values, .inl (cI, 8, .inl R_values)), (aR_kinds, .inl (cI, 8, .inl R_kinds)), (aR_isTaken, .inl (cZ, 501, .inl R_isTaken')), (aR_keep, .inl (cI, 4008, .inl R_keep))]) (va_A [(aR, .inr (7, [.int R_triples, .ref aR_facts, .int R_patterns, .ref aR_cells, .ref aR_told, .ref aR_of, .ref aR_hints, .int R_filters, .ref aR_looks, .ref aR_kinds, .ref aR_values, .ref aR_isSafe, .ref aR_sizes, .ref aR_spreads, .ref aR_isSeen, .ref aR_estimates, .ref aR_rest, .int R_steps, .ref aR_order, .ref aR_joins, .ref aR_actsBehind, .ref aR_upTo, .int R_filtersThen, .ref aR_behind, .int R_rows, .ref aR_row, .ref aR_found, .int R_comes, .ref aR_next, .ref aR_nextFound, .int R_kept, .int R_hasRoom, .ref aR_keep, .ref aR_isTaken])), (aR_found, .inl (cI, 501, .inl R_found)), (aR_row, .inl (cI, 4008, .inl R_row)), (aR_of, .inl (cI, 8, .inl R_of)), (aR_next, .inl (cI, 4008, .inl R_next)), (aR_cells, .inl (cI, 24, .inl R_cells)), (aR_facts, .inl (cI, 240, .inl R_facts)), (aR_nextFound, .inl (cI, 501, .inl R_nextFound)), (aR_looks, .inl (cI, 8, .inl R_looks)), (aR_values, .inl (cI, 8, .inl R_values)), (aR_kinds, .inl (cI, 8, .inl R_kinds)), (aR_isTaken, .inl (cZ, 501, .inl R_isTaken)), (aR_keep, .inl (cI, 4008, .inl R_keep))] sz)) (va_A [(aR, .inr (7, [.int R_triples, .ref aR_facts, .int R_patterns, .ref aR_cells, .ref aR_told, .ref aR_of, .ref aR_hints, .int R_filters, .ref aR_looks, .ref aR_kinds, .ref aR_values, .ref aR_isSafe, .ref aR_sizes, .ref aR_spreads, .ref aR_isSeen, .ref aR_estimates, .ref aR_rest, .int R_steps, .ref aR_order, .ref aR_joins, .ref aR_actsBehind, .ref aR_upTo, .int R_filtersThen, .ref aR_behind, .int R_rows, .ref aR_row, .ref aR_found, .int R_comes, .ref aR_next, .ref aR_nextFound, .int R_kept, .int R_hasRoom, .ref aR_keep, .ref aR_isTaken])), (aR_found, .inl (cI, 501, .inl R_found)), (aR_row, .inl (cI, 4008, .inl R_row)), (aR_of, .inl (cI, 8, .inl R_of)), (aR_next, .inl (cI, 4008, .inl R_next)), (aR_cells, .inl (cI, 24, .inl R_cells)), (aR_facts, .inl (cI, 240, .inl R_facts)), (aR_nextFound, .inl (cI, 501, .inl R_nextFound)), (aR_looks, .inl (cI, 8, .inl R_looks)), (aR_values, .inl (cI, 8, .inl R_values)), (aR_kinds, .inl (cI, 8, .inl R_kinds)), (aR_isTaken, .inl (cZ, 501, .inl R_isTaken)), (aR_keep, .inl (cI, 4008, .inl R_keep))] sz)) 0 0 (va_A [(aR, .inr (7, [.int R_triples, .ref aR_facts, .int R_patterns, .ref aR_cells, .ref aR_told, .ref aR_of, .ref aR_hints, .int R_filters, .ref aR_looks, .ref aR_kinds, .ref aR_values, .ref aR_isSafe, .ref aR_sizes, .ref aR_spreads, .ref aR_isSeen, .ref aR_estimates, .ref aR_rest, .int R_steps, .ref aR_order, .ref aR_joins, .ref aR_actsBehind, .ref aR_upTo, .int R_filtersThen, .ref aR_behind, .int R_rows, .ref aR_row, .ref aR_found, .int R_comes, .ref aR_next, .ref aR_nextFound, .int R_kept, .int R_hasRoom, .ref aR_keep, .ref aR_isTaken])), (aR_found, .inl (cI, 501, .inl R_found)), (aR_row, .inl (cI, 4008, .inl R_row)), (aR_of, .inl (cI, 8, .inl R_of)), (aR_next, .inl (cI, 4008, .inl R_next)), (aR_cells, .inl (cI, 24, .inl R_cells)), (aR_facts, .inl (cI, 240, .inl R_facts)), (aR_nextFound, .inl (cI, 501, .inl R_nextFound)), (aR_looks, .inl (cI, 8, .inl R_looks)), (aR_values, .inl (cI, 8, .inl R_values)), (aR_kinds, .inl (cI, 8, .inl R_kinds)), (aR_isTaken, .inl (cZ, 501, .inl R_isTaken)), (aR_keep, .inl (cI, 4008, .inl R_keep))] sz) := by
  refine con_start (Qc := fun A => va_Qi (fun r2 (_ : Nat → Nat) => r2 = r ∧ (r = 0 ∨ r = 1)) (bB D (xT cI cJ cZ) (fun _ => [(aR, .inr (7, [.int R_triples, .ref aR_facts, .int R_patterns, .ref aR_cells, .ref aR_told, .ref aR_of, .ref aR_hints, .int R_filters, .ref aR_looks, .ref aR_kinds, .ref aR_values, .ref aR_isSafe, .ref aR_sizes, .ref aR_spreads, .ref aR_isSeen, .ref aR_estimates, .ref aR_rest, .int R_steps, .ref aR_order, .ref aR_joins, .ref aR_actsBehind, .ref aR_upTo, .int R_filtersThen, .ref aR_behind, .int R_rows', .ref aR_row, .ref aR_found, .int R_comes', .ref aR_next, .ref aR_nextFound, .int R_kept, .int R_hasRoom, .ref aR_keep, .ref aR_isTaken])), (aR_found, .inl (cI, 501, .inl R_found')), (aR_row, .inl (cI, 4008, .inl R_row')), (aR_of, .inl (cI, 8, .inl R_of)), (aR_next, .inl (cI, 4008, .inl R_next')), (aR_cells, .inl (cI, 24, .inl R_cells)), (aR_facts, .inl (cI, 240, .inl R_facts)), (aR_nextFound, .inl (cI, 501, .inl R_nextFound')), (aR_looks, .inl (cI, 8, .inl R_looks)), (aR_values, .inl (cI, 8, .inl R_values)), (aR_kinds, .inl (cI, 8, .inl R_kinds)), (aR_isTaken, .inl (cZ, 501, .inl R_isTaken')), (aR_keep, .inl (cI, 4008, .inl R_keep))]) A) A) (by decide) (Nat.le_of_ble_eq_true rfl) ?_
  intro p e s m args below meth c Q A hx hb hr hlk hml hown hin htg hN hK hQ hA hP hD hS ls hl
  have hl : lv_has ls 5 [(0, .ref aR)] := hl
  have hown : s.vm.findClass RX7 = some m.cls := hown
  have hf := (f_JoinOrderModel_keeps_u n R_triples R_patterns R_filters R_comes R_kept R_hasRoom R_found R_row R_of R_next R_cells R_facts R_nextFound R_looks R_values R_kinds R_isTaken R_keep).symm.trans hf
  refine lv_aload_n hx hb dX7_keeps_0 rfl (lv_at hl 0 rfl) ?_
  obtain ⟨r_2, R_rows_3, R_comes_4, R_found_5, R_row_6, R_next_7, R_nextFound_8, hq_1, hf⟩ := bn7_c hf
  refine x_i (xrV (As := []) (b := aR) (rest := []) ⟨hx, hb, hml, hown, htg⟩ (c_f_JoinOrderModel_plain l D cI cJ cZ _ n aR R_triples aR_facts R_patterns aR_cells aR_told aR_of aR_hints R_filters aR_looks aR_kinds aR_values aR_isSafe aR_sizes aR_spreads aR_isSeen aR_estimates aR_rest R_steps aR_order aR_joins aR_actsBehind aR_upTo R_filtersThen aR_behind R_rows aR_row aR_found R_comes aR_next aR_nextFound R_kept R_hasRoom aR_keep aR_isTaken R_found R_row R_of R_next R_cells R_facts R_nextFound R_looks R_values R_kinds hq_1) kc_f_JoinOrderModel_plain kw_835 kw_824 kw_825 kw_8 dd_f_JoinOrderModel_plain ⟨Nat.le_of_ble_eq_true rfl, Nat.le_of_ble_eq_true rfl⟩ rfl rfl (hP.sub [0, 1, 2, 3, 4, 5, 6, 7, 8, 9, 10] rfl) (hD.sub [0, 1, 2, 3, 4, 5, 6, 7, 8, 9, 10] (by decide) rfl) hK hN hP (q0 := 0) rfl rfl rfl hl.1 rfl (Nat.le_of_ble_eq_true rfl) dX7_keeps_1 ⟨Nat.le_of_ble_eq_true rfl, Nat.le_of_ble_eq_true rfl⟩) hP hD hS hA [0, 1, 2, 3, 4, 5, 6, 7, 8, 9, 10] [11, 12] rfl rfl (by decide) (by decide) (fun _ H locs hP hD hS => ?_)
  have hP : va_P D vwCl [(aR_isTaken, .inl (cZ, 501, .inl R_isTaken)), (aR_keep, .inl (cI, 4008, .inl R_keep)), (aR, .inr (7, [.int R_triples, .ref aR_facts, .int R_patterns, .ref aR_cells, .ref aR_told, .ref aR_of, .ref aR_hints, .int R_filters, .ref aR_looks, .ref aR_kinds, .ref aR_values, .ref aR_isSafe, .ref aR_sizes, .ref aR_spreads, .ref aR_isSeen, .ref aR_estimates, .ref aR_rest, .int R_steps, .ref aR_order, .ref aR_joins, .ref aR_actsBehind, .ref aR_upTo, .int R_filtersThen, .ref aR_behind, .int R_rows_3, .ref aR_row, .ref aR_found, .int R_comes_4, .ref aR_next, .ref aR_nextFound, .int R_kept, .int R_hasRoom, .ref aR_keep, .ref aR_isTaken])), (aR_found, .inl (cI, 501, .inl R_found_5)), (aR_row, .inl (cI, 4008, .inl R_row_6)), (aR_of, .inl (cI, 8, .inl R_of)), (aR_next, .inl (cI, 4008, .inl R_next_7)), (aR_cells, .inl (cI, 24, .inl R_cells)), (aR_facts, .inl (cI, 240, .inl R_facts)), (aR_nextFound, .inl (cI, 501, .inl R_nextFound_8)), (aR_looks, .inl (cI, 8, .inl R_looks)), (aR_values, .inl (cI, 8, .inl R_values)), (aR_kinds, .inl (cI, 8, .inl R_kinds))] H := hP
  have hD : va_D A [(aR_isTaken, .inl (cZ, 501, .inl R_isTaken)), (aR_keep, .inl (cI, 4008, .inl R_keep)), (aR, .inr (7, [.int R_triples, .ref aR_facts, .int R_patterns, .ref aR_cells, .ref aR_told, .ref aR_of, .ref aR_hints, .int R_filters, .ref aR_looks, .ref aR_kinds, .ref aR_values, .ref aR_isSafe, .ref aR_sizes, .ref aR_spreads, .ref aR_isSeen, .ref aR_estimates, .ref aR_rest, .int R_steps, .ref aR_order, .ref aR_joins, .ref aR_actsBehind, .ref aR_upTo, .int R_filtersThen, .ref aR_behind, .int R_rows_3, .ref aR_row, .ref aR_found, .int R_comes_4, .ref aR_next, .ref aR_nextFound, .int R_kept, .int R_hasRoom, .ref aR_keep, .ref aR_isTaken])), (aR_found, .inl (cI, 501, .inl R_found_5)), (aR_row, .inl (cI, 4008, .inl R_row_6)), (aR_of, .inl (cI, 8, .inl R_of)), (aR_next, .inl (cI, 4008, .inl R_next_7)), (aR_cells, .inl (cI, 24, .inl R_cells)), (aR_facts, .inl (cI, 240, .inl R_facts)), (aR_nextFound, .inl (cI, 501, .inl R_nextFound_8)), (aR_looks, .inl (cI, 8, .inl R_looks)), (aR_values, .inl (cI, 8, .inl R_values)), (aR_kinds, .inl (cI, 8, .inl R_kinds))] := hD
  refine lv_istore_n (lv' := [(1, .int r_2), (0, .ref aR)]) hx hb dX7_keeps_4 rfl hl (by decide) rfl (fun ls hl => ?_)
  refine lv_aload_n hx hb dX7_keeps_5 rfl (lv_at hl 1 rfl) ?_
  refine va_get (D := D) (ci := 7) (v := .int R_hasRoom) (C := RX7) (T := TX7) (N := 34) hx hb htg giX7 hown hK hP 2 rfl rfl 31 (by decide) (htg _ kw_594) (fun _ h9 => h9) rfl dX7_keeps_6 ?_
  refine lv_if_eq (tgt := 20) hx hb dX7_keeps_9 (by decide) (fun c_9 => ?_) (fun c_9 => ?_)
  · have hf := xb_t c_9 hf
    refine lv_iconst (v := (0 : Int32)) hx hb dX7_keeps_20 (by decide) ?_
    have hf := Option.some.inj hf
    cases hf
    exact x_zret (fun _ => 0) hQ hx hb hr hlk (by decide) hK (hP.sub [2, 3, 4, 5, 6, 7, 8, 9, 10, 11, 12, 0, 1] rfl) (hD.sub [2, 3, 4, 5, 6, 7, 8, 9, 10, 11, 12, 0, 1] (by decide) rfl) hS dX7_keeps_21
  · have hf := xb_f c_9 hf
    refine lv_iload_n hx hb dX7_keeps_12 rfl (lv_at hl 0 rfl) ?_
    refine lv_aload_n hx hb dX7_keeps_13 rfl (lv_at hl 1 rfl) ?_
    refine va_get (D := D) (ci := 7) (v := .int R_kept) (C := RX7) (T := TX7) (N := 34) hx hb htg giX7 hown hK hP 2 rfl rfl 30 (by decide) (htg _ kw_593) (fun _ h9 => h9) rfl dX7_keeps_14 ?_
    refine lv_icmp_eq (tgt := 22) hx hb dX7_keeps_17 (by decide) (fun c_10 => ?_) (fun c_10 => ?_)
    · have hf := xb_t c_10 hf
      refine lv_iconst (v := (0 : Int32)) hx hb dX7_keeps_22 (by decide) ?_
      refine lv_istore_n (lv' := [(2, .int (0 : Int32)), (1, .int r_2), (0, .ref aR)]) hx hb dX7_keeps_23 rfl hl (by decide) rfl (fun ls hl => ?_)
      have L_24_20 : ∀ (k : Nat) (R_isTaken_21 : Nat → Int32) (x2_22 : Int32) (o_20 : (Nat → Int32)), f_JoinOrderModel_keeps_L0 n R_kept k R_isTaken_21 x2_22 = some o_20 → ∀ (H : Heap) (locs : List Loc), va_P D vwCl [(aR, .inr (7, [.int R_triples, .ref aR_facts, .int R_patterns, .ref aR_cells, .ref aR_told, .ref aR_of, .ref aR_hints, .int R_filters, .ref aR_looks, .ref aR_kinds, .ref aR_values, .ref aR_isSafe, .ref aR_sizes, .ref aR_spreads, .ref aR_isSeen, .ref aR_estimates, .ref aR_rest, .int R_steps, .ref aR_order, .ref aR_joins, .ref aR_actsBehind, .ref aR_upTo, .int R_filtersThen, .ref aR_behind, .int R_rows_3, .ref aR_row, .ref aR_found, .int R_comes_4, .ref aR_next, .ref aR_nextFound, .int R_kept, .int R_hasRoom, .ref aR_keep, .ref aR_isTaken])), (aR_found, .inl (cI, 501, .inl R_found_5)), (aR_row, .inl (cI, 4008, .inl R_row_6)), (aR_of, .inl (cI, 8, .inl R_of)), (aR_next, .inl (cI, 4008, .inl R_next_7)), (aR_cells, .inl (cI, 24, .inl R_cells)), (aR_facts, .inl (cI, 240, .inl R_facts)), (aR_nextFound, .inl (cI, 501, .inl R_nextFound_8)), (aR_looks, .inl (cI, 8, .inl R_looks)), (aR_values, .inl (cI, 8, .inl R_values)), (aR_kinds, .inl (cI, 8, .inl R_kinds)), (aR_isTaken, .inl (cZ, 501, .inl R_isTaken_21)), (aR_keep, .inl (cI, 4008, .inl R_keep))] H → va_D A [(aR, .inr (7, [.int R_triples, .ref aR_facts, .int R_patterns, .ref aR_cells, .ref aR_told, .ref aR_of, .ref aR_hints, .int R_filters, .ref aR_looks, .ref aR_kinds, .ref aR_values, .ref aR_isSafe, .ref aR_sizes, .ref aR_spreads, .ref aR_isSeen, .ref aR_estimates, .ref aR_rest, .int R_steps, .ref aR_order, .ref aR_joins, .ref aR_actsBehind, .ref aR_upTo, .int R_filtersThen, .ref aR_behind, .int R_rows_3, .ref aR_row, .ref aR_found, .int R_comes_4, .ref aR_next, .ref aR_nextFound, .int R_kept, .int R_hasRoom, .ref aR_keep, .ref aR_isTaken])), (aR_found, .inl (cI, 501, .inl R_found_5)), (aR_row, .inl (cI, 4008, .inl R_row_6)), (aR_of, .inl (cI, 8, .inl R_of)), (aR_next, .inl (cI, 4008, .inl R_next_7)), (aR_cells, .inl (cI, 24, .inl R_cells)), (aR_facts, .inl (cI, 240, .inl R_facts)), (aR_nextFound, .inl (cI, 501, .inl R_nextFound_8)), (aR_looks, .inl (cI, 8, .inl R_looks)), (aR_values, .inl (cI, 8, .inl R_values)), (aR_kinds, .inl (cI, 8, .inl R_kinds)), (aR_isTaken, .inl (cZ, 501, .inl R_isTaken_21)), (aR_keep, .inl (cI, 4008, .inl R_keep))] → va_S A s.heap H locs → ∀ ls : Array Slot, lv_has ls 5 [(0, .ref aR), (1, .int r_2), (2, .int x2_22)] → (∀ (R_isTaken_23 : Nat → Int32), some (R_isTaken_23) = some o_20 → ∀ (H : Heap) (locs : List Loc), va_P D vwCl [(aR, .inr (7, [.int R_triples, .ref aR_facts, .int R_patterns, .ref aR_cells, .ref aR_told, .ref aR_of, .ref aR_hints, .int R_filters, .ref aR_looks, .ref aR_kinds, .ref aR_values, .ref aR_isSafe, .ref aR_sizes, .ref aR_spreads, .ref aR_isSeen, .ref aR_estimates, .ref aR_rest, .int R_steps, .ref aR_order, .ref aR_joins, .ref aR_actsBehind, .ref aR_upTo, .int R_filtersThen, .ref aR_behind, .int R_rows_3, .ref aR_row, .ref aR_found, .int R_comes_4, .ref aR_next, .ref aR_nextFound, .int R_kept, .int R_hasRoom, .ref aR_keep, .ref aR_isTaken])), (aR_found, .inl (cI, 501, .inl R_found_5)), (aR_row, .inl (cI, 4008, .inl R_row_6)), (aR_of, .inl (cI, 8, .inl R_of)), (aR_next, .inl (cI, 4008, .inl R_next_7)), (aR_cells, .inl (cI, 24, .inl R_cells)), (aR_facts, .inl (cI, 240, .inl R_facts)), (aR_nextFound, .inl (cI, 501, .inl R_nextFound_8)), (aR_looks, .inl (cI, 8, .inl R_looks)), (aR_values, .inl (cI, 8, .inl R_values)), (aR_kinds, .inl (cI, 8, .inl R_kinds)), (aR_isTaken, .inl (cZ, 501, .inl R_isTaken_23)), (aR_keep, .inl (cI, 4008, .inl R_keep))] H → va_D A [(aR, .inr (7, [.int R_triples, .ref aR_facts, .int R_patterns, .ref aR_cells, .ref aR_told, .ref aR_of, .ref aR_hints, .int R_filters, .ref aR_looks, .ref aR_kinds, .ref aR_values, .ref aR_isSafe, .ref aR_sizes, .ref aR_spreads, .ref aR_isSeen, .ref aR_estimates, .ref aR_rest, .int R_steps, .ref aR_order, .ref aR_joins, .ref aR_actsBehind, .ref aR_upTo, .int R_filtersThen, .ref aR_behind, .int R_rows_3, .ref aR_row, .ref aR_found, .int R_comes_4, .ref aR_next, .ref aR_nextFound, .int R_kept, .int R_hasRoom, .ref aR_keep, .ref aR_isTaken])), (aR_found, .inl (cI, 501, .inl R_found_5)), (aR_row, .inl (cI, 4008, .inl R_row_6)), (aR_of, .inl (cI, 8, .inl R_of)), (aR_next, .inl (cI, 4008, .inl R_next_7)), (aR_cells, .inl (cI, 24, .inl R_cells)), (aR_facts, .inl (cI, 240, .inl R_facts)), (aR_nextFound, .inl (cI, 501, .inl R_nextFound_8)), (aR_looks, .inl (cI, 8, .inl R_looks)), (aR_values, .inl (cI, 8, .inl R_values)), (aR_kinds, .inl (cI, 8, .inl R_kinds)), (aR_isTaken, .inl (cZ, 501, .inl R_isTaken_23)), (aR_keep, .inl (cI, 4008, .inl R_keep))] → va_S A s.heap H locs → ∀ ls : Array Slot, lv_has ls 5 [(0, .ref aR), (1, .int r_2)] → W p l e rm_f_JoinOrderModel_keeps s m args below meth c H locs 0 0 Q (F0 m 45 ls [])) → W p l e rm_f_JoinOrderModel_keeps s m args below meth c H locs 0 0 Q (F0 m 24 ls []) := by
        intro k
        induction k with
        | zero =>
          intro R_isTaken_21 x2_22 o_20 hf
          exact absurd (((f_JoinOrderModel_keeps_L0_z n R_kept R_isTaken_21 x2_22).symm.trans hf)) (fun h => by cases h)
        | succ k ih =>
          intro R_isTaken_21 x2_22 o_20 hf H locs hP hD hS ls hl hX_20
          have hf := (f_JoinOrderModel_keeps_L0_s n R_kept k R_isTaken_21 x2_22).symm.trans hf
          refine lv_iload_n hx hb dX7_keeps_24 rfl (lv_at hl 2 rfl) ?_
          refine lv_aload_n hx hb dX7_keeps_25 rfl (lv_at hl 0 rfl) ?_
          refine va_get (D := D) (ci := 7) (v := .int R_kept) (C := RX7) (T := TX7) (N := 34) hx hb htg giX7 hown hK hP 0 rfl rfl 30 (by decide) (htg _ kw_593) (fun _ h9 => h9) rfl dX7_keeps_26 ?_
          refine lv_icmp_ge (tgt := 45) hx hb dX7_keeps_29 (by decide) (fun c_24 => ?_) (fun c_24 => ?_)
          · have hf := xb_t c_24 hf
            exact hX_20 R_isTaken_21 hf _ _ hP hD hS _ (lv_sub hl [0, 1] rfl)
          · have hf := xb_f c_24 hf
            refine lv_aload_n hx hb dX7_keeps_32 rfl (lv_at hl 0 rfl) ?_
            refine va_get (D := D) (ci := 7) (v := .ref aR_isTaken) (C := RX7) (T := TX7) (N := 34) hx hb htg giX7 hown hK hP 0 rfl rfl 33 (by decide) (htg _ kw_596) (fun _ h9 => h9) rfl dX7_keeps_33 ?_
            refine lv_iload_n hx hb dX7_keeps_36 rfl (lv_at hl 2 rfl) ?_
            refine lv_iconst (v := (0 : Int32)) hx hb dX7_keeps_37 (by decide) ?_
            have g_25 : vp_in x2_22 501 := gd_in hf
            have hf := gd_el hf
            refine x_zast hx hb hK hP hD hS 11 2 rfl rfl g_25 dX7_keeps_38 (fun R_isTaken_26 eR_isTaken_26 H locs hP hD hS => ?_)
            have hf := nm_nm eR_isTaken_26 hf
            have hP : va_P D vwCl [(aR, .inr (7, [.int R_triples, .ref aR_facts, .int R_patterns, .ref aR_cells, .ref aR_told, .ref aR_of, .ref aR_hints, .int R_filters, .ref aR_looks, .ref aR_kinds, .ref aR_values, .ref aR_isSafe, .ref aR_sizes, .ref aR_spreads, .ref aR_isSeen, .ref aR_estimates, .ref aR_rest, .int R_steps, .ref aR_order, .ref aR_joins, .ref aR_actsBehind, .ref aR_upTo, .int R_filtersThen, .ref aR_behind, .int R_rows_3, .ref aR_row, .ref aR_found, .int R_comes_4, .ref aR_next, .ref aR_nextFound, .int R_kept, .int R_hasRoom, .ref aR_keep, .ref aR_isTaken])), (aR_found, .inl (cI, 501, .inl R_found_5)), (aR_row, .inl (cI, 4008, .inl R_row_6)), (aR_of, .inl (cI, 8, .inl R_of)), (aR_next, .inl (cI, 4008, .inl R_next_7)), (aR_cells, .inl (cI, 24, .inl R_cells)), (aR_facts, .inl (cI, 240, .inl R_facts)), (aR_nextFound, .inl (cI, 501, .inl R_nextFound_8)), (aR_looks, .inl (cI, 8, .inl R_looks)), (aR_values, .inl (cI, 8, .inl R_values)), (aR_kinds, .inl (cI, 8, .inl R_kinds)), (aR_isTaken, .inl (cZ, 501, .inl R_isTaken_26)), (aR_keep, .inl (cI, 4008, .inl R_keep))] H := hP
            have hD : va_D A [(aR, .inr (7, [.int R_triples, .ref aR_facts, .int R_patterns, .ref aR_cells, .ref aR_told, .ref aR_of, .ref aR_hints, .int R_filters, .ref aR_looks, .ref aR_kinds, .ref aR_values, .ref aR_isSafe, .ref aR_sizes, .ref aR_spreads, .ref aR_isSeen, .ref aR_estimates, .ref aR_rest, .int R_steps, .ref aR_order, .ref aR_joins, .ref aR_actsBehind, .ref aR_upTo, .int R_filtersThen, .ref aR_behind, .int R_rows_3, .ref aR_row, .ref aR_found, .int R_comes_4, .ref aR_next, .ref aR_nextFound, .int R_kept, .int R_hasRoom, .ref aR_keep, .ref aR_isTaken])), (aR_found, .inl (cI, 501, .inl R_found_5)), (aR_row, .inl (cI, 4008, .inl R_row_6)), (aR_of, .inl (cI, 8, .inl R_of)), (aR_next, .inl (cI, 4008, .inl R_next_7)), (aR_cells, .inl (cI, 24, .inl R_cells)), (aR_facts, .inl (cI, 240, .inl R_facts)), (aR_nextFound, .inl (cI, 501, .inl R_nextFound_8)), (aR_looks, .inl (cI, 8, .inl R_looks)), (aR_values, .inl (cI, 8, .inl R_values)), (aR_kinds, .inl (cI, 8, .inl R_kinds)), (aR_isTaken, .inl (cZ, 501, .inl R_isTaken_26)), (aR_keep, .inl (cI, 4008, .inl R_keep))] := hD
            obtain ⟨x2_27, ex2_27⟩ : ∃ y : Int32, y = x2_22 + (1 : Int32) := ⟨_, rfl⟩
            have hf := nm_nm ex2_27 hf
            refine lv_iinc (v := x2_27) (lv' := [(2, .int x2_27), (0, .ref aR), (1, .int r_2)]) hx hb dX7_keeps_39 hl (k := 2) rfl (by rw [ex2_27]; rfl) (by decide) rfl (fun ls hl => ?_)
            refine lv_goto (tgt := 24) hx hb dX7_keeps_42 (by decide) ?_
            exact ih R_isTaken_26 x2_27 o_20 hf _ _ hP hD hS _ (lv_sub hl [1, 2, 0] rfl) hX_20
      obtain ⟨o_20, ho_20, hk_20⟩ := bn1_s hf
      refine L_24_20 n R_isTaken (0 : Int32) o_20 ho_20 _ _ (hP.sub [2, 3, 4, 5, 6, 7, 8, 9, 10, 11, 12, 0, 1] rfl) (hD.sub [2, 3, 4, 5, 6, 7, 8, 9, 10, 11, 12, 0, 1] (by decide) rfl) hS _ (lv_sub hl [2, 1, 0] rfl) (fun R_isTaken_23 hf H locs hP hD hS ls hl => ?_)
      have hf := hk_20 _ hf
      refine lv_iconst (v := (1 : Int32)) hx hb dX7_keeps_45 (by decide) ?_
      refine lv_istore_n (lv' := [(2, .int (1 : Int32)), (0, .ref aR), (1, .int r_2)]) hx hb dX7_keeps_46 rfl hl (by decide) rfl (fun ls hl => ?_)
      refine lv_iconst (v := (0 : Int32)) hx hb dX7_keeps_47 (by decide) ?_
      refine lv_istore_n (lv' := [(3, .int (0 : Int32)), (2, .int (1 : Int32)), (0, .ref aR), (1, .int r_2)]) hx hb dX7_keeps_48 rfl hl (by decide) rfl (fun ls hl => ?_)
      have L_49_105 : ∀ (k : Nat) (R_isTaken_106 : Nat → Int32) (x2_107 : Int32) (x3_108 : Int32) (o_105 : ((Nat → Int32) × Int32)), f_JoinOrderModel_keeps_L1 n R_kept R_keep r_2 R_row_6 k R_isTaken_106 x2_107 x3_108 = some o_105 → ∀ (H : Heap) (locs : List Loc), va_P D vwCl [(aR, .inr (7, [.int R_triples, .ref aR_facts, .int R_patterns, .ref aR_cells, .ref aR_told, .ref aR_of, .ref aR_hints, .int R_filters, .ref aR_looks, .ref aR_kinds, .ref aR_values, .ref aR_isSafe, .ref aR_sizes, .ref aR_spreads, .ref aR_isSeen, .ref aR_estimates, .ref aR_rest, .int R_steps, .ref aR_order, .ref aR_joins, .ref aR_actsBehind, .ref aR_upTo, .int R_filtersThen, .ref aR_behind, .int R_rows_3, .ref aR_row, .ref aR_found, .int R_comes_4, .ref aR_next, .ref aR_nextFound, .int R_kept, .int R_hasRoom, .ref aR_keep, .ref aR_isTaken])), (aR_found, .inl (cI, 501, .inl R_found_5)), (aR_row, .inl (cI, 4008, .inl R_row_6)), (aR_of, .inl (cI, 8, .inl R_of)), (aR_next, .inl (cI, 4008, .inl R_next_7)), (aR_cells, .inl (cI, 24, .inl R_cells)), (aR_facts, .inl (cI, 240, .inl R_facts)), (aR_nextFound, .inl (cI, 501, .inl R_nextFound_8)), (aR_looks, .inl (cI, 8, .inl R_looks)), (aR_values, .inl (cI, 8, .inl R_values)), (aR_kinds, .inl (cI, 8, .inl R_kinds)), (aR_isTaken, .inl (cZ, 501, .inl R_isTaken_106)), (aR_keep, .inl (cI, 4008, .inl R_keep))] H → va_D A [(aR, .inr (7, [.int R_triples, .ref aR_facts, .int R_patterns, .ref aR_cells, .ref aR_told, .ref aR_of, .ref aR_hints, .int R_filters, .ref aR_looks, .ref aR_kinds, .ref aR_values, .ref aR_isSafe, .ref aR_sizes, .ref aR_spreads, .ref aR_isSeen, .ref aR_estimates, .ref aR_rest, .int R_steps, .ref aR_order, .ref aR_joins, .ref aR_actsBehind, .ref aR_upTo, .int R_filtersThen, .ref aR_behind, .int R_rows_3, .ref aR_row, .ref aR_found, .int R_comes_4, .ref aR_next, .ref aR_nextFound, .int R_kept, .int R_hasRoom, .ref aR_keep, .ref aR_isTaken])), (aR_found, .inl (cI, 501, .inl R_found_5)), (aR_row, .inl (cI, 4008, .inl R_row_6)), (aR_of, .inl (cI, 8, .inl R_of)), (aR_next, .inl (cI, 4008, .inl R_next_7)), (aR_cells, .inl (cI, 24, .inl R_cells)), (aR_facts, .inl (cI, 240, .inl R_facts)), (aR_nextFound, .inl (cI, 501, .inl R_nextFound_8)), (aR_looks, .inl (cI, 8, .inl R_looks)), (aR_values, .inl (cI, 8, .inl R_values)), (aR_kinds, .inl (cI, 8, .inl R_kinds)), (aR_isTaken, .inl (cZ, 501, .inl R_isTaken_106)), (aR_keep, .inl (cI, 4008, .inl R_keep))] → va_S A s.heap H locs → ∀ ls : Array Slot, lv_has ls 5 [(0, .ref aR), (1, .int r_2), (2, .int x2_107), (3, .int x3_108)] → (∀ (R_isTaken_109 : Nat → Int32) (x2_110 : Int32), some ((R_isTaken_109, x2_110)) = some o_105 → ∀ (H : Heap) (locs : List Loc), va_P D vwCl [(aR, .inr (7, [.int R_triples, .ref aR_facts, .int R_patterns, .ref aR_cells, .ref aR_told, .ref aR_of, .ref aR_hints, .int R_filters, .ref aR_looks, .ref aR_kinds, .ref aR_values, .ref aR_isSafe, .ref aR_sizes, .ref aR_spreads, .ref aR_isSeen, .ref aR_estimates, .ref aR_rest, .int R_steps, .ref aR_order, .ref aR_joins, .ref aR_actsBehind, .ref aR_upTo, .int R_filtersThen, .ref aR_behind, .int R_rows_3, .ref aR_row, .ref aR_found, .int R_comes_4, .ref aR_next, .ref aR_nextFound, .int R_kept, .int R_hasRoom, .ref aR_keep, .ref aR_isTaken])), (aR_found, .inl (cI, 501, .inl R_found_5)), (aR_row, .inl (cI, 4008, .inl R_row_6)), (aR_of, .inl (cI, 8, .inl R_of)), (aR_next, .inl (cI, 4008, .inl R_next_7)), (aR_cells, .inl (cI, 24, .inl R_cells)), (aR_facts, .inl (cI, 240, .inl R_facts)), (aR_nextFound, .inl (cI, 501, .inl R_nextFound_8)), (aR_looks, .inl (cI, 8, .inl R_looks)), (aR_values, .inl (cI, 8, .inl R_values)), (aR_kinds, .inl (cI, 8, .inl R_kinds)), (aR_isTaken, .inl (cZ, 501, .inl R_isTaken_109)), (aR_keep, .inl (cI, 4008, .inl R_keep))] H → va_D A [(aR, .inr (7, [.int R_triples, .ref aR_facts, .int R_patterns, .ref aR_cells, .ref aR_told, .ref aR_of, .ref aR_hints, .int R_filters, .ref aR_looks, .ref aR_kinds, .ref aR_values, .ref aR_isSafe, .ref aR_sizes, .ref aR_spreads, .ref aR_isSeen, .ref aR_estimates, .ref aR_rest, .int R_steps, .ref aR_order, .ref aR_joins, .ref aR_actsBehind, .ref aR_upTo, .int R_filtersThen, .ref aR_behind, .int R_rows_3, .ref aR_row, .ref aR_found, .int R_comes_4, .ref aR_next, .ref aR_nextFound, .int R_kept, .int R_hasRoom, .ref aR_keep, .ref aR_isTaken])), (aR_found, .inl (cI, 501, .inl R_found_5)), (aR_row, .inl (cI, 4008, .inl R_row_6)), (aR_of, .inl (cI, 8, .inl R_of)), (aR_next, .inl (cI, 4008, .inl R_next_7)), (aR_cells, .inl (cI, 24, .inl R_cells)), (aR_facts, .inl (cI, 240, .inl R_facts)), (aR_nextFound, .inl (cI, 501, .inl R_nextFound_8)), (aR_looks, .inl (cI, 8, .inl R_looks)), (aR_values, .inl (cI, 8, .inl R_values)), (aR_kinds, .inl (cI, 8, .inl R_kinds)), (aR_isTaken, .inl (cZ, 501, .inl R_isTaken_109)), (aR_keep, .inl (cI, 4008, .inl R_keep))] → va_S A s.heap H locs → ∀ ls : Array Slot, lv_has ls 5 [(2, .int x2_110)] → W p l e rm_f_JoinOrderModel_keeps s m args below meth c H locs 0 0 Q (F0 m 129 ls [])) → W p l e rm_f_JoinOrderModel_keeps s m args below meth c H locs 0 0 Q (F0 m 49 ls []) := by
        intro k
        induction k with
        | zero =>
          intro R_isTaken_106 x2_107 x3_108 o_105 hf
          exact absurd (((f_JoinOrderModel_keeps_L1_z n R_kept R_keep r_2 R_row_6 R_isTaken_106 x2_107 x3_108).symm.trans hf)) (fun h => by cases h)
        | succ k ih =>
          intro R_isTaken_106 x2_107 x3_108 o_105 hf H locs hP hD hS ls hl hX_105
          have hf := (f_JoinOrderModel_keeps_L1_s n R_kept R_keep r_2 R_row_6 k R_isTaken_106 x2_107 x3_108).symm.trans hf
          refine lv_iload_n hx hb dX7_keeps_49 rfl (lv_at hl 3 rfl) ?_
          refine lv_iload_n hx hb dX7_keeps_50 rfl (lv_at hl 1 rfl) ?_
          refine lv_icmp_ge (tgt := 129) hx hb dX7_keeps_51 (by decide) (fun c_111 => ?_) (fun c_111 => ?_)
          · have hf := xb_t c_111 hf
            exact hX_105 R_isTaken_106 x2_107 hf _ _ hP hD hS _ (lv_sub hl [2] rfl)
          · have hf := xb_f c_111 hf
            refine lv_iload_n hx hb dX7_keeps_54 rfl (lv_at hl 2 rfl) ?_
            refine lv_if_eq (tgt := 129) hx hb dX7_keeps_55 (by decide) (fun c_112 => ?_) (fun c_112 => ?_)
            · have hf := xb_t c_112 hf
              exact hX_105 R_isTaken_106 x2_107 hf _ _ hP hD hS _ (lv_sub hl [2] rfl)
            · have hf := xb_f c_112 hf
              refine lv_iconst (v := (0 : Int32)) hx hb dX7_keeps_58 (by decide) ?_
              refine lv_istore (lv' := [(4, .int (0 : Int32)), (0, .ref aR), (1, .int r_2), (2, .int x2_107), (3, .int x3_108)]) hx hb dX7_keeps_59 hl (by decide) rfl (fun ls hl => ?_)
              have L_61_129 : ∀ (k : Nat) (x4_130 : Int32) (o_129 : Int32), f_JoinOrderModel_keeps_L2 n R_kept R_keep R_row_6 R_isTaken_106 x3_108 k x4_130 = some o_129 → ∀ (H : Heap) (locs : List Loc), va_P D vwCl [(aR, .inr (7, [.int R_triples, .ref aR_facts, .int R_patterns, .ref aR_cells, .ref aR_told, .ref aR_of, .ref aR_hints, .int R_filters, .ref aR_looks, .ref aR_kinds, .ref aR_values, .ref aR_isSafe, .ref aR_sizes, .ref aR_spreads, .ref aR_isSeen, .ref aR_estimates, .ref aR_rest, .int R_steps, .ref aR_order, .ref aR_joins, .ref aR_actsBehind, .ref aR_upTo, .int R_filtersThen, .ref aR_behind, .int R_rows_3, .ref aR_row, .ref aR_found, .int R_comes_4, .ref aR_next, .ref aR_nextFound, .int R_kept, .int R_hasRoom, .ref aR_keep, .ref aR_isTaken])), (aR_found, .inl (cI, 501, .inl R_found_5)), (aR_row, .inl (cI, 4008, .inl R_row_6)), (aR_of, .inl (cI, 8, .inl R_of)), (aR_next, .inl (cI, 4008, .inl R_next_7)), (aR_cells, .inl (cI, 24, .inl R_cells)), (aR_facts, .inl (cI, 240, .inl R_facts)), (aR_nextFound, .inl (cI, 501, .inl R_nextFound_8)), (aR_looks, .inl (cI, 8, .inl R_looks)), (aR_values, .inl (cI, 8, .inl R_values)), (aR_kinds, .inl (cI, 8, .inl R_kinds)), (aR_isTaken, .inl (cZ, 501, .inl R_isTaken_106)), (aR_keep, .inl (cI, 4008, .inl R_keep))] H → va_D A [(aR, .inr (7, [.int R_triples, .ref aR_facts, .int R_patterns, .ref aR_cells, .ref aR_told, .ref aR_of, .ref aR_hints, .int R_filters, .ref aR_looks, .ref aR_kinds, .ref aR_values, .ref aR_isSafe, .ref aR_sizes, .ref aR_spreads, .ref aR_isSeen, .ref aR_estimates, .ref aR_rest, .int R_steps, .ref aR_order, .ref aR_joins, .ref aR_actsBehind, .ref aR_upTo, .int R_filtersThen, .ref aR_behind, .int R_rows_3, .ref aR_row, .ref aR_found, .int R_comes_4, .ref aR_next, .ref aR_nextFound, .int R_kept, .int R_hasRoom, .ref aR_keep, .ref aR_isTaken])), (aR_found, .inl (cI, 501, .inl R_found_5)), (aR_row, .inl (cI, 4008, .inl R_row_6)), (aR_of, .inl (cI, 8, .inl R_of)), (aR_next, .inl (cI, 4008, .inl R_next_7)), (aR_cells, .inl (cI, 24, .inl R_cells)), (aR_facts, .inl (cI, 240, .inl R_facts)), (aR_nextFound, .inl (cI, 501, .inl R_nextFound_8)), (aR_looks, .inl (cI, 8, .inl R_looks)), (aR_values, .inl (cI, 8, .inl R_values)), (aR_kinds, .inl (cI, 8, .inl R_kinds)), (aR_isTaken, .inl (cZ, 501, .inl R_isTaken_106)), (aR_keep, .inl (cI, 4008, .inl R_keep))] → va_S A s.heap H locs → ∀ ls : Array Slot, lv_has ls 5 [(0, .ref aR), (1, .int r_2), (3, .int x3_108), (4, .int x4_130)] → (∀ (x4_131 : Int32), some (x4_131) = some o_129 → ∀ (H : Heap) (locs : List Loc), va_P D vwCl [(aR, .inr (7, [.int R_triples, .ref aR_facts, .int R_patterns, .ref aR_cells, .ref aR_told, .ref aR_of, .ref aR_hints, .int R_filters, .ref aR_looks, .ref aR_kinds, .ref aR_values, .ref aR_isSafe, .ref aR_sizes, .ref aR_spreads, .ref aR_isSeen, .ref aR_estimates, .ref aR_rest, .int R_steps, .ref aR_order, .ref aR_joins, .ref aR_actsBehind, .ref aR_upTo, .int R_filtersThen, .ref aR_behind, .int R_rows_3, .ref aR_row, .ref aR_found, .int R_comes_4, .ref aR_next, .ref aR_nextFound, .int R_kept, .int R_hasRoom, .ref aR_keep, .ref aR_isTaken])), (aR_found, .inl (cI, 501, .inl R_found_5)), (aR_row, .inl (cI, 4008, .inl R_row_6)), (aR_of, .inl (cI, 8, .inl R_of)), (aR_next, .inl (cI, 4008, .inl R_next_7)), (aR_cells, .inl (cI, 24, .inl R_cells)), (aR_facts, .inl (cI, 240, .inl R_facts)), (aR_nextFound, .inl (cI, 501, .inl R_nextFound_8)), (aR_looks, .inl (cI, 8, .inl R_looks)), (aR_values, .inl (cI, 8, .inl R_values)), (aR_kinds, .inl (cI, 8, .inl R_kinds)), (aR_isTaken, .inl (cZ, 501, .inl R_isTaken_106)), (aR_keep, .inl (cI, 4008, .inl R_keep))] H → va_D A [(aR, .inr (7, [.int R_triples, .ref aR_facts, .int R_patterns, .ref aR_cells, .ref aR_told, .ref aR_of, .ref aR_hints, .int R_filters, .ref aR_looks, .ref aR_kinds, .ref aR_values, .ref aR_isSafe, .ref aR_sizes, .ref aR_spreads, .ref aR_isSeen, .ref aR_estimates, .ref aR_rest, .int R_steps, .ref aR_order, .ref aR_joins, .ref aR_actsBehind, .ref aR_upTo, .int R_filtersThen, .ref aR_behind, .int R_rows_3, .ref aR_row, .ref aR_found, .int R_comes_4, .ref aR_next, .ref aR_nextFound, .int R_kept, .int R_hasRoom, .ref aR_keep, .ref aR_isTaken])), (aR_found, .inl (cI, 501, .inl R_found_5)), (aR_row, .inl (cI, 4008, .inl R_row_6)), (aR_of, .inl (cI, 8, .inl R_of)), (aR_next, .inl (cI, 4008, .inl R_next_7)), (aR_cells, .inl (cI, 24, .inl R_cells)), (aR_facts, .inl (cI, 240, .inl R_facts)), (aR_nextFound, .inl (cI, 501, .inl R_nextFound_8)), (aR_looks, .inl (cI, 8, .inl R_looks)), (aR_values, .inl (cI, 8, .inl R_values)), (aR_kinds, .inl (cI, 8, .inl R_kinds)), (aR_isTaken, .inl (cZ, 501, .inl R_isTaken_106)), (aR_keep, .inl (cI, 4008, .inl R_keep))] → va_S A s.heap H locs → ∀ ls : Array Slot, lv_has ls 5 [(0, .ref aR), (1, .int r_2), (3, .int x3_108), (4, .int x4_131)] → W p l e rm_f_JoinOrderModel_keeps s m args below meth c H locs 0 0 Q (F0 m 96 ls [])) → W p l e rm_f_JoinOrderModel_keeps s m args below meth c H locs 0 0 Q (F0 m 61 ls []) := by
                intro k
                induction k with
                | zero =>
                  intro x4_130 o_129 hf
                  exact absurd (((f_JoinOrderModel_keeps_L2_z n R_kept R_keep R_row_6 R_isTaken_106 x3_108 x4_130).symm.trans hf)) (fun h => by cases h)
                | succ k ih =>
                  intro x4_130 o_129 hf H locs hP hD hS ls hl hX_129
                  have hf := (f_JoinOrderModel_keeps_L2_s n R_kept R_keep R_row_6 R_isTaken_106 x3_108 k x4_130).symm.trans hf
                  refine lv_iload hx hb dX7_keeps_61 (lv_at hl 3 rfl) ?_
                  refine lv_aload_n hx hb dX7_keeps_63 rfl (lv_at hl 0 rfl) ?_
                  refine va_get (D := D) (ci := 7) (v := .int R_kept) (C := RX7) (T := TX7) (N := 34) hx hb htg giX7 hown hK hP 0 rfl rfl 30 (by decide) (htg _ kw_593) (fun _ h9 => h9) rfl dX7_keeps_64 ?_
                  refine lv_icmp_ge (tgt := 96) hx hb dX7_keeps_67 (by decide) (fun c_132 => ?_) (fun c_132 => ?_)
                  · have hf := xb_t c_132 hf
                    exact hX_129 x4_130 hf _ _ hP hD hS _ hl
                  · have hf := xb_f c_132 hf
                    refine lv_aload_n hx hb dX7_keeps_70 rfl (lv_at hl 0 rfl) ?_
                    refine va_get (D := D) (ci := 7) (v := .ref aR_isTaken) (C := RX7) (T := TX7) (N := 34) hx hb htg giX7 hown hK hP 0 rfl rfl 33 (by decide) (htg _ kw_596) (fun _ h9 => h9) rfl dX7_keeps_71 ?_
                    refine lv_iload hx hb dX7_keeps_74 (lv_at hl 3 rfl) ?_
                    have g_133 : vp_in x4_130 501 := gd_in hf
                    have hf := gd_el hf
                    refine va_zald hx hb hK hP 11 2 rfl rfl g_133 dX7_keeps_76 ?_
                    refine lv_if_ne (tgt := 90) hx hb dX7_keeps_77 (by decide) (fun c_134 => ?_) (fun c_134 => ?_)
                    · have hf := xb_f c_134 hf
                      obtain ⟨x4_135, ex4_135⟩ : ∃ y : Int32, y = x4_130 + (1 : Int32) := ⟨_, rfl⟩
                      have hf := nm_nm ex4_135 hf
                      refine lv_iinc (v := x4_135) (lv' := [(4, .int x4_135), (0, .ref aR), (1, .int r_2), (3, .int x3_108)]) hx hb dX7_keeps_90 hl (k := 3) rfl (by rw [ex4_135]; rfl) (by decide) rfl (fun ls hl => ?_)
                      refine lv_goto (tgt := 61) hx hb dX7_keeps_93 (by decide) ?_
                      exact ih x4_135 o_129 hf _ _ hP hD hS _ (lv_sub hl [1, 2, 3, 0] rfl) hX_129
                    · have hf := xb_t c_134 hf
                      refine lv_aload_n hx hb dX7_keeps_80 rfl (lv_at hl 0 rfl) ?_
                      refine lv_iload_n hx hb dX7_keeps_81 rfl (lv_at hl 2 rfl) ?_
                      refine lv_iload hx hb dX7_keeps_82 (lv_at hl 3 rfl) ?_
                      obtain ⟨r_137, hq_136, hf⟩ := bn1_c hf
                      refine x_z (xrV (As := [.int x3_108, .int x4_130]) (b := aR) (rest := []) ⟨hx, hb, hml, hown, htg⟩ (c_f_JoinOrderModel_isAlike l D cI cJ cZ _ n aR x3_108 x4_130 R_triples aR_facts R_patterns aR_cells aR_told aR_of aR_hints R_filters aR_looks aR_kinds aR_values aR_isSafe aR_sizes aR_spreads aR_isSeen aR_estimates aR_rest R_steps aR_order aR_joins aR_actsBehind aR_upTo R_filtersThen aR_behind R_rows_3 aR_row aR_found R_comes_4 aR_next aR_nextFound R_kept R_hasRoom aR_keep aR_isTaken R_row_6 R_keep hq_136) kc_f_JoinOrderModel_isAlike kw_836 kw_838 kp_45 kw_8 dd_f_JoinOrderModel_isAlike ⟨Nat.le_of_ble_eq_true rfl, Nat.le_of_ble_eq_true rfl⟩ rfl rfl (hP.sub [0, 2, 12] rfl) (hD.sub [0, 2, 12] (by decide) rfl) hK hN hP (q0 := 0) rfl rfl rfl hl.1 rfl (Nat.le_of_ble_eq_true rfl) dX7_keeps_84 ⟨Nat.le_of_ble_eq_true rfl, Nat.le_of_ble_eq_true rfl⟩) hP hD hS hA [0, 2, 12] [1, 3, 4, 5, 6, 7, 8, 9, 10, 11] rfl rfl (by decide) (by decide) (fun _ H locs bz_136 hP hD hS => ?_)
                      have hP : va_P D vwCl [(aR_found, .inl (cI, 501, .inl R_found_5)), (aR_of, .inl (cI, 8, .inl R_of)), (aR_next, .inl (cI, 4008, .inl R_next_7)), (aR_cells, .inl (cI, 24, .inl R_cells)), (aR_facts, .inl (cI, 240, .inl R_facts)), (aR_nextFound, .inl (cI, 501, .inl R_nextFound_8)), (aR_looks, .inl (cI, 8, .inl R_looks)), (aR_values, .inl (cI, 8, .inl R_values)), (aR_kinds, .inl (cI, 8, .inl R_kinds)), (aR_isTaken, .inl (cZ, 501, .inl R_isTaken_106)), (aR, .inr (7, [.int R_triples, .ref aR_facts, .int R_patterns, .ref aR_cells, .ref aR_told, .ref aR_of, .ref aR_hints, .int R_filters, .ref aR_looks, .ref aR_kinds, .ref aR_values, .ref aR_isSafe, .ref aR_sizes, .ref aR_spreads, .ref aR_isSeen, .ref aR_estimates, .ref aR_rest, .int R_steps, .ref aR_order, .ref aR_joins, .ref aR_actsBehind, .ref aR_upTo, .int R_filtersThen, .ref aR_behind, .int R_rows_3, .ref aR_row, .ref aR_found, .int R_comes_4, .ref aR_next, .ref aR_nextFound, .int R_kept, .int R_hasRoom, .ref aR_keep, .ref aR_isTaken])), (aR_row, .inl (cI, 4008, .inl R_row_6)), (aR_keep, .inl (cI, 4008, .inl R_keep))] H := hP
                      have hD : va_D A [(aR_found, .inl (cI, 501, .inl R_found_5)), (aR_of, .inl (cI, 8, .inl R_of)), (aR_next, .inl (cI, 4008, .inl R_next_7)), (aR_cells, .inl (cI, 24, .inl R_cells)), (aR_facts, .inl (cI, 240, .inl R_facts)), (aR_nextFound, .inl (cI, 501, .inl R_nextFound_8)), (aR_looks, .inl (cI, 8, .inl R_looks)), (aR_values, .inl (cI, 8, .inl R_values)), (aR_kinds, .inl (cI, 8, .inl R_kinds)), (aR_isTaken, .inl (cZ, 501, .inl R_isTaken_106)), (aR, .inr (7, [.int R_triples, .ref aR_facts, .int R_patterns, .ref aR_cells, .ref aR_told, .ref aR_of, .ref aR_hints, .int R_filters, .ref aR_looks, .ref aR_kinds, .ref aR_values, .ref aR_isSafe, .ref aR_sizes, .ref aR_spreads, .ref aR_isSeen, .ref aR_estimates, .ref aR_rest, .int R_steps, .ref aR_order, .ref aR_joins, .ref aR_actsBehind, .ref aR_upTo, .int R_filtersThen, .ref aR_behind, .int R_rows_3, .ref aR_row, .ref aR_found, .int R_comes_4, .ref aR_next, .ref aR_nextFound, .int R_kept, .int R_hasRoom, .ref aR_keep, .ref aR_isTaken])), (aR_row, .inl (cI, 4008, .inl R_row_6)), (aR_keep, .inl (cI, 4008, .inl R_keep))] := hD
                      refine lv_if_ne (tgt := 96) hx hb dX7_keeps_87 (by decide) (fun c_138 => ?_) (fun c_138 => ?_)
                      · have hf := xb_f c_138 hf
                        exact hX_129 x4_130 hf _ _ (hP.sub [10, 0, 11, 1, 2, 3, 4, 5, 6, 7, 8, 9, 12] rfl) (hD.sub [10, 0, 11, 1, 2, 3, 4, 5, 6, 7, 8, 9, 12] (by decide) rfl) hS _ hl
                      · have hf := xb_t c_138 hf
                        obtain ⟨x4_139, ex4_139⟩ : ∃ y : Int32, y = x4_130 + (1 : Int32) := ⟨_, rfl⟩
                        have hf := nm_nm ex4_139 hf
                        refine lv_iinc (v := x4_139) (lv' := [(4, .int x4_139), (0, .ref aR), (1, .int r_2), (3, .int x3_108)]) hx hb dX7_keeps_90 hl (k := 3) rfl (by rw [ex4_139]; rfl) (by decide) rfl (fun ls hl => ?_)
                        refine lv_goto (tgt := 61) hx hb dX7_keeps_93 (by decide) ?_
                        exact ih x4_139 o_129 hf _ _ (hP.sub [10, 0, 11, 1, 2, 3, 4, 5, 6, 7, 8, 9, 12] rfl) (hD.sub [10, 0, 11, 1, 2, 3, 4, 5, 6, 7, 8, 9, 12] (by decide) rfl) hS _ (lv_sub hl [1, 2, 3, 0] rfl) hX_129
              obtain ⟨o_129, ho_129, hk_129⟩ := bn1_s hf
              refine L_61_129 n (0 : Int32) o_129 ho_129 _ _ hP hD hS _ (lv_sub hl [1, 2, 4, 0] rfl) (fun x4_131 hf H locs hP hD hS ls hl => ?_)
              have hf := hk_129 _ hf
              refine lv_iload hx hb dX7_keeps_96 (lv_at hl 3 rfl) ?_
              refine lv_aload_n hx hb dX7_keeps_98 rfl (lv_at hl 0 rfl) ?_
              refine va_get (D := D) (ci := 7) (v := .int R_kept) (C := RX7) (T := TX7) (N := 34) hx hb htg giX7 hown hK hP 0 rfl rfl 30 (by decide) (htg _ kw_593) (fun _ h9 => h9) rfl dX7_keeps_99 ?_
              obtain ⟨o_141, ho_141, hk_141⟩ := bn1_s hf
              have J_110_141 : ∀ (z_142 : Int32), some (z_142) = some o_141 → ∀ (H : Heap) (locs : List Loc), va_P D vwCl [(aR, .inr (7, [.int R_triples, .ref aR_facts, .int R_patterns, .ref aR_cells, .ref aR_told, .ref aR_of, .ref aR_hints, .int R_filters, .ref aR_looks, .ref aR_kinds, .ref aR_values, .ref aR_isSafe, .ref aR_sizes, .ref aR_spreads, .ref aR_isSeen, .ref aR_estimates, .ref aR_rest, .int R_steps, .ref aR_order, .ref aR_joins, .ref aR_actsBehind, .ref aR_upTo, .int R_filtersThen, .ref aR_behind, .int R_rows_3, .ref aR_row, .ref aR_found, .int R_comes_4, .ref aR_next, .ref aR_nextFound, .int R_kept, .int R_hasRoom, .ref aR_keep, .ref aR_isTaken])), (aR_found, .inl (cI, 501, .inl R_found_5)), (aR_row, .inl (cI, 4008, .inl R_row_6)), (aR_of, .inl (cI, 8, .inl R_of)), (aR_next, .inl (cI, 4008, .inl R_next_7)), (aR_cells, .inl (cI, 24, .inl R_cells)), (aR_facts, .inl (cI, 240, .inl R_facts)), (aR_nextFound, .inl (cI, 501, .inl R_nextFound_8)), (aR_looks, .inl (cI, 8, .inl R_looks)), (aR_values, .inl (cI, 8, .inl R_values)), (aR_kinds, .inl (cI, 8, .inl R_kinds)), (aR_isTaken, .inl (cZ, 501, .inl R_isTaken_106)), (aR_keep, .inl (cI, 4008, .inl R_keep))] H → va_D A [(aR, .inr (7, [.int R_triples, .ref aR_facts, .int R_patterns, .ref aR_cells, .ref aR_told, .ref aR_of, .ref aR_hints, .int R_filters, .ref aR_looks, .ref aR_kinds, .ref aR_values, .ref aR_isSafe, .ref aR_sizes, .ref aR_spreads, .ref aR_isSeen, .ref aR_estimates, .ref aR_rest, .int R_steps, .ref aR_order, .ref aR_joins, .ref aR_actsBehind, .ref aR_upTo, .int R_filtersThen, .ref aR_behind, .int R_rows_3, .ref aR_row, .ref aR_found, .int R_comes_4, .ref aR_next, .ref aR_nextFound, .int R_kept, .int R_hasRoom, .ref aR_keep, .ref aR_isTaken])), (aR_found, .inl (cI, 501, .inl R_found_5)), (aR_row, .inl (cI, 4008, .inl R_row_6)), (aR_of, .inl (cI, 8, .inl R_of)), (aR_next, .inl (cI, 4008, .inl R_next_7)), (aR_cells, .inl (cI, 24, .inl R_cells)), (aR_facts, .inl (cI, 240, .inl R_facts)), (aR_nextFound, .inl (cI, 501, .inl R_nextFound_8)), (aR_looks, .inl (cI, 8, .inl R_looks)), (aR_values, .inl (cI, 8, .inl R_values)), (aR_kinds, .inl (cI, 8, .inl R_kinds)), (aR_isTaken, .inl (cZ, 501, .inl R_isTaken_106)), (aR_keep, .inl (cI, 4008, .inl R_keep))] → va_S A s.heap H locs → ∀ ls : Array Slot, lv_has ls 5 [(0, .ref aR), (1, .int r_2), (3, .int x3_108), (4, .int x4_131)] → W p l e rm_f_JoinOrderModel_keeps s m args below meth c H locs 0 0 Q (F0 m 110 ls [.int z_142]) := by
                intro z_142 hf H locs hP hD hS ls hl
                have hf := hk_141 _ hf
                refine lv_istore_n (lv' := [(2, .int z_142), (0, .ref aR), (1, .int r_2), (3, .int x3_108), (4, .int x4_131)]) hx hb dX7_keeps_110 rfl hl (by decide) rfl (fun ls hl => ?_)
                refine lv_iload_n hx hb dX7_keeps_111 rfl (lv_at hl 0 rfl) ?_
                refine lv_if_eq (tgt := 123) hx hb dX7_keeps_112 (by decide) (fun c_143 => ?_) (fun c_143 => ?_)
                · have hf := xb_t c_143 hf
                  obtain ⟨x3_144, ex3_144⟩ : ∃ y : Int32, y = x3_108 + (1 : Int32) := ⟨_, rfl⟩
                  have hf := nm_nm ex3_144 hf
                  refine lv_iinc (v := x3_144) (lv' := [(3, .int x3_144), (2, .int z_142), (0, .ref aR), (1, .int r_2), (4, .int x4_131)]) hx hb dX7_keeps_123 hl (k := 3) rfl (by rw [ex3_144]; rfl) (by decide) rfl (fun ls hl => ?_)
                  refine lv_goto (tgt := 49) hx hb dX7_keeps_126 (by decide) ?_
                  exact ih R_isTaken_106 z_142 x3_144 o_105 hf _ _ hP hD hS _ (lv_sub hl [2, 3, 1, 0] rfl) hX_105
                · have hf := xb_f c_143 hf
                  refine lv_aload_n hx hb dX7_keeps_115 rfl (lv_at hl 1 rfl) ?_
                  refine va_get (D := D) (ci := 7) (v := .ref aR_isTaken) (C := RX7) (T := TX7) (N := 34) hx hb htg giX7 hown hK hP 0 rfl rfl 33 (by decide) (htg _ kw_596) (fun _ h9 => h9) rfl dX7_keeps_116 ?_
                  refine lv_iload hx hb dX7_keeps_119 (lv_at hl 4 rfl) ?_
                  refine lv_iconst (v := (1 : Int32)) hx hb dX7_keeps_121 (by decide) ?_
                  have g_145 : vp_in x4_131 501 := gd_in hf
                  have hf := gd_el hf
                  refine x_zast hx hb hK hP hD hS 11 2 rfl rfl g_145 dX7_keeps_122 (fun R_isTaken_146 eR_isTaken_146 H locs hP hD hS => ?_)
                  have hf := nm_nm eR_isTaken_146 hf
                  have hP : va_P D vwCl [(aR, .inr (7, [.int R_triples, .ref aR_facts, .int R_patterns, .ref aR_cells, .ref aR_told, .ref aR_of, .ref aR_hints, .int R_filters, .ref aR_looks, .ref aR_kinds, .ref aR_values, .ref aR_isSafe, .ref aR_sizes, .ref aR_spreads, .ref aR_isSeen, .ref aR_estimates, .ref aR_rest, .int R_steps, .ref aR_order, .ref aR_joins, .ref aR_actsBehind, .ref aR_upTo, .int R_filtersThen, .ref aR_behind, .int R_rows_3, .ref aR_row, .ref aR_found, .int R_comes_4, .ref aR_next, .ref aR_nextFound, .int R_kept, .int R_hasRoom, .ref aR_keep, .ref aR_isTaken])), (aR_found, .inl (cI, 501, .inl R_found_5)), (aR_row, .inl (cI, 4008, .inl R_row_6)), (aR_of, .inl (cI, 8, .inl R_of)), (aR_next, .inl (cI, 4008, .inl R_next_7)), (aR_cells, .inl (cI, 24, .inl R_cells)), (aR_facts, .inl (cI, 240, .inl R_facts)), (aR_nextFound, .inl (cI, 501, .inl R_nextFound_8)), (aR_looks, .inl (cI, 8, .inl R_looks)), (aR_values, .inl (cI, 8, .inl R_values)), (aR_kinds, .inl (cI, 8, .inl R_kinds)), (aR_isTaken, .inl (cZ, 501, .inl R_isTaken_146)), (aR_keep, .inl (cI, 4008, .inl R_keep))] H := hP
                  have hD : va_D A [(aR, .inr (7, [.int R_triples, .ref aR_facts, .int R_patterns, .ref aR_cells, .ref aR_told, .ref aR_of, .ref aR_hints, .int R_filters, .ref aR_looks, .ref aR_kinds, .ref aR_values, .ref aR_isSafe, .ref aR_sizes, .ref aR_spreads, .ref aR_isSeen, .ref aR_estimates, .ref aR_rest, .int R_steps, .ref aR_order, .ref aR_joins, .ref aR_actsBehind, .ref aR_upTo, .int R_filtersThen, .ref aR_behind, .int R_rows_3, .ref aR_row, .ref aR_found, .int R_comes_4, .ref aR_next, .ref aR_nextFound, .int R_kept, .int R_hasRoom, .ref aR_keep, .ref aR_isTaken])), (aR_found, .inl (cI, 501, .inl R_found_5)), (aR_row, .inl (cI, 4008, .inl R_row_6)), (aR_of, .inl (cI, 8, .inl R_of)), (aR_next, .inl (cI, 4008, .inl R_next_7)), (aR_cells, .inl (cI, 24, .inl R_cells)), (aR_facts, .inl (cI, 240, .inl R_facts)), (aR_nextFound, .inl (cI, 501, .inl R_nextFound_8)), (aR_looks, .inl (cI, 8, .inl R_looks)), (aR_values, .inl (cI, 8, .inl R_values)), (aR_kinds, .inl (cI, 8, .inl R_kinds)), (aR_isTaken, .inl (cZ, 501, .inl R_isTaken_146)), (aR_keep, .inl (cI, 4008, .inl R_keep))] := hD
                  obtain ⟨x3_147, ex3_147⟩ : ∃ y : Int32, y = x3_108 + (1 : Int32) := ⟨_, rfl⟩
                  have hf := nm_nm ex3_147 hf
                  refine lv_iinc (v := x3_147) (lv' := [(3, .int x3_147), (2, .int z_142), (0, .ref aR), (1, .int r_2), (4, .int x4_131)]) hx hb dX7_keeps_123 hl (k := 3) rfl (by rw [ex3_147]; rfl) (by decide) rfl (fun ls hl => ?_)
                  refine lv_goto (tgt := 49) hx hb dX7_keeps_126 (by decide) ?_
                  exact ih R_isTaken_146 z_142 x3_147 o_105 hf _ _ hP hD hS _ (lv_sub hl [2, 3, 1, 0] rfl) hX_105
              have hf := ho_141
              refine lv_icmp_ge (tgt := 109) hx hb dX7_keeps_102 (by decide) (fun c_140 => ?_) (fun c_140 => ?_)
              · have hf := xb_t c_140 hf
                refine lv_iconst (v := (0 : Int32)) hx hb dX7_keeps_109 (by decide) ?_
                exact J_110_141 (0 : Int32) hf _ _ hP hD hS _ hl
              · have hf := xb_f c_140 hf
                refine lv_iconst (v := (1 : Int32)) hx hb dX7_keeps_105 (by decide) ?_
                refine lv_goto (tgt := 110) hx hb dX7_keeps_106 (by decide) ?_
                exact J_110_141 (1 : Int32) hf _ _ hP hD hS _ hl
      obtain ⟨o_105, ho_105, hk_105⟩ := bn2_s hf
      refine L_49_105 n R_isTaken_23 (1 : Int32) (0 : Int32) o_105 ho_105 _ _ hP hD hS _ (lv_sub hl [2, 3, 1, 0] rfl) (fun R_isTaken_109 x2_110 hf H locs hP hD hS ls hl => ?_)
      have hf := hk_105 _ _ hf
      refine lv_iload_n hx hb dX7_keeps_129 rfl (lv_at hl 0 rfl) ?_
      have gb_148 := gb_in hf
      have hf := gb_el hf
      have hf := Option.some.inj hf
      cases hf
      exact x_zret (fun _ => 0) hQ hx hb hr hlk gb_148 hK hP hD hS dX7_keeps_130
    · have hf := xb_f c_10 hf
      refine lv_iconst (v := (0 : Int32)) hx hb dX7_keeps_20 (by decide) ?_
      have hf := Option.some.inj hf
      cases hf
      exact x_zret (fun _ => 0) hQ hx hb hr hlk (by decide) hK (hP.sub [2, 3, 4, 5, 6, 7, 8, 9, 10, 11, 12, 0, 1] rfl) (hD.sub [2, 3, 4, 5, 6, 7, 8, 9, 10, 11, 12, 0, 1] (by decide) rfl) hS dX7_keeps_21
