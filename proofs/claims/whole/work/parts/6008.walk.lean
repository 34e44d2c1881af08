abbrev rm_f_JoinOrder_isTerm : Room := { frames := 0, cells := 0, slots := 0, locals := 0 }
set_option maxHeartbeats 4000000 in
set_option maxRecDepth 100000 in
theorem c_f_JoinOrder_isTerm (l : Launch) (D : va_G) (cI cJ cZ : ClassId) (sz : Nat) (x0 : Int32) {r : Int32} (hf : f_JoinOrder_isTerm x0 = r) : Met l yX0_isTerm (.code yX0_isTerm cX0_isTerm 1 (some .boolean) :: GW) rm_f_JoinOrder_isTerm (va_Pc [.int x0] (xP D (xT cI cJ cZ) sz [])) (va_Qi (fun r2 (_ : Nat → Nat) => r2 = r ∧ (r = 0 ∨ r = 1)) (bB D (xT cI cJ cZ) (fun _ => []) (va_A [] sz)) (va_A [] sz)) 0 0 (va_A [] sz) := by
  refine con_start (y := yX0_isTerm) (bytes := cX0_isTerm) (maxL := 1) (av := [.int x0]) (Qc := fun A => va_Qi (fun r2 (_ : Nat → Nat) => r2 = r ∧ (r = 0 ∨ r = 1)) (bB D (xT cI cJ cZ) (fun _ => []) A) A) (by decide) (Nat.le_of_ble_eq_true rfl) ?_
  intro p e s m args below meth c Q A hx hb hr hlk hml hown hin htg hN hK hQ hA hP hD hS ls hl
  have hl : lv_has ls 1 [(0, .int x0)] := hl
  have hown : s.vm.findClass RX0 = some m.cls := hown
  have hf := (f_JoinOrder_isTerm_u x0).symm.trans hf
  refine lv_iload_n hx hb dX0_isTerm_0 rfl (lv_at hl 0 rfl) ?_
  refine lv_if_lt (tgt := 14) hx hb dX0_isTerm_1 (by decide) (fun c_1 => ?_) (fun c_1 => ?_)
  · have hf := xb_t c_1 hf
    refine lv_iconst (v := (0 : Int32)) hx hb dX0_isTerm_14 (by decide) ?_
    have hf := hf
    subst hf
    exact x_zret (fun _ => 0) hQ hx hb hr hlk (by decide) hK hP hD hS dX0_isTerm_15
  · have hf := xb_f c_1 hf
    refine lv_iload_n hx hb dX0_isTerm_4 rfl (lv_at hl 0 rfl) ?_
    refine lv_bipush (v := (32 : Int32)) hx hb dX0_isTerm_5 (by decide) ?_
    refine lv_icmp_ge (tgt := 14) hx hb dX0_isTerm_7 (by decide) (fun c_2 => ?_) (fun c_2 => ?_)
    · have hf := xb_t c_2 hf
      refine lv_iconst (v := (0 : Int32)) hx hb dX0_isTerm_14 (by decide) ?_
      have hf := hf
      subst hf
      exact x_zret (fun _ => 0) hQ hx hb hr hlk (by decide) hK hP hD hS dX0_isTerm_15
    · have hf := xb_f c_2 hf
      refine lv_iconst (v := (1 : Int32)) hx hb dX0_isTerm_10 (by decide) ?_
      refine lv_goto (tgt := 15) hx hb dX0_isTerm_11 (by decide) ?_
      have hf := hf
      subst hf
      exact x_zret (fun _ => 0) hQ hx hb hr hlk (by decide) hK hP hD hS dX0_isTerm_15
abbrev rm_f_Triples_at : Room := { frames := 0, cells := 0, slots := 0, locals := 0 }
set_option maxHeartbeats 4000000 in
set_option maxRecDepth 100000 in
theorem c_f_Triples_at (l : Launch) (D : va_G) (cI cJ cZ : ClassId) (sz : Nat) (x0 : Int32) (x1 : Int32) {r : Int32} (hf : f_Triples_at x0 x1 = r) : Met l yX6_at (.code yX6_at cX6_at 2 (some .int) :: GW) rm_f_Triples_at (va_Pc [.int x0, .int x1] (xP D (xT cI cJ cZ) sz [])) (va_Qi (fun r2 (_ : Nat → Nat) => r2 = r) (bB D (xT cI cJ cZ) (fun _ => []) (va_A [] sz)) (va_A [] sz)) 0 0 (va_A [] sz) := by
  refine con_start (y := yX6_at) (bytes := cX6_at) (maxL := 2) (av := [.int x0, .int x1]) (Qc := fun A => va_Qi (fun r2 (_ : Nat → Nat) => r2 = r) (bB D (xT cI cJ cZ) (fun _ => []) A) A) (by decide) (Nat.le_of_ble_eq_true rfl) ?_
  intro p e s m args below meth c Q A hx hb hr hlk hml hown hin htg hN hK hQ hA hP hD hS ls hl
  have hl : lv_has ls 2 [(0, .int x0), (1, .int x1)] := hl
  have hown : s.vm.findClass RX6 = some m.cls := hown
  have hf := (f_Triples_at_u x0 x1).symm.trans hf
  refine lv_iload_n hx hb dX6_at_0 rfl (lv_at hl 0 rfl) ?_
  refine lv_iload_n hx hb dX6_at_1 rfl (lv_at hl 1 rfl) ?_
  refine lv_iconst (v := (5 : Int32)) hx hb dX6_at_2 (by decide) ?_
  refine lv_imul hx hb dX6_at_3 ?_
  refine lv_ishl hx hb dX6_at_4 ?_
  have hf := hf
  subst hf
  exact x_iret (fun _ => 0) hQ hx hb hr hlk hK hP hD hS dX6_at_5
abbrev rm_f_Triples_pack : Room := { frames := 1, cells := 0, slots := 0, locals := 21 }
set_option maxHeartbeats 4000000 in
set_option maxRecDepth 100000 in
theorem c_f_Triples_pack (l : Launch) (D : va_G) (cI cJ cZ : ClassId) (sz : Nat) (x0 : Int32) (x1 : Int32) (x2 : Int32) {r : Int32} (hf : f_Triples_pack x0 x1 x2 = r) : Met l yX6_pack (.code yX6_pack cX6_pack 3 (some .int) :: GW) rm_f_Triples_pack (va_Pc [.int x0, .int x1, .int x2] (xP D (xT cI cJ cZ) sz [])) (va_Qi (fun r2 (_ : Nat → Nat) => r2 = r) (bB D (xT cI cJ cZ) (fun _ => []) (va_A [] sz)) (va_A [] sz)) 0 0 (va_A [] sz) := by
  refine con_start (y := yX6_pack) (bytes := cX6_pack) (maxL := 3) (av := [.int x0, .int x1, .int x2]) (Qc := fun A => va_Qi (fun r2 (_ : Nat → Nat) => r2 = r) (bB D (xT cI cJ cZ) (fun _ => []) A) A) (by decide) (Nat.le_of_ble_eq_true rfl) ?_
  intro p e s m args below meth c Q A hx hb hr hlk hml hown hin htg hN hK hQ hA hP hD hS ls hl
  have hl : lv_has ls 3 [(0, .int x0), (1, .int x1), (2, .int x2)] := hl
  have hown : s.vm.findClass RX6 = some m.cls := hown
  have hf := (f_Triples_pack_u x0 x1 x2).symm.trans hf
  refine lv_iload_n hx hb dX6_pack_0 rfl (lv_at hl 0 rfl) ?_
  refine lv_iconst (v := (0 : Int32)) hx hb dX6_pack_1 (by decide) ?_
  refine x_i (xrS (As := [.int x0, .int (0 : Int32)]) (rest := []) ⟨hx, hb, hml, hown, htg⟩ (c_f_Triples_at l D cI cJ cZ _ x0 (0 : Int32) rfl) kc_f_Triples_at kw_238 kw_239 kw_2 dd_f_Triples_at ⟨Nat.le_of_ble_eq_true rfl, Nat.le_of_ble_eq_true rfl⟩ rfl rfl hP hD hK hN rfl hl.1 rfl (Nat.le_of_ble_eq_true rfl) dX6_pack_2 ⟨Nat.le_of_ble_eq_true rfl, Nat.le_of_ble_eq_true rfl⟩) hP hD hS hA [] [] rfl rfl (by decide) (by decide) (fun _ H locs hP hD hS => ?_)
  have hP : va_P D vwCl [] H := hP
  have hD : va_D A [] := hD
  refine lv_iload_n hx hb dX6_pack_5 rfl (lv_at hl 1 rfl) ?_
  refine lv_iconst (v := (1 : Int32)) hx hb dX6_pack_6 (by decide) ?_
  refine x_i (xrS (As := [.int x1, .int (1 : Int32)]) (rest := [.int (f_Triples_at x0 (0 : Int32))]) ⟨hx, hb, hml, hown, htg⟩ (c_f_Triples_at l D cI cJ cZ _ x1 (1 : Int32) rfl) kc_f_Triples_at kw_238 kw_239 kw_2 dd_f_Triples_at ⟨Nat.le_of_ble_eq_true rfl, Nat.le_of_ble_eq_true rfl⟩ rfl rfl hP hD hK hN rfl hl.1 rfl (Nat.le_of_ble_eq_true rfl) dX6_pack_7 ⟨Nat.le_of_ble_eq_true rfl, Nat.le_of_ble_eq_true rfl⟩) hP hD hS hA [] [] rfl rfl (by decide) (by decide) (fun _ H locs hP hD hS => ?_)
  have hP : va_P D vwCl [] H := hP
  have hD : va_D A [] := hD
  refine lv_ior hx hb dX6_pack_10 ?_
  refine lv_iload_n hx hb dX6_pack_11 rfl (lv_at hl 2 rfl) ?_
  refine lv_iconst (v := (2 : Int32)) hx hb dX6_pack_12 (by decide) ?_
  refine x_i (xrS (As := [.int x2, .int (2 : Int32)]) (rest := [.int ((f_Triples_at x0 (0 : Int32)) ||| (f_Triples_at x1 (1 : Int32)))]) ⟨hx, hb, hml, hown, htg⟩ (c_f_Triples_at l D cI cJ cZ _ x2 (2 : Int32) rfl) kc_f_Triples_at kw_238 kw_239 kw_2 dd_f_Triples_at ⟨Nat.le_of_ble_eq_true rfl, Nat.le_of_ble_eq_true rfl⟩ rfl rfl hP hD hK hN rfl hl.1 rfl (Nat.le_of_ble_eq_true rfl) dX6_pack_13 ⟨Nat.le_of_ble_eq_true rfl, Nat.le_of_ble_eq_true rfl⟩) hP hD hS hA [] [] rfl rfl (by decide) (by decide) (fun _ H locs hP hD hS => ?_)
  have hP : va_P D vwCl [] H := hP
  have hD : va_D A [] := hD
  refine lv_ior hx hb dX6_pack_16 ?_
  have hf := hf
  subst hf
  exact x_iret (fun _ => 0) hQ hx hb hr hlk hK hP hD hS dX6_pack_17
