abbrev rm_f_JoinOrderModel_isVariable : Room := { frames := 0, cells := 0, slots := 0, locals := 0 }
set_option maxHeartbeats 4000000 in
set_option maxRecDepth 100000 in
theorem c_f_JoinOrderModel_isVariable (l : Launch) (D : va_G) (cI cJ cZ : ClassId) (sz : Nat) (x0 : Int32) {r : Int32} (hf : f_JoinOrderModel_isVariable x0 = r) : Met l yX7_isVariable (.code yX7_isVariable cX7_isVariable 1 (some .boolean) :: GW) rm_f_JoinOrderModel_isVariable (va_Pc [.int x0] (xP D (xT cI cJ cZ) sz [])) (va_Qi (fun r2 (_ : Nat → Nat) => r2 = r ∧ (r = 0 ∨ r = 1)) (bB D (xT cI cJ cZ) (fun _ => []) (va_A [] sz)) (va_A [] sz)) 0 0 (va_A [] sz) := by
  refine con_start (y := yX7_isVariable) (bytes := cX7_isVariable) (maxL := 1) (av := [.int x0]) (Qc := fun A => va_Qi (fun r2 (_ : Nat → Nat) => r2 = r ∧ (r = 0 ∨ r = 1)) (bB D (xT cI cJ cZ) (fun _ => []) A) A) (by decide) (Nat.le_of_ble_eq_true rfl) ?_
  intro p e s m args below meth c Q A hx hb hr hlk hml hown hin htg hN hK hQ hA hP hD hS ls hl
  have hl : lv_has ls 1 [(0, .int x0)] := hl
  have hown : s.vm.findClass RX7 = some m.cls := hown
  have hf := (f_JoinOrderModel_isVariable_u x0).symm.trans hf
  refine lv_iload_n hx hb dX7_isVariable_0 rfl (lv_at hl 0 rfl) ?_
  refine lv_iconst (v := (-1 : Int32)) hx hb dX7_isVariable_1 (by decide) ?_
  refine lv_icmp_gt (tgt := 15) hx hb dX7_isVariable_2 (by decide) (fun c_1 => ?_) (fun c_1 => ?_)
  · have hf := xb_t c_1 hf
    refine lv_iconst (v := (0 : Int32)) hx hb dX7_isVariable_15 (by decide) ?_
    have hf := hf
    subst hf
    exact x_zret (fun _ => 0) hQ hx hb hr hlk (by decide) hK hP hD hS dX7_isVariable_16
  · have hf := xb_f c_1 hf
    refine lv_iload_n hx hb dX7_isVariable_5 rfl (lv_at hl 0 rfl) ?_
    refine lv_bipush (v := (-8 : Int32)) hx hb dX7_isVariable_6 (by decide) ?_
    refine lv_icmp_lt (tgt := 15) hx hb dX7_isVariable_8 (by decide) (fun c_2 => ?_) (fun c_2 => ?_)
    · have hf := xb_t c_2 hf
      refine lv_iconst (v := (0 : Int32)) hx hb dX7_isVariable_15 (by decide) ?_
      have hf := hf
      subst hf
      exact x_zret (fun _ => 0) hQ hx hb hr hlk (by decide) hK hP hD hS dX7_isVariable_16
    · have hf := xb_f c_2 hf
      refine lv_iconst (v := (1 : Int32)) hx hb dX7_isVariable_11 (by decide) ?_
      refine lv_goto (tgt := 16) hx hb dX7_isVariable_12 (by decide) ?_
      have hf := hf
      subst hf
      exact x_zret (fun _ => 0) hQ hx hb hr hlk (by decide) hK hP hD hS dX7_isVariable_16
abbrev rm_f_JoinOrderModel_isCell : Room := { frames := 1, cells := 0, slots := 0, locals := 20 }
set_option maxHeartbeats 4000000 in
set_option maxRecDepth 100000 in
theorem c_f_JoinOrderModel_isCell (l : Launch) (D : va_G) (cI cJ cZ : ClassId) (sz : Nat) (x0 : Int32) {r : Int32} (hf : f_JoinOrderModel_isCell x0 = r) : Met l yX7_isCell (.code yX7_isCell cX7_isCell 1 (some .boolean) :: GW) rm_f_JoinOrderModel_isCell (va_Pc [.int x0] (xP D (xT cI cJ cZ) sz [])) (va_Qi (fun r2 (_ : Nat → Nat) => r2 = r ∧ (r = 0 ∨ r = 1)) (bB D (xT cI cJ cZ) (fun _ => []) (va_A [] sz)) (va_A [] sz)) 0 0 (va_A [] sz) := by
  refine con_start (y := yX7_isCell) (bytes := cX7_isCell) (maxL := 1) (av := [.int x0]) (Qc := fun A => va_Qi (fun r2 (_ : Nat → Nat) => r2 = r ∧ (r = 0 ∨ r = 1)) (bB D (xT cI cJ cZ) (fun _ => []) A) A) (by decide) (Nat.le_of_ble_eq_true rfl) ?_
  intro p e s m args below meth c Q A hx hb hr hlk hml hown hin htg hN hK hQ hA hP hD hS ls hl
  have hl : lv_has ls 1 [(0, .int x0)] := hl
  have hown : s.vm.findClass RX7 = some m.cls := hown
  have hf := (f_JoinOrderModel_isCell_u x0).symm.trans hf
  refine lv_iload_n hx hb dX7_isCell_0 rfl (lv_at hl 0 rfl) ?_
  refine x_z (xrS (As := [.int x0]) (rest := []) ⟨hx, hb, hml, hown, htg⟩ (c_f_JoinOrderModel_isTerm l D cI cJ cZ _ x0 rfl) kc_f_JoinOrderModel_isTerm kw_671 kw_672 kw_8 dd_f_JoinOrderModel_isTerm ⟨Nat.le_of_ble_eq_true rfl, Nat.le_of_ble_eq_true rfl⟩ rfl rfl hP hD hK hN rfl hl.1 rfl (Nat.le_of_ble_eq_true rfl) dX7_isCell_1 ⟨Nat.le_of_ble_eq_true rfl, Nat.le_of_ble_eq_true rfl⟩) hP hD hS hA [] [] rfl rfl (by decide) (by decide) (fun _ H locs bz_1 hP hD hS => ?_)
  have hP : va_P D vwCl [] H := hP
  have hD : va_D A [] := hD
  refine lv_if_ne (tgt := 14) hx hb dX7_isCell_4 (by decide) (fun c_2 => ?_) (fun c_2 => ?_)
  · have hf := xb_f c_2 hf
    refine lv_iconst (v := (1 : Int32)) hx hb dX7_isCell_14 (by decide) ?_
    refine lv_goto (tgt := 19) hx hb dX7_isCell_15 (by decide) ?_
    have hf := hf
    subst hf
    exact x_zret (fun _ => 0) hQ hx hb hr hlk (by decide) hK hP hD hS dX7_isCell_19
  · have hf := xb_t c_2 hf
    refine lv_iload_n hx hb dX7_isCell_7 rfl (lv_at hl 0 rfl) ?_
    refine x_z (xrS (As := [.int x0]) (rest := []) ⟨hx, hb, hml, hown, htg⟩ (c_f_JoinOrderModel_isVariable l D cI cJ cZ _ x0 rfl) kc_f_JoinOrderModel_isVariable kw_681 kw_682 kw_8 dd_f_JoinOrderModel_isVariable ⟨Nat.le_of_ble_eq_true rfl, Nat.le_of_ble_eq_true rfl⟩ rfl rfl hP hD hK hN rfl hl.1 rfl (Nat.le_of_ble_eq_true rfl) dX7_isCell_8 ⟨Nat.le_of_ble_eq_true rfl, Nat.le_of_ble_eq_true rfl⟩) hP hD hS hA [] [] rfl rfl (by decide) (by decide) (fun _ H locs bz_3 hP hD hS => ?_)
    have hP : va_P D vwCl [] H := hP
    have hD : va_D A [] := hD
    refine lv_if_eq (tgt := 18) hx hb dX7_isCell_11 (by decide) (fun c_4 => ?_) (fun c_4 => ?_)
    · have hf := xb_t c_4 hf
      refine lv_iconst (v := (0 : Int32)) hx hb dX7_isCell_18 (by decide) ?_
      have hf := hf
      subst hf
      exact x_zret (fun _ => 0) hQ hx hb hr hlk (by decide) hK hP hD hS dX7_isCell_19
    · have hf := xb_f c_4 hf
      refine lv_iconst (v := (1 : Int32)) hx hb dX7_isCell_14 (by decide) ?_
      refine lv_goto (tgt := 19) hx hb dX7_isCell_15 (by decide) ?_
      have hf := hf
      subst hf
      exact x_zret (fun _ => 0) hQ hx hb hr hlk (by decide) hK hP hD hS dX7_isCell_19
