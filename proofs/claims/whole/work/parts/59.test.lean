theorem dX1_init_0 : decode cX1_init 0 = .ok (.aload_n 0, 1) := by decide +kernel
theorem dX1_init_1 : decode cX1_init 1 = .ok (.invokespecial 3, 3) := by decide +kernel
theorem dX1_init_4 : decode cX1_init 4 = .ok (.aload_n 0, 1) := by decide +kernel
theorem dX1_init_5 : decode cX1_init 5 = .ok (.bipush 8, 2) := by decide +kernel
theorem dX1_init_7 : decode cX1_init 7 = .ok (.newarray .int, 2) := by decide +kernel
theorem dX1_init_9 : decode cX1_init 9 = .ok (.putfield 9, 3) := by decide +kernel
theorem dX1_init_12 : decode cX1_init 12 = .ok (.aload_n 0, 1) := by decide +kernel
theorem dX1_init_13 : decode cX1_init 13 = .ok (.bipush 8, 2) := by decide +kernel
theorem dX1_init_15 : decode cX1_init 15 = .ok (.newarray .int, 2) := by decide +kernel
theorem dX1_init_17 : decode cX1_init 17 = .ok (.putfield 15, 3) := by decide +kernel
theorem dX1_init_20 : decode cX1_init 20 = .ok (.aload_n 0, 1) := by decide +kernel
theorem dX1_init_21 : decode cX1_init 21 = .ok (.bipush 8, 2) := by decide +kernel
theorem dX1_init_23 : decode cX1_init 23 = .ok (.newarray .int, 2) := by decide +kernel
theorem dX1_init_25 : decode cX1_init 25 = .ok (.putfield 18, 3) := by decide +kernel
theorem dX1_init_28 : decode cX1_init 28 = .ok (.return_, 1) := by decide +kernel
theorem dX0_inSet_0 : decode cX0_inSet 0 = .ok (.iload_n 0, 1) := by decide +kernel
theorem dX0_inSet_1 : decode cX0_inSet 1 = .ok (.iload_n 1, 1) := by decide +kernel
theorem dX0_inSet_2 : decode cX0_inSet 2 = .ok (.ishr, 1) := by decide +kernel
theorem dX0_inSet_3 : decode cX0_inSet 3 = .ok (.iconst 1, 1) := by decide +kernel
theorem dX0_inSet_4 : decode cX0_inSet 4 = .ok (.iand, 1) := by decide +kernel
theorem dX0_inSet_5 : decode cX0_inSet 5 = .ok (.ifCond .eq 7, 3) := by decide +kernel
theorem dX0_inSet_12 : decode cX0_inSet 12 = .ok (.iconst 0, 1) := by decide +kernel
theorem dX0_inSet_13 : decode cX0_inSet 13 = .ok (.ireturn, 1) := by decide +kernel
theorem dX0_inSet_8 : decode cX0_inSet 8 = .ok (.iconst 1, 1) := by decide +kernel
theorem dX0_inSet_9 : decode cX0_inSet 9 = .ok (.goto 4, 3) := by decide +kernel
theorem dX1_add_0 : decode cX1_add 0 = .ok (.aload_n 0, 1) := by decide +kernel
theorem dX1_add_1 : decode cX1_add 1 = .ok (.getfield 21, 3) := by decide +kernel
theorem dX1_add_4 : decode cX1_add 4 = .ok (.istore 5, 2) := by decide +kernel
theorem dX1_add_6 : decode cX1_add 6 = .ok (.aload_n 0, 1) := by decide +kernel
theorem dX1_add_7 : decode cX1_add 7 = .ok (.dup, 1) := by decide +kernel
theorem dX1_add_8 : decode cX1_add 8 = .ok (.getfield 21, 3) := by decide +kernel
theorem dX1_add_11 : decode cX1_add 11 = .ok (.iconst 1, 1) := by decide +kernel
theorem dX1_add_12 : decode cX1_add 12 = .ok (.iadd, 1) := by decide +kernel
theorem dX1_add_13 : decode cX1_add 13 = .ok (.putfield 21, 3) := by decide +kernel
theorem dX1_add_16 : decode cX1_add 16 = .ok (.aload_n 0, 1) := by decide +kernel
theorem dX1_add_17 : decode cX1_add 17 = .ok (.getfield 9, 3) := by decide +kernel
theorem dX1_add_20 : decode cX1_add 20 = .ok (.iload 5, 2) := by decide +kernel
theorem dX1_add_22 : decode cX1_add 22 = .ok (.iload_n 1, 1) := by decide +kernel
theorem dX1_add_23 : decode cX1_add 23 = .ok (.iastore, 1) := by decide +kernel
theorem dX1_add_24 : decode cX1_add 24 = .ok (.aload_n 0, 1) := by decide +kernel
theorem dX1_add_25 : decode cX1_add 25 = .ok (.getfield 15, 3) := by decide +kernel
theorem dX1_add_28 : decode cX1_add 28 = .ok (.iload 5, 2) := by decide +kernel
theorem dX1_add_30 : decode cX1_add 30 = .ok (.iload_n 2, 1) := by decide +kernel
theorem dX1_add_31 : decode cX1_add 31 = .ok (.iastore, 1) := by decide +kernel
theorem dX1_add_32 : decode cX1_add 32 = .ok (.aload_n 0, 1) := by decide +kernel
theorem dX1_add_33 : decode cX1_add 33 = .ok (.getfield 18, 3) := by decide +kernel
theorem dX1_add_36 : decode cX1_add 36 = .ok (.iload 5, 2) := by decide +kernel
theorem dX1_add_38 : decode cX1_add 38 = .ok (.iload_n 3, 1) := by decide +kernel
theorem dX1_add_39 : decode cX1_add 39 = .ok (.iastore, 1) := by decide +kernel
theorem dX1_add_40 : decode cX1_add 40 = .ok (.iload 4, 2) := by decide +kernel
theorem dX1_add_42 : decode cX1_add 42 = .ok (.ifCond .eq 16, 3) := by decide +kernel
theorem dX1_add_58 : decode cX1_add 58 = .ok (.iload 5, 2) := by decide +kernel
theorem dX1_add_60 : decode cX1_add 60 = .ok (.ireturn, 1) := by decide +kernel
theorem dX1_add_45 : decode cX1_add 45 = .ok (.aload_n 0, 1) := by decide +kernel
theorem dX1_add_46 : decode cX1_add 46 = .ok (.dup, 1) := by decide +kernel
theorem dX1_add_47 : decode cX1_add 47 = .ok (.getfield 25, 3) := by decide +kernel
theorem dX1_add_50 : decode cX1_add 50 = .ok (.iconst 1, 1) := by decide +kernel
theorem dX1_add_51 : decode cX1_add 51 = .ok (.iload 5, 2) := by decide +kernel
theorem dX1_add_53 : decode cX1_add 53 = .ok (.ishl, 1) := by decide +kernel
theorem dX1_add_54 : decode cX1_add 54 = .ok (.ior, 1) := by decide +kernel
theorem dX1_add_55 : decode cX1_add 55 = .ok (.putfield 25, 3) := by decide +kernel
theorem dX5_termOf_0 : decode cX5_termOf 0 = .ok (.lload_n 0, 1) := by decide +kernel
theorem dX5_termOf_1 : decode cX5_termOf 1 = .ok (.iload_n 2, 1) := by decide +kernel
theorem dX5_termOf_2 : decode cX5_termOf 2 = .ok (.bipush 6, 2) := by decide +kernel
theorem dX5_termOf_4 : decode cX5_termOf 4 = .ok (.imul, 1) := by decide +kernel
theorem dX5_termOf_5 : decode cX5_termOf 5 = .ok (.lshr, 1) := by decide +kernel
theorem dX5_termOf_6 : decode cX5_termOf 6 = .ok (.ldc2_w 18, 3) := by decide +kernel
theorem dX5_termOf_9 : decode cX5_termOf 9 = .ok (.land, 1) := by decide +kernel
theorem dX5_termOf_10 : decode cX5_termOf 10 = .ok (.l2i, 1) := by decide +kernel
theorem dX5_termOf_11 : decode cX5_termOf 11 = .ok (.iconst 1, 1) := by decide +kernel
theorem dX5_termOf_12 : decode cX5_termOf 12 = .ok (.isub, 1) := by decide +kernel
theorem dX5_termOf_13 : decode cX5_termOf 13 = .ok (.ireturn, 1) := by decide +kernel
theorem dX1_holds_0 : decode cX1_holds 0 = .ok (.iload_n 2, 1) := by decide +kernel
theorem dX1_holds_1 : decode cX1_holds 1 = .ok (.iconst (-1), 1) := by decide +kernel
theorem dX1_holds_2 : decode cX1_holds 2 = .ok (.if_icmp .ne 5, 3) := by decide +kernel
theorem dX1_holds_7 : decode cX1_holds 7 = .ok (.aload_n 0, 1) := by decide +kernel
theorem dX1_holds_8 : decode cX1_holds 8 = .ok (.getfield 15, 3) := by decide +kernel
theorem dX1_holds_11 : decode cX1_holds 11 = .ok (.iload_n 1, 1) := by decide +kernel
theorem dX1_holds_12 : decode cX1_holds 12 = .ok (.iaload, 1) := by decide +kernel
theorem dX1_holds_13 : decode cX1_holds 13 = .ok (.tableswitch 75 0 2 #[27, 43, 59], 27) := by decide +kernel
theorem dX1_holds_40 : decode cX1_holds 40 = .ok (.iload_n 2, 1) := by decide +kernel
theorem dX1_holds_41 : decode cX1_holds 41 = .ok (.aload_n 0, 1) := by decide +kernel
theorem dX1_holds_42 : decode cX1_holds 42 = .ok (.getfield 18, 3) := by decide +kernel
theorem dX1_holds_45 : decode cX1_holds 45 = .ok (.iload_n 1, 1) := by decide +kernel
theorem dX1_holds_46 : decode cX1_holds 46 = .ok (.iaload, 1) := by decide +kernel
theorem dX1_holds_47 : decode cX1_holds 47 = .ok (.if_icmp .ne 7, 3) := by decide +kernel
theorem dX1_holds_54 : decode cX1_holds 54 = .ok (.iconst 0, 1) := by decide +kernel
theorem dX1_holds_55 : decode cX1_holds 55 = .ok (.ireturn, 1) := by decide +kernel
theorem dX1_holds_50 : decode cX1_holds 50 = .ok (.iconst 1, 1) := by decide +kernel
theorem dX1_holds_51 : decode cX1_holds 51 = .ok (.goto 4, 3) := by decide +kernel
theorem dX1_holds_56 : decode cX1_holds 56 = .ok (.iload_n 2, 1) := by decide +kernel
theorem dX1_holds_57 : decode cX1_holds 57 = .ok (.aload_n 0, 1) := by decide +kernel
theorem dX1_holds_58 : decode cX1_holds 58 = .ok (.getfield 18, 3) := by decide +kernel
theorem dX1_holds_61 : decode cX1_holds 61 = .ok (.iload_n 1, 1) := by decide +kernel
theorem dX1_holds_62 : decode cX1_holds 62 = .ok (.iaload, 1) := by decide +kernel
theorem dX1_holds_63 : decode cX1_holds 63 = .ok (.if_icmp .eq 7, 3) := by decide +kernel
theorem dX1_holds_70 : decode cX1_holds 70 = .ok (.iconst 0, 1) := by decide +kernel
theorem dX1_holds_71 : decode cX1_holds 71 = .ok (.ireturn, 1) := by decide +kernel
theorem dX1_holds_66 : decode cX1_holds 66 = .ok (.iconst 1, 1) := by decide +kernel
theorem dX1_holds_67 : decode cX1_holds 67 = .ok (.goto 4, 3) := by decide +kernel
theorem dX1_holds_72 : decode cX1_holds 72 = .ok (.iload_n 2, 1) := by decide +kernel
theorem dX1_holds_73 : decode cX1_holds 73 = .ok (.aload_n 0, 1) := by decide +kernel
theorem dX1_holds_74 : decode cX1_holds 74 = .ok (.getfield 18, 3) := by decide +kernel
theorem dX1_holds_77 : decode cX1_holds 77 = .ok (.iload_n 1, 1) := by decide +kernel
theorem dX1_holds_78 : decode cX1_holds 78 = .ok (.iaload, 1) := by decide +kernel
theorem dX1_holds_79 : decode cX1_holds 79 = .ok (.if_icmp .ge 7, 3) := by decide +kernel
theorem dX1_holds_86 : decode cX1_holds 86 = .ok (.iconst 0, 1) := by decide +kernel
theorem dX1_holds_87 : decode cX1_holds 87 = .ok (.ireturn, 1) := by decide +kernel
theorem dX1_holds_82 : decode cX1_holds 82 = .ok (.iconst 1, 1) := by decide +kernel
theorem dX1_holds_83 : decode cX1_holds 83 = .ok (.goto 4, 3) := by decide +kernel
theorem dX1_holds_88 : decode cX1_holds 88 = .ok (.iload_n 2, 1) := by decide +kernel
theorem dX1_holds_89 : decode cX1_holds 89 = .ok (.aload_n 0, 1) := by decide +kernel
theorem dX1_holds_90 : decode cX1_holds 90 = .ok (.getfield 18, 3) := by decide +kernel
theorem dX1_holds_93 : decode cX1_holds 93 = .ok (.iload_n 1, 1) := by decide +kernel
theorem dX1_holds_94 : decode cX1_holds 94 = .ok (.iaload, 1) := by decide +kernel
theorem dX1_holds_95 : decode cX1_holds 95 = .ok (.if_icmp .le 7, 3) := by decide +kernel
theorem dX1_holds_102 : decode cX1_holds 102 = .ok (.iconst 0, 1) := by decide +kernel
theorem dX1_holds_103 : decode cX1_holds 103 = .ok (.ireturn, 1) := by decide +kernel
theorem dX1_holds_98 : decode cX1_holds 98 = .ok (.iconst 1, 1) := by decide +kernel
theorem dX1_holds_99 : decode cX1_holds 99 = .ok (.goto 4, 3) := by decide +kernel
theorem dX1_holds_5 : decode cX1_holds 5 = .ok (.iconst 0, 1) := by decide +kernel
theorem dX1_holds_6 : decode cX1_holds 6 = .ok (.ireturn, 1) := by decide +kernel
theorem dX1_allHold_0 : decode cX1_allHold 0 = .ok (.iconst 0, 1) := by decide +kernel
theorem dX1_allHold_1 : decode cX1_allHold 1 = .ok (.istore 4, 2) := by decide +kernel
theorem dX1_allHold_3 : decode cX1_allHold 3 = .ok (.iload 4, 2) := by decide +kernel
theorem dX1_allHold_5 : decode cX1_allHold 5 = .ok (.aload_n 0, 1) := by decide +kernel
theorem dX1_allHold_6 : decode cX1_allHold 6 = .ok (.getfield 21, 3) := by decide +kernel
theorem dX1_allHold_9 : decode cX1_allHold 9 = .ok (.if_icmp .ge 40, 3) := by decide +kernel
theorem dX1_allHold_12 : decode cX1_allHold 12 = .ok (.iload_n 1, 1) := by decide +kernel
theorem dX1_allHold_13 : decode cX1_allHold 13 = .ok (.iload 4, 2) := by decide +kernel
theorem dX1_allHold_15 : decode cX1_allHold 15 = .ok (.invokestatic 28, 3) := by decide +kernel
theorem dX1_allHold_18 : decode cX1_allHold 18 = .ok (.ifCond .eq 25, 3) := by decide +kernel
theorem dX1_allHold_43 : decode cX1_allHold 43 = .ok (.iinc 4 1, 3) := by decide +kernel
theorem dX1_allHold_46 : decode cX1_allHold 46 = .ok (.goto (-43), 3) := by decide +kernel
theorem dX1_allHold_21 : decode cX1_allHold 21 = .ok (.aload_n 0, 1) := by decide +kernel
theorem dX1_allHold_22 : decode cX1_allHold 22 = .ok (.iload 4, 2) := by decide +kernel
theorem dX1_allHold_24 : decode cX1_allHold 24 = .ok (.lload_n 2, 1) := by decide +kernel
theorem dX1_allHold_25 : decode cX1_allHold 25 = .ok (.aload_n 0, 1) := by decide +kernel
theorem dX1_allHold_26 : decode cX1_allHold 26 = .ok (.getfield 9, 3) := by decide +kernel
theorem dX1_allHold_29 : decode cX1_allHold 29 = .ok (.iload 4, 2) := by decide +kernel
theorem dX1_allHold_31 : decode cX1_allHold 31 = .ok (.iaload, 1) := by decide +kernel
theorem dX1_allHold_32 : decode cX1_allHold 32 = .ok (.invokestatic 32, 3) := by decide +kernel
theorem dX1_allHold_35 : decode cX1_allHold 35 = .ok (.invokevirtual 38, 3) := by decide +kernel
theorem dX1_allHold_38 : decode cX1_allHold 38 = .ok (.ifCond .ne 5, 3) := by decide +kernel
theorem dX1_allHold_41 : decode cX1_allHold 41 = .ok (.iconst 0, 1) := by decide +kernel
theorem dX1_allHold_42 : decode cX1_allHold 42 = .ok (.ireturn, 1) := by decide +kernel
theorem dX1_allHold_49 : decode cX1_allHold 49 = .ok (.iconst 1, 1) := by decide +kernel
theorem dX1_allHold_50 : decode cX1_allHold 50 = .ok (.ireturn, 1) := by decide +kernel
theorem dX1_all_0 : decode cX1_all 0 = .ok (.iconst 1, 1) := by decide +kernel
theorem dX1_all_1 : decode cX1_all 1 = .ok (.aload_n 0, 1) := by decide +kernel
theorem dX1_all_2 : decode cX1_all 2 = .ok (.getfield 21, 3) := by decide +kernel
theorem dX1_all_5 : decode cX1_all 5 = .ok (.ishl, 1) := by decide +kernel
theorem dX1_all_6 : decode cX1_all 6 = .ok (.iconst 1, 1) := by decide +kernel
theorem dX1_all_7 : decode cX1_all 7 = .ok (.isub, 1) := by decide +kernel
theorem dX1_all_8 : decode cX1_all 8 = .ok (.ireturn, 1) := by decide +kernel
abbrev rm_f_Filters_init : Room := { frames := 1, cells := 3, slots := 24, locals := 20 }
set_option maxHeartbeats 4000000 in
set_option maxRecDepth 100000 in
theorem c_f_Filters_init (l : Launch) (D : va_G) (cI cJ cZ : ClassId) (sz : Nat) (aF : Nat) ((0 : Int32) : Int32) : Met l yX1_init (.code yX1_init cX1_init 1 none :: GW) rm_f_Filters_init (va_Pc [.ref aF] (xP D (xT cI cJ cZ) sz [(aF, .inr (1, [.null, .null, .null, .int (0 : Int32), .int (0 : Int32)]))])) (va_Qv (fun (_ : Nat → Nat) => True) (bB D (xT cI cJ cZ) (fun u => [(aF, .inr (1, [.ref (u 0), .ref (u 1), .ref (u 2), .int (0 : Int32), .int (0 : Int32)])), ((u 0), .inl (cI, 8, .inl (fun _ => 0))), ((u 1), .inl (cI, 8, .inl (fun _ => 0))), ((u 2), .inl (cI, 8, .inl (fun _ => 0)))]) (va_A [(aF, .inr (1, [.null, .null, .null, .int (0 : Int32), .int (0 : Int32)]))] sz)) (va_A [(aF, .inr (1, [.null, .null, .null, .int (0 : Int32), .int (0 : Int32)]))] sz)) 3 24 (va_A [(aF, .inr (1, [.null, .null, .null, .int (0 : Int32), .int (0 : Int32)]))] sz) := by
  refine con_start (Qc := fun A => va_Qv (fun (_ : Nat → Nat) => True) (bB D (xT cI cJ cZ) (fun u => [(aF, .inr (1, [.ref (u 0), .ref (u 1), .ref (u 2), .int (0 : Int32), .int (0 : Int32)])), ((u 0), .inl (cI, 8, .inl (fun _ => 0))), ((u 1), .inl (cI, 8, .inl (fun _ => 0))), ((u 2), .inl (cI, 8, .inl (fun _ => 0)))]) A) A) (by decide) (Nat.le_of_ble_eq_true rfl) ?_
  intro p e s m args below meth c Q A hx hb hr hlk hml hown hin htg hN hK hQ hA hP hD hS ls hl
  have hl : lv_has ls 1 [(0, .ref aF)] := hl
  have hown : s.vm.findClass RX1 = some m.cls := hown
  have hin : meth.name = "<init>" := hin
  refine lv_aload_n hx hb dX1_init_0 rfl (lv_at hl 0 rfl) ?_
  refine W.objInit hx hb hown (htg _ kw_95) (htg _ kw_17) (htg _ kw_18) rfl (by rw [hml]; exact hl.1) rfl dX1_init_1 (Nat.le_of_ble_eq_true rfl) (Nat.le_of_ble_eq_true rfl) ?_
  refine W.eq (g2 := F0 m 4 ls []) rfl ?_
  refine lv_aload_n hx hb dX1_init_4 rfl (lv_at hl 0 rfl) ?_
  refine lv_bipush (v := (8 : Int32)) hx hb dX1_init_5 (by decide) ?_
  refine x_newI (N := 8) hx hb (htg _ kw_35) hK hP hD hS hA 0 rfl (by decide) (by decide) (by decide) (Nat.le_of_ble_eq_true rfl) (Nat.le_of_ble_eq_true rfl) dX1_init_7 (fun q_1 H hP hD hS => ?_)
  refine W.cs (cells' := 1) (slots' := 8) rfl rfl ?_
  have hP : va_P D vwCl [(aF, .inr (1, [.null, .null, .null, .int (0 : Int32), .int (0 : Int32)])), (q_1, .inl (cI, 8, .inl (fun _ => 0)))] H := hP
  have hD : va_D A [(aF, .inr (1, [.null, .null, .null, .int (0 : Int32), .int (0 : Int32)])), (q_1, .inl (cI, 8, .inl (fun _ => 0)))] := hD
  refine va_putF (D := D) (ci := 1) (v := .ref q_1) (ty := (.array .int)) (C := RX1) (T := TX1) (N := 5) hx hb htg giX1 tyX1 tyX1_ok nmX1 hown hK hP hD hS 0 rfl rfl 0 (by decide) (htg _ kw_96) (fun _ h9 => h9) rfl hin rfl (by decide +kernel) rfl rfl (Nat.le_of_ble_eq_true rfl) dX1_init_9 (fun H locs hP hD hS => ?_)
  have hP : va_P D vwCl [(aF, .inr (1, [.ref q_1, .null, .null, .int (0 : Int32), .int (0 : Int32)])), (q_1, .inl (cI, 8, .inl (fun _ => 0)))] H := hP
  have hD : va_D A [(aF, .inr (1, [.ref q_1, .null, .null, .int (0 : Int32), .int (0 : Int32)])), (q_1, .inl (cI, 8, .inl (fun _ => 0)))] := hD
  refine lv_aload_n hx hb dX1_init_12 rfl (lv_at hl 0 rfl) ?_
  refine lv_bipush (v := (8 : Int32)) hx hb dX1_init_13 (by decide) ?_
  refine x_newI (N := 8) hx hb (htg _ kw_35) hK hP hD hS hA 0 rfl (by decide) (by decide) (by decide) (Nat.le_of_ble_eq_true rfl) (Nat.le_of_ble_eq_true rfl) dX1_init_15 (fun q_2 H hP hD hS => ?_)
  refine W.cs (cells' := 2) (slots' := 16) rfl rfl ?_
  have hP : va_P D vwCl [(aF, .inr (1, [.ref q_1, .null, .null, .int (0 : Int32), .int (0 : Int32)])), (q_1, .inl (cI, 8, .inl (fun _ => 0))), (q_2, .inl (cI, 8, .inl (fun _ => 0)))] H := hP
  have hD : va_D A [(aF, .inr (1, [.ref q_1, .null, .null, .int (0 : Int32), .int (0 : Int32)])), (q_1, .inl (cI, 8, .inl (fun _ => 0))), (q_2, .inl (cI, 8, .inl (fun _ => 0)))] := hD
  refine va_putF (D := D) (ci := 1) (v := .ref q_2) (ty := (.array .int)) (C := RX1) (T := TX1) (N := 5) hx hb htg giX1 tyX1 tyX1_ok nmX1 hown hK hP hD hS 0 rfl rfl 1 (by decide) (htg _ kw_98) (fun _ h9 => h9) rfl hin rfl (by decide +kernel) rfl rfl (Nat.le_of_ble_eq_true rfl) dX1_init_17 (fun H locs hP hD hS => ?_)
  have hP : va_P D vwCl [(aF, .inr (1, [.ref q_1, .ref q_2, .null, .int (0 : Int32), .int (0 : Int32)])), (q_1, .inl (cI, 8, .inl (fun _ => 0))), (q_2, .inl (cI, 8, .inl (fun _ => 0)))] H := hP
  have hD : va_D A [(aF, .inr (1, [.ref q_1, .ref q_2, .null, .int (0 : Int32), .int (0 : Int32)])), (q_1, .inl (cI, 8, .inl (fun _ => 0))), (q_2, .inl (cI, 8, .inl (fun _ => 0)))] := hD
  refine lv_aload_n hx hb dX1_init_20 rfl (lv_at hl 0 rfl) ?_
  refine lv_bipush (v := (8 : Int32)) hx hb dX1_init_21 (by decide) ?_
  refine x_newI (N := 8) hx hb (htg _ kw_35) hK hP hD hS hA 0 rfl (by decide) (by decide) (by decide) (Nat.le_of_ble_eq_true rfl) (Nat.le_of_ble_eq_true rfl) dX1_init_23 (fun q_3 H hP hD hS => ?_)
  refine W.cs (cells' := 3) (slots' := 24) rfl rfl ?_
  have hP : va_P D vwCl [(aF, .inr (1, [.ref q_1, .ref q_2, .null, .int (0 : Int32), .int (0 : Int32)])), (q_1, .inl (cI, 8, .inl (fun _ => 0))), (q_2, .inl (cI, 8, .inl (fun _ => 0))), (q_3, .inl (cI, 8, .inl (fun _ => 0)))] H := hP
  have hD : va_D A [(aF, .inr (1, [.ref q_1, .ref q_2, .null, .int (0 : Int32), .int (0 : Int32)])), (q_1, .inl (cI, 8, .inl (fun _ => 0))), (q_2, .inl (cI, 8, .inl (fun _ => 0))), (q_3, .inl (cI, 8, .inl (fun _ => 0)))] := hD
  refine va_putF (D := D) (ci := 1) (v := .ref q_3) (ty := (.array .int)) (C := RX1) (T := TX1) (N := 5) hx hb htg giX1 tyX1 tyX1_ok nmX1 hown hK hP hD hS 0 rfl rfl 2 (by decide) (htg _ kw_99) (fun _ h9 => h9) rfl hin rfl (by decide +kernel) rfl rfl (Nat.le_of_ble_eq_true rfl) dX1_init_25 (fun H locs hP hD hS => ?_)
  have hP : va_P D vwCl [(aF, .inr (1, [.ref q_1, .ref q_2, .ref q_3, .int (0 : Int32), .int (0 : Int32)])), (q_1, .inl (cI, 8, .inl (fun _ => 0))), (q_2, .inl (cI, 8, .inl (fun _ => 0))), (q_3, .inl (cI, 8, .inl (fun _ => 0)))] H := hP
  have hD : va_D A [(aF, .inr (1, [.ref q_1, .ref q_2, .ref q_3, .int (0 : Int32), .int (0 : Int32)])), (q_1, .inl (cI, 8, .inl (fun _ => 0))), (q_2, .inl (cI, 8, .inl (fun _ => 0))), (q_3, .inl (cI, 8, .inl (fun _ => 0)))] := hD
  exact x_vret (fun k => [q_1, q_2, q_3].getD k 0) hQ hx hb hr hlk hK hP hD hS dX1_init_28
abbrev rm_f_JoinOrder_inSet : Room := { frames := 0, cells := 0, slots := 0, locals := 0 }
set_option maxHeartbeats 4000000 in
set_option maxRecDepth 100000 in
theorem c_f_JoinOrder_inSet (l : Launch) (D : va_G) (cI cJ cZ : ClassId) (sz : Nat) (x0 : Int32) (x1 : Int32) {r : Int32} (hf : f_JoinOrder_inSet x0 x1 = r) : Met l yX0_inSet (.code yX0_inSet cX0_inSet 2 (some .boolean) :: GW) rm_f_JoinOrder_inSet (va_Pc [.int x0, .int x1] (xP D (xT cI cJ cZ) sz [])) (va_Qi (fun r2 (_ : Nat → Nat) => r2 = r ∧ (r = 0 ∨ r = 1)) (bB D (xT cI cJ cZ) (fun _ => []) (va_A [] sz)) (va_A [] sz)) 0 0 (va_A [] sz) := by
  refine con_start (Qc := fun A => va_Qi (fun r2 (_ : Nat → Nat) => r2 = r ∧ (r = 0 ∨ r = 1)) (bB D (xT cI cJ cZ) (fun _ => []) A) A) (by decide) (Nat.le_of_ble_eq_true rfl) ?_
  intro p e s m args below meth c Q A hx hb hr hlk hml hown hin htg hN hK hQ hA hP hD hS ls hl
  have hl : lv_has ls 2 [(0, .int x0), (1, .int x1)] := hl
  have hown : s.vm.findClass RX0 = some m.cls := hown
  have hf := (f_JoinOrder_inSet_u x0 x1).symm.trans hf
  refine lv_iload_n hx hb dX0_inSet_0 rfl (lv_at hl 0 rfl) ?_
  refine lv_iload_n hx hb dX0_inSet_1 rfl (lv_at hl 1 rfl) ?_
  refine lv_ishr hx hb dX0_inSet_2 ?_
  refine lv_iconst (v := (1 : Int32)) hx hb dX0_inSet_3 (by decide) ?_
  refine lv_iand hx hb dX0_inSet_4 ?_
  refine lv_if_eq (tgt := 12) hx hb dX0_inSet_5 (by decide) (fun c_1 => ?_) (fun c_1 => ?_)
  · have hf := xb_t c_1 hf
    refine lv_iconst (v := (0 : Int32)) hx hb dX0_inSet_12 (by decide) ?_
    have hf := hf
    cases hf
    exact x_zret (fun _ => 0) hQ hx hb hr hlk (by decide) hK hP hD hS dX0_inSet_13
  · have hf := xb_f c_1 hf
    refine lv_iconst (v := (1 : Int32)) hx hb dX0_inSet_8 (by decide) ?_
    refine lv_goto (tgt := 13) hx hb dX0_inSet_9 (by decide) ?_
    have hf := hf
    cases hf
    exact x_zret (fun _ => 0) hQ hx hb hr hlk (by decide) hK hP hD hS dX0_inSet_13
abbrev rm_f_Filters_add : Room := { frames := 0, cells := 0, slots := 0, locals := 0 }
set_option maxHeartbeats 4000000 in
set_option maxRecDepth 100000 in
theorem c_f_Filters_add (l : Launch) (D : va_G) (cI cJ cZ : ClassId) (sz : Nat) (aF : Nat) (x1 : Int32) (x2 : Int32) (x3 : Int32) (x4 : Int32) (aF_variable : Nat) (aF_kind : Nat) (aF_value : Nat) (F_safeOnes : Int32) (F_count : Int32) (F_variable : Nat → Int32) (F_kind : Nat → Int32) (F_value : Nat → Int32) {r : Int32} {F_safeOnes' : Int32} {F_count' : Int32} {F_variable' : Nat → Int32} {F_kind' : Nat → Int32} {F_value' : Nat → Int32} (hf : f_Filters_add x1 x2 x3 x4 F_safeOnes F_count F_variable F_kind F_value = some (r, F_safeOnes', F_count', F_variable', F_kind', F_value')) : Met l yX1_add (.code yX1_add cX1_add 6 (some .int) :: GW) rm_f_Filters_add (va_Pc [.ref aF, .int x1, .int x2, .int x3, .int x4] (xP D (xT cI cJ cZ) sz [(aF, .inr (1, [.ref aF_variable, .ref aF_kind, .ref aF_value, .int F_safeOnes, .int F_count])), (aF_variable, .inl (cI, 8, .inl F_variable)), (aF_kind, .inl (cI, 8, .inl F_kind)), (aF_value, .inl (cI, 8, .inl F_value))])) (va_Qi (fun r2 (_ : Nat → Nat) => r2 = r) (bB D (xT cI cJ cZ) (fun _ => [(aF, .inr (1, [.ref aF_variable, .ref aF_kind, .ref aF_value, .int F_safeOnes', .int F_count'])), (aF_variable, .inl (cI, 8, .inl F_variable')), (aF_kind, .inl (cI, 8, .inl F_kind')), (aF_value, .inl (cI, 8, .inl F_value'))]) (va_A [(aF, .inr (1, [.ref aF_variable, .ref aF_kind, .ref aF_value, .int F_safeOnes, .int F_count])), (aF_variable, .inl (cI, 8, .inl F_variable)), (aF_kind, .inl (cI, 8, .inl F_kind)), (aF_value, .inl (cI, 8, .inl F_value))] sz)) (va_A [(aF, .inr (1, [.ref aF_variable, .ref aF_kind, .ref aF_value, .int F_safeOnes, .int F_count])), (aF_variable, .inl (cI, 8, .inl F_variable)), (aF_kind, .inl (cI, 8, .inl F_kind)), (aF_value, .inl (cI, 8, .inl F_value))] sz)) 0 0 (va_A [(aF, .inr (1, [.ref aF_variable, .ref aF_kind, .ref aF_value, .int F_safeOnes, .int F_count])), (aF_variable, .inl (cI, 8, .inl F_variable)), (aF_kind, .inl (cI, 8, .inl F_kind)), (aF_value, .inl (cI, 8, .inl F_value))] sz) := by
  refine con_start (Qc := fun A => va_Qi (fun r2 (_ : Nat → Nat) => r2 = r) (bB D (xT cI cJ cZ) (fun _ => [(aF, .inr (1, [.ref aF_variable, .ref aF_kind, .ref aF_value, .int F_safeOnes', .int F_count'])), (aF_variable, .inl (cI, 8, .inl F_variable')), (aF_kind, .inl (cI, 8, .inl F_kind')), (aF_value, .inl (cI, 8, .inl F_value'))]) A) A) (by decide) (Nat.le_of_ble_eq_true rfl) ?_
  intro p e s m args below meth c Q A hx hb hr hlk hml hown hin htg hN hK hQ hA hP hD hS ls hl
  have hl : lv_has ls 6 [(0, .ref aF), (1, .int x1), (2, .int x2), (3, .int x3), (4, .int x4)] := hl
  have hown : s.vm.findClass RX1 = some m.cls := hown
  have hf := (f_Filters_add_u x1 x2 x3 x4 F_safeOnes F_count F_variable F_kind F_value).symm.trans hf
  refine lv_aload_n hx hb dX1_add_0 rfl (lv_at hl 0 rfl) ?_
  refine va_get (D := D) (ci := 1) (v := .int F_count) (C := RX1) (T := TX1) (N := 5) hx hb htg giX1 hown hK hP 0 rfl rfl 4 (by decide) (htg _ kw_102) (fun _ h9 => h9) rfl dX1_add_1 ?_
  refine lv_istore (lv' := [(5, .int F_count), (0, .ref aF), (1, .int x1), (2, .int x2), (3, .int x3), (4, .int x4)]) hx hb dX1_add_4 hl (by decide) rfl (fun ls hl => ?_)
  refine lv_aload_n hx hb dX1_add_6 rfl (lv_at hl 1 rfl) ?_
  refine lv_dup hx hb dX1_add_7 rfl ?_
  refine va_get (D := D) (ci := 1) (v := .int F_count) (C := RX1) (T := TX1) (N := 5) hx hb htg giX1 hown hK hP 0 rfl rfl 4 (by decide) (htg _ kw_102) (fun _ h9 => h9) rfl dX1_add_8 ?_
  refine lv_iconst (v := (1 : Int32)) hx hb dX1_add_11 (by decide) ?_
  refine lv_iadd hx hb dX1_add_12 ?_
  refine lv_topi (fun v_1 ev_1 => ?_)
  have hf := nm_nm ev_1 hf
  refine va_put (D := D) (ci := 1) (v := .int v_1) (ty := .int) (C := RX1) (T := TX1) (N := 5) hx hb htg giX1 tyX1 tyX1_ok nmX1 hown hK hP hD hS 0 rfl rfl 4 (by decide) (htg _ kw_102) (fun _ h9 => h9) rfl (by decide +kernel) rfl rfl (Nat.le_of_ble_eq_true rfl) dX1_add_13 (fun H locs hP hD hS => ?_)
  have hP : va_P D vwCl [(aF, .inr (1, [.ref aF_variable, .ref aF_kind, .ref aF_value, .int F_safeOnes, .int v_1])), (aF_variable, .inl (cI, 8, .inl F_variable)), (aF_kind, .inl (cI, 8, .inl F_kind)), (aF_value, .inl (cI, 8, .inl F_value))] H := hP
  have hD : va_D A [(aF, .inr (1, [.ref aF_variable, .ref aF_kind, .ref aF_value, .int F_safeOnes, .int v_1])), (aF_variable, .inl (cI, 8, .inl F_variable)), (aF_kind, .inl (cI, 8, .inl F_kind)), (aF_value, .inl (cI, 8, .inl F_value))] := hD
  refine lv_aload_n hx hb dX1_add_16 rfl (lv_at hl 1 rfl) ?_
  refine va_get (D := D) (ci := 1) (v := .ref aF_variable) (C := RX1) (T := TX1) (N := 5) hx hb htg giX1 hown hK hP 0 rfl rfl 0 (by decide) (htg _ kw_96) (fun _ h9 => h9) rfl dX1_add_17 ?_
  refine lv_iload hx hb dX1_add_20 (lv_at hl 0 rfl) ?_
  refine lv_iload_n hx hb dX1_add_22 rfl (lv_at hl 2 rfl) ?_
  have g_2 : vp_in F_count 8 := gd_in hf
  have hf := gd_el hf
  refine x_iast hx hb hK hP hD hS 1 0 rfl rfl g_2 dX1_add_23 (fun F_variable_3 eF_variable_3 H locs hP hD hS => ?_)
  have hf := nm_nm eF_variable_3 hf
  have hP : va_P D vwCl [(aF, .inr (1, [.ref aF_variable, .ref aF_kind, .ref aF_value, .int F_safeOnes, .int v_1])), (aF_variable, .inl (cI, 8, .inl F_variable_3)), (aF_kind, .inl (cI, 8, .inl F_kind)), (aF_value, .inl (cI, 8, .inl F_value))] H := hP
  have hD : va_D A [(aF, .inr (1, [.ref aF_variable, .ref aF_kind, .ref aF_value, .int F_safeOnes, .int v_1])), (aF_variable, .inl (cI, 8, .inl F_variable_3)), (aF_kind, .inl (cI, 8, .inl F_kind)), (aF_value, .inl (cI, 8, .inl F_value))] := hD
  refine lv_aload_n hx hb dX1_add_24 rfl (lv_at hl 1 rfl) ?_
  refine va_get (D := D) (ci := 1) (v := .ref aF_kind) (C := RX1) (T := TX1) (N := 5) hx hb htg giX1 hown hK hP 0 rfl rfl 1 (by decide) (htg _ kw_98) (fun _ h9 => h9) rfl dX1_add_25 ?_
  refine lv_iload hx hb dX1_add_28 (lv_at hl 0 rfl) ?_
  refine lv_iload_n hx hb dX1_add_30 rfl (lv_at hl 3 rfl) ?_
  refine x_iast hx hb hK hP hD hS 2 0 rfl rfl g_2 dX1_add_31 (fun F_kind_4 eF_kind_4 H locs hP hD hS => ?_)
  have hf := nm_nm eF_kind_4 hf
  have hP : va_P D vwCl [(aF, .inr (1, [.ref aF_variable, .ref aF_kind, .ref aF_value, .int F_safeOnes, .int v_1])), (aF_variable, .inl (cI, 8, .inl F_variable_3)), (aF_kind, .inl (cI, 8, .inl F_kind_4)), (aF_value, .inl (cI, 8, .inl F_value))] H := hP
  have hD : va_D A [(aF, .inr (1, [.ref aF_variable, .ref aF_kind, .ref aF_value, .int F_safeOnes, .int v_1])), (aF_variable, .inl (cI, 8, .inl F_variable_3)), (aF_kind, .inl (cI, 8, .inl F_kind_4)), (aF_value, .inl (cI, 8, .inl F_value))] := hD
  refine lv_aload_n hx hb dX1_add_32 rfl (lv_at hl 1 rfl) ?_
  refine va_get (D := D) (ci := 1) (v := .ref aF_value) (C := RX1) (T := TX1) (N := 5) hx hb htg giX1 hown hK hP 0 rfl rfl 2 (by decide) (htg _ kw_99) (fun _ h9 => h9) rfl dX1_add_33 ?_
  refine lv_iload hx hb dX1_add_36 (lv_at hl 0 rfl) ?_
  refine lv_iload_n hx hb dX1_add_38 rfl (lv_at hl 4 rfl) ?_
  refine x_iast hx hb hK hP hD hS 3 0 rfl rfl g_2 dX1_add_39 (fun F_value_5 eF_value_5 H locs hP hD hS => ?_)
  have hf := nm_nm eF_value_5 hf
  have hP : va_P D vwCl [(aF, .inr (1, [.ref aF_variable, .ref aF_kind, .ref aF_value, .int F_safeOnes, .int v_1])), (aF_variable, .inl (cI, 8, .inl F_variable_3)), (aF_kind, .inl (cI, 8, .inl F_kind_4)), (aF_value, .inl (cI, 8, .inl F_value_5))] H := hP
  have hD : va_D A [(aF, .inr (1, [.ref aF_variable, .ref aF_kind, .ref aF_value, .int F_safeOnes, .int v_1])), (aF_variable, .inl (cI, 8, .inl F_variable_3)), (aF_kind, .inl (cI, 8, .inl F_kind_4)), (aF_value, .inl (cI, 8, .inl F_value_5))] := hD
  refine lv_iload hx hb dX1_add_40 (lv_at hl 5 rfl) ?_
  refine lv_if_eq (tgt := 58) hx hb dX1_add_42 (by decide) (fun c_6 => ?_) (fun c_6 => ?_)
  · have hf := xb_t c_6 hf
    refine lv_iload hx hb dX1_add_58 (lv_at hl 0 rfl) ?_
    have hf := Option.some.inj hf
    cases hf
    exact x_iret (fun _ => 0) hQ hx hb hr hlk hK hP hD hS dX1_add_60
  · have hf := xb_f c_6 hf
    refine lv_aload_n hx hb dX1_add_45 rfl (lv_at hl 1 rfl) ?_
    refine lv_dup hx hb dX1_add_46 rfl ?_
    refine va_get (D := D) (ci := 1) (v := .int F_safeOnes) (C := RX1) (T := TX1) (N := 5) hx hb htg giX1 hown hK hP 0 rfl rfl 3 (by decide) (htg _ kw_100) (fun _ h9 => h9) rfl dX1_add_47 ?_
    refine lv_iconst (v := (1 : Int32)) hx hb dX1_add_50 (by decide) ?_
    refine lv_iload hx hb dX1_add_51 (lv_at hl 0 rfl) ?_
    refine lv_ishl hx hb dX1_add_53 ?_
    refine lv_ior hx hb dX1_add_54 ?_
    refine lv_topi (fun v_7 ev_7 => ?_)
    have hf := nm_nm ev_7 hf
    refine va_put (D := D) (ci := 1) (v := .int v_7) (ty := .int) (C := RX1) (T := TX1) (N := 5) hx hb htg giX1 tyX1 tyX1_ok nmX1 hown hK hP hD hS 0 rfl rfl 3 (by decide) (htg _ kw_100) (fun _ h9 => h9) rfl (by decide +kernel) rfl rfl (Nat.le_of_ble_eq_true rfl) dX1_add_55 (fun H locs hP hD hS => ?_)
    have hP : va_P D vwCl [(aF, .inr (1, [.ref aF_variable, .ref aF_kind, .ref aF_value, .int v_7, .int v_1])), (aF_variable, .inl (cI, 8, .inl F_variable_3)), (aF_kind, .inl (cI, 8, .inl F_kind_4)), (aF_value, .inl (cI, 8, .inl F_value_5))] H := hP
    have hD : va_D A [(aF, .inr (1, [.ref aF_variable, .ref aF_kind, .ref aF_value, .int v_7, .int v_1])), (aF_variable, .inl (cI, 8, .inl F_variable_3)), (aF_kind, .inl (cI, 8, .inl F_kind_4)), (aF_value, .inl (cI, 8, .inl F_value_5))] := hD
    refine lv_iload hx hb dX1_add_58 (lv_at hl 0 rfl) ?_
    have hf := Option.some.inj hf
    cases hf
    exact x_iret (fun _ => 0) hQ hx hb hr hlk hK hP hD hS dX1_add_60
abbrev rm_f_Table_termOf : Room := { frames := 0, cells := 0, slots := 0, locals := 0 }
set_option maxHeartbeats 4000000 in
set_option maxRecDepth 100000 in
theorem c_f_Table_termOf (l : Launch) (D : va_G) (cI cJ cZ : ClassId) (sz : Nat) (x0 : Int64) (x2 : Int32) {r : Int32} (hf : f_Table_termOf x0 x2 = r) : Met l yX5_termOf (.code yX5_termOf cX5_termOf 3 (some .int) :: GW) rm_f_Table_termOf (va_Pc [.long x0, .int x2] (xP D (xT cI cJ cZ) sz [])) (va_Qi (fun r2 (_ : Nat → Nat) => r2 = r) (bB D (xT cI cJ cZ) (fun _ => []) (va_A [] sz)) (va_A [] sz)) 0 0 (va_A [] sz) := by
  refine con_start (Qc := fun A => va_Qi (fun r2 (_ : Nat → Nat) => r2 = r) (bB D (xT cI cJ cZ) (fun _ => []) A) A) (by decide) (Nat.le_of_ble_eq_true rfl) ?_
  intro p e s m args below meth c Q A hx hb hr hlk hml hown hin htg hN hK hQ hA hP hD hS ls hl
  have hl : lv_has ls 3 [(0, .long x0), (2, .int x2)] := hl
  have hown : s.vm.findClass RX5 = some m.cls := hown
  have hf := (f_Table_termOf_u x0 x2).symm.trans hf
  refine lv_lload_n hx hb dX5_termOf_0 rfl (lv_at hl 0 rfl) ?_
  refine lv_iload_n hx hb dX5_termOf_1 rfl (lv_at hl 1 rfl) ?_
  refine lv_bipush (v := (6 : Int32)) hx hb dX5_termOf_2 (by decide) ?_
  refine lv_imul hx hb dX5_termOf_4 ?_
  refine lv_lshr hx hb dX5_termOf_5 rfl ?_
  refine lv_ldc2 (v := (63 : Int64)) hx hb hown (htg _ kw_498) dX5_termOf_6 ?_
  refine lv_land hx hb dX5_termOf_9 ?_
  refine lv_l2i hx hb dX5_termOf_10 rfl ?_
  refine lv_iconst (v := (1 : Int32)) hx hb dX5_termOf_11 (by decide) ?_
  refine lv_isub hx hb dX5_termOf_12 ?_
  have hf := hf
  cases hf
  exact x_iret (fun _ => 0) hQ hx hb hr hlk hK hP hD hS dX5_termOf_13
abbrev rm_f_Filters_holds : Room := { frames := 0, cells := 0, slots := 0, locals := 0 }
set_option maxHeartbeats 4000000 in
set_option maxRecDepth 100000 in
theorem c_f_Filters_holds (l : Launch) (D : va_G) (cI cJ cZ : ClassId) (sz : Nat) (aF : Nat) (x1 : Int32) (x2 : Int32) (aF_variable : Nat) (aF_kind : Nat) (aF_value : Nat) (F_safeOnes : Int32) (F_count : Int32) (F_kind : Nat → Int32) (F_value : Nat → Int32) {r : Int32} (hf : f_Filters_holds x1 x2 F_kind F_value = some r) : Met l yX1_holds (.code yX1_holds cX1_holds 3 (some .boolean) :: GW) rm_f_Filters_holds (va_Pc [.ref aF, .int x1, .int x2] (xP D (xT cI cJ cZ) sz [(aF, .inr (1, [.ref aF_variable, .ref aF_kind, .ref aF_value, .int F_safeOnes, .int F_count])), (aF_kind, .inl (cI, 8, .inl F_kind)), (aF_value, .inl (cI, 8, .inl F_value))])) (va_Qi (fun r2 (_ : Nat → Nat) => r2 = r ∧ (r = 0 ∨ r = 1)) (bB D (xT cI cJ cZ) (fun _ => [(aF, .inr (1, [.ref aF_variable, .ref aF_kind, .ref aF_value, .int F_safeOnes, .int F_count])), (aF_kind, .inl (cI, 8, .inl F_kind)), (aF_value, .inl (cI, 8, .inl F_value))]) (va_A [(aF, .inr (1, [.ref aF_variable, .ref aF_kind, .ref aF_value, .int F_safeOnes, .int F_count])), (aF_kind, .inl (cI, 8, .inl F_kind)), (aF_value, .inl (cI, 8, .inl F_value))] sz)) (va_A [(aF, .inr (1, [.ref aF_variable, .ref aF_kind, .ref aF_value, .int F_safeOnes, .int F_count])), (aF_kind, .inl (cI, 8, .inl F_kind)), (aF_value, .inl (cI, 8, .inl F_value))] sz)) 0 0 (va_A [(aF, .inr (1, [.ref aF_variable, .ref aF_kind, .ref aF_value, .int F_safeOnes, .int F_count])), (aF_kind, .inl (cI, 8, .inl F_kind)), (aF_value, .inl (cI, 8, .inl F_value))] sz) := by
  refine con_start (Qc := fun A => va_Qi (fun r2 (_ : Nat → Nat) => r2 = r ∧ (r = 0 ∨ r = 1)) (bB D (xT cI cJ cZ) (fun _ => [(aF, .inr (1, [.ref aF_variable, .ref aF_kind, .ref aF_value, .int F_safeOnes, .int F_count])), (aF_kind, .inl (cI, 8, .inl F_kind)), (aF_value, .inl (cI, 8, .inl F_value))]) A) A) (by decide) (Nat.le_of_ble_eq_true rfl) ?_
  intro p e s m args below meth c Q A hx hb hr hlk hml hown hin htg hN hK hQ hA hP hD hS ls hl
  have hl : lv_has ls 3 [(0, .ref aF), (1, .int x1), (2, .int x2)] := hl
  have hown : s.vm.findClass RX1 = some m.cls := hown
  have hf := (f_Filters_holds_u x1 x2 F_kind F_value).symm.trans hf
  refine lv_iload_n hx hb dX1_holds_0 rfl (lv_at hl 2 rfl) ?_
  refine lv_iconst (v := (-1 : Int32)) hx hb dX1_holds_1 (by decide) ?_
  refine lv_icmp_ne (tgt := 7) hx hb dX1_holds_2 (by decide) (fun c_1 => ?_) (fun c_1 => ?_)
  · have hf := xb_f c_1 hf
    refine lv_aload_n hx hb dX1_holds_7 rfl (lv_at hl 0 rfl) ?_
    refine va_get (D := D) (ci := 1) (v := .ref aF_kind) (C := RX1) (T := TX1) (N := 5) hx hb htg giX1 hown hK hP 0 rfl rfl 1 (by decide) (htg _ kw_98) (fun _ h9 => h9) rfl dX1_holds_8 ?_
    refine lv_iload_n hx hb dX1_holds_11 rfl (lv_at hl 1 rfl) ?_
    have g_2 : vp_in x1 8 := gd_in hf
    have hf := gd_el hf
    refine va_iald hx hb hK hP 1 0 rfl rfl g_2 dX1_holds_12 ?_
    refine lv_topi (fun sw_3 esw_3 => ?_)
    have hf := nm_nm esw_3 hf
    rcases Decidable.em (sw_3 = (0 : Int32)) with cs_13_0 | cs_13_0
    · have hf := xb_t cs_13_0 hf
      refine lv_tableIn (off := 27) (tgt := 40) hx hb dX1_holds_13 (by rw [cs_13_0]; decide) (by rw [cs_13_0]; decide) (by rw [cs_13_0]; decide) (by decide) ?_
      refine lv_iload_n hx hb dX1_holds_40 rfl (lv_at hl 2 rfl) ?_
      refine lv_aload_n hx hb dX1_holds_41 rfl (lv_at hl 0 rfl) ?_
      refine va_get (D := D) (ci := 1) (v := .ref aF_value) (C := RX1) (T := TX1) (N := 5) hx hb htg giX1 hown hK hP 0 rfl rfl 2 (by decide) (htg _ kw_99) (fun _ h9 => h9) rfl dX1_holds_42 ?_
      refine lv_iload_n hx hb dX1_holds_45 rfl (lv_at hl 1 rfl) ?_
      refine va_iald hx hb hK hP 2 0 rfl rfl g_2 dX1_holds_46 ?_
      refine lv_icmp_ne (tgt := 54) hx hb dX1_holds_47 (by decide) (fun c_4 => ?_) (fun c_4 => ?_)
      · have hf := xb_f c_4 hf
        refine lv_iconst (v := (0 : Int32)) hx hb dX1_holds_54 (by decide) ?_
        have hf := Option.some.inj hf
        cases hf
        exact x_zret (fun _ => 0) hQ hx hb hr hlk (by decide) hK hP hD hS dX1_holds_55
      · have hf := xb_t c_4 hf
        refine lv_iconst (v := (1 : Int32)) hx hb dX1_holds_50 (by decide) ?_
        refine lv_goto (tgt := 55) hx hb dX1_holds_51 (by decide) ?_
        have hf := Option.some.inj hf
        cases hf
        exact x_zret (fun _ => 0) hQ hx hb hr hlk (by decide) hK hP hD hS dX1_holds_55
    · have hf := xb_f cs_13_0 hf
      rcases Decidable.em (sw_3 = (1 : Int32)) with cs_13_1 | cs_13_1
      · have hf := xb_t cs_13_1 hf
        refine lv_tableIn (off := 43) (tgt := 56) hx hb dX1_holds_13 (by rw [cs_13_1]; decide) (by rw [cs_13_1]; decide) (by rw [cs_13_1]; decide) (by decide) ?_
        refine lv_iload_n hx hb dX1_holds_56 rfl (lv_at hl 2 rfl) ?_
        refine lv_aload_n hx hb dX1_holds_57 rfl (lv_at hl 0 rfl) ?_
        refine va_get (D := D) (ci := 1) (v := .ref aF_value) (C := RX1) (T := TX1) (N := 5) hx hb htg giX1 hown hK hP 0 rfl rfl 2 (by decide) (htg _ kw_99) (fun _ h9 => h9) rfl dX1_holds_58 ?_
        refine lv_iload_n hx hb dX1_holds_61 rfl (lv_at hl 1 rfl) ?_
        refine va_iald hx hb hK hP 2 0 rfl rfl g_2 dX1_holds_62 ?_
        refine lv_icmp_eq (tgt := 70) hx hb dX1_holds_63 (by decide) (fun c_5 => ?_) (fun c_5 => ?_)
        · have hf := xb_t c_5 hf
          refine lv_iconst (v := (0 : Int32)) hx hb dX1_holds_70 (by decide) ?_
          have hf := Option.some.inj hf
          cases hf
          exact x_zret (fun _ => 0) hQ hx hb hr hlk (by decide) hK hP hD hS dX1_holds_71
        · have hf := xb_f c_5 hf
          refine lv_iconst (v := (1 : Int32)) hx hb dX1_holds_66 (by decide) ?_
          refine lv_goto (tgt := 71) hx hb dX1_holds_67 (by decide) ?_
          have hf := Option.some.inj hf
          cases hf
          exact x_zret (fun _ => 0) hQ hx hb hr hlk (by decide) hK hP hD hS dX1_holds_71
      · have hf := xb_f cs_13_1 hf
        rcases Decidable.em (sw_3 = (2 : Int32)) with cs_13_2 | cs_13_2
        · have hf := xb_t cs_13_2 hf
          refine lv_tableIn (off := 59) (tgt := 72) hx hb dX1_holds_13 (by rw [cs_13_2]; decide) (by rw [cs_13_2]; decide) (by rw [cs_13_2]; decide) (by decide) ?_
          refine lv_iload_n hx hb dX1_holds_72 rfl (lv_at hl 2 rfl) ?_
          refine lv_aload_n hx hb dX1_holds_73 rfl (lv_at hl 0 rfl) ?_
          refine va_get (D := D) (ci := 1) (v := .ref aF_value) (C := RX1) (T := TX1) (N := 5) hx hb htg giX1 hown hK hP 0 rfl rfl 2 (by decide) (htg _ kw_99) (fun _ h9 => h9) rfl dX1_holds_74 ?_
          refine lv_iload_n hx hb dX1_holds_77 rfl (lv_at hl 1 rfl) ?_
          refine va_iald hx hb hK hP 2 0 rfl rfl g_2 dX1_holds_78 ?_
          refine lv_icmp_ge (tgt := 86) hx hb dX1_holds_79 (by decide) (fun c_6 => ?_) (fun c_6 => ?_)
          · have hf := xb_t c_6 hf
            refine lv_iconst (v := (0 : Int32)) hx hb dX1_holds_86 (by decide) ?_
            have hf := Option.some.inj hf
            cases hf
            exact x_zret (fun _ => 0) hQ hx hb hr hlk (by decide) hK hP hD hS dX1_holds_87
          · have hf := xb_f c_6 hf
            refine lv_iconst (v := (1 : Int32)) hx hb dX1_holds_82 (by decide) ?_
            refine lv_goto (tgt := 87) hx hb dX1_holds_83 (by decide) ?_
            have hf := Option.some.inj hf
            cases hf
            exact x_zret (fun _ => 0) hQ hx hb hr hlk (by decide) hK hP hD hS dX1_holds_87
        · have hf := xb_f cs_13_2 hf
          refine lv_tableOut (tgt := 88) hx hb dX1_holds_13 (by have z0 : sw_3.toInt ≠ 0 := fun h => cs_13_0 (Int32.toInt_inj.mp (h.trans (by decide))); have z1 : sw_3.toInt ≠ 1 := fun h => cs_13_1 (Int32.toInt_inj.mp (h.trans (by decide))); have z2 : sw_3.toInt ≠ 2 := fun h => cs_13_2 (Int32.toInt_inj.mp (h.trans (by decide))); omega) (by decide) ?_
          refine lv_iload_n hx hb dX1_holds_88 rfl (lv_at hl 2 rfl) ?_
          refine lv_aload_n hx hb dX1_holds_89 rfl (lv_at hl 0 rfl) ?_
          refine va_get (D := D) (ci := 1) (v := .ref aF_value) (C := RX1) (T := TX1) (N := 5) hx hb htg giX1 hown hK hP 0 rfl rfl 2 (by decide) (htg _ kw_99) (fun _ h9 => h9) rfl dX1_holds_90 ?_
          refine lv_iload_n hx hb dX1_holds_93 rfl (lv_at hl 1 rfl) ?_
          refine va_iald hx hb hK hP 2 0 rfl rfl g_2 dX1_holds_94 ?_
          refine lv_icmp_le (tgt := 102) hx hb dX1_holds_95 (by decide) (fun c_7 => ?_) (fun c_7 => ?_)
          · have hf := xb_t c_7 hf
            refine lv_iconst (v := (0 : Int32)) hx hb dX1_holds_102 (by decide) ?_
            have hf := Option.some.inj hf
            cases hf
            exact x_zret (fun _ => 0) hQ hx hb hr hlk (by decide) hK hP hD hS dX1_holds_103
          · have hf := xb_f c_7 hf
            refine lv_iconst (v := (1 : Int32)) hx hb dX1_holds_98 (by decide) ?_
            refine lv_goto (tgt := 103) hx hb dX1_holds_99 (by decide) ?_
            have hf := Option.some.inj hf
            cases hf
            exact x_zret (fun _ => 0) hQ hx hb hr hlk (by decide) hK hP hD hS dX1_holds_103
  · have hf := xb_t c_1 hf
    refine lv_iconst (v := (0 : Int32)) hx hb dX1_holds_5 (by decide) ?_
    have hf := Option.some.inj hf
    cases hf
    exact x_zret (fun _ => 0) hQ hx hb hr hlk (by decide) hK hP hD hS dX1_holds_6
abbrev rm_f_Filters_allHold : Room := { frames := 1, cells := 0, slots := 0, locals := 22 }
set_option maxHeartbeats 4000000 in
set_option maxRecDepth 100000 in
theorem c_f_Filters_allHold (l : Launch) (D : va_G) (cI cJ cZ : ClassId) (sz : Nat) (n : Nat) (aF : Nat) (x1 : Int32) (x2 : Int64) (aF_variable : Nat) (aF_kind : Nat) (aF_value : Nat) (F_safeOnes : Int32) (F_count : Int32) (F_variable : Nat → Int32) (F_kind : Nat → Int32) (F_value : Nat → Int32) {r : Int32} (hf : f_Filters_allHold n x1 x2 F_count F_variable F_kind F_value = some r) : Met l yX1_allHold (.code yX1_allHold cX1_allHold 5 (some .boolean) :: GW) rm_f_Filters_allHold (va_Pc [.ref aF, .int x1, .long x2] (xP D (xT cI cJ cZ) sz [(aF, .inr (1, [.ref aF_variable, .ref aF_kind, .ref aF_value, .int F_safeOnes, .int F_count])), (aF_variable, .inl (cI, 8, .inl F_variable)), (aF_kind, .inl (cI, 8, .inl F_kind)), (aF_value, .inl (cI, 8, .inl F_value))])) (va_Qi (fun r2 (_ : Nat → Nat) => r2 = r ∧ (r = 0 ∨ r = 1)) (bB D (xT cI cJ cZ) (fun _ => [(aF, .inr (1, [.ref aF_variable, .ref aF_kind, .ref aF_value, .int F_safeOnes, .int F_count])), (aF_variable, .inl (cI, 8, .inl F_variable)), (aF_kind, .inl (cI, 8, .inl F_kind)), (aF_value, .inl (cI, 8, .inl F_value))]) (va_A [(aF, .inr (1, [.ref aF_variable, .ref aF_kind, .ref aF_value, .int F_safeOnes, .int F_count])), (aF_variable, .inl (cI, 8, .inl F_variable)), (aF_kind, .inl (cI, 8, .inl F_kind)), (aF_value, .inl (cI, 8, .inl F_value))] sz)) (va_A [(aF, .inr (1, [.ref aF_variable, .ref aF_kind, .ref aF_value, .int F_safeOnes, .int F_count])), (aF_variable, .inl (cI, 8, .inl F_variable)), (aF_kind, .inl (cI, 8, .inl F_kind)), (aF_value, .inl (cI, 8, .inl F_value))] sz)) 0 0 (va_A [(aF, .inr (1, [.ref aF_variable, .ref aF_kind, .ref aF_value, .int F_safeOnes, .int F_count])), (aF_variable, .inl (cI, 8, .inl F_variable)), (aF_kind, .inl (cI, 8, .inl F_kind)), (aF_value, .inl (cI, 8, .inl F_value))] sz) := by
  refine con_start (Qc := fun A => va_Qi (fun r2 (_ : Nat → Nat) => r2 = r ∧ (r = 0 ∨ r = 1)) (bB D (xT cI cJ cZ) (fun _ => [(aF, .inr (1, [.ref aF_variable, .ref aF_kind, .ref aF_value, .int F_safeOnes, .int F_count])), (aF_variable, .inl (cI, 8, .inl F_variable)), (aF_kind, .inl (cI, 8, .inl F_kind)), (aF_value, .inl (cI, 8, .inl F_value))]) A) A) (by decide) (Nat.le_of_ble_eq_true rfl) ?_
  intro p e s m args below meth c Q A hx hb hr hlk hml hown hin htg hN hK hQ hA hP hD hS ls hl
  have hl : lv_has ls 5 [(0, .ref aF), (1, .int x1), (2, .long x2)] := hl
  have hown : s.vm.findClass RX1 = some m.cls := hown
  have hf := (f_Filters_allHold_u n x1 x2 F_count F_variable F_kind F_value).symm.trans hf
  refine lv_iconst (v := (0 : Int32)) hx hb dX1_allHold_0 (by decide) ?_
  refine lv_istore (lv' := [(4, .int (0 : Int32)), (0, .ref aF), (1, .int x1), (2, .long x2)]) hx hb dX1_allHold_1 hl (by decide) rfl (fun ls hl => ?_)
  have L_3_21 : ∀ (k : Nat) (x4_22 : Int32) (o_21 : (Int32 ⊕ Unit)), f_Filters_allHold_L0 n x1 x2 F_count F_variable F_kind F_value k x4_22 = some o_21 → (∀ z : Int32, some (Sum.inl z) = some o_21 → z = r) → ∀ (H : Heap) (locs : List Loc), va_P D vwCl [(aF, .inr (1, [.ref aF_variable, .ref aF_kind, .ref aF_value, .int F_safeOnes, .int F_count])), (aF_variable, .inl (cI, 8, .inl F_variable)), (aF_kind, .inl (cI, 8, .inl F_kind)), (aF_value, .inl (cI, 8, .inl F_value))] H → va_D A [(aF, .inr (1, [.ref aF_variable, .ref aF_kind, .ref aF_value, .int F_safeOnes, .int F_count])), (aF_variable, .inl (cI, 8, .inl F_variable)), (aF_kind, .inl (cI, 8, .inl F_kind)), (aF_value, .inl (cI, 8, .inl F_value))] → va_S A s.heap H locs → ∀ ls : Array Slot, lv_has ls 5 [(0, .ref aF), (1, .int x1), (2, .long x2), (4, .int x4_22)] → (some (Sum.inr ()) = some o_21 → ∀ (H : Heap) (locs : List Loc), va_P D vwCl [(aF, .inr (1, [.ref aF_variable, .ref aF_kind, .ref aF_value, .int F_safeOnes, .int F_count])), (aF_variable, .inl (cI, 8, .inl F_variable)), (aF_kind, .inl (cI, 8, .inl F_kind)), (aF_value, .inl (cI, 8, .inl F_value))] H → va_D A [(aF, .inr (1, [.ref aF_variable, .ref aF_kind, .ref aF_value, .int F_safeOnes, .int F_count])), (aF_variable, .inl (cI, 8, .inl F_variable)), (aF_kind, .inl (cI, 8, .inl F_kind)), (aF_value, .inl (cI, 8, .inl F_value))] → va_S A s.heap H locs → ∀ ls : Array Slot, lv_has ls 5 [] → W p l e rm_f_Filters_allHold s m args below meth c H locs 0 0 Q (F0 m 49 ls [])) → W p l e rm_f_Filters_allHold s m args below meth c H locs 0 0 Q (F0 m 3 ls []) := by
    intro k
    induction k with
    | zero =>
      intro x4_22 o_21 hf
      exact absurd (((f_Filters_allHold_L0_z n x1 x2 F_count F_variable F_kind F_value x4_22).symm.trans hf)) (fun h => by cases h)
    | succ k ih =>
      intro x4_22 o_21 hf hret_21 H locs hP hD hS ls hl hX_21
      have hf := (f_Filters_allHold_L0_s n x1 x2 F_count F_variable F_kind F_value k x4_22).symm.trans hf
      refine lv_iload hx hb dX1_allHold_3 (lv_at hl 3 rfl) ?_
      refine lv_aload_n hx hb dX1_allHold_5 rfl (lv_at hl 0 rfl) ?_
      refine va_get (D := D) (ci := 1) (v := .int F_count) (C := RX1) (T := TX1) (N := 5) hx hb htg giX1 hown hK hP 0 rfl rfl 4 (by decide) (htg _ kw_102) (fun _ h9 => h9) rfl dX1_allHold_6 ?_
      refine lv_icmp_ge (tgt := 49) hx hb dX1_allHold_9 (by decide) (fun c_23 => ?_) (fun c_23 => ?_)
      · have hf := xb_t c_23 hf
        exact hX_21  hf _ _ hP hD hS _ (lv_sub hl [] rfl)
      · have hf := xb_f c_23 hf
        refine lv_iload_n hx hb dX1_allHold_12 rfl (lv_at hl 1 rfl) ?_
        refine lv_iload hx hb dX1_allHold_13 (lv_at hl 3 rfl) ?_
        refine x_z (xrSN (As := [.int x1, .int x4_22]) (rest := []) ⟨hx, hb, hml, hown, htg⟩ (c_f_JoinOrder_inSet l D cI cJ cZ H.size x1 x4_22 rfl) kc_f_JoinOrder_inSet kn_512 kw_306 kw_1 dd_f_JoinOrder_inSet ⟨Nat.le_of_ble_eq_true rfl, Nat.le_of_ble_eq_true rfl⟩ rfl rfl (hP.sub [] rfl) (hD.sub [] (by decide) rfl) hK hN rfl hl.1 rfl (Nat.le_of_ble_eq_true rfl) dX1_allHold_15 ⟨Nat.le_of_ble_eq_true rfl, Nat.le_of_ble_eq_true rfl⟩) hP hD hS hA [] [0, 1, 2, 3] rfl rfl (by decide) (by decide) (fun _ H locs bz_24 hP hD hS => ?_)
        have hP : va_P D vwCl [(aF, .inr (1, [.ref aF_variable, .ref aF_kind, .ref aF_value, .int F_safeOnes, .int F_count])), (aF_variable, .inl (cI, 8, .inl F_variable)), (aF_kind, .inl (cI, 8, .inl F_kind)), (aF_value, .inl (cI, 8, .inl F_value))] H := hP
        have hD : va_D A [(aF, .inr (1, [.ref aF_variable, .ref aF_kind, .ref aF_value, .int F_safeOnes, .int F_count])), (aF_variable, .inl (cI, 8, .inl F_variable)), (aF_kind, .inl (cI, 8, .inl F_kind)), (aF_value, .inl (cI, 8, .inl F_value))] := hD
        refine lv_if_eq (tgt := 43) hx hb dX1_allHold_18 (by decide) (fun c_25 => ?_) (fun c_25 => ?_)
        · have hf := xb_t c_25 hf
          obtain ⟨x4_26, ex4_26⟩ : ∃ y : Int32, y = x4_22 + (1 : Int32) := ⟨_, rfl⟩
          have hf := nm_nm ex4_26 hf
          refine lv_iinc (v := x4_26) (lv' := [(4, .int x4_26), (0, .ref aF), (1, .int x1), (2, .long x2)]) hx hb dX1_allHold_43 hl (k := 3) rfl (by rw [ex4_26]; rfl) (by decide) rfl (fun ls hl => ?_)
          refine lv_goto (tgt := 3) hx hb dX1_allHold_46 (by decide) ?_
          exact ih x4_26 o_21 hf hret_21 _ _ hP hD hS _ (lv_sub hl [1, 2, 3, 0] rfl) hX_21
        · have hf := xb_f c_25 hf
          refine lv_aload_n hx hb dX1_allHold_21 rfl (lv_at hl 0 rfl) ?_
          refine lv_iload hx hb dX1_allHold_22 (lv_at hl 3 rfl) ?_
          refine lv_lload_n hx hb dX1_allHold_24 rfl (lv_at hl 2 rfl) ?_
          refine lv_aload_n hx hb dX1_allHold_25 rfl (lv_at hl 0 rfl) ?_
          refine va_get (D := D) (ci := 1) (v := .ref aF_variable) (C := RX1) (T := TX1) (N := 5) hx hb htg giX1 hown hK hP 0 rfl rfl 0 (by decide) (htg _ kw_96) (fun _ h9 => h9) rfl dX1_allHold_26 ?_
          refine lv_iload hx hb dX1_allHold_29 (lv_at hl 3 rfl) ?_
          have g_27 : vp_in x4_22 8 := gd_in hf
          have hf := gd_el hf
          refine va_iald hx hb hK hP 1 0 rfl rfl g_27 dX1_allHold_31 ?_
          refine x_i (xrS (As := [.long x2, .int (F_variable x4_22.toNatClampNeg)]) (rest := [.int x4_22, .ref aF]) ⟨hx, hb, hml, hown, htg⟩ (c_f_Table_termOf l D cI cJ cZ H.size x2 (F_variable x4_22.toNatClampNeg) rfl) kc_f_Table_termOf kw_513 kw_496 kw_7 dd_f_Table_termOf ⟨Nat.le_of_ble_eq_true rfl, Nat.le_of_ble_eq_true rfl⟩ rfl rfl (hP.sub [] rfl) (hD.sub [] (by decide) rfl) hK hN rfl hl.1 rfl (Nat.le_of_ble_eq_true rfl) dX1_allHold_32 ⟨Nat.le_of_ble_eq_true rfl, Nat.le_of_ble_eq_true rfl⟩) hP hD hS hA [] [0, 1, 2, 3] rfl rfl (by decide) (by decide) (fun _ H locs hP hD hS => ?_)
          have hP : va_P D vwCl [(aF, .inr (1, [.ref aF_variable, .ref aF_kind, .ref aF_value, .int F_safeOnes, .int F_count])), (aF_variable, .inl (cI, 8, .inl F_variable)), (aF_kind, .inl (cI, 8, .inl F_kind)), (aF_value, .inl (cI, 8, .inl F_value))] H := hP
          have hD : va_D A [(aF, .inr (1, [.ref aF_variable, .ref aF_kind, .ref aF_value, .int F_safeOnes, .int F_count])), (aF_variable, .inl (cI, 8, .inl F_variable)), (aF_kind, .inl (cI, 8, .inl F_kind)), (aF_value, .inl (cI, 8, .inl F_value))] := hD
          obtain ⟨r_30, hq_29, hf⟩ := bn1_c hf
          refine x_z (xrV (As := [.int x4_22, .int (f_Table_termOf x2 (F_variable x4_22.toNatClampNeg))]) (b := aF) (rest := []) ⟨hx, hb, hml, hown, htg⟩ (c_f_Filters_holds l D cI cJ cZ H.size aF x4_22 (f_Table_termOf x2 (F_variable x4_22.toNatClampNeg)) aF_variable aF_kind aF_value F_safeOnes F_count F_kind F_value hq_29) kc_f_Filters_holds kw_514 kw_516 kp_18 kw_4 dd_f_Filters_holds ⟨Nat.le_of_ble_eq_true rfl, Nat.le_of_ble_eq_true rfl⟩ rfl rfl (hP.sub [0, 2, 3] rfl) (hD.sub [0, 2, 3] (by decide) rfl) hK hN hP (q0 := 0) rfl rfl rfl hl.1 rfl (Nat.le_of_ble_eq_true rfl) dX1_allHold_35 ⟨Nat.le_of_ble_eq_true rfl, Nat.le_of_ble_eq_true rfl⟩) hP hD hS hA [0, 2, 3] [1] rfl rfl (by decide) (by decide) (fun _ H locs bz_29 hP hD hS => ?_)
          have hP : va_P D vwCl [(aF_variable, .inl (cI, 8, .inl F_variable)), (aF, .inr (1, [.ref aF_variable, .ref aF_kind, .ref aF_value, .int F_safeOnes, .int F_count])), (aF_kind, .inl (cI, 8, .inl F_kind)), (aF_value, .inl (cI, 8, .inl F_value))] H := hP
          have hD : va_D A [(aF_variable, .inl (cI, 8, .inl F_variable)), (aF, .inr (1, [.ref aF_variable, .ref aF_kind, .ref aF_value, .int F_safeOnes, .int F_count])), (aF_kind, .inl (cI, 8, .inl F_kind)), (aF_value, .inl (cI, 8, .inl F_value))] := hD
          refine lv_if_ne (tgt := 43) hx hb dX1_allHold_38 (by decide) (fun c_31 => ?_) (fun c_31 => ?_)
          · have hf := xb_f c_31 hf
            obtain ⟨x4_32, ex4_32⟩ : ∃ y : Int32, y = x4_22 + (1 : Int32) := ⟨_, rfl⟩
            have hf := nm_nm ex4_32 hf
            refine lv_iinc (v := x4_32) (lv' := [(4, .int x4_32), (0, .ref aF), (1, .int x1), (2, .long x2)]) hx hb dX1_allHold_43 hl (k := 3) rfl (by rw [ex4_32]; rfl) (by decide) rfl (fun ls hl => ?_)
            refine lv_goto (tgt := 3) hx hb dX1_allHold_46 (by decide) ?_
            exact ih x4_32 o_21 hf hret_21 _ _ (hP.sub [1, 0, 2, 3] rfl) (hD.sub [1, 0, 2, 3] (by decide) rfl) hS _ (lv_sub hl [1, 2, 3, 0] rfl) hX_21
          · have hf := xb_t c_31 hf
            refine lv_iconst (v := (0 : Int32)) hx hb dX1_allHold_41 (by decide) ?_
            have hf := congrArg some (hret_21 _ hf)
            have hf := Option.some.inj hf
            cases hf
            exact x_zret (fun _ => 0) hQ hx hb hr hlk (by decide) hK (hP.sub [1, 0, 2, 3] rfl) (hD.sub [1, 0, 2, 3] (by decide) rfl) hS dX1_allHold_42
  obtain ⟨o_21, ho_21, hret_21, hk_21⟩ := bd0_s hf
  refine L_3_21 n (0 : Int32) o_21 ho_21 hret_21 _ _ hP hD hS _ (lv_sub hl [1, 2, 3, 0] rfl) (fun  hf H locs hP hD hS ls hl => ?_)
  have hf := hk_21  hf
  refine lv_iconst (v := (1 : Int32)) hx hb dX1_allHold_49 (by decide) ?_
  have hf := Option.some.inj hf
  cases hf
  exact x_zret (fun _ => 0) hQ hx hb hr hlk (by decide) hK hP hD hS dX1_allHold_50
abbrev rm_f_Filters_all : Room := { frames := 0, cells := 0, slots := 0, locals := 0 }
set_option maxHeartbeats 4000000 in
set_option maxRecDepth 100000 in
theorem c_f_Filters_all (l : Launch) (D : va_G) (cI cJ cZ : ClassId) (sz : Nat) (aF : Nat) (aF_variable : Nat) (aF_kind : Nat) (aF_value : Nat) (F_safeOnes : Int32) (F_count : Int32) {r : Int32} (hf : f_Filters_all F_count = r) : Met l yX1_all (.code yX1_all cX1_all 1 (some .int) :: GW) rm_f_Filters_all (va_Pc [.ref aF] (xP D (xT cI cJ cZ) sz [(aF, .inr (1, [.ref aF_variable, .ref aF_kind, .ref aF_value, .int F_safeOnes, .int F_count]))])) (va_Qi (fun r2 (_ : Nat → Nat) => r2 = r) (bB D (xT cI cJ cZ) (fun _ => [(aF, .inr (1, [.ref aF_variable, .ref aF_kind, .ref aF_value, .int F_safeOnes, .int F_count]))]) (va_A [(aF, .inr (1, [.ref aF_variable, .ref aF_kind, .ref aF_value, .int F_safeOnes, .int F_count]))] sz)) (va_A [(aF, .inr (1, [.ref aF_variable, .ref aF_kind, .ref aF_value, .int F_safeOnes, .int F_count]))] sz)) 0 0 (va_A [(aF, .inr (1, [.ref aF_variable, .ref aF_kind, .ref aF_value, .int F_safeOnes, .int F_count]))] sz) := by
  refine con_start (Qc := fun A => va_Qi (fun r2 (_ : Nat → Nat) => r2 = r) (bB D (xT cI cJ cZ) (fun _ => [(aF, .inr (1, [.ref aF_variable, .ref aF_kind, .ref aF_value, .int F_safeOnes, .int F_count]))]) A) A) (by decide) (Nat.le_of_ble_eq_true rfl) ?_
  intro p e s m args below meth c Q A hx hb hr hlk hml hown hin htg hN hK hQ hA hP hD hS ls hl
  have hl : lv_has ls 1 [(0, .ref aF)] := hl
  have hown : s.vm.findClass RX1 = some m.cls := hown
  have hf := (f_Filters_all_u F_count).symm.trans hf
  refine lv_iconst (v := (1 : Int32)) hx hb dX1_all_0 (by decide) ?_
  refine lv_aload_n hx hb dX1_all_1 rfl (lv_at hl 0 rfl) ?_
  refine va_get (D := D) (ci := 1) (v := .int F_count) (C := RX1) (T := TX1) (N := 5) hx hb htg giX1 hown hK hP 0 rfl rfl 4 (by decide) (htg _ kw_102) (fun _ h9 => h9) rfl dX1_all_2 ?_
  refine lv_ishl hx hb dX1_all_5 ?_
  refine lv_iconst (v := (1 : Int32)) hx hb dX1_all_6 (by decide) ?_
  refine lv_isub hx hb dX1_all_7 ?_
  have hf := hf
  cases hf
  exact x_iret (fun _ => 0) hQ hx hb hr hlk hK hP hD hS dX1_all_8
