/-! plan, run, plain and keeps, of the program -/
theorem c_arrA {n np nf sf hm : Nat} {TL : List Nat} {sl : Nat → Nat → Nat} {pa td bf fv fk fx : Nat → Nat} {ht : Nat → Nat → Prop} {Tc rq Pc Fs Fc : Int32} {Tp S mc ms ts V H Td Pr B Fv K X Qz0 Qs0 O0 J0 A0 B0 : Nat → Int32} {Qe0 Qc0 L0 : Nat → Int64} (hn : 256 < n) (hT : CT TL np sl Tc Tp S mc ms ts) (hQ : CQ np sl pa td rq Pc V H Td Pr) (hfr : fresh np pa td bf) (hw : HW np pa bf hm ht) (hB : ∀ p, p < 8 → B p = nI (bf p)) (hF : CF nf fv fk fx sf Fs Fc Fv K X) :
    ok (f_Planner_arrange n rq Pc Td mc Qz0 S ts Qs0 H Qe0 V B Qc0 O0 J0 L0 Pr Fs Fc A0 Fv B0) (fun r => (∀ i, i < np → poA TL np sl pa td bf i < np) ∧ CL np nf (poA TL np sl pa td bf) (pjA TL np sl pa td bf) (peA TL np sl pa td bf) (pbA TL np sl pa td bf sf fv) (pmA TL np sl pa td bf sf nf fv) r.2.2.2.2.1 r.2.2.2.2.2.1 r.2.2.2.2.2.2.1 r.2.2.2.2.2.2.2.1 r.2.2.2.2.2.2.2.2.2.1 r.2.2.2.2.2.2.2.2.2.2 r.2.2.2.2.2.2.2.2.1) := by
  obtain ⟨t1, t2, hnp, t4, t5, t6, t7⟩ := hT
  obtain ⟨_, q2, q3, q4, q5, q6⟩ := hQ
  obtain ⟨⟨hnf, f1⟩, f2, f3, f4⟩ := hF
  have hrq := isS_mk q3 hnp
  subst hrq q2 f2 f3
  have htd : ∀ p, td p ≤ 101 := fun p => by
    by_cases hp : p < np
    · exact (q5 p hp).1
    · rw [(hfr p (by omega)).2.1]
      omega
  have h8 : (2 : Nat) ^ nf ≤ 2 ^ 8 := Nat.pow_le_pow_right (by decide) hnf
  have key := c_arr (rq := rqA pa np) (vm := vmA sl np) (bf := bf) (hv := hvA sl np) (td := td) (pa := pa) (fv := fv) (M := MN TL np sl) (sl := sl) (sf := sf) (nf := nf) (Td := Td) (Qz0 := Qz0) (Qs0 := Qs0) (O0 := O0) (J0 := J0) (A0 := A0) (B0 := B0) (Qe0 := Qe0) (Qc0 := Qc0) (L0 := L0) (V := V) (B := B) (H := H) (Pr := Pr) (Fv := Fv) (S := S) (mc := mc) (ms := ms) (ts := ts) hn hnp rqA_lt (fun p _ hb => (rqA_bit.mp hb).1) (HW_acy hw (fun p _ => rqA_bit)) t6 t7 (fun p _ t ht => (MN_mem ht).2) (fun p => Nat.le_trans (MN_len p) t1) q5 htd (fun p hp => ⟨mkS_lt _ 8, isS_mk (q4.1 p (by omega)) (Nat.le_refl 8)⟩) (fun p hp => ⟨hw.2.2.2.2.1 p, hB p (by omega)⟩) (fun v hv => ⟨mkS_lt _ 8, isS_mk (q4.2 v hv) (Nat.le_refl 8)⟩) (fun v _ p hb => ⟨(hvA_bit.mp hb).2.1, (hvA_bit.mp hb).2.2⟩) q6 (fun p hp hb h0 => hb (rqA_bit.mpr ⟨hp, h0⟩)) hnf (by omega) (fun f hf => ⟨(f1 f hf).1, (f1 f hf).2.2.2.1⟩) (EA TL np sl td) (nxA np sl pa bf) (poA TL np sl pa td bf) rfl rfl rfl
  refine ok_w key (fun r hr => ?_)
  obtain ⟨r1, r2, r3, r4, r5, r6⟩ := hr
  refine ⟨fun i hi => (r3 i hi).1, hnp, hnf, r1, r2, fun i hi => ⟨(r3 i hi).2, r4 i hi, r5 i hi, ?_, (r6 (by omega)).1 i hi⟩, fun h0 f hf => (r6 h0).2 f hf⟩
  exact Nat.lt_of_lt_of_le (mkS_lt _ nf) h8
theorem tbl_start {rws : Nat → Int64} : tbl (some [0]) 1 0 (vp_updL rws 0 0) := by
  refine Or.inr ⟨[0], rfl, rfl, rfl, by decide, fun i t hi => ?_, fun r hr => ?_⟩
  · cases i with
    | zero =>
      have e : t = 0 := (Option.some.inj hi).symm
      subst e
      rw [pk_uLs]
      rfl
    | succ i => cases hi
  · rw [List.mem_singleton] at hr
    subst hr
    exact ⟨by decide, fun v _ => by rw [fld_0]; omega⟩
theorem ans_tbl {R : Option (List Nat)} {ct cr : Int32} {rws : Nat → Int64} (h : tbl R ct cr rws) : f_Table_answer ct cr = ansR R := by
  rw [f_Table_answer_u]
  rcases h with ⟨h1, h2, h3⟩ | ⟨L, h1, h2, h3, _⟩
  · subst h1 h2
    rfl
  · subst h1 h2 h3
    rfl
theorem c_joinA {n np p aR aS : Nat} {TL : List Nat} {sl : Nat → Nat → Nat} {pa td : Nat → Nat} {R : Option (List Nat)} {Tc rq Pc ct cr : Int32} {Tp S mc ms ts V H Td Pr : Nat → Int32} {rws sp : Nat → Int64} (hn : 500 < n) (hT : CT TL np sl Tc Tp S mc ms ts) (hQ : CQ np sl pa td rq Pc V H Td Pr) (hp : p < np) (h : tbl R ct cr rws) :
    ok (f_Table_join n (nI p) aR aS ct cr rws Pr sp S mc ms) (fun o => o.1 = aS ∧ o.2.1 = aR ∧ tbl (joinR (sl p) (pa p) p (MN TL np sl p) R) o.2.2.1 o.2.2.2.2.1 o.2.2.2.2.2.1) := by
  obtain ⟨t1, t2, hnp, t4, t5, t6, t7⟩ := hT
  obtain ⟨p1, p2, _⟩ := t7 p (by omega)
  have q6 := hQ.2.2.2.2.2 p hp
  have := q6.1
  exact c_join hn (by omega) (t6 p hp) (Nat.le_trans (MN_len p) t1) (fun x hx => t2 x (MN_mem hx).1) (fun x hx => (MN_mem hx).2) p1 p2 (by omega) q6.2 h
theorem all_set {nf : Nat} (hnf : nf ≤ 8) : f_Filters_all (nI nf) = nI (2 ^ nf - 1) ∧ 2 ^ nf - 1 < 2 ^ 31 := by
  have h8 : (2 : Nat) ^ nf ≤ 2 ^ 8 := Nat.pow_le_pow_right (by decide) hnf
  have hpos : 0 < 2 ^ nf := Nat.two_pow_pos nf
  rw [f_Filters_all_u, m_sh (by omega), pa_v (by omega)]
  exact ⟨rfl, by omega⟩
theorem c_run {n np nf sf hm aR aS : Nat} {TL : List Nat} {sl : Nat → Nat → Nat} {pa td bf fv fk fx : Nat → Nat} {ht : Nat → Nat → Prop} {Tc rq Pc Fs Fc Bf : Int32} {Tp S mc ms ts V H Td Pr B Fv K X Qz0 Qs0 O0 J0 A0 B0 : Nat → Int32} {Qe0 Qc0 L0 Br Bs : Nat → Int64} (hn : 500 < n) (hT : CT TL np sl Tc Tp S mc ms ts) (hQ : CQ np sl pa td rq Pc V H Td Pr) (hfr : fresh np pa td bf) (hw : HW np pa bf hm ht) (hB : ∀ p, p < 8 → B p = nI (bf p)) (hF : CF nf fv fk fx sf Fs Fc Fv K X) :
    ok (f_JoinOrder_run n rq Pc Td mc Qz0 S ts Qs0 H Qe0 V B Qc0 O0 J0 L0 Pr Fs Fc A0 Fv B0 aR aS Bf Br Bs ms K X) (fun o => o.1 = ansR (runA TL np sl pa td bf nf sf fv fk fx) ∧ o.2.1 = 1 ∧ CL np nf (poA TL np sl pa td bf) (pjA TL np sl pa td bf) (peA TL np sl pa td bf) (pbA TL np sl pa td bf sf fv) (pmA TL np sl pa td bf sf nf fv) o.2.2.2.2.2.2.1 o.2.2.2.2.2.2.2.1 o.2.2.2.2.2.2.2.2.1 o.2.2.2.2.2.2.2.2.2.1 o.2.2.2.2.2.2.2.2.2.2.2.1 o.2.2.2.2.2.2.2.2.2.2.2.2.1 o.2.2.2.2.2.2.2.2.2.2.1 ∧ tbl (runA TL np sl pa td bf nf sf fv fk fx) o.2.2.2.2.2.2.2.2.2.2.2.2.2.2.2.1 o.2.2.2.2.2.2.2.2.2.2.2.2.2.2.2.2.2.1 o.2.2.2.2.2.2.2.2.2.2.2.2.2.2.2.2.2.2.1) := by
  rw [f_JoinOrder_run_u]
  refine ok_bn11 _ (c_arrA (by omega) hT hQ hfr hw hB hF) (fun z1 z2 z3 z4 st ft O J U A Bh hpl => ?_)
  obtain ⟨p2, p3⟩ := hpl
  simp only at p3
  have hnp := hT.2.2.1
  obtain ⟨hFL, eFc, _, _⟩ := hF
  have est := p3.2.2.1
  subst est
  subst eFc
  have hL5 := p3.2.2.2.2.1
  rw [f_Table_start_u]
  refine ok_bn3 (fun o => o = ((1 : Int32), (0 : Int32), vp_updL Br 0 0)) (ok_nm (ok_s rfl)) (fun ct cr rws e => ?_)
  cases e
  refine ok_bn7 (fun o => tbl (rnN TL np sl pa nf fv fk fx (poA TL np sl pa td bf) (pmA TL np sl pa td bf sf nf fv) np) o.2.2.1 o.2.2.2.2.1 o.2.2.2.2.2.1) ?_ (fun a1 a2 ct fo cr rws sp h2 => ?_)
  · refine lpF (σ := Nat × Nat × Int32 × Int32 × Int32 × (Nat → Int64) × (Nat → Int64)) (fun f i s => f_JoinOrder_run_L0 n mc S Pr (nI nf) Fv ms K X (nI np) O A f s.1 s.2.1 s.2.2.1 s.2.2.2.1 s.2.2.2.2.1 s.2.2.2.2.2.1 s.2.2.2.2.2.2 (nI i)) (fun i s => tbl (rnN TL np sl pa nf fv fk fx (poA TL np sl pa td bf) (pmA TL np sl pa td bf sf nf fv) i) s.2.2.1 s.2.2.2.2.1 s.2.2.2.2.2.1) np _ ?_ ?_ n 0 (aR, aS, 1, Bf, 0, vp_updL Br 0 0, Bs) (by omega) (by omega) tbl_start
    · intro f s hI
      rw [f_JoinOrder_run_L0_s]
      exact ok_t (nI_le (Nat.le_refl _) (by omega)) (ok_s hI)
    · intro f i s hi hI ih
      obtain ⟨b1, b2, ct, fo, cr, rws, sp⟩ := s
      simp only at hI
      rw [f_JoinOrder_run_L0_s]
      dsimp only
      refine ok_f (nI_ge hi (by omega)) ?_
      refine ok_gd i rfl (by omega) (by decide) ?_
      obtain ⟨w1, _, _, w4, w5⟩ := hL5 i hi
      rw [nI_clamp (by omega : i < 2 ^ 31), w1, w5]
      refine ok_bn7 _ (c_joinA hn hT hQ (p2 i hi) hI) (fun b3 b4 ct2 fo2 cr2 rws2 sp2 h3 => ?_)
      obtain ⟨_, _, h3⟩ := h3
      simp only at h3
      refine ok_bn2 _ (c_sift (set := pmA TL np sl pa td bf sf nf fv i) hn hFL (by omega) h3) (fun ct3 rws3 h4 => ?_)
      exact ok_nmE (nI_1 i) (ih (b3, b4, ct3, fo2, cr2, rws3, sp2) h4)
  · simp only at h2
    refine ok_bn2 (fun o => tbl (runA TL np sl pa td bf nf sf fv fk fx) o.1 cr o.2) ?_ (fun ct2 rws2 h3 => ok_s ⟨ans_tbl h3, rfl, p3, h3⟩)
    unfold runA runR
    refine ok_b (np = 0) (nI_eq (b := 0) (by omega) (by omega)) (fun h0 => ?_) (fun h0 => ?_)
    · rw [if_pos h0]
      have eR : rnN TL np sl pa nf fv fk fx (poA TL np sl pa td bf) (pmA TL np sl pa td bf sf nf fv) np = some [0] := by
        rw [h0]
        rfl
      rw [eR] at h2
      obtain ⟨e1, e2⟩ := all_set hFL.1
      rw [e1]
      exact ok_bn2 _ (c_sift hn hFL e2 h2) (fun ct3 rws3 h4 => ok_s h4)
    · rw [if_neg h0]
      exact ok_s h2
/-! plain -/
theorem popc_mono {m i : Nat} : ∀ k, i ≤ k → popc m i ≤ popc m k := by
  intro k
  induction k with
  | zero =>
    intro h
    have e : i = 0 := by omega
    rw [e]
    exact Nat.le_refl _
  | succ k ih =>
    intro h
    by_cases e : i = k + 1
    · rw [e]
      exact Nat.le_refl _
    · have h1 := ih (by omega)
      show _ ≤ popc m k + (m.testBit k).toNat
      omega
theorem popc_st {m p : Nat} : popc m (p + 1) = popc m p + (m.testBit p).toNat := rfl
theorem popc_end {np m : Nat} (hp : np ≤ 8) (h : m < 2 ^ np) : popc m 8 = popc m np := by
  have h1 := popc_add m np (8 - np)
  rw [Nat.div_eq_of_lt h, popc_0, show np + (8 - np) = 8 by omega] at h1
  exact h1
noncomputable def ppN (np : Nat) (pa : Nat → Nat) (i : Nat) : Nat := if i < popc (rqA pa np) 8 then fnd (fun p => (rqA pa np).testBit p && decide (popc (rqA pa np) p = i)) 8 0 else opN np pa (i - popc (rqA pa np) 8)
theorem pp_at {np p : Nat} {pa : Nat → Nat} (hp : p < 8) (hb : (rqA pa np).testBit p = true) : ppN np pa (popc (rqA pa np) p) = p := by
  have h1 := popc_st (m := rqA pa np) (p := p)
  rw [hb, Bool.toNat_true] at h1
  have h2 := popc_mono (m := rqA pa np) (i := p + 1) 8 (by omega)
  unfold ppN
  rw [if_pos (by omega)]
  refine fnd_eqN hp ?_ (fun j hj hB => ?_)
  · show ((rqA pa np).testBit p && decide (popc (rqA pa np) p = popc (rqA pa np) p)) = true
    rw [hb, decide_eq_true rfl]
    rfl
  · have hB : ((rqA pa np).testBit j && decide (popc (rqA pa np) j = popc (rqA pa np) p)) = true := hB
    obtain ⟨b1, b2⟩ := Bool.and_eq_true _ _ |>.mp hB
    have b2 := of_decide_eq_true b2
    have h3 := popc_st (m := rqA pa np) (p := j)
    rw [b1, Bool.toNat_true] at h3
    have h4 := popc_mono (m := rqA pa np) (i := j + 1) p (by omega)
    omega
noncomputable def gnN (TL : List Nat) (np : Nat) (sl : Nat → Nat → Nat) (pa : Nat → Nat) : Nat → Option (List Nat)
  | 0 => some [0]
  | i + 1 => joinR (sl (ppN np pa i)) (pa (ppN np pa i)) (ppN np pa i) (MN TL np sl (ppN np pa i)) (gnN TL np sl pa i)
theorem gn_lo {TL : List Nat} {np : Nat} {sl : Nat → Nat → Nat} {pa : Nat → Nat} (hnp : np ≤ 8) : ∀ p, p ≤ np → gnN TL np sl pa (popc (rqA pa np) p) = qnN TL np sl pa p := by
  intro p
  induction p with
  | zero => intro _; rfl
  | succ p ih =>
    intro hp
    have ih := ih (by omega)
    have h1 := popc_st (m := rqA pa np) (p := p)
    show _ = if pa p = 0 then joinR (sl p) (pa p) p (MN TL np sl p) (qnN TL np sl pa p) else qnN TL np sl pa p
    by_cases h0 : pa p = 0
    · have hb : (rqA pa np).testBit p = true := rqA_bit.mpr ⟨by omega, h0⟩
      have hpp := pp_at (np := np) (pa := pa) (show p < 8 by omega) hb
      rw [hb, Bool.toNat_true] at h1
      rw [if_pos h0, h1]
      show joinR (sl (ppN np pa (popc (rqA pa np) p))) (pa (ppN np pa (popc (rqA pa np) p))) (ppN np pa (popc (rqA pa np) p)) (MN TL np sl (ppN np pa (popc (rqA pa np) p))) (gnN TL np sl pa (popc (rqA pa np) p)) = _
      rw [hpp, ih]
    · have hb : (rqA pa np).testBit p = false := Bool.not_eq_true _ |>.mp (fun h => h0 (rqA_bit.mp h).2)
      rw [hb, Bool.toNat_false] at h1
      have h1 : popc (rqA pa np) (p + 1) = popc (rqA pa np) p := h1
      rw [if_neg h0, h1, ih]
theorem gn_hi {TL : List Nat} {np : Nat} {sl : Nat → Nat → Nat} {pa : Nat → Nat} (hnp : np ≤ 8) : ∀ k, gnN TL np sl pa (popc (rqA pa np) 8 + k) = onN TL np sl pa k := by
  intro k
  induction k with
  | zero =>
    rw [Nat.add_zero, popc_end hnp rqA_lt, gn_lo hnp np (Nat.le_refl _)]
    rfl
  | succ k ih =>
    have e : ppN np pa (popc (rqA pa np) 8 + k) = opN np pa k := by
      unfold ppN
      rw [if_neg (by omega), show popc (rqA pa np) 8 + k - popc (rqA pa np) 8 = k by omega]
    show joinR (sl (ppN np pa (popc (rqA pa np) 8 + k))) (pa (ppN np pa (popc (rqA pa np) 8 + k))) (ppN np pa (popc (rqA pa np) 8 + k)) (MN TL np sl (ppN np pa (popc (rqA pa np) 8 + k))) (gnN TL np sl pa (popc (rqA pa np) 8 + k)) = joinR (sl (opN np pa k)) (pa (opN np pa k)) (opN np pa k) (MN TL np sl (opN np pa k)) (onN TL np sl pa k)
    rw [e, ih]
theorem c_ordN {n np : Nat} {pa : Nat → Nat} {Pr Z : Nat → Int32} (hn : 8 < n) (hnp : np ≤ 8) (h : paH pa np Pr) : ok (f_Patterns_orderByNumbers n (nI (rqA pa np)) (nI np) Z Pr) (fun o => o.1 = nI np ∧ ∀ i, i < np → ppN np pa i < np ∧ o.2 i = nI (ppN np pa i)) := by
  have hr := rqA_lt (pa := pa) (np := np)
  have h8 : (2 : Nat) ^ np ≤ 2 ^ 8 := Nat.pow_le_pow_right (by decide) hnp
  have hfr := popc_np hnp hr
  rw [f_Patterns_orderByNumbers_u]
  refine ok_bn2 (fun o => o.2 = nI (popc (rqA pa np) 8) ∧ ∀ i, i < popc (rqA pa np) 8 → ppN np pa i < np ∧ o.1 i = nI (ppN np pa i)) ?_ (fun Z2 x2 h2 => ?_)
  · rw [popc_end hnp hr]
    refine lpF (σ := (Nat → Int32) × Int32) (fun f p s => f_Patterns_orderByNumbers_L0 n (nI (rqA pa np)) (nI np) f s.1 s.2 (nI p)) (fun p s => s.2 = nI (popc (rqA pa np) p) ∧ ∀ i, i < popc (rqA pa np) p → ppN np pa i < np ∧ s.1 i = nI (ppN np pa i)) np _ ?_ ?_ n 0 (Z, 0) (by omega) (by omega) ⟨rfl, fun i hi => absurd hi (Nat.not_lt_zero i)⟩
    · intro f s hI
      rw [f_Patterns_orderByNumbers_L0_s]
      exact ok_t (nI_le (Nat.le_refl _) (by omega)) (ok_s hI)
    · intro f p s hp hI ih
      obtain ⟨Z3, x3⟩ := s
      obtain ⟨k1, k2⟩ := hI
      simp only at k1 k2
      subst k1
      have h1 := popc_st (m := rqA pa np) (p := p)
      have hle := popc_le (rqA pa np) p
      rw [f_Patterns_orderByNumbers_L0_s]
      dsimp only
      refine ok_f (nI_ge hp (by omega)) ?_
      rw [f_Patterns_isRequired_u]
      refine ok_b _ (tf_0 (m_in (m := rqA pa np) (p := p) (by omega) (by omega))) (fun g => ?_) (fun g => ?_)
      · rw [Bool.not_eq_true _ |>.mp g, Bool.toNat_false] at h1
        have h1 : popc (rqA pa np) (p + 1) = popc (rqA pa np) p := h1
        rw [h1] at ih
        exact ok_nmE (nI_1 p) (ih (Z3, nI (popc (rqA pa np) p)) ⟨rfl, k2⟩)
      · have g := Classical.not_not.mp g
        have hpp := pp_at (np := np) (pa := pa) (show p < 8 by omega) g
        rw [g, Bool.toNat_true] at h1
        rw [h1] at ih
        refine ok_gd _ rfl (show popc (rqA pa np) p < 8 by omega) (by decide) ?_
        rw [nI_clamp (by omega : popc (rqA pa np) p < 2 ^ 31)]
        refine ok_nm (ok_nmE (nI_1 _) (ok_nmE (nI_1 p) (ih (upd Z3 (popc (rqA pa np) p) (nI p), nI (popc (rqA pa np) p + 1)) ⟨rfl, fun i hi => ?_⟩)))
        simp only
        by_cases e : i = popc (rqA pa np) p
        · subst e
          rw [pk_us, hpp]
          exact ⟨hp, rfl⟩
        · rw [pk_un e]
          exact k2 i (by omega)
  · obtain ⟨h2, h3⟩ := h2
    simp only at h2 h3
    subst h2
    refine ok_bn1 _ (c_ordO hn hnp (by omega) hfr h (fun p hp hb h0 => hb (rqA_bit.mpr ⟨hp, h0⟩))) (fun Z4 h4 => ok_s ⟨rfl, fun i hi => ?_⟩)
    show _ ∧ Z4 i = _
    by_cases hl : i < popc (rqA pa np) 8
    · rw [h4.1 i hl]
      exact h3 i hl
    · have e : ppN np pa i = opN np pa (i - popc (rqA pa np) 8) := by
        unfold ppN
        rw [if_neg hl]
      rw [h4.2 i (by omega) hi, e]
      exact ⟨fnd_lt2 np 0 np (by omega) (by omega), rfl⟩
theorem c_mkP {n np nf sf aR aS : Nat} {TL : List Nat} {sl : Nat → Nat → Nat} {pa td fv fk fx : Nat → Nat} {Tc rq Pc Fs Fc Cf : Int32} {Tp S mc ms ts V H Td Pr Fv K X J0 : Nat → Int32} {Cr Cs : Nat → Int64} (hn : 500 < n) (hT : CT TL np sl Tc Tp S mc ms ts) (hQ : CQ np sl pa td rq Pc V H Td Pr) (hF : CF nf fv fk fx sf Fs Fc Fv K X) :
    ok (f_JoinOrder_makePlainOnes n rq Pc J0 Pr aR aS Cf Cr Cs S mc ms Fc Fv K X) (fun o => tbl (plnA TL np sl pa nf fv fk fx) o.2.2.2.1 o.2.2.2.2.2.1 o.2.2.2.2.2.2.1) := by
  have hnp := hT.2.2.1
  have hrq := isS_mk hQ.2.2.1 hnp
  have ePc := hQ.2.1
  obtain ⟨hFL, eFc, _, _⟩ := hF
  rw [f_JoinOrder_makePlainOnes_u]
  have hrq2 : rq = nI (rqA pa np) := hrq
  rw [hrq2, ePc, eFc]
  refine ok_bn2 _ (c_ordN (by omega) hnp hQ.2.2.2.2.2) (fun st O hO => ?_)
  obtain ⟨o1, o2⟩ := hO
  simp only at o1 o2
  subst o1
  rw [f_Table_start_u]
  refine ok_bn3 (fun o => o = ((1 : Int32), (0 : Int32), vp_updL Cr 0 0)) (ok_nm (ok_s rfl)) (fun ct cr rws e => ?_)
  cases e
  refine ok_bn7 (fun o => tbl (gnN TL np sl pa np) o.2.2.1 o.2.2.2.2.1 o.2.2.2.2.2.1) ?_ (fun a1 a2 ct fo cr rws sp h2 => ?_)
  · refine lpF (σ := Nat × Nat × Int32 × Int32 × Int32 × (Nat → Int64) × (Nat → Int64)) (fun f i s => f_JoinOrder_makePlainOnes_L0 n Pr S mc ms (nI np) O f s.1 s.2.1 s.2.2.1 s.2.2.2.1 s.2.2.2.2.1 s.2.2.2.2.2.1 s.2.2.2.2.2.2 (nI i)) (fun i s => tbl (gnN TL np sl pa i) s.2.2.1 s.2.2.2.2.1 s.2.2.2.2.2.1) np _ ?_ ?_ n 0 (aR, aS, 1, Cf, 0, vp_updL Cr 0 0, Cs) (by omega) (by omega) tbl_start
    · intro f s hI
      rw [f_JoinOrder_makePlainOnes_L0_s]
      exact ok_t (nI_le (Nat.le_refl _) (by omega)) (ok_s hI)
    · intro f i s hi hI ih
      obtain ⟨b1, b2, ct, fo, cr, rws, sp⟩ := s
      simp only at hI
      rw [f_JoinOrder_makePlainOnes_L0_s]
      dsimp only
      refine ok_f (nI_ge hi (by omega)) ?_
      refine ok_gd i rfl (by omega) (by decide) ?_
      obtain ⟨w1, w2⟩ := o2 i hi
      rw [nI_clamp (by omega : i < 2 ^ 31), w2]
      refine ok_bn7 _ (c_joinA hn hT hQ w1 hI) (fun b3 b4 ct2 fo2 cr2 rws2 sp2 h3 => ?_)
      obtain ⟨_, _, h3⟩ := h3
      simp only at h3
      exact ok_nmE (nI_1 i) (ih (b3, b4, ct2, fo2, cr2, rws2, sp2) h3)
  · simp only at h2
    have hfr := popc_np hnp (rqA_lt (pa := pa) (np := np))
    have eg := gn_hi (TL := TL) (sl := sl) (pa := pa) hnp (np - popc (rqA pa np) 8)
    rw [show popc (rqA pa np) 8 + (np - popc (rqA pa np) 8) = np by omega] at eg
    rw [eg] at h2
    obtain ⟨e1, e2⟩ := all_set hFL.1
    rw [e1]
    exact ok_bn2 _ (c_sift hn hFL e2 h2) (fun ct3 rws3 h4 => ok_s h4)
theorem c_plain {n np nf sf aR aS : Nat} {TL : List Nat} {sl : Nat → Nat → Nat} {pa td fv fk fx : Nat → Nat} {Tc rq Pc Fs Fc Cf : Int32} {Tp S mc ms ts V H Td Pr Fv K X J0 : Nat → Int32} {Cr Cs : Nat → Int64} (hn : 500 < n) (hT : CT TL np sl Tc Tp S mc ms ts) (hQ : CQ np sl pa td rq Pc V H Td Pr) (hF : CF nf fv fk fx sf Fs Fc Fv K X) :
    ok (f_JoinOrder_plain n rq Pc J0 Pr aR aS Cf Cr Cs S mc ms Fc Fv K X) (fun o => o.1 = ansR (plnA TL np sl pa nf fv fk fx)) := by
  rw [f_JoinOrder_plain_u]
  exact ok_bn8 _ (c_mkP hn hT hQ hF) (fun _ _ _ _ _ _ _ _ h => ok_s (ans_tbl h))
def CB (R : Option (List Nat)) (run ct cr : Int32) (rws : Nat → Int64) : Prop := (R = none ∧ ct = 0 ∧ (run = 0 ∨ cr = 1)) ∨ (∃ L, R = some L ∧ run = 1 ∧ tbl (some L) ct cr rws)
theorem CB_tbl {R : Option (List Nat)} {ct cr : Int32} {rws : Nat → Int64} (h : tbl R ct cr rws) : CB R 1 ct cr rws := by
  cases R with
  | none =>
    rcases h with ⟨_, h2, h3⟩ | ⟨L, h1, _⟩
    · exact Or.inl ⟨rfl, h3, Or.inr h2⟩
    · cases h1
  | some L => exact Or.inr ⟨L, rfl, rfl, h⟩
theorem tbl_s {L : List Nat} {ct cr : Int32} {rws : Nat → Int64} (h : tbl (some L) ct cr rws) : cr = 0 ∧ ct = nI L.length ∧ L.length ≤ 500 ∧ hL rws L ∧ ∀ r, r ∈ L → okR r := by
  rcases h with ⟨h1, _⟩ | ⟨L2, h1, h2⟩
  · cases h1
  · cases h1
    exact h2
theorem CB_row {R : Option (List Nat)} {run ct cr x1 x2 : Int32} {rws : Nat → Int64} (h : CB R run ct cr rws) : f_JoinOrder_row x1 x2 ct rws = some (sRow (rwL R) x1 x2) := by
  rcases h with ⟨h1, h2, _⟩ | ⟨L, h1, _, h2⟩
  · subst h1
    exact c_row (L := []) (by decide) h2 hL_nil (fun r hr => by cases hr)
  · subst h1
    obtain ⟨_, g2, g3, g4, g5⟩ := tbl_s h2
    exact c_row g3 g2 g4 g5
theorem QB_row {R : Option (List Nat)} {kept room x1 x2 : Int32} {keep : Nat → Int32} (h : QB R kept room keep) : f_JoinOrderModel_row x1 x2 kept keep = some (sRow (rwL R) x1 x2) := by
  rcases h with ⟨h1, h2, _⟩ | ⟨L, h1, h2, h3, _, h4⟩
  · subst h1
    exact q_row (L := []) (by decide) h2 (fun i r hi => by cases hi)
  · subst h1
    exact q_row h2 h3 h4
theorem c_keeps {n np nf sf aR aS : Nat} {TL : List Nat} {sl : Nat → Nat → Nat} {pa td fv fk fx : Nat → Nat} {R : Option (List Nat)} {Tc rq Pc Fs Fc Cc Cf Ccr run ct cr : Int32} {Tp S mc ms ts V H Td Pr Fv K X J0 : Nat → Int32} {Cr Cs Br : Nat → Int64} (hn : 500 < n) (hT : CT TL np sl Tc Tp S mc ms ts) (hQ : CQ np sl pa td rq Pc V H Td Pr) (hF : CF nf fv fk fx sf Fs Fc Fv K X) (hR : CB R run ct cr Br) :
    ok (f_JoinOrder_keeps n run ct cr rq Pc J0 Pr aR aS Cc Cf Ccr Cr Cs S mc ms Fc Fv K X Br) (fun o => tf o.1 (∃ A B, plnA TL np sl pa nf fv fk fx = some A ∧ R = some B ∧ (A.map msk).Perm (B.map msk))) := by
  rw [f_JoinOrder_keeps_u]
  rcases hR with ⟨h1, _, h3⟩ | ⟨B, h1, h2, h3⟩
  · subst h1
    have no : tf 0 (∃ A B, plnA TL np sl pa nf fv fk fx = some A ∧ (none : Option (List Nat)) = some B ∧ (A.map msk).Perm (B.map msk)) := tf_f (by
      rintro ⟨A, B, _, e, _⟩
      cases e)
    refine ok_if (fun _ => ok_s no) (fun g => ?_)
    rcases h3 with h3 | h3
    · exact absurd h3 g
    · subst h3
      exact ok_f (by decide) (ok_s no)
  · subst h1 h2
    obtain ⟨g1, g2, g3, g4, g5⟩ := tbl_s h3
    subst g1 g2
    refine ok_f (by decide) (ok_t rfl ?_)
    refine ok_bn8 _ (c_mkP hn hT hQ hF) (fun a1 a2 a3 cc cf ccr cr cs h => ?_)
    simp only at h
    cases ep : plnA TL np sl pa nf fv fk fx with
    | none =>
      rw [ep] at h
      rcases h with ⟨_, k2, _⟩ | ⟨L, k1, _⟩
      · subst k2
        refine ok_f (by decide) (ok_s (tf_f ?_))
        rintro ⟨A, B2, e, _, _⟩
        cases e
      · cases k1
    | some A =>
      rw [ep] at h
      obtain ⟨k1, k2, k3, k4, k5⟩ := tbl_s h
      subst k1 k2
      refine ok_t rfl ?_
      refine ok_bn3 _ (c_same hn k3 g3 k4 g4 (fun r hr => (k5 r hr).1) (fun r hr => (g5 r hr).1)) (fun r c2 s2 hr => ?_)
      simp only at hr
      have hr2 : tf r (∃ A2 B2, some A = some A2 ∧ some B = some B2 ∧ (A2.map msk).Perm (B2.map msk)) := tf_iff hr ⟨fun h => ⟨A, B, rfl, rfl, h⟩, by
        rintro ⟨A2, B2, e1, e2, h⟩
        cases e1
        cases e2
        exact h⟩
      rcases hr2 with ⟨e, h5⟩ | ⟨e, h5⟩
      · subst e
        exact ok_f (by decide) (ok_s (tf_t h5))
      · subst e
        exact ok_t rfl (ok_s (tf_f h5))
