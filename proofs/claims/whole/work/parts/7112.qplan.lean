/-! THE PLAN of the reference -/
noncomputable def rqA (pa : Nat → Nat) (np : Nat) : Nat := mkS (fun p => pa p = 0) np
theorem rqA_lt {pa : Nat → Nat} {np : Nat} : rqA pa np < 2 ^ np := mkS_lt _ np
theorem rqA_bit {pa : Nat → Nat} {np p : Nat} : (rqA pa np).testBit p = true ↔ p < np ∧ pa p = 0 := mkS_bit (fun p => pa p = 0) p np
noncomputable def vmA (sl : Nat → Nat → Nat) (np p : Nat) : Nat := mkS (fun v => p < np ∧ hasV (sl p) v) 8
noncomputable def hvA (sl : Nat → Nat → Nat) (np v : Nat) : Nat := mkS (fun p => p < np ∧ hasV (sl p) v) 8
theorem vmA_bit {sl : Nat → Nat → Nat} {np p v : Nat} : (vmA sl np p).testBit v = true ↔ v < 8 ∧ p < np ∧ hasV (sl p) v := mkS_bit (fun v => p < np ∧ hasV (sl p) v) v 8
theorem hvA_bit {sl : Nat → Nat → Nat} {np p v : Nat} : (hvA sl np v).testBit p = true ↔ p < 8 ∧ p < np ∧ hasV (sl p) v := mkS_bit (fun p => p < np ∧ hasV (sl p) v) p 8
noncomputable def rsA (TL : List Nat) (np : Nat) (sl : Nat → Nat → Nat) (p v : Nat) : Nat := if p < np then rsN (MN TL np sl p) (sl p) v else 0
theorem MN_at {TL : List Nat} {np : Nat} {sl : Nat → Nat → Nat} {p : Nat} (hp : p < np) : MN TL np sl p = TL.filter (fitB (sl p)) := if_pos hp
theorem rsN_pos {M : List Nat} {sl : Nat → Nat} {v : Nat} : 0 < rsN M sl v ↔ hasV sl v := by
  unfold rsN
  by_cases h : hasV sl v
  · rw [if_pos h]
    exact ⟨fun _ => h, fun _ => (dst_in M (plc sl v)).1⟩
  · rw [if_neg h]
    exact ⟨fun h2 => by omega, fun h2 => absurd h2 h⟩
theorem MS_A {TL : List Nat} {np : Nat} {sl : Nat → Nat → Nat} {td : Nat → Nat} (hnp : np ≤ 8) (hl : TL.length ≤ 80) (htd : ∀ p, td p ≤ 101) : MS np (fun p => szN (MN TL np sl p) (td p)) (fun p v => sprN (MN TL np sl p) (sl p) v) (rsA TL np sl) (hvA sl np) := by
  refine ⟨fun p => ?_, fun p v => ?_, fun p v hp => if_neg (by omega), fun v hv p => ?_, fun v hv p hb => ?_⟩
  · have h1 := MN_len (TL := TL) (np := np) (sl := sl) p
    have h2 := htd p
    show szN _ _ ≤ 100
    unfold szN
    split <;> omega
  · unfold rsA rsN
    split
    · split
      · exact (dst_in _ _).2
      · omega
    · omega
  · rw [hvA_bit]
    unfold rsA
    by_cases hp : p < np
    · rw [if_pos hp, rsN_pos]
      exact ⟨fun h => h.2.2, fun h => ⟨by omega, hp, h⟩⟩
    · rw [if_neg hp]
      exact ⟨fun h => absurd h.2.1 hp, fun h => by omega⟩
  · obtain ⟨_, h1, h2⟩ := hvA_bit.mp hb
    show sprN _ _ _ = rsA TL np sl p v
    unfold rsA rsN
    rw [if_pos h1, if_pos h2]
theorem QV_A {TL : List Nat} {np : Nat} {sl : Nat → Nat → Nat} : QV np (rsA TL np sl) (vmA sl np) := fun p hp => ⟨mkS_lt _ 8, fun v hv => by
  rw [vmA_bit]
  unfold rsA
  rw [if_pos hp, rsN_pos]
  exact ⟨fun h => h.2.2, fun h => ⟨hv, hp, h⟩⟩⟩
theorem ordN_lt {E : Nat → Nat} {nx pa : Nat → Nat} {np rq i : Nat} (h : ∀ j, j < popc rq 8 → chN E nx (sq (chN E nx) j) < np) (hi : i < np) : ordN E nx pa np rq i < np := by
  unfold ordN
  by_cases hl : i < popc rq 8
  · rw [if_pos hl]
    exact h i hl
  · rw [if_neg hl]
    exact fnd_lt2 np 0 np (by omega) (by omega)
noncomputable def EA (TL : List Nat) (np : Nat) (sl : Nat → Nat → Nat) (td : Nat → Nat) : Nat → Nat := fun S => estN (fun p => szN (MN TL np sl p) (td p)) (fun p v => sprN (MN TL np sl p) (sl p) v) (hvA sl np) S 8
noncomputable def nxA (np : Nat) (sl : Nat → Nat → Nat) (pa bf : Nat → Nat) : Nat → Nat := nxM (rqA pa np) bf (vmA sl np) np
noncomputable def poA (TL : List Nat) (np : Nat) (sl : Nat → Nat → Nat) (pa td bf : Nat → Nat) : Nat → Nat := ordN (EA TL np sl td) (nxA np sl pa bf) pa np (rqA pa np)
noncomputable def pjA (TL : List Nat) (np : Nat) (sl : Nat → Nat → Nat) (pa td bf : Nat → Nat) : Nat → Nat := jonN (EA TL np sl td) (nxA np sl pa bf) (fun p => szN (MN TL np sl p) (td p)) (vmA sl np) np (rqA pa np)
noncomputable def peA (TL : List Nat) (np : Nat) (sl : Nat → Nat → Nat) (pa td bf : Nat → Nat) : Nat → Nat := estA (EA TL np sl td) (nxA np sl pa bf) (rqA pa np)
noncomputable def pbA (TL : List Nat) (np : Nat) (sl : Nat → Nat → Nat) (pa td bf : Nat → Nat) (sf : Nat) (fv : Nat → Nat) : Nat → Nat := bhN sf (rqA pa np) np (vmA sl np) (poA TL np sl pa td bf) fv
noncomputable def pmA (TL : List Nat) (np : Nat) (sl : Nat → Nat → Nat) (pa td bf : Nat → Nat) (sf nf : Nat) (fv : Nat → Nat) : Nat → Nat := fun i => mkS (fun f => pbA TL np sl pa td bf sf fv f = i) nf
theorem q_plan {n np nf sf hm : Nat} {TL : List Nat} {sl : Nat → Nat → Nat} {pa an td bf fv fk fx : Nat → Nat} {ht : Nat → Nat → Prop} {Rc Rp Rf : Int32} {C F Td Qz0 X0 Qs0 Of Hn o0 j0 A0 Z Lk K X B0 : Nat → Int32} {Qe0 Qr0 e0 : Nat → Int64} (hn : 256 < n) (hT : QT TL Rc F) (hQ : QQ np sl pa td Rp C Td Of) (hfr : fresh np pa td bf) (hw : HW np pa bf hm ht) (hH : QH ht Hn) (hac : AC np pa an) (hF : QF nf fv fk fx sf Rf Lk K X Z) :
    ok (f_JoinOrderModel_plan n Rc Rp Rf C F Td Qz0 X0 Qs0 Of Qe0 Qr0 Hn o0 j0 e0 A0 Z Lk B0) (fun r => r.1 = nI np ∧ (∀ i, i < np → poA TL np sl pa td bf i < np) ∧ QL np nf (poA TL np sl pa td bf) (pjA TL np sl pa td bf) (peA TL np sl pa td bf) (pbA TL np sl pa td bf sf fv) (pmA TL np sl pa td bf sf nf fv) r.2.1 r.2.2.1 r.2.2.2.2.2.2.2.2.1 r.2.2.2.2.2.2.2.2.2.1 r.2.2.2.2.2.2.2.2.2.2.2.1 r.2.2.2.2.2.2.2.2.2.2.2.2 r.2.2.2.2.2.2.2.2.2.2.1) := by
  obtain ⟨t1, t2, t3, t4⟩ := hT
  obtain ⟨hnp, q2, q3, q4, q5⟩ := hQ
  have hF2 := hF
  obtain ⟨f1, f2, _⟩ := hF2
  subst t3
  subst q2
  subst f2
  have htd : ∀ p, td p ≤ 101 := fun p => by
    by_cases hp : p < np
    · exact (q4 p hp).1
    · rw [(hfr p (by omega)).2.1]
      omega
  have hM := MS_A (TL := TL) (sl := sl) (td := td) hnp t1 htd
  have hV := QV_A (TL := TL) (np := np) (sl := sl)
  have hr := rqA_lt (pa := pa) (np := np)
  have h8 : (2 : Nat) ^ np ≤ 2 ^ 8 := Nat.pow_le_pow_right (by decide) hnp
  have ha : acy (rqA pa np) bf := HW_acy hw (fun p _ => rqA_bit)
  have hrb : ∀ p, p < np → ((rqA pa np).testBit p = true ↔ pa p = 0) := fun p hp => rqA_bit.trans ⟨fun h => h.2, fun h => ⟨hp, h⟩⟩
  have hreq : f_JoinOrderModel_allRequired n (nI np) Of = some (nI (rqA pa np)) := by
    apply ok_eq
    exact ok_w (q_allReq (by omega) hnp q5) (fun r h => isS_mk h hnp)
  rw [f_JoinOrderModel_plan_u]
  refine ok_bn3 _ (q_measA (sl := sl) (td := td) (by omega) hnp t1 q3 t4 q4) (fun Qz X1 Qs hQm => ?_)
  simp only at hQm
  have hQm : QM np (fun p => szN (MN TL np sl p) (td p)) (rsA TL np sl) Qz Qs := ⟨fun p hp => by
    rw [hQm.1 p hp]
    show _ = nI (szN (MN TL np sl p) (td p))
    rw [MN_at hp], fun p hp v hv => by
    rw [hQm.2 p hp v hv]
    unfold rsA
    rw [if_pos hp, MN_at hp]⟩
  refine ok_bn1 _ (ok_e hreq) (fun r e => ?_)
  subst e
  refine ok_bn2 _ (q_fill (vm := vmA sl np) hn hnp hr ha hw hH hM hQm hV) (fun Qe Qr hfill => ?_)
  obtain ⟨he, hc⟩ := hfill
  simp only at he hc
  refine ok_bn1 _ (ok_e hreq) (fun r e => ?_)
  subst e
  have hEW : ∀ S, EA TL np sl td S ≤ W8 := fun S => estN_W hM.1 8
  refine ok_bn4 _ (q_putR (E := EA TL np sl td) (sz := fun p => szN (MN TL np sl p) (td p)) (vm := vmA sl np) (by omega) hnp hr ha hw hH ⟨hM.2.1, hQm.2⟩ hV W8_256 hEW he hc (fun p hp => ⟨hM.1 p, hQm.1 p hp⟩)) (fun s1 O1 J1 U1 h1 => ?_)
  obtain ⟨a1, a2⟩ := h1
  simp only at a1 a2
  subst a1
  refine ok_bn4 _ (q_putO (E := EA TL np sl td) (by omega) hnp hr hrb hac q5 hreq (he _ (Nat.zero_le _) (by omega) (fun _ _ h => h))) (fun s2 O2 J2 U2 h2 => ?_)
  obtain ⟨b1, b2⟩ := h2
  simp only at b1 b2
  subst b1
  have hpo : ∀ i, i < np → poA TL np sl pa td bf i < np := fun i hi => ordN_lt (fun j hj => (a2 j hj).1) hi
  have hO2 : ∀ i, i < np → O2 i = nI (poA TL np sl pa td bf i) ∧ J2 i = nI (pjA TL np sl pa td bf i) ∧ U2 i = lN (peA TL np sl pa td bf i) := fun i hi => by
    unfold poA pjA peA ordN jonN estA
    by_cases hl : i < popc (rqA pa np) 8
    · obtain ⟨u1, u2, u3⟩ := (b2 i hi).1 hl
      obtain ⟨_, w1, w2, w3⟩ := a2 i hl
      rw [if_pos hl, if_pos hl, if_pos hl, u1, u2, u3]
      exact ⟨w1, w2, w3⟩
    · rw [if_neg hl, if_neg hl, if_neg hl]
      exact (b2 i hi).2 (by omega)
  refine ok_bn3 _ (q_putF (rq := rqA pa np) (vm := vmA sl np) (o := poA TL np sl pa td bf) (by omega) hnp hrb (fun p hp v hv => vmA_bit.trans ⟨fun h => h.2.2, fun h => ⟨hv, hp, h⟩⟩) q5 q3 (fun i hi => ⟨hpo i hi, (hO2 i hi).1⟩) hF) (fun s3 A3 B3 h3 => ok_s ?_)
  obtain ⟨c1, c2, c3⟩ := h3
  simp only at c1 c2 c3
  exact ⟨rfl, hpo, hnp, f1, rfl, c1, fun i hi => ⟨(hO2 i hi).1, (hO2 i hi).2.1, (hO2 i hi).2.2, c2 i hi⟩, c3⟩
