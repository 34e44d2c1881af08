/-! THE PLAN -/
theorem popc_np {n np : Nat} (hp : np ≤ 8) (h : n < 2 ^ np) : popc n 8 ≤ np := by
  have h1 := popc_add n np (8 - np)
  rw [Nat.div_eq_of_lt h, popc_0, show np + (8 - np) = 8 by omega] at h1
  have := popc_le n np
  omega
noncomputable def ordN (E : Nat → Nat) (nx pa : Nat → Nat) (np rq i : Nat) : Nat := if i < popc rq 8 then chN E nx (sq (chN E nx) i) else fnd (noB pa (oq pa np rq (i - popc rq 8))) np 0
noncomputable def jonN (E : Nat → Nat) (nx sz vm : Nat → Nat) (np rq i : Nat) : Nat := if i < popc rq 8 then jnO E sz vm np (chN E nx (sq (chN E nx) i)) (sq (chN E nx) i) else 4
noncomputable def estA (E : Nat → Nat) (nx : Nat → Nat) (rq i : Nat) : Nat := if i < popc rq 8 then E (sq (chN E nx) (i + 1)) else E rq
theorem c_arr {n np rq nf sf : Nat} {vm bf hv td pa fv : Nat → Nat} {M : Nat → List Nat} {sl : Nat → Nat → Nat} {S mc ms ts Td V B H Pr Fv Qz0 Qs0 O0 J0 A0 B0 : Nat → Int32} {Qe0 Qc0 L0 : Nat → Int64}
    (hn : 256 < n) (hp : np ≤ 8) (hr : rq < 2 ^ np) (hrn : ∀ p, p < 8 → rq.testBit p = true → p < np) (ha : acy rq bf) (hS : ∀ p, p < np → slH S p (sl p)) (hM : PM M mc ms ts) (hf : ∀ p, p < np → ∀ t, t ∈ M p → fitP (sl p) t) (hml : ∀ p, (M p).length ≤ 80)
    (htd : ∀ p, p < np → td p ≤ 101 ∧ Td p = nI (td p) - 1) (htd2 : ∀ p, td p ≤ 101) (hV : vmH vm np V) (hB : bfH bf np B) (hH : hvH hv H) (hvs : ∀ v, v < 8 → ∀ p, (hv v).testBit p = true → p < np ∧ ∃ k, k < 3 ∧ sl p k = 32 + v) (hPa : paH pa np Pr) (ho : ∀ p, p < np → ¬ rq.testBit p = true → pa p ≠ 0)
    (hnf : nf ≤ 8) (hsf : sf < 2 ^ 31) (hF : ∀ f, f < nf → fv f < 8 ∧ Fv f = nI (fv f)) (E : Nat → Nat) (nx o : Nat → Nat) (hEd : E = fun S => estN (fun p => szN (M p) (td p)) (fun p v => sprN (M p) (sl p) v) hv S 8) (hnx : nx = nxM rq bf vm np) (hod : o = ordN E nx pa np rq) :
    ok (f_Planner_arrange n (nI rq) (nI np) Td mc Qz0 S ts Qs0 H Qe0 V B Qc0 O0 J0 L0 Pr (nI sf) (nI nf) A0 Fv B0) (fun r => r.2.2.2.2.1 = nI np ∧ r.2.2.2.2.2.1 = nI nf ∧ (∀ i, i < np → o i < np ∧ r.2.2.2.2.2.2.1 i = nI (o i)) ∧ (∀ i, i < np → r.2.2.2.2.2.2.2.1 i = nI (jonN E nx (fun p => szN (M p) (td p)) vm np rq i)) ∧ (∀ i, i < np → r.2.2.2.2.2.2.2.2.1 i = lN (estA E nx rq i)) ∧ (0 < np → (∀ i, i < np → r.2.2.2.2.2.2.2.2.2.1 i = nI (mkS (fun f => bhN sf rq np vm o fv f = i) nf)) ∧ ∀ f, f < nf → r.2.2.2.2.2.2.2.2.2.2 f = nI (bhN sf rq np vm o fv f))) := by
  have hr8 : rq < 256 := Nat.lt_of_lt_of_le hr (Nat.pow_le_pow_right (n := 2) (by decide) hp)
  have hR := popc_np hp hr
  have hsz : ∀ p, szN (M p) (td p) ≤ 100 := fun p => by
    unfold szN
    have h1 := hml p
    have h2 := htd2 p
    split <;> omega
  have hEd2 : ∀ S, E S = estN (fun p => szN (M p) (td p)) (fun p v => sprN (M p) (sl p) v) hv S 8 := fun S => by rw [hEd]
  obtain ⟨W, hW, hEW⟩ : ∃ W, W * 256 + W < 2 ^ 62 ∧ ∀ S, E S ≤ W := ⟨W8, by decide, fun S => by
    rw [hEd2]
    exact estN_W hsz 8⟩
  rw [f_Planner_arrange_u]
  refine ok_bn2 _ (c_meas (by omega) hp hS hM hf htd) (fun Qz Qs hQ => ?_)
  obtain ⟨q1, q2⟩ := hQ
  simp only at q1 q2
  have z1 : szH (fun p => szN (M p) (td p)) rq Qz := fun p hp8 hb => ⟨hsz p, q1 p (hrn p hp8 hb)⟩
  have z2 : spH (fun p v => sprN (M p) (sl p) v) hv rq Qs := fun v hv8 p hb => by
    obtain ⟨g1, g2⟩ := hvs v hv8 p ((bit_and _ _ _).mp hb).2
    obtain ⟨d1, d2⟩ := dst_in (M p) (plc (sl p) v)
    exact ⟨d1, d2, q2 p g1 v hv8 g2⟩
  refine ok_bn2 _ (c_weigh (vm := vm) (bf := bf) hW hn hp hr8 hV hB z1 z2 hH (fun S => hEd2 S ▸ hEW S)) (fun Qe Qc hT => ?_)
  obtain ⟨t1, t2⟩ := hT
  simp only at t1 t2
  rw [← hEd, ← hnx] at t2
  rw [← hEd] at t1
  subst hnx
  refine ok_bn4 _ (c_ordR hW (by omega) hp hr8 hrn ha hV hB hEW z1 t1 t2) (fun st O J L hO => ?_)
  obtain ⟨o1, o2⟩ := hO
  simp only at o1 o2
  subst o1
  refine ok_bn1 _ (c_ordO (by omega) hp hr8 hR hPa ho) (fun O2 hO2 => ?_)
  obtain ⟨o3, o4⟩ := hO2
  have hOo : ∀ i, i < np → o i < np ∧ O2 i = nI (o i) := fun i hi => by
    rw [hod]
    unfold ordN
    by_cases hl : i < popc rq 8
    · rw [if_pos hl, o3 i hl]
      exact ⟨(o2 i hl).1.1, (o2 i hl).2.1⟩
    · rw [if_neg hl, o4 i (by omega) hi]
      exact ⟨fnd_lt2 np 0 np (by omega) (by omega), rfl⟩
  refine ok_bn2 (fun s => (∀ i, i < np → s.1 i = nI (jonN E (nxM rq bf vm np) (fun p => szN (M p) (td p)) vm np rq i)) ∧ ∀ i, i < np → s.2 i = lN (estA E (nxM rq bf vm np) rq i)) ?_ (fun J2 L2 hJ => ?_)
  · have hrq : Qe rq = lN (E rq) := t1 rq (Nat.zero_le _) hr8 (fun _ _ h => h)
    refine lpF (σ := (Nat → Int32) × (Nat → Int64)) (fun f i s => f_Planner_arrange_L0 n (nI rq) (nI np) Qe f s.1 s.2 (nI i)) (fun i s => (∀ j, j < i → s.1 j = nI (jonN E (nxM rq bf vm np) (fun p => szN (M p) (td p)) vm np rq j)) ∧ (∀ j, j < i → s.2 j = lN (estA E (nxM rq bf vm np) rq j)) ∧ popc rq 8 ≤ i) np _ ?_ ?_ n (popc rq 8) (J, L) hR (by omega) ⟨fun j hj => by
      unfold jonN
      rw [if_pos hj]
      exact (o2 j hj).2.2.1, fun j hj => by
      unfold estA
      rw [if_pos hj]
      exact (o2 j hj).2.2.2, Nat.le_refl _⟩
    · intro f s hI
      rw [f_Planner_arrange_L0_s]
      exact ok_t (nI_le (Nat.le_refl _) (by omega)) (ok_s ⟨hI.1, hI.2.1⟩)
    · intro f i s hi hI ih
      obtain ⟨k1, k2, k3⟩ := hI
      rw [f_Planner_arrange_L0_s]
      refine ok_f (nI_ge hi (by first | omega | decide)) ?_
      refine ok_gd i rfl (by omega) (by omega) ?_
      rw [nI_clamp (by omega : i < 2 ^ 31)]
      refine ok_nm ?_
      refine ok_gd rq rfl hr8 (by omega) ?_
      rw [nI_clamp (by omega : rq < 2 ^ 31), hrq]
      refine ok_nm (ok_nm (ok_nmE (nI_1 i) (ih (upd s.1 i (4 : Int32), vp_updL s.2 i (lN (E rq))) ⟨fun j hj => ?_, fun j hj => ?_, by omega⟩)))
      · simp only
        by_cases e : j = i
        · subst e
          rw [pk_us]
          unfold jonN
          rw [if_neg (by omega)]
          rfl
        · rw [pk_un e]
          exact k1 j (by omega)
      · simp only
        by_cases e : j = i
        · subst e
          rw [pk_uLs]
          unfold estA
          rw [if_neg (by omega)]
        · rw [pk_uLn e]
          exact k2 j (by omega)
  · refine ok_bn3 _ (c_place (o := o) (by omega) hp hr8 hnf hsf hF hV hOo) (fun a b c hh => ok_s ⟨rfl, hh.1, hOo, hJ.1, hJ.2, hh.2⟩)
