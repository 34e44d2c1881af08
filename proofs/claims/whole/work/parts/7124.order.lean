/-! the order of the plan: each comes once, behind the one it hangs on -/
theorem sq_ok {np rq : Nat} {E bf vm : Nat → Nat} (hnp : np ≤ 8) (hr : rq < 2 ^ np) (ha : acy rq bf) : ∀ i, i ≤ popc rq 8 → sq (chN E (nxM rq bf vm np)) i < 256 ∧ sub8 (sq (chN E (nxM rq bf vm np)) i) rq ∧ popc (sq (chN E (nxM rq bf vm np)) i) 8 = i ∧ ∀ j, j < i → ¬ (sq (chN E (nxM rq bf vm np)) j).testBit (chN E (nxM rq bf vm np) (sq (chN E (nxM rq bf vm np)) j)) = true ∧ rq.testBit (chN E (nxM rq bf vm np) (sq (chN E (nxM rq bf vm np)) j)) = true := by
  have hrn : ∀ p, p < 8 → rq.testBit p = true → p < np := fun p _ hb => bit_ltn hr hb
  have hx := nxM_ok (rq := rq) (bf := bf) (vm := vm) hnp
  have hok : ∀ S, S < 256 → popc S 8 < popc rq 8 → (nxM rq bf vm np S).testBit (chN E (nxM rq bf vm np) S) = true := fun S h1 h2 => ch_ok (E := E) hx h1 (next_one (vm := vm) ha hnp hrn (popc_more 8 h2))
  generalize chN E (nxM rq bf vm np) = ch at hok ⊢
  intro i
  induction i with
  | zero => intro _; exact ⟨by show 0 < 256; omega, fun q _ hb => absurd hb (bit0 q), popc_0 8, fun j hj => by omega⟩
  | succ i ih =>
    intro hi
    obtain ⟨h1, h2, h3, h4⟩ := ih (by omega)
    have hb := hok _ h1 (by omega)
    have g1 := hx _ _ hb
    have g2 := nxM_sub hb h2
    refine ⟨or_lt (k := 8) h1 (p2_lt g1.1), g2, ?_, fun j hj => ?_⟩
    · show popc (sq ch i ||| 2 ^ ch (sq ch i)) 8 = i + 1
      rw [popc_or g1.2 8 g1.1, h3]
    · by_cases e : j = i
      · subst e
        exact ⟨g1.2, g2 _ g1.1 ((bit_or _ _ _).mpr (Or.inr ((bit_p2 _ _).mpr rfl)))⟩
      · exact h4 j (by omega)
theorem sq_bit {ch : Nat → Nat} {q : Nat} : ∀ i, (sq ch i).testBit q = true ↔ ∃ j, j < i ∧ ch (sq ch j) = q := by
  intro i
  induction i with
  | zero => exact ⟨fun h => absurd h (bit0 q), fun ⟨j, h, _⟩ => by omega⟩
  | succ i ih =>
    show (sq ch i ||| 2 ^ ch (sq ch i)).testBit q = true ↔ _
    rw [bit_or, bit_p2, ih]
    constructor
    · rintro (⟨j, h1, h2⟩ | h)
      · exact ⟨j, by omega, h2⟩
      · exact ⟨i, by omega, h⟩
    · rintro ⟨j, h1, h2⟩
      by_cases e : j = i
      · subst e
        exact Or.inr h2
      · exact Or.inl ⟨j, by omega, h2⟩
theorem oq_bit {pa : Nat → Nat} {np rq q : Nat} : ∀ k, (oq pa np rq k).testBit q = true ↔ rq.testBit q = true ∨ ∃ j, j < k ∧ fnd (noB pa (oq pa np rq j)) np 0 = q := by
  intro i
  induction i with
  | zero => exact ⟨Or.inl, fun h => h.elim id (fun ⟨j, h, _⟩ => by omega)⟩
  | succ i ih =>
    show (oq pa np rq i ||| 2 ^ fnd (noB pa (oq pa np rq i)) np 0).testBit q = true ↔ _
    rw [bit_or, bit_p2, ih]
    constructor
    · rintro ((h | ⟨j, h1, h2⟩) | h)
      · exact Or.inl h
      · exact Or.inr ⟨j, by omega, h2⟩
      · exact Or.inr ⟨i, by omega, h⟩
    · rintro (h | ⟨j, h1, h2⟩)
      · exact Or.inl (Or.inl h)
      · by_cases e : j = i
        · subst e
          exact Or.inr h2
        · exact Or.inl (Or.inr ⟨j, by omega, h2⟩)
theorem no_two {np come : Nat} {pa an : Nat → Nat} (hnp : np ≤ 8) (hac : AC np pa an) (hrc : ∀ p, p < np → pa p = 0 → come.testBit p = true) (h : popc come 8 < np) : noB pa come (fnd (noB pa come) np 0) = true ∧ fnd (noB pa come) np 0 < np := by
  have hf := popc_full np (by omega)
  obtain ⟨p, p1, p2, p3⟩ := popc_more (S := come) (rq := 2 ^ np - 1) 8 (by omega)
  have h2p : 0 < 2 ^ np := Nat.two_pow_pos np
  have hp := bit_ltn (n := np) (show 2 ^ np - 1 < 2 ^ np by omega) p2
  obtain ⟨q, q1, q2⟩ := no_one hnp hac hrc ⟨p, hp, p3⟩
  exact ⟨(fnd_has (B := noB pa come) np 0 ⟨q, Nat.zero_le _, by omega, q2⟩).1, fnd_lt2 np 0 np (by omega) (by omega)⟩
theorem oq_ok {np rq : Nat} {pa an : Nat → Nat} (hnp : np ≤ 8) (hr : rq < 2 ^ np) (hrb : ∀ p, p < np → (rq.testBit p = true ↔ pa p = 0)) (hac : AC np pa an) : ∀ k, popc rq 8 + k ≤ np → oq pa np rq k < 2 ^ np ∧ popc (oq pa np rq k) 8 = popc rq 8 + k := by
  intro k
  induction k with
  | zero => intro _; exact ⟨hr, rfl⟩
  | succ k ih =>
    intro hk
    obtain ⟨h1, h2⟩ := ih (by omega)
    obtain ⟨g1, g2⟩ := no_two hnp hac (fun p hp h0 => oq_mono ((hrb p hp).mpr h0) k) (show popc (oq pa np rq k) 8 < np by omega)
    refine ⟨or_lt h1 (p2_lt g2), ?_⟩
    show popc (oq pa np rq k ||| 2 ^ fnd (noB pa (oq pa np rq k)) np 0) 8 = _
    rw [popc_or (noB_iff.mp g1).1 8 (by omega), h2]
    omega
theorem OD_po {np rq : Nat} {E bf vm pa an : Nat → Nat} (hnp : np ≤ 8) (hr : rq < 2 ^ np) (hrb : ∀ p, p < np → (rq.testBit p = true ↔ pa p = 0)) (ha : acy rq bf) (hac : AC np pa an) : OD np pa (ordN E (nxM rq bf vm np) pa np rq) := by
  have hsq := sq_ok (E := E) (vm := vm) hnp hr ha
  have hoq := oq_ok hnp hr hrb hac
  have h8 : (2 : Nat) ^ np ≤ 2 ^ 8 := Nat.pow_le_pow_right (by decide) hnp
  have hlo : ∀ i, i < popc rq 8 → ordN E (nxM rq bf vm np) pa np rq i = chN E (nxM rq bf vm np) (sq (chN E (nxM rq bf vm np)) i) := fun i hi => if_pos hi
  have hhi : ∀ k, ordN E (nxM rq bf vm np) pa np rq (popc rq 8 + k) = fnd (noB pa (oq pa np rq k)) np 0 := fun k => by
    unfold ordN
    rw [if_neg (by omega), show popc rq 8 + k - popc rq 8 = k by omega]
  generalize ordN E (nxM rq bf vm np) pa np rq = o at hlo hhi ⊢
  generalize chN E (nxM rq bf vm np) = ch at hsq hlo
  have hend : sq ch (popc rq 8) = rq := Classical.not_not.mp (fun hne => by
    obtain ⟨k1, k2, k3, _⟩ := hsq (popc rq 8) (Nat.le_refl _)
    obtain ⟨p, p1, p2, p3⟩ := sub_more k1 (by omega) k2 hne
    have := popc_lt 8 k2 p1 p2 p3
    omega)
  have clo : ∀ i q, i ≤ popc rq 8 → (cmS o i q ↔ (sq ch i).testBit q = true) := fun i q hi => by
    rw [sq_bit]
    constructor
    · rintro ⟨j, h1, h2⟩
      exact ⟨j, h1, by rw [← hlo j (by omega)]; exact h2⟩
    · rintro ⟨j, h1, h2⟩
      exact ⟨j, h1, by rw [hlo j (by omega)]; exact h2⟩
  have chi : ∀ k q, cmS o (popc rq 8 + k) q ↔ (oq pa np rq k).testBit q = true := fun k q => by
    rw [oq_bit]
    constructor
    · rintro ⟨j, h1, h2⟩
      by_cases hj : j < popc rq 8
      · refine Or.inl ?_
        rw [← hend]
        exact (clo _ q (Nat.le_refl _)).mp ⟨j, hj, h2⟩
      · refine Or.inr ⟨j - popc rq 8, by omega, ?_⟩
        rw [← hhi, show popc rq 8 + (j - popc rq 8) = j by omega]
        exact h2
    · rintro (h | ⟨j, h1, h2⟩)
      · rw [← hend] at h
        obtain ⟨j, h1, h2⟩ := (clo _ q (Nat.le_refl _)).mpr h
        exact ⟨j, by omega, h2⟩
      · exact ⟨popc rq 8 + j, by omega, by rw [hhi]; exact h2⟩
  intro i hi
  by_cases hl : i < popc rq 8
  · obtain ⟨_, _, _, h4⟩ := hsq (i + 1) (by omega)
    obtain ⟨g1, g2⟩ := h4 i (by omega)
    rw [clo i _ (by omega), hlo i hl]
    have hlt := bit_ltn hr g2
    exact ⟨hlt, g1, fun h0 => absurd ((hrb _ hlt).mp g2) h0⟩
  · obtain ⟨k, hk⟩ : ∃ k, i = popc rq 8 + k := ⟨i - popc rq 8, by omega⟩
    subst hk
    obtain ⟨_, h2⟩ := hoq k (by omega)
    obtain ⟨g1, g2⟩ := no_two hnp hac (fun p hp h0 => oq_mono ((hrb p hp).mpr h0) k) (show popc (oq pa np rq k) 8 < np by omega)
    obtain ⟨g3, g4⟩ := noB_iff.mp g1
    rw [chi, chi, hhi]
    exact ⟨g2, g3, fun _ => g4⟩
theorem OD_A {TL : List Nat} {np hm : Nat} {sl : Nat → Nat → Nat} {pa an td bf : Nat → Nat} {ht : Nat → Nat → Prop} (hnp : np ≤ 8) (hw : HW np pa bf hm ht) (hac : AC np pa an) : OD np pa (poA TL np sl pa td bf) :=
  OD_po hnp rqA_lt (fun p hp => rqA_bit.trans ⟨fun h => h.2, fun h => ⟨hp, h⟩⟩) (HW_acy hw (fun p _ => rqA_bit)) hac
noncomputable def runA (TL : List Nat) (np : Nat) (sl : Nat → Nat → Nat) (pa td bf : Nat → Nat) (nf sf : Nat) (fv fk fx : Nat → Nat) : Option (List Nat) := runR TL np sl pa nf fv fk fx (poA TL np sl pa td bf) (pmA TL np sl pa td bf sf nf fv)
theorem q_run {n np nf sf hm : Nat} {TL : List Nat} {sl : Nat → Nat → Nat} {pa an td bf fv fk fx : Nat → Nat} {ht : Nat → Nat → Prop} {Rc Rp Rf cs : Int32} {C F Td Qz0 X0 Qs0 Of Hn o0 j0 A0 Z Lk K X B0 Fd Rw Nx Nf Kp : Nat → Int32} {Qe0 Qr0 e0 : Nat → Int64} (hn : 4000 < n) (hT : QT TL Rc F) (hQ : QQ np sl pa td Rp C Td Of) (hfr : fresh np pa td bf) (hw : HW np pa bf hm ht) (hH : QH ht Hn) (hac : AC np pa an) (hF : QF nf fv fk fx sf Rf Lk K X Z) :
    ok (f_JoinOrderModel_run n Rc Rp Rf cs C F Td Qz0 X0 Qs0 Of Qe0 Qr0 Hn o0 j0 e0 A0 Z Lk B0 Fd Rw Nx Nf X K Kp) (fun r => r.1 = ansR (runA TL np sl pa td bf nf sf fv fk fx) ∧ QL np nf (poA TL np sl pa td bf) (pjA TL np sl pa td bf) (peA TL np sl pa td bf) (pbA TL np sl pa td bf sf fv) (pmA TL np sl pa td bf sf nf fv) r.2.1 r.2.2.1 r.2.2.2.2.2.2.2.2.2.2.2.2.1 r.2.2.2.2.2.2.2.2.2.2.2.2.2.1 r.2.2.2.2.2.2.2.2.2.2.2.2.2.2.2.1 r.2.2.2.2.2.2.2.2.2.2.2.2.2.2.2.2.1 r.2.2.2.2.2.2.2.2.2.2.2.2.2.2.1 ∧ QB (runA TL np sl pa td bf nf sf fv fk fx) r.2.2.2.2.2.1 r.2.2.2.2.2.2.1 r.2.2.2.2.2.2.2.2.2.2.2.2.2.2.2.2.2.2.2.2.2) := by
  have hod := OD_A (TL := TL) (sl := sl) (td := td) hQ.1 hw hac
  have hnp := hQ.1
  have hQ5 := hQ.2.2.2.2
  have hQ3 := hQ.2.2.1
  obtain ⟨t1, _, t3, t4⟩ := hT
  have hnf := hF.1
  rw [f_JoinOrderModel_run_u]
  refine ok_bn13 _ (q_plan (by omega) ⟨t1, by assumption, t3, t4⟩ hQ hfr hw hH hac hF) (fun st st2 ft z1 z2 z3 z4 z5 O J U A B hpl => ?_)
  obtain ⟨p1, p2, p3⟩ := hpl
  simp only at p1 p3
  have eF := hF.2.1
  subst eF
  subst t3
  subst p1
  have hL5 := p3.2.2.2.2.1
  have hL6 := p3.2.2.2.2.2
  refine ok_bn3 _ (q_start (pa := pa) (cm := cmS (poA TL np sl pa td bf) 0) (by omega) (fun q ⟨j, hj, _⟩ => by omega)) (fun rs Fd1 Rw1 hst => ?_)
  obtain ⟨s1, s2⟩ := hst
  simp only at s1 s2
  subst s1
  have hpbl : 0 < np → ∀ f, pbA TL np sl pa td bf sf fv f < np := fun h f => bhN_lt h
  refine ok_bn7 _ (q_run0 (sl := sl) (pa := pa) (po := poA TL np sl pa td bf) (pb := pbA TL np sl pa td bf sf fv) (pm := pmA TL np sl pa td bf sf nf fv) hn hnp t1 hQ3 t4 hQ5 hF hod (fun i hi => (hL5 i hi).1) (fun h0 f hf => ⟨by rw [hL6 f hf, if_neg (by omega)], by have := hpbl h0 f; omega⟩) (fun i hi f hf => (mkS_bit (fun f => pbA TL np sl pa td bf sf fv f = i) f nf).trans ⟨fun h => h.2, fun h => ⟨hf, h⟩⟩) s2) (fun rs2 c2 rm2 Fd2 Rw2 Nx2 Nf2 h2 => ?_)
  simp only at h2
  have fin : ∀ (R : Option (List Nat)) (cm : Nat → Prop) (rs3 : Int32) (Fd3 Rw3 : Nat → Int32), R = runA TL np sl pa td bf nf sf fv fk fx → qTR pa cm R rm2 rs3 Rw3 Fd3 → ok (bn1 (if rm2 = 0 then (some ((0 : Int32))) else (some (rs3))) (fun z_236 => bn1 (f_JoinOrderModel_run_L3 n Rw3 z_236 n Kp (0 : Int32)) (fun R_keep_251 => if rm2 = 0 then (some (((-4 : Int32), st2, ft, rs3, c2, z_236, rm2, z1, z2, z3, z4, z5, O, J, U, A, B, Fd3, Rw3, Nx2, Nf2, R_keep_251))) else (some ((z_236, st2, ft, rs3, c2, z_236, rm2, z1, z2, z3, z4, z5, O, J, U, A, B, Fd3, Rw3, Nx2, Nf2, R_keep_251)))))) (fun r => r.1 = ansR (runA TL np sl pa td bf nf sf fv fk fx) ∧ QL np nf (poA TL np sl pa td bf) (pjA TL np sl pa td bf) (peA TL np sl pa td bf) (pbA TL np sl pa td bf sf fv) (pmA TL np sl pa td bf sf nf fv) r.2.1 r.2.2.1 r.2.2.2.2.2.2.2.2.2.2.2.2.1 r.2.2.2.2.2.2.2.2.2.2.2.2.2.1 r.2.2.2.2.2.2.2.2.2.2.2.2.2.2.2.1 r.2.2.2.2.2.2.2.2.2.2.2.2.2.2.2.2.1 r.2.2.2.2.2.2.2.2.2.2.2.2.2.2.1 ∧ QB (runA TL np sl pa td bf nf sf fv fk fx) r.2.2.2.2.2.1 r.2.2.2.2.2.2.1 r.2.2.2.2.2.2.2.2.2.2.2.2.2.2.2.2.2.2.2.2.2) := fun R cm rs3 Fd3 Rw3 hR h3 => by
    rw [← hR]
    rcases h3 with ⟨g1, g2⟩ | ⟨L, g1, g2, g3, g4, g5⟩
    · subst g1 g2
      refine ok_bn1 (fun z => z = nI 0) (ok_t rfl (ok_s rfl)) (fun z e => ?_)
      subst e
      refine ok_bn1 _ (q_keep hn (by omega)) (fun Y _ => ?_)
      exact ok_t rfl (ok_s ⟨rfl, p3, Or.inl ⟨rfl, rfl, rfl⟩⟩)
    · subst g1 g2 g4
      refine ok_bn1 (fun z => z = nI L.length) (ok_f (by decide) (ok_s rfl)) (fun z e => ?_)
      subst e
      refine ok_bn1 _ (q_keep hn g3) (fun Y hY => ?_)
      refine ok_f (by decide) (ok_s ⟨rfl, p3, Or.inr ⟨L, rfl, g3, rfl, rfl, fun i r hi v hv => ?_⟩⟩)
      have := at_lt_len hi
      exact (hY _ (by omega)).trans ((g5 i r hi).2.1 v hv)
  by_cases h0 : np = 0
  · have eR : rnN TL np sl pa nf fv fk fx (poA TL np sl pa td bf) (pmA TL np sl pa td bf sf nf fv) np = some [0] := by
      rw [h0]
      rfl
    rw [eR] at h2
    rcases h2 with ⟨g1, _⟩ | ⟨L, g1, g2, g3, g4, g5⟩
    · cases g1
    · cases g1
      subst g2
      subst g4
      rw [show nI np = (0 : Int32) from by rw [h0]; rfl]
      refine ok_bn3 _ (q_sifta (set := 2 ^ nf - 1) (by omega) g3 hF all_bits g5) (fun a b d h7 => ?_)
      refine fin (siftR nf fv fk fx (2 ^ nf - 1) (some [0])) _ a b d ?_ (Or.inr ⟨_, rfl, rfl, Nat.le_trans (List.length_filter_le _ _) g3, h7.1, h7.2⟩)
      unfold runA runR
      rw [if_pos h0]
  · refine ok_bn3 (fun o => o = (rs2, Fd2, Rw2)) ?_ (fun a b d h7 => ?_)
    · cases n with
      | zero => omega
      | succ k => exact ok_e (q_siftan k (by omega) (by omega))
    · cases h7
      refine fin _ _ rs2 Fd2 Rw2 ?_ h2
      unfold runA runR
      rw [if_neg h0]
