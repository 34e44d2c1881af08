/-! putOptional, of the reference -/
theorem noB_iff {pa : Nat → Nat} {come p : Nat} : noB pa come p = true ↔ ¬ come.testBit p = true ∧ come.testBit (pa p - 1) = true := by
  unfold noB
  rw [Bool.and_eq_true, Bool.not_eq_true']
  exact ⟨fun h => ⟨by rw [h.1]; decide, h.2⟩, fun h => ⟨Bool.not_eq_true _ |>.mp h.1, h.2⟩⟩
theorem popc_full : ∀ k, k < 9 → popc (2 ^ k - 1) 8 = k := by decide
theorem no_one {np come : Nat} {pa an : Nat → Nat} (hnp : np ≤ 8) (hac : AC np pa an) (hrc : ∀ p, p < np → pa p = 0 → come.testBit p = true) (h : ∃ p, p < np ∧ ¬ come.testBit p = true) : ∃ p, p < np ∧ noB pa come p = true := by
  suffices key : ∀ d p, popc (an p) 8 ≤ d → p < np → ¬ come.testBit p = true → ∃ p, p < np ∧ noB pa come p = true by
    obtain ⟨p, hp, hb⟩ := h
    exact key _ p (Nat.le_refl _) hp hb
  intro d
  induction d with
  | zero =>
    intro p h1 hp _
    have := popc_pos (m := an p) (i := p) 8 (by omega) (hac p hp).2.1
    omega
  | succ d ih =>
    intro p h1 hp hb
    have h0 : pa p ≠ 0 := fun e => hb (hrc p hp e)
    have hq := ((hac p hp).2.2.2.1 h0).1
    by_cases hc : come.testBit (pa p - 1) = true
    · refine ⟨p, hp, ?_⟩
      unfold noB
      rw [Bool.not_eq_true _ |>.mp hb, hc]
      rfl
    · have := an_popc hnp hac hp h0
      exact ih (pa p - 1) (by omega) (by omega) hc
theorem q_pickO {n np come : Nat} {pa : Nat → Nat} {Of : Nat → Int32} (hn : 8 < n) (hnp : np ≤ 8) (hcm : come < 256) (hO : ∀ p, p < np → pa p ≤ np ∧ Of p = nI (pa p) - 1) (ho : ∀ p, p < np → ¬ come.testBit p = true → pa p ≠ 0) :
    ok (f_JoinOrderModel_putOptional_L1 n Of (nI come) n (-1 : Int32) (nI np - 1)) (fun r => (r = -1 ∧ ∀ p, p < np → ¬ noB pa come p = true) ∨ (∃ p, p < np ∧ noB pa come p = true ∧ r = nI p ∧ fnd (noB pa come) np 0 = p)) := by
  suffices key : ok (f_JoinOrderModel_putOptional_L1 n Of (nI come) n (-1 : Int32) (nI (np - 0) - 1)) (fun r => (r = -1 ∧ ∀ p, p < np → ¬ noB pa come p = true) ∨ (∃ p, p < np ∧ noB pa come p = true ∧ r = nI p ∧ fnd (noB pa come) np 0 = p)) by
    exact key
  refine lpF (σ := Int32) (fun f i x => f_JoinOrderModel_putOptional_L1 n Of (nI come) f x (nI (np - i) - 1)) (fun i x => (x = -1 ∧ ∀ p, np - i ≤ p → p < np → ¬ noB pa come p = true) ∨ (∃ p, np - i ≤ p ∧ p < np ∧ x = nI p ∧ noB pa come p = true ∧ ∀ j, np - i ≤ j → j < p → ¬ noB pa come j = true)) np _ ?_ ?_ n 0 (-1 : Int32) (by omega) (by omega) (Or.inl ⟨rfl, fun p h1 h2 => by omega⟩)
  · intro f x hx
    rw [f_JoinOrderModel_putOptional_L1_s, Nat.sub_self]
    rw [Nat.sub_self] at hx
    refine ok_t (by decide) (ok_s ?_)
    rcases hx with ⟨h1, h2⟩ | ⟨p, h1, h2, h3, h4, h5⟩
    · exact Or.inl ⟨h1, fun p hp => h2 p (Nat.zero_le _) hp⟩
    · exact Or.inr ⟨p, h2, h4, h3, fnd_eqN h2 h4 (fun j hj => h5 j (Nat.zero_le _) hj)⟩
  · intro f i x hi hx ih
    obtain ⟨c, hc⟩ : ∃ c, np - i = c + 1 := ⟨np - i - 1, by omega⟩
    have e3 : np - (i + 1) = c := by omega
    rw [hc] at hx ⊢
    rw [e3] at ih
    rw [nI_pred, f_JoinOrderModel_putOptional_L1_s]
    refine ok_f (nI_pos (by omega)) ?_
    have no : ¬ noB pa come c = true → (x = -1 ∧ ∀ p, c ≤ p → p < np → ¬ noB pa come p = true) ∨ (∃ p, c ≤ p ∧ p < np ∧ x = nI p ∧ noB pa come p = true ∧ ∀ j, c ≤ j → j < p → ¬ noB pa come j = true) := fun g => by
      rcases hx with ⟨h1, h2⟩ | ⟨k, h1, h2, h3, h4, h5⟩
      · refine Or.inl ⟨h1, fun k k1 k2 => ?_⟩
        by_cases e : k = c
        · exact e ▸ g
        · exact h2 k (by omega) k2
      · refine Or.inr ⟨k, by omega, h2, h3, h4, fun j j1 j2 => ?_⟩
        by_cases e : j = c
        · exact e ▸ g
        · exact h5 j (by omega) j2
    refine ok_b _ (q_bit0 (by omega) (by omega)) (fun g => ?_) (fun g => ok_nmE (i_m1 _) (ih _ (no (fun h => g (noB_iff.mp h).1))))
    refine ok_gd c rfl (by omega) (by decide) ?_
    obtain ⟨o1, o2⟩ := hO c (by omega)
    have o3 := ho c (by omega) g
    rw [nI_clamp (by omega : c < 2 ^ 31), o2, pa_v o3]
    refine ok_b _ (q_bit (by omega) (by omega)) (fun g2 => ok_nmE (i_m1 _) (ih _ (Or.inr ⟨c, Nat.le_refl c, by omega, rfl, ?_, fun j h1 h2 => by omega⟩))) (fun g2 => ok_nmE (i_m1 _) (ih _ (no (fun h => g2 (Bool.and_eq_true _ _ |>.mp h).2))))
    unfold noB
    rw [Bool.not_eq_true _ |>.mp g, g2]
    rfl
theorem q_putO {n np rq : Nat} {pa an : Nat → Nat} {E : Nat → Nat} {Of o0 j0 : Nat → Int32} {Qe e0 : Nat → Int64} (hn : 10 < n) (hnp : np ≤ 8) (hr : rq < 2 ^ np) (hrb : ∀ p, p < np → (rq.testBit p = true ↔ pa p = 0)) (hac : AC np pa an) (hO : ∀ p, p < np → pa p ≤ np ∧ Of p = nI (pa p) - 1) (hrq : f_JoinOrderModel_allRequired n (nI np) Of = some (nI rq)) (he : Qe rq = lN (E rq)) :
    ok (f_JoinOrderModel_putOptional n (nI np) (nI (popc rq 8)) Of o0 j0 Qe e0) (fun o => o.1 = nI np ∧ ∀ j, j < np → (j < popc rq 8 → o.2.1 j = o0 j ∧ o.2.2.1 j = j0 j ∧ o.2.2.2 j = e0 j) ∧ (popc rq 8 ≤ j → o.2.1 j = nI (fnd (noB pa (oq pa np rq (j - popc rq 8))) np 0) ∧ o.2.2.1 j = nI 4 ∧ o.2.2.2 j = lN (E rq))) := by
  have h8 : (2 : Nat) ^ np ≤ 2 ^ 8 := Nat.pow_le_pow_right (by decide) hnp
  have hfr := popc_np hnp hr
  rw [f_JoinOrderModel_putOptional_u]
  refine ok_bn1 _ (ok_e hrq) (fun r e => ?_)
  subst e
  generalize hfg : popc rq 8 = fr at *
  refine ok_bn4 (fun o => o.1 = nI np ∧ ∀ j, j < np → (j < fr → o.2.1 j = o0 j ∧ o.2.2.1 j = j0 j ∧ o.2.2.2 j = e0 j) ∧ (fr ≤ j → o.2.1 j = nI (fnd (noB pa (oq pa np rq (j - fr))) np 0) ∧ o.2.2.1 j = nI 4 ∧ o.2.2.2 j = lN (E rq))) ?_ (fun a b c d hh => ok_s hh)
  refine lpF (σ := Int32 × (Nat → Int32) × (Nat → Int32) × (Nat → Int64) × Int32 × Int32) (fun f i s => f_JoinOrderModel_putOptional_L0 n (nI np) Of Qe f s.1 s.2.1 s.2.2.1 s.2.2.2.1 s.2.2.2.2.1 s.2.2.2.2.2) (fun i s => (i ≤ np → s.1 = nI i ∧ s.2.2.2.2.2 ≠ -1 ∧ fr ≤ i ∧ s.2.2.2.2.1 = nI (oq pa np rq (i - fr)) ∧ oq pa np rq (i - fr) < 2 ^ np ∧ popc (oq pa np rq (i - fr)) 8 = i) ∧ (np < i → s.1 = nI np ∧ s.2.2.2.2.2 = -1) ∧ ∀ j, j < i → j < np → (j < fr → s.2.1 j = o0 j ∧ s.2.2.1 j = j0 j ∧ s.2.2.2.1 j = e0 j) ∧ (fr ≤ j → s.2.1 j = nI (fnd (noB pa (oq pa np rq (j - fr))) np 0) ∧ s.2.2.1 j = nI 4 ∧ s.2.2.2.1 j = lN (E rq))) (np + 1) _ ?_ ?_ n fr (nI fr, o0, j0, e0, nI rq, 0) (by omega) (by omega) ⟨fun _ => ⟨rfl, show (0 : Int32) ≠ -1 by decide, Nat.le_refl _, by rw [Nat.sub_self]; rfl, by rw [Nat.sub_self]; exact hr, by rw [Nat.sub_self]; exact hfg⟩, fun h => by omega, fun j h1 h2 => ⟨fun _ => ⟨rfl, rfl, rfl⟩, fun h3 => by omega⟩⟩
  · intro f s hI
    obtain ⟨_, k2, k3⟩ := hI
    obtain ⟨e1, e2⟩ := k2 (by omega)
    rw [f_JoinOrderModel_putOptional_L0_s, e2]
    exact ok_t rfl (ok_s ⟨e1, fun j hj => k3 j (by omega) hj⟩)
  · intro f i s hi hI ih
    obtain ⟨st, X, Y, Z, cm, x2⟩ := s
    obtain ⟨k1, _, k3⟩ := hI
    obtain ⟨a1, a2, a3, a4, a5, a6⟩ := k1 (by omega)
    simp only at a1 a2 a4 k3
    subst a1
    subst a4
    rw [f_JoinOrderModel_putOptional_L0_s]
    dsimp only
    refine ok_f a2 (ok_nm ?_)
    have hin : ∀ p, p < np → pa p = 0 → (oq pa np rq (i - fr)).testBit p = true := fun p hp h0 => oq_mono ((hrb p hp).mpr h0) _
    refine ok_bn1 _ (q_pickO (by omega) hnp (by omega) hO (fun p hp hb h0 => hb (hin p hp h0))) (fun r hr2 => ?_)
    rcases hr2 with ⟨h1, h2⟩ | ⟨p, h1, h2, h3, h4⟩
    · subst h1
      refine ok_t rfl ?_
      have hinp : i = np := Classical.not_not.mp (fun hne => by
        have hf := popc_full np (by omega)
        obtain ⟨p, p1, p2, p3⟩ := popc_more (S := oq pa np rq (i - fr)) (rq := 2 ^ np - 1) 8 (by omega)
        have h2p : 0 < 2 ^ np := Nat.two_pow_pos np
        have hp := bit_ltn (n := np) (show 2 ^ np - 1 < 2 ^ np by omega) p2
        obtain ⟨q, q1, q2⟩ := no_one hnp hac hin ⟨p, hp, p3⟩
        exact h2 q q1 q2)
      subst hinp
      exact ih (nI i, X, Y, Z, nI (oq pa i rq (i - fr)), -1) ⟨fun h => by omega, fun _ => ⟨rfl, rfl⟩, fun j _ hj => k3 j hj hj⟩
    · subst h3
      have hpb : ¬ (oq pa np rq (i - fr)).testBit p = true := (noB_iff.mp h2).1
      have hlt : oq pa np rq (i - fr) ||| 2 ^ p < 2 ^ np := or_lt a5 (p2_lt h1)
      have hpo := popc_or hpb 8 (show p < 8 by omega)
      have hpn := popc_np hnp hlt
      have hi2 : i < np := by omega
      refine ok_f (fun e => by
        have h5 := nI_pos (n := p) (by omega)
        rw [e] at h5
        exact absurd (by decide) h5) ?_
      refine ok_gd i rfl (by omega) (by decide) ?_
      rw [nI_clamp (by omega : i < 2 ^ 31)]
      refine ok_nm (ok_nm ?_)
      refine ok_bn1 _ (ok_e hrq) (fun r e => ?_)
      subst e
      refine ok_gd rq rfl (by omega) (by decide) ?_
      rw [nI_clamp (by omega : rq < 2 ^ 31), he, m_sh (by omega), m_or]
      have e1 : oq pa np rq (i + 1 - fr) = oq pa np rq (i - fr) ||| 2 ^ p := by
        rw [show i + 1 - fr = (i - fr) + 1 by omega]
        show oq pa np rq (i - fr) ||| 2 ^ fnd (noB pa (oq pa np rq (i - fr))) np 0 = _
        rw [h4]
      refine ok_nm (ok_nm (ok_nm (ok_nmE (nI_1 i) (ih (nI (i + 1), upd X i (nI p), upd Y i 4, vp_updL Z i (lN (E rq)), nI (oq pa np rq (i - fr) ||| 2 ^ p), nI p) ⟨fun _ => ⟨rfl, fun e => ?_, by omega, by rw [e1], by rw [e1]; exact hlt, by rw [e1, hpo, a6]⟩, fun h => by omega, fun j hj hjn => ⟨fun h => ?_, fun h => ?_⟩⟩))))
      · have h5 := nI_pos (n := p) (by omega)
        have e : nI p = -1 := e
        rw [e] at h5
        exact absurd (by decide) h5
      · simp only
        rw [pk_un (by omega), pk_un (by omega), pk_uLn (by omega)]
        exact (k3 j (by omega) hjn).1 h
      · simp only
        by_cases e : j = i
        · subst e
          rw [pk_us, pk_us, pk_uLs, h4]
          exact ⟨rfl, rfl, rfl⟩
        · rw [pk_un e, pk_un e, pk_uLn e]
          exact (k3 j (by omega) hjn).2 h
