/-! plain, of the reference -/
noncomputable def qnN (TL : List Nat) (np : Nat) (sl : Nat → Nat → Nat) (pa : Nat → Nat) : Nat → Option (List Nat)
  | 0 => some [0]
  | p + 1 => if pa p = 0 then joinR (sl p) (pa p) p (MN TL np sl p) (qnN TL np sl pa p) else qnN TL np sl pa p
noncomputable def opN (np : Nat) (pa : Nat → Nat) (k : Nat) : Nat := fnd (noB pa (oq pa np (rqA pa np) k)) np 0
noncomputable def onN (TL : List Nat) (np : Nat) (sl : Nat → Nat → Nat) (pa : Nat → Nat) : Nat → Option (List Nat)
  | 0 => qnN TL np sl pa np
  | k + 1 => joinR (sl (opN np pa k)) (pa (opN np pa k)) (opN np pa k) (MN TL np sl (opN np pa k)) (onN TL np sl pa k)
noncomputable def plnA (TL : List Nat) (np : Nat) (sl : Nat → Nat → Nat) (pa : Nat → Nat) (nf : Nat) (fv fk fx : Nat → Nat) : Option (List Nat) := siftR nf fv fk fx (2 ^ nf - 1) (onN TL np sl pa (np - popc (rqA pa np) 8))
theorem qnN_none {TL : List Nat} {np : Nat} {sl : Nat → Nat → Nat} {pa : Nat → Nat} {i : Nat} (h : qnN TL np sl pa i = none) : ∀ k, i ≤ k → qnN TL np sl pa k = none := by
  intro k
  induction k with
  | zero =>
    intro hk
    have e : i = 0 := by omega
    subst e
    exact h
  | succ k ih =>
    intro hk
    by_cases e : i = k + 1
    · exact e ▸ h
    · show (if pa k = 0 then joinR (sl k) (pa k) k (MN TL np sl k) (qnN TL np sl pa k) else qnN TL np sl pa k) = none
      rw [ih (by omega)]
      split <;> rfl
theorem onN_none {TL : List Nat} {np : Nat} {sl : Nat → Nat → Nat} {pa : Nat → Nat} {i : Nat} (h : onN TL np sl pa i = none) : ∀ k, i ≤ k → onN TL np sl pa k = none := by
  intro k
  induction k with
  | zero =>
    intro hk
    have e : i = 0 := by omega
    subst e
    exact h
  | succ k ih =>
    intro hk
    by_cases e : i = k + 1
    · exact e ▸ h
    · show joinR (sl (opN np pa k)) (pa (opN np pa k)) (opN np pa k) (MN TL np sl (opN np pa k)) (onN TL np sl pa k) = none
      rw [ih (by omega)]
      rfl
def cmR (pa : Nat → Nat) (p : Nat) : Nat → Prop := fun q => q < p ∧ pa q = 0
theorem cmR_t {pa : Nat → Nat} {p : Nat} (h : pa p = 0) : cm1 (cmR pa p) p = cmR pa (p + 1) := by
  funext q
  apply propext
  constructor
  · rintro (h1 | h1)
    · exact ⟨by have := h1.1; omega, h1.2⟩
    · subst h1
      exact ⟨by omega, h⟩
  · rintro ⟨h1, h2⟩
    by_cases e : q = p
    · exact Or.inr e
    · exact Or.inl ⟨by omega, h2⟩
theorem cmR_f {pa : Nat → Nat} {p : Nat} (h : pa p ≠ 0) : cmR pa p = cmR pa (p + 1) := by
  funext q
  apply propext
  constructor
  · rintro ⟨h1, h2⟩
    exact ⟨by omega, h2⟩
  · rintro ⟨h1, h2⟩
    have : q ≠ p := fun e => h (e ▸ h2)
    exact ⟨by omega, h2⟩
theorem q_plain0 {n np : Nat} {TL : List Nat} {sl : Nat → Nat → Nat} {pa : Nat → Nat} {cs : Int32} {C F Of Fd Rw Nx Nf : Nat → Int32} (hn : 4000 < n) (hnp : np ≤ 8) (hl : TL.length ≤ 80) (hC : ∀ p, p < np → ceH C p (sl p)) (hFa : QA TL F) (hO : ∀ p, p < np → pa p ≤ np ∧ Of p = nI (pa p) - 1) (h : qTb pa (cmR pa 0) [0] Rw Fd) :
    ok (f_JoinOrderModel_plain_L0 n (nI TL.length) (nI np) Of C F n (1 : Int32) cs Fd Rw Nx Nf (1 : Int32) (0 : Int32)) (fun o => qTR pa (cmR pa np) (qnN TL np sl pa np) o.2.2.2.2.2.2 o.1 o.2.2.2.1 o.2.2.1) := by
  refine lpF (σ := Int32 × Int32 × (Nat → Int32) × (Nat → Int32) × (Nat → Int32) × (Nat → Int32) × Int32) (fun f i s => f_JoinOrderModel_plain_L0 n (nI TL.length) (nI np) Of C F f s.1 s.2.1 s.2.2.1 s.2.2.2.1 s.2.2.2.2.1 s.2.2.2.2.2.1 s.2.2.2.2.2.2 (nI i)) (fun i s => qTR pa (cmR pa i) (qnN TL np sl pa i) s.2.2.2.2.2.2 s.1 s.2.2.2.1 s.2.2.1) np _ ?_ ?_ n 0 (1, cs, Fd, Rw, Nx, Nf, 1) (by omega) (by omega) (Or.inr ⟨[0], rfl, rfl, by decide, rfl, h⟩)
  · intro f s hI
    rw [f_JoinOrderModel_plain_L0_s]
    exact ok_t (nI_le (Nat.le_refl _) (by omega)) (ok_s hI)
  · intro f i s hi hI ih
    obtain ⟨rs, c, Fd2, Rw2, Nx2, Nf2, fl⟩ := s
    simp only at hI
    rw [f_JoinOrderModel_plain_L0_s]
    dsimp only
    refine ok_f (nI_ge hi (by omega)) ?_
    have e0 : qnN TL np sl pa (i + 1) = if pa i = 0 then joinR (sl i) (pa i) i (MN TL np sl i) (qnN TL np sl pa i) else qnN TL np sl pa i := rfl
    rw [e0] at ih
    rcases hI with ⟨h1, h2⟩ | ⟨L, h1, h2, h3, h4, h5⟩
    · subst h2
      exact ok_t rfl (ok_s (Or.inl ⟨qnN_none h1 np (by omega), rfl⟩))
    · subst h2
      subst h4
      refine ok_f (by decide) ?_
      refine ok_bn1 _ (q_isReq hnp hi hO) (fun z hz => ?_)
      refine ok_b _ (tf_0 hz) (fun g => ?_) (fun g => ?_)
      · rw [if_neg g, ← cmR_f g] at ih
        exact ok_nmE (nI_1 i) (ih (nI L.length, c, Fd2, Rw2, Nx2, Nf2, 1) (Or.inr ⟨L, h1, rfl, h3, rfl, h5⟩))
      · have g := Classical.not_not.mp g
        rw [if_pos g, ← cmR_t g, h1, MN_at hi] at ih
        refine ok_bn7 _ (q_go hn hnp hi hl h3 (fun hc => by have := hc.1; omega) (fun h0 => absurd g h0) h5 (hC _ hi) hFa hO) (fun r rs2 c2 Fd3 Rw3 Nx3 Nf3 h6 => ?_)
        simp only at h6
        have h7 := h6
        rcases h6 with ⟨g1, g2⟩ | ⟨L2, g1, g2, g3, g4, g5⟩
        · subst g2
          exact ok_t rfl (ok_nmE (nI_1 i) (ih (rs2, c2, Fd3, Rw3, Nx3, Nf3, 0) h7))
        · subst g2
          exact ok_f (by decide) (ok_nmE (nI_1 i) (ih (rs2, c2, Fd3, Rw3, Nx3, Nf3, 1) h7))
theorem q_pickG {n np come : Nat} {pa : Nat → Nat} {Of : Nat → Int32} (hn : 8 < n) (hnp : np ≤ 8) (hcm : come < 256) (hO : ∀ p, p < np → pa p ≤ np ∧ Of p = nI (pa p) - 1) (ho : ∀ p, p < np → ¬ come.testBit p = true → pa p ≠ 0) :
    ok (f_JoinOrderModel_goOptional_L1 n Of (nI come) n (-1 : Int32) (nI np - 1)) (fun r => (r = -1 ∧ ∀ p, p < np → ¬ noB pa come p = true) ∨ (∃ p, p < np ∧ noB pa come p = true ∧ r = nI p ∧ fnd (noB pa come) np 0 = p)) := by
  suffices key : ok (f_JoinOrderModel_goOptional_L1 n Of (nI come) n (-1 : Int32) (nI (np - 0) - 1)) (fun r => (r = -1 ∧ ∀ p, p < np → ¬ noB pa come p = true) ∨ (∃ p, p < np ∧ noB pa come p = true ∧ r = nI p ∧ fnd (noB pa come) np 0 = p)) by
    exact key
  refine lpF (σ := Int32) (fun f i x => f_JoinOrderModel_goOptional_L1 n Of (nI come) f x (nI (np - i) - 1)) (fun i x => (x = -1 ∧ ∀ p, np - i ≤ p → p < np → ¬ noB pa come p = true) ∨ (∃ p, np - i ≤ p ∧ p < np ∧ x = nI p ∧ noB pa come p = true ∧ ∀ j, np - i ≤ j → j < p → ¬ noB pa come j = true)) np _ ?_ ?_ n 0 (-1 : Int32) (by omega) (by omega) (Or.inl ⟨rfl, fun p h1 h2 => by omega⟩)
  · intro f x hx
    rw [f_JoinOrderModel_goOptional_L1_s, Nat.sub_self]
    rw [Nat.sub_self] at hx
    refine ok_t (by decide) (ok_s ?_)
    rcases hx with ⟨h1, h2⟩ | ⟨p, h1, h2, h3, h4, h5⟩
    · exact Or.inl ⟨h1, fun p hp => h2 p (Nat.zero_le _) hp⟩
    · exact Or.inr ⟨p, h2, h4, h3, fnd_eqN h2 h4 (fun j hj => h5 j (Nat.zero_le _) hj)⟩
  · intro f i x hi hx ih
    obtain ⟨c, hc⟩ : ∃ c, np - i = c + 1 := ⟨np - i - 1, by omega⟩
    have e3 : np - (i + 1) = c := by omega
    rw [hc] at hx ⊢
    rw [e3] at ih
    rw [nI_pred, f_JoinOrderModel_goOptional_L1_s]
    refine ok_f (nI_pos (by omega)) ?_
    have no : ¬ noB pa come c = true → (x = -1 ∧ ∀ p, c ≤ p → p < np → ¬ noB pa come p = true) ∨ (∃ p, c ≤ p ∧ p < np ∧ x = nI p ∧ noB pa come p = true ∧ ∀ j, c ≤ j → j < p → ¬ noB pa come j = true) := fun g => by
      rcases hx with ⟨h1, h2⟩ | ⟨k, h1, h2, h3, h4, h5⟩
      · refine Or.inl ⟨h1, fun k k1 k2 => ?_⟩
        by_cases e : k = c
        · exact e ▸ g
        · exact h2 k (by omega) k2
      · refine Or.inr ⟨k, by omega, h2, h3, h4, fun j j1 j2 => ?_⟩
        by_cases e : j = c
        · exact e ▸ g
        · exact h5 j (by omega) j2
    refine ok_b _ (q_bit0 (by omega) (by omega)) (fun g => ?_) (fun g => ok_nmE (i_m1 _) (ih _ (no (fun h => g (noB_iff.mp h).1))))
    refine ok_gd c rfl (by omega) (by decide) ?_
    obtain ⟨o1, o2⟩ := hO c (by omega)
    have o3 := ho c (by omega) g
    rw [nI_clamp (by omega : c < 2 ^ 31), o2, pa_v o3]
    exact ok_b _ (q_bit (by omega) (by omega)) (fun g2 => ok_nmE (i_m1 _) (ih _ (Or.inr ⟨c, Nat.le_refl c, by omega, rfl, noB_iff.mpr ⟨g, g2⟩, fun j h1 h2 => by omega⟩))) (fun g2 => ok_nmE (i_m1 _) (ih _ (no (fun h => g2 (noB_iff.mp h).2))))
def cmO (np : Nat) (pa : Nat → Nat) (rq k : Nat) : Nat → Prop := fun q => (oq pa np rq k).testBit q = true
theorem cmO_s {np rq k : Nat} {pa : Nat → Nat} : cm1 (cmO np pa rq k) (fnd (noB pa (oq pa np rq k)) np 0) = cmO np pa rq (k + 1) := by
  funext q
  apply propext
  show _ ↔ (oq pa np rq k ||| 2 ^ fnd (noB pa (oq pa np rq k)) np 0).testBit q = true
  rw [bit_or, bit_p2]
  exact ⟨fun h => h.elim Or.inl (fun h => Or.inr h.symm), fun h => h.elim Or.inl (fun h => Or.inr h.symm)⟩
theorem cmR_O {np : Nat} {pa : Nat → Nat} : cmR pa np = cmO np pa (rqA pa np) 0 := by
  funext q
  apply propext
  exact rqA_bit.symm
theorem q_goO {n np : Nat} {TL : List Nat} {sl : Nat → Nat → Nat} {pa an : Nat → Nat} {cs : Int32} {L : List Nat} {C F Of Fd Rw Nx Nf : Nat → Int32} (hn : 4000 < n) (hnp : np ≤ 8) (hl : TL.length ≤ 80) (hC : ∀ p, p < np → ceH C p (sl p)) (hFa : QA TL F) (hO : ∀ p, p < np → pa p ≤ np ∧ Of p = nI (pa p) - 1) (hac : AC np pa an) (hL0 : qnN TL np sl pa np = some L) (hL : L.length ≤ 500) (h : qTb pa (cmR pa np) L Rw Fd) :
    ok (f_JoinOrderModel_goOptional n (nI TL.length) (nI np) (nI L.length) cs Of Fd Rw Nx C F Nf) (fun o => qTR pa (cmO np pa (rqA pa np) (np - popc (rqA pa np) 8)) (onN TL np sl pa (np - popc (rqA pa np) 8)) o.1 o.2.1 o.2.2.2.2.1 o.2.2.2.1) := by
  have hr := rqA_lt (pa := pa) (np := np)
  have hrb : ∀ p, p < np → ((rqA pa np).testBit p = true ↔ pa p = 0) := fun p hp => rqA_bit.trans ⟨fun h => h.2, fun h => ⟨hp, h⟩⟩
  have h8 : (2 : Nat) ^ np ≤ 2 ^ 8 := Nat.pow_le_pow_right (by decide) hnp
  have hoq := oq_ok hnp hr hrb hac
  have hfr := popc_np hnp hr
  have hreq : f_JoinOrderModel_allRequired n (nI np) Of = some (nI (rqA pa np)) := by
    apply ok_eq
    exact ok_w (q_allReq (by omega) hnp hO) (fun r h => isS_mk h hnp)
  rw [f_JoinOrderModel_goOptional_u]
  refine ok_bn1 _ (ok_e hreq) (fun r e => ?_)
  subst e
  rw [cmR_O] at h
  generalize hDg : np - popc (rqA pa np) 8 = D
  have hs0 : ∀ k, onN TL np sl pa (k + 1) = joinR (sl (opN np pa k)) (pa (opN np pa k)) (opN np pa k) (MN TL np sl (opN np pa k)) (onN TL np sl pa k) := fun k => rfl
  have hop : ∀ k, opN np pa k = fnd (noB pa (oq pa np (rqA pa np) k)) np 0 := fun k => rfl
  refine ok_bn7 (fun o => qTR pa (cmO np pa (rqA pa np) D) (onN TL np sl pa D) o.2.2.2.2.2.2 o.1 o.2.2.2.1 o.2.2.1) ?_ (fun a b c d e f g hh => ok_gb ?_ (ok_s hh))
  · refine lpF (σ := Int32 × Int32 × (Nat → Int32) × (Nat → Int32) × (Nat → Int32) × (Nat → Int32) × Int32 × Int32 × Int32) (fun f i s => f_JoinOrderModel_goOptional_L0 n (nI TL.length) (nI np) Of C F f s.1 s.2.1 s.2.2.1 s.2.2.2.1 s.2.2.2.2.1 s.2.2.2.2.2.1 s.2.2.2.2.2.2.1 s.2.2.2.2.2.2.2.1 s.2.2.2.2.2.2.2.2) (fun i s => (i ≤ D → s.2.2.2.2.2.2.1 = nI (oq pa np (rqA pa np) i) ∧ s.2.2.2.2.2.2.2.1 ≠ -1 ∧ qTR pa (cmO np pa (rqA pa np) i) (onN TL np sl pa i) s.2.2.2.2.2.2.2.2 s.1 s.2.2.2.1 s.2.2.1) ∧ (D < i → s.2.2.2.2.2.2.2.1 = -1 ∧ qTR pa (cmO np pa (rqA pa np) D) (onN TL np sl pa D) s.2.2.2.2.2.2.2.2 s.1 s.2.2.2.1 s.2.2.1)) (D + 1) _ ?_ ?_ n 0 (nI L.length, cs, Fd, Rw, Nx, Nf, nI (rqA pa np), 0, 1) (by omega) (by omega) ⟨fun _ => ⟨rfl, show (0 : Int32) ≠ -1 by decide, Or.inr ⟨L, hL0, rfl, hL, rfl, h⟩⟩, fun h => by omega⟩
    · intro f s hI
      obtain ⟨e1, e2⟩ := hI.2 (by omega)
      rw [f_JoinOrderModel_goOptional_L0_s, e1]
      exact ok_t rfl (ok_s e2)
    · intro f i s hi hI ih
      obtain ⟨rs, c, Fd2, Rw2, Nx2, Nf2, cm, x2, x3⟩ := s
      obtain ⟨a1, a2, a3⟩ := hI.1 (by omega)
      simp only at a1 a2 a3
      subst a1
      rw [f_JoinOrderModel_goOptional_L0_s]
      dsimp only
      refine ok_f a2 ?_
      rcases a3 with ⟨h1, h2⟩ | ⟨L2, h1, h2, h3, h4, h5⟩
      · subst h2
        exact ok_t rfl (ok_s (Or.inl ⟨onN_none h1 D (by omega), rfl⟩))
      · subst h2
        subst h4
        refine ok_f (by decide) (ok_nm ?_)
        obtain ⟨q1, q2⟩ := hoq i (by omega)
        have hin : ∀ p, p < np → pa p = 0 → (oq pa np (rqA pa np) i).testBit p = true := fun p hp h0 => oq_mono ((hrb p hp).mpr h0) _
        refine ok_bn1 _ (q_pickG (by omega) hnp (by omega) hO (fun p hp hb h0 => hb (hin p hp h0))) (fun r hr2 => ?_)
        rcases hr2 with ⟨g1, g2⟩ | ⟨p, g1, g2, g3, g4⟩
        · subst g1
          refine ok_t rfl ?_
          have hiD : i = D := Classical.not_not.mp (fun hne => by
            obtain ⟨w1, w2⟩ := no_two hnp hac hin (by omega)
            exact g2 _ w2 w1)
          subst hiD
          exact ih (nI L2.length, c, Fd2, Rw2, Nx2, Nf2, nI (oq pa np (rqA pa np) i), -1, 1) ⟨fun h => by omega, fun _ => ⟨rfl, Or.inr ⟨L2, h1, rfl, h3, rfl, h5⟩⟩⟩
        · subst g3
          obtain ⟨w1, w2⟩ := noB_iff.mp g2
          have hlt : oq pa np (rqA pa np) i ||| 2 ^ p < 2 ^ np := or_lt q1 (p2_lt g1)
          have hpo := popc_or w1 8 (show p < 8 by omega)
          have hpn := popc_np hnp hlt
          have hiD : i < D := by omega
          refine ok_f (fun e => by
            have h5 := nI_pos (n := p) (by omega)
            rw [e] at h5
            exact absurd (by decide) h5) ?_
          refine ok_bn7 _ (q_go hn hnp g1 hl h3 w1 (fun _ => w2) h5 (hC _ g1) hFa hO) (fun r rs2 c2 Fd3 Rw3 Nx3 Nf3 h6 => ?_)
          simp only at h6
          have e1 : oq pa np (rqA pa np) (i + 1) = oq pa np (rqA pa np) i ||| 2 ^ p := by
            show oq pa np (rqA pa np) i ||| 2 ^ fnd (noB pa (oq pa np (rqA pa np) i)) np 0 = _
            rw [g4]
          have e2 : cm1 (cmO np pa (rqA pa np) i) p = cmO np pa (rqA pa np) (i + 1) := by
            rw [← g4]
            exact cmO_s
          have e3 : onN TL np sl pa (i + 1) = joinR (sl p) (pa p) p (TL.filter (fitB (sl p))) (some L2) := by
            rw [hs0, hop, g4, h1, MN_at g1]
          have h6 : qTR pa (cmO np pa (rqA pa np) (i + 1)) (onN TL np sl pa (i + 1)) r rs2 Rw3 Fd3 := by
            rw [e3, ← e2]
            exact h6
          rw [m_sh (by omega), m_or]
          refine ok_nm (ih (rs2, c2, Fd3, Rw3, Nx3, Nf3, nI (oq pa np (rqA pa np) i ||| 2 ^ p), nI p, r) ⟨fun _ => ⟨by rw [e1], fun e => ?_, h6⟩, fun h => by omega⟩)
          have h5 := nI_pos (n := p) (by omega)
          have e : nI p = -1 := e
          rw [e] at h5
          exact absurd (by decide) h5
  · simp only at hh
    rcases hh with ⟨_, g2⟩ | ⟨_, _, g2, _⟩
    · exact Or.inl g2
    · exact Or.inr g2
theorem q_plain {n np nf sf : Nat} {TL : List Nat} {sl : Nat → Nat → Nat} {pa an td fv fk fx : Nat → Nat} {Rc Rp Rf cs : Int32} {C F Td Of Lk K X Z Fd Rw Nx Nf : Nat → Int32} (hn : 4000 < n) (hT : QT TL Rc F) (hQ : QQ np sl pa td Rp C Td Of) (hac : AC np pa an) (hF : QF nf fv fk fx sf Rf Lk K X Z) :
    ok (f_JoinOrderModel_plain n Rc Rp Rf cs Fd Rw Of Nx C F Nf Lk X K) (fun o => o.1 = ansR (plnA TL np sl pa nf fv fk fx) ∧ ∀ L, plnA TL np sl pa nf fv fk fx = some L → L.length ≤ 500 ∧ (∀ r, r ∈ L → okR r) ∧ qR o.2.2.2.2.1 L) := by
  obtain ⟨t1, _, t3, t4⟩ := hT
  obtain ⟨hnp, q2, q3, q4, q5⟩ := hQ
  have f2 := hF.2.1
  subst t3
  subst q2
  subst f2
  rw [f_JoinOrderModel_plain_u]
  refine ok_bn3 _ (q_start (pa := pa) (cm := cmR pa 0) (by omega) (fun q hq => by have := hq.1; omega)) (fun rs Fd1 Rw1 hst => ?_)
  obtain ⟨s1, s2⟩ := hst
  simp only at s1 s2
  subst s1
  refine ok_bn7 _ (q_plain0 (sl := sl) hn hnp t1 q3 t4 q5 s2) (fun rs2 c2 Fd2 Rw2 Nx2 Nf2 fl h2 => ?_)
  simp only at h2
  have bad : plnA TL np sl pa nf fv fk fx = none → ∀ (a b : Int32) (c d e f : Nat → Int32), ok (bn3 (f_JoinOrderModel_plain_L1 n (nI nf) Lk X K n a c d (0 : Int32)) (fun R_rows_154 R_found_155 R_row_156 => if (0 : Int32) = 0 then (some (((-4 : Int32), R_rows_154, b, R_found_155, R_row_156, e, f))) else (some ((R_rows_154, R_rows_154, b, R_found_155, R_row_156, e, f))))) (fun o => o.1 = ansR (plnA TL np sl pa nf fv fk fx) ∧ ∀ L, plnA TL np sl pa nf fv fk fx = some L → L.length ≤ 500 ∧ (∀ r, r ∈ L → okR r) ∧ qR o.2.2.2.2.1 L) := fun hno a b c d e f => by
    rw [hno]
    refine ok_bn3 (fun _ => True) ?_ (fun u v w _ => ok_t rfl (ok_s ⟨rfl, fun L hL => by cases hL⟩))
    cases n with
    | zero => omega
    | succ k =>
      rw [f_JoinOrderModel_plain_L1_s]
      exact ok_if (fun _ => ok_s trivial) (fun _ => ok_t rfl (ok_s trivial))
  refine ok_bd6 (fun _ => plnA TL np sl pa nf fv fk fx = none) ?_ (fun a b c d e f hno => bad hno a b c d e f)
  rcases h2 with ⟨g1, g2⟩ | ⟨L, g1, g2, g3, g4, g5⟩
  · subst g2
    refine ok_t rfl (ok_s ?_)
    show plnA TL np sl pa nf fv fk fx = none
    unfold plnA
    rw [onN_none (i := 0) g1 _ (Nat.zero_le _)]
    rfl
  · subst g2
    subst g4
    refine ok_f (by decide) ?_
    refine ok_bn7 _ (q_goO hn hnp t1 q3 t4 q5 hac g1 g3 g5) (fun r rs3 c3 Fd3 Rw3 Nx3 Nf3 h3 => ?_)
    simp only at h3
    rcases h3 with ⟨k1, k2⟩ | ⟨L2, k1, k2, k3, k4, k5⟩
    · subst k2
      refine ok_t rfl (ok_s ?_)
      show plnA TL np sl pa nf fv fk fx = none
      unfold plnA
      rw [k1]
      rfl
    · subst k2
      subst k4
      refine ok_f (by decide) ?_
      refine ok_bn3 _ (q_siftb (set := 2 ^ nf - 1) (by omega) k3 hF all_bits k5) (fun a b d h7 => ?_)
      obtain ⟨h7, h8⟩ := h7
      simp only at h7 h8
      have ep : plnA TL np sl pa nf fv fk fx = some (L2.filter (allB nf fv fk fx (2 ^ nf - 1))) := by
        unfold plnA
        rw [k1]
        rfl
      refine ok_f (by decide) (ok_s ?_)
      show a = _ ∧ _
      rw [ep]
      refine ⟨h7, fun L3 e3 => ?_⟩
      cases e3
      refine ⟨Nat.le_trans (List.length_filter_le _ _) k3, fun r hr => ?_, fun i r hi v hv => (h8 i r hi).2.1 v hv⟩
      obtain ⟨i, hi⟩ := List.mem_iff_getElem?.mp hr
      exact (h8 i r hi).1
