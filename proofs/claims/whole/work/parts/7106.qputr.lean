/-! putRequired, of the reference -/
theorem fnd_eqN {B : Nat → Bool} {p N : Nat} (hp : p < N) (hB : B p = true) (h : ∀ j, j < p → ¬ B j = true) : fnd B N 0 = p := by
  obtain ⟨g1, _, g3⟩ := fnd_has (B := B) N 0 ⟨p, by omega, by omega, hB⟩
  rcases Nat.lt_trichotomy (fnd B N 0) p with x | x | x
  · exact absurd g1 (h _ x)
  · exact x
  · exact absurd hB (g3 p (by omega) x)
theorem ch_ex {E nx : Nat → Nat} (hx : nxO nx) {S : Nat} (hS : S < 256) (hne : ∃ p, p < 8 ∧ (nx S).testBit p = true) : ∃ p, p < 8 ∧ chB E (cA E nx) (nx S) S p = true := by
  obtain ⟨p, h1, h2, h3⟩ := mnO_met (g := fun p => E (S ||| 2 ^ p) + cA E nx (S ||| 2 ^ p)) 8 hne
  have h4 : cA E nx S = E (S ||| 2 ^ p) + cA E nx (S ||| 2 ^ p) := by
    rw [cA_eq hx hS, h3]
    rfl
  refine ⟨p, h1, ?_⟩
  unfold chB
  rw [h2, decide_eq_true h4.symm]
  rfl
theorem q_pick {n np S m W : Nat} {E C : Nat → Nat} {Qr Qe : Nat → Int64} (hn : 8 < n) (hnp : np ≤ 8) (hS : S < 256) (hm : m < 256) (hmn : ∀ p, m.testBit p = true → p < np) (hW : W < 2 ^ 62) (hCS : C S ≤ W) (hrS : Qr S = lN (C S)) (hg : ∀ p, p < np → m.testBit p = true → E (S ||| 2 ^ p) + C (S ||| 2 ^ p) ≤ W ∧ Qe (S ||| 2 ^ p) = lN (E (S ||| 2 ^ p)) ∧ Qr (S ||| 2 ^ p) = lN (C (S ||| 2 ^ p))) (hex : ∃ p, p < 8 ∧ chB E C m S p = true) :
    f_JoinOrderModel_putRequired_L1 n Qr Qe (nI S) (nI m) n (-1 : Int32) (nI np - 1) = some (nI (fnd (chB E C m S) 8 0)) := by
  apply ok_eq
  suffices key : ok (f_JoinOrderModel_putRequired_L1 n Qr Qe (nI S) (nI m) n (-1 : Int32) (nI (np - 0) - 1)) (fun y => y = nI (fnd (chB E C m S) 8 0)) by
    exact key
  refine lpF (σ := Int32) (fun f i x => f_JoinOrderModel_putRequired_L1 n Qr Qe (nI S) (nI m) f x (nI (np - i) - 1)) (fun i x => (x = -1 ∧ ∀ p, np - i ≤ p → p < np → ¬ chB E C m S p = true) ∨ (∃ p, np - i ≤ p ∧ p < np ∧ x = nI p ∧ chB E C m S p = true ∧ ∀ j, np - i ≤ j → j < p → ¬ chB E C m S j = true)) np _ ?_ ?_ n 0 (-1 : Int32) (by omega) (by omega) (Or.inl ⟨rfl, fun p h1 h2 => by omega⟩)
  · intro f x hx
    rw [f_JoinOrderModel_putRequired_L1_s, Nat.sub_self]
    rw [Nat.sub_self] at hx
    refine ok_t (by decide) (ok_s ?_)
    rcases hx with ⟨h1, h2⟩ | ⟨p, h1, h2, h3, h4, h5⟩
    · obtain ⟨p, p1, p2⟩ := hex
      have hpn := hmn p (Bool.and_eq_true _ _ |>.mp p2).1
      exact absurd p2 (h2 p (Nat.zero_le _) hpn)
    · rw [h3, fnd_eqN (N := 8) (by omega) h4 (fun j hj => h5 j (Nat.zero_le _) hj)]
  · intro f i x hi hx ih
    obtain ⟨c, hc⟩ : ∃ c, np - i = c + 1 := ⟨np - i - 1, by omega⟩
    have e3 : np - (i + 1) = c := by omega
    rw [hc] at hx ⊢
    rw [e3] at ih
    rw [nI_pred, f_JoinOrderModel_putRequired_L1_s]
    refine ok_f (nI_pos (by omega)) ?_
    refine ok_bn1 (fun z => tf z (chB E C m S c = true)) ?_ (fun z hz => ?_)
    · refine ok_b _ (q_bit (by omega) (by omega)) (fun g => ?_) (fun g => ok_s (tf_f (fun h => g (Bool.and_eq_true _ _ |>.mp h).1)))
      obtain ⟨p2, p3, p4⟩ := hg c (by omega) g
      have h5 : S ||| 2 ^ c < 256 := or_lt (k := 8) hS (p2_lt (by omega))
      rw [m_sh (by omega), m_or]
      refine ok_gd _ rfl h5 (by decide) ?_
      rw [nI_clamp (by omega : S ||| 2 ^ c < 2 ^ 31), p4, p3]
      refine ok_f (fun h => by have := (pk_lLT (a := C (S ||| 2 ^ c)) (b := 0) (by omega) (by omega)).mp ((lg_cmp_lt _ _).mp h); omega) ?_
      refine ok_gd S rfl hS (by decide) ?_
      rw [nI_clamp (by omega : S < 2 ^ 31), hrS, lN_add]
      refine ok_b (E (S ||| 2 ^ c) + C (S ||| 2 ^ c) = C S) ((lg_cmp_eq _ _).trans (pk_lEQ (by omega) (by omega))) (fun g2 => ok_s (tf_t ?_)) (fun g2 => ok_s (tf_f (fun h => g2 (of_decide_eq_true (Bool.and_eq_true _ _ |>.mp h).2))))
      unfold chB
      rw [g, decide_eq_true g2]
      rfl
    · refine ok_b _ (tf_0 hz) (fun g => ok_nmE (i_m1 _) (ih _ ?_)) (fun g => ok_nmE (i_m1 _) (ih _ ?_))
      · rcases hx with ⟨h1, h2⟩ | ⟨k, h1, h2, h3, h4, h5⟩
        · refine Or.inl ⟨h1, fun k k1 k2 => ?_⟩
          by_cases e : k = c
          · exact e ▸ g
          · exact h2 k (by omega) k2
        · refine Or.inr ⟨k, by omega, h2, h3, h4, fun j j1 j2 => ?_⟩
          by_cases e : j = c
          · exact e ▸ g
          · exact h5 j (by omega) j2
      · exact Or.inr ⟨c, Nat.le_refl c, by omega, rfl, Classical.not_not.mp g, fun j h1 h2 => by omega⟩
theorem q_putR {n np rq hm W : Nat} {pa bf vm sz : Nat → Nat} {ht : Nat → Nat → Prop} {rs : Nat → Nat → Nat} {E : Nat → Nat} {Hn Qs Qz o0 j0 : Nat → Int32} {Qe Qr e0 : Nat → Int64} (hn : 8 < n) (hnp : np ≤ 8) (hr : rq < 2 ^ np) (ha : acy rq bf) (hw : HW np pa bf hm ht) (hH : QH ht Hn) (hs : QS np rs Qs) (hV : QV np rs vm) (hW : W * 256 + W < 2 ^ 62) (hE : ∀ S, E S ≤ W) (he : tH Qe E 0 rq) (hc : tC Qr (cA E (nxM rq bf vm np)) 0 rq ht) (hz : ∀ p, p < np → sz p ≤ 100 ∧ Qz p = nI (sz p)) :
    ok (f_JoinOrderModel_putRequired n (nI rq) (nI np) (0 : Int32) Hn Qs Qr Qe o0 Qz j0 e0) (fun o => o.1 = nI (popc rq 8) ∧ ∀ j, j < popc rq 8 → chN E (nxM rq bf vm np) (sq (chN E (nxM rq bf vm np)) j) < np ∧ o.2.1 j = nI (chN E (nxM rq bf vm np) (sq (chN E (nxM rq bf vm np)) j)) ∧ o.2.2.1 j = nI (jnO E sz vm np (chN E (nxM rq bf vm np) (sq (chN E (nxM rq bf vm np)) j)) (sq (chN E (nxM rq bf vm np)) j)) ∧ o.2.2.2 j = lN (E (sq (chN E (nxM rq bf vm np)) (j + 1)))) := by
  have h8 : (2 : Nat) ^ np ≤ 2 ^ 8 := Nat.pow_le_pow_right (by decide) hnp
  have hr8 : rq < 256 := by omega
  have hrn : ∀ p, p < 8 → rq.testBit p = true → p < np := fun p _ hb => bit_ltn hr hb
  have hx := nxM_ok (rq := rq) (bf := bf) (vm := vm) hnp
  have hpl := popc_le rq 8
  have hch : ∀ S, chN E (nxM rq bf vm np) S = fnd (chB E (cA E (nxM rq bf vm np)) (nxM rq bf vm np S) S) 8 0 := fun S => rfl
  generalize hcg : chN E (nxM rq bf vm np) = ch at *
  rw [f_JoinOrderModel_putRequired_u]
  refine ok_bn4 (fun o => o.1 = nI (popc rq 8) ∧ ∀ j, j < popc rq 8 → ch (sq ch j) < np ∧ o.2.1 j = nI (ch (sq ch j)) ∧ o.2.2.1 j = nI (jnO E sz vm np (ch (sq ch j)) (sq ch j)) ∧ o.2.2.2 j = lN (E (sq ch (j + 1)))) ?_ (fun a b c d hh => ok_s hh)
  refine lpF (σ := Int32 × (Nat → Int32) × (Nat → Int32) × (Nat → Int64) × Int32) (fun f i s => f_JoinOrderModel_putRequired_L0 n (nI rq) (nI np) Hn Qs Qr Qe Qz f s.1 s.2.1 s.2.2.1 s.2.2.2.1 s.2.2.2.2) (fun i s => s.1 = nI i ∧ s.2.2.2.2 = nI (sq ch i) ∧ sq ch i < 256 ∧ sub8 (sq ch i) rq ∧ popc (sq ch i) 8 = i ∧ clS ht (sq ch i) ∧ ∀ j, j < i → ch (sq ch j) < np ∧ s.2.1 j = nI (ch (sq ch j)) ∧ s.2.2.1 j = nI (jnO E sz vm np (ch (sq ch j)) (sq ch j)) ∧ s.2.2.2.1 j = lN (E (sq ch (j + 1)))) (popc rq 8) _ ?_ ?_ n 0 (0, o0, j0, e0, 0) (by omega) (by omega) ⟨rfl, rfl, by show 0 < 256; omega, fun q hq hb => by
    have hb2 : (0 : Nat).testBit q = true := hb
    rw [Nat.zero_testBit] at hb2
    exact absurd hb2 Bool.false_ne_true, popc_0 8, cl_0, fun j hj => by omega⟩
  · intro f s hI
    obtain ⟨k0, k1, k2, k3, k4, k5, k6⟩ := hI
    have hS : sq ch (popc rq 8) = rq := Classical.not_not.mp (fun hne => by
      obtain ⟨p, p1, p2, p3⟩ := sub_more k2 hr8 k3 hne
      have := popc_lt 8 k3 p1 p2 p3
      omega)
    rw [f_JoinOrderModel_putRequired_L0_s, k1, hS]
    exact ok_t rfl (ok_s ⟨k0, k6⟩)
  · intro f i s hi hI ih
    obtain ⟨st, X, Y, Z, S0⟩ := s
    obtain ⟨k0, k1, k2, k3, k4, k5, k6⟩ := hI
    simp only at k0 k1 k6
    subst k0
    subst k1
    rw [f_JoinOrderModel_putRequired_L0_s]
    dsimp only
    generalize hSg : sq ch i = S at *
    refine ok_f (fun e => by
      have e2 := (nI_eq (by omega) (by omega)).mp e
      rw [e2] at k4
      omega) ?_
    have hne := next_one (vm := vm) ha hnp hrn (popc_more 8 (show popc S 8 < popc rq 8 by omega))
    have hex := ch_ex (E := E) hx k2 hne
    have hpb := ch_ok (E := E) hx k2 hne
    rw [← hch S] at hpb
    refine ok_bn1 _ (ok_e (q_may hn hnp k2 hr8 hH hs hV)) (fun r e => ?_)
    subst e
    rw [ny_nx hw hnp k5]
    refine ok_nm ?_
    have hm8 : nxM rq bf vm np S < 256 := Nat.lt_of_lt_of_le (mkS_lt _ np) h8
    have b0 := cA_le (nx := nxM rq bf vm np) hE S
    refine ok_bn1 _ (ok_e (q_pick (E := E) (C := cA E (nxM rq bf vm np)) (W := W * 256 + W) hn hnp k2 hm8 (fun p hb => (nx_fr hb).1) hW (Nat.le_trans b0 (Nat.le_add_right _ _)) (hc S (Nat.zero_le _) k2 k3 k5) (fun p _ hb => ?_) hex)) (fun z e => ?_)
    · have hp8 := (hx S p hb).1
      have hsp := nxM_sub hb k3
      have hlt : S ||| 2 ^ p < 256 := or_lt (k := 8) k2 (p2_lt hp8)
      have b1 := hE (S ||| 2 ^ p)
      have b2 := cA_le (nx := nxM rq bf vm np) hE (S ||| 2 ^ p)
      exact ⟨by rw [Nat.add_comm]; exact Nat.add_le_add b2 b1, he _ (Nat.zero_le _) hlt hsp, hc _ (Nat.zero_le _) hlt hsp (cl_step hw hnp k5 hb)⟩
    rw [← hch S] at e
    subst e
    have hpn := (nx_fr hpb).1
    have hp8 := (hx S _ hpb).1
    have hns := (hx S _ hpb).2
    have hsub' := nxM_sub hpb k3
    have hcl' := cl_step hw hnp k5 hpb
    have hS' : S ||| 2 ^ ch S < 256 := or_lt (k := 8) k2 (p2_lt hp8)
    have esq : sq ch (i + 1) = S ||| 2 ^ ch S := by
      show sq ch i ||| 2 ^ ch (sq ch i) = _
      rw [hSg]
    rw [esq] at ih
    generalize hpg : ch S = p at *
    refine ok_bn1 _ (ok_e (q_vars hn hnp k2 hs hV)) (fun r e => ?_)
    subst e
    refine ok_bn1 _ (ok_e (q_varp hn hnp hpn hs hV)) (fun r e => ?_)
    subst e
    have hvp := (hV p hpn).1
    have hal : vm p &&& vO vm S np ≤ vm p := Nat.and_le_left
    refine ok_bn1 (fun z => tf z (vm p &&& vO vm S np ≠ 0)) ?_ (fun z hz2 => ?_)
    · rw [nx_and, Nat.and_comm (vO vm S np) (vm p)]
      exact ok_b (vm p &&& vO vm S np = 0) (nI_eq (b := 0) (by omega) (by omega)) (fun g => ok_s (tf_f (fun h => h g))) (fun g => ok_s (tf_t g))
    refine ok_gd i rfl (by omega) (by decide) ?_
    rw [nI_clamp (by omega : i < 2 ^ 31)]
    refine ok_nm ?_
    refine ok_bn1 (fun z => z = nI (jnO E sz vm np p S)) ?_ (fun z e => ?_)
    · unfold jnO
      refine ok_b (S = 0) (nI_eq (b := 0) (by omega) (by omega)) (fun h => ok_s (by rw [if_pos h]; rfl)) (fun h => ?_)
      rw [if_neg h]
      refine ok_b _ (tf_0 hz2) (fun g => ok_s (by rw [if_pos (Classical.not_not.mp g)]; rfl)) (fun g => ?_)
      rw [if_neg (Classical.not_not.mp g)]
      refine ok_gd S rfl k2 (by decide) ?_
      refine ok_gd p rfl hp8 (by decide) ?_
      obtain ⟨z1, z2⟩ := hz p hpn
      have b1 := hE S
      rw [nI_clamp (by omega : S < 2 ^ 31), nI_clamp (by omega : p < 2 ^ 31), he S (Nat.zero_le _) k2 k3, z2, nI_l (by omega)]
      exact ok_b (sz p < E S) ((lg_cmp_gt _ _).trans (pk_lLT (by omega) (by omega))) (fun g3 => ok_s (by rw [if_pos g3]; rfl)) (fun g3 => ok_s (by rw [if_neg g3]; rfl))
    · subst e
      rw [m_sh (by omega), m_or]
      refine ok_nm (ok_nm ?_)
      refine ok_gd _ rfl hS' (by decide) ?_
      rw [nI_clamp (by omega : S ||| 2 ^ p < 2 ^ 31), he _ (Nat.zero_le _) hS' hsub']
      refine ok_nm (ok_nm (ok_nmE (nI_1 i) (ih (nI (i + 1), upd X i (nI p), upd Y i (nI (jnO E sz vm np p S)), vp_updL Z i (lN (E (S ||| 2 ^ p))), nI (S ||| 2 ^ p)) ⟨rfl, rfl, hS', hsub', by rw [popc_or hns 8 hp8, k4], hcl', fun j hj => ?_⟩)))
      simp only
      by_cases e : j = i
      · subst e
        rw [hSg, hpg, esq, pk_us, pk_us, pk_uLs]
        exact ⟨hpn, rfl, rfl, rfl⟩
      · rw [pk_un e, pk_un e, pk_uLn e]
        exact k6 j (by omega)
