/-! variablesOf and mayCome, of the reference -/
def QV (np : Nat) (rs : Nat → Nat → Nat) (vm : Nat → Nat) : Prop := ∀ p, p < np → vm p < 256 ∧ ∀ v, v < 8 → ((vm p).testBit v = true ↔ 0 < rs p v)
def QS (np : Nat) (rs : Nat → Nat → Nat) (Qs : Nat → Int32) : Prop := (∀ p v, rs p v ≤ 32) ∧ ∀ p, p < np → ∀ v, v < 8 → Qs (8 * p + v) = nI (rs p v)
theorem q_vars1 {n np S i a : Nat} {rs : Nat → Nat → Nat} {vm : Nat → Nat} {Qs : Nat → Int32} (hn : 8 < n) (hnp : np ≤ 8) (hi : i < np) (hS : S < 256) (ha : a < 256) (hs : QS np rs Qs) (hV : QV np rs vm) : f_JoinOrderModel_variablesOf_L1 n (nI S) Qs (nI i) n (nI a) (0 : Int32) = some (nI (if S.testBit i = true then a ||| vm i else a)) := by
  apply ok_eq
  obtain ⟨v1, v2⟩ := hV i hi
  obtain ⟨hr, hs⟩ := hs
  refine lpF (σ := Int32) (fun f v x => f_JoinOrderModel_variablesOf_L1 n (nI S) Qs (nI i) f x (nI v)) (fun v x => ∃ b, b < 256 ∧ x = nI b ∧ ∀ w, w < 8 → (b.testBit w = true ↔ a.testBit w = true ∨ (w < v ∧ S.testBit i = true ∧ (vm i).testBit w = true))) 8 _ ?_ ?_ n 0 (nI a) (by omega) (by omega) ⟨a, ha, rfl, fun w _ => ⟨Or.inl, fun h => h.elim id (fun h => by omega)⟩⟩
  · intro f x hI
    obtain ⟨b, b1, b2, b3⟩ := hI
    rw [f_JoinOrderModel_variablesOf_L1_s]
    refine ok_t (nI_le (Nat.le_refl 8) (by decide)) (ok_s ?_)
    rw [b2]
    congr 1
    by_cases hb : S.testBit i = true
    · rw [if_pos hb]
      refine bit_ext 8 b1 (or_lt (k := 8) ha v1) (fun w hw => ?_)
      rw [b3 w hw, bit_or]
      exact ⟨fun h => h.elim Or.inl (fun h => Or.inr h.2.2), fun h => h.elim Or.inl (fun h => Or.inr ⟨hw, hb, h⟩)⟩
    · rw [if_neg hb]
      refine bit_ext 8 b1 ha (fun w hw => ?_)
      rw [b3 w hw]
      exact ⟨fun h => h.elim id (fun h => absurd h.2.1 hb), Or.inl⟩
  · intro f v x hv hI ih
    obtain ⟨b, b1, b2, b3⟩ := hI
    subst b2
    rw [f_JoinOrderModel_variablesOf_L1_s]
    refine ok_f (nI_ge hv (by decide)) ?_
    refine ok_b _ (q_bit (by omega) (by omega)) (fun g => ?_) (fun g => ?_)
    · rw [i8]
      refine ok_gd (8 * i + v) rfl (by omega) (by decide) ?_
      rw [nI_clamp (by omega : 8 * i + v < 2 ^ 31), hs i hi v hv]
      have h32 := hr i v
      refine ok_b (rs i v ≤ 0) (nI_leI (b := 0) (by omega) (by omega)) (fun g2 => ?_) (fun g2 => ?_)
      · refine ok_nmE (nI_1 v) (ih _ ⟨b, b1, rfl, fun w hw => (b3 w hw).trans ⟨fun h => h.elim Or.inl (fun h => Or.inr ⟨by omega, h.2⟩), fun h => h.elim Or.inl (fun h => Or.inr ⟨?_, h.2⟩)⟩⟩)
        have h9 := (v2 w hw).mp h.2.2
        have : w ≠ v := fun e => by
          subst e
          omega
        omega
      · rw [m_sh (by omega), m_or]
        refine ok_nm (ok_nmE (nI_1 v) (ih _ ⟨b ||| 2 ^ v, or_lt (k := 8) b1 (p2_lt hv), rfl, fun w hw => ?_⟩))
        rw [bit_or, bit_p2, b3 w hw]
        constructor
        · rintro ((h | h) | h)
          · exact Or.inl h
          · exact Or.inr ⟨by omega, h.2⟩
          · subst h
            exact Or.inr ⟨by omega, g, (v2 v hw).mpr (by omega)⟩
        · rintro (h | h)
          · exact Or.inl (Or.inl h)
          · by_cases e : v = w
            · exact Or.inr e
            · exact Or.inl (Or.inr ⟨by omega, h.2⟩)
    · exact ok_nmE (nI_1 v) (ih _ ⟨b, b1, rfl, fun w hw => (b3 w hw).trans ⟨fun h => h.elim Or.inl (fun h => absurd h.2.1 g), fun h => h.elim Or.inl (fun h => absurd h.2.1 g)⟩⟩)
theorem vO_lt2 {np S : Nat} {rs : Nat → Nat → Nat} {vm : Nat → Nat} (hV : QV np rs vm) : ∀ k, k ≤ np → vO vm S k < 256 := vO_lt (V := fun p => nI (vm p)) (fun p hp => ⟨(hV p hp).1, rfl⟩)
theorem q_vars {n np S : Nat} {rs : Nat → Nat → Nat} {vm : Nat → Nat} {Qs : Nat → Int32} (hn : 8 < n) (hnp : np ≤ 8) (hS : S < 256) (hs : QS np rs Qs) (hV : QV np rs vm) : f_JoinOrderModel_variablesOf n (nI S) (nI np) Qs = some (nI (vO vm S np)) := by
  apply ok_eq
  rw [f_JoinOrderModel_variablesOf_u]
  refine ok_bn1 (fun x => x = nI (vO vm S np)) ?_ (fun x h => ok_s h)
  have hlt := vO_lt2 (S := S) hV
  refine lpF (σ := Int32) (fun f i x => f_JoinOrderModel_variablesOf_L0 n (nI S) (nI np) Qs f x (nI i)) (fun i x => x = nI (vO vm S i)) np _ ?_ ?_ n 0 (0 : Int32) (by omega) (by omega) rfl
  · intro f x h
    rw [f_JoinOrderModel_variablesOf_L0_s]
    exact ok_t (nI_le (Nat.le_refl _) (by omega)) (ok_s h)
  · intro f i x hi h ih
    subst h
    rw [f_JoinOrderModel_variablesOf_L0_s]
    refine ok_f (nI_ge hi (by omega)) ?_
    refine ok_bn1 _ (ok_e (q_vars1 hn hnp hi hS (hlt i (by omega)) hs hV)) (fun z e => ?_)
    subst e
    exact ok_nmE (nI_1 i) (ih _ rfl)
theorem vO_one {np p : Nat} {rs : Nat → Nat → Nat} {vm : Nat → Nat} (hV : QV np rs vm) (hp : p < np) : vO vm (2 ^ p) np = vm p := by
  refine bit_ext 8 (vO_lt2 hV np (Nat.le_refl _)) (hV p hp).1 (fun v _ => ?_)
  rw [vO_bit]
  constructor
  · rintro ⟨q, _, h2, h3⟩
    rw [bit_p2] at h2
    exact h2 ▸ h3
  · intro h
    exact ⟨p, hp, (bit_p2 _ _).mpr rfl, h⟩
theorem q_varp {n np p : Nat} {rs : Nat → Nat → Nat} {vm : Nat → Nat} {Qs : Nat → Int32} (hn : 8 < n) (hnp : np ≤ 8) (hp : p < np) (hs : QS np rs Qs) (hV : QV np rs vm) : f_JoinOrderModel_variablesOf n ((1 : Int32) <<< (nI p &&& 31)) (nI np) Qs = some (nI (vm p)) := by
  have h2 : 2 ^ p < 2 ^ 8 := p2_lt (by omega)
  rw [m_sh (by omega), q_vars hn hnp h2 hs hV, vO_one hV hp]
theorem q_bit0 {m p : Nat} (hm : m < 2 ^ 31) (hp : p < 32) : ((nI m >>> (nI p &&& 31)) &&& (1 : Int32)) = 0 ↔ ¬ m.testBit p = true := by
  have hd := Nat.div_le_self m (2 ^ p)
  rw [m_shr hm hp, pk_andN (n := m / 2 ^ p) (m := (1 : Int32)) (by omega) 1 (by decide), Nat.testBit_eq_decide_div_mod_eq]
  have h2 : m / 2 ^ p % 2 ^ 1 < 2 ^ 31 := by omega
  rw [show (0 : Int32) = nI 0 from rfl, nI_eq h2 (by decide)]
  constructor
  · intro h hh
    have := of_decide_eq_true hh
    omega
  · intro h
    by_cases hc : m / 2 ^ p % 2 = 1
    · exact absurd (decide_eq_true hc) h
    · omega
def frQ (rq : Nat) (ht : Nat → Nat → Prop) (np S p : Nat) : Prop := rq.testBit p = true ∧ ¬ S.testBit p = true ∧ ∀ q, q < np → ht q p → S.testBit q = true
def jnQ (rq : Nat) (ht : Nat → Nat → Prop) (vm : Nat → Nat) (np S p : Nat) : Prop := frQ rq ht np S p ∧ ∃ v, v < 8 ∧ (vm p).testBit v = true ∧ (vO vm S np).testBit v = true
def nyP (rq : Nat) (ht : Nat → Nat → Prop) (vm : Nat → Nat) (np S p : Nat) : Prop := jnQ rq ht vm np S p ∨ ((∀ q, q < np → ¬ jnQ rq ht vm np S q) ∧ frQ rq ht np S p)
noncomputable def nyM (rq : Nat) (ht : Nat → Nat → Prop) (vm : Nat → Nat) (np S : Nat) : Nat := mkS (nyP rq ht vm np S) np
theorem q_may1 {n np S p : Nat} {D : Prop} {z : Int32} {ht : Nat → Nat → Prop} {Hn : Nat → Int32} (hn : 8 < n) (hnp : np ≤ 8) (hS : S < 256) (hp : p < 8) (hH : QH ht Hn) (hz : tf z D) : ok (f_JoinOrderModel_mayCome_L1 n (nI S) (nI np) Hn (nI p) n z (0 : Int32)) (fun r => tf r (D ∧ ∀ q, q < np → ht q p → S.testBit q = true)) := by
  refine lpF (σ := Int32) (fun f q x => f_JoinOrderModel_mayCome_L1 n (nI S) (nI np) Hn (nI p) f x (nI q)) (fun q x => tf x (D ∧ ∀ c, c < q → ht c p → S.testBit c = true)) np _ ?_ ?_ n 0 z (by omega) (by omega) (tf_iff hz ⟨fun h => ⟨h, fun c hc => by omega⟩, fun h => h.1⟩)
  · intro f x hx
    rw [f_JoinOrderModel_mayCome_L1_s]
    exact ok_t (nI_le (Nat.le_refl _) (by omega)) (ok_s hx)
  · intro f q x hq hx ih
    rw [f_JoinOrderModel_mayCome_L1_s]
    refine ok_f (nI_ge hq (by omega)) ?_
    have up : (D ∧ ∀ c, c < q → ht c p → S.testBit c = true) → (ht q p → S.testBit q = true) → D ∧ ∀ c, c < q + 1 → ht c p → S.testBit c = true := fun h1 h2 => ⟨h1.1, fun c hc hcp => by
      by_cases e : c = q
      · subst e
        exact h2 hcp
      · exact h1.2 c (by omega) hcp⟩
    refine ok_b _ (tf_0 hx) (fun g => ok_nmE (nI_1 q) (ih _ (tf_f (fun h => g ⟨h.1, fun c hc => h.2 c (by omega)⟩)))) (fun g => ?_)
    have g := Classical.not_not.mp g
    rw [i8]
    refine ok_gd (8 * q + p) rfl (by omega) (by decide) ?_
    rw [nI_clamp (by omega : 8 * q + p < 2 ^ 31)]
    refine ok_b _ (tf_0 (hH q p (by omega) hp)) (fun g2 => ok_nmE (nI_1 q) (ih _ (tf_t (up g (fun h => absurd h g2))))) (fun g2 => ?_)
    exact ok_b _ (q_bit (by omega) (by omega)) (fun g3 => ok_nmE (nI_1 q) (ih _ (tf_t (up g (fun _ => g3))))) (fun g3 => ok_nmE (nI_1 q) (ih _ (tf_f (fun h => g3 (h.2 q (by omega) (Classical.not_not.mp g2))))))
theorem q_may {n np S rq : Nat} {ht : Nat → Nat → Prop} {rs : Nat → Nat → Nat} {vm : Nat → Nat} {Hn Qs : Nat → Int32} (hn : 8 < n) (hnp : np ≤ 8) (hS : S < 256) (hr : rq < 256) (hH : QH ht Hn) (hs : QS np rs Qs) (hV : QV np rs vm) : f_JoinOrderModel_mayCome n (nI S) (nI rq) (nI np) Hn Qs = some (nI (nyM rq ht vm np S)) := by
  apply ok_eq
  rw [f_JoinOrderModel_mayCome_u]
  refine ok_bn2 (fun o => isS o.1 (frQ rq ht np S) np ∧ isS o.2 (jnQ rq ht vm np S) np) ?_ (fun a b hab => ?_)
  · refine lpF (σ := Int32 × Int32) (fun f i s => f_JoinOrderModel_mayCome_L0 n (nI S) (nI rq) (nI np) Hn Qs f s.1 s.2 (nI i)) (fun i s => isS s.1 (frQ rq ht np S) i ∧ isS s.2 (jnQ rq ht vm np S) i) np _ ?_ ?_ n 0 (0, 0) (by omega) (by omega) ⟨isS_0 _, isS_0 _⟩
    · intro f s hI
      rw [f_JoinOrderModel_mayCome_L0_s]
      exact ok_t (nI_le (Nat.le_refl _) (by omega)) (ok_s hI)
    · intro f i s hi hI ih
      obtain ⟨x, y⟩ := s
      obtain ⟨h1, h2⟩ := hI
      simp only at h1 h2
      rw [f_JoinOrderModel_mayCome_L0_s]
      dsimp only
      refine ok_f (nI_ge hi (by omega)) ?_
      refine ok_bn1 (fun z => tf z (rq.testBit i = true ∧ ¬ S.testBit i = true)) ?_ (fun z hz => ?_)
      · refine ok_b _ (q_bit (by omega) (by omega)) (fun g => ?_) (fun g => ok_s (tf_f (fun h => g h.1)))
        exact ok_b _ (q_bit0 (by omega) (by omega)) (fun g2 => ok_s (tf_t ⟨g, g2⟩)) (fun g2 => ok_s (tf_f (fun h => g2 h.2)))
      · refine ok_bn1 _ (q_may1 hn hnp hS (by omega) hH hz) (fun w hw => ?_)
        have hw : tf w (frQ rq ht np S i) := tf_iff hw ⟨fun h => ⟨h.1.1, h.1.2, h.2⟩, fun h => ⟨⟨h.1, h.2.1⟩, h.2.2⟩⟩
        refine ok_bn1 (fun z => isS z (frQ rq ht np S) (i + 1)) ?_ (fun z hz2 => ?_)
        · exact ok_b _ (tf_0 hw) (fun g => ok_s (isS_f h1 g)) (fun g => ok_s (isS_t h1 (by omega) (Classical.not_not.mp g)))
        · refine ok_b _ (tf_0 hw) (fun g => ok_nmE (nI_1 i) (ih (z, y) ⟨hz2, isS_f h2 (fun h => g h.1)⟩)) (fun g => ?_)
          have g := Classical.not_not.mp g
          refine ok_bn1 _ (ok_e (q_vars hn hnp hS hs hV)) (fun r e => ?_)
          subst e
          refine ok_bn1 _ (ok_e (q_varp hn hnp hi hs hV)) (fun r e => ?_)
          subst e
          have hlt := vO_lt2 (S := S) hV np (Nat.le_refl _)
          have hal : vO vm S np &&& vm i ≤ vO vm S np := Nat.and_le_left
          rw [nx_and]
          refine ok_b _ ((nI_eq (b := 0) (by omega) (by omega)).trans (and_0 hlt)) (fun g2 => ?_) (fun g2 => ?_)
          · exact ok_nmE (nI_1 i) (ih (z, y) ⟨hz2, isS_f h2 (fun h => g2 (by
              obtain ⟨v, u1, u2, u3⟩ := h.2
              exact ⟨v, u1, u3, u2⟩))⟩)
          · obtain ⟨v, u1, u2, u3⟩ := Classical.not_not.mp g2
            exact ok_nm (ok_nmE (nI_1 i) (ih (z, y ||| ((1 : Int32) <<< (nI i &&& 31))) ⟨hz2, isS_t h2 (by omega) ⟨g, v, u1, u3, u2⟩⟩))
  · obtain ⟨h1, h2⟩ := hab
    have e1 := isS_mk h1 hnp
    have e2 := isS_mk h2 hnp
    simp only at e1 e2
    subst e1 e2
    have l1 := mkS_lt (jnQ rq ht vm np S) np
    have l2 : 2 ^ np ≤ 2 ^ 8 := Nat.pow_le_pow_right (by decide) hnp
    have l3 := mkS_lt (frQ rq ht np S) np
    have l4 := mkS_lt (nyP rq ht vm np S) np
    refine ok_b _ ((nI_eq (b := 0) (by omega) (by omega)).trans (bit_none np l1)) (fun h3 => ok_s ?_) (fun h3 => ok_s ?_)
    · unfold nyM
      congr 1
      refine bit_ext np l3 l4 (fun i hi => ?_)
      rw [mkS_bit, mkS_bit]
      have none : ∀ q, q < np → ¬ jnQ rq ht vm np S q := fun q hq hj => h3 q hq ((mkS_bit _ _ _).mpr ⟨hq, hj⟩)
      exact ⟨fun h4 => ⟨h4.1, Or.inr ⟨none, h4.2⟩⟩, fun h4 => ⟨h4.1, h4.2.elim (fun h5 => absurd h5 (none i hi)) (fun h5 => h5.2)⟩⟩
    · unfold nyM
      congr 1
      refine bit_ext np l1 l4 (fun i hi => ?_)
      rw [mkS_bit, mkS_bit]
      refine ⟨fun h4 => ⟨h4.1, Or.inl h4.2⟩, fun h4 => ⟨h4.1, h4.2.elim id (fun h5 => absurd ?_ h3)⟩⟩
      exact fun q hq hb => h5.1 q hq ((mkS_bit _ _ _).mp hb).2
/-! sets closed under what comes before -/
def clS (ht : Nat → Nat → Prop) (S : Nat) : Prop := ∀ a b, ht a b → S.testBit b = true → S.testBit a = true
theorem fr_eq {np hm rq S : Nat} {pa bf : Nat → Nat} {ht : Nat → Nat → Prop} (hw : HW np pa bf hm ht) (hnp : np ≤ 8) (hc : clS ht S) (p : Nat) : frQ rq ht np S p ↔ frP rq bf S p := by
  constructor
  · rintro ⟨h1, h2, h3⟩
    refine ⟨h1, h2, fun q _ hq => hw.2.2.2.1 p (fun a => S.testBit a = true) (fun a b k1 k2 => ?_) q hq⟩
    rcases k2 with k2 | k2
    · subst k2
      exact h3 a (hw.1 a b k1).1.1 k1
    · exact hc a b k1 k2
  · rintro ⟨h1, h2, h3⟩
    exact ⟨h1, h2, fun q hq k => h3 q (by omega) (hw.1 q p k).2.2⟩
theorem ny_nx {np hm rq S : Nat} {pa bf vm : Nat → Nat} {ht : Nat → Nat → Prop} (hw : HW np pa bf hm ht) (hnp : np ≤ 8) (hc : clS ht S) : nyM rq ht vm np S = nxM rq bf vm np S := by
  unfold nyM nxM
  congr 1
  funext p
  apply propext
  unfold nyP nxP jnQ jnP
  simp only [fr_eq (rq := rq) hw hnp hc]
theorem nx_fr {np rq S p : Nat} {bf vm : Nat → Nat} (hb : (nxM rq bf vm np S).testBit p = true) : p < np ∧ frP rq bf S p := by
  have h := (mkS_bit _ _ _).mp hb
  exact ⟨h.1, h.2.elim (fun h => h.1) (fun h => h.2)⟩
theorem cl_step {np hm rq S p : Nat} {pa bf vm : Nat → Nat} {ht : Nat → Nat → Prop} (hw : HW np pa bf hm ht) (hnp : np ≤ 8) (hc : clS ht S) (hb : (nxM rq bf vm np S).testBit p = true) : clS ht (S ||| 2 ^ p) := by
  have hf := (nx_fr hb).2
  intro a b k h
  rw [bit_or, bit_p2] at h ⊢
  rcases h with h | h
  · exact Or.inl (hc a b k h)
  · subst h
    have := (hw.1 a p k).1.1
    exact Or.inl (hf.2.2 a (by omega) (hw.1 a p k).2.2)
theorem cl_0 {ht : Nat → Nat → Prop} : clS ht 0 := fun a b _ h => by
  rw [Nat.zero_testBit] at h
  exact absurd h Bool.false_ne_true
