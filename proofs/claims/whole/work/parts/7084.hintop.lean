/-! hint, of program and reference -/
theorem isS_in {x : Int32} {P : Nat → Prop} {k i : Nat} (h : isS x P k) (hi : i < 8) : tf (f_JoinOrder_inSet x (nI i)) (i < k ∧ P i) := by
  obtain ⟨m, h1, h2, h3⟩ := h
  subst h2
  exact tf_iff (m_in (by omega) (by omega)) (h3 i hi)
def P2 (np : Nat) (x1 x2 : Int32) (a b : Nat) : Prop := a < np ∧ b < np ∧ x1 = nI a ∧ x2 = nI b
def hqP (pa bf : Nat → Nat) (a b : Nat) : Prop := (pa a = 0 ∧ pa b = 0) ∧ a ≠ b ∧ ¬ (bf a).testBit b = true
/-- the step of hint: its answer r, and the state behind -/
def newH (np : Nat) (pa bf : Nat → Nat) (hm : Nat) (ht : Nat → Nat → Prop) (x1 x2 r : Int32) (bf' : Nat → Nat) (hm' : Nat) (ht' : Nat → Nat → Prop) : Prop := ((¬ ∃ a b, P2 np x1 x2 a b) ∧ r = -1 ∧ bf' = bf ∧ hm' = hm ∧ ht' = ht) ∨ (∃ a b, P2 np x1 x2 a b ∧ ¬ hqP pa bf a b ∧ r = -3 ∧ bf' = bf ∧ hm' = hm ∧ ht' = ht) ∨ (∃ a b, P2 np x1 x2 a b ∧ hqP pa bf a b ∧ r = 1 ∧ bf' = bfU bf a b ∧ hm' = hm ||| (2 ^ a ||| 2 ^ b) ∧ ht' = fun x y => ht x y ∨ (x = a ∧ y = b))
theorem newH_ex (np : Nat) (pa bf : Nat → Nat) (hm : Nat) (ht : Nat → Nat → Prop) (x1 x2 : Int32) : ∃ r bf' hm' ht', newH np pa bf hm ht x1 x2 r bf' hm' ht' := by
  by_cases h : ∃ a b, P2 np x1 x2 a b
  · obtain ⟨a, b, hab⟩ := h
    by_cases h2 : hqP pa bf a b
    · exact ⟨_, _, _, _, Or.inr (Or.inr ⟨a, b, hab, h2, rfl, rfl, rfl, rfl⟩)⟩
    · exact ⟨_, _, _, _, Or.inr (Or.inl ⟨a, b, hab, h2, rfl, rfl, rfl, rfl⟩)⟩
  · exact ⟨_, _, _, _, Or.inl ⟨h, rfl, rfl, rfl, rfl⟩⟩
theorem newH_HW {np hm hm' : Nat} {pa bf bf' : Nat → Nat} {ht ht' : Nat → Nat → Prop} {x1 x2 r : Int32} (hnp : np ≤ 8) (hw : HW np pa bf hm ht) (h : newH np pa bf hm ht x1 x2 r bf' hm' ht') : HW np pa bf' hm' ht' := by
  rcases h with ⟨_, _, e1, e2, e3⟩ | ⟨a, b, _, _, _, e1, e2, e3⟩ | ⟨a, b, h1, h2, _, e1, e2, e3⟩
  · subst e1 e2 e3
    exact hw
  · subst e1 e2 e3
    exact hw
  · subst e1 e2 e3
    exact HW_hint hw ⟨h1.1, h2.1.1⟩ ⟨h1.2.1, h2.1.2⟩ h2.2.1 h2.2.2 hnp
theorem newH_fresh {np hm hm' : Nat} {pa td bf bf' : Nat → Nat} {ht ht' : Nat → Nat → Prop} {x1 x2 r : Int32} (hw : HW np pa bf hm ht) (hf : fresh np pa td bf) (h : newH np pa bf hm ht x1 x2 r bf' hm' ht') : fresh np pa td bf' := by
  intro p hp
  obtain ⟨f1, f2, f3⟩ := hf p hp
  rcases h with ⟨_, _, e1, _⟩ | ⟨a, b, _, _, _, e1, _⟩ | ⟨a, b, h1, h2, _, e1, _⟩
  · subst e1
    exact ⟨f1, f2, f3⟩
  · subst e1
    exact ⟨f1, f2, f3⟩
  · subst e1
    refine ⟨f1, f2, ?_⟩
    unfold bfU
    rw [if_neg, f3]
    rintro (h3 | h3)
    · have := h1.2.1
      omega
    · rw [f3, Nat.zero_testBit] at h3
      exact absurd h3 Bool.false_ne_true
theorem c_hint {n np hm hm' : Nat} {pa bf bf' : Nat → Nat} {ht ht' : Nat → Nat → Prop} {x1 x2 r rq : Int32} {B : Nat → Int32} (hn : 8 < n) (hnp : np ≤ 8) (hw : HW np pa bf hm ht) (hr : isS rq (fun p => pa p = 0) np) (hB : ∀ p, p < 8 → B p = nI (bf p)) (h : newH np pa bf hm ht x1 x2 r bf' hm' ht') (hf : ∀ p, np ≤ p → bf p = 0) (hf' : ∀ p, np ≤ p → bf' p = 0) :
    ok (f_JoinOrder_hint n x1 x2 rq (nI hm) (nI np) B) (fun o => o.1 = r ∧ o.2.1 = nI hm' ∧ ∀ p, p < 8 → o.2.2 p = nI (bf' p)) := by
  rw [f_JoinOrder_hint_u]
  rcases h with ⟨h1, e0, e1, e2, e3⟩ | h
  · subst e0 e1 e2 e3
    refine ok_b _ (tf_0 (c_hasP x1 (by omega))) (fun _ => ok_s ⟨rfl, rfl, hB⟩) (fun g1 => ?_)
    refine ok_b _ (tf_0 (c_hasP x2 (by omega))) (fun _ => ok_s ⟨rfl, rfl, hB⟩) (fun g2 => ?_)
    obtain ⟨a, ha, ea⟩ := Classical.not_not.mp g1
    obtain ⟨b, hb, eb⟩ := Classical.not_not.mp g2
    exact absurd ⟨a, b, ha, hb, ea, eb⟩ h1
  · have key : ∃ a b, P2 np x1 x2 a b ∧ ((¬ hqP pa bf a b ∧ r = -3 ∧ bf' = bf ∧ hm' = hm ∧ ht' = ht) ∨ (hqP pa bf a b ∧ r = 1 ∧ bf' = bfU bf a b ∧ hm' = hm ||| (2 ^ a ||| 2 ^ b))) := by
      rcases h with ⟨a, b, h1, h2⟩ | ⟨a, b, h1, h2, h3, h4, h5, _⟩
      · exact ⟨a, b, h1, Or.inl h2⟩
      · exact ⟨a, b, h1, Or.inr ⟨h2, h3, h4, h5⟩⟩
    obtain ⟨a, b, ⟨ha, hb, ea, eb⟩, hc⟩ := key
    subst ea eb
    have no : ¬ hqP pa bf a b → ok (some ((-3 : Int32), nI hm, B)) (fun o => o.1 = r ∧ o.2.1 = nI hm' ∧ ∀ p, p < 8 → o.2.2 p = nI (bf' p)) := fun hh => by
      rcases hc with ⟨_, e0, e1, e2, _⟩ | ⟨h2, _⟩
      · subst e0 e1 e2
        exact ok_s ⟨rfl, rfl, hB⟩
      · exact absurd h2 hh
    refine ok_f (fun e => (tf_0 (c_hasP (nI a) (by omega))).mp e ⟨a, ha, rfl⟩) ?_
    refine ok_f (fun e => (tf_0 (c_hasP (nI b) (by omega))).mp e ⟨b, hb, rfl⟩) ?_
    rw [f_Patterns_isRequired_u, f_Patterns_isRequired_u]
    refine ok_b _ (tf_0 (isS_in hr (by omega))) (fun g => no (fun q => g ⟨ha, q.1.1⟩)) (fun g1 => ?_)
    refine ok_b _ (tf_0 (isS_in hr (by omega))) (fun g => no (fun q => g ⟨hb, q.1.2⟩)) (fun g2 => ?_)
    refine ok_b (a = b) (nI_eq (by omega) (by omega)) (fun g => no (fun q => q.2.1 g)) (fun g3 => ?_)
    refine ok_bn1 _ (c_isB (a := b) (b := a) (by omega) (by omega) (hw.2.2.2.2.1 a) (hB a (by omega))) (fun z hz => ?_)
    refine ok_b _ (tf_0 hz) (fun g4 => ?_) (fun g4 => no (fun q => q.2.2 (Classical.not_not.mp g4)))
    have hok : hqP pa bf a b := ⟨⟨(Classical.not_not.mp g1).2, (Classical.not_not.mp g2).2⟩, g3, g4⟩
    rcases hc with ⟨h2, _⟩ | ⟨_, e0, e1, e2⟩
    · exact absurd hok h2
    · subst e0 e1 e2
      refine ok_bn2 _ (c_putB hn hnp ha hb (fun p hp => ⟨hw.2.2.2.2.1 p, hB p (by omega)⟩)) (fun u v huv => ok_s ⟨rfl, huv.1, fun p hp => ?_⟩)
      by_cases hpn : p < np
      · exact huv.2.1 p hpn
      · have e := huv.2.2 p (by omega)
        rw [hf' p (by omega)]
        simp only at e ⊢
        rw [e, hB p hp, hf p (by omega)]
theorem q_isReq {np p : Nat} {pa : Nat → Nat} {Of : Nat → Int32} (hnp : np ≤ 8) (hp : p < np) (h : ∀ p, p < np → pa p ≤ np ∧ Of p = nI (pa p) - 1) : ok (f_JoinOrderModel_isRequired (nI p) Of) (fun r => tf r (pa p = 0)) := by
  obtain ⟨h1, h2⟩ := h p hp
  rw [f_JoinOrderModel_isRequired_u, gd_nI (by omega) (by decide), nI_clamp (by omega), h2]
  exact ok_b _ (tm_none (by omega)) (fun g => ok_s (tf_t g)) (fun g => ok_s (tf_f g))
theorem q_hint {n np hm hm' : Nat} {pa bf bf' : Nat → Nat} {ht ht' : Nat → Nat → Prop} {x1 x2 r : Int32} {Of Hn : Nat → Int32} (hn : 8 < n) (hnp : np ≤ 8) (hw : HW np pa bf hm ht) (hO : ∀ p, p < np → pa p ≤ np ∧ Of p = nI (pa p) - 1) (hH : QH ht Hn) (h : newH np pa bf hm ht x1 x2 r bf' hm' ht') :
    ok (f_JoinOrderModel_hint n x1 x2 (nI np) Of Hn) (fun o => o.1 = r ∧ QH ht' o.2) := by
  rw [f_JoinOrderModel_hint_u]
  rcases h with ⟨h1, e0, e1, e2, e3⟩ | h
  · subst e0 e1 e2 e3
    refine ok_b _ (tf_0 (q_isPat x1 (by omega))) (fun _ => ok_s ⟨rfl, hH⟩) (fun g1 => ?_)
    refine ok_b _ (tf_0 (q_isPat x2 (by omega))) (fun _ => ok_s ⟨rfl, hH⟩) (fun g2 => ?_)
    obtain ⟨a, ha, ea⟩ := Classical.not_not.mp g1
    obtain ⟨b, hb, eb⟩ := Classical.not_not.mp g2
    exact absurd ⟨a, b, ha, hb, ea, eb⟩ h1
  · have key : ∃ a b, P2 np x1 x2 a b ∧ ((¬ hqP pa bf a b ∧ r = -3 ∧ ht' = ht) ∨ (hqP pa bf a b ∧ r = 1 ∧ ht' = fun x y => ht x y ∨ (x = a ∧ y = b))) := by
      rcases h with ⟨a, b, h1, h2, h3, h4, h5, h6⟩ | ⟨a, b, h1, h2, h3, h4, h5, h6⟩
      · exact ⟨a, b, h1, Or.inl ⟨h2, h3, h6⟩⟩
      · exact ⟨a, b, h1, Or.inr ⟨h2, h3, h6⟩⟩
    obtain ⟨a, b, ⟨ha, hb, ea, eb⟩, hc⟩ := key
    subst ea eb
    have no : ¬ hqP pa bf a b → ok (some ((-3 : Int32), Hn)) (fun o => o.1 = r ∧ QH ht' o.2) := fun hh => by
      rcases hc with ⟨_, e0, e1⟩ | ⟨h2, _⟩
      · subst e0 e1
        exact ok_s ⟨rfl, hH⟩
      · exact absurd h2 hh
    refine ok_f (fun e => (tf_0 (q_isPat (nI a) (by omega))).mp e ⟨a, ha, rfl⟩) ?_
    refine ok_f (fun e => (tf_0 (q_isPat (nI b) (by omega))).mp e ⟨b, hb, rfl⟩) ?_
    refine ok_bn1 _ (q_isReq hnp ha hO) (fun z hz => ok_b _ (tf_0 hz) (fun g => no (fun q => g q.1.1)) (fun g1 => ?_))
    refine ok_bn1 _ (q_isReq hnp hb hO) (fun z hz => ok_b _ (tf_0 hz) (fun g => no (fun q => g q.1.2)) (fun g2 => ?_))
    refine ok_b (a = b) (nI_eq (by omega) (by omega)) (fun g => no (fun q => q.2.1 g)) (fun g3 => ?_)
    refine ok_bn1 _ (ok_e (q_before hn hnp hw hH (show a < 8 by omega))) (fun z e => ?_)
    subst e
    have hb8 := hw.2.2.2.2.1 a
    refine ok_b _ (q_bit (by omega) (by omega)) (fun g4 => no (fun q => q.2.2 g4)) (fun g4 => ?_)
    have hok : hqP pa bf a b := ⟨⟨Classical.not_not.mp g1, Classical.not_not.mp g2⟩, g3, g4⟩
    rcases hc with ⟨h2, _⟩ | ⟨_, e0, e1⟩
    · exact absurd hok h2
    · subst e0 e1
      rw [i8]
      refine ok_gd (8 * a + b) rfl (by omega) (by decide) ?_
      rw [nI_clamp (by omega : 8 * a + b < 2 ^ 31), nar_01 (Or.inr rfl)]
      refine ok_nm (ok_s ⟨rfl, fun x y hx hy => ?_⟩)
      simp only
      by_cases e : x = a ∧ y = b
      · obtain ⟨e1, e2⟩ := e
        subst e1 e2
        rw [pk_us]
        exact tf_t (Or.inr ⟨rfl, rfl⟩)
      · rw [pk_un (by omega)]
        exact tf_iff (hH x y hx hy) ⟨Or.inl, fun h => h.elim id (fun h2 => absurd h2 e)⟩
