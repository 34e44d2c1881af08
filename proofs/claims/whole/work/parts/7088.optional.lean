/-! optional, of program and reference -/
def oqP (pa an : Nat → Nat) (hm a b : Nat) : Prop := pa a = 0 ∧ ¬ hm.testBit a = true ∧ ¬ (an b).testBit a = true
def anU (an : Nat → Nat) (a b : Nat) : Nat → Nat := fun x => if (an x).testBit a = true then an x ||| an b else an x
def newO (np : Nat) (pa an : Nat → Nat) (hm : Nat) (x1 x2 r : Int32) (pa' an' : Nat → Nat) : Prop := ((¬ ∃ a b, P2 np x1 x2 a b) ∧ r = -1 ∧ pa' = pa ∧ an' = an) ∨ (∃ a b, P2 np x1 x2 a b ∧ ¬ oqP pa an hm a b ∧ r = -3 ∧ pa' = pa ∧ an' = an) ∨ (∃ a b, P2 np x1 x2 a b ∧ oqP pa an hm a b ∧ r = 1 ∧ pa' = fU pa a (b + 1) ∧ an' = anU an a b)
theorem newO_ex (np : Nat) (pa an : Nat → Nat) (hm : Nat) (x1 x2 : Int32) : ∃ r pa' an', newO np pa an hm x1 x2 r pa' an' := by
  by_cases h : ∃ a b, P2 np x1 x2 a b
  · obtain ⟨a, b, hab⟩ := h
    by_cases h2 : oqP pa an hm a b
    · exact ⟨_, _, _, Or.inr (Or.inr ⟨a, b, hab, h2, rfl, rfl, rfl⟩)⟩
    · exact ⟨_, _, _, Or.inr (Or.inl ⟨a, b, hab, h2, rfl, rfl, rfl⟩)⟩
  · exact ⟨_, _, _, Or.inl ⟨h, rfl, rfl, rfl⟩⟩
theorem newO_keep {np hm : Nat} {pa an td bf pa' an' : Nat → Nat} {ht : Nat → Nat → Prop} {x1 x2 r : Int32} (hw : HW np pa bf hm ht) (hc : AC np pa an) (hf : fresh np pa td bf) (h : newO np pa an hm x1 x2 r pa' an') : HW np pa' bf hm ht ∧ AC np pa' an' ∧ fresh np pa' td bf := by
  rcases h with ⟨_, _, e1, e2⟩ | ⟨a, b, _, _, _, e1, e2⟩ | ⟨a, b, h1, h2, _, e1, e2⟩
  · subst e1 e2
    exact ⟨hw, hc, hf⟩
  · subst e1 e2
    exact ⟨hw, hc, hf⟩
  · subst e1 e2
    refine ⟨⟨fun x y k => ?_, hw.2⟩, AC_hang hc h1.1 h1.2.1 h2.1 h2.2.2, fun p hp => ?_⟩
    · obtain ⟨g1, g2, g3⟩ := hw.1 x y k
      have nx : x ≠ a := fun e => h2.2.1 ((hw.2.2.2.2.2.2 a).mpr ⟨y, Or.inl (e ▸ k)⟩)
      have ny : y ≠ a := fun e => h2.2.1 ((hw.2.2.2.2.2.2 a).mpr ⟨x, Or.inr (e ▸ k)⟩)
      exact ⟨⟨g1.1, by rw [fU_n nx]; exact g1.2⟩, ⟨g2.1, by rw [fU_n ny]; exact g2.2⟩, g3⟩
    · have := h1.1
      obtain ⟨f1, f2⟩ := hf p hp
      exact ⟨by rw [fU_n (by omega)]; exact f1, f2⟩
theorem c_optional {n np hm : Nat} {pa an pa' an' : Nat → Nat} {x1 x2 r rq : Int32} {Pr : Nat → Int32} (hn : 8 < n) (hnp : np ≤ 8) (hhm : hm < 256) (hc : AC np pa an) (hr : isS rq (fun p => pa p = 0) np) (hP : paH pa np Pr) (h : newO np pa an hm x1 x2 r pa' an') :
    ok (f_JoinOrder_optional n x1 x2 rq (nI hm) (nI np) Pr) (fun o => o.1 = r ∧ isS o.2.1 (fun p => pa' p = 0) np ∧ paH pa' np o.2.2) := by
  rw [f_JoinOrder_optional_u]
  rcases h with ⟨h1, e0, e1, e2⟩ | h
  · subst e0 e1 e2
    refine ok_b _ (tf_0 (c_hasP x1 (by omega))) (fun _ => ok_s ⟨rfl, hr, hP⟩) (fun g1 => ?_)
    refine ok_b _ (tf_0 (c_hasP x2 (by omega))) (fun _ => ok_s ⟨rfl, hr, hP⟩) (fun g2 => ?_)
    obtain ⟨a, ha, ea⟩ := Classical.not_not.mp g1
    obtain ⟨b, hb, eb⟩ := Classical.not_not.mp g2
    exact absurd ⟨a, b, ha, hb, ea, eb⟩ h1
  · have key : ∃ a b, P2 np x1 x2 a b ∧ ((¬ oqP pa an hm a b ∧ r = -3 ∧ pa' = pa) ∨ (oqP pa an hm a b ∧ r = 1 ∧ pa' = fU pa a (b + 1))) := by
      rcases h with ⟨a, b, h1, h2, h3, h4, _⟩ | ⟨a, b, h1, h2, h3, h4, _⟩
      · exact ⟨a, b, h1, Or.inl ⟨h2, h3, h4⟩⟩
      · exact ⟨a, b, h1, Or.inr ⟨h2, h3, h4⟩⟩
    obtain ⟨a, b, ⟨ha, hb, ea, eb⟩, hcs⟩ := key
    subst ea eb
    have no : ¬ oqP pa an hm a b → ok (some ((-3 : Int32), rq, Pr)) (fun o => o.1 = r ∧ isS o.2.1 (fun p => pa' p = 0) np ∧ paH pa' np o.2.2) := fun hh => by
      rcases hcs with ⟨_, e0, e1⟩ | ⟨h2, _⟩
      · subst e0 e1
        exact ok_s ⟨rfl, hr, hP⟩
      · exact absurd h2 hh
    refine ok_f (fun e => (tf_0 (c_hasP (nI a) (by omega))).mp e ⟨a, ha, rfl⟩) ?_
    refine ok_f (fun e => (tf_0 (c_hasP (nI b) (by omega))).mp e ⟨b, hb, rfl⟩) ?_
    rw [f_Patterns_isRequired_u, f_Patterns_isHinted_u]
    refine ok_b _ (tf_0 (isS_in hr (by omega))) (fun g => no (fun q => g ⟨ha, q.1⟩)) (fun g1 => ?_)
    refine ok_b _ (tf_0 (m_in (m := hm) (p := a) (by omega) (by omega))) (fun g2 => ?_) (fun g => no (fun q => q.2.1 (Classical.not_not.mp g)))
    refine ok_bn1 _ (c_hangs hn hnp hb ha hP) (fun z hz => ?_)
    have hz := tf_iff hz (chn_iff hnp hc hb)
    refine ok_b _ (tf_0 hz) (fun g3 => ?_) (fun g => no (fun q => q.2.2 (Classical.not_not.mp g)))
    have hok : oqP pa an hm a b := ⟨(Classical.not_not.mp g1).2, g2, g3⟩
    rcases hcs with ⟨h2, _⟩ | ⟨_, e0, e1⟩
    · exact absurd hok h2
    · subst e0 e1
      refine ok_bn2 (fun o => isS o.1 (fun p => fU pa a (b + 1) p = 0) np ∧ paH (fU pa a (b + 1)) np o.2) ?_ (fun u v huv => ok_s ⟨rfl, huv⟩)
      rw [f_Patterns_hang_u]
      refine ok_gd a rfl (by omega) (by decide) ?_
      obtain ⟨m, m1, m2, m3⟩ := hr
      subst m2
      rw [nI_clamp (by omega : a < 2 ^ 31), m_sh (by omega), m_not]
      refine ok_nm (ok_nm (ok_s ⟨⟨dif m (2 ^ a), Nat.lt_of_le_of_lt (dif_le _ _) m1, rfl, fun i hi => ?_⟩, fun p hp => ?_⟩))
      · rw [bit_dif (by omega), bit_p2, m3 i hi]
        dsimp only
        by_cases e : i = a
        · subst e
          rw [fU_s]
          exact ⟨fun q => absurd rfl q.2, fun q => absurd q.2 (by omega)⟩
        · rw [fU_n e]
          exact ⟨fun q => q.1, fun q => ⟨q, fun x => e x.symm⟩⟩
      · simp only
        by_cases e : p = a
        · subst e
          rw [fU_s, pk_us]
          exact ⟨by omega, (nI_pred b).symm⟩
        · rw [fU_n e, pk_un e]
          exact hP p hp
theorem q_isHin {n p : Nat} {ht : Nat → Nat → Prop} {Hn : Nat → Int32} (hn : 8 < n) (hp : p < 8) (hH : QH ht Hn) : ok (f_JoinOrderModel_isHinted n (nI p) Hn) (fun r => tf r (∃ k, k < 8 ∧ (ht p k ∨ ht k p))) := by
  rw [f_JoinOrderModel_isHinted_u]
  refine ok_bn1 (fun x => tf x (∃ k, k < 8 ∧ (ht p k ∨ ht k p))) ?_ (fun x hx => ok_gb (tf_01 hx) (ok_s hx))
  refine lpF (σ := Int32) (fun f i x => f_JoinOrderModel_isHinted_L0 n (nI p) Hn f x (nI i)) (fun i x => tf x (∃ k, k < i ∧ (ht p k ∨ ht k p))) 8 _ ?_ ?_ n 0 (0 : Int32) (by omega) (by omega) (tf_f (fun ⟨k, h, _⟩ => by omega))
  · intro f x hx
    rw [f_JoinOrderModel_isHinted_L0_s]
    exact ok_t (nI_le (Nat.le_refl 8) (by decide)) (ok_s hx)
  · intro f i x hi hx ih
    rw [f_JoinOrderModel_isHinted_L0_s, i8, i8]
    refine ok_f (nI_ge hi (by decide)) ?_
    refine ok_b _ (tf_0 hx) (fun g => ?_) (fun g => ?_)
    · refine ok_gd (8 * p + i) rfl (by omega) (by decide) ?_
      rw [nI_clamp (by omega : 8 * p + i < 2 ^ 31), nI_clamp (by omega : 8 * i + p < 2 ^ 31)]
      refine ok_b _ (tf_0 (hH p i hp hi)) (fun g1 => ?_) (fun g1 => ok_nmE (nI_1 i) (ih _ (tf_t ⟨i, by omega, Or.inl (Classical.not_not.mp g1)⟩)))
      refine ok_gd (8 * i + p) rfl (by omega) (by decide) ?_
      refine ok_b _ (tf_0 (hH i p hi hp)) (fun g2 => ok_nmE (nI_1 i) (ih _ (tf_f ?_))) (fun g2 => ok_nmE (nI_1 i) (ih _ (tf_t ⟨i, by omega, Or.inr (Classical.not_not.mp g2)⟩)))
      rintro ⟨k, hk, hk2⟩
      by_cases e : k = i
      · subst e
        exact hk2.elim g1 g2
      · exact g ⟨k, by omega, hk2⟩
    · obtain ⟨k, hk, hk2⟩ := Classical.not_not.mp g
      exact ok_nmE (nI_1 i) (ih _ (tf_t ⟨k, by omega, hk2⟩))
theorem q_optional {n np hm : Nat} {pa an bf pa' an' : Nat → Nat} {ht : Nat → Nat → Prop} {x1 x2 r : Int32} {Of Hn : Nat → Int32} (hn : 8 < n) (hnp : np ≤ 8) (hw : HW np pa bf hm ht) (hc : AC np pa an) (hO : ∀ p, p < np → pa p ≤ np ∧ Of p = nI (pa p) - 1) (hH : QH ht Hn) (h : newO np pa an hm x1 x2 r pa' an') :
    ok (f_JoinOrderModel_optional n x1 x2 (nI np) Of Hn) (fun o => o.1 = r ∧ ∀ p, p < np → pa' p ≤ np ∧ o.2 p = nI (pa' p) - 1) := by
  rw [f_JoinOrderModel_optional_u]
  rcases h with ⟨h1, e0, e1, e2⟩ | h
  · subst e0 e1 e2
    refine ok_b _ (tf_0 (q_isPat x1 (by omega))) (fun _ => ok_s ⟨rfl, hO⟩) (fun g1 => ?_)
    refine ok_b _ (tf_0 (q_isPat x2 (by omega))) (fun _ => ok_s ⟨rfl, hO⟩) (fun g2 => ?_)
    obtain ⟨a, ha, ea⟩ := Classical.not_not.mp g1
    obtain ⟨b, hb, eb⟩ := Classical.not_not.mp g2
    exact absurd ⟨a, b, ha, hb, ea, eb⟩ h1
  · have key : ∃ a b, P2 np x1 x2 a b ∧ ((¬ oqP pa an hm a b ∧ r = -3 ∧ pa' = pa) ∨ (oqP pa an hm a b ∧ r = 1 ∧ pa' = fU pa a (b + 1))) := by
      rcases h with ⟨a, b, h1, h2, h3, h4, _⟩ | ⟨a, b, h1, h2, h3, h4, _⟩
      · exact ⟨a, b, h1, Or.inl ⟨h2, h3, h4⟩⟩
      · exact ⟨a, b, h1, Or.inr ⟨h2, h3, h4⟩⟩
    obtain ⟨a, b, ⟨ha, hb, ea, eb⟩, hcs⟩ := key
    subst ea eb
    have no : ¬ oqP pa an hm a b → ok (some ((-3 : Int32), Of)) (fun o => o.1 = r ∧ ∀ p, p < np → pa' p ≤ np ∧ o.2 p = nI (pa' p) - 1) := fun hh => by
      rcases hcs with ⟨_, e0, e1⟩ | ⟨h2, _⟩
      · subst e0 e1
        exact ok_s ⟨rfl, hO⟩
      · exact absurd h2 hh
    refine ok_f (fun e => (tf_0 (q_isPat (nI a) (by omega))).mp e ⟨a, ha, rfl⟩) ?_
    refine ok_f (fun e => (tf_0 (q_isPat (nI b) (by omega))).mp e ⟨b, hb, rfl⟩) ?_
    refine ok_bn1 _ (q_isReq hnp ha hO) (fun z hz => ok_b _ (tf_0 hz) (fun g => no (fun q => g q.1)) (fun g1 => ?_))
    have hhm : (∃ k, k < 8 ∧ (ht a k ∨ ht k a)) ↔ hm.testBit a = true := by
      rw [hw.2.2.2.2.2.2 a]
      constructor
      · rintro ⟨k, _, h2⟩
        exact ⟨k, h2⟩
      · rintro ⟨k, h2⟩
        refine ⟨k, ?_, h2⟩
        rcases h2 with h2 | h2
        · have := (hw.1 a k h2).2.1.1
          omega
        · have := (hw.1 k a h2).1.1
          omega
    refine ok_bn1 _ (q_isHin hn (show a < 8 by omega) hH) (fun z hz => ?_)
    refine ok_b _ (tf_0 (tf_iff hz hhm)) (fun g2 => ?_) (fun g => no (fun q => q.2.1 (Classical.not_not.mp g)))
    have anb : (an b).testBit a = true ↔ a = b ∨ (pa b ≠ 0 ∧ (an (pa b - 1)).testBit a = true) := by
      by_cases h0 : pa b = 0
      · rw [(hc b hb).2.2.1 h0, bit_p2]
        exact ⟨fun x => Or.inl x.symm, fun x => x.elim Eq.symm (fun y => absurd h0 y.1)⟩
      · rw [((hc b hb).2.2.2.1 h0).2.2, bit_or, bit_p2]
        exact ⟨fun x => x.elim (fun y => Or.inr ⟨h0, y⟩) (fun y => Or.inl y.symm), fun x => x.elim (fun y => Or.inr y.symm) (fun y => Or.inl y.2)⟩
    refine ok_b (a = b) (nI_eq (by omega) (by omega)) (fun g => no (fun q => q.2.2 (anb.mpr (Or.inl g)))) (fun g3 => ?_)
    refine ok_bn1 _ (q_isOf hn hnp hc hO hb ha) (fun z hz => ?_)
    refine ok_b _ (tf_0 hz) (fun g4 => ?_) (fun g => no (fun q => q.2.2 (anb.mpr (Or.inr (Classical.not_not.mp g)))))
    have hok : oqP pa an hm a b := ⟨Classical.not_not.mp g1, g2, fun x => (anb.mp x).elim g3 g4⟩
    rcases hcs with ⟨h2, _⟩ | ⟨_, e0, e1⟩
    · exact absurd hok h2
    · subst e0 e1
      refine ok_gd a rfl (by omega) (by decide) ?_
      rw [nI_clamp (by omega : a < 2 ^ 31)]
      refine ok_nm (ok_s ⟨rfl, fun p hp => ?_⟩)
      simp only
      by_cases e : p = a
      · subst e
        rw [fU_s, pk_us]
        exact ⟨by omega, (nI_pred b).symm⟩
      · rw [fU_n e, pk_un e]
        exact hO p hp
