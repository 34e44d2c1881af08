/-! pattern, of the program and of the reference -/
def hasV (sl : Nat → Nat) (v : Nat) : Prop := ∃ k, k < 3 ∧ sl k = 32 + v
def CQ (np : Nat) (sl : Nat → Nat → Nat) (pa td : Nat → Nat) (rq Pc : Int32) (V H Td Pr : Nat → Int32) : Prop := np ≤ 8 ∧ Pc = nI np ∧ isS rq (fun p => pa p = 0) np ∧ VH (fun p v => p < np ∧ hasV (sl p) v) V H ∧ (∀ p, p < np → td p ≤ 101 ∧ Td p = nI (td p) - 1) ∧ paH pa np Pr
def fresh (np : Nat) (pa td bf : Nat → Nat) : Prop := ∀ p, np ≤ p → pa p = 0 ∧ td p = 0 ∧ bf p = 0
/-- the slots with a new pattern -/
def slN (np : Nat) (sl : Nat → Nat → Nat) (a b c : Nat) : Nat → Nat → Nat := fun p k => if p = np then (if k = 0 then a else if k = 1 then b else c) else sl p k
theorem slN_new {np a b c : Nat} {sl : Nat → Nat → Nat} : slN np sl a b c np = fun k => if k = 0 then a else if k = 1 then b else c := by
  funext k
  unfold slN
  rw [if_pos rfl]
theorem slN_old {np a b c p : Nat} {sl : Nat → Nat → Nat} (h : p ≠ np) : slN np sl a b c p = sl p := by
  funext k
  unfold slN
  rw [if_neg h]
noncomputable def MA (TL : List Nat) (np : Nat) (sl : Nat → Nat → Nat) (w : Nat → Nat) (i : Nat) : Nat → List Nat := fun q => if q = np then (TL.take i).filter (fitB w) else MN TL np sl q
theorem MA_s {TL : List Nat} {np i : Nat} {sl : Nat → Nat → Nat} {w : Nat → Nat} (hi : i < TL.length) : addM (MA TL np sl w i) np w TL[i] = MA TL np sl w (i + 1) := by
  funext q
  unfold addM MA
  by_cases e : q = np
  · rw [if_pos e, if_pos e, if_pos rfl, List.take_succ_eq_append_getElem hi, filter_snoc]
    by_cases hf : fitB w TL[i] = true
    · rw [if_pos hf, if_pos hf]
    · rw [if_neg hf, if_neg hf, List.append_nil]
  · rw [if_neg e, if_neg e, if_neg e]
theorem MA_0 {TL : List Nat} {np : Nat} {sl : Nat → Nat → Nat} {w : Nat → Nat} : MA TL np sl w 0 = MN TL np sl := by
  funext q
  unfold MA
  by_cases e : q = np
  · rw [if_pos e]
    unfold MN
    rw [if_neg (by omega)]
    rfl
  · rw [if_neg e]
theorem MA_end {TL : List Nat} {np a b c : Nat} {sl : Nat → Nat → Nat} : MA TL np sl (slN np sl a b c np) TL.length = MN TL (np + 1) (slN np sl a b c) := by
  funext q
  unfold MA
  by_cases e : q = np
  · subst e
    rw [if_pos rfl, List.take_length]
    unfold MN
    rw [if_pos (by omega)]
  · rw [if_neg e]
    unfold MN
    by_cases h : q < np
    · rw [if_pos h, if_pos (by omega), slN_old e]
    · rw [if_neg h, if_neg (by omega)]
theorem c_addL {n np : Nat} {TL : List Nat} {sl : Nat → Nat → Nat} {w : Nat → Nat} {Tp S mc ms ts : Nat → Int32} (hn : 80 < n) (hp : np < 8) (hl : TL.length ≤ 80) (hlt : ∀ x, x ∈ TL → x < 32768) (hT : hI Tp 0 TL) (hS : slH S np w) (h : PM (MN TL np sl) mc ms ts) :
    ok (f_Patterns_add_L0 n (nI np) (nI TL.length) Tp S n mc ms ts (0 : Int32)) (fun r => PM (MA TL np sl w TL.length) r.1 r.2.1 r.2.2) := by
  refine lpF (σ := (Nat → Int32) × (Nat → Int32) × (Nat → Int32)) (fun f i s => f_Patterns_add_L0 n (nI np) (nI TL.length) Tp S f s.1 s.2.1 s.2.2 (nI i)) (fun i s => PM (MA TL np sl w i) s.1 s.2.1 s.2.2) TL.length _ ?_ ?_ n 0 (mc, ms, ts) (by omega) (by omega) (by rw [MA_0]; exact h)
  · intro f s hI
    rw [f_Patterns_add_L0_s]
    exact ok_t (nI_le (Nat.le_refl _) (by omega)) (ok_s hI)
  · intro f i s hi hI ih
    rw [f_Patterns_add_L0_s]
    refine ok_f (nI_ge hi (by omega)) ?_
    refine ok_gd i rfl (by omega) (by decide) ?_
    have hx : TL[i]? = some TL[i] := List.getElem?_eq_getElem hi
    have hP := hT i _ hx
    rw [Nat.zero_add] at hP
    have hlx := hlt _ (List.getElem_mem hi)
    rw [nI_clamp (by omega : i < 2 ^ 31), hP]
    have hmi : ((TL.take i).filter (fitB w)).length ≤ i := Nat.le_trans (List.length_filter_le _ _) (List.length_take_le i TL)
    refine ok_bn3 _ (c_meet (by omega) hp hlx hS hI (fun q _ => ?_) ?_) (fun a b c h2 => ?_)
    · unfold MA
      split
      · omega
      · exact Nat.le_trans (MN_len q) hl
    · unfold MA
      rw [if_pos rfl]
      omega
    · rw [MA_s hi] at h2
      exact ok_nmE (nI_1 i) (ih (a, b, c) h2)
theorem c_pattern {n np : Nat} {TL : List Nat} {sl : Nat → Nat → Nat} {pa td bf : Nat → Nat} {x1 x2 x3 rq Pc Tc : Int32} {Tp S V H Td Pr mc ms ts : Nat → Int32} (hn : 80 < n) (hf : fresh np pa td bf) (h : CT TL np sl Tc Tp S mc ms ts) (hq : CQ np sl pa td rq Pc V H Td Pr) :
    ok (f_JoinOrder_pattern n x1 x2 x3 rq Pc S V H Td Pr Tc Tp mc ms ts) (fun o => o.1 = (sPat np sl x1 x2 x3).1 ∧ CT TL (sPat np sl x1 x2 x3).2.1 (sPat np sl x1 x2 x3).2.2 Tc Tp o.2.2.2.1 o.2.2.2.2.2.2.2.2.1 o.2.2.2.2.2.2.2.2.2.1 o.2.2.2.2.2.2.2.2.2.2 ∧ CQ (sPat np sl x1 x2 x3).2.1 (sPat np sl x1 x2 x3).2.2 pa td o.2.1 o.2.2.1 o.2.2.2.2.1 o.2.2.2.2.2.1 o.2.2.2.2.2.2.1 o.2.2.2.2.2.2.2.1) := by
  rw [f_JoinOrder_pattern_u]
  refine ok_b _ (tf_0 (c_isSlot x1)) (fun h1 => ok_s (by rw [sPat_no (fun h => h1 h.1)]; exact ⟨rfl, h, hq⟩)) (fun h1 => ?_)
  refine ok_b _ (tf_0 (c_isSlot x2)) (fun h2 => ok_s (by rw [sPat_no (fun h => h2 h.2.1)]; exact ⟨rfl, h, hq⟩)) (fun h2 => ?_)
  refine ok_b _ (tf_0 (c_isSlot x3)) (fun h3 => ok_s (by rw [sPat_no (fun h => h3 h.2.2)]; exact ⟨rfl, h, hq⟩)) (fun h3 => ?_)
  obtain ⟨a, ha, e1⟩ := slt_iff.mp (Classical.not_not.mp h1)
  obtain ⟨b, hb, e2⟩ := slt_iff.mp (Classical.not_not.mp h2)
  obtain ⟨c, hc, e3⟩ := slt_iff.mp (Classical.not_not.mp h3)
  subst e1 e2 e3
  obtain ⟨g1, g2, g3, g4, g5, g6, g7⟩ := id h
  obtain ⟨k1, k2, k3, k4, k5, k6⟩ := id hq
  subst g4 k2
  rw [sPat_at ha hb hc]
  refine ok_b (np < 8) (nI_ltI (b := 8) (by omega) (by decide)) (fun h4 => ?_) (fun h4 => ok_s (by rw [if_pos (by omega)]; exact ⟨rfl, h, hq⟩))
  rw [if_neg (by omega)]
  refine ok_bn11 (fun o => o.1 = nI np ∧ CT TL (np + 1) (slN np sl a b c) (nI TL.length) Tp o.2.2.2.1 o.2.2.2.2.2.2.2.2.1 o.2.2.2.2.2.2.2.2.2.1 o.2.2.2.2.2.2.2.2.2.2 ∧ CQ (np + 1) (slN np sl a b c) pa td o.2.1 o.2.2.1 o.2.2.2.2.1 o.2.2.2.2.2.1 o.2.2.2.2.2.2.1 o.2.2.2.2.2.2.2.1) ?_ (fun _ _ _ _ _ _ _ _ _ _ _ hh => ok_s hh)
  rw [f_Patterns_add_u]
  refine ok_nmE (nI_1 np) ?_
  refine ok_bn3 _ (c_putSlot (k := 0) h4 (by omega) ha k4) (fun S1 V1 H1 q1 => ?_)
  obtain ⟨q1, r1⟩ := q1
  simp only at q1 r1
  subst q1
  refine ok_bn3 _ (c_putSlot (k := 1) h4 (by omega) hb r1) (fun S2 V2 H2 q2 => ?_)
  obtain ⟨q2, r2⟩ := q2
  simp only at q2 r2
  subst q2
  refine ok_bn3 _ (c_putSlot (k := 2) h4 (by omega) hc r2) (fun S3 V3 H3 q3 => ?_)
  obtain ⟨q3, r3⟩ := q3
  simp only at q3 r3
  refine ok_gd np rfl h4 (by decide) ?_
  rw [nI_clamp (by omega : np < 2 ^ 31)]
  refine ok_nm (ok_nm (ok_nm ?_))
  have hS3 : slH S3 np (slN np sl a b c np) := fun k hk => by
    rw [slN_new]
    have hk3 : k = 0 ∨ k = 1 ∨ k = 2 := by omega
    rcases hk3 with rfl | rfl | rfl
    · refine ⟨ha, ?_⟩
      rw [q3, pk_un (by omega), pk_un (by omega), pk_us]
      rfl
    · refine ⟨hb, ?_⟩
      rw [q3, pk_un (by omega), pk_us]
      rfl
    · refine ⟨hc, ?_⟩
      rw [q3, pk_us]
      rfl
  refine ok_bn3 _ (c_addL hn h4 g1 g2 g5 hS3 g7) (fun a1 a2 a3 hm => ok_s ⟨rfl, ⟨g1, g2, by omega, rfl, g5, fun p hp => ?_, ?_⟩, by omega, rfl, ?_, ?_, fun p hp => ?_, fun p hp => ?_⟩)
  · simp only
    by_cases e : p = np
    · subst e
      exact hS3
    · rw [slN_old e]
      intro k hk
      refine ⟨(g6 p (by omega) k hk).1, ?_⟩
      rw [q3, pk_un (by omega), pk_un (by omega), pk_un (by omega)]
      exact (g6 p (by omega) k hk).2
  · rw [← MA_end]
    exact hm
  · exact isS_t k3 h4 (hf np (Nat.le_refl np)).1
  · refine VH_iff r3 (fun q v hq8 hv => ?_)
    unfold hasV
    by_cases e : q = np
    · subst e
      rw [slN_new]
      constructor
      · rintro (((h5 | h5) | h5) | h5)
        · omega
        · exact ⟨by omega, 0, by omega, h5.2⟩
        · exact ⟨by omega, 1, by omega, h5.2⟩
        · exact ⟨by omega, 2, by omega, h5.2⟩
      · rintro ⟨-, k, hk, h5⟩
        have hk3 : k = 0 ∨ k = 1 ∨ k = 2 := by omega
        rcases hk3 with rfl | rfl | rfl
        · exact Or.inl (Or.inl (Or.inr ⟨rfl, h5⟩))
        · exact Or.inl (Or.inr ⟨rfl, h5⟩)
        · exact Or.inr ⟨rfl, h5⟩
    · rw [slN_old e]
      constructor
      · rintro (((h5 | h5) | h5) | h5)
        · exact ⟨by omega, h5.2⟩
        · exact absurd h5.1 e
        · exact absurd h5.1 e
        · exact absurd h5.1 e
      · rintro ⟨h5, h6⟩
        exact Or.inl (Or.inl (Or.inl ⟨by omega, h6⟩))
  · simp only
    by_cases e : p = np
    · subst e
      rw [pk_us, (hf p (Nat.le_refl p)).2.1]
      exact ⟨by omega, by decide⟩
    · rw [pk_un e]
      exact k5 p (by omega)
  · simp only
    by_cases e : p = np
    · subst e
      rw [pk_us, (hf p (Nat.le_refl p)).1]
      exact ⟨by omega, by decide⟩
    · rw [pk_un e]
      exact ⟨Nat.le_succ_of_le (k6 p (by omega)).1, (k6 p (by omega)).2⟩
/-- the reference's patterns -/
def QQ (np : Nat) (sl : Nat → Nat → Nat) (pa td : Nat → Nat) (Rc : Int32) (C Td Of : Nat → Int32) : Prop := np ≤ 8 ∧ Rc = nI np ∧ (∀ p, p < np → ∀ k, k < 3 → sl p k < 40 ∧ C (3 * p + k) = slv (sl p k)) ∧ (∀ p, p < np → td p ≤ 101 ∧ Td p = nI (td p) - 1) ∧ (∀ p, p < np → pa p ≤ np ∧ Of p = nI (pa p) - 1)
theorem q_pattern {np : Nat} {sl : Nat → Nat → Nat} {pa td bf : Nat → Nat} {x1 x2 x3 Rc : Int32} {C Td Of : Nat → Int32} (hf : fresh np pa td bf) (h : QQ np sl pa td Rc C Td Of) :
    ok (f_JoinOrderModel_pattern x1 x2 x3 Rc C Td Of) (fun o => o.1 = (sPat np sl x1 x2 x3).1 ∧ QQ (sPat np sl x1 x2 x3).2.1 (sPat np sl x1 x2 x3).2.2 pa td o.2.1 o.2.2.1 o.2.2.2.1 o.2.2.2.2) := by
  rw [f_JoinOrderModel_pattern_u]
  refine ok_b _ (tf_0 (q_isCell x1)) (fun h1 => ok_s (by rw [sPat_no (fun h => h1 h.1)]; exact ⟨rfl, h⟩)) (fun h1 => ?_)
  refine ok_b _ (tf_0 (q_isCell x2)) (fun h2 => ok_s (by rw [sPat_no (fun h => h2 h.2.1)]; exact ⟨rfl, h⟩)) (fun h2 => ?_)
  refine ok_b _ (tf_0 (q_isCell x3)) (fun h3 => ok_s (by rw [sPat_no (fun h => h3 h.2.2)]; exact ⟨rfl, h⟩)) (fun h3 => ?_)
  obtain ⟨a, ha, e1⟩ := slt_iff.mp (Classical.not_not.mp h1)
  obtain ⟨b, hb, e2⟩ := slt_iff.mp (Classical.not_not.mp h2)
  obtain ⟨c, hc, e3⟩ := slt_iff.mp (Classical.not_not.mp h3)
  subst e1 e2 e3
  obtain ⟨k1, k2, k3, k4, k5⟩ := id h
  subst k2
  rw [sPat_at ha hb hc]
  refine ok_b (np = 8) (nI_eq (b := 8) (by omega) (by decide)) (fun h4 => ok_s (by rw [if_pos (by omega)]; exact ⟨rfl, h⟩)) (fun h4 => ?_)
  rw [if_neg (by omega), i3m, show (2 : Int32) = nI 2 from rfl, show nI (3 * np) + (1 : Int32) = nI (3 * np + 1) from i3k _ 1, i3k]
  show ok _ (fun o : Int32 × Int32 × (Nat → Int32) × (Nat → Int32) × (Nat → Int32) => o.1 = nI np ∧ QQ (np + 1) (slN np sl a b c) pa td o.2.1 o.2.2.1 o.2.2.2.1 o.2.2.2.2)
  refine ok_gd (3 * np) rfl (by omega) (by decide) (ok_nm ?_)
  refine ok_gd (3 * np + 1) rfl (by omega) (by decide) (ok_nm ?_)
  refine ok_gd (3 * np + 2) rfl (by omega) (by decide) (ok_nm ?_)
  refine ok_gd np rfl (by omega) (by decide) ?_
  rw [nI_clamp (by omega : 3 * np < 2 ^ 31), nI_clamp (by omega : 3 * np + 1 < 2 ^ 31), nI_clamp (by omega : 3 * np + 2 < 2 ^ 31), nI_clamp (by omega : np < 2 ^ 31)]
  refine ok_nm (ok_nm (ok_nmE (nI_1 np) (ok_s ⟨nI_pred np, by omega, rfl, fun p hp k hk => ?_, fun p hp => ?_, fun p hp => ?_⟩)))
  · simp only
    by_cases e : p = np
    · subst e
      rw [slN_new]
      have hk3 : k = 0 ∨ k = 1 ∨ k = 2 := by omega
      rcases hk3 with rfl | rfl | rfl
      · refine ⟨ha, ?_⟩
        rw [pk_un (by omega), pk_un (by omega), Nat.add_zero, pk_us]
        rfl
      · refine ⟨hb, ?_⟩
        rw [pk_un (by omega), pk_us]
        rfl
      · refine ⟨hc, ?_⟩
        rw [pk_us]
        rfl
    · rw [slN_old e, pk_un (by omega), pk_un (by omega), pk_un (by omega)]
      exact k3 p (by omega) k hk
  · simp only
    by_cases e : p = np
    · subst e
      rw [pk_us, (hf p (Nat.le_refl p)).2.1]
      exact ⟨by omega, by decide⟩
    · rw [pk_un e]
      exact k4 p (by omega)
  · simp only
    by_cases e : p = np
    · subst e
      rw [pk_us, (hf p (Nat.le_refl p)).1]
      exact ⟨by omega, by decide⟩
    · rw [pk_un e]
      exact ⟨Nat.le_succ_of_le (k5 p (by omega)).1, (k5 p (by omega)).2⟩
