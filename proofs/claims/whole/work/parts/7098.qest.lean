/-! estimateOf, of the reference -/
theorem cdiv_mod {a d : Nat} (hd : 0 < d) : cdiv a d = a / d + (if a % d = 0 then 0 else 1) := by
  unfold cdiv
  have h := Nat.div_add_mod a d
  have hr := Nat.mod_lt a hd
  by_cases h0 : a % d = 0
  · rw [if_pos h0]
    have e : a + d - 1 = d * (a / d) + (d - 1) := by omega
    rw [e, Nat.mul_add_div hd, Nat.div_eq_of_lt (show d - 1 < d by omega)]
  · rw [if_neg h0]
    have e : a + d - 1 = d * (a / d + 1) + (a % d - 1) := by
      rw [Nat.mul_add, Nat.mul_one]
      omega
    rw [e, Nat.mul_add_div hd, Nat.div_eq_of_lt (show a % d - 1 < d by omega), Nat.add_zero]
theorem dc_dq {s s' : Nat → Nat} {m m' W d d' : Nat} (hm : ∀ k, m'.testBit k = true ↔ m.testBit k = true ∧ 0 < s k) (hs : ∀ k, m'.testBit k = true → s' k = s k) (hq : sameQ W d' d) : ∀ k, sameQ W (dqN s' m' d' k).1 (dcN s m W d k).1 ∧ (dqN s' m' d' k).2 = (dcN s m W d k).2 := by
  intro k
  induction k with
  | zero => exact ⟨hq, rfl⟩
  | succ k ih =>
    obtain ⟨h1, h2⟩ := ih
    have e1 : dqN s' m' d' (k + 1) = if m'.testBit k = true then (if (dqN s' m' d' k).2 = 0 then ((dqN s' m' d' k).1, s' k) else ((dqN s' m' d' k).1 * max (dqN s' m' d' k).2 (s' k), min (dqN s' m' d' k).2 (s' k))) else dqN s' m' d' k := rfl
    have e2 : dcN s m W d (k + 1) = if m.testBit k = true ∧ 0 < s k then (if (dcN s m W d k).2 = 0 then ((dcN s m W d k).1, s k) else (cutM W (dcN s m W d k).1 (max (dcN s m W d k).2 (s k)), min (dcN s m W d k).2 (s k))) else dcN s m W d k := rfl
    by_cases hb : m'.testBit k = true
    · have hb2 := (hm k).mp hb
      rw [e1, e2, if_pos hb, if_pos hb2, hs k hb, h2]
      by_cases hl : (dcN s m W d k).2 = 0
      · rw [if_pos hl, if_pos hl]
        exact ⟨h1, rfl⟩
      · rw [if_neg hl, if_neg hl]
        exact ⟨sameQ_mul h1 (by have := hb2.2; omega), rfl⟩
    · rw [e1, e2, if_neg hb, if_neg (fun h => hb ((hm k).mpr h))]
      exact ⟨h1, h2⟩
theorem dcN_stop {s : Nat → Nat} {m W d j : Nat} (h : ∀ i, j ≤ i → ¬ (m.testBit i = true ∧ 0 < s i)) : ∀ k, j ≤ k → dcN s m W d k = dcN s m W d j := by
  intro k
  induction k with
  | zero =>
    intro hk
    have e : j = 0 := by omega
    rw [e]
  | succ k ih =>
    intro hk
    by_cases e : j = k + 1
    · rw [e]
    · rw [← ih (by omega)]
      show (if m.testBit k = true ∧ 0 < s k then _ else _) = _
      rw [if_neg (h k (by omega))]
def dcA (rs : Nat → Nat → Nat) (S W np : Nat) : Nat → Nat
  | 0 => 1
  | v + 1 => (dcN (fun p => rs p v) S W (dcA rs S W np v) np).1
theorem dcA_ok {rs : Nat → Nat → Nat} {S W np : Nat} (hW : 0 < W) (h : ∀ p v, rs p v ≤ 32) : ∀ v, dcA rs S W np v ≤ 32 * W := by
  intro v
  induction v with
  | zero =>
    show 1 ≤ 32 * W
    omega
  | succ v ih => exact (dcN_ok (np := np) ih (fun k _ => h k v) np (Nat.le_refl _)).1
theorem dcA_same {rs spr : Nat → Nat → Nat} {hv : Nat → Nat} {S W np : Nat} (hz : ∀ p v, np ≤ p → rs p v = 0) (h1 : ∀ v, v < 8 → ∀ p, (hv v).testBit p = true ↔ 0 < rs p v) (h2 : ∀ v, v < 8 → ∀ p, (hv v).testBit p = true → spr p v = rs p v) (hnp : np ≤ 8) : ∀ v, v ≤ 8 → sameQ W (dqA spr hv S v) (dcA rs S W np v) := by
  intro v
  induction v with
  | zero => intro _; exact Or.inl rfl
  | succ v ih =>
    intro hv8
    have h := (dc_dq (s := fun p => rs p v) (s' := fun p => spr p v) (m := S) (m' := S &&& hv v) (W := W) (d := dcA rs S W np v) (d' := dqA spr hv S v) (fun k => ⟨fun h => ⟨((bit_and _ _ _).mp h).1, (h1 v (by omega) k).mp ((bit_and _ _ _).mp h).2⟩, fun h => (bit_and _ _ _).mpr ⟨h.1, (h1 v (by omega) k).mpr h.2⟩⟩) (fun k hk => h2 v (by omega) k ((bit_and _ _ _).mp hk).2) (ih (by omega)) 8).1
    have hst := dcN_stop (s := fun p => rs p v) (m := S) (W := W) (d := dcA rs S W np v) (j := np) (fun i hi hh => by
      have h3 : 0 < rs i v := hh.2
      have := hz i v hi
      omega) 8 hnp
    rw [hst] at h
    exact h
theorem prd_stop {f : Nat → Nat} {m j : Nat} (h : ∀ i, j ≤ i → ¬ m.testBit i = true) : ∀ k, j ≤ k → prd f m k = prd f m j := by
  intro k
  induction k with
  | zero =>
    intro hk
    have e : j = 0 := by omega
    rw [e]
  | succ k ih =>
    intro hk
    by_cases e : j = k + 1
    · rw [e]
    · rw [← ih (by omega)]
      show prd f m k * (if m.testBit k = true then _ else _) = _
      rw [if_neg (h k (by omega)), Nat.mul_one]
theorem q_est {n np S W : Nat} {sz : Nat → Nat} {rs : Nat → Nat → Nat} {Qz Qs : Nat → Int32} (hn : 8 < n) (hnp : np ≤ 8) (hS : S < 256) (hW : 32 * W < 2 ^ 62) (hW0 : 0 < W) (eW : (10000000000000000 : Int64) = lN W) (hz : ∀ p, p < np → sz p ≤ 100 ∧ Qz p = nI (sz p)) (hP : prd sz S np ≤ W) (hr : ∀ p v, rs p v ≤ 32) (hs : ∀ p, p < np → ∀ v, v < 8 → Qs (8 * p + v) = nI (rs p v)) (hd0 : 0 < dcA rs S W np 8) :
    f_JoinOrderModel_estimateOf n (nI S) (nI np) Qz Qs = some (lN (cdiv (prd sz S np) (dcA rs S W np 8))) := by
  apply ok_eq
  rw [f_JoinOrderModel_estimateOf_u]
  refine ok_bn1 (fun x => x = lN (prd sz S np)) ?_ (fun x e => ?_)
  · refine lpF (σ := Int64) (fun f i x => f_JoinOrderModel_estimateOf_L0 n (nI S) (nI np) Qz f x (nI i)) (fun i x => x = lN (prd sz S i)) np _ ?_ ?_ n 0 (1 : Int64) (by omega) (by omega) rfl
    · intro f x h
      rw [f_JoinOrderModel_estimateOf_L0_s]
      exact ok_t (nI_le (Nat.le_refl _) (by omega)) (ok_s h)
    · intro f i x hi h ih
      subst h
      rw [f_JoinOrderModel_estimateOf_L0_s]
      refine ok_f (nI_ge hi (by omega)) ?_
      refine ok_b _ (q_bit (by omega) (by omega)) (fun g => ?_) (fun g => ?_)
      · obtain ⟨z1, z2⟩ := hz i hi
        refine ok_gd i rfl (by omega) (by omega) ?_
        rw [nI_clamp (by omega : i < 2 ^ 31), z2, nI_l (by omega), lN_mul]
        refine ok_nm (ok_nmE (nI_1 i) (ih _ ?_))
        show _ = lN (prd sz S i * _)
        rw [if_pos g]
      · refine ok_nmE (nI_1 i) (ih _ ?_)
        show _ = lN (prd sz S i * _)
        rw [if_neg g, Nat.mul_one]
  · subst e
    have hk := dcA_ok (S := S) (np := np) hW0 hr
    refine ok_bn1 (fun x => x = lN (dcA rs S W np 8)) ?_ (fun x e => ?_)
    · refine lpF (σ := Int64) (fun f i x => f_JoinOrderModel_estimateOf_L1 n (nI S) (nI np) Qs f x (nI i)) (fun i x => x = lN (dcA rs S W np i)) 8 _ ?_ ?_ n 0 (1 : Int64) (by omega) (by omega) rfl
      · intro f x h
        rw [f_JoinOrderModel_estimateOf_L1_s]
        exact ok_t (nI_le (Nat.le_refl 8) (by decide)) (ok_s h)
      · intro f i x hi h ih
        subst h
        rw [f_JoinOrderModel_estimateOf_L1_s]
        refine ok_f (nI_ge hi (by decide)) ?_
        refine ok_bn1 _ (ok_e (q_div (s := fun p => rs p i) hn hnp hi hS hW eW (hk i) (fun p hp => ⟨hr p i, hs p hp i hi⟩))) (fun z e => ?_)
        subst e
        exact ok_nmE (nI_1 i) (ih _ rfl)
    · subst e
      have hdl := hk 8
      generalize prd sz S np = a at hP ⊢
      generalize dcA rs S W np 8 = d at hd0 hdl ⊢
      refine ok_gz (fun e => by have := (pk_lEQ (a := d) (b := 0) (by omega) (by omega)).mp e; omega) ?_
      have hml := Nat.mod_lt a hd0
      rw [pk_lRem (by omega) hd0 (by omega), pk_lDiv (by omega) hd0 (by omega), cdiv_mod hd0]
      refine ok_b (a % d ≤ 0) ((lg_cmp_le _ _).trans (pk_lLE (b := 0) (by omega) (by omega))) (fun g => ok_s ?_) (fun g => ok_s ?_)
      · show lN (a / d) + lN 0 = _
        rw [lN_add, if_pos (by omega)]
      · show lN (a / d) + lN 1 = _
        rw [lN_add, if_neg (by omega)]
/-- what both measure: sizes, spreads, which patterns have a variable -/
def MS (np : Nat) (sz : Nat → Nat) (spr rs : Nat → Nat → Nat) (hv : Nat → Nat) : Prop := (∀ p, sz p ≤ 100) ∧ (∀ p v, rs p v ≤ 32) ∧ (∀ p v, np ≤ p → rs p v = 0) ∧ (∀ v, v < 8 → ∀ p, (hv v).testBit p = true ↔ 0 < rs p v) ∧ (∀ v, v < 8 → ∀ p, (hv v).testBit p = true → spr p v = rs p v)
def QM (np : Nat) (sz : Nat → Nat) (rs : Nat → Nat → Nat) (Qz Qs : Nat → Int32) : Prop := (∀ p, p < np → Qz p = nI (sz p)) ∧ ∀ p, p < np → ∀ v, v < 8 → Qs (8 * p + v) = nI (rs p v)
theorem W8_lt : 32 * W8 < 2 ^ 62 := by decide
theorem W8_pos : 0 < W8 := by decide
theorem W8_eq : (10000000000000000 : Int64) = lN W8 := by decide
theorem W8_256 : W8 * 256 + W8 < 2 ^ 62 := by decide
theorem q_estE {n np S : Nat} {sz : Nat → Nat} {spr rs : Nat → Nat → Nat} {hv : Nat → Nat} {Qz Qs : Nat → Int32} (hn : 8 < n) (hnp : np ≤ 8) (hS : S < 2 ^ np) (hM : MS np sz spr rs hv) (hQ : QM np sz rs Qz Qs) : f_JoinOrderModel_estimateOf n (nI S) (nI np) Qz Qs = some (lN (estN sz spr hv S 8)) := by
  obtain ⟨m1, m2, m3, m4, m5⟩ := hM
  have h8 : (2 : Nat) ^ np ≤ 2 ^ 8 := Nat.pow_le_pow_right (by decide) hnp
  have hno : ∀ i, np ≤ i → ¬ S.testBit i = true := fun i hi hb => by
    have := bit_ltn hS hb
    omega
  have ep := prd_stop (f := sz) hno 8 hnp
  have hP : prd sz S np ≤ W8 := by
    rw [← ep]
    exact prd_le (fun k _ => m1 k) 8
  have hsm := dcA_same (S := S) (W := W8) m3 m4 m5 hnp 8 (Nat.le_refl 8)
  have hd0 : 0 < dcA rs S W8 np 8 := by
    have h0 := dqA_pos (spr := spr) (hv := hv) (S := S) 8
    rcases hsm with h | h
    · rw [← h]
      exact h0
    · exact Nat.lt_trans W8_pos h.2
  rw [est_dq, ep, sameQ_cdiv hsm hP]
  exact q_est hn hnp (by omega) W8_lt W8_pos W8_eq (fun p hp => ⟨m1 p, hQ.1 p hp⟩) hP m2 hQ.2 hd0
