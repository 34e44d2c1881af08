/-! fillTables, of the reference -/
theorem q_fill1any {n np S m : Nat} {Qe R0 : Nat → Int64} (hn : 8 < n) (hnp : np ≤ 8) (hS : S < 256) (hm : m < 256) : ok (f_JoinOrderModel_fillTables_L1 n (nI np) (nI S) Qe (nI m) n R0 (0 : Int32)) (fun R => ∀ T, T ≠ S → R T = R0 T) := by
  refine lpF (σ := Nat → Int64) (fun f i R => f_JoinOrderModel_fillTables_L1 n (nI np) (nI S) Qe (nI m) f R (nI i)) (fun _ R => ∀ T, T ≠ S → R T = R0 T) np _ ?_ ?_ n 0 R0 (by omega) (by omega) (fun _ _ => rfl)
  · intro f R h
    rw [f_JoinOrderModel_fillTables_L1_s]
    exact ok_t (nI_le (Nat.le_refl _) (by omega)) (ok_s h)
  · intro f i R hi h ih
    rw [f_JoinOrderModel_fillTables_L1_s]
    refine ok_f (nI_ge hi (by omega)) ?_
    have up : ∀ v : Int64, ∀ T, T ≠ S → vp_updL R S v T = R0 T := fun v T hT => by
      rw [pk_uLn hT]
      exact h T hT
    refine ok_if (fun _ => ?_) (fun _ => ok_nmE (nI_1 i) (ih _ h))
    rw [m_sh (by omega), m_or]
    have h5 : S ||| 2 ^ i < 256 := or_lt (k := 8) hS (p2_lt (by omega))
    refine ok_gd _ rfl h5 (by decide) ?_
    rw [nI_clamp (by omega : S < 2 ^ 31)]
    refine ok_if (fun _ => ok_nmE (nI_1 i) (ih _ h)) (fun _ => ok_nm ?_)
    refine ok_if (fun _ => ok_nm (ok_nmE (nI_1 i) (ih _ (up _)))) (fun _ => ?_)
    exact ok_if (fun _ => ok_nm (ok_nm (ok_nmE (nI_1 i) (ih _ (up _))))) (fun _ => ok_nm (ok_nmE (nI_1 i) (ih _ (up _))))
theorem q_fill1 {n np S m W : Nat} {E C : Nat → Nat} {Qe R0 : Nat → Int64} {r0 : Int64} (hn : 8 < n) (hnp : np ≤ 8) (hS : S < 256) (hm : m < 256) (hW : W < 2 ^ 62) (hg : ∀ p, p < np → m.testBit p = true → ¬ S.testBit p = true ∧ E (S ||| 2 ^ p) + C (S ||| 2 ^ p) ≤ W ∧ Qe (S ||| 2 ^ p) = lN (E (S ||| 2 ^ p)) ∧ R0 (S ||| 2 ^ p) = lN (C (S ||| 2 ^ p))) (h0 : R0 S = r0) (hr0 : ∀ p, m.testBit p = true → r0 = -1) :
    ok (f_JoinOrderModel_fillTables_L1 n (nI np) (nI S) Qe (nI m) n R0 (0 : Int32)) (fun R => (∀ T, T ≠ S → R T = R0 T) ∧ R S = (mnO m (fun p => E (S ||| 2 ^ p) + C (S ||| 2 ^ p)) np).elim r0 lN) := by
  refine lpF (σ := Nat → Int64) (fun f i R => f_JoinOrderModel_fillTables_L1 n (nI np) (nI S) Qe (nI m) f R (nI i)) (fun i R => (∀ T, T ≠ S → R T = R0 T) ∧ R S = (mnO m (fun p => E (S ||| 2 ^ p) + C (S ||| 2 ^ p)) i).elim r0 lN) np _ ?_ ?_ n 0 R0 (by omega) (by omega) ⟨fun _ _ => rfl, h0⟩
  · intro f R h
    rw [f_JoinOrderModel_fillTables_L1_s]
    exact ok_t (nI_le (Nat.le_refl _) (by omega)) (ok_s h)
  · intro f i R hi hI ih
    obtain ⟨h1, h2⟩ := hI
    rw [f_JoinOrderModel_fillTables_L1_s]
    refine ok_f (nI_ge hi (by omega)) ?_
    have g1 : mnO m (fun p => E (S ||| 2 ^ p) + C (S ||| 2 ^ p)) (i + 1) = if m.testBit i = true then some ((mnO m (fun p => E (S ||| 2 ^ p) + C (S ||| 2 ^ p)) i).elim (E (S ||| 2 ^ i) + C (S ||| 2 ^ i)) (fun a => min a (E (S ||| 2 ^ i) + C (S ||| 2 ^ i)))) else mnO m (fun p => E (S ||| 2 ^ p) + C (S ||| 2 ^ p)) i := rfl
    refine ok_b _ (q_bit (by omega) (by omega)) (fun g => ?_) (fun g => ok_nmE (nI_1 i) (ih R ⟨h1, by rw [g1, if_neg g]; exact h2⟩))
    obtain ⟨p1, p2, p3, p4⟩ := hg i hi g
    have er := hr0 i g
    have h5 : S ||| 2 ^ i < 256 := or_lt (k := 8) hS (p2_lt (by omega))
    have hne : S ||| 2 ^ i ≠ S := by
      have := or_gt p1
      omega
    have p5 := (h1 _ hne).trans p4
    have hb := mnO_le (m := m) (g := fun p => E (S ||| 2 ^ p) + C (S ||| 2 ^ p)) (W := W) i (fun p hp hb => (hg p (by omega) hb).2.1)
    rw [m_sh (by omega), m_or]
    refine ok_gd _ rfl h5 (by decide) ?_
    rw [nI_clamp (by omega : S ||| 2 ^ i < 2 ^ 31), nI_clamp (by omega : S < 2 ^ 31), p5, p3, h2, lN_add]
    generalize mnO m (fun p => E (S ||| 2 ^ p) + C (S ||| 2 ^ p)) i = o at g1 hb ⊢
    generalize hx : E (S ||| 2 ^ i) + C (S ||| 2 ^ i) = x at p2 g1 ⊢
    have hcx : C (S ||| 2 ^ i) ≤ x := by omega
    refine ok_f (fun h => by have := (pk_lLT (a := C (S ||| 2 ^ i)) (b := 0) (by omega) (by omega)).mp ((lg_cmp_lt _ _).mp h); omega) (ok_nm ?_)
    rw [if_pos g] at g1
    cases o with
    | none =>
      refine ok_t (by
        show lg_cmp r0 0 < 0
        rw [er]
        exact (lg_cmp_lt _ _).mpr (by decide)) (ok_nm (ok_nmE (nI_1 i) (ih _ ⟨fun T hT => ?_, ?_⟩)))
      · rw [pk_uLn hT]
        exact h1 T hT
      · rw [pk_uLs, g1]
        rfl
    | some a =>
      have ha : a ≤ W := hb
      refine ok_f (fun h => by have := (pk_lLT (a := a) (b := 0) (by omega) (by omega)).mp ((lg_cmp_lt _ _).mp h); omega) ?_
      refine ok_b (a ≤ x) ((lg_cmp_ge _ _).trans (pk_lLE (a := a) (b := x) (by omega) (by omega))) (fun g3 => ?_) (fun g3 => ?_)
      · refine ok_nm (ok_nm (ok_nmE (nI_1 i) (ih _ ⟨fun T hT => ?_, ?_⟩)))
        · rw [pk_uLn hT]
          exact h1 T hT
        · rw [pk_uLs, g1]
          show lN a = lN (min a x)
          rw [Nat.min_eq_left g3]
      · refine ok_nm (ok_nmE (nI_1 i) (ih _ ⟨fun T hT => ?_, ?_⟩))
        · rw [pk_uLn hT]
          exact h1 T hT
        · rw [pk_uLs, g1]
          show lN x = lN (min a x)
          rw [Nat.min_eq_right (by omega)]
theorem mnO_stop {m : Nat} {g : Nat → Nat} {j : Nat} (h : ∀ i, j ≤ i → ¬ m.testBit i = true) : ∀ k, j ≤ k → mnO m g k = mnO m g j := by
  intro k
  induction k with
  | zero =>
    intro hk
    have e : j = 0 := by omega
    rw [e]
  | succ k ih =>
    intro hk
    by_cases e : j = k + 1
    · rw [e]
    · rw [← ih (by omega)]
      show (if m.testBit k = true then _ else _) = _
      rw [if_neg (h k (by omega))]
theorem nx_rq {rq np : Nat} {bf vm : Nat → Nat} : nxM rq bf vm np rq = 0 := by
  refine (bit_none np (mkS_lt _ np)).mpr (fun i _ hb => ?_)
  have h := (nx_fr hb).2
  exact h.2.1 h.1
theorem cA_rq {E : Nat → Nat} {rq np : Nat} {bf vm : Nat → Nat} (hnp : np ≤ 8) (hr : rq < 256) : cA E (nxM rq bf vm np) rq = 0 := by
  rw [cA_eq (nxM_ok hnp) hr, nx_rq]
  have h : ∀ g : Nat → Nat, ∀ k, mnO 0 g k = none := fun g k => by
    rw [mnO_stop (m := 0) (g := g) (j := 0) (fun i _ hb => by rw [Nat.zero_testBit] at hb; exact absurd hb Bool.false_ne_true) k (Nat.zero_le _)]
    rfl
  rw [h]
  rfl
def tC (f : Nat → Int64) (C : Nat → Nat) (lo rq : Nat) (ht : Nat → Nat → Prop) : Prop := ∀ S, lo ≤ S → S < 256 → sub8 S rq → clS ht S → f S = lN (C S)
theorem sub_more {S rq : Nat} (hS : S < 256) (hr : rq < 256) (hs : sub8 S rq) (hne : S ≠ rq) : ∃ p, p < 8 ∧ rq.testBit p = true ∧ ¬ S.testBit p = true := by
  refine Classical.not_not.mp (fun h => hne (bit_ext 8 hS hr (fun i hi => ⟨hs i hi, fun hb => Classical.not_not.mp (fun h2 => h ⟨i, hi, hb, h2⟩)⟩)))
theorem q_fill {n np rq hm : Nat} {pa bf vm hv sz : Nat → Nat} {ht : Nat → Nat → Prop} {spr rs : Nat → Nat → Nat} {Hn Qz Qs : Nat → Int32} {Qe Qc : Nat → Int64} (hn : 256 < n) (hnp : np ≤ 8) (hr : rq < 2 ^ np) (ha : acy rq bf) (hw : HW np pa bf hm ht) (hH : QH ht Hn) (hM : MS np sz spr rs hv) (hQ : QM np sz rs Qz Qs) (hV : QV np rs vm) :
    ok (f_JoinOrderModel_fillTables n (nI rq) (nI np) Qz Qs Qe Qc Hn) (fun o => tH o.1 (fun S => estN sz spr hv S 8) 0 rq ∧ tC o.2 (cA (fun S => estN sz spr hv S 8) (nxM rq bf vm np)) 0 rq ht) := by
  have h8 : (2 : Nat) ^ np ≤ 2 ^ 8 := Nat.pow_le_pow_right (by decide) hnp
  have hr8 : rq < 256 := by omega
  have hrn : ∀ p, p < 8 → rq.testBit p = true → p < np := fun p _ hb => bit_ltn hr hb
  have hx := nxM_ok (rq := rq) (bf := bf) (vm := vm) hnp
  have hs : QS np rs Qs := ⟨hM.2.1, hQ.2⟩
  have hW := W8_256
  have hE : ∀ S, (fun S => estN sz spr hv S 8) S ≤ W8 := fun S => estN_W hM.1 8
  generalize W8 = W at hW hE
  rw [f_JoinOrderModel_fillTables_u]
  have hest : ∀ S, S ≤ rq → f_JoinOrderModel_estimateOf n (nI S) (nI np) Qz Qs = some (lN (estN sz spr hv S 8)) := fun S hS => q_estE (by omega) hnp (by omega) hM hQ
  generalize hEg : (fun S => estN sz spr hv S 8) = E at hE ⊢
  have hest : ∀ S, S ≤ rq → f_JoinOrderModel_estimateOf n (nI S) (nI np) Qz Qs = some (lN (E S)) := fun S hS => by
    rw [← hEg]
    exact hest S hS
  refine ok_bn2 (fun o => tH o.1 E 0 rq ∧ tC o.2 (cA E (nxM rq bf vm np)) 0 rq ht) ?_ (fun a b h => ok_s h)
  suffices key : ok (f_JoinOrderModel_fillTables_L0 n (nI rq) (nI np) Qz Qs Hn n Qe Qc (nI (rq + 1 - 0) - 1)) (fun o => tH o.1 E 0 rq ∧ tC o.2 (cA E (nxM rq bf vm np)) 0 rq ht) by
    rw [Nat.sub_zero, nI_pred] at key
    exact key
  refine lpF (σ := (Nat → Int64) × (Nat → Int64)) (fun f i x => f_JoinOrderModel_fillTables_L0 n (nI rq) (nI np) Qz Qs Hn f x.1 x.2 (nI (rq + 1 - i) - 1)) (fun i x => tH x.1 E (rq + 1 - i) rq ∧ tC x.2 (cA E (nxM rq bf vm np)) (rq + 1 - i) rq ht) (rq + 1) _ ?_ ?_ n 0 (Qe, Qc) (by omega) (by omega) ⟨fun S hlo hS hs => by have := sub_le hS hs; omega, fun S hlo hS hs _ => by have := sub_le hS hs; omega⟩
  · intro f x hx2
    rw [f_JoinOrderModel_fillTables_L0_s, Nat.sub_self]
    rw [Nat.sub_self] at hx2
    exact ok_t (by decide) (ok_s hx2)
  · intro f i x hi hx2 ih
    obtain ⟨X, Y⟩ := x
    obtain ⟨t1, t2⟩ := hx2
    simp only at t1 t2
    obtain ⟨s, hss⟩ : ∃ s, rq + 1 - i = s + 1 := ⟨rq - i, by omega⟩
    have hsl : s ≤ rq := by omega
    have e3 : rq + 1 - (i + 1) = s := by omega
    rw [hss] at t1 t2 ⊢
    rw [e3] at ih
    rw [nI_pred, f_JoinOrderModel_fillTables_L0_s]
    dsimp only
    refine ok_f (nI_pos (by omega)) ?_
    have hdl := dif_le s rq
    rw [m_not]
    refine ok_b _ ((nI_eq (b := 0) (by omega) (by omega)).trans (dif_0 (by omega))) (fun hsub => ?_) (fun hsub => ?_)
    · have hs256 : s < 256 := by omega
      refine ok_bn1 _ (ok_e (hest s hsl)) (fun z e => ?_)
      subst e
      refine ok_gd s rfl hs256 (by decide) ?_
      rw [nI_clamp (by omega : s < 2 ^ 31)]
      refine ok_nm ?_
      have t1' : tH (vp_updL X s (lN (E s))) E s rq := fun S hlo hS2 hs2 => by
        by_cases e : S = s
        · subst e
          rw [pk_uLs]
        · rw [pk_uLn e]
          exact t1 S (by omega) hS2 hs2
      refine ok_bn1 (fun z => z = if s = rq then (0 : Int64) else -1) ?_ (fun z0 e0 => ?_)
      · exact ok_b (s = rq) (nI_eq (by omega) (by omega)) (fun g => ok_s (by rw [if_pos g])) (fun g => ok_s (by rw [if_neg g]))
      refine ok_nm ?_
      refine ok_bn1 (fun z => ∃ m, m < 256 ∧ z = nI m ∧ (s = rq → m = 0) ∧ (s ≠ rq → m = nyM rq ht vm np s)) ?_ (fun z1 hz1 => ?_)
      · refine ok_b (s = rq) (nI_eq (by omega) (by omega)) (fun g => ok_s ⟨0, by omega, rfl, fun _ => rfl, fun g2 => absurd g g2⟩) (fun g => ?_)
        refine ok_bn1 _ (ok_e (q_may (by omega) hnp hs256 hr8 hH hs hV)) (fun r e => ok_s ⟨nyM rq ht vm np s, ?_, e, fun g2 => absurd g2 g, fun _ => rfl⟩)
        have := mkS_lt (nyP rq ht vm np s) np
        exact Nat.lt_of_lt_of_le this h8
      obtain ⟨m, m1, m2, m3, m4⟩ := hz1
      subst m2
      refine ok_bn1 (fun R => (∀ T, T ≠ s → R T = vp_updL Y s z0 T) ∧ (clS ht s → R s = lN (cA E (nxM rq bf vm np) s))) ?_ (fun R hR => ?_)
      · by_cases hc : clS ht s
        · by_cases hsr : s = rq
          · have em := m3 hsr
            subst em
            rw [if_pos hsr] at e0
            subst e0
            refine ok_w (q_fill1 (E := E) (C := E) (W := 0) (r0 := 0) (by omega) hnp hs256 m1 (by decide) (fun p _ hb => ?_) pk_uLs (fun p hb => ?_)) (fun R hR => ⟨hR.1, fun _ => ?_⟩)
            · rw [Nat.zero_testBit] at hb
              exact absurd hb Bool.false_ne_true
            · rw [Nat.zero_testBit] at hb
              exact absurd hb Bool.false_ne_true
            · rw [hR.2, mnO_stop (m := 0) (j := 0) (fun i _ hb => by rw [Nat.zero_testBit] at hb; exact absurd hb Bool.false_ne_true) np (Nat.zero_le _), hsr, cA_rq hnp hr8]
              rfl
          · have em := m4 hsr
            rw [ny_nx hw hnp hc] at em
            subst em
            rw [if_neg hsr] at e0
            subst e0
            refine ok_w (q_fill1 (E := E) (C := cA E (nxM rq bf vm np)) (W := W * 256 + W) (r0 := -1) (by omega) hnp hs256 m1 hW (fun p _ hb => ?_) pk_uLs (fun _ _ => rfl)) (fun R hR => ⟨hR.1, fun _ => ?_⟩)
            · have hp8 := (hx s p hb).1
              have hns := (hx s p hb).2
              have hsp := nxM_sub hb hsub
              have hlt : s ||| 2 ^ p < 256 := or_lt (k := 8) hs256 (p2_lt hp8)
              have hgt := or_gt hns
              have b1 := hE (s ||| 2 ^ p)
              have b2 := cA_le (nx := nxM rq bf vm np) hE (s ||| 2 ^ p)
              refine ⟨hns, by omega, t1' _ (by omega) hlt hsp, ?_⟩
              rw [pk_uLn (by omega)]
              exact t2 _ (by omega) hlt hsp (cl_step hw hnp hc hb)
            · obtain ⟨p, p1, p2⟩ := next_one (vm := vm) ha hnp hrn (sub_more hs256 hr8 hsub hsr)
              have hpn := (nx_fr p2).1
              obtain ⟨q, q1, q2, q3⟩ := mnO_met (g := fun p => E (s ||| 2 ^ p) + cA E (nxM rq bf vm np) (s ||| 2 ^ p)) np ⟨p, hpn, p2⟩
              have hst := mnO_stop (m := nxM rq bf vm np s) (g := fun p => E (s ||| 2 ^ p) + cA E (nxM rq bf vm np) (s ||| 2 ^ p)) (j := np) (fun i hi hb => by have := (nx_fr hb).1; omega) 8 hnp
              rw [hR.2, cA_eq hx hs256, hst, q3]
              rfl
        · exact ok_w (q_fill1any (by omega) hnp hs256 m1) (fun R hR => ⟨hR, fun h => absurd h hc⟩)
      · refine ok_nmE (i_m1 _) (ih (vp_updL X s (lN (E s)), R) ⟨t1', fun S hlo hS2 hs2 hc2 => ?_⟩)
        by_cases e : S = s
        · subst e
          exact hR.2 hc2
        · simp only
          rw [hR.1 S e, pk_uLn e]
          exact t2 S (by omega) hS2 hs2 hc2
    · refine ok_nmE (i_m1 _) (ih (X, Y) ⟨fun S hlo hS2 hs2 => t1 S ?_ hS2 hs2, fun S hlo hS2 hs2 hc2 => t2 S ?_ hS2 hs2 hc2⟩)
      · have : S ≠ s := fun e => hsub (e ▸ hs2)
        omega
      · have : S ≠ s := fun e => hsub (e ▸ hs2)
        omega
