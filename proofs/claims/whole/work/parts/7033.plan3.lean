/-! Costs ahead of a set -/
def mnO (m : Nat) (g : Nat → Nat) : Nat → Option Nat
  | 0 => none
  | k + 1 => if m.testBit k = true then some ((mnO m g k).elim (g k) (fun a => min a (g k))) else mnO m g k
theorem mnO_congr {m : Nat} {g g' : Nat → Nat} : ∀ k, (∀ p, p < k → m.testBit p = true → g p = g' p) → mnO m g k = mnO m g' k := by
  intro k
  induction k with
  | zero => intro _; rfl
  | succ k ih =>
    intro h
    unfold mnO
    rw [ih (fun p hp => h p (by omega))]
    by_cases hb : m.testBit k = true
    · rw [if_pos hb, if_pos hb, h k (by omega) hb]
    · rw [if_neg hb, if_neg hb]
theorem mnO_le {m : Nat} {g : Nat → Nat} {W : Nat} : ∀ k, (∀ p, p < k → m.testBit p = true → g p ≤ W) → (mnO m g k).getD 0 ≤ W := by
  intro k
  induction k with
  | zero => intro _; exact Nat.zero_le _
  | succ k ih =>
    intro h
    have h1 := ih (fun p hp => h p (by omega))
    unfold mnO
    by_cases hb : m.testBit k = true
    · rw [if_pos hb]
      have h2 := h k (by omega) hb
      cases e : mnO m g k with
      | none => exact h2
      | some a =>
        show min a (g k) ≤ W
        omega
    · rw [if_neg hb]
      exact h1
theorem or_gt {S p : Nat} (h : ¬ S.testBit p = true) : S < S ||| 2 ^ p := by
  have h1 : S ≤ S ||| 2 ^ p := Nat.left_le_or
  have h2 : S ≠ S ||| 2 ^ p := fun e => h (by rw [e, bit_or, bit_p2]; exact Or.inr rfl)
  omega
def cst (E nx : Nat → Nat) : Nat → Nat → Nat
  | 0, _ => 0
  | k + 1, S => (mnO (nx S) (fun p => E (S ||| 2 ^ p) + cst E nx k (S ||| 2 ^ p)) 8).getD 0
def nxO (nx : Nat → Nat) : Prop := ∀ S p, (nx S).testBit p = true → p < 8 ∧ ¬ S.testBit p = true
theorem cst_stable {E nx : Nat → Nat} (hx : nxO nx) : ∀ k k' S, S < 256 → 256 - S ≤ k → 256 - S ≤ k' → cst E nx k S = cst E nx k' S := by
  intro k
  induction k with
  | zero => intro k' S h1 h2; omega
  | succ k ih =>
    intro k' S h1 h2 h3
    cases k' with
    | zero => omega
    | succ k' =>
      show (mnO (nx S) _ 8).getD 0 = (mnO (nx S) _ 8).getD 0
      rw [mnO_congr (g' := fun p => E (S ||| 2 ^ p) + cst E nx k' (S ||| 2 ^ p)) 8 (fun p hp hb => ?_)]
      have h4 := or_gt (hx S p hb).2
      have h5 : S ||| 2 ^ p < 256 := or_lt (k := 8) h1 (p2_lt hp)
      show _ + cst E nx k (S ||| 2 ^ p) = _ + cst E nx k' (S ||| 2 ^ p)
      rw [ih k' (S ||| 2 ^ p) h5 (by omega) (by omega)]
def cA (E nx : Nat → Nat) (S : Nat) : Nat := cst E nx (256 - S) S
theorem cA_eq {E nx : Nat → Nat} (hx : nxO nx) {S : Nat} (hS : S < 256) : cA E nx S = (mnO (nx S) (fun p => E (S ||| 2 ^ p) + cA E nx (S ||| 2 ^ p)) 8).getD 0 := by
  unfold cA
  rw [show 256 - S = 255 - S + 1 by omega]
  show (mnO (nx S) _ 8).getD 0 = _
  rw [mnO_congr (g' := fun p => E (S ||| 2 ^ p) + cst E nx (256 - (S ||| 2 ^ p)) (S ||| 2 ^ p)) 8 (fun p hp hb => ?_)]
  have h4 := or_gt (hx S p hb).2
  have h5 : S ||| 2 ^ p < 256 := or_lt (k := 8) hS (p2_lt hp)
  show _ + cst E nx (255 - S) (S ||| 2 ^ p) = _ + cst E nx _ (S ||| 2 ^ p)
  rw [cst_stable hx (255 - S) (256 - (S ||| 2 ^ p)) (S ||| 2 ^ p) h5 (by omega) (by omega)]
theorem cst_le {E nx : Nat → Nat} {W : Nat} (hE : ∀ S, E S ≤ W) : ∀ k S, cst E nx k S ≤ W * k := by
  intro k
  induction k with
  | zero => intro S; exact Nat.zero_le _
  | succ k ih =>
    intro S
    refine mnO_le 8 (fun p _ _ => ?_)
    have h1 := hE (S ||| 2 ^ p)
    have h2 := ih (S ||| 2 ^ p)
    show E (S ||| 2 ^ p) + cst E nx k (S ||| 2 ^ p) ≤ W * (k + 1)
    rw [Nat.mul_add, Nat.mul_one]
    omega
def W8 : Nat := 100 ^ 8
theorem cA_le {E nx : Nat → Nat} {W : Nat} (hE : ∀ S, E S ≤ W) (S : Nat) : cA E nx S ≤ W * 256 :=
  Nat.le_trans (cst_le hE (256 - S) S) (Nat.mul_le_mul_left _ (by omega))
def sub8 (S rq : Nat) : Prop := ∀ q, q < 8 → S.testBit q = true → rq.testBit q = true
theorem sub_le {S rq : Nat} (hS : S < 256) (h : sub8 S rq) : S ≤ rq := by
  have h1 : S &&& rq = S := by
    have hl : S &&& rq ≤ S := Nat.and_le_left
    refine bit_ext 8 (by omega) hS (fun i hi => ?_)
    rw [bit_and]
    exact ⟨fun h => h.1, fun h2 => ⟨h2, h i hi h2⟩⟩
  have h2 : S &&& rq ≤ rq := Nat.and_le_right
  omega
def tH (f : Nat → Int64) (E : Nat → Nat) (lo rq : Nat) : Prop := ∀ S, lo ≤ S → S < 256 → sub8 S rq → f S = lN (E S)
theorem c_thr {S p rq lo : Nat} {E C : Nat → Nat} {Qe Qc : Nat → Int64} (hp : p < 8) (hS : S < 256) (hs : sub8 (S ||| 2 ^ p) rq) (hlo : lo ≤ S ||| 2 ^ p) (he : tH Qe E lo rq) (hc : tH Qc C lo rq) : f_Planner_costThrough (nI S) (nI p) Qe Qc = some (lN (E (S ||| 2 ^ p) + C (S ||| 2 ^ p))) := by
  have h5 : S ||| 2 ^ p < 256 := or_lt (k := 8) hS (p2_lt hp)
  rw [f_Planner_costThrough_u, m_sh (by omega), m_or]
  dsimp only [nm]
  rw [gd_nI h5 (by omega), nI_clamp (by omega), he _ hlo h5 hs, hc _ hlo h5 hs, lN_add]
theorem c_least {n S np rq lo W : Nat} (hW : W * 256 + W < 2 ^ 62) {vm bf : Nat → Nat} {V B : Nat → Int32} {E C : Nat → Nat} {Qe Qc : Nat → Int64} (hn : 8 < n) (hS : S < 256) (hp : np ≤ 8) (hr : rq < 256) (h : vmH vm np V) (hB : bfH bf np B) (hE : ∀ S, E S ≤ W) (hC : ∀ S, C S ≤ W * 256) (hsub : ∀ p, (nxM rq bf vm np S).testBit p = true → p < 8 ∧ sub8 (S ||| 2 ^ p) rq ∧ lo ≤ S ||| 2 ^ p) (he : tH Qe E lo rq) (hc : tH Qc C lo rq) :
    f_Planner_leastCostAhead n (nI S) (nI rq) (nI np) V B Qe Qc = some (lN ((mnO (nxM rq bf vm np S) (fun p => E (S ||| 2 ^ p) + C (S ||| 2 ^ p)) 8).getD 0)) := by
  apply ok_eq
  rw [f_Planner_leastCostAhead_u]
  refine ok_bn1 _ (ok_e (c_next hn hS hp hr h hB)) (fun r e => ?_)
  subst e
  have hl : nxM rq bf vm np S < 2 ^ 8 := Nat.lt_of_lt_of_le (mkS_lt _ np) (Nat.pow_le_pow_right (by decide) hp)
  generalize nxM rq bf vm np S = m at hsub hl ⊢
  have hg : ∀ k, (mnO m (fun p => E (S ||| 2 ^ p) + C (S ||| 2 ^ p)) k).getD 0 ≤ W * 256 + W := fun k => mnO_le k (fun p _ _ => by
    have h1 := hE (S ||| 2 ^ p)
    have h2 := hC (S ||| 2 ^ p)
    show E (S ||| 2 ^ p) + C (S ||| 2 ^ p) ≤ _
    omega)
  refine ok_bn1 (fun x => x = lN ((mnO m (fun p => E (S ||| 2 ^ p) + C (S ||| 2 ^ p)) 8).getD 0)) ?_ (fun x h => ok_s h)
  refine lpF (σ := Int64 × Int32) (fun f i x => f_Planner_leastCostAhead_L0 n (nI S) Qe Qc (nI m) f x.1 x.2 (nI i)) (fun i x => x = (lN ((mnO m (fun p => E (S ||| 2 ^ p) + C (S ||| 2 ^ p)) i).getD 0), if (mnO m (fun p => E (S ||| 2 ^ p) + C (S ||| 2 ^ p)) i).isSome = true then 1 else 0)) 8 _ ?_ ?_ n 0 ((0 : Int64), (0 : Int32)) (by omega) (by omega) rfl
  · intro f x h
    subst h
    rw [f_Planner_leastCostAhead_L0_s]
    exact ok_t (nI_le (Nat.le_refl 8) (by omega)) (ok_s rfl)
  · intro f i x hi h ih
    subst h
    rw [f_Planner_leastCostAhead_L0_s]
    dsimp only
    refine ok_f (nI_ge hi (by first | omega | decide)) ?_
    have hgi := hg i
    have g1 : ∀ k, mnO m (fun p => E (S ||| 2 ^ p) + C (S ||| 2 ^ p)) (k + 1) = if m.testBit k = true then some ((mnO m (fun p => E (S ||| 2 ^ p) + C (S ||| 2 ^ p)) k).elim (E (S ||| 2 ^ k) + C (S ||| 2 ^ k)) (fun a => min a (E (S ||| 2 ^ k) + C (S ||| 2 ^ k)))) else mnO m (fun p => E (S ||| 2 ^ p) + C (S ||| 2 ^ p)) k := fun k => rfl
    refine ok_b _ (tf_0 (m_in (m := m) (p := i) (by omega) (by omega))) (fun h4 => ?_) (fun h4 => ?_)
    · refine ok_nmE (nI_1 i) (ih (_, _) ?_)
      rw [g1, if_neg h4]
      rfl
    · have h5 := Classical.not_not.mp h4
      obtain ⟨k1, k2, k3⟩ := hsub i h5
      refine ok_bn1 _ (ok_e (c_thr k1 hS k2 k3 he hc)) (fun z e => ?_)
      subst e
      have h1 := hE (S ||| 2 ^ i)
      have h2 := hC (S ||| 2 ^ i)
      refine ok_bn1 (fun z => z = lN ((mnO m (fun p => E (S ||| 2 ^ p) + C (S ||| 2 ^ p)) (i + 1)).getD 0)) ?_ (fun z e => ?_)
      · rw [g1, if_pos h5]
        cases e : mnO m (fun p => E (S ||| 2 ^ p) + C (S ||| 2 ^ p)) i with
        | none => exact ok_t rfl (ok_s rfl)
        | some a =>
          rw [e] at hgi
          have hga : a ≤ W * 256 + W := hgi
          refine ok_f (show ¬ (1 : Int32) = 0 by decide) (ok_s ?_)
          exact l_min (by omega) (by omega)
      · subst e
        refine ok_nmE (nI_1 i) (ih (_, _) ?_)
        rw [g1, if_pos h5]
        rfl
theorem i_m1 (x : Int32) : x + (-1) = x - 1 := by
  rw [Int32.sub_eq_add_neg]
theorem nxM_ok {rq np : Nat} {bf vm : Nat → Nat} (hp : np ≤ 8) : nxO (nxM rq bf vm np) := by
  intro S p h
  have h1 := (mkS_bit _ _ _).mp h
  refine ⟨by omega, ?_⟩
  rcases h1.2 with h2 | h2
  · exact h2.1.2.1
  · exact h2.2.2.1
theorem nxM_sub {rq np S p : Nat} {bf vm : Nat → Nat} (h : (nxM rq bf vm np S).testBit p = true) (hs : sub8 S rq) : sub8 (S ||| 2 ^ p) rq := by
  have h1 := (mkS_bit _ _ _).mp h
  have h2 : rq.testBit p = true := by
    rcases h1.2 with h2 | h2
    · exact h2.1.1
    · exact h2.2.1
  intro q hq hb
  rw [bit_or, bit_p2] at hb
  rcases hb with hb | hb
  · exact hs q hq hb
  · exact hb ▸ h2
theorem c_weigh {n np rq W : Nat} (hW : W * 256 + W < 2 ^ 62) {vm bf hv sz : Nat → Nat} {spr : Nat → Nat → Nat} {V B H Qz Qs : Nat → Int32} {Qe Qc : Nat → Int64} (hn : 256 < n) (hp : np ≤ 8) (hr : rq < 256) (h : vmH vm np V) (hB : bfH bf np B) (h1 : szH sz rq Qz) (h2 : spH spr hv rq Qs) (h3 : hvH hv H) (hE : ∀ S, estN sz spr hv S 8 ≤ W) :
    ok (f_Planner_weighSets n (nI rq) (nI np) Qz H Qs Qe V B Qc) (fun o => tH o.1 (fun S => estN sz spr hv S 8) 0 rq ∧ tH o.2 (cA (fun S => estN sz spr hv S 8) (nxM rq bf vm np)) 0 rq) := by
  rw [f_Planner_weighSets_u]
  have hx := nxM_ok (rq := rq) (bf := bf) (vm := vm) hp
  refine ok_bn2 (fun o => tH o.1 (fun S => estN sz spr hv S 8) 0 rq ∧ tH o.2 (cA (fun S => estN sz spr hv S 8) (nxM rq bf vm np)) 0 rq) ?_ (fun a b h => ok_s h)
  suffices key : ok (f_Planner_weighSets_L0 n (nI rq) (nI np) Qz H Qs V B n Qe Qc (nI (rq + 1 - 0) - 1)) (fun o => tH o.1 (fun S => estN sz spr hv S 8) 0 rq ∧ tH o.2 (cA (fun S => estN sz spr hv S 8) (nxM rq bf vm np)) 0 rq) by
    rw [Nat.sub_zero, nI_pred] at key
    exact key
  refine lpF (σ := (Nat → Int64) × (Nat → Int64)) (fun f i x => f_Planner_weighSets_L0 n (nI rq) (nI np) Qz H Qs V B f x.1 x.2 (nI (rq + 1 - i) - 1)) (fun i x => tH x.1 (fun S => estN sz spr hv S 8) (rq + 1 - i) rq ∧ tH x.2 (cA (fun S => estN sz spr hv S 8) (nxM rq bf vm np)) (rq + 1 - i) rq) (rq + 1) _ ?_ ?_ n 0 (Qe, Qc) (by omega) (by omega) ⟨fun S hlo hS hs => by have := sub_le hS hs; omega, fun S hlo hS hs => by have := sub_le hS hs; omega⟩
  · intro f x hx2
    rw [f_Planner_weighSets_L0_s, Nat.sub_self]
    rw [Nat.sub_self] at hx2
    exact ok_t (by decide) (ok_s hx2)
  · intro f i x hi hx2 ih
    obtain ⟨X, Y⟩ := x
    obtain ⟨t1, t2⟩ := hx2
    simp only at t1 t2
    obtain ⟨s, hs⟩ : ∃ s, rq + 1 - i = s + 1 := ⟨rq - i, by omega⟩
    have hsl : s ≤ rq := by omega
    have e3 : rq + 1 - (i + 1) = s := by omega
    rw [hs] at t1 t2 ⊢
    rw [e3] at ih
    rw [nI_pred, f_Planner_weighSets_L0_s]
    dsimp only
    refine ok_f (nI_pos (by omega)) ?_
    have hdl := dif_le s rq
    rw [m_not]
    refine ok_b _ ((nI_eq (b := 0) (by omega) (by omega)).trans (dif_0 (by omega))) (fun hsub => ?_) (fun hsub => ?_)
    · refine ok_bn1 _ (ok_e (c_est (sz := sz) (spr := spr) (hv := hv) (by omega) (by omega) (fun p hp2 hb => h1 p hp2 (hsub p hp2 hb)) (fun v hv2 p hb => h2 v hv2 p ?_) h3)) (fun z e => ?_)
      · have hb2 := (bit_and s (hv v) p).mp hb
        exact (bit_and rq (hv v) p).mpr ⟨hsub p (bit_lt8 (by omega) hb2.1) hb2.1, hb2.2⟩
      subst e
      refine ok_gd s rfl (by omega) (by omega) ?_
      rw [nI_clamp (by omega : s < 2 ^ 31)]
      refine ok_nm ?_
      have t1' : tH (vp_updL X s (lN (estN sz spr hv s 8))) (fun S => estN sz spr hv S 8) s rq := fun S hlo hS2 hs2 => by
        by_cases e : S = s
        · subst e
          rw [pk_uLs]
        · rw [pk_uLn e]
          exact t1 S (by omega) hS2 hs2
      refine ok_bn1 _ (ok_e (c_least (lo := s + 1) hW (by omega) (by omega) hp hr h hB hE (cA_le hE) (fun p hb => ?_) (fun S hlo => t1' S (by omega)) t2)) (fun z e => ?_)
      · exact ⟨(hx s p hb).1, nxM_sub hb hsub, or_gt (hx s p hb).2⟩
      subst e
      have ec := cA_eq (E := fun S => estN sz spr hv S 8) hx (show s < 256 by omega)
      refine ok_nmE (congrArg (fun z => vp_updL Y s (lN z)) ec.symm) (ok_nmE (i_m1 _) (ih (vp_updL X s (lN (estN sz spr hv s 8)), vp_updL Y s (lN (cA (fun S => estN sz spr hv S 8) (nxM rq bf vm np) s))) ⟨t1', fun S hlo hS2 hs2 => ?_⟩))
      by_cases e : S = s
      · subst e
        simp only
        rw [pk_uLs]
      · simp only
        rw [pk_uLn e]
        exact t2 S (by omega) hS2 hs2
    · refine ok_nmE (i_m1 _) (ih (X, Y) ⟨fun S hlo hS2 hs2 => t1 S ?_ hS2 hs2, fun S hlo hS2 hs2 => t2 S ?_ hS2 hs2⟩)
      · have : S ≠ s := fun e => hsub (e ▸ hs2)
        omega
      · have : S ≠ s := fun e => hsub (e ▸ hs2)
        omega
