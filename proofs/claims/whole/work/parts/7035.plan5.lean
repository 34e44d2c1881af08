/-! Sizes and spreads measured -/
noncomputable def seenM (M : List Nat) (k : Nat) : Nat := mkS (fun t => ∃ x, x ∈ M ∧ prt x k = t) 32
noncomputable def dst (M : List Nat) (k : Nat) : Nat := max 1 (popc (seenM M k) 32)
def plc (sl : Nat → Nat) (v : Nat) : Nat := fnd (fun k => decide (sl k = 32 + v)) 3 0
theorem plc_ok {sl : Nat → Nat} {v k : Nat} (hk : k < 3) (h : sl k = 32 + v) : plc sl v < 3 ∧ sl (plc sl v) = 32 + v := by
  have h1 := fnd_has (B := fun k => decide (sl k = 32 + v)) 3 0 ⟨k, by omega, by omega, decide_eq_true h⟩
  exact ⟨fnd_lt2 3 0 3 (by omega) (by omega), of_decide_eq_true h1.1⟩
noncomputable def sprN (M : List Nat) (sl : Nat → Nat) (v : Nat) : Nat := dst M (plc sl v)
theorem prt_same {sl : Nat → Nat} {t v a b : Nat} (hf : fitP sl t) (ha : a < 3) (hb : b < 3) (ea : sl a = 32 + v) (eb : sl b = 32 + v) : prt t a = prt t b := by
  rcases Nat.lt_trichotomy a b with h | h | h
  · exact (hf b hb).2 (by omega) a h (by omega)
  · rw [h]
  · exact ((hf a ha).2 (by omega) b h (by omega)).symm
theorem seen_same {sl : Nat → Nat} {M : List Nat} {v a b : Nat} (hf : ∀ t, t ∈ M → fitP sl t) (ha : a < 3) (hb : b < 3) (ea : sl a = 32 + v) (eb : sl b = 32 + v) : dst M a = dst M b := by
  unfold dst seenM
  have h : (fun t => ∃ x, x ∈ M ∧ prt x a = t) = (fun t => ∃ x, x ∈ M ∧ prt x b = t) := by
    funext t
    apply propext
    constructor
    · rintro ⟨x, h1, h2⟩
      exact ⟨x, h1, (prt_same (hf x h1) ha hb ea eb) ▸ h2⟩
    · rintro ⟨x, h1, h2⟩
      exact ⟨x, h1, (prt_same (hf x h1) hb ha eb ea) ▸ h2⟩
  rw [h]
theorem dst_in (M : List Nat) (k : Nat) : 1 ≤ dst M k ∧ dst M k ≤ 32 := by
  unfold dst
  have := popc_le (seenM M k) 32
  omega
theorem c_spread {p k : Nat} {M : Nat → List Nat} {mc ms ts : Nat → Int32} (hp : p < 8) (hk : k < 3) (h : PM M mc ms ts) : f_Patterns_spreadAt (nI p) (nI k) ts = some (nI (dst (M p) k)) := by
  obtain ⟨m, h1, h2, h3⟩ := (h p hp).2.2 k hk
  have e : m = seenM (M p) k := bit_ext 32 h1 (mkS_lt _ 32) (fun i hi => (h3 i hi).trans ((mkS_bit (fun t => ∃ x, x ∈ M p ∧ prt x k = t) i 32).trans ⟨fun h => h.2, fun h => ⟨hi, h⟩⟩).symm)
  have hl := popc_le m 32
  rw [f_Patterns_spreadAt_u, ix3, gd_nI (by omega) (by omega), nI_clamp (by omega), h2, bitC h1, show (1 : Int32) = nI 1 from rfl, i_max (by omega) (by omega), e]
  rfl
/-- what is told of a size, and one: 0 for nothing -/
def szN (M : List Nat) (td : Nat) : Nat := if td = 0 then M.length else td - 1
theorem c_size {p td : Nat} {M : Nat → List Nat} {mc ms ts Td : Nat → Int32} (hp : p < 8) (h : PM M mc ms ts) (htd : td ≤ 101) (hT : Td p = nI td - 1) : f_Patterns_size (nI p) Td mc = some (nI (szN (M p) td)) := by
  rw [f_Patterns_size_u, gd_nI hp (by omega), nI_clamp (by omega), hT, (h p hp).1]
  unfold szN
  by_cases e : td = 0
  · subst e
    rw [if_pos (show nI 0 - 1 = (-1 : Int32) by decide), if_pos rfl]
  · rw [pa_v e, if_neg e, if_neg (fun h => by
      have h2 := nI_pos (n := td - 1) (by omega)
      rw [h] at h2
      exact absurd (by decide) h2)]
theorem c_meas1 {n p : Nat} {S mc ms ts Q0 : Nat → Int32} {M : Nat → List Nat} {sl : Nat → Nat} (hn : 8 < n) (hp : p < 8) (hS : slH S p sl) (h : PM M mc ms ts) (hf : ∀ t, t ∈ M p → fitP sl t) :
    ok (f_Planner_measure_L1 n S ts (nI p) n Q0 (0 : Int32)) (fun o => (∀ v, v < 8 → (∃ k, k < 3 ∧ sl k = 32 + v) → o (p * 8 + v) = nI (sprN (M p) sl v)) ∧ ∀ q v, q ≠ p → v < 8 → o (q * 8 + v) = Q0 (q * 8 + v)) := by
  refine lpF (σ := Nat → Int32) (fun f i Q => f_Planner_measure_L1 n S ts (nI p) f Q (nI i)) (fun i Q => (∀ v, v < 8 → (∃ k, k < i ∧ sl k = 32 + v) → Q (p * 8 + v) = nI (sprN (M p) sl v)) ∧ ∀ q v, q ≠ p → v < 8 → Q (q * 8 + v) = Q0 (q * 8 + v)) 3 _ ?_ ?_ n 0 Q0 (by omega) (by omega) ⟨fun v _ ⟨k, hk, _⟩ => by omega, fun _ _ _ _ => rfl⟩
  · intro f Q hQ
    rw [f_Planner_measure_L1_s]
    exact ok_t (nI_le (Nat.le_refl 3) (by omega)) (ok_s hQ)
  · intro f i Q hi hQ ih
    rw [f_Planner_measure_L1_s]
    refine ok_f (nI_ge hi (by first | omega | decide)) ?_
    refine ok_bn1 _ (ok_e (c_slot hp hi hS)) (fun r e => ?_)
    subst e
    have hc := (hS i hi).1
    refine ok_b (sl i < 32) (slv_pos _ hc) (fun h1 => ?_) (fun h1 => ?_)
    · refine ok_nmE (nI_1 i) (ih Q ⟨fun v hv ⟨k, hk, e⟩ => hQ.1 v hv ⟨k, ?_, e⟩, hQ.2⟩)
      have : k ≠ i := fun e2 => by subst e2; omega
      omega
    · refine ok_bn1 _ (ok_e (c_spread hp hi h)) (fun r e => ?_)
      subst e
      rw [slv_ix _ hc (by omega), show nI p * (8 : Int32) = nI (p * 8) from pk_mul p 8, nI_add]
      refine ok_gd (p * 8 + (sl i - 32)) rfl (by omega) (by omega) ?_
      rw [nI_clamp (by omega : p * 8 + (sl i - 32) < 2 ^ 31)]
      refine ok_nm (ok_nmE (nI_1 i) (ih _ ⟨fun v hv ⟨k, hk, e⟩ => ?_, fun q v hq hv => ?_⟩))
      · by_cases ev : sl i = 32 + v
        · have hpl := plc_ok hi ev
          rw [show p * 8 + v = p * 8 + (sl i - 32) by omega, pk_us]
          unfold sprN
          rw [seen_same hf hi hpl.1 ev hpl.2]
        · rw [pk_un (by omega)]
          refine hQ.1 v hv ⟨k, ?_, e⟩
          have : k ≠ i := fun e2 => ev (e2 ▸ e)
          omega
      · rw [pk_un (by omega)]
        exact hQ.2 q v hq hv
theorem c_meas {n np : Nat} {S mc ms ts Td Qz0 Qs0 : Nat → Int32} {M : Nat → List Nat} {sl : Nat → Nat → Nat} {td : Nat → Nat} (hn : 8 < n) (hp : np ≤ 8) (hS : ∀ p, p < np → slH S p (sl p)) (h : PM M mc ms ts) (hf : ∀ p, p < np → ∀ t, t ∈ M p → fitP (sl p) t) (htd : ∀ p, p < np → td p ≤ 101 ∧ Td p = nI (td p) - 1) :
    ok (f_Planner_measure n (nI np) Td mc Qz0 S ts Qs0) (fun o => (∀ p, p < np → o.1 p = nI (szN (M p) (td p))) ∧ ∀ p, p < np → ∀ v, v < 8 → (∃ k, k < 3 ∧ sl p k = 32 + v) → o.2 (p * 8 + v) = nI (sprN (M p) (sl p) v)) := by
  rw [f_Planner_measure_u]
  refine ok_bn2 (fun o => (∀ p, p < np → o.1 p = nI (szN (M p) (td p))) ∧ ∀ p, p < np → ∀ v, v < 8 → (∃ k, k < 3 ∧ sl p k = 32 + v) → o.2 (p * 8 + v) = nI (sprN (M p) (sl p) v)) ?_ (fun a b h => ok_s h)
  refine lpF (σ := (Nat → Int32) × (Nat → Int32)) (fun f i s => f_Planner_measure_L0 n (nI np) Td mc S ts f s.1 s.2 (nI i)) (fun i s => (∀ p, p < i → s.1 p = nI (szN (M p) (td p))) ∧ ∀ p, p < i → ∀ v, v < 8 → (∃ k, k < 3 ∧ sl p k = 32 + v) → s.2 (p * 8 + v) = nI (sprN (M p) (sl p) v)) np _ ?_ ?_ n 0 (Qz0, Qs0) (by omega) (by omega) ⟨fun p h => by omega, fun p h => by omega⟩
  · intro f s hI
    rw [f_Planner_measure_L0_s]
    exact ok_t (nI_le (Nat.le_refl _) (by omega)) (ok_s hI)
  · intro f i s hi hI ih
    rw [f_Planner_measure_L0_s]
    refine ok_f (nI_ge hi (by first | omega | decide)) ?_
    refine ok_bn1 _ (ok_e (c_size (by omega) h (htd i hi).1 (htd i hi).2)) (fun r e => ?_)
    subst e
    refine ok_gd i rfl (by omega) (by omega) ?_
    rw [nI_clamp (by omega : i < 2 ^ 31)]
    refine ok_nm ?_
    refine ok_bn1 _ (c_meas1 hn (by omega) (hS i hi) h (hf i hi)) (fun Q hQ => ?_)
    refine ok_nmE (nI_1 i) (ih (upd s.1 i (nI (szN (M i) (td i))), Q) ⟨fun p hp2 => ?_, fun p hp2 v hv hk => ?_⟩)
    · simp only
      by_cases e : p = i
      · subst e
        rw [pk_us]
      · rw [pk_un e]
        exact hI.1 p (by omega)
    · simp only
      by_cases e : p = i
      · subst e
        exact hQ.1 v hv hk
      · rw [hQ.2 p v e hv]
        exact hI.2 p (by omega) v hv hk
/-! Where filters act -/
def fdD (B : Nat → Bool) (d : Nat) : Nat → Nat → Nat
  | 0, _ => d
  | k + 1, i => if B i = true then i else fdD B d k (i + 1)
theorem fdD_lt {B : Nat → Bool} {d : Nat} : ∀ k i N, d < N → i + k ≤ N → fdD B d k i < N := by
  intro k
  induction k with
  | zero => intro i N h _; exact h
  | succ k ih =>
    intro i N h0 h
    unfold fdD
    split
    · omega
    · exact ih (i + 1) N h0 (by omega)
def fbB (rq : Nat) (vm o : Nat → Nat) (v i : Nat) : Bool := rq.testBit (o i) && (vm (o i)).testBit v
theorem c_first {n np rq v : Nat} {vm o : Nat → Nat} {V O : Nat → Int32} (hn : 8 < n) (hp : np ≤ 8) (h0 : 0 < np) (hr : rq < 256) (hv : v < 8) (h : vmH vm np V) (hO : ∀ i, i < np → o i < np ∧ O i = nI (o i)) : f_Plan_firstBinding n (nI v) (nI np) O (nI rq) V = some (nI (fdD (fbB rq vm o v) (np - 1) np 0)) := by
  apply ok_eq
  rw [f_Plan_firstBinding_u]
  refine ok_bd0 (fun _ => fdD (fbB rq vm o v) (np - 1) np 0 = np - 1) ?_ (fun h => ok_s (by rw [h]; exact pa_v (by omega)))
  refine lpU (fun f i => f_Plan_firstBinding_L0 n (nI v) (nI np) O (nI rq) V f (nI i)) (fun i => fdD (fbB rq vm o v) (np - 1) np 0 = fdD (fbB rq vm o v) (np - 1) (np - i) i) np _ ?_ ?_ n 0 (by omega) (by omega) rfl
  · intro f h
    rw [f_Plan_firstBinding_L0_s]
    rw [Nat.sub_self] at h
    exact ok_t (nI_le (Nat.le_refl _) (by omega)) (ok_s h)
  · intro f i hi h2 ih
    rw [f_Plan_firstBinding_L0_s]
    refine ok_f (nI_ge hi (by first | omega | decide)) ?_
    have e1 : fdD (fbB rq vm o v) (np - 1) (np - i) i = if fbB rq vm o v i = true then i else fdD (fbB rq vm o v) (np - 1) (np - (i + 1)) (i + 1) := by
      rw [show np - i = (np - (i + 1)) + 1 by omega]
      rfl
    rw [e1] at h2
    obtain ⟨g1, g2⟩ := hO i hi
    refine ok_gd i rfl (by omega) (by omega) ?_
    rw [nI_clamp (by omega : i < 2 ^ 31), g2]
    refine ok_nm ?_
    rw [f_Patterns_isRequired_u]
    refine ok_b _ (tf_0 (m_in (m := rq) (p := o i) (by omega) (by omega))) (fun h4 => ?_) (fun h4 => ?_)
    · rw [if_neg (show ¬ fbB rq vm o v i = true from fun h6 => h4 (Bool.and_eq_true _ _ |>.mp h6).1)] at h2
      exact ok_nmE (nI_1 i) (ih h2)
    · refine ok_gd (o i) rfl (by omega) (by omega) ?_
      obtain ⟨k1, k2⟩ := h (o i) g1
      rw [nI_clamp (by omega : o i < 2 ^ 31), k2]
      refine ok_b _ (tf_0 (m_in (m := vm (o i)) (p := v) (by omega) (by omega))) (fun h5 => ?_) (fun h5 => ok_s ?_)
      · rw [if_neg (show ¬ fbB rq vm o v i = true from fun h6 => h5 (Bool.and_eq_true _ _ |>.mp h6).2)] at h2
        exact ok_nmE (nI_1 i) (ih h2)
      · rw [if_pos (show fbB rq vm o v i = true from by unfold fbB; rw [Classical.not_not.mp h4, Classical.not_not.mp h5]; rfl)] at h2
        show nI i = _
        rw [h2]
def bhN (sf rq np : Nat) (vm o fv : Nat → Nat) (f : Nat) : Nat := if sf.testBit f = true then fdD (fbB rq vm o (fv f)) (np - 1) np 0 else np - 1
theorem c_place {n np rq nf sf : Nat} {vm o fv : Nat → Nat} {V O Fv A0 B0 : Nat → Int32} (hn : 8 < n) (hp : np ≤ 8) (hr : rq < 256) (hnf : nf ≤ 8) (hsf : sf < 2 ^ 31) (hF : ∀ f, f < nf → fv f < 8 ∧ Fv f = nI (fv f)) (h : vmH vm np V) (hO : ∀ i, i < np → o i < np ∧ O i = nI (o i)) :
    ok (f_Plan_placeFilters n (nI sf) (nI nf) (nI np) A0 Fv O (nI rq) V B0) (fun r => r.1 = nI nf ∧ (0 < np → (∀ i, i < np → r.2.1 i = nI (mkS (fun f => bhN sf rq np vm o fv f = i) nf)) ∧ ∀ f, f < nf → r.2.2 f = nI (bhN sf rq np vm o fv f))) := by
  rw [f_Plan_placeFilters_u]
  refine ok_bn1 (fun A => ∀ i, i < np → A i = 0) ?_ (fun A hA => ?_)
  · refine lpF (σ := Nat → Int32) (fun f i A => f_Plan_placeFilters_L0 n (nI np) f A (nI i)) (fun i A => ∀ j, j < i → A j = 0) np _ ?_ ?_ n 0 A0 (by omega) (by omega) (fun j h => by omega)
    · intro f A hA
      rw [f_Plan_placeFilters_L0_s]
      exact ok_t (nI_le (Nat.le_refl _) (by omega)) (ok_s hA)
    · intro f i A hi hA ih
      rw [f_Plan_placeFilters_L0_s]
      refine ok_f (nI_ge hi (by first | omega | decide)) ?_
      refine ok_gd i rfl (by omega) (by omega) ?_
      rw [nI_clamp (by omega : i < 2 ^ 31)]
      refine ok_nm (ok_nmE (nI_1 i) (ih _ (fun j hj => ?_)))
      by_cases e : j = i
      · subst e
        rw [pk_us]
      · rw [pk_un e]
        exact hA j (by omega)
  · refine ok_b (np = 0) (nI_eq (b := 0) (by omega) (by omega)) (fun h0 => ok_s ⟨rfl, fun h1 => by omega⟩) (fun h0 => ?_)
    have hbl : ∀ f, bhN sf rq np vm o fv f < np := fun f => by
      unfold bhN
      split
      · exact fdD_lt np 0 np (by omega) (by omega)
      · omega
    refine ok_bn2 (fun s => (∀ i, i < np → isS (s.1 i) (fun g => bhN sf rq np vm o fv g = i) nf) ∧ ∀ g, g < nf → s.2 g = nI (bhN sf rq np vm o fv g)) ?_ (fun a b hab => ok_s ⟨rfl, fun _ => ⟨fun i hi => isS_mk (hab.1 i hi) hnf, hab.2⟩⟩)
    refine lpF (σ := (Nat → Int32) × (Nat → Int32)) (fun f i s => f_Plan_placeFilters_L1 n (nI sf) (nI nf) (nI np) Fv O (nI rq) V f s.1 s.2 (nI i)) (fun i s => (∀ j, j < np → isS (s.1 j) (fun g => bhN sf rq np vm o fv g = j) i) ∧ ∀ g, g < i → s.2 g = nI (bhN sf rq np vm o fv g)) nf _ ?_ ?_ n 0 (A, B0) (by omega) (by omega) ⟨fun j hj => by show isS (A j) _ 0; rw [hA j hj]; exact isS_0 _, fun g h => by omega⟩
    · intro f s hI
      rw [f_Plan_placeFilters_L1_s]
      exact ok_t (nI_le (Nat.le_refl _) (by omega)) (ok_s hI)
    · intro f i s hi hI ih
      obtain ⟨X, Y⟩ := s
      obtain ⟨k1, k2⟩ := hI
      simp only at k1 k2
      rw [f_Plan_placeFilters_L1_s]
      dsimp only
      refine ok_f (nI_ge hi (by first | omega | decide)) ?_
      obtain ⟨g1, g2⟩ := hF i hi
      have hb := hbl i
      refine ok_bn1 (fun z => z = nI (bhN sf rq np vm o fv i)) ?_ (fun z e => ?_)
      · refine ok_b _ (tf_0 (m_in (m := sf) (p := i) (by omega) (by omega))) (fun h4 => ok_s ?_) (fun h4 => ?_)
        · unfold bhN
          rw [if_neg h4]
          exact pa_v h0
        · refine ok_gd i rfl (by omega) (by omega) ?_
          rw [nI_clamp (by omega : i < 2 ^ 31), g2]
          refine ok_bn1 _ (ok_e (c_first hn hp (by omega) hr g1 h hO)) (fun z e => ok_s ?_)
          subst e
          unfold bhN
          rw [if_pos (Classical.not_not.mp h4)]
      · subst e
        refine ok_gd i rfl (by omega) (by omega) ?_
        rw [nI_clamp (by omega : i < 2 ^ 31)]
        refine ok_nm ?_
        refine ok_gd _ rfl (show bhN sf rq np vm o fv i < 8 by omega) (by omega) ?_
        rw [nI_clamp (by omega : bhN sf rq np vm o fv i < 2 ^ 31)]
        refine ok_nm (ok_nm (ok_nmE (nI_1 i) (ih (upd X (bhN sf rq np vm o fv i) (X (bhN sf rq np vm o fv i) ||| ((1 : Int32) <<< (nI i &&& 31))), upd Y i (nI (bhN sf rq np vm o fv i))) ⟨fun j hj => ?_, fun g hg => ?_⟩)))
        · simp only
          by_cases e : j = bhN sf rq np vm o fv i
          · rw [e, pk_us]
            exact isS_t (P := fun g => bhN sf rq np vm o fv g = bhN sf rq np vm o fv i) (e ▸ k1 j hj) (by omega) rfl
          · rw [pk_un e]
            exact isS_f (k1 j hj) (fun e2 => e e2.symm)
        · simp only
          by_cases e : g = i
          · subst e
            rw [pk_us]
          · rw [pk_un e]
            exact k2 g (by omega)
