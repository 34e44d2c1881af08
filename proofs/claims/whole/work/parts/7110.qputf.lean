/-! putFilters, of the reference -/
theorem fdD_at {B : Nat → Bool} {d p : Nat} : ∀ k i, i ≤ p → p < i + k → B p = true → (∀ j, i ≤ j → j < p → ¬ B j = true) → fdD B d k i = p := by
  intro k
  induction k with
  | zero => intro i h1 h2; omega
  | succ k ih =>
    intro i h1 h2 h3 h4
    unfold fdD
    by_cases e : i = p
    · subst e
      rw [if_pos h3]
    · rw [if_neg (h4 i (Nat.le_refl _) (by omega))]
      exact ih (i + 1) (by omega) (by omega) h3 (fun j j1 j2 => h4 j (by omega) j2)
theorem fdD_no {B : Nat → Bool} {d : Nat} : ∀ k i, (∀ j, i ≤ j → j < i + k → ¬ B j = true) → fdD B d k i = d := by
  intro k
  induction k with
  | zero => intro i _; rfl
  | succ k ih =>
    intro i h
    unfold fdD
    rw [if_neg (h i (Nat.le_refl _) (by omega))]
    exact ih (i + 1) (fun j j1 j2 => h j (by omega) (by omega))
theorem q_first {n np rq sf f : Nat} {pa vm o fv : Nat → Nat} {sl : Nat → Nat → Nat} {Z O Of Lk C : Nat → Int32} (hn : 8 < n) (hnp : np ≤ 8) (h0 : 0 < np) (hf : f < 8) (hrb : ∀ p, p < np → (rq.testBit p = true ↔ pa p = 0)) (hvb : ∀ p, p < np → ∀ v, v < 8 → ((vm p).testBit v = true ↔ hasV (sl p) v)) (hO : ∀ p, p < np → pa p ≤ np ∧ Of p = nI (pa p) - 1) (hC : ∀ p, p < np → ceH C p (sl p)) (ho : ∀ i, i < np → o i < np ∧ O i = nI (o i)) (hfv : fv f < 8) (hL : Lk f = slv (32 + fv f)) (hZ : tf (Z f) (sf.testBit f = true)) :
    f_JoinOrderModel_putFilters_L2 n Z O Of Lk C (nI f) n (nI np - 1) (nI np - 1) = some (nI (bhN sf rq np vm o fv f)) := by
  apply ok_eq
  by_cases hs : sf.testBit f = true
  · have eb : bhN sf rq np vm o fv f = fdD (fbB rq vm o (fv f)) (np - 1) np 0 := by
      unfold bhN
      rw [if_pos hs]
    rw [eb]
    suffices key : ok (f_JoinOrderModel_putFilters_L2 n Z O Of Lk C (nI f) n (nI np - 1) (nI (np - 0) - 1)) (fun y => y = nI (fdD (fbB rq vm o (fv f)) (np - 1) np 0)) by
      exact key
    refine lpF (σ := Int32) (fun g i x => f_JoinOrderModel_putFilters_L2 n Z O Of Lk C (nI f) g x (nI (np - i) - 1)) (fun i x => (x = nI (np - 1) ∧ ∀ p, np - i ≤ p → p < np → ¬ fbB rq vm o (fv f) p = true) ∨ (∃ p, np - i ≤ p ∧ p < np ∧ x = nI p ∧ fbB rq vm o (fv f) p = true ∧ ∀ j, np - i ≤ j → j < p → ¬ fbB rq vm o (fv f) j = true)) np _ ?_ ?_ n 0 (nI np - 1) (by omega) (by omega) (Or.inl ⟨pa_v (by omega), fun p h1 h2 => by omega⟩)
    · intro g x hx
      rw [f_JoinOrderModel_putFilters_L2_s, Nat.sub_self]
      rw [Nat.sub_self] at hx
      refine ok_t (by decide) (ok_s ?_)
      rcases hx with ⟨h1, h2⟩ | ⟨p, h1, h2, h3, h4, h5⟩
      · rw [h1, fdD_no np 0 (fun j _ j2 => h2 j (Nat.zero_le _) (by omega))]
      · rw [h3, fdD_at np 0 (Nat.zero_le _) (by omega) h4 (fun j _ hj => h5 j (Nat.zero_le _) hj)]
    · intro g i x hi hx ih
      obtain ⟨c, hc⟩ : ∃ c, np - i = c + 1 := ⟨np - i - 1, by omega⟩
      have e3 : np - (i + 1) = c := by omega
      rw [hc] at hx ⊢
      rw [e3] at ih
      rw [nI_pred, f_JoinOrderModel_putFilters_L2_s]
      refine ok_f (nI_pos (by omega)) ?_
      refine ok_gd f rfl hf (by decide) ?_
      rw [nI_clamp (by omega : f < 2 ^ 31)]
      refine ok_f (fun e => (tf_0 hZ).mp e hs) ?_
      have no : ¬ fbB rq vm o (fv f) c = true → (x = nI (np - 1) ∧ ∀ p, c ≤ p → p < np → ¬ fbB rq vm o (fv f) p = true) ∨ (∃ p, c ≤ p ∧ p < np ∧ x = nI p ∧ fbB rq vm o (fv f) p = true ∧ ∀ j, c ≤ j → j < p → ¬ fbB rq vm o (fv f) j = true) := fun g => by
        rcases hx with ⟨h1, h2⟩ | ⟨k, h1, h2, h3, h4, h5⟩
        · refine Or.inl ⟨h1, fun k k1 k2 => ?_⟩
          by_cases e : k = c
          · exact e ▸ g
          · exact h2 k (by omega) k2
        · refine Or.inr ⟨k, by omega, h2, h3, h4, fun j j1 j2 => ?_⟩
          by_cases e : j = c
          · exact e ▸ g
          · exact h5 j (by omega) j2
      refine ok_gd c rfl (by omega) (by decide) ?_
      obtain ⟨o1, o2⟩ := ho c (by omega)
      rw [nI_clamp (by omega : c < 2 ^ 31), o2]
      refine ok_bn1 _ (q_isReq hnp o1 hO) (fun z hz => ?_)
      refine ok_b _ (tf_0 hz) (fun g1 => ok_nmE (i_m1 _) (ih _ (no (fun h => g1 ((hrb _ o1).mp (Bool.and_eq_true _ _ |>.mp h).1))))) (fun g1 => ?_)
      rw [hL]
      refine ok_bn1 _ (q_placeOf (by omega) (by omega) hfv (hC _ o1)) (fun r hr => ?_)
      rcases hr with ⟨h1, h2⟩ | ⟨h1, h2, h3, h4⟩
      · subst h1
        refine ok_t (by decide) (ok_nmE (i_m1 _) (ih _ (no (fun h => h2 ((hvb _ o1 _ hfv).mp (Bool.and_eq_true _ _ |>.mp h).2)))))
      · subst h4
        refine ok_f (nI_pos (by omega)) (ok_nmE (i_m1 _) (ih _ (Or.inr ⟨c, Nat.le_refl c, by omega, rfl, ?_, fun j h1 h2 => by omega⟩)))
        unfold fbB
        rw [(hrb _ o1).mpr (Classical.not_not.mp g1), (hvb _ o1 _ hfv).mpr h1]
        rfl
  · have eb : bhN sf rq np vm o fv f = np - 1 := by
      unfold bhN
      rw [if_neg hs]
    rw [eb]
    cases n with
    | zero => omega
    | succ k =>
      rw [f_JoinOrderModel_putFilters_L2_s, pa_v (show np ≠ 0 by omega)]
      refine ok_f (nI_pos (by omega)) ?_
      refine ok_gd f rfl hf (by decide) ?_
      rw [nI_clamp (by omega : f < 2 ^ 31)]
      exact ok_t ((tf_0 hZ).mpr hs) (ok_s rfl)
theorem bhN_lt {sf rq np f : Nat} {vm o fv : Nat → Nat} (h0 : 0 < np) : bhN sf rq np vm o fv f < np := by
  unfold bhN
  split
  · exact fdD_lt np 0 np (by omega) (by omega)
  · omega
theorem q_putF {n np rq sf nf : Nat} {pa vm o fv fk fx : Nat → Nat} {sl : Nat → Nat → Nat} {Z O Of Lk K X C A0 B0 : Nat → Int32} (hn : 8 < n) (hnp : np ≤ 8) (hrb : ∀ p, p < np → (rq.testBit p = true ↔ pa p = 0)) (hvb : ∀ p, p < np → ∀ v, v < 8 → ((vm p).testBit v = true ↔ hasV (sl p) v)) (hO : ∀ p, p < np → pa p ≤ np ∧ Of p = nI (pa p) - 1) (hC : ∀ p, p < np → ceH C p (sl p)) (ho : ∀ i, i < np → o i < np ∧ O i = nI (o i)) (hF : QF nf fv fk fx sf (nI nf) Lk K X Z) :
    ok (f_JoinOrderModel_putFilters n (nI nf) (nI np) A0 Z O Of Lk C B0) (fun r => r.1 = nI nf ∧ (∀ i, i < np → r.2.1 i = nI (popc (mkS (fun f => bhN sf rq np vm o fv f = i) nf) 8)) ∧ ∀ f, f < nf → r.2.2 f = if np = 0 then -3 else nI (bhN sf rq np vm o fv f)) := by
  obtain ⟨hnf, _, hF⟩ := hF
  rw [f_JoinOrderModel_putFilters_u]
  refine ok_bn1 (fun A => ∀ i, i < 8 → A i = 0) ?_ (fun A hA => ?_)
  · refine lpF (σ := Nat → Int32) (fun f i A => f_JoinOrderModel_putFilters_L0 n f A (nI i)) (fun i A => ∀ j, j < i → A j = 0) 8 _ ?_ ?_ n 0 A0 (by omega) (by omega) (fun j h => by omega)
    · intro f A hA
      rw [f_JoinOrderModel_putFilters_L0_s]
      exact ok_t (nI_le (Nat.le_refl _) (by decide)) (ok_s hA)
    · intro f i A hi hA ih
      rw [f_JoinOrderModel_putFilters_L0_s]
      refine ok_f (nI_ge hi (by decide)) ?_
      refine ok_gd i rfl hi (by decide) ?_
      rw [nI_clamp (by omega : i < 2 ^ 31)]
      refine ok_nm (ok_nmE (nI_1 i) (ih _ (fun j hj => ?_)))
      by_cases e : j = i
      · subst e
        rw [pk_us]
      · rw [pk_un e]
        exact hA j (by omega)
  refine ok_bn2 (fun s => (∀ i, i < np → s.1 i = nI (popc (mkS (fun f => bhN sf rq np vm o fv f = i) nf) 8)) ∧ ∀ f, f < nf → s.2 f = if np = 0 then -3 else nI (bhN sf rq np vm o fv f)) ?_ (fun a b h => ok_s ⟨rfl, h⟩)
  refine lpF (σ := (Nat → Int32) × (Nat → Int32)) (fun f i s => f_JoinOrderModel_putFilters_L1 n (nI nf) (nI np) Z O Of Lk C f s.1 s.2 (nI i)) (fun i s => (∀ j, j < np → s.1 j = nI (popc (mkS (fun f => bhN sf rq np vm o fv f = j) i) 8)) ∧ ∀ f, f < i → s.2 f = if np = 0 then -3 else nI (bhN sf rq np vm o fv f)) nf _ ?_ ?_ n 0 (A, B0) (by omega) (by omega) ⟨fun j hj => by
    show A j = nI (popc 0 8)
    rw [popc_0]
    exact hA j (by omega), fun f h => by omega⟩
  · intro f s hI
    rw [f_JoinOrderModel_putFilters_L1_s]
    exact ok_t (nI_le (Nat.le_refl _) (by omega)) (ok_s hI)
  · intro g f s hf hI ih
    obtain ⟨A, B⟩ := s
    obtain ⟨k1, k2⟩ := hI
    simp only at k1 k2
    rw [f_JoinOrderModel_putFilters_L1_s]
    dsimp only
    refine ok_f (nI_ge hf (by omega)) (ok_nm (ok_nm ?_))
    obtain ⟨f1, f2, f3, f4, f5, f6, f7⟩ := hF f hf
    have hB : ∀ (c : Int32), (c = if np = 0 then -3 else nI (bhN sf rq np vm o fv f)) → ∀ h, h < f + 1 → upd B f c h = if np = 0 then -3 else nI (bhN sf rq np vm o fv h) := fun c hc h hh => by
      by_cases e : h = f
      · subst e
        rw [pk_us, hc]
      · rw [pk_un e]
        exact k2 h (by omega)
    by_cases h0 : np = 0
    · subst h0
      refine ok_bn1 (fun _ => True) ?_ (fun x2 _ => ?_)
      · cases n with
        | zero => omega
        | succ k =>
          rw [f_JoinOrderModel_putFilters_L2_s]
          exact ok_t (by decide) (ok_s trivial)
      refine ok_bn1 (fun z => z = -3) (ok_t rfl (ok_s rfl)) (fun z e => ?_)
      subst e
      refine ok_gd f rfl (by omega) (by decide) (ok_nm ?_)
      rw [nI_clamp (by omega : f < 2 ^ 31)]
      exact ok_t (by decide) (ok_nmE (nI_1 f) (ih (A, upd B f (-3)) ⟨fun j hj => by omega, hB (-3) (by rw [if_pos rfl])⟩))
    · refine ok_bn1 _ (ok_e (q_first (rq := rq) (vm := vm) (fv := fv) hn hnp (by omega) (by omega) hrb hvb hO hC ho f1 f4 f7)) (fun x2 e => ?_)
      subst e
      refine ok_bn1 (fun z => z = nI (bhN sf rq np vm o fv f)) (ok_f (nI_ne0 (by omega) (by omega)) (ok_s rfl)) (fun z e => ?_)
      subst e
      have hb := bhN_lt (sf := sf) (rq := rq) (vm := vm) (o := o) (fv := fv) (f := f) (show 0 < np by omega)
      refine ok_gd f rfl (by omega) (by decide) (ok_nm ?_)
      rw [nI_clamp (by omega : f < 2 ^ 31)]
      refine ok_f (nI_nle (by omega) (by omega)) ?_
      refine ok_gd _ rfl (show bhN sf rq np vm o fv f < 8 by omega) (by decide) ?_
      rw [nI_clamp (by omega : bhN sf rq np vm o fv f < 2 ^ 31), k1 _ hb]
      have ep : ∀ j, mkS (fun f => bhN sf rq np vm o fv f = j) (f + 1) = mkS (fun f => bhN sf rq np vm o fv f = j) f ||| @ite Nat (bhN sf rq np vm o fv f = j) (Classical.propDecidable _) (2 ^ f) 0 := fun j => rfl
      refine ok_nm (ok_nm (ok_nmE (nI_1 f) (ih (upd A (bhN sf rq np vm o fv f) (nI (popc (mkS (fun g => bhN sf rq np vm o fv g = bhN sf rq np vm o fv f) f) 8) + 1), upd B f (nI (bhN sf rq np vm o fv f))) ⟨fun j hj => ?_, hB _ (by rw [if_neg h0])⟩)))
      simp only
      by_cases e : j = bhN sf rq np vm o fv f
      · subst e
        rw [pk_us, ep, if_pos rfl, popc_or (fun hb2 => by have := bit_ltn (mkS_lt (fun g => bhN sf rq np vm o fv g = bhN sf rq np vm o fv f) f) hb2; omega) 8 (by omega)]
        exact nI_1 _
      · rw [pk_un e, ep, if_neg (fun e2 => e e2.symm), Nat.or_zero]
        exact k1 j hj
