theorem dvS_le {s : Nat → Nat} {m a : Nat} : ∀ k, (dvS s m a k).1 ≤ a := by
  intro k
  induction k with
  | zero => exact Nat.le_refl a
  | succ k ih =>
    unfold dvS
    by_cases h : m.testBit k = true
    · rw [if_pos h]
      by_cases h2 : (dvS s m a k).2 = 0
      · rw [if_pos h2]
        exact ih
      · rw [if_neg h2]
        exact Nat.le_trans (cdiv_le (by omega)) ih
    · rw [if_neg h]
      exact ih
theorem estN_W {sz : Nat → Nat} {spr : Nat → Nat → Nat} {hv : Nat → Nat} {S : Nat} (h : ∀ p, sz p ≤ 100) : ∀ v, estN sz spr hv S v ≤ W8 := by
  intro v
  induction v with
  | zero => exact prd_le (fun k _ => h k) 8
  | succ v ih => exact Nat.le_trans (dvS_le 8) ih
/-! The first number with a property, 0 if there is none below 8 -/
def fnd (B : Nat → Bool) : Nat → Nat → Nat
  | 0, _ => 0
  | k + 1, i => if B i = true then i else fnd B k (i + 1)
theorem fnd_lt {B : Nat → Bool} : ∀ k i, i + k ≤ 8 → fnd B k i < 8 := by
  intro k
  induction k with
  | zero => intro i _; show 0 < 8; omega
  | succ k ih =>
    intro i h
    unfold fnd
    split
    · omega
    · exact ih (i + 1) (by omega)
theorem fnd_has {B : Nat → Bool} : ∀ k i, (∃ j, i ≤ j ∧ j < i + k ∧ B j = true) → B (fnd B k i) = true ∧ i ≤ fnd B k i ∧ ∀ j, i ≤ j → j < fnd B k i → ¬ B j = true := by
  intro k
  induction k with
  | zero => intro i ⟨j, h1, h2, _⟩; omega
  | succ k ih =>
    intro i ⟨j, h1, h2, h3⟩
    unfold fnd
    by_cases hb : B i = true
    · rw [if_pos hb]
      exact ⟨hb, Nat.le_refl i, fun j h4 h5 => by omega⟩
    · rw [if_neg hb]
      have hj : j ≠ i := fun e => hb (e ▸ h3)
      obtain ⟨g1, g2, g3⟩ := ih (i + 1) ⟨j, by omega, by omega, h3⟩
      refine ⟨g1, by omega, fun j h4 h5 => ?_⟩
      by_cases e : j = i
      · exact e ▸ hb
      · exact g3 j (by omega) h5
def chB (E C : Nat → Nat) (nx S : Nat) (p : Nat) : Bool := nx.testBit p && decide (E (S ||| 2 ^ p) + C (S ||| 2 ^ p) = C S)
theorem c_cheap {n S np rq W : Nat} (hW : W * 256 + W < 2 ^ 62) {vm bf : Nat → Nat} {V B : Nat → Int32} {E C : Nat → Nat} {Qe Qc : Nat → Int64} (hn : 8 < n) (hS : S < 256) (hp : np ≤ 8) (hr : rq < 256) (h : vmH vm np V) (hB : bfH bf np B) (hE : ∀ S, E S ≤ W) (hC : ∀ S, C S ≤ W * 256) (hs : sub8 S rq) (he : tH Qe E 0 rq) (hc : tH Qc C 0 rq) :
    f_Planner_cheapestNext n (nI S) (nI rq) (nI np) V B Qe Qc = some (nI (fnd (chB E C (nxM rq bf vm np S) S) 8 0)) := by
  apply ok_eq
  rw [f_Planner_cheapestNext_u]
  refine ok_bn1 _ (ok_e (c_next hn hS hp hr h hB)) (fun r e => ?_)
  subst e
  have hx := nxM_ok (rq := rq) (bf := bf) (vm := vm) hp
  have hl : nxM rq bf vm np S < 2 ^ 8 := Nat.lt_of_lt_of_le (mkS_lt _ np) (Nat.pow_le_pow_right (by decide) hp)
  refine ok_bd0 (fun _ => fnd (chB E C (nxM rq bf vm np S) S) 8 0 = 0) ?_ (fun h => ok_s (by rw [h]; rfl))
  refine lpU (fun f i => f_Planner_cheapestNext_L0 n (nI S) Qe Qc (nI (nxM rq bf vm np S)) f (nI i)) (fun i => fnd (chB E C (nxM rq bf vm np S) S) 8 0 = fnd (chB E C (nxM rq bf vm np S) S) (8 - i) i) 8 _ ?_ ?_ n 0 (by omega) (by omega) rfl
  · intro f h
    rw [f_Planner_cheapestNext_L0_s]
    exact ok_t (nI_le (Nat.le_refl 8) (by omega)) (ok_s h)
  · intro f i hi h ih
    rw [f_Planner_cheapestNext_L0_s]
    refine ok_f (nI_ge hi (by first | omega | decide)) ?_
    have e1 : fnd (chB E C (nxM rq bf vm np S) S) (8 - i) i = if chB E C (nxM rq bf vm np S) S i = true then i else fnd (chB E C (nxM rq bf vm np S) S) (8 - (i + 1)) (i + 1) := by
      rw [show 8 - i = (8 - (i + 1)) + 1 by omega]
      rfl
    rw [e1] at h
    refine ok_b _ (tf_0 (m_in (m := nxM rq bf vm np S) (p := i) (by omega) (by omega))) (fun h4 => ?_) (fun h4 => ?_)
    · rw [if_neg (show ¬ chB E C (nxM rq bf vm np S) S i = true from fun h5 => h4 (Bool.and_eq_true _ _ |>.mp h5).1)] at h
      exact ok_nmE (nI_1 i) (ih h)
    · have h5 := Classical.not_not.mp h4
      refine ok_bn1 _ (ok_e (c_thr hi hS (nxM_sub h5 hs) (Nat.zero_le _) he hc)) (fun z e => ?_)
      subst e
      refine ok_gd S rfl hS (by omega) ?_
      rw [nI_clamp (by omega : S < 2 ^ 31), hc S (Nat.zero_le _) hS hs]
      have k1 := hE (S ||| 2 ^ i)
      have k2 := hC (S ||| 2 ^ i)
      have k3 := hC S
      refine ok_b _ ((lg_cmp_eq _ _).trans (pk_lEQ (by omega) (by omega))) (fun h6 => ok_s ?_) (fun h6 => ?_)
      · rw [if_pos (show chB E C (nxM rq bf vm np S) S i = true from by unfold chB; rw [h5, decide_eq_true h6]; rfl)] at h
        show nI i = _
        rw [h]
      · rw [if_neg (show ¬ chB E C (nxM rq bf vm np S) S i = true from fun h7 => h6 (of_decide_eq_true (Bool.and_eq_true _ _ |>.mp h7).2))] at h
        exact ok_nmE (nI_1 i) (ih h)
def jnO (E : Nat → Nat) (sz vm : Nat → Nat) (np p S : Nat) : Nat := if S = 0 then 0 else if vm p &&& vO vm S np = 0 then 1 else if sz p < E S then 3 else 2
theorem c_joinOf {n S p np rq W : Nat} (hW : W * 256 + W < 2 ^ 62) {vm sz : Nat → Nat} {V Qz : Nat → Int32} {E : Nat → Nat} {Qe : Nat → Int64} (hn : 8 < n) (hS : S < 256) (hp : np ≤ 8) (hpp : p < np) (h : vmH vm np V) (hE : ∀ S, E S ≤ W) (hs : sub8 S rq) (he : tH Qe E 0 rq) (hz : sz p ≤ 100 ∧ Qz p = nI (sz p)) :
    f_Planner_joinOf n (nI p) (nI S) (nI np) V Qe Qz = some (nI (jnO E sz vm np p S)) := by
  apply ok_eq
  rw [f_Planner_joinOf_u]
  unfold jnO
  have hv1 := (h p hpp).1
  have hal : vm p &&& vO vm S np ≤ vm p := Nat.and_le_left
  have k1 := hE S
  refine ok_b (S = 0) (nI_eq (b := 0) (by omega) (by omega)) (fun h1 => ok_s ?_) (fun h1 => ?_)
  · rw [if_pos h1]
    rfl
  · rw [if_neg h1]
    refine ok_gd p rfl (by omega) (by omega) ?_
    refine ok_bn1 _ (ok_e (c_vars hn hS hp h)) (fun r e => ?_)
    subst e
    rw [nI_clamp (by omega : p < 2 ^ 31), (h p hpp).2, nx_and]
    refine ok_b (vm p &&& vO vm S np = 0) (nI_eq (b := 0) (by omega) (by omega)) (fun h2 => ok_s ?_) (fun h2 => ?_)
    · rw [if_pos h2]
      rfl
    · rw [if_neg h2]
      refine ok_gd S rfl hS (by omega) ?_
      have hz1 := hz.1
      rw [nI_clamp (by omega : S < 2 ^ 31), he S (Nat.zero_le _) hS hs, hz.2, nI_l (by omega)]
      refine ok_b (sz p < E S) ((lg_cmp_gt _ _).trans (pk_lLT (by omega) (by omega))) (fun h3 => ok_s ?_) (fun h3 => ok_s ?_)
      · rw [if_pos h3]
        rfl
      · rw [if_neg h3]
        rfl
/-! The order of the required ones -/
def sq (ch : Nat → Nat) : Nat → Nat
  | 0 => 0
  | k + 1 => sq ch k ||| 2 ^ ch (sq ch k)
/-- among those left there is one that may come: hints go in no circle -/
def acy (rq : Nat) (bf : Nat → Nat) : Prop := ∀ p, p < 8 → rq.testBit p = true → (bf p < 256 ∧ ∀ q, q < 8 → (bf p).testBit q = true → rq.testBit q = true ∧ ¬ (bf q).testBit q = true ∧ ∀ x, x < 8 → (bf q).testBit x = true → (bf p).testBit x = true)
theorem free_one {rq S : Nat} {bf : Nat → Nat} (h : acy rq bf) : ∀ W p, bf p < W → p < 8 → rq.testBit p = true → ¬ S.testBit p = true → ∃ q, q < 8 ∧ frP rq bf S q := by
  intro W
  induction W with
  | zero => intro p h1; omega
  | succ W ih =>
    intro p h1 hp hr hs
    by_cases hf : ∀ q, q < 8 → (bf p).testBit q = true → S.testBit q = true
    · exact ⟨p, hp, hr, hs, hf⟩
    · obtain ⟨q, hq⟩ := Classical.not_forall.mp hf
      obtain ⟨q8, hq⟩ := Classical.not_imp.mp hq
      obtain ⟨qb, qs⟩ := Classical.not_imp.mp hq
      obtain ⟨g1, g2⟩ := h p hp hr
      obtain ⟨g3, g4, g5⟩ := g2 q q8 qb
      refine ih q ?_ q8 g3 qs
      have g6 := (h q q8 g3).1
      have g7 := sub_le g6 g5
      have g8 : bf q ≠ bf p := fun e => g4 (e ▸ qb)
      omega
theorem next_one {rq S np : Nat} {bf vm : Nat → Nat} (h : acy rq bf) (hnp : np ≤ 8) (hrn : ∀ p, p < 8 → rq.testBit p = true → p < np) (hp : ∃ p, p < 8 ∧ rq.testBit p = true ∧ ¬ S.testBit p = true) : ∃ p, p < 8 ∧ (nxM rq bf vm np S).testBit p = true := by
  obtain ⟨p, p8, pr, ps⟩ := hp
  obtain ⟨q, q8, hq⟩ := free_one h (bf p + 1) p (by omega) p8 pr ps
  by_cases hj : ∃ x, x < np ∧ jnP rq bf vm np S x
  · obtain ⟨x, hx, hj⟩ := hj
    exact ⟨x, by omega, (mkS_bit _ _ _).mpr ⟨hx, Or.inl hj⟩⟩
  · exact ⟨q, q8, (mkS_bit _ _ _).mpr ⟨hrn q q8 hq.1, Or.inr ⟨fun x hx hj2 => hj ⟨x, hx, hj2⟩, hq⟩⟩⟩
/-- the least is met by one of them -/
theorem mnO_met {m : Nat} {g : Nat → Nat} : ∀ k, (∃ p, p < k ∧ m.testBit p = true) → ∃ p, p < k ∧ m.testBit p = true ∧ mnO m g k = some (g p) := by
  intro k
  induction k with
  | zero => intro ⟨p, h, _⟩; omega
  | succ k ih =>
    intro ⟨p, h1, h2⟩
    unfold mnO
    by_cases hb : m.testBit k = true
    · rw [if_pos hb]
      cases e : mnO m g k with
      | none => exact ⟨k, by omega, hb, rfl⟩
      | some a =>
        by_cases hk : ∃ p, p < k ∧ m.testBit p = true
        · obtain ⟨q, q1, q2, q3⟩ := ih hk
          rw [e] at q3
          have q4 : a = g q := Option.some.inj q3
          by_cases hm : g q ≤ g k
          · refine ⟨q, by omega, q2, ?_⟩
            show some (min a (g k)) = some (g q)
            rw [q4, Nat.min_eq_left hm]
          · refine ⟨k, by omega, hb, ?_⟩
            show some (min a (g k)) = some (g k)
            rw [q4, Nat.min_eq_right (by omega)]
        · exfalso
          have none_ : ∀ j, j ≤ k → mnO m g j = none := by
            intro j
            induction j with
            | zero => intro _; rfl
            | succ j ihj =>
              intro hj
              unfold mnO
              rw [if_neg (fun hb2 => hk ⟨j, by omega, hb2⟩)]
              exact ihj (by omega)
          rw [none_ k (Nat.le_refl k)] at e
          cases e
    · rw [if_neg hb]
      have hp : p ≠ k := fun e => hb (e ▸ h2)
      obtain ⟨q, q1, q2, q3⟩ := ih ⟨p, by omega, h2⟩
      exact ⟨q, by omega, q2, q3⟩
theorem ch_ok {E nx : Nat → Nat} (hx : nxO nx) {S : Nat} (hS : S < 256) (hne : ∃ p, p < 8 ∧ (nx S).testBit p = true) : (nx S).testBit (fnd (chB E (cA E nx) (nx S) S) 8 0) = true := by
  obtain ⟨p, h1, h2, h3⟩ := mnO_met (g := fun p => E (S ||| 2 ^ p) + cA E nx (S ||| 2 ^ p)) 8 hne
  have h4 : cA E nx S = E (S ||| 2 ^ p) + cA E nx (S ||| 2 ^ p) := by
    rw [cA_eq hx hS, h3]
    rfl
  have h5 := (fnd_has (B := chB E (cA E nx) (nx S) S) 8 0 ⟨p, Nat.zero_le _, by omega, by
    unfold chB
    rw [h2, decide_eq_true h4.symm]
    rfl⟩).1
  exact (Bool.and_eq_true _ _ |>.mp h5).1
theorem popc_or {S p : Nat} (h : ¬ S.testBit p = true) : ∀ k, p < k → popc (S ||| 2 ^ p) k = popc S k + 1 := by
  have low : ∀ k, k ≤ p → popc (S ||| 2 ^ p) k = popc S k := by
    intro k
    induction k with
    | zero => intro _; rfl
    | succ k ih =>
      intro hk
      show popc (S ||| 2 ^ p) k + ((S ||| 2 ^ p).testBit k).toNat = popc S k + (S.testBit k).toNat
      rw [ih (by omega), Nat.testBit_or, Nat.testBit_two_pow_of_ne (by omega), Bool.or_false]
  intro k
  induction k with
  | zero => intro hk; omega
  | succ k ih =>
    intro hk
    show popc (S ||| 2 ^ p) k + ((S ||| 2 ^ p).testBit k).toNat = popc S k + (S.testBit k).toNat + 1
    rw [Nat.testBit_or]
    by_cases e : p = k
    · subst e
      rw [low p (Nat.le_refl p), Nat.testBit_two_pow_self, Bool.or_true]
      cases e2 : S.testBit p
      · rfl
      · exact absurd e2 h
    · rw [ih (by omega), Nat.testBit_two_pow_of_ne e, Bool.or_false]
      omega
theorem popc_more {S rq : Nat} : ∀ k, popc S k < popc rq k → ∃ p, p < k ∧ rq.testBit p = true ∧ ¬ S.testBit p = true := by
  intro k
  induction k with
  | zero => intro h; exact absurd h (Nat.lt_irrefl 0)
  | succ k ih =>
    intro h
    have h' : popc S k + (S.testBit k).toNat < popc rq k + (rq.testBit k).toNat := h
    by_cases hl : popc S k < popc rq k
    · obtain ⟨p, h1, h2⟩ := ih hl
      exact ⟨p, by omega, h2⟩
    · refine ⟨k, by omega, ?_, ?_⟩
      · cases e : rq.testBit k
        · rw [e] at h'
          simp only [Bool.toNat_false] at h'
          omega
        · rfl
      · intro e
        rw [e] at h'
        have : (rq.testBit k).toNat ≤ 1 := Bool.toNat_le _
        simp only [Bool.toNat_true] at h'
        omega
theorem popc_0 : ∀ k, popc 0 k = 0 := by
  intro k
  induction k with
  | zero => rfl
  | succ k ih =>
    show popc 0 k + ((0 : Nat).testBit k).toNat = 0
    rw [ih, Nat.zero_testBit]
    rfl
theorem popc_le (n : Nat) : ∀ k, popc n k ≤ k := by
  intro k
  induction k with
  | zero => exact Nat.le_refl 0
  | succ k ih =>
    have : (n.testBit k).toNat ≤ 1 := Bool.toNat_le _
    show popc n k + (n.testBit k).toNat ≤ k + 1
    omega
theorem popc_8 {n : Nat} (h : n < 256) : popc n 32 = popc n 8 := by
  have h1 := popc_add n 8 24
  rw [show n / 2 ^ 8 = 0 by omega, popc_0] at h1
  exact h1
noncomputable def chN (E : Nat → Nat) (nx : Nat → Nat) (S : Nat) : Nat := fnd (chB E (cA E nx) (nx S) S) 8 0
theorem c_ordR {n np rq W : Nat} (hW : W * 256 + W < 2 ^ 62) {vm bf sz : Nat → Nat} {V B Qz : Nat → Int32} {E : Nat → Nat} {Qe Qc : Nat → Int64} {o0 j0 : Nat → Int32} {e0 : Nat → Int64} (hn : 8 < n) (hp : np ≤ 8) (hr : rq < 256) (hrn : ∀ p, p < 8 → rq.testBit p = true → p < np) (ha : acy rq bf) (h : vmH vm np V) (hB : bfH bf np B) (hE : ∀ S, E S ≤ W) (h1 : szH sz rq Qz) (he : tH Qe E 0 rq) (hc : tH Qc (cA E (nxM rq bf vm np)) 0 rq) :
    ok (f_Planner_orderRequired n (nI rq) (nI np) V B Qe Qc o0 Qz j0 e0) (fun o => o.1 = nI (popc rq 8) ∧ ∀ j, j < popc rq 8 → (chN E (nxM rq bf vm np) (sq (chN E (nxM rq bf vm np)) j) < np ∧ rq.testBit (chN E (nxM rq bf vm np) (sq (chN E (nxM rq bf vm np)) j)) = true) ∧ o.2.1 j = nI (chN E (nxM rq bf vm np) (sq (chN E (nxM rq bf vm np)) j)) ∧ o.2.2.1 j = nI (jnO E sz vm np (chN E (nxM rq bf vm np) (sq (chN E (nxM rq bf vm np)) j)) (sq (chN E (nxM rq bf vm np)) j)) ∧ o.2.2.2 j = lN (E (sq (chN E (nxM rq bf vm np)) (j + 1)))) := by
  rw [f_Planner_orderRequired_u, bitC (by omega), popc_8 hr]
  refine ok_nm ?_
  have hx := nxM_ok (rq := rq) (bf := bf) (vm := vm) hp
  have hpl := popc_le rq 8
  have hch : ∀ S, chN E (nxM rq bf vm np) S = fnd (chB E (cA E (nxM rq bf vm np)) (nxM rq bf vm np S) S) 8 0 := fun S => rfl
  generalize hcg : chN E (nxM rq bf vm np) = ch at *
  refine ok_bn3 (fun o => ∀ j, j < popc rq 8 → (ch (sq ch j) < np ∧ rq.testBit (ch (sq ch j)) = true) ∧ o.1 j = nI (ch (sq ch j)) ∧ o.2.1 j = nI (jnO E sz vm np (ch (sq ch j)) (sq ch j)) ∧ o.2.2 j = lN (E (sq ch (j + 1)))) ?_ (fun a b c hh => ok_s ⟨rfl, hh⟩)
  refine lpF (σ := (Nat → Int32) × (Nat → Int32) × (Nat → Int64) × Int32) (fun f i s => f_Planner_orderRequired_L0 n (nI rq) (nI np) V B Qe Qc Qz (nI (popc rq 8)) f s.1 s.2.1 s.2.2.1 s.2.2.2 (nI i)) (fun i s => s.2.2.2 = nI (sq ch i) ∧ sq ch i < 256 ∧ sub8 (sq ch i) rq ∧ popc (sq ch i) 8 = i ∧ ∀ j, j < i → (ch (sq ch j) < np ∧ rq.testBit (ch (sq ch j)) = true) ∧ s.1 j = nI (ch (sq ch j)) ∧ s.2.1 j = nI (jnO E sz vm np (ch (sq ch j)) (sq ch j)) ∧ s.2.2.1 j = lN (E (sq ch (j + 1)))) (popc rq 8) _ ?_ ?_ n 0 (o0, j0, e0, 0) (by omega) (by omega) ⟨rfl, by show 0 < 256; omega, fun q hq hb => by
    have hb2 : (0 : Nat).testBit q = true := hb
    rw [Nat.zero_testBit] at hb2
    exact absurd hb2 Bool.false_ne_true, popc_0 8, fun j hj => by omega⟩
  · intro f s hI
    rw [f_Planner_orderRequired_L0_s]
    exact ok_t (nI_le (Nat.le_refl _) (by omega)) (ok_s hI.2.2.2.2)
  · intro f i s hi hI ih
    obtain ⟨X, Y, Z, st⟩ := s
    obtain ⟨k1, k2, k3, k4, k5⟩ := hI
    simp only at k1 k2 k3 k4 k5
    subst k1
    rw [f_Planner_orderRequired_L0_s]
    dsimp only
    refine ok_f (nI_ge hi (by first | omega | decide)) ?_
    generalize hSg : sq ch i = S at *
    have hne := next_one (vm := vm) ha hp hrn (popc_more 8 (show popc S 8 < popc rq 8 by omega))
    have hpb := ch_ok (E := E) hx k2 hne
    rw [← hch S] at hpb
    refine ok_bn1 _ (ok_e (c_cheap hW hn k2 hp hr h hB hE (cA_le hE) k3 he hc)) (fun z e => ?_)
    rw [← hch S] at e
    subst e
    have hpn := (mkS_bit _ _ _).mp hpb
    have hp8 := (hx S _ hpb).1
    have hns := (hx S _ hpb).2
    have hsub' := nxM_sub hpb k3
    have hrb : rq.testBit (ch S) = true := hsub' (ch S) hp8 ((bit_or _ _ _).mpr (Or.inr ((bit_p2 _ _).mpr rfl)))
    have hS' : S ||| 2 ^ ch S < 256 := or_lt (k := 8) k2 (p2_lt hp8)
    refine ok_gd i rfl (by omega) (by omega) ?_
    rw [nI_clamp (by omega : i < 2 ^ 31)]
    refine ok_nm ?_
    refine ok_bn1 _ (ok_e (c_joinOf hW hn k2 hp hpn.1 h hE k3 he (h1 _ hp8 hrb))) (fun z e => ?_)
    subst e
    rw [m_sh (by omega), m_or]
    refine ok_nm (ok_nm ?_)
    refine ok_gd _ rfl hS' (by omega) ?_
    rw [nI_clamp (by omega : S ||| 2 ^ ch S < 2 ^ 31), he _ (Nat.zero_le _) hS' hsub']
    refine ok_nm (ok_nm (ok_nmE (nI_1 i) (ih (upd X i (nI (ch S)), upd Y i (nI (jnO E sz vm np (ch S) S)), vp_updL Z i (lN (E (S ||| 2 ^ ch S))), nI (S ||| 2 ^ ch S)) ?_)))
    have esq : sq ch (i + 1) = S ||| 2 ^ ch S := by
      show sq ch i ||| 2 ^ ch (sq ch i) = _
      rw [hSg]
    rw [esq]
    refine ⟨rfl, hS', hsub', by rw [popc_or hns 8 hp8, k4], fun j hj => ?_⟩
    simp only
    by_cases e : j = i
    · subst e
      rw [hSg, esq, pk_us, pk_us, pk_uLs]
      exact ⟨⟨hpn.1, hrb⟩, rfl, rfl, rfl⟩
    · rw [pk_un e, pk_un e, pk_uLn e]
      exact k5 j (by omega)
/-! The optional ones behind -/
def noB (pa : Nat → Nat) (come p : Nat) : Bool := !come.testBit p && come.testBit (pa p - 1)
theorem fnd_lt2 {B : Nat → Bool} : ∀ k i N, 0 < N → i + k ≤ N → fnd B k i < N := by
  intro k
  induction k with
  | zero => intro i N h _; exact h
  | succ k ih =>
    intro i N h0 h
    unfold fnd
    split
    · omega
    · exact ih (i + 1) N h0 (by omega)
def paH (pa : Nat → Nat) (np : Nat) (Pr : Nat → Int32) : Prop := ∀ p, p < np → pa p ≤ np ∧ Pr p = nI (pa p) - 1
theorem c_nextO {n np come : Nat} {pa : Nat → Nat} {Pr : Nat → Int32} (hn : 8 < n) (hp : np ≤ 8) (hc : come < 256) (h : paH pa np Pr) (ho : ∀ p, p < np → ¬ come.testBit p = true → pa p ≠ 0) : f_Patterns_nextOptional n (nI come) (nI np) Pr = some (nI (fnd (noB pa come) np 0)) := by
  apply ok_eq
  rw [f_Patterns_nextOptional_u]
  refine ok_bd0 (fun _ => fnd (noB pa come) np 0 = 0) ?_ (fun h => ok_s (by rw [h]; rfl))
  refine lpU (fun f i => f_Patterns_nextOptional_L0 n (nI come) (nI np) Pr f (nI i)) (fun i => fnd (noB pa come) np 0 = fnd (noB pa come) (np - i) i) np _ ?_ ?_ n 0 (by omega) (by omega) rfl
  · intro f h
    rw [f_Patterns_nextOptional_L0_s]
    rw [Nat.sub_self] at h
    exact ok_t (nI_le (Nat.le_refl _) (by omega)) (ok_s h)
  · intro f i hi h2 ih
    rw [f_Patterns_nextOptional_L0_s]
    refine ok_f (nI_ge hi (by first | omega | decide)) ?_
    have e1 : fnd (noB pa come) (np - i) i = if noB pa come i = true then i else fnd (noB pa come) (np - (i + 1)) (i + 1) := by
      rw [show np - i = (np - (i + 1)) + 1 by omega]
      rfl
    rw [e1] at h2
    refine ok_b _ (tf_0 (m_in (m := come) (p := i) (by omega) (by omega))) (fun h4 => ?_) (fun h4 => ?_)
    · refine ok_gd i rfl (by omega) (by omega) ?_
      obtain ⟨g1, g2⟩ := h i hi
      have g3 := ho i hi h4
      rw [nI_clamp (by omega : i < 2 ^ 31), g2, pa_v g3]
      have h4' : come.testBit i = false := by
        cases e : come.testBit i
        · rfl
        · exact absurd e h4
      refine ok_b _ (tf_0 (m_in (m := come) (p := pa i - 1) (by omega) (by omega))) (fun h5 => ?_) (fun h5 => ok_s ?_)
      · rw [if_neg (show ¬ noB pa come i = true from fun h6 => h5 (Bool.and_eq_true _ _ |>.mp h6).2)] at h2
        exact ok_nmE (nI_1 i) (ih h2)
      · rw [if_pos (show noB pa come i = true from by unfold noB; rw [h4', Classical.not_not.mp h5]; rfl)] at h2
        show nI i = _
        rw [h2]
    · have h5 := Classical.not_not.mp h4
      rw [if_neg (show ¬ noB pa come i = true from fun h6 => by
        have h7 := (Bool.and_eq_true _ _ |>.mp h6).1
        rw [h5] at h7
        exact absurd h7 (by decide))] at h2
      exact ok_nmE (nI_1 i) (ih h2)
def oq (pa : Nat → Nat) (np rq : Nat) : Nat → Nat
  | 0 => rq
  | k + 1 => oq pa np rq k ||| 2 ^ fnd (noB pa (oq pa np rq k)) np 0
theorem oq_lt {pa : Nat → Nat} {np rq : Nat} (hp : np ≤ 8) (hr : rq < 256) : ∀ k, oq pa np rq k < 256 := by
  intro k
  induction k with
  | zero => exact hr
  | succ k ih => exact or_lt (k := 8) ih (p2_lt (fnd_lt2 np 0 8 (by omega) (by omega)))
theorem oq_mono {pa : Nat → Nat} {np rq p : Nat} (h : rq.testBit p = true) : ∀ k, (oq pa np rq k).testBit p = true := by
  intro k
  induction k with
  | zero => exact h
  | succ k ih => exact (bit_or _ _ _).mpr (Or.inl ih)
theorem c_ordO {n np rq fr : Nat} {pa : Nat → Nat} {Pr Z : Nat → Int32} (hn : 8 < n) (hp : np ≤ 8) (hr : rq < 256) (hf : fr ≤ np) (h : paH pa np Pr) (ho : ∀ p, p < np → ¬ rq.testBit p = true → pa p ≠ 0) : ok (f_Patterns_orderOptional n (nI fr) (nI rq) (nI np) Pr Z) (fun o => (∀ j, j < fr → o j = Z j) ∧ ∀ j, fr ≤ j → j < np → o j = nI (fnd (noB pa (oq pa np rq (j - fr))) np 0)) := by
  rw [f_Patterns_orderOptional_u]
  refine ok_bn1 (fun o => (∀ j, j < fr → o j = Z j) ∧ ∀ j, fr ≤ j → j < np → o j = nI (fnd (noB pa (oq pa np rq (j - fr))) np 0)) ?_ (fun x h => ok_s h)
  refine lpF (σ := (Nat → Int32) × Int32) (fun f i s => f_Patterns_orderOptional_L0 n (nI np) Pr f s.1 s.2 (nI i)) (fun i s => s.2 = nI (oq pa np rq (i - fr)) ∧ fr ≤ i ∧ (∀ j, j < fr → s.1 j = Z j) ∧ ∀ j, fr ≤ j → j < i → s.1 j = nI (fnd (noB pa (oq pa np rq (j - fr))) np 0)) np _ ?_ ?_ n fr (Z, nI rq) hf (by omega) ⟨by rw [Nat.sub_self]; rfl, Nat.le_refl _, fun _ _ => rfl, fun j h1 h2 => by omega⟩
  · intro f s hI
    rw [f_Patterns_orderOptional_L0_s]
    exact ok_t (nI_le (Nat.le_refl _) (by omega)) (ok_s ⟨hI.2.2.1, hI.2.2.2⟩)
  · intro f i s hi hI ih
    obtain ⟨X, cm⟩ := s
    obtain ⟨k1, k2, k3, k4⟩ := hI
    simp only at k1 k3 k4
    subst k1
    rw [f_Patterns_orderOptional_L0_s]
    dsimp only
    refine ok_f (nI_ge hi (by first | omega | decide)) ?_
    have hlt := oq_lt (pa := pa) hp hr (i - fr)
    refine ok_bn1 _ (ok_e (c_nextO hn hp hlt h (fun p hp2 hb => ho p hp2 (fun h5 => hb (oq_mono h5 _))))) (fun z e => ?_)
    subst e
    have hfl := fnd_lt2 (B := noB pa (oq pa np rq (i - fr))) np 0 8 (by omega) (by omega)
    refine ok_gd i rfl (by omega) (by omega) ?_
    rw [nI_clamp (by omega : i < 2 ^ 31), m_sh (by omega), m_or]
    refine ok_nm (ok_nm (ok_nmE (nI_1 i) (ih (upd X i (nI (fnd (noB pa (oq pa np rq (i - fr))) np 0)), nI (oq pa np rq (i - fr) ||| 2 ^ fnd (noB pa (oq pa np rq (i - fr))) np 0)) ⟨?_, by omega, fun j hj => ?_, fun j h1 h2 => ?_⟩)))
    · rw [show i + 1 - fr = (i - fr) + 1 by omega]
      rfl
    · simp only
      rw [pk_un (by omega)]
      exact k3 j hj
    · simp only
      by_cases e : j = i
      · subst e
        rw [pk_us]
      · rw [pk_un e]
        exact k4 j h1 (by omega)
