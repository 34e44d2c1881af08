/-! matches and placeOf, of the reference -/
def ceH (C : Nat → Int32) (p : Nat) (sl : Nat → Nat) : Prop := ∀ k, k < 3 → sl k < 40 ∧ C (3 * p + k) = slv (sl k)
def faH (F : Nat → Int32) (i t : Nat) : Prop := ∀ k, k < 3 → F (3 * i + k) = nI (prt t k)
theorem i3 (p k : Nat) : (3 : Int32) * nI p + nI k = nI (3 * p + k) := by
  rw [i3m, i3k]
theorem q_mat1 {n p i t k : Nat} {C F : Nat → Int32} {sl : Nat → Nat} {D : Prop} {z : Int32} (hn : 3 < n) (hp : p < 8) (hi : i < 80) (hk : k < 3) (hC : ceH C p sl) (hF : faH F i t) (hz : tf z D) :
    ok (f_JoinOrderModel_matches_L1 n (nI p) (nI i) C F (nI k) (slv (sl k)) (nI (prt t k)) n z (0 : Int32)) (fun r => tf r (D ∧ (32 ≤ sl k → agP sl t k))) := by
  refine lpF (σ := Int32) (fun f j x => f_JoinOrderModel_matches_L1 n (nI p) (nI i) C F (nI k) (slv (sl k)) (nI (prt t k)) f x (nI j)) (fun j x => tf x (D ∧ (32 ≤ sl k → ∀ e, e < j → sl e = sl k → prt t e = prt t k))) k _ ?_ ?_ n 0 z (by omega) (by omega) (tf_iff hz ⟨fun h => ⟨h, fun _ e he => by omega⟩, fun h => h.1⟩)
  · intro f x hx
    rw [f_JoinOrderModel_matches_L1_s]
    exact ok_t (nI_le (Nat.le_refl k) (by omega)) (ok_s hx)
  · intro f j x hj hx ih
    rw [f_JoinOrderModel_matches_L1_s]
    refine ok_f (nI_ge hj (by omega)) ?_
    have hc := (hC k hk).1
    refine ok_b _ (tf_0 hx) (fun g => ok_nmE (nI_1 j) (ih _ (tf_f (fun h => g ⟨h.1, fun h2 e he => h.2 h2 e (by omega)⟩)))) (fun g => ?_)
    have g := Classical.not_not.mp g
    refine ok_b (sl k < 32) (slv_pos _ hc) (fun g1 => ok_nmE (nI_1 j) (ih _ (tf_t ⟨g.1, fun h => by omega⟩))) (fun g1 => ?_)
    rw [i3, i3]
    refine ok_gd (3 * p + j) rfl (by omega) (by decide) ?_
    rw [nI_clamp (by omega : 3 * p + j < 2 ^ 31), nI_clamp (by omega : 3 * i + j < 2 ^ 31), (hC j (by omega)).2, hF j (by omega)]
    have l1 := prt_lt t j
    have l2 := prt_lt t k
    have step : (sl j = sl k → prt t j = prt t k) → 32 ≤ sl k → ∀ e, e < j + 1 → sl e = sl k → prt t e = prt t k := fun h1 h2 e he h3 => by
      by_cases h4 : e = j
      · subst h4
        exact h1 h3
      · exact g.2 h2 e (by omega) h3
    refine ok_b (sl j = sl k) (slv_eq _ (hC j (by omega)).1 _ hc) (fun g2 => ?_) (fun g2 => ok_nmE (nI_1 j) (ih _ (tf_t ⟨g.1, step (fun h => absurd h g2)⟩)))
    refine ok_gd (3 * i + j) rfl (by omega) (by decide) ?_
    exact ok_b (prt t j = prt t k) (nI_eq (by omega) (by omega)) (fun g3 => ok_nmE (nI_1 j) (ih _ (tf_t ⟨g.1, step (fun _ => g3)⟩))) (fun g3 => ok_nmE (nI_1 j) (ih _ (tf_f (fun h => g3 (h.2 (by omega) j (by omega) g2)))))
theorem q_matches {n p i t : Nat} {C F : Nat → Int32} {sl : Nat → Nat} (hn : 3 < n) (hp : p < 8) (hi : i < 80) (hC : ceH C p sl) (hF : faH F i t) : ok (f_JoinOrderModel_matches n (nI p) (nI i) C F) (fun r => tf r (fitP sl t)) := by
  rw [f_JoinOrderModel_matches_u]
  refine ok_bn1 (fun x => tf x (fitP sl t)) ?_ (fun x hx => ok_gb (tf_01 hx) (ok_s hx))
  refine lpF (σ := Int32) (fun f k x => f_JoinOrderModel_matches_L0 n (nI p) (nI i) C F f x (nI k)) (fun k x => tf x (∀ c, c < k → plP sl t c)) 3 _ ?_ ?_ n 0 (1 : Int32) (by omega) (by omega) (tf_t (fun c h => by omega))
  · intro f x hx
    rw [f_JoinOrderModel_matches_L0_s]
    exact ok_t (nI_le (Nat.le_refl 3) (by decide)) (ok_s hx)
  · intro f k x hk hx ih
    rw [f_JoinOrderModel_matches_L0_s]
    refine ok_f (nI_ge hk (by decide)) ?_
    rw [i3, i3]
    refine ok_gd (3 * p + k) rfl (by omega) (by decide) ?_
    have hc := (hC k hk).1
    rw [nI_clamp (by omega : 3 * p + k < 2 ^ 31), nI_clamp (by omega : 3 * i + k < 2 ^ 31), (hC k hk).2, hF k hk]
    refine ok_nm (ok_gd (3 * i + k) rfl (by omega) (by decide) (ok_nm ?_))
    have l2 := prt_lt t k
    refine ok_bn1 (fun z => tf z ((∀ c, c < k → plP sl t c) ∧ (sl k < 32 → prt t k = sl k))) ?_ (fun z hz => ?_)
    · refine ok_b _ (tf_0 hx) (fun g => ok_s (tf_f (fun h => g h.1))) (fun g => ?_)
      have g := Classical.not_not.mp g
      refine ok_b (32 ≤ sl k) (slv_neg _ hc) (fun g1 => ok_s (tf_t ⟨g, fun h => by omega⟩)) (fun g1 => ?_)
      rw [slv_term (by omega)]
      exact ok_b (sl k = prt t k) (nI_eq (by omega) (by omega)) (fun g2 => ok_s (tf_t ⟨g, fun _ => g2.symm⟩)) (fun g2 => ok_s (tf_f (fun h => g2 (h.2 (by omega)).symm)))
    · refine ok_bn1 _ (q_mat1 hn hp hi hk hC hF hz) (fun y hy => ok_nmE (nI_1 k) (ih _ (tf_iff hy ?_)))
      constructor
      · rintro ⟨⟨h1, h2⟩, h3⟩ c hc2
        by_cases e : c = k
        · subst e
          exact ⟨h2, h3⟩
        · exact h1 c (by omega)
      · intro h
        exact ⟨⟨fun c hc2 => h c (by omega), (h k (by omega)).1⟩, (h k (by omega)).2⟩
theorem plc_eq {sl : Nat → Nat} {v k : Nat} (hk : k < 3) (e : sl k = 32 + v) (h : ∀ j, j < k → sl j ≠ 32 + v) : plc sl v = k := by
  have h1 := fnd_has (B := fun k => decide (sl k = 32 + v)) 3 0 ⟨k, by omega, by omega, decide_eq_true e⟩
  obtain ⟨g1, _, g3⟩ := h1
  have g1 := of_decide_eq_true g1
  have e1 : plc sl v = fnd (fun k => decide (sl k = 32 + v)) 3 0 := rfl
  rw [← e1] at g1 g3
  rcases Nat.lt_trichotomy (plc sl v) k with x | x | x
  · exact absurd g1 (h _ x)
  · exact x
  · exact absurd (decide_eq_true e) (g3 k (by omega) x)
theorem q_placeOf {n p v : Nat} {C : Nat → Int32} {sl : Nat → Nat} (hn : 3 < n) (hp : p < 8) (hv : v < 8) (hC : ceH C p sl) : ok (f_JoinOrderModel_placeOf n (nI p) (slv (32 + v)) C) (fun r => (r = -1 ∧ ¬ hasV sl v) ∨ (hasV sl v ∧ plc sl v < 3 ∧ sl (plc sl v) = 32 + v ∧ r = nI (plc sl v))) := by
  rw [f_JoinOrderModel_placeOf_u]
  refine ok_bn1 (fun r => (r = -1 ∧ ¬ hasV sl v) ∨ (hasV sl v ∧ plc sl v < 3 ∧ sl (plc sl v) = 32 + v ∧ r = nI (plc sl v))) ?_ (fun r h => ok_s h)
  refine lpF (σ := Int32) (fun f i x => f_JoinOrderModel_placeOf_L0 n (nI p) (slv (32 + v)) C f x (nI (3 - i) - 1)) (fun i x => (x = -1 ∧ ∀ k, 3 - i ≤ k → k < 3 → sl k ≠ 32 + v) ∨ (∃ k, 3 - i ≤ k ∧ k < 3 ∧ x = nI k ∧ sl k = 32 + v ∧ ∀ j, 3 - i ≤ j → j < k → sl j ≠ 32 + v)) 3 _ ?_ ?_ n 0 (-1 : Int32) (by omega) (by omega) (Or.inl ⟨rfl, fun k h1 h2 => by omega⟩)
  · intro f x hx
    rw [f_JoinOrderModel_placeOf_L0_s]
    refine ok_t (by decide) (ok_s ?_)
    rcases hx with ⟨h1, h2⟩ | ⟨k, h1, h2, h3, h4, h5⟩
    · exact Or.inl ⟨h1, fun ⟨k, hk, e⟩ => h2 k (by omega) hk e⟩
    · have e := plc_eq h2 h4 (fun j hj => h5 j (by omega) hj)
      rw [e]
      exact Or.inr ⟨⟨k, h2, h4⟩, h2, h4, h3⟩
  · intro f i x hi hx ih
    obtain ⟨c, hc⟩ : ∃ c, 3 - i = c + 1 := ⟨2 - i, by omega⟩
    have e3 : 3 - (i + 1) = c := by omega
    rw [hc] at hx ⊢
    rw [e3] at ih
    rw [nI_pred, f_JoinOrderModel_placeOf_L0_s]
    refine ok_f (nI_pos (by omega)) ?_
    rw [i3]
    refine ok_gd (3 * p + c) rfl (by omega) (by decide) ?_
    rw [nI_clamp (by omega : 3 * p + c < 2 ^ 31), (hC c (by omega)).2]
    refine ok_b (sl c = 32 + v) (slv_eq _ (hC c (by omega)).1 _ (by omega)) (fun g => ?_) (fun g => ?_)
    · exact ok_nmE (i_m1 _) (ih _ (Or.inr ⟨c, Nat.le_refl c, by omega, rfl, g, fun j h1 h2 => by omega⟩))
    · refine ok_nmE (i_m1 _) (ih _ ?_)
      rcases hx with ⟨h1, h2⟩ | ⟨k, h1, h2, h3, h4, h5⟩
      · refine Or.inl ⟨h1, fun k k1 k2 => ?_⟩
        by_cases e : k = c
        · exact e ▸ g
        · exact h2 k (by omega) k2
      · refine Or.inr ⟨k, by omega, h2, h3, h4, fun j j1 j2 => ?_⟩
        by_cases e : j = c
        · exact e ▸ g
        · exact h5 j (by omega) j2
