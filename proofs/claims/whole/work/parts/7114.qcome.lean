/-! comesBy, of the reference: a row and a triple come together -/
def flN (sl : Nat → Nat) (r t : Nat) : Nat → Nat → Nat
  | 0, v => fld r v
  | k + 1, v => if sl k = 32 + v then prt t k + 1 else flN sl r t k v
def goP (sl : Nat → Nat) (r t k : Nat) : Prop := (sl k < 32 → prt t k = sl k) ∧ (32 ≤ sl k → flN sl r t k (sl k - 32) = 0 ∨ flN sl r t k (sl k - 32) = prt t k + 1)
theorem fl_lt {sl : Nat → Nat} {r t v : Nat} : ∀ k, flN sl r t k v < 64 := by
  intro k
  induction k with
  | zero => exact fld_lt r v
  | succ k ih =>
    unfold flN
    split
    · have := prt_lt t k
      omega
    · exact ih
theorem fl_s {sl : Nat → Nat} {r t k v : Nat} : flN sl r t (k + 1) v = if sl k = 32 + v then prt t k + 1 else flN sl r t k v := rfl
theorem fl_A {sl : Nat → Nat} {r t e v : Nat} (hv : sl e = 32 + v) : ∀ k, e < k → (∀ j, e < j → j < k → goP sl r t j) → flN sl r t k v = prt t e + 1 := by
  intro k
  induction k with
  | zero => intro h; omega
  | succ k ih =>
    intro h1 h2
    rw [fl_s]
    by_cases hk : e = k
    · subst hk
      rw [if_pos hv]
    · have h3 := ih (by omega) (fun j j1 j2 => h2 j j1 (by omega))
      by_cases hs : sl k = 32 + v
      · rw [if_pos hs]
        have h4 := (h2 k (by omega) (by omega)).2 (by omega)
        rw [show sl k - 32 = v by omega, h3] at h4
        omega
      · rw [if_neg hs]
        exact h3
theorem fl_B {sl : Nat → Nat} {r t v : Nat} (hv : fld r v ≠ 0) : ∀ k, (∀ j, j < k → goP sl r t j) → flN sl r t k v = fld r v := by
  intro k
  induction k with
  | zero => intro _; rfl
  | succ k ih =>
    intro h2
    have h3 := ih (fun j j2 => h2 j (by omega))
    rw [fl_s]
    by_cases hs : sl k = 32 + v
    · rw [if_pos hs]
      have h4 := (h2 k (by omega)).2 (by omega)
      rw [show sl k - 32 = v by omega, h3] at h4
      omega
    · rw [if_neg hs]
      exact h3
theorem fl_C {sl : Nat → Nat} {r t v : Nat} : ∀ k, (flN sl r t k v = fld r v ∧ ∀ e, e < k → sl e ≠ 32 + v) ∨ ∃ e, e < k ∧ sl e = 32 + v ∧ flN sl r t k v = prt t e + 1 := by
  intro k
  induction k with
  | zero => exact Or.inl ⟨rfl, fun e h => by omega⟩
  | succ k ih =>
    rw [fl_s]
    by_cases hs : sl k = 32 + v
    · rw [if_pos hs]
      exact Or.inr ⟨k, by omega, hs, rfl⟩
    · rw [if_neg hs]
      rcases ih with ⟨h1, h2⟩ | ⟨e, h1, h2, h3⟩
      · refine Or.inl ⟨h1, fun e he => ?_⟩
        by_cases e1 : e = k
        · exact e1 ▸ hs
        · exact h2 e (by omega)
      · exact Or.inr ⟨e, by omega, h2, h3⟩
theorem go_iff {sl : Nat → Nat} {r t : Nat} (hs : ∀ k, k < 3 → sl k < 40) : (∀ k, k < 3 → goP sl r t k) ↔ fitP sl t ∧ matP sl r t := by
  constructor
  · intro h
    refine ⟨fun k hk => ⟨(h k hk).1, fun h32 e he hee => ?_⟩, fun k hk hb => ?_⟩
    · have h1 := fl_A (r := r) (v := sl k - 32) (show sl e = 32 + (sl k - 32) by omega) k he (fun j _ j2 => h j (by omega))
      have h2 := (h k hk).2 h32
      omega
    · have h1 := fl_B hb.2 k (fun j j2 => h j (by omega))
      have h2 := (h k hk).2 hb.1
      have h3 := hb.2
      omega
  · rintro ⟨h1, h2⟩ k hk
    refine ⟨(h1 k hk).1, fun h32 => ?_⟩
    rcases fl_C (sl := sl) (r := r) (t := t) (v := sl k - 32) k with ⟨h3, _⟩ | ⟨e, e1, e2, e3⟩
    · by_cases h0 : fld r (sl k - 32) = 0
      · exact Or.inl (h3.trans h0)
      · have := h2 k hk ⟨h32, h0⟩
        exact Or.inr (by omega)
    · have := (h1 k hk).2 h32 e e1 (by omega)
      exact Or.inr (by omega)
theorem fl_end {sl : Nat → Nat} {r t v : Nat} (hs : ∀ k, k < 3 → sl k < 40) (hf : fitP sl t) (hm : matP sl r t) : flN sl r t 3 v = fld (r ||| bndN sl t 3) v := by
  have hg := (go_iff hs).mpr ⟨hf, hm⟩
  rw [fld_or]
  rcases fl_C (sl := sl) (r := r) (t := t) (v := v) 3 with ⟨h3, h4⟩ | ⟨e, e1, e2, e3⟩
  · rw [h3, fld_no h4, Nat.or_zero]
  · rw [e3, fld_at hf e1 e2]
    by_cases h0 : fld r v = 0
    · rw [h0, Nat.zero_or]
    · have := hm e e1 ⟨by omega, by rw [show sl e - 32 = v by omega]; exact h0⟩
      rw [show sl e - 32 = v by omega] at this
      rw [← this, Nat.or_self]
def rwI (Rw : Nat → Int32) (i r : Nat) : Prop := ∀ v, v < 8 → Rw (8 * i + v) = nI (fld r v) - 1
theorem q_copy {n i c r : Nat} {Rw Nx : Nat → Int32} (hn : 8 < n) (hi : i ≤ 500) (hc : c ≤ 500) (hrow : rwI Rw i r) : ok (f_JoinOrderModel_comesBy_L0 n (nI i) Rw ((8 : Int32) * nI c) n Nx (0 : Int32)) (fun Y => (∀ w v, w ≠ c → v < 8 → Y (8 * w + v) = Nx (8 * w + v)) ∧ rwI Y c r) := by
  refine lpF (σ := Nat → Int32) (fun f v Y => f_JoinOrderModel_comesBy_L0 n (nI i) Rw ((8 : Int32) * nI c) f Y (nI v)) (fun v Y => (∀ w u, w ≠ c → u < 8 → Y (8 * w + u) = Nx (8 * w + u)) ∧ ∀ u, u < v → Y (8 * c + u) = nI (fld r u) - 1) 8 _ ?_ ?_ n 0 Nx (by omega) (by omega) ⟨fun _ _ _ _ => rfl, fun u h => by omega⟩
  · intro f Y h
    rw [f_JoinOrderModel_comesBy_L0_s]
    exact ok_t (nI_le (Nat.le_refl 8) (by decide)) (ok_s h)
  · intro f v Y hv h ih
    rw [f_JoinOrderModel_comesBy_L0_s]
    refine ok_f (nI_ge hv (by decide)) ?_
    rw [i8, i8]
    refine ok_gd (8 * i + v) rfl (by omega) (by decide) (ok_nm ?_)
    refine ok_gd (8 * c + v) rfl (by omega) (by decide) ?_
    rw [nI_clamp (by omega : 8 * i + v < 2 ^ 31), nI_clamp (by omega : 8 * c + v < 2 ^ 31), hrow v hv]
    refine ok_nm (ok_nmE (nI_1 v) (ih _ ⟨fun w u hw hu => ?_, fun u hu => ?_⟩))
    · rw [pk_un (by omega)]
      exact h.1 w u hw hu
    · by_cases e : u = v
      · subst e
        rw [pk_us]
      · rw [pk_un (by omega)]
        exact h.2 u (by omega)
theorem q_cby {n i p j c r t : Nat} {sl : Nat → Nat} {Rw Nx C F : Nat → Int32} (hn : 8 < n) (hi : i ≤ 500) (hp : p < 8) (hj : j < 80) (hc : c ≤ 500) (hrow : rwI Rw i r) (hC : ceH C p sl) (hF : faH F j t) :
    ok (f_JoinOrderModel_comesBy n (nI i) (nI p) (nI j) (nI c) Rw Nx C F) (fun o => (∀ w v, w ≠ c → v < 8 → o.2 (8 * w + v) = Nx (8 * w + v)) ∧ ((o.1 = 0 ∧ ¬ (fitP sl t ∧ matP sl r t)) ∨ (o.1 = 1 ∧ (fitP sl t ∧ matP sl r t) ∧ rwI o.2 c (r ||| bndN sl t 3)))) := by
  have hs : ∀ k, k < 3 → sl k < 40 := fun k hk => (hC k hk).1
  rw [f_JoinOrderModel_comesBy_u]
  refine ok_bn1 (fun z => z = nI c) ?_ (fun z e => ?_)
  · refine ok_b (500 ≤ c) (nI_leI (a := 500) (by decide) (by omega)) (fun g => ok_s ?_) (fun _ => ok_s rfl)
    rw [show c = 500 by omega]
    rfl
  subst e
  refine ok_nm ?_
  refine ok_bn1 _ (q_copy hn hi hc hrow) (fun Y hY => ?_)
  obtain ⟨y1, y2⟩ := hY
  refine ok_bd1 (fun Y => (∀ w v, w ≠ c → v < 8 → Y (8 * w + v) = Nx (8 * w + v)) ∧ (∀ k, k < 3 → goP sl r t k) ∧ ∀ v, v < 8 → Y (8 * c + v) = nI (flN sl r t 3 v) - 1) ?_ (fun Y h => ok_s ⟨h.1, Or.inr ⟨rfl, (go_iff hs).mp h.2.1, fun v hv => ?_⟩⟩)
  · refine lpF (σ := Nat → Int32) (fun f k Y => f_JoinOrderModel_comesBy_L1 n (nI p) (nI j) C F ((8 : Int32) * nI c) f Y (nI k)) (fun k Y => (∀ w v, w ≠ c → v < 8 → Y (8 * w + v) = Nx (8 * w + v)) ∧ (∀ e, e < k → goP sl r t e) ∧ ∀ v, v < 8 → Y (8 * c + v) = nI (flN sl r t k v) - 1) 3 _ ?_ ?_ n 0 Y (by omega) (by omega) ⟨y1, fun e h => by omega, y2⟩
    · intro f Y h
      rw [f_JoinOrderModel_comesBy_L1_s]
      exact ok_t (nI_le (Nat.le_refl 3) (by decide)) (ok_s h)
    · intro f k Y hk h ih
      obtain ⟨h1, h2, h3⟩ := h
      rw [f_JoinOrderModel_comesBy_L1_s]
      refine ok_f (nI_ge hk (by decide)) ?_
      rw [i3, i3]
      refine ok_gd (3 * p + k) rfl (by omega) (by decide) (ok_nm ?_)
      refine ok_gd (3 * j + k) rfl (by omega) (by decide) (ok_nm ?_)
      obtain ⟨c1, c2⟩ := hC k hk
      rw [nI_clamp (by omega : 3 * p + k < 2 ^ 31), nI_clamp (by omega : 3 * j + k < 2 ^ 31), c2, hF k hk]
      have hpl := prt_lt t k
      refine ok_bd0 (fun _ => goP sl r t k) ?_ (fun hg => ?_)
      · have no : ¬ goP sl r t k → (∀ w v, w ≠ c → v < 8 → Y (8 * w + v) = Nx (8 * w + v)) ∧ (((0 : Int32) = 0 ∧ ¬ (fitP sl t ∧ matP sl r t)) ∨ ((0 : Int32) = 1 ∧ (fitP sl t ∧ matP sl r t) ∧ rwI Y c (r ||| bndN sl t 3))) := fun g => ⟨h1, Or.inl ⟨rfl, fun h => g ((go_iff hs).mpr h k hk)⟩⟩
        refine ok_b (32 ≤ sl k) (slv_neg _ c1) (fun g => ?_) (fun g => ?_)
        · have e8 := ix8 (i := c) (v := sl k - 32) (by omega)
          rw [show 32 + (sl k - 32) = sl k by omega] at e8
          have h4 := h3 (sl k - 32) (by omega)
          have hfl := fl_lt (sl := sl) (r := r) (t := t) (v := sl k - 32) k
          rw [e8]
          refine ok_gd (8 * c + (sl k - 32)) rfl (by omega) (by decide) ?_
          rw [nI_clamp (by omega : 8 * c + (sl k - 32) < 2 ^ 31), h4]
          refine ok_b _ (tm_none hfl) (fun g2 => ok_s ⟨fun h => by omega, fun _ => Or.inl g2⟩) (fun g2 => ?_)
          rw [pa_v g2]
          refine ok_b _ (nI_eq (by omega) (by omega)) (fun g3 => ok_s ⟨fun h => by omega, fun _ => Or.inr (by omega)⟩) (fun g3 => ok_s (no (fun hg => ?_)))
          have := hg.2 g
          omega
        · rw [slv_term (by omega)]
          exact ok_b (sl k = prt t k) (nI_eq (by omega) (by omega)) (fun g2 => ok_s ⟨fun _ => g2.symm, fun h => by omega⟩) (fun g2 => ok_s (no (fun hg => g2 (hg.1 (by omega)).symm)))
      · have hgo : ∀ e, e < k + 1 → goP sl r t e := fun e he => by
          by_cases e1 : e = k
          · exact e1 ▸ hg
          · exact h2 e (by omega)
        refine ok_b (sl k < 32) (slv_pos _ c1) (fun g => ?_) (fun g => ?_)
        · refine ok_nmE (nI_1 k) (ih Y ⟨h1, hgo, fun v hv => ?_⟩)
          rw [fl_s, if_neg (by omega)]
          exact h3 v hv
        · have e8 := ix8 (i := c) (v := sl k - 32) (by omega)
          rw [show 32 + (sl k - 32) = sl k by omega] at e8
          rw [e8]
          refine ok_gd (8 * c + (sl k - 32)) rfl (by omega) (by decide) ?_
          rw [nI_clamp (by omega : 8 * c + (sl k - 32) < 2 ^ 31)]
          refine ok_nm (ok_nmE (nI_1 k) (ih _ ⟨fun w v hw hv => ?_, hgo, fun v hv => ?_⟩))
          · rw [pk_un (by omega)]
            exact h1 w v hw hv
          · rw [fl_s]
            by_cases e : sl k = 32 + v
            · rw [if_pos e, show 8 * c + v = 8 * c + (sl k - 32) by omega, pk_us, nI_pred]
            · rw [if_neg e, pk_un (by omega)]
              exact h3 v hv
  · have hm := (go_iff hs).mp h.2.1
    show Y (8 * c + v) = _
    rw [h.2.2 v hv, fl_end hs hm.1 hm.2]
