/-! Rounded-up quotients -/
def cdiv (a b : Nat) : Nat := (a + b - 1) / b
theorem cdiv_pos {a b : Nat} (ha : 0 < a) (hb : 0 < b) : cdiv a b = (a - 1) / b + 1 := by
  unfold cdiv
  rw [show a + b - 1 = a - 1 + b by omega, Nat.add_div_right _ hb]
theorem cdiv_zero {b : Nat} (hb : 0 < b) : cdiv 0 b = 0 := by
  unfold cdiv
  exact Nat.div_eq_of_lt (by omega)
theorem cdiv_one (a : Nat) : cdiv a 1 = a := by
  unfold cdiv
  rw [Nat.div_one]
  omega
theorem cdiv_cdiv {a b c : Nat} (hb : 0 < b) (hc : 0 < c) : cdiv (cdiv a b) c = cdiv a (b * c) := by
  have hbc : 0 < b * c := Nat.mul_pos hb hc
  by_cases ha : a = 0
  · subst ha
    rw [cdiv_zero hb, cdiv_zero hc, cdiv_zero hbc]
  · rw [cdiv_pos (a := a) (by omega) hb, cdiv_pos (Nat.succ_pos _) hc, cdiv_pos (a := a) (by omega) hbc, Nat.succ_sub_one, Nat.div_div_eq_div_mul]
theorem cdiv_le {a b : Nat} (hb : 0 < b) : cdiv a b ≤ a := by
  by_cases ha : a = 0
  · subst ha
    rw [cdiv_zero hb]
    omega
  · rw [cdiv_pos (by omega) hb]
    have := Nat.div_le_self (a - 1) b
    omega
theorem c_up {a d : Nat} (ha : a < 2 ^ 62) (h0 : 0 < d) (hd : d < 2 ^ 30) : f_Planner_dividedUp (lN a) (nI d) = some (lN (cdiv a d)) := by
  rw [f_Planner_dividedUp_u]
  by_cases h1 : d ≤ 1
  · have e : d = 1 := by omega
    subst e
    rw [if_pos (show nI 1 ≤ (1 : Int32) from nI_le (Nat.le_refl 1) (by decide)), cdiv_one]
  · rw [if_neg (show ¬ nI d ≤ (1 : Int32) from nI_ge (a := 1) (by omega) (by omega)), nI_l (by omega)]
    unfold gz
    rw [if_neg (fun h => by have := (pk_lEQ (a := d) (b := 0) (by omega) (by omega)).mp h; omega), lN_add, show (1 : Int64) = lN 1 from rfl, lN_sub (by omega), pk_lDiv (by omega) h0 (by omega)]
    rfl
theorem i_max {a b : Nat} (ha : a < 2 ^ 31) (hb : b < 2 ^ 31) : f_Math_max (nI a) (nI b) = nI (max a b) := by
  rw [f_Math_max_u]
  by_cases h : a < b
  · rw [if_pos (nI_lt h hb), Nat.max_eq_right (by omega)]
  · rw [if_neg (nI_nlt (by omega) ha), Nat.max_eq_left (by omega)]
theorem i_min {a b : Nat} (ha : a < 2 ^ 31) (hb : b < 2 ^ 31) : f_Math_min (nI a) (nI b) = nI (min a b) := by
  rw [f_Math_min_u]
  by_cases h : b < a
  · rw [if_pos (nI_lt h ha), Nat.min_eq_right (by omega)]
  · rw [if_neg (nI_nlt (by omega) hb), Nat.min_eq_left (by omega)]
theorem l_min {a b : Nat} (ha : a < 2 ^ 63) (hb : b < 2 ^ 63) : f_Math_minL (lN a) (lN b) = lN (min a b) := by
  rw [f_Math_minL_u]
  by_cases h : b < a
  · rw [if_pos ((pk_lLT hb ha).mpr h), Nat.min_eq_right (by omega)]
  · rw [if_neg (fun h2 => h ((pk_lLT hb ha).mp h2)), Nat.min_eq_left (by omega)]
/-! The estimate of a set -/
def dvS (s : Nat → Nat) (m a : Nat) : Nat → Nat × Nat
  | 0 => (a, 0)
  | k + 1 => if m.testBit k = true then (if (dvS s m a k).2 = 0 then ((dvS s m a k).1, s k) else (cdiv (dvS s m a k).1 (max (dvS s m a k).2 (s k)), min (dvS s m a k).2 (s k))) else dvS s m a k
theorem dvS_stop {s : Nat → Nat} {m a j : Nat} (h : ∀ i, j ≤ i → ¬ m.testBit i = true) : ∀ k, j ≤ k → dvS s m a k = dvS s m a j := by
  intro k
  induction k with
  | zero =>
    intro hk
    have e : j = 0 := by omega
    rw [e]
  | succ k ih =>
    intro hk
    by_cases e : j = k + 1
    · rw [e]
    · rw [← ih (by omega)]
      show (if m.testBit k = true then _ else _) = _
      rw [if_neg (h k (by omega))]
theorem dvS_ok {s : Nat → Nat} {m a : Nat} (hs : ∀ k, m.testBit k = true → 1 ≤ s k ∧ s k ≤ 32) : ∀ k, (dvS s m a k).1 ≤ a ∧ (dvS s m a k).2 ≤ 32 := by
  intro k
  induction k with
  | zero => exact ⟨Nat.le_refl a, by show (0 : Nat) ≤ 32; omega⟩
  | succ k ih =>
    unfold dvS
    by_cases h : m.testBit k = true
    · have h1 := hs k h
      rw [if_pos h]
      by_cases h2 : (dvS s m a k).2 = 0
      · rw [if_pos h2]
        exact ⟨ih.1, h1.2⟩
      · rw [if_neg h2]
        refine ⟨Nat.le_trans (cdiv_le (by omega)) ih.1, ?_⟩
        show min _ _ ≤ 32
        omega
    · rw [if_neg h]
      exact ih
theorem shr_none {m p : Nat} : m / 2 ^ p = 0 ↔ ∀ i, p ≤ i → ¬ m.testBit i = true := by
  constructor
  · intro h i hi hb
    have h1 : (m / 2 ^ p).testBit (i - p) = true := by
      rw [Nat.testBit_div_two_pow, show i - p + p = i by omega]
      exact hb
    rw [h, Nat.zero_testBit] at h1
    exact absurd h1 Bool.false_ne_true
  · intro h
    apply Nat.eq_of_testBit_eq
    intro i
    rw [Nat.zero_testBit, Nat.testBit_div_two_pow]
    have := h (i + p) (by omega)
    cases e : m.testBit (i + p)
    · rfl
    · exact absurd e this
theorem c_dv {n v m a : Nat} {sp : Nat → Int32} {s : Nat → Nat} (hn : 8 < n) (hv : v < 8) (hm : m < 256) (ha : a < 2 ^ 62) (hs : ∀ k, m.testBit k = true → 1 ≤ s k ∧ s k ≤ 32 ∧ sp (k * 8 + v) = nI (s k)) : f_Planner_dividedBySpreads n (lN a) (nI v) (nI m) sp = some (lN (dvS s m a 8).1) := by
  have hd := dvS_ok (m := m) (a := a) (fun k hk => ⟨(hs k hk).1, (hs k hk).2.1⟩)
  apply ok_eq
  rw [f_Planner_dividedBySpreads_u]
  refine ok_bn1 (fun x => x = lN (dvS s m a 8).1) ?_ (fun x h => ok_s h)
  refine lpF (σ := Int64 × Int32) (fun f i x => f_Planner_dividedBySpreads_L0 n (nI v) (nI m) sp f x.1 x.2 (nI i)) (fun i x => x = (lN (dvS s m a i).1, nI (dvS s m a i).2)) 8 _ ?_ ?_ n 0 (lN a, 0) (by omega) (by omega) rfl
  · intro f x h
    subst h
    rw [f_Planner_dividedBySpreads_L0_s]
    exact ok_t (nI_le (Nat.le_refl 8) (by omega)) (ok_s rfl)
  · intro f i x hi h ih
    subst h
    rw [f_Planner_dividedBySpreads_L0_s]
    dsimp only
    refine ok_f (nI_ge hi (by first | omega | decide)) ?_
    rw [m_shr (by omega) (by omega)]
    have hdm := Nat.div_le_self m (2 ^ i)
    refine ok_b (m / 2 ^ i = 0) (nI_eq (b := 0) (by omega) (by omega)) (fun h1 => ok_s ?_) (fun h1 => ?_)
    · rw [dvS_stop (shr_none.mp h1) 8 (by omega)]
    · have e1 : dvS s m a (i + 1) = if m.testBit i = true then (if (dvS s m a i).2 = 0 then ((dvS s m a i).1, s i) else (cdiv (dvS s m a i).1 (max (dvS s m a i).2 (s i)), min (dvS s m a i).2 (s i))) else dvS s m a i := rfl
      refine ok_b _ (tf_0 (m_in (m := m) (p := i) (by omega) (by omega))) (fun h2 => ?_) (fun h2 => ?_)
      · refine ok_nmE (nI_1 i) (ih (lN (dvS s m a i).1, nI (dvS s m a i).2) ?_)
        rw [e1, if_neg h2]
      · have h3 := Classical.not_not.mp h2
        obtain ⟨g1, g2, g3⟩ := hs i h3
        obtain ⟨d1, d2⟩ := hd i
        rw [show nI i * (8 : Int32) = nI (i * 8) from pk_mul i 8, nI_add]
        refine ok_gd (i * 8 + v) rfl (by omega) (by omega) ?_
        rw [nI_clamp (by omega : i * 8 + v < 2 ^ 31), g3]
        refine ok_nm ?_
        refine ok_b ((dvS s m a i).2 = 0) (nI_eq (b := 0) (by omega) (by omega)) (fun h4 => ?_) (fun h4 => ?_)
        · refine ok_nmE (nI_1 i) (ih (lN (dvS s m a i).1, nI (s i)) ?_)
          rw [e1, if_pos h3, if_pos h4]
        · rw [i_max (by omega) (by omega), i_min (by omega) (by omega)]
          refine ok_bn1 _ (ok_e (c_up (by omega) (by omega) (by omega))) (fun z e => ?_)
          subst e
          refine ok_nm (ok_nmE (nI_1 i) (ih (lN (cdiv (dvS s m a i).1 (max (dvS s m a i).2 (s i))), nI (min (dvS s m a i).2 (s i))) ?_))
          rw [e1, if_pos h3, if_neg h4]
def prd (f : Nat → Nat) (m : Nat) : Nat → Nat
  | 0 => 1
  | k + 1 => prd f m k * (if m.testBit k = true then f k else 1)
theorem prd_le {f : Nat → Nat} {m : Nat} (h : ∀ k, m.testBit k = true → f k ≤ 100) : ∀ k, prd f m k ≤ 100 ^ k := by
  intro k
  induction k with
  | zero => exact Nat.le_refl 1
  | succ k ih =>
    show prd f m k * _ ≤ 100 ^ k * 100
    refine Nat.mul_le_mul ih ?_
    by_cases hb : m.testBit k = true
    · rw [if_pos hb]; exact h k hb
    · rw [if_neg hb]; omega
def estN (sz : Nat → Nat) (spr : Nat → Nat → Nat) (hv : Nat → Nat) (S : Nat) : Nat → Nat
  | 0 => prd sz S 8
  | v + 1 => (dvS (fun p => spr p v) (S &&& hv v) (estN sz spr hv S v) 8).1
/-- the planner's numbers: sizes, spreads, masks -/
def szH (sz : Nat → Nat) (S : Nat) (Q : Nat → Int32) : Prop := ∀ p, p < 8 → S.testBit p = true → sz p ≤ 100 ∧ Q p = nI (sz p)
def spH (spr : Nat → Nat → Nat) (hv : Nat → Nat) (S : Nat) (Q : Nat → Int32) : Prop := ∀ v, v < 8 → ∀ p, (S &&& hv v).testBit p = true → 1 ≤ spr p v ∧ spr p v ≤ 32 ∧ Q (p * 8 + v) = nI (spr p v)
def hvH (hv : Nat → Nat) (H : Nat → Int32) : Prop := ∀ v, v < 8 → hv v < 256 ∧ H v = nI (hv v)
theorem bit_lt8 {m p : Nat} (hm : m < 256) (h : m.testBit p = true) : p < 8 := by
  have := Nat.ge_two_pow_of_testBit h
  by_cases hp : p < 8
  · exact hp
  · have h2 : 2 ^ 8 ≤ 2 ^ p := Nat.pow_le_pow_right (by decide) (by omega)
    omega
theorem estN_le {sz : Nat → Nat} {spr : Nat → Nat → Nat} {hv : Nat → Nat} {S : Nat} {Q Q2 : Nat → Int32} (hS : S < 256) (h1 : szH sz S Q) (h2 : spH spr hv S Q2) : ∀ v, v ≤ 8 → estN sz spr hv S v ≤ 100 ^ 8 := by
  intro v
  induction v with
  | zero => intro _; exact prd_le (fun k hk => (h1 k (bit_lt8 hS hk) hk).1) 8
  | succ v ih =>
    intro hv2
    exact Nat.le_trans (dvS_ok (s := fun p => spr p v) (fun k hk => ⟨(h2 v (by omega) k hk).1, (h2 v (by omega) k hk).2.1⟩) 8).1 (ih (by omega))
theorem c_est {n S : Nat} {sz : Nat → Nat} {spr : Nat → Nat → Nat} {hv : Nat → Nat} {Qz Qs H : Nat → Int32} (hn : 8 < n) (hS : S < 256) (h1 : szH sz S Qz) (h2 : spH spr hv S Qs) (h3 : hvH hv H) : f_Planner_estimateOf n (nI S) Qz H Qs = some (lN (estN sz spr hv S 8)) := by
  apply ok_eq
  rw [f_Planner_estimateOf_u]
  have hle := prd_le (f := sz) (m := S) (fun k hk => (h1 k (bit_lt8 hS hk) hk).1)
  have pw : ∀ k, k ≤ 8 → 100 ^ k ≤ 100 ^ 8 := fun k hk => Nat.pow_le_pow_right (by decide) hk
  refine ok_bn1 (fun x => x = lN (prd sz S 8)) ?_ (fun x e => ?_)
  · refine lpF (σ := Int64) (fun f i x => f_Planner_estimateOf_L0 n (nI S) Qz f x (nI i)) (fun i x => x = lN (prd sz S i)) 8 _ ?_ ?_ n 0 (1 : Int64) (by omega) (by omega) rfl
    · intro f x h
      rw [f_Planner_estimateOf_L0_s]
      exact ok_t (nI_le (Nat.le_refl 8) (by omega)) (ok_s h)
    · intro f i x hi h ih
      subst h
      rw [f_Planner_estimateOf_L0_s]
      refine ok_f (nI_ge hi (by first | omega | decide)) ?_
      refine ok_b _ (tf_0 (m_in (m := S) (p := i) (by omega) (by omega))) (fun h4 => ?_) (fun h4 => ?_)
      · refine ok_nmE (nI_1 i) (ih _ ?_)
        show _ = lN (prd sz S i * _)
        rw [if_neg h4, Nat.mul_one]
      · have h5 := Classical.not_not.mp h4
        obtain ⟨g1, g2⟩ := h1 i hi h5
        refine ok_gd i rfl hi (by omega) ?_
        rw [nI_clamp (by omega : i < 2 ^ 31), g2, nI_l (by omega), lN_mul]
        refine ok_nm (ok_nmE (nI_1 i) (ih _ ?_))
        show _ = lN (prd sz S i * _)
        rw [if_pos h5]
  · subst e
    refine ok_bn1 (fun x => x = lN (estN sz spr hv S 8)) ?_ (fun x h => ok_s h)
    refine lpF (σ := Int64) (fun f i x => f_Planner_estimateOf_L1 n (nI S) H Qs f x (nI i)) (fun i x => x = lN (estN sz spr hv S i)) 8 _ ?_ ?_ n 0 (lN (prd sz S 8)) (by omega) (by omega) rfl
    · intro f x h
      rw [f_Planner_estimateOf_L1_s]
      exact ok_t (nI_le (Nat.le_refl 8) (by omega)) (ok_s h)
    · intro f i x hi h ih
      subst h
      rw [f_Planner_estimateOf_L1_s]
      refine ok_f (nI_ge hi (by first | omega | decide)) ?_
      refine ok_gd i rfl hi (by omega) ?_
      obtain ⟨g1, g2⟩ := h3 i hi
      have hb := estN_le hS h1 h2 i (by omega)
      have hand : S &&& hv i ≤ S := Nat.and_le_left
      rw [nI_clamp (by omega : i < 2 ^ 31), g2, nx_and]
      refine ok_bn1 _ (ok_e (c_dv (s := fun p => spr p i) hn hi (by omega) (Nat.lt_of_le_of_lt hb (by decide)) (h2 i hi))) (fun z e => ?_)
      subst e
      exact ok_nmE (nI_1 i) (ih _ rfl)
