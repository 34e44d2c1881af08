/-! HINTS, written down with what comes before through others -/
def bfU (bf : Nat → Nat) (a b p : Nat) : Nat := if p = b ∨ (bf p).testBit b = true then bf p ||| (bf a ||| 2 ^ a) else bf p
theorem c_isB {a b : Nat} {bf : Nat → Nat} {B : Nat → Int32} (ha : a < 8) (hb : b < 8) (h1 : bf b < 256) (h2 : B b = nI (bf b)) : ok (f_Patterns_isBefore (nI a) (nI b) B) (fun r => tf r ((bf b).testBit a = true)) := by
  rw [f_Patterns_isBefore_u, gd_nI hb (by omega), nI_clamp (by omega), h2]
  exact ok_s (m_in (by omega) (by omega))
theorem c_putB {n np a b hm : Nat} {bf : Nat → Nat} {B : Nat → Int32} (hn : 8 < n) (hp : np ≤ 8) (ha : a < np) (hb : b < np) (h : bfH bf np B) :
    ok (f_Patterns_putBefore n (nI a) (nI b) (nI hm) (nI np) B) (fun o => o.1 = nI (hm ||| (2 ^ a ||| 2 ^ b)) ∧ (∀ p, p < np → o.2 p = nI (bfU bf a b p)) ∧ ∀ p, np ≤ p → o.2 p = B p) := by
  rw [f_Patterns_putBefore_u]
  refine ok_gd a rfl (by omega) (by omega) ?_
  rw [nI_clamp (by omega : a < 2 ^ 31), (h a ha).2, m_sh (by omega), m_sh (by omega), m_or, m_or, m_or]
  refine ok_nm ?_
  refine ok_bn1 (fun o => (∀ p, p < np → o p = nI (bfU bf a b p)) ∧ ∀ p, np ≤ p → o p = B p) ?_ (fun o ho => ok_nm (ok_s ⟨rfl, ho⟩))
  refine lpF (σ := Nat → Int32) (fun f i X => f_Patterns_putBefore_L0 n (nI b) (nI np) (nI (bf a ||| 2 ^ a)) f X (nI i)) (fun i X => (∀ p, p < i → X p = nI (bfU bf a b p)) ∧ ∀ p, i ≤ p → X p = B p) np _ ?_ ?_ n 0 B (by omega) (by omega) ⟨fun p h => by omega, fun _ _ => rfl⟩
  · intro f X hX
    rw [f_Patterns_putBefore_L0_s]
    exact ok_t (nI_le (Nat.le_refl _) (by omega)) (ok_s hX)
  · intro f i X hi hX ih
    rw [f_Patterns_putBefore_L0_s]
    refine ok_f (nI_ge hi (by first | omega | decide)) ?_
    obtain ⟨g1, g2⟩ := h i hi
    have hXi : X i = nI (bf i) := by rw [hX.2 i (Nat.le_refl i), g2]
    have stepT : (i = b ∨ (bf i).testBit b = true) → (∀ p, p < i + 1 → upd X i (nI (bf i ||| (bf a ||| 2 ^ a))) p = nI (bfU bf a b p)) ∧ ∀ p, i + 1 ≤ p → upd X i (nI (bf i ||| (bf a ||| 2 ^ a))) p = B p := fun hc => by
      refine ⟨fun p hp2 => ?_, fun p hp2 => ?_⟩
      · by_cases e : p = i
        · subst e
          rw [pk_us]
          unfold bfU
          rw [if_pos hc]
        · rw [pk_un e]
          exact hX.1 p (by omega)
      · rw [pk_un (by omega)]
        exact hX.2 p (by omega)
    have stepF : ¬ (i = b ∨ (bf i).testBit b = true) → (∀ p, p < i + 1 → X p = nI (bfU bf a b p)) ∧ ∀ p, i + 1 ≤ p → X p = B p := fun hc => by
      refine ⟨fun p hp2 => ?_, fun p hp2 => hX.2 p (by omega)⟩
      by_cases e : p = i
      · subst e
        rw [hXi]
        unfold bfU
        rw [if_neg hc]
      · exact hX.1 p (by omega)
    refine ok_b (i = b) (nI_eq (by omega) (by omega)) (fun h1 => ?_) (fun h1 => ?_)
    · refine ok_gd i rfl (by omega) (by omega) ?_
      rw [nI_clamp (by omega : i < 2 ^ 31), hXi, m_or]
      exact ok_nm (ok_nm (ok_nmE (nI_1 i) (ih _ (stepT (Or.inl h1)))))
    · refine ok_bn1 _ (c_isB (a := b) (b := i) (by omega) (by omega) g1 hXi) (fun r hr => ?_)
      refine ok_b _ (tf_0 hr) (fun h2 => ?_) (fun h2 => ?_)
      · exact ok_nmE (nI_1 i) (ih _ (stepF (fun h3 => h3.elim h1 h2)))
      · refine ok_gd i rfl (by omega) (by omega) ?_
        rw [nI_clamp (by omega : i < 2 ^ 31), hXi, m_or]
        exact ok_nm (ok_nm (ok_nmE (nI_1 i) (ih _ (stepT (Or.inr (Classical.not_not.mp h2))))))
/-- the chain of those that a pattern is OF: numbers and one, 0 behind its end -/
def chn (pa : Nat → Nat) (p : Nat) : Nat → Nat
  | 0 => p + 1
  | k + 1 => if chn pa p k = 0 then 0 else pa (chn pa p k - 1)
theorem c_hangs {n np p q : Nat} {pa : Nat → Nat} {Pr : Nat → Int32} (hn : 8 < n) (hp : np ≤ 8) (hpp : p < np) (hq : q < np) (h : paH pa np Pr) : ok (f_Patterns_hangsOn n (nI p) (nI q) (nI np) Pr) (fun r => tf r (∃ k, k < np ∧ chn pa p k = q + 1)) := by
  rw [f_Patterns_hangsOn_u]
  refine ok_bd0 (fun _ => ¬ ∃ k, k < np ∧ chn pa p k = q + 1) ?_ (fun h => ok_s (tf_f h))
  refine lpF (σ := Int32) (fun f i x => f_Patterns_hangsOn_L0 n (nI q) (nI np) Pr f x (nI i)) (fun i x => x = nI (chn pa p i) - 1 ∧ chn pa p i ≤ np ∧ ∀ k, k < i → chn pa p k ≠ q + 1) np _ ?_ ?_ n 0 (nI p) (by omega) (by omega) ⟨(nI_pred p).symm, by show p + 1 ≤ np; omega, fun k h => by omega⟩
  · intro f x hx
    rw [f_Patterns_hangsOn_L0_s]
    exact ok_t (nI_le (Nat.le_refl _) (by omega)) (ok_s (fun ⟨k, h1, h2⟩ => hx.2.2 k h1 h2))
  · intro f i x hi hx ih
    obtain ⟨k1, k2, k3⟩ := hx
    subst k1
    rw [f_Patterns_hangsOn_L0_s]
    refine ok_f (nI_ge hi (by first | omega | decide)) ?_
    refine ok_b (chn pa p i = 0) (tm_none (by omega)) (fun h1 => ok_s ?_) (fun h1 => ?_)
    · rintro ⟨k, g1, g2⟩
      have stay : ∀ j, i ≤ j → chn pa p j = 0 := by
        intro j
        induction j with
        | zero => intro hj; rw [show i = 0 by omega] at h1; exact h1
        | succ j ihj =>
          intro hj
          by_cases e : i = j + 1
          · rw [← e]; exact h1
          · show (if chn pa p j = 0 then 0 else pa (chn pa p j - 1)) = 0
            rw [if_pos (ihj (by omega))]
      by_cases hk : k < i
      · exact k3 k hk g2
      · rw [stay k (by omega)] at g2
        omega
    · rw [pa_v h1]
      refine ok_b (chn pa p i - 1 = q) (nI_eq (by omega) (by omega)) (fun h2 => ok_s (tf_t ⟨i, hi, by omega⟩)) (fun h2 => ?_)
      refine ok_gd (chn pa p i - 1) rfl (by omega) (by omega) ?_
      obtain ⟨g1, g2⟩ := h (chn pa p i - 1) (by omega)
      rw [nI_clamp (by omega : chn pa p i - 1 < 2 ^ 31), g2]
      have e1 : chn pa p (i + 1) = pa (chn pa p i - 1) := by
        show (if chn pa p i = 0 then 0 else pa (chn pa p i - 1)) = _
        rw [if_neg h1]
      refine ok_nm (ok_nmE (nI_1 i) (ih _ ⟨by rw [e1], by rw [e1]; exact g1, fun k hk => ?_⟩))
      by_cases e : k = i
      · subst e
        omega
      · exact k3 k (by omega)
