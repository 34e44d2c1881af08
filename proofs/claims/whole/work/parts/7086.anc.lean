/-! OPTIONAL ones: those that a pattern is OF, through others, as sets -/
def AC (np : Nat) (pa an : Nat → Nat) : Prop := ∀ p, p < np → an p < 2 ^ np ∧ (an p).testBit p = true ∧ (pa p = 0 → an p = 2 ^ p) ∧ (pa p ≠ 0 → pa p ≤ np ∧ ¬ (an (pa p - 1)).testBit p = true ∧ an p = an (pa p - 1) ||| 2 ^ p) ∧ ∀ q x, (an p).testBit q = true → (an q).testBit x = true → (an p).testBit x = true
theorem bit_ltn {m p n : Nat} (hm : m < 2 ^ n) (h : m.testBit p = true) : p < n := by
  have := Nat.ge_two_pow_of_testBit h
  by_cases hp : p < n
  · exact hp
  · have h2 : 2 ^ n ≤ 2 ^ p := Nat.pow_le_pow_right (by decide) (by omega)
    omega
theorem popc_pos {m i : Nat} : ∀ k, i < k → m.testBit i = true → 0 < popc m k := by
  intro k
  induction k with
  | zero => intro h; omega
  | succ k ih =>
    intro h hb
    show 0 < popc m k + (m.testBit k).toNat
    by_cases e : i = k
    · subst e
      rw [hb]
      simp only [Bool.toNat_true]
      omega
    · have := ih (by omega) hb
      omega
theorem an_popc {np p : Nat} {pa an : Nat → Nat} (hnp : np ≤ 8) (h : AC np pa an) (hp : p < np) (h0 : pa p ≠ 0) : popc (an p) 8 = popc (an (pa p - 1)) 8 + 1 := by
  obtain ⟨_, _, _, h4, _⟩ := h p hp
  obtain ⟨_, g2, g3⟩ := h4 h0
  rw [g3, popc_or g2 8 (by omega)]
theorem chn_s {pa : Nat → Nat} {p : Nat} : ∀ k, chn pa p (k + 1) = if pa p = 0 then 0 else chn pa (pa p - 1) k := by
  intro k
  induction k with
  | zero =>
    show (if p + 1 = 0 then 0 else pa (p + 1 - 1)) = if pa p = 0 then 0 else pa p - 1 + 1
    rw [if_neg (by omega), Nat.add_sub_cancel]
    split
    · assumption
    · omega
  | succ k ih =>
    show (if chn pa p (k + 1) = 0 then 0 else pa (chn pa p (k + 1) - 1)) = if pa p = 0 then 0 else (if chn pa (pa p - 1) k = 0 then 0 else pa (chn pa (pa p - 1) k - 1))
    rw [ih]
    by_cases h : pa p = 0
    · rw [if_pos h, if_pos h, if_pos rfl]
    · rw [if_neg h, if_neg h]
theorem an_of_chn {np q : Nat} {pa an : Nat → Nat} (h : AC np pa an) : ∀ k p, p < np → chn pa p k = q + 1 → (an p).testBit q = true := by
  intro k
  induction k with
  | zero =>
    intro p hp e
    have e2 : p + 1 = q + 1 := e
    have e3 : p = q := by omega
    exact e3 ▸ (h p hp).2.1
  | succ k ih =>
    intro p hp e
    rw [chn_s] at e
    by_cases h0 : pa p = 0
    · rw [if_pos h0] at e
      omega
    · rw [if_neg h0] at e
      obtain ⟨g1, g2, g3⟩ := (h p hp).2.2.2.1 h0
      rw [g3]
      exact (bit_or _ _ _).mpr (Or.inl (ih (pa p - 1) (by omega) e))
theorem chn_of_an {np q : Nat} {pa an : Nat → Nat} (hnp : np ≤ 8) (h : AC np pa an) : ∀ d p, popc (an p) 8 ≤ d → p < np → (an p).testBit q = true → ∃ k, k < popc (an p) 8 ∧ chn pa p k = q + 1 := by
  intro d
  induction d with
  | zero =>
    intro p hd hp hb
    have := popc_pos 8 (show p < 8 by omega) (h p hp).2.1
    omega
  | succ d ih =>
    intro p hd hp hb
    have hpos := popc_pos 8 (show p < 8 by omega) (h p hp).2.1
    by_cases e : q = p
    · subst e
      exact ⟨0, hpos, rfl⟩
    · by_cases h0 : pa p = 0
      · rw [(h p hp).2.2.1 h0, bit_p2] at hb
        exact absurd hb.symm e
      · obtain ⟨g1, g2, g3⟩ := (h p hp).2.2.2.1 h0
        have hpc := an_popc hnp h hp h0
        rw [g3, bit_or, bit_p2] at hb
        rcases hb with hb | hb
        · obtain ⟨k, k1, k2⟩ := ih (pa p - 1) (by omega) (by omega) hb
          exact ⟨k + 1, by omega, by rw [chn_s, if_neg h0]; exact k2⟩
        · exact absurd hb.symm e
theorem chn_iff {np p q : Nat} {pa an : Nat → Nat} (hnp : np ≤ 8) (h : AC np pa an) (hp : p < np) : (∃ k, k < np ∧ chn pa p k = q + 1) ↔ (an p).testBit q = true := by
  constructor
  · rintro ⟨k, _, e⟩
    exact an_of_chn h k p hp e
  · intro hb
    obtain ⟨k, k1, k2⟩ := chn_of_an hnp h _ p (Nat.le_refl _) hp hb
    have := popc_np hnp (h p hp).1
    exact ⟨k, by omega, k2⟩
theorem q_isOf {n np p q : Nat} {pa an : Nat → Nat} {Of : Nat → Int32} (hn : 8 < n) (hnp : np ≤ 8) (h : AC np pa an) (hO : ∀ p, p < np → pa p ≤ np ∧ Of p = nI (pa p) - 1) (hp : p < np) (hq : q < np) : ok (f_JoinOrderModel_isOf n (nI p) (nI q) Of) (fun r => tf r (pa p ≠ 0 ∧ (an (pa p - 1)).testBit q = true)) := by
  rw [f_JoinOrderModel_isOf_u]
  refine ok_gd p rfl (by omega) (by decide) ?_
  rw [nI_clamp (by omega : p < 2 ^ 31), (hO p hp).2]
  refine ok_nm ?_
  refine ok_bn1 (fun x => tf (if x = nI q then 1 else 0) (pa p ≠ 0 ∧ (an (pa p - 1)).testBit q = true)) ?_ (fun x hx => ?_)
  · refine lpM (σ := Nat) (fun k c => f_JoinOrderModel_isOf_L0 n (nI q) Of k (nI c - 1)) (fun c => c ≤ np ∧ ((c ≠ 0 ∧ (an (c - 1)).testBit q = true) ↔ (pa p ≠ 0 ∧ (an (pa p - 1)).testBit q = true))) (fun c => if c = 0 then 0 else popc (an (c - 1)) 8) _ ?_ n (pa p) ⟨(hO p hp).1, Iff.rfl⟩ ?_
    · intro k c hI ih
      obtain ⟨k1, k2⟩ := hI
      rw [f_JoinOrderModel_isOf_L0_s]
      refine ok_b (c = 0) (tm_none (by omega)) (fun g => ok_s ?_) (fun g => ?_)
      · subst g
        have hne : ¬ nI 0 - 1 = nI q := fun e => by
          have h2 := nI_pos (n := q) (by omega)
          rw [← e] at h2
          exact absurd (by decide) h2
        rw [if_neg hne]
        exact tf_f (fun g2 => (k2.mpr g2).1 rfl)
      · rw [pa_v g]
        refine ok_b (c - 1 = q) (nI_eq (by omega) (by omega)) (fun g2 => ok_s ?_) (fun g2 => ?_)
        · rw [if_pos (by rw [g2])]
          exact tf_t (k2.mp ⟨g, g2 ▸ (h (c - 1) (by omega)).2.1⟩)
        · refine ok_gd (c - 1) rfl (by omega) (by decide) ?_
          rw [nI_clamp (by omega : c - 1 < 2 ^ 31), (hO (c - 1) (by omega)).2]
          refine ok_nm (ih (pa (c - 1)) ⟨(hO (c - 1) (by omega)).1, ?_⟩ ?_)
          · rw [← k2]
            by_cases h0 : pa (c - 1) = 0
            · rw [(h (c - 1) (by omega)).2.2.1 h0, bit_p2]
              exact ⟨fun x => absurd h0 x.1, fun x => absurd x.2 g2⟩
            · obtain ⟨u1, u2, u3⟩ := (h (c - 1) (by omega)).2.2.2.1 h0
              rw [u3, bit_or, bit_p2]
              exact ⟨fun x => ⟨g, Or.inl x.2⟩, fun x => ⟨h0, x.2.elim id (fun y => absurd y g2)⟩⟩
          · show (if pa (c - 1) = 0 then 0 else popc (an (pa (c - 1) - 1)) 8) < (if c = 0 then 0 else popc (an (c - 1)) 8)
            rw [if_neg g]
            by_cases h0 : pa (c - 1) = 0
            · rw [if_pos h0]
              exact popc_pos 8 (show c - 1 < 8 by omega) (h (c - 1) (by omega)).2.1
            · rw [if_neg h0, an_popc hnp h (by omega) h0]
              omega
    · show (if pa p = 0 then 0 else popc (an (pa p - 1)) 8) < n
      have := popc_le (an (pa p - 1)) 8
      split <;> omega
  · refine ok_if (fun e => ok_s ?_) (fun e => ok_s ?_)
    · rw [if_pos e] at hx
      exact hx
    · rw [if_neg e] at hx
      exact hx
/-- p is OF b from now on -/
theorem AC_hang {np a b : Nat} {pa an : Nat → Nat} (h : AC np pa an) (ha : a < np) (hb : b < np) (h0 : pa a = 0) (hno : ¬ (an b).testBit a = true) : AC np (fU pa a (b + 1)) (fun x => if (an x).testBit a = true then an x ||| an b else an x) := by
  have bitU : ∀ x y, (if (an x).testBit a = true then an x ||| an b else an x).testBit y = true ↔ (an x).testBit y = true ∨ ((an x).testBit a = true ∧ (an b).testBit y = true) := fun x y => by
    by_cases hx : (an x).testBit a = true
    · rw [if_pos hx, bit_or]
      exact ⟨fun g => g.elim Or.inl (fun g2 => Or.inr ⟨hx, g2⟩), fun g => g.elim Or.inl (fun g2 => Or.inr g2.2)⟩
    · rw [if_neg hx]
      exact ⟨Or.inl, fun g => g.elim id (fun g2 => absurd g2.1 hx)⟩
  intro p hp
  obtain ⟨g1, g2, g3, g4, g5⟩ := h p hp
  have ltU : (if (an p).testBit a = true then an p ||| an b else an p) < 2 ^ np := by
    split
    · exact or_lt g1 (h b hb).1
    · exact g1
  refine ⟨ltU, (bitU p p).mpr (Or.inl g2), fun k0 => ?_, fun k0 => ?_, fun q x k1 k2 => ?_⟩
  · by_cases e : p = a
    · subst e
      rw [fU_s] at k0
      omega
    · rw [fU_n e] at k0
      have e2 := g3 k0
      show (if (an p).testBit a = true then an p ||| an b else an p) = 2 ^ p
      rw [if_neg, e2]
      rw [e2, bit_p2]
      exact e
  · show fU pa a (b + 1) p ≤ np ∧ ¬ (if (an (fU pa a (b + 1) p - 1)).testBit a = true then an (fU pa a (b + 1) p - 1) ||| an b else an (fU pa a (b + 1) p - 1)).testBit p = true ∧ (if (an p).testBit a = true then an p ||| an b else an p) = (if (an (fU pa a (b + 1) p - 1)).testBit a = true then an (fU pa a (b + 1) p - 1) ||| an b else an (fU pa a (b + 1) p - 1)) ||| 2 ^ p
    by_cases e : p = a
    · subst e
      rw [fU_s, Nat.add_sub_cancel, if_neg hno, if_pos g2, g3 h0]
      exact ⟨by omega, hno, Nat.or_comm _ _⟩
    · rw [fU_n e] at k0 ⊢
      obtain ⟨u1, u2, u3⟩ := g4 k0
      have iff1 : (an p).testBit a = true ↔ (an (pa p - 1)).testBit a = true := by
        rw [u3, bit_or, bit_p2]
        exact ⟨fun x => x.elim id (fun y => absurd y e), Or.inl⟩
      refine ⟨u1, ?_, ?_⟩
      · rw [bitU]
        rintro (x | ⟨x1, x2⟩)
        · exact u2 x
        · exact hno ((h b hb).2.2.2.2 p a x2 (iff1.mpr x1))
      · by_cases hx : (an (pa p - 1)).testBit a = true
        · rw [if_pos hx, if_pos (iff1.mpr hx), u3, Nat.or_assoc, Nat.or_assoc, Nat.or_comm (2 ^ p)]
        · rw [if_neg hx, if_neg (fun y => hx (iff1.mp y)), u3]
  · have k1 := (bitU p q).mp k1
    have k2 := (bitU q x).mp k2
    refine (bitU p x).mpr ?_
    rcases k1 with k1 | ⟨k1, k3⟩
    · rcases k2 with k2 | ⟨k2, k4⟩
      · exact Or.inl (g5 q x k1 k2)
      · exact Or.inr ⟨g5 q a k1 k2, k4⟩
    · rcases k2 with k2 | ⟨k2, k4⟩
      · exact Or.inr ⟨k1, (h b hb).2.2.2.2 q x k3 k2⟩
      · exact Or.inr ⟨k1, k4⟩
