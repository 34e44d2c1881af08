/-! The state in mathematical words; triple, of the program -/
theorem tf_d {r : Int32} {D : Prop} [Decidable D] (h : tf r D) : r = if D then 1 else 0 := by
  rcases h with ⟨h, d⟩ | ⟨h, d⟩
  · rw [if_pos d]; exact h
  · rw [if_neg d]; exact h
def trm (x : Int32) : Prop := 0 ≤ x ∧ x < 32
theorem trm_iff {x : Int32} : trm x ↔ ∃ s, s < 32 ∧ x = nI s := by
  constructor
  · rintro ⟨h1, h2⟩
    obtain ⟨j, hj, e⟩ := nI_of (show ¬ x < 0 from Int32.not_lt.mpr h1)
    subst e
    exact ⟨j, (nI_ltI (b := 32) hj (by decide)).mp h2, rfl⟩
  · rintro ⟨s, hs, e⟩
    subst e
    exact ⟨nI_pos' (by omega), nI_lt hs (by decide)⟩
theorem c_isTerm (x : Int32) : tf (f_JoinOrder_isTerm x) (trm x) := by
  rw [f_JoinOrder_isTerm_u]
  by_cases h1 : x < 0
  · rw [if_pos h1]
    exact tf_f (fun h => absurd h1 (Int32.not_lt.mpr h.1))
  · rw [if_neg h1]
    by_cases h2 : (32 : Int32) ≤ x
    · rw [if_pos h2]
      exact tf_f (fun h => absurd h.2 (Int32.not_lt.mpr h2))
    · rw [if_neg h2]
      exact tf_t ⟨Int32.not_lt.mp h1, Int32.not_le.mp h2⟩
theorem q_isTerm (x : Int32) : tf (f_JoinOrderModel_isTerm x) (trm x) := by
  rw [f_JoinOrderModel_isTerm_u]
  by_cases h1 : x < 0
  · rw [if_pos h1]
    exact tf_f (fun h => absurd h1 (Int32.not_lt.mpr h.1))
  · rw [if_neg h1]
    by_cases h2 : (32 : Int32) ≤ x
    · rw [if_pos h2]
      exact tf_f (fun h => absurd h.2 (Int32.not_lt.mpr h2))
    · rw [if_neg h2]
      exact tf_t ⟨Int32.not_lt.mp h1, Int32.not_le.mp h2⟩
/-- what each pattern matches -/
noncomputable def MN (TL : List Nat) (np : Nat) (sl : Nat → Nat → Nat) (p : Nat) : List Nat := if p < np then TL.filter (fitB (sl p)) else []
theorem MN_len {TL : List Nat} {np : Nat} {sl : Nat → Nat → Nat} (p : Nat) : (MN TL np sl p).length ≤ TL.length := by
  unfold MN
  split
  · exact List.length_filter_le _ _
  · exact Nat.zero_le _
theorem MN_mem {TL : List Nat} {np : Nat} {sl : Nat → Nat → Nat} {p t : Nat} (h : t ∈ MN TL np sl p) : t ∈ TL ∧ fitP (sl p) t := by
  unfold MN at h
  split at h
  · obtain ⟨h1, h2⟩ := List.mem_filter.mp h
    exact ⟨h1, fitB_iff.mp h2⟩
  · cases h
theorem MN_snoc {TL : List Nat} {np : Nat} {sl : Nat → Nat → Nat} {t : Nat} : MN (TL ++ [t]) np sl = addAll (MN TL np sl) np sl t := by
  funext p
  unfold MN addAll
  dsimp only
  by_cases hp : p < np
  · rw [if_pos hp, if_pos hp, filter_snoc]
    by_cases hf : fitB (sl p) t = true
    · rw [if_pos hf, if_pos ⟨hp, hf⟩]
    · rw [if_neg hf, if_neg (fun h => hf h.2), List.append_nil]
  · rw [if_neg hp, if_neg (fun h => hp h.1), if_neg hp]
/-- triples and what the patterns match of them -/
def CT (TL : List Nat) (np : Nat) (sl : Nat → Nat → Nat) (Tc : Int32) (Tp S mc ms ts : Nat → Int32) : Prop := TL.length ≤ 80 ∧ (∀ x, x ∈ TL → x < 32768) ∧ np ≤ 8 ∧ Tc = nI TL.length ∧ hI Tp 0 TL ∧ (∀ p, p < np → slH S p (sl p)) ∧ PM (MN TL np sl) mc ms ts
def sTri (TL : List Nat) (x1 x2 x3 : Int32) : Int32 × List Nat := if (0 ≤ x1 ∧ x1 < 32) ∧ (0 ≤ x2 ∧ x2 < 32) ∧ (0 ≤ x3 ∧ x3 < 32) then (if pck x1.toNatClampNeg x2.toNatClampNeg x3.toNatClampNeg ∈ TL then (nI TL.length, TL) else if 80 ≤ TL.length then (-4, TL) else (nI (TL.length + 1), TL ++ [pck x1.toNatClampNeg x2.toNatClampNeg x3.toNatClampNeg])) else (-2, TL)
theorem sTri_no {TL : List Nat} {x1 x2 x3 : Int32} (h : ¬ (trm x1 ∧ trm x2 ∧ trm x3)) : sTri TL x1 x2 x3 = (-2, TL) := if_neg h
theorem sTri_at {TL : List Nat} {s p o : Nat} (hs : s < 32) (hp : p < 32) (ho : o < 32) : sTri TL (nI s) (nI p) (nI o) = if pck s p o ∈ TL then (nI TL.length, TL) else if 80 ≤ TL.length then (-4, TL) else (nI (TL.length + 1), TL ++ [pck s p o]) := by
  unfold sTri
  rw [if_pos ⟨trm_iff.mpr ⟨s, hs, rfl⟩, trm_iff.mpr ⟨p, hp, rfl⟩, trm_iff.mpr ⟨o, ho, rfl⟩⟩, nI_clamp (by omega), nI_clamp (by omega), nI_clamp (by omega)]
theorem c_triple {n np : Nat} {TL : List Nat} {sl : Nat → Nat → Nat} {x1 x2 x3 Tc : Int32} {Tp S mc ms ts : Nat → Int32} (hn : 80 < n) (h : CT TL np sl Tc Tp S mc ms ts) :
    ok (f_JoinOrder_triple n x1 x2 x3 Tc Tp (nI np) mc S ms ts) (fun o => o.1 = (sTri TL x1 x2 x3).1 ∧ CT (sTri TL x1 x2 x3).2 np sl o.2.1 o.2.2.1 S o.2.2.2.1 o.2.2.2.2.1 o.2.2.2.2.2) := by
  rw [f_JoinOrder_triple_u]
  have no : ¬ (trm x1 ∧ trm x2 ∧ trm x3) → ok (some ((-2 : Int32), Tc, Tp, mc, ms, ts)) (fun o => o.1 = (sTri TL x1 x2 x3).1 ∧ CT (sTri TL x1 x2 x3).2 np sl o.2.1 o.2.2.1 S o.2.2.2.1 o.2.2.2.2.1 o.2.2.2.2.2) := fun hh => ok_s (by rw [sTri_no hh]; exact ⟨rfl, h⟩)
  refine ok_b _ (tf_0 (c_isTerm x1)) (fun h1 => no (fun h => h1 h.1)) (fun h1 => ?_)
  refine ok_b _ (tf_0 (c_isTerm x2)) (fun h2 => no (fun h => h2 h.2.1)) (fun h2 => ?_)
  refine ok_b _ (tf_0 (c_isTerm x3)) (fun h3 => no (fun h => h3 h.2.2)) (fun h3 => ?_)
  obtain ⟨s, hs, e1⟩ := trm_iff.mp (Classical.not_not.mp h1)
  obtain ⟨p, hp, e2⟩ := trm_iff.mp (Classical.not_not.mp h2)
  obtain ⟨o, ho, e3⟩ := trm_iff.mp (Classical.not_not.mp h3)
  subst e1 e2 e3
  obtain ⟨g1, g2, g3, g4, g5, g6, g7⟩ := id h
  subst g4
  have hlt := pck_lt hs hp ho
  rw [sTri_at hs hp ho]
  refine ok_nmE (t_pack hs hp ho) ?_
  refine ok_bn1 _ (c_has hn g1 g2 hlt g5) (fun r hr => ?_)
  refine ok_b _ (tf_0 hr) (fun h4 => ?_) (fun h4 => ok_s ?_)
  · rw [if_neg h4]
    refine ok_b (TL.length < 80) (nI_ltI (b := 80) (by omega) (by decide)) (fun h5 => ?_) (fun h5 => ok_s ?_)
    · rw [if_neg (by omega)]
      refine ok_bn2 (fun q => q.1 = nI (TL.length + 1) ∧ hI q.2 0 (TL ++ [pck s p o])) ?_ (fun c t hct => ?_)
      · rw [f_Triples_add_u]
        refine ok_gd TL.length rfl h5 (by decide) ?_
        rw [nI_clamp (by omega : TL.length < 2 ^ 31)]
        refine ok_nm (ok_nmE (nI_1 _) (ok_s ⟨rfl, ?_⟩))
        have := hI_push (t := pck s p o) g5
        rw [Nat.zero_add] at this
        exact this
      · refine ok_bn3 _ (c_meetAll hn g3 hlt g6 g7 (fun q _ => Nat.lt_of_le_of_lt (MN_len q) h5)) (fun a b c2 hm => ok_s ⟨hct.1, ?_⟩)
        refine ⟨by rw [List.length_append, List.length_singleton]; omega, fun x hx => ?_, g3, ?_, hct.2, g6, ?_⟩
        · rcases List.mem_append.mp hx with hx | hx
          · exact g2 x hx
          · rw [List.mem_singleton] at hx
            omega
        · rw [List.length_append, List.length_singleton]
          exact hct.1
        · rw [MN_snoc]
          exact hm
    · rw [if_pos (by omega)]
      exact ⟨rfl, h⟩
  · rw [if_pos (Classical.not_not.mp h4)]
    exact ⟨rfl, h⟩
