/-! A pattern more: what stays -/
theorem HW_pat {np hm : Nat} {pa bf : Nat → Nat} {ht : Nat → Nat → Prop} (h : HW np pa bf hm ht) : HW (np + 1) pa bf hm ht :=
  ⟨fun a b k => ⟨⟨Nat.lt_succ_of_lt (h.1 a b k).1.1, (h.1 a b k).1.2⟩, ⟨Nat.lt_succ_of_lt (h.1 a b k).2.1.1, (h.1 a b k).2.1.2⟩, (h.1 a b k).2.2⟩, h.2⟩
theorem fresh_pat {np : Nat} {pa td bf : Nat → Nat} (h : fresh np pa td bf) : fresh (np + 1) pa td bf := fun p hp => h p (by omega)
theorem AC_pat {np : Nat} {pa an : Nat → Nat} (h : AC np pa an) (h0 : pa np = 0) : AC (np + 1) pa (fU an np (2 ^ np)) := by
  have hlt := p2_lt (show np < np + 1 by omega)
  intro p hp
  by_cases e : p = np
  · subst e
    rw [fU_s]
    refine ⟨hlt, (bit_p2 _ _).mpr rfl, fun _ => rfl, fun k => absurd h0 k, fun q x k1 k2 => ?_⟩
    rw [bit_p2] at k1
    subst k1
    rw [fU_s] at k2
    exact k2
  · obtain ⟨g1, g2, g3, g4, g5⟩ := h p (by omega)
    rw [fU_n e]
    refine ⟨Nat.lt_trans g1 hlt, g2, g3, fun k => ?_, fun q x k1 k2 => ?_⟩
    · obtain ⟨u1, u2, u3⟩ := g4 k
      rw [fU_n (show pa p - 1 ≠ np by omega)]
      exact ⟨Nat.le_succ_of_le u1, u2, u3⟩
    · have hq := bit_ltn g1 k1
      rw [fU_n (show q ≠ np by omega)] at k2
      exact g5 q x k1 k2
theorem sPat_np {np : Nat} {sl : Nat → Nat → Nat} {x1 x2 x3 : Int32} : (sPat np sl x1 x2 x3).2.1 = np ∨ ((sPat np sl x1 x2 x3).2.1 = np + 1 ∧ np < 8) := by
  by_cases h : slt x1 ∧ slt x2 ∧ slt x3
  · unfold sPat
    rw [if_pos h]
    by_cases h8 : 8 ≤ np
    · rw [if_pos h8]
      exact Or.inl rfl
    · rw [if_neg h8]
      exact Or.inr ⟨rfl, by omega⟩
  · rw [sPat_no h]
    exact Or.inl rfl
/-- patterns of the reference: a set of the REQUIRED ones -/
theorem q_allReq {n np : Nat} {pa : Nat → Nat} {Of : Nat → Int32} (hn : 8 < n) (hnp : np ≤ 8) (hO : ∀ p, p < np → pa p ≤ np ∧ Of p = nI (pa p) - 1) : ok (f_JoinOrderModel_allRequired n (nI np) Of) (fun r => isS r (fun p => pa p = 0) np) := by
  rw [f_JoinOrderModel_allRequired_u]
  refine ok_bn1 (fun r => isS r (fun p => pa p = 0) np) ?_ (fun r h => ok_s h)
  refine lpF (σ := Int32) (fun f i x => f_JoinOrderModel_allRequired_L0 n (nI np) Of f x (nI i)) (fun i x => isS x (fun p => pa p = 0) i) np _ ?_ ?_ n 0 (0 : Int32) (by omega) (by omega) (isS_0 _)
  · intro f x hx
    rw [f_JoinOrderModel_allRequired_L0_s]
    exact ok_t (nI_le (Nat.le_refl _) (by omega)) (ok_s hx)
  · intro f i x hi hx ih
    rw [f_JoinOrderModel_allRequired_L0_s]
    refine ok_f (nI_ge hi (by omega)) ?_
    refine ok_bn1 _ (q_isReq hnp hi hO) (fun z hz => ?_)
    refine ok_b _ (tf_0 hz) (fun g => ok_nmE (nI_1 i) (ih _ (isS_f hx g))) (fun g => ?_)
    exact ok_nm (ok_nmE (nI_1 i) (ih _ (isS_t hx (by omega) (Classical.not_not.mp g))))
