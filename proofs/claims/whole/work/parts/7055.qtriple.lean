/-! triple, of the reference -/
def QT (TL : List Nat) (Rc : Int32) (F : Nat → Int32) : Prop := TL.length ≤ 80 ∧ (∀ x, x ∈ TL → x < 32768) ∧ Rc = nI TL.length ∧ ∀ (i t : Nat), TL[i]? = some t → ∀ k, k < 3 → F (3 * i + k) = nI (prt t k)
theorem i3m (i : Nat) : (3 : Int32) * nI i = nI (3 * i) := pk_mul 3 i
theorem i3k (i k : Nat) : nI (3 * i) + nI k = nI (3 * i + k) := nI_add _ _
theorem pck_prt {t s p o : Nat} (ht : t < 32768) (hs : s < 32) (hp : p < 32) (ho : o < 32) : t = pck s p o ↔ prt t 0 = s ∧ prt t 1 = p ∧ prt t 2 = o := by
  unfold prt pck
  simp only
  omega
theorem q_triple {n : Nat} {TL : List Nat} {x1 x2 x3 Rc : Int32} {F : Nat → Int32} (hn : 80 < n) (h : QT TL Rc F) :
    ok (f_JoinOrderModel_triple n x1 x2 x3 Rc F) (fun o => o.1 = (sTri TL x1 x2 x3).1 ∧ QT (sTri TL x1 x2 x3).2 o.2.1 o.2.2) := by
  rw [f_JoinOrderModel_triple_u]
  have no : ¬ (trm x1 ∧ trm x2 ∧ trm x3) → ok (some ((-2 : Int32), Rc, F)) (fun o => o.1 = (sTri TL x1 x2 x3).1 ∧ QT (sTri TL x1 x2 x3).2 o.2.1 o.2.2) := fun hh => ok_s (by rw [sTri_no hh]; exact ⟨rfl, h⟩)
  refine ok_b _ (tf_0 (q_isTerm x1)) (fun h1 => no (fun h => h1 h.1)) (fun h1 => ?_)
  refine ok_b _ (tf_0 (q_isTerm x2)) (fun h2 => no (fun h => h2 h.2.1)) (fun h2 => ?_)
  refine ok_b _ (tf_0 (q_isTerm x3)) (fun h3 => no (fun h => h3 h.2.2)) (fun h3 => ?_)
  obtain ⟨s, hs, e1⟩ := trm_iff.mp (Classical.not_not.mp h1)
  obtain ⟨p, hp, e2⟩ := trm_iff.mp (Classical.not_not.mp h2)
  obtain ⟨o, ho, e3⟩ := trm_iff.mp (Classical.not_not.mp h3)
  subst e1 e2 e3
  obtain ⟨g1, g2, g3, g4⟩ := id h
  subst g3
  have hlt := pck_lt hs hp ho
  rw [sTri_at hs hp ho]
  refine ok_bd0 (fun _ => ¬ pck s p o ∈ TL) ?_ (fun hno => ?_)
  · refine lpU (fun f i => f_JoinOrderModel_triple_L0 n (nI s) (nI p) (nI o) (nI TL.length) F f (nI i)) (fun i => ∀ (j x : Nat), j < i → TL[j]? = some x → x ≠ pck s p o) TL.length _ ?_ ?_ n 0 (by omega) (by omega) (fun e x h => by omega)
    · intro f h2
      rw [f_JoinOrderModel_triple_L0_s]
      refine ok_t (nI_le (Nat.le_refl _) (by omega)) (ok_s ?_)
      intro hm
      obtain ⟨i, hi⟩ := List.getElem?_of_mem hm
      exact h2 i _ (List.getElem?_eq_some_iff.mp hi).1 hi rfl
    · intro f i hi h2 ih
      rw [f_JoinOrderModel_triple_L0_s]
      refine ok_f (nI_ge hi (by omega)) ?_
      have hx : TL[i]? = some TL[i] := List.getElem?_eq_getElem hi
      have hm : TL[i] ∈ TL := List.getElem_mem hi
      have hlx := g2 _ hm
      have f0 := g4 i _ hx 0 (by omega)
      have f1 := g4 i _ hx 1 (by omega)
      have f2 := g4 i _ hx 2 (by omega)
      rw [Nat.add_zero] at f0
      have l0 := prt_lt TL[i] 0
      have l1 := prt_lt TL[i] 1
      have l2 := prt_lt TL[i] 2
      have key := pck_prt hlx hs hp ho
      have next : TL[i] ≠ pck s p o → ok (nm (nI i + (1 : Int32)) (fun x => f_JoinOrderModel_triple_L0 n (nI s) (nI p) (nI o) (nI TL.length) F f x)) _ := fun hne => ok_nmE (nI_1 i) (ih (fun j x hj hx2 => by
        by_cases h4 : j = i
        · subst h4
          rw [hx] at hx2
          exact Option.some.inj hx2 ▸ hne
        · exact h2 j x (by omega) hx2))
      rw [i3m, show (1 : Int32) = nI 1 from rfl, show (2 : Int32) = nI 2 from rfl, i3k, i3k]
      refine ok_gd (3 * i) rfl (by omega) (by decide) ?_
      rw [nI_clamp (by omega : 3 * i < 2 ^ 31), nI_clamp (by omega : 3 * i + 1 < 2 ^ 31), nI_clamp (by omega : 3 * i + 2 < 2 ^ 31), f0, f1, f2]
      refine ok_b (prt TL[i] 0 = s) (nI_eq (by omega) (by omega)) (fun k0 => ?_) (fun k0 => next (fun e => k0 (key.mp e).1))
      refine ok_gd (3 * i + 1) rfl (by omega) (by decide) ?_
      refine ok_b (prt TL[i] 1 = p) (nI_eq (by omega) (by omega)) (fun k1 => ?_) (fun k1 => next (fun e => k1 (key.mp e).2.1))
      refine ok_gd (3 * i + 2) rfl (by omega) (by decide) ?_
      refine ok_b (prt TL[i] 2 = o) (nI_eq (by omega) (by omega)) (fun k2 => ok_s ?_) (fun k2 => next (fun e => k2 (key.mp e).2.2))
      have e := key.mpr ⟨k0, k1, k2⟩
      show nI TL.length = _ ∧ _
      rw [if_pos (e ▸ hm)]
      exact ⟨rfl, h⟩
  · rw [if_neg hno]
    refine ok_b (TL.length = 80) (nI_eq (b := 80) (by omega) (by decide)) (fun h5 => ok_s ?_) (fun h5 => ?_)
    · rw [if_pos (by omega)]
      exact ⟨rfl, h⟩
    · rw [if_neg (by omega), i3m, show (2 : Int32) = nI 2 from rfl, show nI (3 * TL.length) + (1 : Int32) = nI (3 * TL.length + 1) from i3k _ 1, i3k]
      refine ok_gd (3 * TL.length) rfl (by omega) (by decide) (ok_nm ?_)
      refine ok_gd (3 * TL.length + 1) rfl (by omega) (by decide) (ok_nm ?_)
      refine ok_gd (3 * TL.length + 2) rfl (by omega) (by decide) (ok_nm ?_)
      rw [nI_clamp (by omega : 3 * TL.length < 2 ^ 31), nI_clamp (by omega : 3 * TL.length + 1 < 2 ^ 31), nI_clamp (by omega : 3 * TL.length + 2 < 2 ^ 31)]
      refine ok_nmE (nI_1 _) (ok_s ⟨rfl, by rw [List.length_append, List.length_singleton]; omega, fun x hx => ?_, by rw [List.length_append, List.length_singleton], fun i t ht k hk => ?_⟩)
      · rcases List.mem_append.mp hx with hx | hx
        · exact g2 x hx
        · rw [List.mem_singleton] at hx
          omega
      · obtain ⟨q0, q1, q2⟩ := prt_pck hs hp ho
        by_cases hi : i < TL.length
        · rw [List.getElem?_append_left hi] at ht
          simp only
          rw [pk_un (by omega), pk_un (by omega), pk_un (by omega)]
          exact g4 i t ht k hk
        · rw [List.getElem?_append_right (by omega)] at ht
          have e1 := (List.getElem?_eq_some_iff.mp ht).1
          simp only [List.length_singleton] at e1
          have e : i = TL.length := by omega
          subst e
          rw [Nat.sub_self] at ht
          have e2 : pck s p o = t := Option.some.inj ht
          subst e2
          have hk3 : k = 0 ∨ k = 1 ∨ k = 2 := by omega
          simp only
          rcases hk3 with rfl | rfl | rfl
          · rw [pk_un (by omega), pk_un (by omega), Nat.add_zero, pk_us, q0]
          · rw [pk_un (by omega), pk_us, q1]
          · rw [pk_us, q2]
