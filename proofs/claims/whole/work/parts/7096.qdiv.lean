/-! divisor, of the reference -/
def dcN (s : Nat → Nat) (m W d : Nat) : Nat → Nat × Nat
  | 0 => (d, 0)
  | k + 1 => if m.testBit k = true ∧ 0 < s k then (if (dcN s m W d k).2 = 0 then ((dcN s m W d k).1, s k) else (cutM W (dcN s m W d k).1 (max (dcN s m W d k).2 (s k)), min (dcN s m W d k).2 (s k))) else dcN s m W d k
theorem dcN_ok {s : Nat → Nat} {m W d np : Nat} (hd : d ≤ 32 * W) (hs : ∀ k, k < np → s k ≤ 32) : ∀ k, k ≤ np → (dcN s m W d k).1 ≤ 32 * W ∧ (dcN s m W d k).2 ≤ 32 := by
  intro k
  induction k with
  | zero => intro _; exact ⟨hd, by show (0 : Nat) ≤ 32; omega⟩
  | succ k ih =>
    intro hk
    obtain ⟨h1, h2⟩ := ih (by omega)
    have h3 := hs k (by omega)
    unfold dcN
    split
    · split
      · exact ⟨h1, h3⟩
      · refine ⟨?_, by show min _ _ ≤ 32; omega⟩
        show cutM W _ _ ≤ 32 * W
        unfold cutM
        split
        · rename_i hle
          have h4 : max (dcN s m W d k).2 (s k) ≤ 32 := by omega
          have h5 : (dcN s m W d k).1 * max (dcN s m W d k).2 (s k) ≤ W * 32 := Nat.mul_le_mul hle h4
          omega
        · exact h1
    · exact ⟨h1, h2⟩
theorem q_div {n np v S d W : Nat} {Q : Nat → Int32} {s : Nat → Nat} (hn : 8 < n) (hnp : np ≤ 8) (hv : v < 8) (hS : S < 256) (hW : 32 * W < 2 ^ 62) (eW : (10000000000000000 : Int64) = lN W) (hd : d ≤ 32 * W) (hs : ∀ p, p < np → s p ≤ 32 ∧ Q (8 * p + v) = nI (s p)) : f_JoinOrderModel_divisor n (nI S) (nI v) (lN d) (nI np) Q = some (lN (dcN s S W d np).1) := by
  have hok := dcN_ok (m := S) hd (fun k hk => (hs k hk).1)
  apply ok_eq
  rw [f_JoinOrderModel_divisor_u]
  refine ok_bn1 (fun x => x = lN (dcN s S W d np).1) ?_ (fun x h => ok_s h)
  refine lpF (σ := Int64 × Int32) (fun f i x => f_JoinOrderModel_divisor_L0 n (nI S) (nI v) (nI np) Q f x.1 x.2 (nI i)) (fun i x => x = (lN (dcN s S W d i).1, nI (dcN s S W d i).2)) np _ ?_ ?_ n 0 (lN d, 0) (by omega) (by omega) rfl
  · intro f x h
    subst h
    rw [f_JoinOrderModel_divisor_L0_s]
    exact ok_t (nI_le (Nat.le_refl _) (by omega)) (ok_s rfl)
  · intro f i x hi h ih
    subst h
    obtain ⟨o1, o2⟩ := hok i (by omega)
    obtain ⟨s1, s2⟩ := hs i hi
    have e1 : dcN s S W d (i + 1) = if S.testBit i = true ∧ 0 < s i then (if (dcN s S W d i).2 = 0 then ((dcN s S W d i).1, s i) else (cutM W (dcN s S W d i).1 (max (dcN s S W d i).2 (s i)), min (dcN s S W d i).2 (s i))) else dcN s S W d i := rfl
    rw [f_JoinOrderModel_divisor_L0_s, eW]
    dsimp only
    refine ok_f (nI_ge hi (by omega)) ?_
    refine ok_bn1 (fun z => ∃ c, z = nI c ∧ c ≤ 32 ∧ ((S.testBit i = true ∧ 0 < s i) ↔ 0 < c) ∧ (0 < c → c = s i)) ?_ (fun z hz => ?_)
    · refine ok_b _ (q_bit (by omega) (by omega)) (fun g => ?_) (fun g => ok_s ⟨0, rfl, by omega, ⟨fun h => absurd h.1 g, fun h => by omega⟩, fun h => by omega⟩)
      rw [i8]
      refine ok_gd (8 * i + v) rfl (by omega) (by decide) ?_
      rw [nI_clamp (by omega : 8 * i + v < 2 ^ 31), s2]
      exact ok_s ⟨s i, rfl, s1, ⟨fun h => h.2, fun h => ⟨g, h⟩⟩, fun _ => rfl⟩
    · obtain ⟨c, ec, c1, c2, c3⟩ := hz
      subst ec
      refine ok_b (c ≤ 0) (nI_leI (b := 0) (by omega) (by omega)) (fun g => ok_nmE (nI_1 i) (ih (lN (dcN s S W d i).1, nI (dcN s S W d i).2) ?_)) (fun g => ?_)
      · rw [e1, if_neg (fun h => by have := c2.mp h; omega)]
      · have ecs := c3 (by omega)
        subst ecs
        rw [if_pos (c2.mpr (by omega))] at e1
        refine ok_bn1 (fun z => z = nI (if (dcN s S W d i).2 = 0 then 1 else max (dcN s S W d i).2 (s i))) ?_ (fun z ez => ?_)
        · refine ok_b ((dcN s S W d i).2 = 0) (nI_eq (b := 0) (by omega) (by omega)) (fun g2 => ok_s (by rw [if_pos g2]; rfl)) (fun g2 => ?_)
          rw [if_neg g2]
          exact ok_b (s i ≤ (dcN s S W d i).2) (nI_leI (by omega) (by omega)) (fun g3 => ok_s (by rw [Nat.max_eq_left g3])) (fun g3 => ok_s (by rw [Nat.max_eq_right (by omega)]))
        · subst ez
          refine ok_bn1 (fun z => z = nI (if (dcN s S W d i).2 = 0 then s i else min (dcN s S W d i).2 (s i))) ?_ (fun z ez => ?_)
          · refine ok_b ((dcN s S W d i).2 = 0) (nI_eq (b := 0) (by omega) (by omega)) (fun g2 => ok_s (by rw [if_pos g2])) (fun g2 => ?_)
            rw [if_neg g2]
            exact ok_b ((dcN s S W d i).2 ≤ s i) (nI_leI (by omega) (by omega)) (fun g3 => ok_s (by rw [Nat.min_eq_left g3])) (fun g3 => ok_s (by rw [Nat.min_eq_right (by omega)]))
          · subst ez
            have hmx : (if (dcN s S W d i).2 = 0 then 1 else max (dcN s S W d i).2 (s i)) < 2 ^ 31 := by split <;> omega
            refine ok_b ((dcN s S W d i).1 ≤ W) ((lg_cmp_le _ _).trans (pk_lLE (by omega) (by omega))) (fun g3 => ?_) (fun g3 => ?_)
            · rw [nI_l hmx, lN_mul]
              refine ok_nm (ok_nmE (nI_1 i) (ih (lN ((dcN s S W d i).1 * (if (dcN s S W d i).2 = 0 then 1 else max (dcN s S W d i).2 (s i))), nI (if (dcN s S W d i).2 = 0 then s i else min (dcN s S W d i).2 (s i))) ?_))
              rw [e1]
              by_cases g2 : (dcN s S W d i).2 = 0
              · rw [if_pos g2, if_pos g2, if_pos g2, Nat.mul_one]
              · rw [if_neg g2, if_neg g2, if_neg g2]
                unfold cutM
                rw [if_pos g3]
            · refine ok_nmE (nI_1 i) (ih (lN (dcN s S W d i).1, nI (if (dcN s S W d i).2 = 0 then s i else min (dcN s S W d i).2 (s i))) ?_)
              rw [e1]
              by_cases g2 : (dcN s S W d i).2 = 0
              · rw [if_pos g2, if_pos g2]
              · rw [if_neg g2, if_neg g2]
                unfold cutM
                rw [if_neg g3]
