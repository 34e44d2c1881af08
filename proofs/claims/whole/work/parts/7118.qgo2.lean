/-! go, of the reference: a pattern comes to all rows -/
theorem q_go1n {n : Nat} {x1 T c x4 i j : Int32} {Fd Rw C F Nx Nf : Nat → Int32} (k : Nat) : f_JoinOrderModel_go_L1 n x1 T Fd Rw C F i (0 : Int32) (k + 1) c Nx Nf x4 j = some (c, Nx, Nf, x4) := by
  apply ok_eq
  rw [f_JoinOrderModel_go_L1_s]
  exact ok_if (fun _ => ok_s rfl) (fun _ => ok_t rfl (ok_s rfl))
theorem q_go0 {n np p : Nat} {pa : Nat → Nat} {cm : Nat → Prop} {sl : Nat → Nat} {TL L : List Nat} {Rw Nx Fd Nf C F Of : Nat → Int32} (hn : 500 < n) (hnp : np ≤ 8) (hp : p < np) (hl : TL.length ≤ 80) (hL : L.length ≤ 500) (hcm : ¬ cm p) (hpc : pa p ≠ 0 → cm (pa p - 1)) (h : qTb pa cm L Rw Fd) (hC : ceH C p sl) (hF : QA TL F) (hO : ∀ p, p < np → pa p ≤ np ∧ Of p = nI (pa p) - 1) :
    ok (f_JoinOrderModel_go_L0 n (nI p) (nI TL.length) (nI L.length) Of Fd Rw C F n (0 : Int32) Nx Nf (0 : Int32)) (fun o => ouP pa (cm1 cm p) (L.flatMap (fun r => extL sl (pa p) p r (TL.filter (fitB sl)))) o.1 o.2.1 o.2.2) := by
  refine lpF (σ := Int32 × (Nat → Int32) × (Nat → Int32)) (fun f i s => f_JoinOrderModel_go_L0 n (nI p) (nI TL.length) (nI L.length) Of Fd Rw C F f s.1 s.2.1 s.2.2 (nI i)) (fun i s => ouP pa (cm1 cm p) ((L.take i).flatMap (fun r => extL sl (pa p) p r (TL.filter (fitB sl)))) s.1 s.2.1 s.2.2) L.length _ ?_ ?_ n 0 (0, Nx, Nf) (by omega) (by omega) (Or.inl ⟨by simp, rfl, fun i r hi => by simp at hi⟩)
  · intro f s hI
    rw [f_JoinOrderModel_go_L0_s]
    rw [List.take_length] at hI
    exact ok_t (nI_le (Nat.le_refl _) (by omega)) (ok_s hI)
  · intro f i s hi hI ih
    obtain ⟨c, Y, G⟩ := s
    simp only at hI
    have hfl := flat_len (fun r => extL sl (pa p) p r (TL.filter (fitB sl))) L i
    have e2 : L.take (i + 1) = L.take i ++ [L[i]] := List.take_succ_eq_append_getElem hi
    rw [e2, List.flatMap_append, List.flatMap_singleton] at ih
    generalize (L.take i).flatMap (fun r => extL sl (pa p) p r (TL.filter (fitB sl))) = X at hI hfl ih
    rw [f_JoinOrderModel_go_L0_s]
    dsimp only
    refine ok_f (nI_ge hi (by omega)) ?_
    by_cases hX : X.length ≤ 500
    · have hI2 := hI
      rcases hI with ⟨_, g2, g3⟩ | ⟨g1, _⟩
      · subst g2
        refine ok_f (nI_nlt (a := 500) hX (by decide)) ?_
        obtain ⟨hk, hrow, m, hfd, hm⟩ := h i _ (List.getElem?_eq_getElem hi)
        generalize L[i] = r at hk hrow hm ih
        refine ok_bn1 _ (q_isReq hnp hp hO) (fun z0 hz0 => ?_)
        refine ok_bn1 (fun z => tf z (¬ (pa p ≠ 0 ∧ r.testBit (48 + (pa p - 1)) = true))) ?_ (fun z hz => ?_)
        · refine ok_b _ (tf_0 hz0) (fun g0 => ?_) (fun g0 => ok_s (tf_t (fun h => h.1 (Classical.not_not.mp g0))))
          obtain ⟨o1, o2⟩ := hO p hp
          refine ok_gd p rfl (by omega) (by decide) ?_
          rw [nI_clamp (by omega : p < 2 ^ 31), o2, pa_v g0]
          refine ok_bn1 _ (q_isReq hnp (show pa p - 1 < np by omega) hO) (fun z1 hz1 => ?_)
          obtain ⟨m1, m2⟩ := hm
          obtain ⟨w1, w2, w3⟩ := m2 (pa p - 1) (by omega)
          refine ok_b _ (tf_0 hz1) (fun g1 => ?_) (fun g1 => ok_s (tf_t (fun h => w3 (Classical.not_not.mp g1) h.2)))
          refine ok_gd i rfl (by omega) (by decide) ?_
          rw [nI_clamp (by omega : i < 2 ^ 31), hfd]
          refine ok_b _ (q_bit (by omega) (by omega)) (fun g2 => ok_s (tf_t (fun h => (w1 (hpc g0) g1).mp g2 h.2))) (fun g2 => ok_s (tf_f (fun h => g2 ((w1 (hpc g0) g1).mpr (fun h2 => h ⟨g0, h2⟩)))))
        · rcases hz with ⟨ez, hz⟩ | ⟨ez, hz⟩
          · subst ez
            refine ok_bn4 _ (q_go1 (by omega) (by omega) (by omega) hl hcm hX hI2 hrow hfd hk hm hC hF) (fun c2 Y2 G2 x4 h4 => ?_)
            obtain ⟨h4, h5⟩ := h4
            simp only at h4 h5
            have ee : extL sl (pa p) p r (TL.filter (fitB sl)) = if pa p ≠ 0 ∧ matL sl r (TL.filter (fitB sl)) = [] then [r ||| 2 ^ (48 + p)] else matL sl r (TL.filter (fitB sl)) := by
              unfold extL
              rw [if_neg hz]
            rw [ee] at ih
            refine ok_b _ (tf_0 h5) (fun g5 => ?_) (fun g5 => ?_)
            · have g5 := Classical.not_not.mp g5
              rw [g5, List.append_nil] at h4
              rw [g5] at ih
              refine ok_bn1 _ (q_isReq hnp hp hO) (fun z6 hz6 => ?_)
              refine ok_b _ (tf_0 hz6) (fun g6 => ?_) (fun g6 => ?_)
              · rw [if_pos ⟨g6, rfl⟩] at ih
                refine ok_bn3 _ (q_stay (p := p) (by omega) (by omega) (by omega) h4 hrow hfd hk (rl_miss hcm g6 hm)) (fun a b d h7 => ?_)
                exact ok_nmE (nI_1 i) (ih (a, b, d) h7)
              · rw [if_neg (fun h => h.1 (Classical.not_not.mp g6)), List.append_nil] at ih
                exact ok_nmE (nI_1 i) (ih (c2, Y2, G2) h4)
            · rw [if_neg (fun h => g5 (fun h2 => h2 h.2))] at ih
              exact ok_nmE (nI_1 i) (ih (c2, Y2, G2) h4)
          · subst ez
            have hz := Classical.not_not.mp hz
            have ee : extL sl (pa p) p r (TL.filter (fitB sl)) = [r ||| 2 ^ (48 + p)] := if_pos hz
            rw [ee] at ih
            refine ok_bn4 (fun o => o = (nI X.length, Y, G, 0)) ?_ (fun c2 Y2 G2 x4 h4 => ?_)
            · cases n with
              | zero => omega
              | succ k => exact ok_e (q_go1n k)
            · cases h4
              refine ok_t rfl ?_
              refine ok_bn1 _ (q_isReq hnp hp hO) (fun z6 hz6 => ?_)
              refine ok_t ((tf_0 hz6).mpr hz.1) ?_
              refine ok_bn3 _ (q_stay (p := p) (by omega) (by omega) (by omega) hI2 hrow hfd hk (rl_miss hcm hz.1 hm)) (fun a b d h7 => ?_)
              exact ok_nmE (nI_1 i) (ih (a, b, d) h7)
      · omega
    · rcases hI with ⟨g1, _⟩ | ⟨g1, g2⟩
      · exact absurd g1 hX
      · subst g2
        exact ok_t (by decide) (ok_s (Or.inr ⟨by omega, rfl⟩))
theorem q_cpy {n c : Nat} {Nx Rw : Nat → Int32} (hn : 4000 < n) (hc : c ≤ 500) : ok (f_JoinOrderModel_go_L2 n (nI c) Nx n Rw (0 : Int32)) (fun Y => ∀ x, x < 8 * c → Y x = Nx x) := by
  refine lpF (σ := Nat → Int32) (fun f x Y => f_JoinOrderModel_go_L2 n (nI c) Nx f Y (nI x)) (fun x Y => ∀ y, y < x → Y y = Nx y) (8 * c) _ ?_ ?_ n 0 Rw (by omega) (by omega) (fun y h => by omega)
  · intro f Y h
    rw [f_JoinOrderModel_go_L2_s, show (8 : Int32) * nI c = nI (8 * c) from pk_mul 8 c]
    exact ok_t (nI_le (Nat.le_refl _) (by omega)) (ok_s h)
  · intro f x Y hx h ih
    rw [f_JoinOrderModel_go_L2_s, show (8 : Int32) * nI c = nI (8 * c) from pk_mul 8 c]
    refine ok_f (nI_ge hx (by omega)) (ok_f (nI_nlt (a := 500) hc (by decide)) ?_)
    refine ok_gd x rfl (by omega) (by decide) (ok_nm ?_)
    rw [nI_clamp (by omega : x < 2 ^ 31)]
    refine ok_nm (ok_nmE (nI_1 x) (ih _ (fun y hy => ?_)))
    by_cases e : y = x
    · subst e
      rw [pk_us]
    · rw [pk_un e]
      exact h y (by omega)
theorem q_cpf {n c : Nat} {Nf Fd : Nat → Int32} (hn : 500 < n) (hc : c ≤ 500) : ok (f_JoinOrderModel_go_L3 n (nI c) Nf n Fd (0 : Int32)) (fun Y => ∀ x, x < c → Y x = Nf x) := by
  refine lpF (σ := Nat → Int32) (fun f x Y => f_JoinOrderModel_go_L3 n (nI c) Nf f Y (nI x)) (fun x Y => ∀ y, y < x → Y y = Nf y) c _ ?_ ?_ n 0 Fd (by omega) (by omega) (fun y h => by omega)
  · intro f Y h
    rw [f_JoinOrderModel_go_L3_s]
    exact ok_t (nI_le (Nat.le_refl _) (by omega)) (ok_s h)
  · intro f x Y hx h ih
    rw [f_JoinOrderModel_go_L3_s]
    refine ok_f (nI_ge hx (by omega)) (ok_f (nI_nlt (a := 500) hc (by decide)) ?_)
    refine ok_gd x rfl (by omega) (by decide) (ok_nm ?_)
    rw [nI_clamp (by omega : x < 2 ^ 31)]
    refine ok_nm (ok_nmE (nI_1 x) (ih _ (fun y hy => ?_)))
    by_cases e : y = x
    · subst e
      rw [pk_us]
    · rw [pk_un e]
      exact h y (by omega)
/-- the reference's table: rows and found ones, with room or none -/
def qTR (pa : Nat → Nat) (cm : Nat → Prop) (R : Option (List Nat)) (ok_ rows : Int32) (Rw Fd : Nat → Int32) : Prop := (R = none ∧ ok_ = 0) ∨ (∃ L, R = some L ∧ ok_ = 1 ∧ L.length ≤ 500 ∧ rows = nI L.length ∧ qTb pa cm L Rw Fd)
theorem q_go {n np p : Nat} {pa : Nat → Nat} {cm : Nat → Prop} {sl : Nat → Nat} {TL L : List Nat} {Rw Nx Fd Nf C F Of : Nat → Int32} (hn : 4000 < n) (hnp : np ≤ 8) (hp : p < np) (hl : TL.length ≤ 80) (hL : L.length ≤ 500) (hcm : ¬ cm p) (hpc : pa p ≠ 0 → cm (pa p - 1)) (h : qTb pa cm L Rw Fd) (hC : ceH C p sl) (hF : QA TL F) (hO : ∀ p, p < np → pa p ≤ np ∧ Of p = nI (pa p) - 1) :
    ok (f_JoinOrderModel_go n (nI p) (nI TL.length) (nI L.length) Of Fd Rw Nx C F Nf) (fun o => qTR pa (cm1 cm p) (joinR sl (pa p) p (TL.filter (fitB sl)) (some L)) o.1 o.2.1 o.2.2.2.2.1 o.2.2.2.1) := by
  rw [f_JoinOrderModel_go_u]
  refine ok_bn3 _ (q_go0 (by omega) hnp hp hl hL hcm hpc h hC hF hO) (fun c Y G hI => ?_)
  have ej : joinR sl (pa p) p (TL.filter (fitB sl)) (some L) = if (L.flatMap (fun r => extL sl (pa p) p r (TL.filter (fitB sl)))).length ≤ 500 then some (L.flatMap (fun r => extL sl (pa p) p r (TL.filter (fitB sl)))) else none := rfl
  rw [ej]
  generalize L.flatMap (fun r => extL sl (pa p) p r (TL.filter (fitB sl))) = X at hI
  simp only at hI
  rcases hI with ⟨g1, g2, g3⟩ | ⟨g1, g2⟩
  · subst g2
    refine ok_bn1 _ (q_cpy hn g1) (fun Y2 h2 => ?_)
    refine ok_bn1 _ (q_cpf (by omega) g1) (fun G2 h3 => ?_)
    refine ok_f (nI_nlt (a := 500) g1 (by decide)) (ok_s (Or.inr ⟨X, if_pos g1, rfl, g1, rfl, fun i r hi => ?_⟩))
    have hil : i < X.length := by
      rcases Nat.lt_or_ge i X.length with h1 | h1
      · exact h1
      · rw [List.getElem?_eq_none h1] at hi
        cases hi
    obtain ⟨k1, k2, m, k3, k4⟩ := g3 i r hi
    exact ⟨k1, fun v hv => (h2 _ (by omega)).trans (k2 v hv), m, (h3 i hil).trans k3, k4⟩
  · subst g2
    refine ok_bn1 (fun _ => True) ?_ (fun Y2 _ => ?_)
    · cases n with
      | zero => omega
      | succ k =>
        rw [f_JoinOrderModel_go_L2_s]
        exact ok_f (by decide) (ok_t (by decide) (ok_s trivial))
    refine ok_bn1 (fun _ => True) ?_ (fun G2 _ => ?_)
    · cases n with
      | zero => omega
      | succ k =>
        rw [f_JoinOrderModel_go_L3_s]
        exact ok_f (by decide) (ok_t (by decide) (ok_s trivial))
    exact ok_t (by decide) (ok_s (Or.inl ⟨if_neg (by omega), rfl⟩))
