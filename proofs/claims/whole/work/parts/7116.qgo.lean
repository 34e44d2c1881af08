/-! come, stay and go, of the reference -/
def rlP (pa : Nat → Nat) (cm : Nat → Prop) (r m : Nat) : Prop := m < 256 ∧ ∀ q, q < 8 → (cm q → pa q ≠ 0 → (m.testBit q = true ↔ ¬ r.testBit (48 + q) = true)) ∧ (¬ cm q → ¬ m.testBit q = true ∧ ¬ r.testBit (48 + q) = true) ∧ (pa q = 0 → ¬ r.testBit (48 + q) = true)
def qTb (pa : Nat → Nat) (cm : Nat → Prop) (L : List Nat) (Rw Fd : Nat → Int32) : Prop := ∀ (i r : Nat), L[i]? = some r → okR r ∧ rwI Rw i r ∧ ∃ m, Fd i = nI m ∧ rlP pa cm r m
def ouP (pa : Nat → Nat) (cm : Nat → Prop) (X : List Nat) (c : Int32) (Nx Nf : Nat → Int32) : Prop := (X.length ≤ 500 ∧ c = nI X.length ∧ qTb pa cm X Nx Nf) ∨ (500 < X.length ∧ c = nI 501)
theorem at_snoc {X : List Nat} {x i r : Nat} (h : (X ++ [x])[i]? = some r) : (i < X.length ∧ X[i]? = some r) ∨ (i = X.length ∧ r = x) := by
  rcases Nat.lt_trichotomy i X.length with h1 | h1 | h1
  · rw [List.getElem?_append_left h1] at h
    exact Or.inl ⟨h1, h⟩
  · subst h1
    rw [List.getElem?_append_right (Nat.le_refl _), Nat.sub_self] at h
    have h2 : some x = some r := h
    exact Or.inr ⟨rfl, (Option.some.inj h2).symm⟩
  · rw [List.getElem?_eq_none (by rw [List.length_append]; show X.length + 1 ≤ i; omega)] at h
    cases h
theorem qTb_push {pa : Nat → Nat} {cm : Nat → Prop} {X : List Nat} {r m : Nat} {Nx Nf : Nat → Int32} (h : qTb pa cm X Nx Nf) (hr : rwI Nx X.length r) (hk : okR r) (hm : rlP pa cm r m) : qTb pa cm (X ++ [r]) Nx (upd Nf X.length (nI m)) := by
  intro i x hx
  rcases at_snoc hx with ⟨h1, h2⟩ | ⟨h1, h2⟩
  · obtain ⟨g1, g2, m2, g3, g4⟩ := h i x h2
    refine ⟨g1, g2, m2, ?_, g4⟩
    rw [pk_un (by omega)]
    exact g3
  · subst h1 h2
    exact ⟨hk, hr, m, pk_us, hm⟩
theorem qTb_next {pa : Nat → Nat} {cm : Nat → Prop} {X : List Nat} {Nx Ny Nf : Nat → Int32} (h : qTb pa cm X Nx Nf) (e : ∀ w v, w ≠ X.length → v < 8 → Ny (8 * w + v) = Nx (8 * w + v)) : qTb pa cm X Ny Nf := by
  intro i x hx
  obtain ⟨g1, g2, g3⟩ := h i x hx
  have hi : i < X.length := by
    rcases Nat.lt_or_ge i X.length with h1 | h1
    · exact h1
    · rw [List.getElem?_eq_none h1] at hx
      cases hx
  exact ⟨g1, fun v hv => (e i v (by omega) hv).trans (g2 v hv), g3⟩
theorem q_come {m r : Nat} {pa : Nat → Nat} {cm : Nat → Prop} {X : List Nat} {c : Int32} {Nx Nf : Nat → Int32} (h : ouP pa cm X c Nx Nf) (hr : X.length < 500 → rwI Nx X.length r) (hk : okR r) (hm : rlP pa cm r m) : ok (f_JoinOrderModel_come (nI m) c Nf) (fun o => ouP pa cm (X ++ [r]) o.1 Nx o.2) := by
  have hl : (X ++ [r]).length = X.length + 1 := by
    rw [List.length_append]
    rfl
  rw [f_JoinOrderModel_come_u]
  rcases h with ⟨h1, h2, h3⟩ | ⟨h1, h2⟩
  · subst h2
    have hnl : ¬ (500 : Int32) < nI X.length := nI_nlt (a := 500) h1 (by decide)
    by_cases h5 : X.length = 500
    · refine ok_bn1 (fun _ => True) (ok_t (nI_le (a := 500) (by omega) (by omega)) (ok_s trivial)) (fun z _ => ?_)
      refine ok_f hnl (ok_nm (ok_s (Or.inr ⟨by omega, ?_⟩)))
      show nI X.length + 1 = _
      rw [nI_1, h5]
    · refine ok_bn1 (fun z => z = upd Nf X.length (nI m)) ?_ (fun z e => ?_)
      · refine ok_f (nI_ge (b := 500) (by omega) (by decide)) (ok_gd X.length rfl (by omega) (by decide) (ok_nm (ok_s ?_)))
        rw [nI_clamp (by omega : X.length < 2 ^ 31)]
      · subst e
        refine ok_f hnl (ok_nm (ok_s (Or.inl ⟨by omega, ?_, qTb_push h3 (hr (by omega)) hk hm⟩)))
        show nI X.length + 1 = _
        rw [nI_1, hl]
  · subst h2
    refine ok_bn1 (fun _ => True) (ok_t (by decide) (ok_s trivial)) (fun z _ => ?_)
    exact ok_t (by decide) (ok_s (Or.inr ⟨by omega, rfl⟩))
theorem q_stay {n i p m r : Nat} {pa : Nat → Nat} {cm : Nat → Prop} {X : List Nat} {c : Int32} {Rw Nx Fd Nf : Nat → Int32} (hn : 8 < n) (hi : i ≤ 500) (hp : p < 8) (h : ouP pa cm X c Nx Nf) (hrow : rwI Rw i r) (hfd : Fd i = nI m) (hk : okR r) (hm : rlP pa cm (r ||| 2 ^ (48 + p)) m) : ok (f_JoinOrderModel_stay n (nI i) c Rw Nx Fd Nf) (fun o => ouP pa cm (X ++ [r ||| 2 ^ (48 + p)]) o.1 o.2.1 o.2.2) := by
  have same : ∀ (Y : Nat → Int32) (w : Nat), rwI Y w r → rwI Y w (r ||| 2 ^ (48 + p)) := fun Y w h v hv => by
    rw [h v hv, fld_or, fld_big (r := r) hv, Nat.or_zero]
  rw [f_JoinOrderModel_stay_u]
  refine ok_bn1 (fun Y => ouP pa cm X c Y Nf ∧ (X.length < 500 → rwI Y X.length (r ||| 2 ^ (48 + p)))) ?_ (fun Y hY => ?_)
  · rcases h with ⟨h1, h2, h3⟩ | ⟨h1, h2⟩
    · subst h2
      refine ok_b (500 ≤ X.length) (nI_leI (a := 500) (by decide) (by omega)) (fun g => ok_s ⟨Or.inl ⟨h1, rfl, h3⟩, fun g2 => by omega⟩) (fun g => ?_)
      refine ok_bn1 (fun Y => (∀ w u, w ≠ X.length → u < 8 → Y (8 * w + u) = Nx (8 * w + u)) ∧ rwI Y X.length r) ?_ (fun Y hY => ok_s ⟨Or.inl ⟨h1, rfl, qTb_next h3 hY.1⟩, fun _ => same Y _ hY.2⟩)
      refine lpF (σ := Nat → Int32) (fun f v Y => f_JoinOrderModel_stay_L0 n (nI i) (nI X.length) Rw f Y (nI v)) (fun v Y => (∀ w u, w ≠ X.length → u < 8 → Y (8 * w + u) = Nx (8 * w + u)) ∧ ∀ u, u < v → Y (8 * X.length + u) = nI (fld r u) - 1) 8 _ ?_ ?_ n 0 Nx (by omega) (by omega) ⟨fun _ _ _ _ => rfl, fun u h => by omega⟩
      · intro f Y h
        rw [f_JoinOrderModel_stay_L0_s]
        exact ok_t (nI_le (Nat.le_refl 8) (by decide)) (ok_s h)
      · intro f v Y hv h ih
        rw [f_JoinOrderModel_stay_L0_s]
        refine ok_f (nI_ge hv (by decide)) ?_
        rw [i8, i8]
        refine ok_gd (8 * i + v) rfl (by omega) (by decide) (ok_nm ?_)
        refine ok_gd (8 * X.length + v) rfl (by omega) (by decide) ?_
        rw [nI_clamp (by omega : 8 * i + v < 2 ^ 31), nI_clamp (by omega : 8 * X.length + v < 2 ^ 31), hrow v hv]
        refine ok_nm (ok_nmE (nI_1 v) (ih _ ⟨fun w u hw hu => ?_, fun u hu => ?_⟩))
        · rw [pk_un (by omega)]
          exact h.1 w u hw hu
        · by_cases e : u = v
          · subst e
            rw [pk_us]
          · rw [pk_un (by omega)]
            exact h.2 u (by omega)
    · subst h2
      exact ok_t (by decide) (ok_s ⟨Or.inr ⟨h1, rfl⟩, fun g => by omega⟩)
  · refine ok_gd i rfl (by omega) (by decide) ?_
    rw [nI_clamp (by omega : i < 2 ^ 31), hfd]
    refine ok_bn2 _ (q_come hY.1 hY.2 (okR_miss hk hp) hm) (fun a b h => ok_s h)
theorem bnd_no {sl : Nat → Nat} {t q : Nat} (hs : ∀ k, k < 3 → sl k < 40) : ¬ (bndN sl t 3).testBit (48 + q) = true := fun h => by
  have := bit_ltn (bndN_lt (t := t) hs 3 (Nat.le_refl 3)) h
  omega
def cm1 (cm : Nat → Prop) (p : Nat) : Nat → Prop := fun q => cm q ∨ q = p
theorem rl_mat {pa : Nat → Nat} {cm : Nat → Prop} {sl : Nat → Nat} {p r m t : Nat} (hp : p < 8) (hc : ¬ cm p) (hs : ∀ k, k < 3 → sl k < 40) (h : rlP pa cm r m) : rlP pa (cm1 cm p) (r ||| bndN sl t 3) (m ||| 2 ^ p) := by
  obtain ⟨h1, h2⟩ := h
  refine ⟨or_lt (k := 8) h1 (p2_lt hp), fun q hq => ?_⟩
  obtain ⟨g1, g2, g3⟩ := h2 q hq
  have eb : (r ||| bndN sl t 3).testBit (48 + q) = true ↔ r.testBit (48 + q) = true := by
    rw [bit_or]
    exact ⟨fun h => h.elim id (fun h => absurd h (bnd_no hs)), Or.inl⟩
  have em : (m ||| 2 ^ p).testBit q = true ↔ m.testBit q = true ∨ p = q := by
    rw [bit_or, bit_p2]
  rw [eb, em]
  refine ⟨fun k1 k2 => ?_, fun k1 => ?_, g3⟩
  · rcases k1 with k1 | k1
    · by_cases e : p = q
      · subst e
        exact absurd k1 hc
      · exact ⟨fun k => (g1 k1 k2).mp (k.elim id (fun k => absurd k e)), fun k => Or.inl ((g1 k1 k2).mpr k)⟩
    · subst k1
      exact ⟨fun _ => (g2 hc).2, fun _ => Or.inr rfl⟩
  · have k2 : ¬ cm q := fun k => k1 (Or.inl k)
    have k3 : ¬ p = q := fun k => k1 (Or.inr k.symm)
    exact ⟨fun k => k.elim (g2 k2).1 k3, (g2 k2).2⟩
theorem rl_miss {pa : Nat → Nat} {cm : Nat → Prop} {p r m : Nat} (hc : ¬ cm p) (h0 : pa p ≠ 0) (h : rlP pa cm r m) : rlP pa (cm1 cm p) (r ||| 2 ^ (48 + p)) m := by
  obtain ⟨h1, h2⟩ := h
  refine ⟨h1, fun q hq => ?_⟩
  obtain ⟨g1, g2, g3⟩ := h2 q hq
  rw [bit_or, bit_p2]
  refine ⟨fun k1 k2 => ?_, fun k1 => ?_, fun k1 k2 => ?_⟩
  · rcases k1 with k1 | k1
    · have e : ¬ 48 + p = 48 + q := fun e => by
        have : p = q := by omega
        subst this
        exact hc k1
      exact ⟨fun k k3 => (g1 k1 k2).mp k (k3.elim id (fun k3 => absurd k3 e)), fun k => (g1 k1 k2).mpr (fun k3 => k (Or.inl k3))⟩
    · subst k1
      exact ⟨fun k => absurd k (g2 hc).1, fun k => absurd (Or.inr rfl) k⟩
  · have k2 : ¬ cm q := fun k => k1 (Or.inl k)
    refine ⟨(g2 k2).1, fun k => k.elim (g2 k2).2 (fun k => k1 (Or.inr (by omega)))⟩
  · refine k2.elim (g3 k1) (fun k => ?_)
    have : p = q := by omega
    subst this
    exact h0 k1
theorem matL_app {sl : Nat → Nat} {r : Nat} {A B : List Nat} : matL sl r (A ++ B) = matL sl r A ++ matL sl r B := by
  unfold matL
  rw [List.filter_append, List.map_append]
theorem matL_yes {TL : List Nat} {sl : Nat → Nat} {r j : Nat} (hj : j < TL.length) (h : fitP sl TL[j] ∧ matP sl r TL[j]) : matL sl r ((TL.take (j + 1)).filter (fitB sl)) = matL sl r ((TL.take j).filter (fitB sl)) ++ [r ||| bndN sl TL[j] 3] := by
  rw [take_f hj, if_pos (fitB_iff.mpr h.1), matL_snoc, if_pos (matB_iff.mpr h.2)]
theorem matL_no {TL : List Nat} {sl : Nat → Nat} {r j : Nat} (hj : j < TL.length) (h : ¬ (fitP sl TL[j] ∧ matP sl r TL[j])) : matL sl r ((TL.take (j + 1)).filter (fitB sl)) = matL sl r ((TL.take j).filter (fitB sl)) := by
  rw [take_f hj]
  by_cases h1 : fitP sl TL[j]
  · rw [if_pos (fitB_iff.mpr h1), matL_snoc, if_neg (fun h2 => h ⟨h1, matB_iff.mp h2⟩), List.append_nil]
  · rw [if_neg (fun h2 => h1 (fitB_iff.mp h2)), List.append_nil]
theorem matL_full {TL : List Nat} {sl : Nat → Nat} {r : Nat} (j : Nat) : matL sl r (TL.filter (fitB sl)) = matL sl r ((TL.take j).filter (fitB sl)) ++ matL sl r ((TL.drop j).filter (fitB sl)) := by
  rw [← matL_app, ← List.filter_append, List.take_append_drop]
theorem q_go1 {n i p m r : Nat} {pa : Nat → Nat} {cm : Nat → Prop} {sl : Nat → Nat} {TL X : List Nat} {c : Int32} {Rw Nx Fd Nf C F : Nat → Int32} (hn : 80 < n) (hi : i ≤ 500) (hp : p < 8) (hl : TL.length ≤ 80) (hcm : ¬ cm p) (hX : X.length ≤ 500) (h : ouP pa (cm1 cm p) X c Nx Nf) (hrow : rwI Rw i r) (hfd : Fd i = nI m) (hk : okR r) (hm : rlP pa cm r m) (hC : ceH C p sl) (hF : QA TL F) :
    ok (f_JoinOrderModel_go_L1 n (nI p) (nI TL.length) Fd Rw C F (nI i) (1 : Int32) n c Nx Nf (0 : Int32) (0 : Int32)) (fun o => ouP pa (cm1 cm p) (X ++ matL sl r (TL.filter (fitB sl))) o.1 o.2.1 o.2.2.1 ∧ tf o.2.2.2 (matL sl r (TL.filter (fitB sl)) ≠ [])) := by
  have hs : ∀ k, k < 3 → sl k < 40 := fun k hk => (hC k hk).1
  refine lpF (σ := Int32 × (Nat → Int32) × (Nat → Int32) × Int32) (fun f j s => f_JoinOrderModel_go_L1 n (nI p) (nI TL.length) Fd Rw C F (nI i) (1 : Int32) f s.1 s.2.1 s.2.2.1 s.2.2.2 (nI j)) (fun j s => ouP pa (cm1 cm p) (X ++ matL sl r ((TL.take j).filter (fitB sl))) s.1 s.2.1 s.2.2.1 ∧ tf s.2.2.2 (matL sl r ((TL.take j).filter (fitB sl)) ≠ [])) TL.length _ ?_ ?_ n 0 (c, Nx, Nf, 0) (by omega) (by omega) ⟨by
    show ouP pa (cm1 cm p) (X ++ []) c Nx Nf
    rw [List.append_nil]
    exact h, tf_f (fun h => h rfl)⟩
  · intro f s hI
    rw [f_JoinOrderModel_go_L1_s]
    rw [List.take_length] at hI
    exact ok_t (nI_le (Nat.le_refl _) (by omega)) (ok_s hI)
  · intro f j s hj hI ih
    obtain ⟨c, Y, G, x4⟩ := s
    obtain ⟨h1, h2⟩ := hI
    simp only at h1 h2
    rw [f_JoinOrderModel_go_L1_s]
    dsimp only
    refine ok_f (nI_ge hj (by omega)) (ok_f (by decide) ?_)
    rcases h1 with ⟨g1, g2, g3⟩ | ⟨g1, g2⟩
    · subst g2
      refine ok_f (nI_nlt (a := 500) g1 (by decide)) ?_
      have hx := List.getElem?_eq_getElem hj
      refine ok_bn2 _ (q_cby (by omega) hi hp (by omega) g1 hrow hC (hF j _ hx)) (fun z Y2 hz => ?_)
      obtain ⟨z1, z2⟩ := hz
      simp only at z1 z2
      rcases z2 with ⟨z2, z3⟩ | ⟨z2, z3, z4⟩
      · subst z2
        refine ok_t rfl (ok_nmE (nI_1 j) (ih (nI _, Y2, G, x4) ?_))
        rw [matL_no hj z3]
        exact ⟨Or.inl ⟨g1, rfl, qTb_next g3 z1⟩, h2⟩
      · subst z2
        refine ok_f (by decide) ?_
        refine ok_gd i rfl (by omega) (by decide) ?_
        rw [nI_clamp (by omega : i < 2 ^ 31), hfd, m_sh (by omega), m_or]
        refine ok_bn2 _ (q_come (Or.inl ⟨g1, rfl, qTb_next g3 z1⟩) (fun _ => z4) (okR_bnd hs hk z3.1 z3.2) (rl_mat hp hcm hs hm)) (fun a b h5 => ?_)
        refine ok_nmE (nI_1 j) (ih (a, Y2, b, 1) ?_)
        rw [matL_yes hj z3]
        refine ⟨?_, tf_t (fun h => ?_)⟩
        · rw [← List.append_assoc]
          exact h5
        · exact absurd h (by simp)
    · subst g2
      refine ok_t (by decide) (ok_s ?_)
      have hfu := matL_full (TL := TL) (sl := sl) (r := r) j
      rw [hfu]
      refine ⟨Or.inr ⟨?_, rfl⟩, tf_iff h2 ⟨fun h3 h4 => h3 (List.append_eq_nil_iff.mp h4).1, fun h3 h4 => ?_⟩⟩
      · rw [← List.append_assoc, List.length_append]
        omega
      · rw [h4, List.append_nil] at g1
        omega
