/-! run, of the reference -/
theorem bit0 (q : Nat) : ¬ (0 : Nat).testBit q = true := fun h => by
  rw [Nat.zero_testBit] at h
  exact absurd h Bool.false_ne_true
theorem q_start {n : Nat} {pa : Nat → Nat} {cm : Nat → Prop} {Fd Rw : Nat → Int32} (hn : 8 < n) (hc : ∀ q, ¬ cm q) : ok (f_JoinOrderModel_start n Fd Rw) (fun o => o.1 = 1 ∧ qTb pa cm [0] o.2.2 o.2.1) := by
  rw [f_JoinOrderModel_start_u]
  refine ok_nm (ok_bn1 (fun Y => ∀ v, v < 8 → Y v = -1) ?_ (fun Y hY => ok_s ⟨rfl, fun i r hi => ?_⟩))
  · refine lpF (σ := Nat → Int32) (fun f v Y => f_JoinOrderModel_start_L0 n f Y (nI v)) (fun v Y => ∀ u, u < v → Y u = -1) 8 _ ?_ ?_ n 0 Rw (by omega) (by omega) (fun u h => by omega)
    · intro f Y h
      rw [f_JoinOrderModel_start_L0_s]
      exact ok_t (nI_le (Nat.le_refl 8) (by decide)) (ok_s h)
    · intro f v Y hv h ih
      rw [f_JoinOrderModel_start_L0_s]
      refine ok_f (nI_ge hv (by decide)) ?_
      refine ok_gd v rfl (by omega) (by decide) ?_
      rw [nI_clamp (by omega : v < 2 ^ 31)]
      refine ok_nm (ok_nmE (nI_1 v) (ih _ (fun u hu => ?_)))
      by_cases e : u = v
      · subst e
        rw [pk_us]
      · rw [pk_un e]
        exact h u (by omega)
  · have hi0 : i = 0 ∧ r = 0 := by
      cases i with
      | zero => exact ⟨rfl, (Option.some.inj hi).symm⟩
      | succ i => cases hi
    obtain ⟨e1, e2⟩ := hi0
    subst e1 e2
    refine ⟨⟨by decide, fun v _ => by rw [fld_0]; omega⟩, fun v hv => ?_, 0, show upd Fd 0 (nI 0) 0 = nI 0 from pk_us, by omega, fun q _ => ⟨fun h => absurd h (hc q), fun _ => ⟨bit0 q, bit0 _⟩, fun _ => bit0 _⟩⟩
    rw [Nat.mul_zero, Nat.zero_add, fld_0]
    exact hY v hv
def cmS (po : Nat → Nat) (i : Nat) : Nat → Prop := fun q => ∃ j, j < i ∧ po j = q
theorem cmS_s {po : Nat → Nat} {i : Nat} : cm1 (cmS po i) (po i) = cmS po (i + 1) := by
  funext q
  apply propext
  constructor
  · rintro (⟨j, h1, h2⟩ | h)
    · exact ⟨j, by omega, h2⟩
    · exact ⟨i, by omega, h.symm⟩
  · rintro ⟨j, h1, h2⟩
    by_cases e : j = i
    · subst e
      exact Or.inr h2.symm
    · exact Or.inl ⟨j, by omega, h2⟩
def OD (np : Nat) (pa po : Nat → Nat) : Prop := ∀ i, i < np → po i < np ∧ ¬ cmS po i (po i) ∧ (pa (po i) ≠ 0 → cmS po i (pa (po i) - 1))
noncomputable def rnN (TL : List Nat) (np : Nat) (sl : Nat → Nat → Nat) (pa : Nat → Nat) (nf : Nat) (fv fk fx po pm : Nat → Nat) : Nat → Option (List Nat)
  | 0 => some [0]
  | i + 1 => siftR nf fv fk fx (pm i) (joinR (sl (po i)) (pa (po i)) (po i) (MN TL np sl (po i)) (rnN TL np sl pa nf fv fk fx po pm i))
theorem rnN_none {TL : List Nat} {np : Nat} {sl : Nat → Nat → Nat} {pa : Nat → Nat} {nf : Nat} {fv fk fx po pm : Nat → Nat} {i : Nat} (h : rnN TL np sl pa nf fv fk fx po pm i = none) : ∀ k, i ≤ k → rnN TL np sl pa nf fv fk fx po pm k = none := by
  intro k
  induction k with
  | zero =>
    intro hk
    have e : i = 0 := by omega
    subst e
    exact h
  | succ k ih =>
    intro hk
    by_cases e : i = k + 1
    · exact e ▸ h
    · show siftR nf fv fk fx (pm k) (joinR (sl (po k)) (pa (po k)) (po k) (MN TL np sl (po k)) (rnN TL np sl pa nf fv fk fx po pm k)) = none
      rw [ih (by omega)]
      rfl
noncomputable def runR (TL : List Nat) (np : Nat) (sl : Nat → Nat → Nat) (pa : Nat → Nat) (nf : Nat) (fv fk fx po pm : Nat → Nat) : Option (List Nat) := if np = 0 then siftR nf fv fk fx (2 ^ nf - 1) (some [0]) else rnN TL np sl pa nf fv fk fx po pm np
def ansR (R : Option (List Nat)) : Int32 := match R with
  | none => -4
  | some L => nI L.length
def QB (R : Option (List Nat)) (kept room : Int32) (keep : Nat → Int32) : Prop := (R = none ∧ kept = 0 ∧ room = 0) ∨ (∃ L, R = some L ∧ L.length ≤ 500 ∧ kept = nI L.length ∧ room = 1 ∧ qR keep L)
theorem q_run0 {n np nf sf : Nat} {TL : List Nat} {sl : Nat → Nat → Nat} {pa fv fk fx po pb pm : Nat → Nat} {cs : Int32} {C F Of Lk X K Z O Bh Fd Rw Nx Nf : Nat → Int32} (hn : 4000 < n) (hnp : np ≤ 8) (hl : TL.length ≤ 80) (hC : ∀ p, p < np → ceH C p (sl p)) (hFa : QA TL F) (hO : ∀ p, p < np → pa p ≤ np ∧ Of p = nI (pa p) - 1) (hF : QF nf fv fk fx sf (nI nf) Lk K X Z) (hod : OD np pa po) (ho : ∀ i, i < np → O i = nI (po i)) (hb : 0 < np → ∀ f, f < nf → Bh f = nI (pb f) ∧ pb f < 8) (hpm : ∀ i, i < np → ∀ f, f < nf → ((pm i).testBit f = true ↔ pb f = i)) (h : qTb pa (cmS po 0) [0] Rw Fd) :
    ok (f_JoinOrderModel_run_L0 n (nI TL.length) (nI nf) C F Of Lk X K (nI np) O Bh n (1 : Int32) cs (1 : Int32) Fd Rw Nx Nf (0 : Int32)) (fun o => qTR pa (cmS po np) (rnN TL np sl pa nf fv fk fx po pm np) o.2.2.1 o.1 o.2.2.2.2.1 o.2.2.2.1) := by
  refine lpF (σ := Int32 × Int32 × Int32 × (Nat → Int32) × (Nat → Int32) × (Nat → Int32) × (Nat → Int32)) (fun f i s => f_JoinOrderModel_run_L0 n (nI TL.length) (nI nf) C F Of Lk X K (nI np) O Bh f s.1 s.2.1 s.2.2.1 s.2.2.2.1 s.2.2.2.2.1 s.2.2.2.2.2.1 s.2.2.2.2.2.2 (nI i)) (fun i s => qTR pa (cmS po i) (rnN TL np sl pa nf fv fk fx po pm i) s.2.2.1 s.1 s.2.2.2.2.1 s.2.2.2.1) np _ ?_ ?_ n 0 (1, cs, 1, Fd, Rw, Nx, Nf) (by omega) (by omega) (Or.inr ⟨[0], rfl, rfl, by decide, rfl, h⟩)
  · intro f s hI
    rw [f_JoinOrderModel_run_L0_s]
    exact ok_t (nI_le (Nat.le_refl _) (by omega)) (ok_s hI)
  · intro f i s hi hI ih
    obtain ⟨rs, c, rm, Fd2, Rw2, Nx2, Nf2⟩ := s
    simp only at hI
    rw [f_JoinOrderModel_run_L0_s]
    dsimp only
    refine ok_f (nI_ge hi (by omega)) ?_
    rcases hI with ⟨h1, h2⟩ | ⟨L, h1, h2, h3, h4, h5⟩
    · subst h2
      exact ok_t rfl (ok_s (Or.inl ⟨rnN_none h1 np (by omega), rfl⟩))
    · subst h2
      subst h4
      refine ok_f (by decide) ?_
      refine ok_gd i rfl (by omega) (by decide) ?_
      obtain ⟨d1, d2, d3⟩ := hod i hi
      rw [nI_clamp (by omega : i < 2 ^ 31), ho i hi]
      have er : rnN TL np sl pa nf fv fk fx po pm (i + 1) = siftR nf fv fk fx (pm i) (joinR (sl (po i)) (pa (po i)) (po i) (TL.filter (fitB (sl (po i)))) (some L)) := by
        show siftR nf fv fk fx (pm i) (joinR (sl (po i)) (pa (po i)) (po i) (MN TL np sl (po i)) (rnN TL np sl pa nf fv fk fx po pm i)) = _
        rw [h1, MN_at d1]
      rw [er] at ih
      refine ok_bn7 _ (q_go hn hnp d1 hl h3 d2 d3 h5 (hC _ d1) hFa hO) (fun r rs2 c2 Fd3 Rw3 Nx3 Nf3 h6 => ?_)
      simp only at h6
      rw [cmS_s] at h6
      rcases h6 with ⟨g1, g2⟩ | ⟨L2, g1, g2, g3, g4, g5⟩
      · subst g2
        rw [g1] at ih
        refine ok_bn3 (fun o => o = (rs2, Fd3, Rw3)) ?_ (fun a b d h7 => ?_)
        · cases n with
          | zero => omega
          | succ k => exact ok_e (q_siftn k)
        · cases h7
          exact ok_nmE (nI_1 i) (ih (rs2, c2, 0, Fd3, Rw3, Nx3, Nf3) (Or.inl ⟨rfl, rfl⟩))
      · subst g2
        subst g4
        rw [g1] at ih
        refine ok_bn3 _ (q_sifts (set := pm i) (pb := pb) (by omega) (by omega) g3 hF (fun f hf => ⟨(hb (by omega) f hf).1, (hb (by omega) f hf).2, hpm i hi f hf⟩) g5) (fun a b d h7 => ?_)
        exact ok_nmE (nI_1 i) (ih (a, c2, 1, b, d, Nx3, Nf3) (Or.inr ⟨_, rfl, rfl, Nat.le_trans (List.length_filter_le _ _) g3, h7.1, h7.2⟩))
theorem q_keep {n c : Nat} {Rw Kp : Nat → Int32} (hn : 4000 < n) (hc : c ≤ 500) : ok (f_JoinOrderModel_run_L3 n Rw (nI c) n Kp (0 : Int32)) (fun Y => ∀ x, x < 8 * c → Y x = Rw x) := by
  refine lpF (σ := Nat → Int32) (fun f x Y => f_JoinOrderModel_run_L3 n Rw (nI c) f Y (nI x)) (fun x Y => ∀ y, y < x → Y y = Rw y) (8 * c) _ ?_ ?_ n 0 Kp (by omega) (by omega) (fun y h => by omega)
  · intro f Y h
    rw [f_JoinOrderModel_run_L3_s, show (8 : Int32) * nI c = nI (8 * c) from pk_mul 8 c]
    exact ok_t (nI_le (Nat.le_refl _) (by omega)) (ok_s h)
  · intro f x Y hx h ih
    rw [f_JoinOrderModel_run_L3_s, show (8 : Int32) * nI c = nI (8 * c) from pk_mul 8 c]
    refine ok_f (nI_ge hx (by omega)) ?_
    refine ok_gd x rfl (by omega) (by decide) (ok_nm ?_)
    rw [nI_clamp (by omega : x < 2 ^ 31)]
    refine ok_nm (ok_nmE (nI_1 x) (ih _ (fun y hy => ?_)))
    by_cases e : y = x
    · subst e
      rw [pk_us]
    · rw [pk_un e]
      exact h y (by omega)
theorem all_bits {nf : Nat} : ∀ f, f < nf → (2 ^ nf - 1).testBit f = true := fun f hf => by
  rw [Nat.testBit_two_pow_sub_one]
  exact decide_eq_true hf
theorem at_lt_len {L : List Nat} {i r : Nat} (h : L[i]? = some r) : i < L.length := by
  rcases Nat.lt_or_ge i L.length with h1 | h1
  · exact h1
  · rw [List.getElem?_eq_none h1] at h
    cases h
