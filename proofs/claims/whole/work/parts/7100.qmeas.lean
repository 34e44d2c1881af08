/-! measure, of the reference -/
noncomputable def rsN (M : List Nat) (sl : Nat → Nat) (v : Nat) : Nat := @ite _ (hasV sl v) (Classical.propDecidable _) (sprN M sl v) 0
theorem slv_m1 {i : Nat} : (-1 : Int32) - nI i = slv (32 + i) := by
  unfold slv
  rw [if_neg (by omega), show 32 + i - 32 = i by omega]
def QA (TL : List Nat) (F : Nat → Int32) : Prop := ∀ (i t : Nat), TL[i]? = some t → faH F i t
theorem take_f {TL : List Nat} {B : Nat → Bool} {i : Nat} (hi : i < TL.length) : (TL.take (i + 1)).filter B = (TL.take i).filter B ++ (if B TL[i] = true then [TL[i]] else []) := by
  rw [List.take_succ_eq_append_getElem hi, filter_snoc]
theorem q_meas0 {n p : Nat} {TL : List Nat} {sl : Nat → Nat} {C F : Nat → Int32} (hn : 80 < n) (hp : p < 8) (hl : TL.length ≤ 80) (hC : ceH C p sl) (hF : QA TL F) : f_JoinOrderModel_measure_L0 n (nI p) (nI TL.length) C F n (0 : Int32) (0 : Int32) = some (nI (TL.filter (fitB sl)).length) := by
  apply ok_eq
  refine lpF (σ := Int32) (fun f i x => f_JoinOrderModel_measure_L0 n (nI p) (nI TL.length) C F f x (nI i)) (fun i x => x = nI ((TL.take i).filter (fitB sl)).length) TL.length _ ?_ ?_ n 0 (0 : Int32) (by omega) (by omega) rfl
  · intro f x h
    rw [f_JoinOrderModel_measure_L0_s]
    rw [List.take_length] at h
    exact ok_t (nI_le (Nat.le_refl _) (by omega)) (ok_s h)
  · intro f i x hi h ih
    subst h
    rw [f_JoinOrderModel_measure_L0_s]
    refine ok_f (nI_ge hi (by omega)) ?_
    refine ok_bn1 _ (q_matches (by omega) hp (by omega) hC (hF i _ (List.getElem?_eq_getElem hi))) (fun z hz => ?_)
    rw [take_f hi] at ih
    refine ok_b _ (tf_0 hz) (fun g => ?_) (fun g => ?_)
    · rw [if_neg (fun e => g (fitB_iff.mp e)), List.append_nil] at ih
      exact ok_nmE (nI_1 i) (ih _ rfl)
    · rw [if_pos (fitB_iff.mpr (Classical.not_not.mp g)), List.length_append] at ih
      refine ok_nm (ok_nmE (nI_1 i) (ih _ ?_))
      exact nI_1 _
theorem q_clear {n : Nat} {X : Nat → Int32} (hn : 32 < n) : ok (f_JoinOrderModel_measure_L2 n n X (0 : Int32)) (fun Y => ∀ j, j < 32 → Y j = 0) := by
  refine lpF (σ := Nat → Int32) (fun f i Y => f_JoinOrderModel_measure_L2 n f Y (nI i)) (fun i Y => ∀ j, j < i → Y j = 0) 32 _ ?_ ?_ n 0 X (by omega) (by omega) (fun j h => by omega)
  · intro f Y h
    rw [f_JoinOrderModel_measure_L2_s]
    exact ok_t (nI_le (Nat.le_refl 32) (by decide)) (ok_s h)
  · intro f i Y hi h ih
    rw [f_JoinOrderModel_measure_L2_s]
    refine ok_f (nI_ge hi (by decide)) ?_
    refine ok_gd i rfl hi (by decide) ?_
    rw [nI_clamp (by omega : i < 2 ^ 31), nar_01 (Or.inl rfl)]
    refine ok_nm (ok_nmE (nI_1 i) (ih _ (fun j hj => ?_)))
    by_cases e : j = i
    · subst e
      rw [pk_us]
    · rw [pk_un e]
      exact h j (by omega)
def seI (TL : List Nat) (sl : Nat → Nat) (k i m : Nat) : Prop := m < 2 ^ 32 ∧ ∀ j, j < 32 → (m.testBit j = true ↔ ∃ x, x ∈ (TL.take i).filter (fitB sl) ∧ prt x k = j)
theorem q_meas3 {n p k : Nat} {TL : List Nat} {sl : Nat → Nat} {C F X : Nat → Int32} (hn : 80 < n) (hp : p < 8) (hk : k < 3) (hl : TL.length ≤ 80) (hC : ceH C p sl) (hF : QA TL F) (hX : ∀ j, j < 32 → X j = 0) : ok (f_JoinOrderModel_measure_L3 n (nI p) (nI TL.length) C F (nI k) n X (0 : Int32) (0 : Int32)) (fun o => o.2 = nI (popc (seenM (TL.filter (fitB sl)) k) 32)) := by
  refine lpF (σ := (Nat → Int32) × Int32) (fun f i s => f_JoinOrderModel_measure_L3 n (nI p) (nI TL.length) C F (nI k) f s.1 s.2 (nI i)) (fun i s => ∃ m, seI TL sl k i m ∧ s.2 = nI (popc m 32) ∧ ∀ j, j < 32 → tf (s.1 j) (m.testBit j = true)) TL.length _ ?_ ?_ n 0 (X, 0) (by omega) (by omega) ⟨0, ⟨by decide, fun j _ => ⟨fun h => by rw [Nat.zero_testBit] at h; exact absurd h Bool.false_ne_true, fun ⟨x, hx, _⟩ => by simp at hx⟩⟩, by rw [popc_0]; rfl, fun j hj => by
    show tf (X j) _
    rw [hX j hj]
    exact tf_f (fun h => by rw [Nat.zero_testBit] at h; exact absurd h Bool.false_ne_true)⟩
  · intro f s hI
    obtain ⟨m, ⟨h1, h2⟩, h3, h4⟩ := hI
    rw [f_JoinOrderModel_measure_L3_s]
    refine ok_t (nI_le (Nat.le_refl _) (by omega)) (ok_s ?_)
    show s.2 = _
    rw [List.take_length] at h2
    have em : m = seenM (TL.filter (fitB sl)) k := bit_ext 32 h1 (mkS_lt _ 32) (fun i hi => (h2 i hi).trans ((mkS_bit (fun t => ∃ x, x ∈ TL.filter (fitB sl) ∧ prt x k = t) i 32).trans ⟨fun h => h.2, fun h => ⟨hi, h⟩⟩).symm)
    rw [h3, em]
  · intro f i s hi hI ih
    obtain ⟨X, c⟩ := s
    obtain ⟨m, ⟨h1, h2⟩, h3, h4⟩ := hI
    simp only at h3 h4
    subst h3
    rw [f_JoinOrderModel_measure_L3_s]
    dsimp only
    refine ok_f (nI_ge hi (by omega)) ?_
    refine ok_f (nI_pos (by omega)) ?_
    have hx := List.getElem?_eq_getElem hi
    refine ok_bn1 _ (q_matches (by omega) hp (by omega) hC (hF i _ hx)) (fun z hz => ?_)
    have et := take_f (B := fitB sl) hi
    refine ok_b _ (tf_0 hz) (fun g => ?_) (fun g => ?_)
    · rw [if_neg (fun e => g (fitB_iff.mp e)), List.append_nil] at et
      refine ok_nmE (nI_1 i) (ih (X, nI (popc m 32)) ⟨m, ⟨h1, ?_⟩, rfl, h4⟩)
      rw [et]
      exact h2
    · rw [if_pos (fitB_iff.mpr (Classical.not_not.mp g))] at et
      have hpl := prt_lt TL[i] k
      rw [i3]
      refine ok_gd (3 * i + k) rfl (by omega) (by decide) ?_
      rw [nI_clamp (by omega : 3 * i + k < 2 ^ 31), hF i _ hx k hk]
      refine ok_gd (prt TL[i] k) rfl (by omega) (by decide) ?_
      rw [nI_clamp (by omega : prt TL[i] k < 2 ^ 31), nar_01 (Or.inr rfl)]
      have mem : ∀ j, (∃ x, x ∈ (TL.take (i + 1)).filter (fitB sl) ∧ prt x k = j) ↔ (∃ x, x ∈ (TL.take i).filter (fitB sl) ∧ prt x k = j) ∨ prt TL[i] k = j := fun j => by
        rw [et]
        constructor
        · rintro ⟨x, hx1, hx2⟩
          rcases List.mem_append.mp hx1 with hx1 | hx1
          · exact Or.inl ⟨x, hx1, hx2⟩
          · rw [List.mem_singleton] at hx1
            exact Or.inr (hx1 ▸ hx2)
        · rintro (⟨x, hx1, hx2⟩ | hx2)
          · exact ⟨x, List.mem_append.mpr (Or.inl hx1), hx2⟩
          · exact ⟨TL[i], List.mem_append.mpr (Or.inr (List.mem_singleton.mpr rfl)), hx2⟩
      refine ok_b _ (tf_0 (h4 _ hpl)) (fun g2 => ?_) (fun g2 => ?_)
      · refine ok_nm (ok_nm (ok_nmE (nI_1 i) (ih (upd X (prt TL[i] k) 1, nI (popc m 32) + 1) ⟨m ||| 2 ^ prt TL[i] k, ⟨or_lt h1 (p2_lt hpl), fun j hj => ?_⟩, ?_, fun j hj => ?_⟩)))
        · rw [bit_or, bit_p2, h2 j hj]
          exact (mem j).symm
        · rw [popc_or g2 32 hpl]
          exact nI_1 _
        · simp only
          by_cases e : j = prt TL[i] k
          · subst e
            rw [pk_us]
            exact tf_t ((bit_or _ _ _).mpr (Or.inr ((bit_p2 _ _).mpr rfl)))
          · rw [pk_un e]
            refine tf_iff (h4 j hj) ?_
            rw [bit_or, bit_p2]
            exact ⟨Or.inl, fun h => h.elim id (fun e2 => absurd e2.symm e)⟩
      · refine ok_nmE (nI_1 i) (ih (X, nI (popc m 32)) ⟨m, ⟨h1, fun j hj => ?_⟩, rfl, h4⟩)
        have g2 := Classical.not_not.mp g2
        rw [mem j]
        exact (h2 j hj).trans ⟨Or.inl, fun h => h.elim id (fun e => (h2 j hj).mp (e ▸ g2))⟩
theorem q_meas3n {n : Nat} {x1 T c i : Int32} {C F X : Nat → Int32} (k : Nat) : ok (f_JoinOrderModel_measure_L3 n x1 T C F (-1) (k + 1) X c i) (fun _ => True) := by
  rw [f_JoinOrderModel_measure_L3_s]
  exact ok_if (fun _ => ok_s trivial) (fun _ => ok_t (by decide) (ok_s trivial))
theorem q_meas1 {n p : Nat} {TL : List Nat} {sl : Nat → Nat} {C F X Q : Nat → Int32} (hn : 80 < n) (hp : p < 8) (hl : TL.length ≤ 80) (hC : ceH C p sl) (hF : QA TL F) : ok (f_JoinOrderModel_measure_L1 n (nI p) (nI TL.length) C F n X Q (0 : Int32)) (fun o => (∀ v, v < 8 → o.2 (8 * p + v) = nI (rsN (TL.filter (fitB sl)) sl v)) ∧ ∀ q v, q ≠ p → v < 8 → o.2 (8 * q + v) = Q (8 * q + v)) := by
  refine lpF (σ := (Nat → Int32) × (Nat → Int32)) (fun f i s => f_JoinOrderModel_measure_L1 n (nI p) (nI TL.length) C F f s.1 s.2 (nI i)) (fun i s => (∀ v, v < i → s.2 (8 * p + v) = nI (rsN (TL.filter (fitB sl)) sl v)) ∧ ∀ q v, q ≠ p → v < 8 → s.2 (8 * q + v) = Q (8 * q + v)) 8 _ ?_ ?_ n 0 (X, Q) (by omega) (by omega) ⟨fun v h => by omega, fun _ _ _ _ => rfl⟩
  · intro f s hI
    rw [f_JoinOrderModel_measure_L1_s]
    exact ok_t (nI_le (Nat.le_refl 8) (by decide)) (ok_s hI)
  · intro f i s hi hI ih
    obtain ⟨Y, Z⟩ := s
    obtain ⟨k1, k2⟩ := hI
    simp only at k1 k2
    rw [f_JoinOrderModel_measure_L1_s]
    dsimp only
    refine ok_f (nI_ge hi (by decide)) ?_
    rw [slv_m1]
    refine ok_bn1 _ (q_placeOf (by omega) hp hi hC) (fun r hr => ?_)
    refine ok_bn1 _ (q_clear (by omega)) (fun Y2 hY2 => ?_)
    have fin : ∀ (c : Nat), c = rsN (TL.filter (fitB sl)) sl i → (∀ v, v < i + 1 → upd Z (8 * p + i) (nI c) (8 * p + v) = nI (rsN (TL.filter (fitB sl)) sl v)) ∧ ∀ q v, q ≠ p → v < 8 → upd Z (8 * p + i) (nI c) (8 * q + v) = Q (8 * q + v) := fun c e2 => by
      refine ⟨fun v hv => ?_, fun q v hq hv => ?_⟩
      · by_cases e : v = i
        · subst e
          rw [pk_us, e2]
        · rw [pk_un (by omega)]
          exact k1 v (by omega)
      · rw [pk_un (by omega)]
        exact k2 q v hq hv
    rcases hr with ⟨h1, h2⟩ | ⟨h1, h2, h3, h4⟩
    · subst h1
      refine ok_bn2 (fun _ => True) ?_ (fun Y3 c _ => ?_)
      · cases n with
        | zero => omega
        | succ k => exact q_meas3n k
      refine ok_f (by decide) ?_
      rw [i8]
      refine ok_gd (8 * p + i) rfl (by omega) (by decide) ?_
      rw [nI_clamp (by omega : 8 * p + i < 2 ^ 31)]
      exact ok_nm (ok_nmE (nI_1 i) (ih (Y3, upd Z (8 * p + i) 0) (fin 0 (by unfold rsN; rw [if_neg h2]))))
    · subst h4
      refine ok_bn2 _ (q_meas3 hn hp h2 hl hC hF hY2) (fun Y3 c hc => ?_)
      simp only at hc
      subst hc
      have hle := popc_le (seenM (TL.filter (fitB sl)) (plc sl i)) 32
      have er : rsN (TL.filter (fitB sl)) sl i = max 1 (popc (seenM (TL.filter (fitB sl)) (plc sl i)) 32) := by
        unfold rsN
        rw [if_pos h1]
        rfl
      refine ok_t (nI_pos' (by omega)) ?_
      refine ok_b (popc (seenM (TL.filter (fitB sl)) (plc sl i)) 32 ≤ 0) (nI_leI (b := 0) (by omega) (by omega)) (fun g => ?_) (fun g => ?_)
      · rw [i8]
        refine ok_gd (8 * p + i) rfl (by omega) (by decide) ?_
        rw [nI_clamp (by omega : 8 * p + i < 2 ^ 31)]
        exact ok_nm (ok_nmE (nI_1 i) (ih (Y3, upd Z (8 * p + i) 1) (fin 1 (by rw [er]; omega))))
      · rw [i8]
        refine ok_gd (8 * p + i) rfl (by omega) (by decide) ?_
        rw [nI_clamp (by omega : 8 * p + i < 2 ^ 31)]
        exact ok_nm (ok_nmE (nI_1 i) (ih (Y3, upd Z (8 * p + i) (nI (popc (seenM (TL.filter (fitB sl)) (plc sl i)) 32))) (fin _ (by rw [er]; omega))))
theorem q_meas {n p td : Nat} {TL : List Nat} {sl : Nat → Nat} {C F Td Qz X Q : Nat → Int32} (hn : 80 < n) (hp : p < 8) (hl : TL.length ≤ 80) (hC : ceH C p sl) (hF : QA TL F) (htd : td ≤ 101) (hT : Td p = nI td - 1) : ok (f_JoinOrderModel_measure n (nI p) (nI TL.length) C F Td Qz X Q) (fun o => o.1 = upd Qz p (nI (szN (TL.filter (fitB sl)) td)) ∧ (∀ v, v < 8 → o.2.2 (8 * p + v) = nI (rsN (TL.filter (fitB sl)) sl v)) ∧ ∀ q v, q ≠ p → v < 8 → o.2.2 (8 * q + v) = Q (8 * q + v)) := by
  rw [f_JoinOrderModel_measure_u]
  refine ok_bn1 _ (ok_e (q_meas0 hn hp hl hC hF)) (fun z e => ?_)
  subst e
  refine ok_gd p rfl hp (by decide) ?_
  rw [nI_clamp (by omega : p < 2 ^ 31), hT]
  refine ok_bn1 (fun z => z = nI (szN (TL.filter (fitB sl)) td)) ?_ (fun z e => ?_)
  · by_cases h0 : td = 0
    · subst h0
      exact ok_t (by decide) (ok_s (by rw [show szN (TL.filter (fitB sl)) 0 = (TL.filter (fitB sl)).length from if_pos rfl]))
    · rw [pa_v h0]
      exact ok_f (nI_pos (by omega)) (ok_s (by rw [show szN (TL.filter (fitB sl)) td = td - 1 from if_neg h0]))
  · subst e
    exact ok_nm (ok_bn2 _ (q_meas1 hn hp hl hC hF) (fun a b h => ok_s ⟨rfl, h⟩))
theorem q_measA {n np : Nat} {TL : List Nat} {sl : Nat → Nat → Nat} {td : Nat → Nat} {C F Td Qz X Q : Nat → Int32} (hn : 80 < n) (hnp : np ≤ 8) (hl : TL.length ≤ 80) (hC : ∀ p, p < np → ceH C p (sl p)) (hF : QA TL F) (htd : ∀ p, p < np → td p ≤ 101 ∧ Td p = nI (td p) - 1) : ok (f_JoinOrderModel_plan_L0 n (nI TL.length) (nI np) C F Td n Qz X Q (0 : Int32)) (fun o => QM np (fun p => szN (TL.filter (fitB (sl p))) (td p)) (fun p v => rsN (TL.filter (fitB (sl p))) (sl p) v) o.1 o.2.2) := by
  refine lpF (σ := (Nat → Int32) × (Nat → Int32) × (Nat → Int32)) (fun f i s => f_JoinOrderModel_plan_L0 n (nI TL.length) (nI np) C F Td f s.1 s.2.1 s.2.2 (nI i)) (fun i s => QM i (fun p => szN (TL.filter (fitB (sl p))) (td p)) (fun p v => rsN (TL.filter (fitB (sl p))) (sl p) v) s.1 s.2.2) np _ ?_ ?_ n 0 (Qz, X, Q) (by omega) (by omega) ⟨fun p h => by omega, fun p h => by omega⟩
  · intro f s hI
    rw [f_JoinOrderModel_plan_L0_s]
    exact ok_t (nI_le (Nat.le_refl _) (by omega)) (ok_s hI)
  · intro f i s hi hI ih
    obtain ⟨A, B, D⟩ := s
    obtain ⟨k1, k2⟩ := hI
    simp only at k1 k2
    rw [f_JoinOrderModel_plan_L0_s]
    dsimp only
    refine ok_f (nI_ge hi (by omega)) ?_
    refine ok_bn3 _ (q_meas hn (by omega) hl (hC i hi) hF (htd i hi).1 (htd i hi).2) (fun a b c h => ?_)
    obtain ⟨h1, h2, h3⟩ := h
    simp only at h1 h2 h3
    subst h1
    refine ok_nmE (nI_1 i) (ih (upd A i (nI (szN (TL.filter (fitB (sl i))) (td i))), b, c) ⟨fun p hp => ?_, fun p hp v hv => ?_⟩)
    · simp only
      by_cases e : p = i
      · subst e
        rw [pk_us]
      · rw [pk_un e]
        exact k1 p (by omega)
    · simp only
      by_cases e : p = i
      · subst e
        exact h2 v hv
      · rw [h3 p v e hv]
        exact k2 p (by omega) v hv
