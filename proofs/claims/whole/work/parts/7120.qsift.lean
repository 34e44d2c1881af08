/-! holds and sift, of the reference -/
theorem q_holds {f k x c : Nat} {K X : Nat → Int32} (hf : f < 8) (hk : k < 4) (hx : x < 32) (hc : c < 64) (eK : K f = nI k) (eX : X f = nI x) : ok (f_JoinOrderModel_holds (nI f) (nI c - 1) X K) (fun o => tf o (hldP k x c)) := by
  rw [f_JoinOrderModel_holds_u]
  refine ok_gd f rfl hf (by decide) (ok_nm ?_)
  rw [nI_clamp (by omega : f < 2 ^ 31), eK, eX]
  by_cases c0 : c = 0
  · subst c0
    exact ok_t (by decide) (ok_s (tf_f (fun h => h.1 rfl)))
  · rw [pa_v c0]
    refine ok_f (nI_pos (by omega)) ?_
    have h : k = 0 ∨ k = 1 ∨ k = 2 ∨ k = 3 := by omega
    rcases h with rfl | rfl | rfl | rfl
    · refine ok_t (by decide) ?_
      exact ok_b (c - 1 = x) (nI_eq (by omega) (by omega)) (fun h => ok_s (tf_t ⟨c0, by omega⟩)) (fun h => ok_s (tf_f (fun g => by have := g.2; omega)))
    · refine ok_f (by decide) (ok_t (by decide) ?_)
      exact ok_b (c - 1 = x) (nI_eq (by omega) (by omega)) (fun h => ok_s (tf_f (fun g => by have := g.2; omega))) (fun h => ok_s (tf_t ⟨c0, by omega⟩))
    · refine ok_f (by decide) (ok_f (by decide) (ok_t (by decide) ?_))
      exact ok_b (x ≤ c - 1) (nI_leI (by omega) (by omega)) (fun h => ok_s (tf_f (fun g => by have := g.2; omega))) (fun h => ok_s (tf_t ⟨c0, by omega⟩))
    · refine ok_f (by decide) (ok_f (by decide) (ok_f (by decide) ?_))
      exact ok_b (c - 1 ≤ x) (nI_leI (by omega) (by omega)) (fun h => ok_s (tf_f (fun g => by have := g.2; omega))) (fun h => ok_s (tf_t ⟨c0, by omega⟩))
noncomputable def hlB (fv fk fx : Nat → Nat) (f r : Nat) : Bool := @decide (hldP (fk f) (fx f) (fld r (fv f))) (Classical.propDecidable _)
theorem hlB_iff {fv fk fx : Nat → Nat} {f r : Nat} : hlB fv fk fx f r = true ↔ hldP (fk f) (fx f) (fld r (fv f)) := by
  unfold hlB
  exact ⟨fun h => @of_decide_eq_true _ (Classical.propDecidable _) h, fun h => @decide_eq_true _ (Classical.propDecidable _) h⟩
theorem all_y {fv fk fx : Nat → Nat} {set f : Nat} {L : List Nat} (hb : set.testBit f = true) : L.filter (allB (f + 1) fv fk fx set) = (L.filter (allB f fv fk fx set)).filter (hlB fv fk fx f) := by
  rw [List.filter_filter]
  apply List.filter_congr
  intro r _
  rw [Bool.eq_iff_iff, Bool.and_eq_true, allB_iff, allB_iff, hlB_iff]
  constructor
  · intro h
    exact ⟨h f (by omega) hb, fun g hg => h g (by omega)⟩
  · rintro ⟨h1, h2⟩ g hg hgb
    by_cases e : g = f
    · subst e
      exact h1
    · exact h2 g (by omega) hgb
theorem all_n {fv fk fx : Nat → Nat} {set f : Nat} {L : List Nat} (hb : ¬ set.testBit f = true) : L.filter (allB (f + 1) fv fk fx set) = L.filter (allB f fv fk fx set) := by
  apply List.filter_congr
  intro r _
  rw [Bool.eq_iff_iff, allB_iff, allB_iff]
  constructor
  · intro h g hg
    exact h g (by omega)
  · intro h g hg hgb
    have : g ≠ f := fun e => hb (e ▸ hgb)
    exact h g (by omega) hgb
theorem all_0 {fv fk fx : Nat → Nat} {set : Nat} {L : List Nat} : L.filter (allB 0 fv fk fx set) = L := List.filter_eq_self.mpr (fun r _ => allB_iff.mpr (fun f hf => by omega))
theorem q_mvr {n y i : Nat} {Rw : Nat → Int32} (hn : 8 < n) (hy : y ≤ 500) (hi : i ≤ 500) : ok (f_JoinOrderModel_sift_L1 n (nI y) (nI i) n Rw (0 : Int32)) (fun Y => (∀ w u, w ≠ y → u < 8 → Y (8 * w + u) = Rw (8 * w + u)) ∧ ∀ u, u < 8 → Y (8 * y + u) = Rw (8 * i + u)) := by
  refine lpF (σ := Nat → Int32) (fun f v Y => f_JoinOrderModel_sift_L1 n (nI y) (nI i) f Y (nI v)) (fun v Y => (∀ w u, w ≠ y → u < 8 → Y (8 * w + u) = Rw (8 * w + u)) ∧ (∀ u, u < v → Y (8 * y + u) = Rw (8 * i + u)) ∧ ∀ u, v ≤ u → u < 8 → Y (8 * i + u) = Rw (8 * i + u)) 8 _ ?_ ?_ n 0 Rw (by omega) (by omega) ⟨fun _ _ _ _ => rfl, fun u h => by omega, fun _ _ _ => rfl⟩
  · intro f Y h
    rw [f_JoinOrderModel_sift_L1_s]
    exact ok_t (nI_le (Nat.le_refl 8) (by decide)) (ok_s ⟨h.1, h.2.1⟩)
  · intro f v Y hv h ih
    obtain ⟨h1, h2, h3⟩ := h
    rw [f_JoinOrderModel_sift_L1_s]
    refine ok_f (nI_ge hv (by decide)) ?_
    rw [i8, i8]
    refine ok_gd (8 * i + v) rfl (by omega) (by decide) (ok_nm ?_)
    refine ok_gd (8 * y + v) rfl (by omega) (by decide) ?_
    rw [nI_clamp (by omega : 8 * i + v < 2 ^ 31), nI_clamp (by omega : 8 * y + v < 2 ^ 31), h3 v (Nat.le_refl _) hv]
    refine ok_nm (ok_nmE (nI_1 v) (ih _ ⟨fun w u hw hu => ?_, fun u hu => ?_, fun u hu hu8 => ?_⟩))
    · rw [pk_un (by omega)]
      exact h1 w u hw hu
    · by_cases e : u = v
      · subst e
        rw [pk_us]
      · rw [pk_un (by omega)]
        exact h2 u (by omega)
    · by_cases e : i = y
      · subst e
        rw [pk_un (by omega)]
        exact h3 u (by omega) hu8
      · rw [pk_un (by omega)]
        exact h3 u (by omega) hu8
def rowA (pa : Nat → Nat) (cm : Nat → Prop) (Rw Fd : Nat → Int32) (j r : Nat) : Prop := okR r ∧ rwI Rw j r ∧ ∃ m, Fd j = nI m ∧ rlP pa cm r m
theorem q_sift {n f nf sf : Nat} {pa fv fk fx : Nat → Nat} {cm : Nat → Prop} {L : List Nat} {Rw Fd Lk K X Z : Nat → Int32} (hn : 500 < n) (hL : L.length ≤ 500) (hf : f < nf) (hF : QF nf fv fk fx sf (nI nf) Lk K X Z) (h : qTb pa cm L Rw Fd) :
    ok (f_JoinOrderModel_sift n (nI f) (nI L.length) Lk Rw X K Fd) (fun o => o.1 = nI (L.filter (hlB fv fk fx f)).length ∧ qTb pa cm (L.filter (hlB fv fk fx f)) o.2.1 o.2.2) := by
  obtain ⟨hnf, _, hF⟩ := hF
  obtain ⟨f1, f2, f3, f4, f5, f6, _⟩ := hF f hf
  generalize hBg : hlB fv fk fx f = B
  have hB : ∀ r, B r = true ↔ hldP (fk f) (fx f) (fld r (fv f)) := fun r => by
    rw [← hBg]
    exact hlB_iff
  rw [f_JoinOrderModel_sift_u]
  refine ok_bn3 (fun o => o.2.2 = nI (L.filter B).length ∧ qTb pa cm (L.filter B) o.1 o.2.1) ?_ (fun a b c e => ok_s e)
  refine lpF (σ := (Nat → Int32) × (Nat → Int32) × Int32) (fun g i s => f_JoinOrderModel_sift_L0 n (nI f) (nI L.length) Lk X K g s.1 s.2.1 s.2.2 (nI i)) (fun i s => s.2.2 = nI ((L.take i).filter B).length ∧ qTb pa cm ((L.take i).filter B) s.1 s.2.1 ∧ ∀ j t, i ≤ j → L[j]? = some t → rowA pa cm s.1 s.2.1 j t) L.length _ ?_ ?_ n 0 (Rw, Fd, 0) (by omega) (by omega) ⟨rfl, fun i r hi => by simp at hi, fun j t _ ht => h j t ht⟩
  · intro g s hI
    rw [f_JoinOrderModel_sift_L0_s]
    rw [List.take_length] at hI
    exact ok_t (nI_le (Nat.le_refl _) (by omega)) (ok_s ⟨hI.1, hI.2.1⟩)
  · intro g i s hi hI ih
    obtain ⟨Y, G, lf⟩ := s
    obtain ⟨k1, k2, k3⟩ := hI
    simp only at k1 k2 k3
    subst k1
    have hx : L[i]? = some L[i] := List.getElem?_eq_getElem hi
    obtain ⟨r1, r2, m, r3, r4⟩ := k3 i _ (Nat.le_refl i) hx
    have hfl : ((L.take i).filter B).length ≤ i := by
      have g1 := List.length_filter_le B (L.take i)
      have g2 := List.length_take_le i L
      omega
    rw [take_f (B := B) hi] at ih
    rw [f_JoinOrderModel_sift_L0_s]
    dsimp only
    refine ok_f (nI_ge hi (by omega)) ?_
    refine ok_gd f rfl (by omega) (by decide) ?_
    rw [nI_clamp (by omega : f < 2 ^ 31), f4, ix8 f1]
    refine ok_gd (8 * i + fv f) rfl (by omega) (by decide) ?_
    rw [nI_clamp (by omega : 8 * i + fv f < 2 ^ 31), r2 _ f1]
    refine ok_bn1 _ (q_holds (by omega) f2 f3 (fld_lt _ _) f5 f6) (fun o ho => ?_)
    generalize (L.take i).filter B = Q at k2 hfl ih
    refine ok_b _ (tf_0 ho) (fun h7 => ?_) (fun h7 => ?_)
    · rw [if_neg (fun h => h7 ((hB _).mp h)), List.append_nil] at ih
      exact ok_nmE (nI_1 i) (ih (Y, G, nI Q.length) ⟨rfl, k2, fun j t hj ht => k3 j t (by omega) ht⟩)
    · rw [if_pos ((hB _).mpr (Classical.not_not.mp h7))] at ih
      refine ok_bn1 _ (q_mvr (by omega) (by omega) (by omega)) (fun Y2 hY2 => ?_)
      obtain ⟨y1, y2⟩ := hY2
      refine ok_gd i rfl (by omega) (by decide) (ok_nm ?_)
      refine ok_gd Q.length rfl (by omega) (by decide) ?_
      rw [nI_clamp (by omega : i < 2 ^ 31), nI_clamp (by omega : Q.length < 2 ^ 31), r3]
      refine ok_nm (ok_nmE (nI_1 _) (ok_nmE (nI_1 i) (ih (Y2, upd G Q.length (nI m), nI (Q.length + 1)) ⟨?_, ?_, fun j t hj ht => ?_⟩)))
      · rw [List.length_append]
        rfl
      · exact qTb_push (qTb_next k2 y1) (fun v hv => (y2 v hv).trans (r2 v hv)) r1 r4
      · obtain ⟨t1, t2, m2, t3, t4⟩ := k3 j t (by omega) ht
        refine ⟨t1, fun v hv => (y1 j v (by omega) hv).trans (t2 v hv), m2, ?_, t4⟩
        simp only
        rw [pk_un (by omega)]
        exact t3
/-! the filters behind a step, one at a time -/
theorem q_sifts {n nf sf i set : Nat} {pa fv fk fx pb : Nat → Nat} {cm : Nat → Prop} {L : List Nat} {Rw Fd Lk K X Z Bh : Nat → Int32} (hn : 500 < n) (hi : i < 8) (hL : L.length ≤ 500) (hF : QF nf fv fk fx sf (nI nf) Lk K X Z) (hb : ∀ f, f < nf → Bh f = nI (pb f) ∧ pb f < 8 ∧ (set.testBit f = true ↔ pb f = i)) (h : qTb pa cm L Rw Fd) :
    ok (f_JoinOrderModel_run_L1 n (nI nf) Lk X K Bh (nI i) (1 : Int32) n (nI L.length) Fd Rw (0 : Int32)) (fun o => o.1 = nI (L.filter (allB nf fv fk fx set)).length ∧ qTb pa cm (L.filter (allB nf fv fk fx set)) o.2.2 o.2.1) := by
  have hnf := hF.1
  refine lpF (σ := Int32 × (Nat → Int32) × (Nat → Int32)) (fun g f s => f_JoinOrderModel_run_L1 n (nI nf) Lk X K Bh (nI i) (1 : Int32) g s.1 s.2.1 s.2.2 (nI f)) (fun f s => s.1 = nI (L.filter (allB f fv fk fx set)).length ∧ qTb pa cm (L.filter (allB f fv fk fx set)) s.2.2 s.2.1) nf _ ?_ ?_ n 0 (nI L.length, Fd, Rw) (by omega) (by omega) (by rw [all_0]; exact ⟨rfl, h⟩)
  · intro g s hI
    rw [f_JoinOrderModel_run_L1_s]
    exact ok_t (nI_le (Nat.le_refl _) (by omega)) (ok_s hI)
  · intro g f s hf hI ih
    obtain ⟨c, G, Y⟩ := s
    obtain ⟨k1, k2⟩ := hI
    simp only at k1 k2
    subst k1
    have hfl := Nat.le_trans (List.length_filter_le (allB f fv fk fx set) L) hL
    obtain ⟨b1, b2, b3⟩ := hb f hf
    rw [f_JoinOrderModel_run_L1_s]
    dsimp only
    refine ok_f (nI_ge hf (by omega)) (ok_f (by decide) ?_)
    refine ok_gd f rfl (by omega) (by decide) ?_
    rw [nI_clamp (by omega : f < 2 ^ 31), b1]
    refine ok_b (pb f = i) (nI_eq (by omega) (by omega)) (fun g1 => ?_) (fun g1 => ?_)
    · rw [all_y (b3.mpr g1)] at ih
      refine ok_bn3 _ (q_sift (by omega) hfl hf hF k2) (fun a b c h4 => ?_)
      exact ok_nmE (nI_1 f) (ih (a, c, b) h4)
    · rw [all_n (fun h => g1 (b3.mp h))] at ih
      exact ok_nmE (nI_1 f) (ih (_, G, Y) ⟨rfl, k2⟩)
theorem q_siftn {n : Nat} {nf i c x : Int32} {Lk X K Bh Fd Rw : Nat → Int32} (k : Nat) : f_JoinOrderModel_run_L1 n nf Lk X K Bh i (0 : Int32) (k + 1) c Fd Rw x = some (c, Fd, Rw) := by
  apply ok_eq
  rw [f_JoinOrderModel_run_L1_s]
  exact ok_if (fun _ => ok_s rfl) (fun _ => ok_t rfl (ok_s rfl))
theorem q_sifta {n nf sf set : Nat} {pa fv fk fx : Nat → Nat} {cm : Nat → Prop} {L : List Nat} {Rw Fd Lk K X Z : Nat → Int32} (hn : 500 < n) (hL : L.length ≤ 500) (hF : QF nf fv fk fx sf (nI nf) Lk K X Z) (hb : ∀ f, f < nf → set.testBit f = true) (h : qTb pa cm L Rw Fd) :
    ok (f_JoinOrderModel_run_L2 n (nI nf) Lk X K (0 : Int32) n (nI L.length) Fd Rw (0 : Int32)) (fun o => o.1 = nI (L.filter (allB nf fv fk fx set)).length ∧ qTb pa cm (L.filter (allB nf fv fk fx set)) o.2.2 o.2.1) := by
  have hnf := hF.1
  refine lpF (σ := Int32 × (Nat → Int32) × (Nat → Int32)) (fun g f s => f_JoinOrderModel_run_L2 n (nI nf) Lk X K (0 : Int32) g s.1 s.2.1 s.2.2 (nI f)) (fun f s => s.1 = nI (L.filter (allB f fv fk fx set)).length ∧ qTb pa cm (L.filter (allB f fv fk fx set)) s.2.2 s.2.1) nf _ ?_ ?_ n 0 (nI L.length, Fd, Rw) (by omega) (by omega) (by rw [all_0]; exact ⟨rfl, h⟩)
  · intro g s hI
    rw [f_JoinOrderModel_run_L2_s]
    exact ok_t (nI_le (Nat.le_refl _) (by omega)) (ok_s hI)
  · intro g f s hf hI ih
    obtain ⟨c, G, Y⟩ := s
    obtain ⟨k1, k2⟩ := hI
    simp only at k1 k2
    subst k1
    have hfl := Nat.le_trans (List.length_filter_le (allB f fv fk fx set) L) hL
    rw [f_JoinOrderModel_run_L2_s]
    dsimp only
    refine ok_f (nI_ge hf (by omega)) (ok_t rfl ?_)
    rw [all_y (hb f hf)] at ih
    refine ok_bn3 _ (q_sift (by omega) hfl hf hF k2) (fun a b c h4 => ?_)
    exact ok_nmE (nI_1 f) (ih (a, c, b) h4)
theorem q_siftan {n np : Nat} {nf c x : Int32} {Lk X K Fd Rw : Nat → Int32} (k : Nat) (h : 0 < np) (h2 : np < 2 ^ 31) : f_JoinOrderModel_run_L2 n nf Lk X K (nI np) (k + 1) c Fd Rw x = some (c, Fd, Rw) := by
  apply ok_eq
  rw [f_JoinOrderModel_run_L2_s]
  exact ok_if (fun _ => ok_s rfl) (fun _ => ok_f (nI_ne0 h h2) (ok_s rfl))
theorem q_siftb {n nf sf set : Nat} {pa fv fk fx : Nat → Nat} {cm : Nat → Prop} {L : List Nat} {Rw Fd Lk K X Z : Nat → Int32} (hn : 500 < n) (hL : L.length ≤ 500) (hF : QF nf fv fk fx sf (nI nf) Lk K X Z) (hb : ∀ f, f < nf → set.testBit f = true) (h : qTb pa cm L Rw Fd) :
    ok (f_JoinOrderModel_plain_L1b n (nI nf) Lk X K n (nI L.length) Fd Rw (0 : Int32)) (fun o => o.1 = nI (L.filter (allB nf fv fk fx set)).length ∧ qTb pa cm (L.filter (allB nf fv fk fx set)) o.2.2 o.2.1) := by
  have hnf := hF.1
  refine lpF (σ := Int32 × (Nat → Int32) × (Nat → Int32)) (fun g f s => f_JoinOrderModel_plain_L1b n (nI nf) Lk X K g s.1 s.2.1 s.2.2 (nI f)) (fun f s => s.1 = nI (L.filter (allB f fv fk fx set)).length ∧ qTb pa cm (L.filter (allB f fv fk fx set)) s.2.2 s.2.1) nf _ ?_ ?_ n 0 (nI L.length, Fd, Rw) (by omega) (by omega) (by rw [all_0]; exact ⟨rfl, h⟩)
  · intro g s hI
    rw [f_JoinOrderModel_plain_L1b_s]
    exact ok_t (nI_le (Nat.le_refl _) (by omega)) (ok_s hI)
  · intro g f s hf hI ih
    obtain ⟨c, G, Y⟩ := s
    obtain ⟨k1, k2⟩ := hI
    simp only at k1 k2
    subst k1
    have hfl := Nat.le_trans (List.length_filter_le (allB f fv fk fx set) L) hL
    rw [f_JoinOrderModel_plain_L1b_s]
    dsimp only
    refine ok_f (nI_ge hf (by omega)) (ok_f (by decide) ?_)
    rw [all_y (hb f hf)] at ih
    refine ok_bn3 _ (q_sift (by omega) hfl hf hF k2) (fun a b c h4 => ?_)
    exact ok_nmE (nI_1 f) (ih (a, c, b) h4)
