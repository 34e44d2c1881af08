/-! Lists in tables -/
def hI (f : Nat → Int32) (o : Nat) (L : List Nat) : Prop := ∀ i t, L[i]? = some t → f (o + i) = nI t
theorem hI_nil {f : Nat → Int32} {o : Nat} : hI f o [] := fun i t h => by simp at h
theorem hI_push {f : Nat → Int32} {o : Nat} {L : List Nat} {t : Nat} (h : hI f o L) : hI (upd f (o + L.length) (nI t)) o (L ++ [t]) := by
  intro i x hx
  by_cases hi : i < L.length
  · rw [List.getElem?_append_left hi] at hx
    rw [pk_un (by omega)]
    exact h i x hx
  · rw [List.getElem?_append_right (by omega)] at hx
    have e1 := (List.getElem?_eq_some_iff.mp hx).1
    simp only [List.length_singleton] at e1
    have e : i = L.length := by omega
    subst e
    rw [Nat.sub_self] at hx
    have e2 : t = x := Option.some.inj hx
    rw [pk_us, e2]
theorem hI_skip {f : Nat → Int32} {o j : Nat} {L : List Nat} {x : Int32} (h : hI f o L) (hj : ∀ i, i < L.length → j ≠ o + i) : hI (upd f j x) o L := by
  intro i t ht
  have hi := (List.getElem?_eq_some_iff.mp ht).1
  rw [pk_un (Ne.symm (hj i hi))]
  exact h i t ht
/-! Slots: a code below 32 is a term, 32 + v a variable. Whether a pattern's slots fit a triple; fits -/
def slv (c : Nat) : Int32 := if c < 32 then nI c else -1 - nI (c - 32)
theorem slv_neg : ∀ c, c < 40 → (slv c < 0 ↔ 32 ≤ c) := by decide +kernel
theorem slv_pos : ∀ c, c < 40 → (0 ≤ slv c ↔ c < 32) := by decide +kernel
theorem slv_eq : ∀ c, c < 40 → ∀ d, d < 40 → (slv c = slv d ↔ c = d) := by decide +kernel
theorem slv_term {c : Nat} (h : c < 32) : slv c = nI c := if_pos h
theorem slv_ix : ∀ c, c < 40 → 32 ≤ c → f_JoinOrder_indexOf (slv c) = nI (c - 32) := by decide +kernel
def agP (sl : Nat → Nat) (t k : Nat) : Prop := ∀ e, e < k → sl e = sl k → prt t e = prt t k
def plP (sl : Nat → Nat) (t k : Nat) : Prop := (sl k < 32 → prt t k = sl k) ∧ (32 ≤ sl k → agP sl t k)
def fitP (sl : Nat → Nat) (t : Nat) : Prop := ∀ k, k < 3 → plP sl t k
noncomputable def fitB (sl : Nat → Nat) (t : Nat) : Bool := @decide (fitP sl t) (Classical.propDecidable _)
theorem fitB_iff {sl : Nat → Nat} {t : Nat} : fitB sl t = true ↔ fitP sl t := by
  unfold fitB
  exact ⟨fun h => @of_decide_eq_true _ (Classical.propDecidable _) h, fun h => @decide_eq_true _ (Classical.propDecidable _) h⟩
def slH (S : Nat → Int32) (p : Nat) (sl : Nat → Nat) : Prop := ∀ k, k < 3 → sl k < 40 ∧ S (p * 3 + k) = slv (sl k)
theorem ix3 (p k : Nat) : nI p * (3 : Int32) + nI k = nI (p * 3 + k) := by
  rw [show nI p * (3 : Int32) = nI (p * 3) from pk_mul p 3, nI_add]
theorem c_slot {p k : Nat} {S : Nat → Int32} {sl : Nat → Nat} (hp : p < 8) (hk : k < 3) (hS : slH S p sl) : f_Patterns_slot (nI p) (nI k) S = some (slv (sl k)) := by
  rw [f_Patterns_slot_u, ix3, gd_nI (by omega) (by omega), nI_clamp (by omega), (hS k hk).2]
theorem c_agrees {n p k t : Nat} {S : Nat → Int32} {sl : Nat → Nat} (hn : 3 < n) (hp : p < 8) (hk : k < 3) (ht : t < 32768) (hS : slH S p sl) : ok (f_Patterns_agrees n (nI p) (nI t) (nI k) S) (fun r => tf r (agP sl t k)) := by
  rw [f_Patterns_agrees_u]
  refine ok_bd0 (fun _ => agP sl t k) ?_ (fun h => ok_s (tf_t h))
  refine lpU (fun f i => f_Patterns_agrees_L0 n (nI p) (nI t) (nI k) S f (nI i)) (fun i => ∀ e, e < i → sl e = sl k → prt t e = prt t k) k _ ?_ ?_ n 0 (by omega) (by omega) (fun e h => by omega)
  · intro f h
    rw [f_Patterns_agrees_L0_s]
    exact ok_t (nI_le (Nat.le_refl k) (by omega)) (ok_s h)
  · intro f i hi h ih
    rw [f_Patterns_agrees_L0_s]
    refine ok_f (nI_ge hi (by first | omega | decide)) ?_
    refine ok_bn1 _ (ok_e (c_slot hp (by omega) hS)) (fun r e => ?_)
    refine ok_bn1 _ (ok_e (c_slot hp hk hS)) (fun r2 e2 => ?_)
    subst e e2
    rw [t_part ht (by omega), t_part ht hk]
    have hl1 := prt_lt t i
    have hl2 := prt_lt t k
    refine ok_b (sl i = sl k) (slv_eq _ (hS i (by omega)).1 _ (hS k hk).1) (fun h1 => ?_) (fun h1 => ?_)
    · refine ok_b (prt t i = prt t k) (nI_eq (by omega) (by omega)) (fun h2 => ?_) (fun h2 => ?_)
      · refine ok_nmE (nI_1 i) (ih (fun e he h3 => ?_))
        by_cases h4 : e = i
        · subst h4; exact h2
        · exact h e (by omega) h3
      · exact ok_s (tf_f (fun h3 => h2 (h3 i hi h1)))
    · refine ok_nmE (nI_1 i) (ih (fun e he h3 => ?_))
      by_cases h4 : e = i
      · subst h4; exact absurd h3 h1
      · exact h e (by omega) h3
theorem c_fits {n p t : Nat} {S : Nat → Int32} {sl : Nat → Nat} (hn : 3 < n) (hp : p < 8) (ht : t < 32768) (hS : slH S p sl) : ok (f_Patterns_fits n (nI p) (nI t) S) (fun r => tf r (fitP sl t)) := by
  rw [f_Patterns_fits_u]
  refine ok_bd0 (fun _ => fitP sl t) ?_ (fun h => ok_s (tf_t h))
  refine lpU (fun f i => f_Patterns_fits_L0 n (nI p) (nI t) S f (nI i)) (fun i => ∀ k, k < i → plP sl t k) 3 _ ?_ ?_ n 0 (by omega) (by omega) (fun e h => by omega)
  · intro f h
    rw [f_Patterns_fits_L0_s]
    exact ok_t (nI_le (Nat.le_refl 3) (by omega)) (ok_s h)
  · intro f i hi h ih
    rw [f_Patterns_fits_L0_s]
    refine ok_f (nI_ge hi (by first | omega | decide)) ?_
    refine ok_bn1 _ (ok_e (c_slot hp (by omega) hS)) (fun r e => ?_)
    subst e
    refine ok_nmE (t_part ht hi) ?_
    have hc := (hS i hi).1
    have hl1 := prt_lt t i
    have step : plP sl t i → ∀ k, k < i + 1 → plP sl t k := fun h1 k hk => by
      by_cases h4 : k = i
      · subst h4; exact h1
      · exact h k (by omega)
    refine ok_b (32 ≤ sl i) (slv_neg _ hc) (fun h1 => ?_) (fun h1 => ?_)
    · refine ok_bn1 _ (c_agrees hn hp hi ht hS) (fun r hr => ?_)
      refine ok_b (¬ agP sl t i) (tf_0 hr) (fun h2 => ?_) (fun h2 => ?_)
      · exact ok_s (tf_f (fun h3 => h2 ((h3 i hi).2 h1)))
      · exact ok_nmE (nI_1 i) (ih (step ⟨fun h3 => absurd h1 (by omega), fun _ => Classical.not_not.mp h2⟩))
    · rw [slv_term (by omega)]
      refine ok_b (prt t i = sl i) (nI_eq (by omega) (by omega)) (fun h2 => ?_) (fun h2 => ?_)
      · exact ok_nmE (nI_1 i) (ih (step ⟨fun _ => h2, fun h3 => absurd h3 h1⟩))
      · exact ok_s (tf_f (fun h3 => h2 ((h3 i hi).1 (by omega))))
/-! What the patterns match, kept up -/
def PM (M : Nat → List Nat) (mc ms ts : Nat → Int32) : Prop := ∀ p, p < 8 → mc p = nI (M p).length ∧ hI ms (p * 80) (M p) ∧ ∀ k, k < 3 → ∃ m, m < 2 ^ 32 ∧ ts (p * 3 + k) = nI m ∧ ∀ t, t < 32 → (m.testBit t = true ↔ ∃ x, x ∈ M p ∧ prt x k = t)
theorem c_seen {n p t : Nat} {ts : Nat → Int32} {E : Nat → Nat → Nat → Prop} (hn : 3 < n) (hp : p < 8) (ht : t < 32768)
    (h : ∀ q, q < 8 → ∀ k, k < 3 → ∃ m, m < 2 ^ 32 ∧ ts (q * 3 + k) = nI m ∧ ∀ x, x < 32 → (m.testBit x = true ↔ E q k x)) :
    ok (f_Patterns_meet_L0 n (nI p) (nI t) n ts (0 : Int32)) (fun r => ∀ q, q < 8 → ∀ k, k < 3 → ∃ m, m < 2 ^ 32 ∧ r (q * 3 + k) = nI m ∧ ∀ x, x < 32 → (m.testBit x = true ↔ E q k x ∨ (q = p ∧ prt t k = x))) := by
  refine lpF (σ := Nat → Int32) (fun f i T => f_Patterns_meet_L0 n (nI p) (nI t) f T (nI i)) (fun i T => ∀ q, q < 8 → ∀ k, k < 3 → ∃ m, m < 2 ^ 32 ∧ T (q * 3 + k) = nI m ∧ ∀ x, x < 32 → (m.testBit x = true ↔ E q k x ∨ (q = p ∧ k < i ∧ prt t k = x))) 3 _ ?_ ?_ n 0 ts (by omega) (by omega) ?_
  · intro f T hT
    rw [f_Patterns_meet_L0_s]
    refine ok_t (nI_le (Nat.le_refl 3) (by omega)) (ok_s ?_)
    intro q hq k hk
    obtain ⟨m, h1, h2, h3⟩ := hT q hq k hk
    refine ⟨m, h1, h2, fun x hx => (h3 x hx).trans ⟨fun h => h.elim Or.inl (fun h => Or.inr ⟨h.1, h.2.2⟩), fun h => h.elim Or.inl (fun h => Or.inr ⟨h.1, hk, h.2⟩)⟩⟩
  · intro f i T hi hT ih
    rw [f_Patterns_meet_L0_s]
    refine ok_f (nI_ge hi (by first | omega | decide)) ?_
    rw [ix3]
    refine ok_gd (p * 3 + i) rfl (by omega) (by omega) ?_
    rw [nI_clamp (by omega : p * 3 + i < 2 ^ 31), t_part ht hi]
    obtain ⟨m, h1, h2, h3⟩ := hT p hp i hi
    have hl := prt_lt t i
    rw [h2, m_sh hl, m_or]
    refine ok_nm (ok_nm (ok_nmE (nI_1 i) (ih _ ?_)))
    intro q hq k hk
    by_cases e : q = p ∧ k = i
    · obtain ⟨e1, e2⟩ := e
      subst e1 e2
      refine ⟨m ||| 2 ^ prt t k, or_lt h1 (p2_lt hl), by rw [pk_us], fun x hx => ?_⟩
      rw [bit_or, bit_p2, h3 x hx]
      constructor
      · rintro ((h | h) | h)
        · exact Or.inl h
        · omega
        · exact Or.inr ⟨rfl, by omega, h⟩
      · rintro (h | h)
        · exact Or.inl (Or.inl h)
        · exact Or.inr h.2.2
    · obtain ⟨m2, g1, g2, g3⟩ := hT q hq k hk
      refine ⟨m2, g1, by rw [pk_un (by omega)]; exact g2, fun x hx => (g3 x hx).trans ?_⟩
      constructor
      · rintro (h | h)
        · exact Or.inl h
        · exact Or.inr ⟨h.1, by omega, h.2.2⟩
      · rintro (h | h)
        · exact Or.inl h
        · exact Or.inr ⟨h.1, by omega, h.2.2⟩
  · intro q hq k hk
    obtain ⟨m, h1, h2, h3⟩ := h q hq k hk
    exact ⟨m, h1, h2, fun x hx => (h3 x hx).trans ⟨Or.inl, fun h => h.elim id (fun h => by omega)⟩⟩
noncomputable def addM (M : Nat → List Nat) (p : Nat) (sl : Nat → Nat) (t : Nat) : Nat → List Nat := fun q => if q = p then (if fitB sl t = true then M p ++ [t] else M p) else M q
theorem c_meet {n p t : Nat} {S mc ms ts : Nat → Int32} {sl : Nat → Nat} {M : Nat → List Nat} (hn : 3 < n) (hp : p < 8) (ht : t < 32768) (hS : slH S p sl) (h : PM M mc ms ts) (hl : ∀ q, q < 8 → (M q).length ≤ 80) (hlp : (M p).length < 80) :
    ok (f_Patterns_meet n (nI p) (nI t) mc S ms ts) (fun r => PM (addM M p sl t) r.1 r.2.1 r.2.2) := by
  rw [f_Patterns_meet_u]
  obtain ⟨hmc, hms, hts⟩ := h p hp
  refine ok_gd p rfl hp (by omega) ?_
  rw [nI_clamp (by omega : p < 2 ^ 31), hmc]
  refine ok_f (nI_ge (b := 80) hlp (by omega)) ?_
  refine ok_bn1 _ (c_fits hn hp ht hS) (fun r hr => ?_)
  refine ok_b (¬ fitP sl t) (tf_0 hr) (fun hf => ok_s ?_) (fun hf => ?_)
  · intro q hq
    have e : addM M p sl t q = M q := by
      unfold addM
      by_cases e : q = p
      · rw [if_pos e, if_neg (fun h => hf (fitB_iff.mp h)), e]
      · rw [if_neg e]
    rw [e]
    exact h q hq
  · have hf2 : fitB sl t = true := fitB_iff.mpr (Classical.not_not.mp hf)
    rw [show nI p * (80 : Int32) = nI (p * 80) from pk_mul p 80, nI_add]
    refine ok_gd (p * 80 + (M p).length) rfl (by omega) (by omega) ?_
    rw [nI_clamp (by omega : p * 80 + (M p).length < 2 ^ 31)]
    refine ok_nm (ok_nmE (nI_1 (M p).length) (ok_nm ?_))
    refine ok_bn1 _ (c_seen (E := fun q k x => ∃ y, y ∈ M q ∧ prt y k = x) hn hp ht (fun q hq => (h q hq).2.2)) (fun T hT => ok_s ?_)
    intro q hq
    obtain ⟨g1, g2, g3⟩ := h q hq
    by_cases e : q = p
    · subst e
      have e2 : addM M q sl t q = M q ++ [t] := by
        unfold addM
        rw [if_pos rfl, if_pos hf2]
      rw [e2]
      refine ⟨by simp only [pk_us, List.length_append, List.length_singleton], hI_push g2, fun k hk => ?_⟩
      obtain ⟨m, h1, h2, h3⟩ := hT q hq k hk
      refine ⟨m, h1, h2, fun x hx => (h3 x hx).trans ?_⟩
      constructor
      · rintro (⟨y, hy, e⟩ | ⟨-, e⟩)
        · exact ⟨y, List.mem_append_left _ hy, e⟩
        · exact ⟨t, List.mem_append_right _ (List.mem_singleton.mpr rfl), e⟩
      · rintro ⟨y, hy, e⟩
        rcases List.mem_append.mp hy with h | h
        · exact Or.inl ⟨y, h, e⟩
        · rw [List.mem_singleton] at h
          subst h
          exact Or.inr ⟨rfl, e⟩
    · have e2 : addM M p sl t q = M q := by
        unfold addM
        rw [if_neg e]
      rw [e2]
      refine ⟨by simp only [pk_un e]; exact g1, hI_skip g2 (fun i hi => by have := hl q hq; omega), fun k hk => ?_⟩
      obtain ⟨m, h1, h2, h3⟩ := hT q hq k hk
      refine ⟨m, h1, h2, fun x hx => (h3 x hx).trans ⟨fun h => h.elim id (fun h => absurd h.1 e), Or.inl⟩⟩
theorem c_has {n t : Nat} {P : Nat → Int32} {TL : List Nat} (hn : 80 < n) (hl : TL.length ≤ 80) (hlt : ∀ x, x ∈ TL → x < 32768) (ht : t < 32768) (h : hI P 0 TL) : ok (f_Triples_has n (nI t) (nI TL.length) P) (fun r => tf r (t ∈ TL)) := by
  rw [f_Triples_has_u]
  refine ok_bd0 (fun _ => ∀ (i x : Nat), TL[i]? = some x → x ≠ t) ?_ (fun h2 => ok_s (tf_f (fun hm => ?_)))
  · refine lpU (fun f i => f_Triples_has_L0 n (nI t) (nI TL.length) P f (nI i)) (fun i => ∀ (j x : Nat), j < i → TL[j]? = some x → x ≠ t) TL.length _ ?_ ?_ n 0 (by omega) (by omega) (fun e x h => by omega)
    · intro f h2
      rw [f_Triples_has_L0_s]
      exact ok_t (nI_le (Nat.le_refl _) (by omega)) (ok_s (fun i x hx => h2 i x (List.getElem?_eq_some_iff.mp hx).1 hx))
    · intro f i hi h2 ih
      rw [f_Triples_has_L0_s]
      refine ok_f (nI_ge hi (by first | omega | decide)) ?_
      refine ok_gd i rfl (by omega) (by omega) ?_
      have hx : TL[i]? = some TL[i] := List.getElem?_eq_getElem hi
      have hP := h i _ hx
      rw [Nat.zero_add] at hP
      have hm : TL[i] ∈ TL := List.getElem_mem hi
      have hlx := hlt _ hm
      rw [nI_clamp (by omega : i < 2 ^ 31), hP]
      refine ok_b (TL[i] = t) (nI_eq (by omega) (by omega)) (fun h3 => ok_s (tf_t (h3 ▸ hm))) (fun h3 => ?_)
      refine ok_nmE (nI_1 i) (ih (fun j x hj hx2 => ?_))
      by_cases h4 : j = i
      · subst h4
        rw [hx] at hx2
        exact Option.some.inj hx2 ▸ h3
      · exact h2 j x (by omega) hx2
  · obtain ⟨i, hi⟩ := List.getElem?_of_mem hm
    exact h2 i t hi rfl
noncomputable def addAll (M : Nat → List Nat) (np : Nat) (sl : Nat → Nat → Nat) (t : Nat) : Nat → List Nat := fun q => if q < np ∧ fitB (sl q) t = true then M q ++ [t] else M q
theorem addAll_0 {M : Nat → List Nat} {sl : Nat → Nat → Nat} {t : Nat} : addAll M 0 sl t = M := by
  funext q
  unfold addAll
  rw [if_neg (by omega)]
theorem addAll_s {M : Nat → List Nat} {sl : Nat → Nat → Nat} {t i : Nat} : addM (addAll M i sl t) i (sl i) t = addAll M (i + 1) sl t := by
  funext q
  unfold addM addAll
  by_cases e : q = i
  · subst e
    rw [if_pos rfl]
    by_cases hf : fitB (sl q) t = true
    · rw [if_pos hf, if_neg (by omega), if_pos ⟨by omega, hf⟩]
    · rw [if_neg hf, if_neg (by omega), if_neg (fun h => hf h.2)]
  · rw [if_neg e]
    by_cases hf : fitB (sl q) t = true
    · by_cases hq : q < i
      · rw [if_pos ⟨hq, hf⟩, if_pos ⟨by omega, hf⟩]
      · rw [if_neg (by omega), if_neg (by omega)]
    · rw [if_neg (fun h => hf h.2), if_neg (fun h => hf h.2)]
theorem addAll_len {M : Nat → List Nat} {sl : Nat → Nat → Nat} {t i q : Nat} : (addAll M i sl t q).length ≤ (M q).length + 1 ∧ (i ≤ q → addAll M i sl t q = M q) := by
  unfold addAll
  constructor
  · split
    · rw [List.length_append, List.length_singleton]; omega
    · omega
  · intro h
    rw [if_neg (by omega)]
theorem c_meetAll {n np t : Nat} {S mc ms ts : Nat → Int32} {sl : Nat → Nat → Nat} {M : Nat → List Nat} (hn : 80 < n) (hp : np ≤ 8) (ht : t < 32768) (hS : ∀ p, p < np → slH S p (sl p)) (h : PM M mc ms ts) (hl : ∀ q, q < 8 → (M q).length < 80) :
    ok (f_Patterns_meetAll n (nI t) (nI np) mc S ms ts) (fun r => PM (addAll M np sl t) r.1 r.2.1 r.2.2) := by
  rw [f_Patterns_meetAll_u]
  refine ok_bn3 (fun r => PM (addAll M np sl t) r.1 r.2.1 r.2.2) ?_ (fun a b c h => ok_s h)
  refine lpF (σ := (Nat → Int32) × (Nat → Int32) × (Nat → Int32)) (fun f i s => f_Patterns_meetAll_L0 n (nI t) (nI np) S f s.1 s.2.1 s.2.2 (nI i)) (fun i s => PM (addAll M i sl t) s.1 s.2.1 s.2.2) np _ ?_ ?_ n 0 (mc, ms, ts) (by omega) (by omega) (by rw [addAll_0]; exact h)
  · intro f s hI
    rw [f_Patterns_meetAll_L0_s]
    exact ok_t (nI_le (Nat.le_refl _) (by omega)) (ok_s hI)
  · intro f i s hi hI ih
    rw [f_Patterns_meetAll_L0_s]
    refine ok_f (nI_ge hi (by first | omega | decide)) ?_
    refine ok_bn3 _ (c_meet (by omega) (by omega) ht (hS i hi) hI (fun q hq => ?_) ?_) (fun a b c h2 => ?_)
    · have h3 := hl q hq
      have h4 := (addAll_len (M := M) (sl := sl) (t := t) (i := i) (q := q)).1
      omega
    · rw [(addAll_len (M := M) (sl := sl) (t := t) (i := i) (q := i)).2 (Nat.le_refl i)]
      exact hl i (by omega)
    · rw [addAll_s] at h2
      exact ok_nmE (nI_1 i) (ih (a, b, c) h2)
