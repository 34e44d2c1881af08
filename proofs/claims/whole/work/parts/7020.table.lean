/-! Rows in one long: r / 2 ^ (6 v) % 64 is what variable v is bound to, and one; bit 48 + p: pattern p found none -/
def fld (r v : Nat) : Nat := r / 2 ^ (v * 6) % 2 ^ 6
theorem fld_lt (r v : Nat) : fld r v < 64 := Nat.mod_lt _ (by decide)
theorem fld_or (a b v : Nat) : fld (a ||| b) v = fld a v ||| fld b v := by
  unfold fld
  rw [Nat.or_div_two_pow, Nat.or_mod_two_pow]
theorem l_shr {r k : Nat} (hr : r < 2 ^ 62) (hk : k < 64) : lN r >>> ((nI k).toInt64 &&& 63) = lN (r / 2 ^ k) := by
  rw [wb_c k hk]
  refine pf_shr ?_ hr
  rw [wb_tb, wb_sm k hk, BitVec.toNat_ofNat]
  exact Nat.mod_eq_of_lt (by omega)
theorem t_term {r v : Nat} (hr : r < 2 ^ 62) (hv : v < 8) : f_Table_termOf (lN r) (nI v) = nI (fld r v) - 1 := by
  have hd := Nat.div_le_self r (2 ^ (v * 6))
  rw [f_Table_termOf_u, show nI v * (6 : Int32) = nI (v * 6) from pk_mul v 6, l_shr hr (by omega), show (63 : Int64) = lN (2 ^ 6 - 1) from rfl, wb_mask (by omega) (by omega), lN_i]
  rfl
theorem tm_none {c : Nat} (hc : c < 64) : nI c - 1 = (-1 : Int32) ↔ c = 0 := by
  constructor
  · intro h
    cases c with
    | zero => rfl
    | succ d =>
      rw [nI_pred] at h
      have h2 := nI_pos (n := d) (by omega)
      rw [h] at h2
      exact absurd (by decide) h2
  · intro h
    subst h
    decide
theorem t_miss {p : Nat} (hp : p < 8) : f_Table_missing (nI p) = lN (2 ^ (48 + p)) := by
  rw [f_Table_missing_u, show (48 : Int32) + nI p = nI (48 + p) from nI_add 48 p, show (1 : Int64) = lN 1 from rfl, wb_shl 1 (by omega), Nat.one_mul]
theorem p62 {p : Nat} (hp : p < 8) : 2 ^ (48 + p) < 2 ^ 56 := p2_lt (by omega)
theorem and_p2 {r k : Nat} : r &&& 2 ^ k = 0 ↔ ¬ r.testBit k = true := by
  constructor
  · intro h hb
    have h2 : (r &&& 2 ^ k).testBit k = true := (bit_and _ _ _).mpr ⟨hb, (bit_p2 _ _).mpr rfl⟩
    rw [h, Nat.zero_testBit] at h2
    exact absurd h2 Bool.false_ne_true
  · intro h
    apply Nat.eq_of_testBit_eq
    intro i
    rw [Nat.zero_testBit]
    cases e : (r &&& 2 ^ k).testBit i
    · rfl
    · have h2 := (bit_and _ _ _).mp e
      have h3 := (bit_p2 _ _).mp h2.2
      subst h3
      exact absurd h2.1 h
theorem t_missed {r p : Nat} (hr : r < 2 ^ 56) (hp : p < 8) : tf (f_Table_missed (lN r) (nI p)) (r.testBit (48 + p) = true) := by
  have h1 := p62 hp
  have hl : r &&& 2 ^ (48 + p) ≤ r := Nat.and_le_left
  rw [f_Table_missed_u, t_miss hp, wb_and (by omega) (by omega)]
  have key : lg_cmp (lN (r &&& 2 ^ (48 + p))) 0 = 0 ↔ ¬ r.testBit (48 + p) = true := (lg_cmp_eq _ _).trans ((pk_lEQ (b := 0) (by omega) (by omega)).trans and_p2)
  by_cases hb : r.testBit (48 + p) = true
  · rw [if_neg (fun h => key.mp h hb)]
    exact tf_t hb
  · rw [if_pos (key.mpr hb)]
    exact tf_f hb
def hL (f : Nat → Int64) (L : List Nat) : Prop := ∀ i t, L[i]? = some t → f i = lN t
theorem hL_nil {f : Nat → Int64} : hL f [] := fun i t h => by simp at h
theorem hL_push {f : Nat → Int64} {L : List Nat} {t : Nat} (h : hL f L) : hL (vp_updL f L.length (lN t)) (L ++ [t]) := by
  intro i x hx
  by_cases hi : i < L.length
  · rw [List.getElem?_append_left hi] at hx
    rw [pk_uLn (by omega)]
    exact h i x hx
  · rw [List.getElem?_append_right (by omega)] at hx
    have e1 := (List.getElem?_eq_some_iff.mp hx).1
    simp only [List.length_singleton] at e1
    have e : i = L.length := by omega
    subst e
    rw [Nat.sub_self] at hx
    have e2 : t = x := Option.some.inj hx
    rw [pk_uLs, e2]
/-- the rows put so far: all of the list, or the list was too long -/
def putP (X : List Nat) (fo cr : Int32) (sp : Nat → Int64) : Prop := (X.length ≤ 500 ∧ cr = 0 ∧ fo = nI X.length ∧ hL sp X) ∨ (500 < X.length ∧ cr = 1 ∧ fo = nI 500)
theorem c_put {X : List Nat} {r : Nat} {fo cr : Int32} {sp : Nat → Int64} (h : putP X fo cr sp) : ok (f_Table_put (lN r) fo cr sp) (fun o => putP (X ++ [r]) o.1 o.2.1 o.2.2) := by
  rw [f_Table_put_u]
  have hl : (X ++ [r]).length = X.length + 1 := by rw [List.length_append, List.length_singleton]
  rcases h with ⟨h1, h2, h3, h4⟩ | ⟨h1, h2, h3⟩
  · subst h2 h3
    refine ok_b (X.length < 500) (nI_ltI (b := 500) (by omega) (by omega)) (fun h => ?_) (fun h => ok_s ?_)
    · refine ok_gd X.length rfl h (by omega) ?_
      rw [nI_clamp (by omega : X.length < 2 ^ 31)]
      refine ok_nm (ok_nmE (nI_1 _) (ok_s (Or.inl ⟨by omega, rfl, by rw [hl], hL_push h4⟩)))
    · exact Or.inr ⟨by omega, rfl, by simp only; congr 1; omega⟩
  · subst h2 h3
    exact ok_f (nI_nlt (Nat.le_refl 500) (by omega)) (ok_s (Or.inr ⟨by omega, rfl, rfl⟩))
/-! What a triple binds -/
def bndK (sl : Nat → Nat) (t k : Nat) : Nat := if 32 ≤ sl k then (prt t k + 1) * 2 ^ ((sl k - 32) * 6) else 0
def bndN (sl : Nat → Nat) (t : Nat) : Nat → Nat
  | 0 => 0
  | k + 1 => bndN sl t k ||| bndK sl t k
theorem bndK_lt {sl : Nat → Nat} {t k : Nat} (h : sl k < 40) : bndK sl t k < 2 ^ 48 := by
  unfold bndK
  split
  · have h1 := prt_lt t k
    have h2 : 2 ^ ((sl k - 32) * 6) ≤ 2 ^ 42 := Nat.pow_le_pow_right (by decide) (by omega)
    have h3 : (prt t k + 1) * 2 ^ ((sl k - 32) * 6) ≤ 32 * 2 ^ 42 := Nat.mul_le_mul (by omega) h2
    omega
  · exact Nat.two_pow_pos 48
theorem bndN_lt {sl : Nat → Nat} {t : Nat} (h : ∀ k, k < 3 → sl k < 40) : ∀ k, k ≤ 3 → bndN sl t k < 2 ^ 48 := by
  intro k
  induction k with
  | zero => intro _; exact Nat.two_pow_pos 48
  | succ k ih => intro hk; exact or_lt (ih (by omega)) (bndK_lt (h k (by omega)))
theorem c_bind {n p t : Nat} {S : Nat → Int32} {sl : Nat → Nat} (hn : 3 < n) (hp : p < 8) (ht : t < 32768) (hS : slH S p sl) : f_Table_bindings n (nI t) (nI p) S = some (lN (bndN sl t 3)) := by
  apply ok_eq
  rw [f_Table_bindings_u]
  refine ok_bn1 (fun x => x = lN (bndN sl t 3)) ?_ (fun x h => ok_s h)
  refine lpF (σ := Int64) (fun f i x => f_Table_bindings_L0 n (nI t) (nI p) S f x (nI i)) (fun i x => x = lN (bndN sl t i)) 3 _ ?_ ?_ n 0 (0 : Int64) (by omega) (by omega) rfl
  · intro f x h
    rw [f_Table_bindings_L0_s]
    exact ok_t (nI_le (Nat.le_refl 3) (by omega)) (ok_s h)
  · intro f i x hi h ih
    rw [f_Table_bindings_L0_s]
    refine ok_f (nI_ge hi (by first | omega | decide)) ?_
    refine ok_bn1 _ (ok_e (c_slot hp hi hS)) (fun r e => ?_)
    subst e h
    have hc := (hS i hi).1
    have hlt := bndN_lt (t := t) (fun k hk => (hS k hk).1) i (by omega)
    have hlk := bndK_lt (t := t) hc
    refine ok_b (sl i < 32) (slv_pos _ hc) (fun h1 => ?_) (fun h1 => ?_)
    · refine ok_nmE (nI_1 i) (ih _ ?_)
      show lN (bndN sl t i) = lN (bndN sl t i ||| bndK sl t i)
      unfold bndK
      rw [if_neg (by omega), Nat.or_zero]
    · have hpl := prt_lt t i
      rw [t_part ht hi, nI_1, nI_l (by omega), slv_ix _ hc (by omega), show nI (sl i - 32) * (6 : Int32) = nI ((sl i - 32) * 6) from pk_mul _ 6, wb_shl _ (by omega)]
      have e2 : (prt t i + 1) * 2 ^ ((sl i - 32) * 6) = bndK sl t i := by
        unfold bndK
        rw [if_pos (by omega)]
      rw [e2, wb_or (by omega) (by omega)]
      exact ok_nm (ok_nmE (nI_1 i) (ih _ rfl))
/-! Which triples go with a row -/
def okR (r : Nat) : Prop := r < 2 ^ 56 ∧ ∀ v, v < 8 → fld r v ≤ 32
def bdd (sl : Nat → Nat) (r k : Nat) : Prop := 32 ≤ sl k ∧ fld r (sl k - 32) ≠ 0
def matP (sl : Nat → Nat) (r t : Nat) : Prop := ∀ k, k < 3 → bdd sl r k → prt t k + 1 = fld r (sl k - 32)
theorem prt_or (a b k : Nat) : prt (a ||| b) k = prt a k ||| prt b k := by
  unfold prt
  split
  · exact Nat.or_mod_two_pow (n := 5)
  · rw [show (32 : Nat) = 2 ^ 5 from rfl, Nat.or_div_two_pow, Nat.or_mod_two_pow]
  · rw [show (1024 : Nat) = 2 ^ 10 from rfl, show (32 : Nat) = 2 ^ 5 from rfl, Nat.or_div_two_pow, Nat.or_mod_two_pow]
theorem prt_and (a b k : Nat) : prt (a &&& b) k = prt a k &&& prt b k := by
  unfold prt
  split
  · exact Nat.and_mod_two_pow (n := 5)
  · rw [show (32 : Nat) = 2 ^ 5 from rfl, Nat.and_div_two_pow, Nat.and_mod_two_pow]
  · rw [show (1024 : Nat) = 2 ^ 10 from rfl, show (32 : Nat) = 2 ^ 5 from rfl, Nat.and_div_two_pow, Nat.and_mod_two_pow]
theorem prt_one {x j k : Nat} (hx : x < 32) (hj : j < 3) (hk : k < 3) : prt (x * 2 ^ (j * 5)) k = if j = k then x else 0 := by
  have h1 : j = 0 ∨ j = 1 ∨ j = 2 := by omega
  have h2 : k = 0 ∨ k = 1 ∨ k = 2 := by omega
  rcases h1 with rfl | rfl | rfl <;> rcases h2 with rfl | rfl | rfl <;> simp [prt] <;> omega
theorem prt_ext {a b : Nat} (ha : a < 32768) (hb : b < 32768) (h : ∀ k, k < 3 → prt a k = prt b k) : a = b := by
  have h0 := h 0 (by omega)
  have h1 := h 1 (by omega)
  have h2 := h 2 (by omega)
  simp only [prt] at h0 h1 h2
  omega
theorem at_lt {x k : Nat} (hx : x < 32) (hk : k < 3) : x * 2 ^ (k * 5) < 32768 := by
  have h2 : k = 0 ∨ k = 1 ∨ k = 2 := by omega
  rcases h2 with rfl | rfl | rfl <;> omega
/-- mask and wanted, behind the first i places -/
def mwP (sl : Nat → Nat) (r i m w : Nat) : Prop := m < 32768 ∧ w < 32768 ∧ ∀ k, k < 3 → (k < i ∧ bdd sl r k → prt m k = 31 ∧ prt w k = fld r (sl k - 32) - 1) ∧ (¬ (k < i ∧ bdd sl r k) → prt m k = 0 ∧ prt w k = 0)
theorem mw_mat {sl : Nat → Nat} {r m w t : Nat} (h : mwP sl r 3 m w) (ht : t < 32768) : t &&& m = w ↔ matP sl r t := by
  obtain ⟨h1, h2, h3⟩ := h
  constructor
  · intro e k hk hb
    obtain ⟨g1, g2⟩ := (h3 k hk).1 ⟨hk, hb⟩
    have e2 := congrArg (fun x => prt x k) e
    simp only [prt_and, g1, g2] at e2
    rw [show (31 : Nat) = 2 ^ 5 - 1 from rfl, Nat.and_two_pow_sub_one_eq_mod, Nat.mod_eq_of_lt (prt_lt t k)] at e2
    have := hb.2
    omega
  · intro h
    refine prt_ext (Nat.lt_of_le_of_lt Nat.and_le_left ht) h2 (fun k hk => ?_)
    rw [prt_and]
    by_cases hb : bdd sl r k
    · obtain ⟨g1, g2⟩ := (h3 k hk).1 ⟨hk, hb⟩
      have e := h k hk hb
      rw [g1, g2, show (31 : Nat) = 2 ^ 5 - 1 from rfl, Nat.and_two_pow_sub_one_eq_mod, Nat.mod_eq_of_lt (prt_lt t k)]
      omega
    · obtain ⟨g1, g2⟩ := (h3 k hk).2 (fun h => hb h.2)
      rw [g1, g2, Nat.and_zero]
theorem c_mw {n p r : Nat} {S : Nat → Int32} {sl : Nat → Nat} (hn : 3 < n) (hp : p < 8) (hr : okR r) (hS : slH S p sl) : ok (f_Table_putMatches_L0 n (lN r) (nI p) S n (0 : Int32) (0 : Int32) (0 : Int32)) (fun o => ∃ m w, o = (nI m, nI w) ∧ mwP sl r 3 m w) := by
  refine lpF (σ := Int32 × Int32) (fun f i s => f_Table_putMatches_L0 n (lN r) (nI p) S f s.1 s.2 (nI i)) (fun i s => ∃ m w, s = (nI m, nI w) ∧ mwP sl r i m w) 3 _ ?_ ?_ n 0 (0, 0) (by omega) (by omega) ⟨0, 0, rfl, by decide, by decide, fun k hk => ⟨fun h => by omega, fun _ => by
    have h2 : k = 0 ∨ k = 1 ∨ k = 2 := by omega
    rcases h2 with rfl | rfl | rfl <;> exact ⟨rfl, rfl⟩⟩⟩
  · intro f s h
    rw [f_Table_putMatches_L0_s]
    exact ok_t (nI_le (Nat.le_refl 3) (by omega)) (ok_s h)
  · intro f i s hi h ih
    obtain ⟨m, w, rfl, h1, h2, h3⟩ := h
    rw [f_Table_putMatches_L0_s]
    refine ok_f (nI_ge hi (by first | omega | decide)) ?_
    refine ok_bn1 _ (ok_e (c_slot hp hi hS)) (fun z e => ?_)
    subst e
    have hc := (hS i hi).1
    have next0 : ¬ bdd sl r i → mwP sl r (i + 1) m w := fun hb => ⟨h1, h2, fun k hk => ⟨fun h => (h3 k hk).1 ⟨by
      have : k ≠ i := fun e => hb (e ▸ h.2)
      omega, h.2⟩, fun h => (h3 k hk).2 (fun h4 => h ⟨by omega, h4.2⟩)⟩⟩
    refine ok_bn1 (fun z => (sl i < 32 ∧ z = -1) ∨ (32 ≤ sl i ∧ z = nI (fld r (sl i - 32)) - 1)) ?_ (fun z hz => ?_)
    · refine ok_b (sl i < 32) (slv_pos _ hc) (fun h4 => ok_s (Or.inl ⟨h4, rfl⟩)) (fun h4 => ok_s (Or.inr ⟨by omega, ?_⟩))
      rw [slv_ix _ hc (by omega)]
      exact t_term (Nat.lt_trans hr.1 (by decide)) (by omega)
    · rcases hz with ⟨h4, hz⟩ | ⟨h4, hz⟩
      · subst hz
        exact ok_t rfl (ok_nmE (nI_1 i) (ih (nI m, nI w) ⟨m, w, rfl, next0 (fun h => by have := h.1; omega)⟩))
      · subst hz
        have hf := fld_lt r (sl i - 32)
        have hf2 := hr.2 (sl i - 32) (by omega)
        refine ok_b (fld r (sl i - 32) = 0) (tm_none hf) (fun h5 => ?_) (fun h5 => ?_)
        · exact ok_nmE (nI_1 i) (ih (nI m, nI w) ⟨m, w, rfl, next0 (fun h => h.2 h5)⟩)
        · have e3 : nI (fld r (sl i - 32)) - 1 = nI (fld r (sl i - 32) - 1) := by
            have := nI_pred (fld r (sl i - 32) - 1)
            rw [show fld r (sl i - 32) - 1 + 1 = fld r (sl i - 32) by omega] at this
            exact this
          rw [e3, show (31 : Int32) = nI 31 from rfl, t_at (by omega) hi, t_at (by omega) hi, m_or, m_or]
          refine ok_nm (ok_nm (ok_nmE (nI_1 i) (ih (_, _) ⟨_, _, rfl, or_lt (k := 15) h1 (at_lt (by omega) hi), or_lt (k := 15) h2 (at_lt (by omega) hi), fun k hk => ?_⟩)))
          rw [prt_or, prt_or, prt_one (by omega) hi hk, prt_one (by omega) hi hk]
          by_cases e : i = k
          · subst e
            have h6 := (h3 i hk).2 (fun h => by omega)
            rw [h6.1, h6.2, if_pos rfl, if_pos rfl, Nat.zero_or, Nat.zero_or]
            exact ⟨fun _ => ⟨rfl, rfl⟩, fun h => absurd ⟨by omega, h4, h5⟩ h⟩
          · rw [if_neg e, if_neg e, Nat.or_zero, Nat.or_zero]
            exact ⟨fun h => (h3 k hk).1 ⟨by omega, h.2⟩, fun h => (h3 k hk).2 (fun h7 => h ⟨by omega, h7.2⟩)⟩
noncomputable def matB (sl : Nat → Nat) (r t : Nat) : Bool := @decide (matP sl r t) (Classical.propDecidable _)
theorem matB_iff {sl : Nat → Nat} {r t : Nat} : matB sl r t = true ↔ matP sl r t := by
  unfold matB
  exact ⟨fun h => @of_decide_eq_true _ (Classical.propDecidable _) h, fun h => @decide_eq_true _ (Classical.propDecidable _) h⟩
noncomputable def matL (sl : Nat → Nat) (r : Nat) (L : List Nat) : List Nat := (L.filter (matB sl r)).map (fun t => r ||| bndN sl t 3)
theorem matL_snoc {sl : Nat → Nat} {r t : Nat} {L : List Nat} : matL sl r (L ++ [t]) = matL sl r L ++ (if matB sl r t = true then [r ||| bndN sl t 3] else []) := by
  unfold matL
  rw [List.filter_append, List.map_append]
  congr 1
  by_cases h : matB sl r t = true
  · rw [if_pos h, List.filter_cons_of_pos h]
    rfl
  · rw [if_neg h, List.filter_cons_of_neg h]
    rfl
theorem c_putM {n p r : Nat} {S mc ms : Nat → Int32} {sl : Nat → Nat} {L X : List Nat} {fo cr : Int32} {sp : Nat → Int64} (hn : 80 < n) (hp : p < 8) (hr : okR r) (hS : slH S p sl) (hl : L.length ≤ 80) (hlt : ∀ x, x ∈ L → x < 32768) (hmc : mc p = nI L.length) (hms : hI ms (p * 80) L) (h : putP X fo cr sp) :
    ok (f_Table_putMatches n (lN r) (nI p) S mc ms fo cr sp) (fun o => putP (X ++ matL sl r L) o.1 o.2.1 o.2.2) := by
  rw [f_Table_putMatches_u]
  refine ok_bn2 _ (c_mw (by omega) hp hr hS) (fun a b hab => ?_)
  obtain ⟨m, w, e, hmw⟩ := hab
  cases e
  refine ok_nmE (show nI p * (80 : Int32) = nI (p * 80) from pk_mul p 80) ?_
  refine ok_bn3 (fun o => putP (X ++ matL sl r L) o.1 o.2.1 o.2.2) ?_ (fun a b c h => ok_s h)
  refine lpF (σ := Int32 × Int32 × (Nat → Int64)) (fun f i s => f_Table_putMatches_L1 n (lN r) (nI p) S mc ms (nI m) (nI w) (nI (p * 80)) f s.1 s.2.1 s.2.2 (nI (p * 80 + i))) (fun i s => putP (X ++ matL sl r (L.take i)) s.1 s.2.1 s.2.2) L.length _ ?_ ?_ n 0 (fo, cr, sp) (by omega) (by omega) (by simpa [matL] using h)
  · intro f s hI
    rw [f_Table_putMatches_L1_s]
    refine ok_gd p rfl hp (by omega) ?_
    rw [nI_clamp (by omega : p < 2 ^ 31), hmc, nI_add]
    refine ok_t (nI_le (Nat.le_refl _) (by omega)) (ok_s ?_)
    rw [List.take_length] at hI
    exact hI
  · intro f i s hi hI ih
    rw [f_Table_putMatches_L1_s]
    refine ok_gd p rfl hp (by omega) ?_
    rw [nI_clamp (by omega : p < 2 ^ 31), hmc, nI_add]
    refine ok_f (nI_ge (by omega) (by omega)) ?_
    refine ok_gd (p * 80 + i) rfl (by omega) (by omega) ?_
    have hx : L[i]? = some L[i] := List.getElem?_eq_getElem hi
    have hlx := hlt _ (List.getElem_mem hi)
    rw [nI_clamp (by omega : p * 80 + i < 2 ^ 31), hms i _ hx]
    refine ok_nm ?_
    have e2 : L.take (i + 1) = L.take i ++ [L[i]] := List.take_succ_eq_append_getElem hi
    have e3 := matL_snoc (sl := sl) (r := r) (t := L[i]) (L := L.take i)
    rw [nx_and]
    refine ok_b (matP sl r L[i]) ?_ (fun h1 => ?_) (fun h1 => ?_)
    · have h4 : L[i] &&& m ≤ L[i] := Nat.and_le_left
      have h5 := hmw.2.1
      exact (nI_eq (by omega) (by omega)).trans (mw_mat hmw hlx)
    · refine ok_bn1 _ (ok_e (c_bind (by omega) hp hlx hS)) (fun z e => ?_)
      subst e
      have hb := bndN_lt (t := L[i]) (fun k hk => (hS k hk).1) 3 (by omega)
      have hr1 := hr.1
      rw [wb_or (by omega) (by omega)]
      refine ok_bn3 _ (c_put hI) (fun a b c h2 => ?_)
      refine ok_nmE (nI_1 _) (ih (a, b, c) ?_)
      rw [e2, e3, if_pos (matB_iff.mpr h1), ← List.append_assoc]
      exact h2
    · refine ok_nmE (nI_1 _) (ih s ?_)
      rw [e2, e3, if_neg (fun h => h1 (matB_iff.mp h)), List.append_nil]
      exact hI
/-! A row, a step: parents as numbers and one, 0 for none -/
noncomputable def extL (sl : Nat → Nat) (pa p r : Nat) (L : List Nat) : List Nat := if pa ≠ 0 ∧ r.testBit (48 + (pa - 1)) = true then [r ||| 2 ^ (48 + p)] else if pa ≠ 0 ∧ matL sl r L = [] then [r ||| 2 ^ (48 + p)] else matL sl r L
theorem pa_v {c : Nat} (h : c ≠ 0) : nI c - 1 = nI (c - 1) := by
  have := nI_pred (c - 1)
  rw [show c - 1 + 1 = c by omega] at this
  exact this
theorem c_ext {n p r pa : Nat} {S mc ms pr : Nat → Int32} {sl : Nat → Nat} {L X : List Nat} {fo cr : Int32} {sp : Nat → Int64} (hn : 80 < n) (hp : p < 8) (hr : okR r) (hS : slH S p sl) (hl : L.length ≤ 80) (hlt : ∀ x, x ∈ L → x < 32768) (hmc : mc p = nI L.length) (hms : hI ms (p * 80) L) (hpa : pa ≤ 8) (hpr : pr p = nI pa - 1) (h : putP X fo cr sp) :
    ok (f_Table_extend n (lN r) (nI p) pr fo cr sp S mc ms) (fun o => putP (X ++ extL sl pa p r L) o.1 o.2.1 o.2.2) := by
  have hr1 := hr.1
  have hq := p62 hp
  rw [f_Table_extend_u]
  refine ok_gd p rfl hp (by omega) ?_
  rw [nI_clamp (by omega : p < 2 ^ 31), hpr, t_miss hp, wb_or (by omega) (by omega)]
  refine ok_nm ?_
  have put2 := c_putM hn hp hr hS hl hlt hmc hms h
  by_cases p0 : pa = 0
  · refine ok_bd0 (fun _ => True) (ok_t ((tm_none (by omega)).mpr p0) (ok_s trivial)) (fun _ => ?_)
    refine ok_bn3 _ put2 (fun a b c h2 => ok_t ((tm_none (by omega)).mpr p0) (ok_s ?_))
    unfold extL
    rw [if_neg (fun h => h.1 p0), if_neg (fun h => h.1 p0)]
    exact h2
  · have n1 : ¬ nI pa - 1 = (-1 : Int32) := fun e => p0 ((tm_none (by omega)).mp e)
    have hmm := t_missed (r := r) (p := pa - 1) hr1 (by omega)
    refine ok_bd0 (fun _ => ¬ r.testBit (48 + (pa - 1)) = true) ?_ (fun hb => ?_)
    · refine ok_f n1 ?_
      rw [pa_v p0]
      refine ok_b _ (tf_0 hmm) (fun h1 => ok_s h1) (fun h1 => ?_)
      refine ok_bn3 _ (c_put h) (fun a b c h2 => ok_s ?_)
      show putP _ _ _ _
      unfold extL
      rw [if_pos ⟨p0, Classical.not_not.mp h1⟩]
      exact h2
    · refine ok_bn3 _ put2 (fun a b c h2 => ok_f n1 ?_)
      have e1 : extL sl pa p r L = if pa ≠ 0 ∧ matL sl r L = [] then [r ||| 2 ^ (48 + p)] else matL sl r L := by
        unfold extL
        rw [if_neg (fun h => hb h.2)]
      by_cases em : matL sl r L = []
      · have e2 : extL sl pa p r L = [r ||| 2 ^ (48 + p)] := by rw [e1, if_pos ⟨p0, em⟩]
        rw [e2]
        rw [em, List.append_nil] at h2
        have ef : a = fo := by
          rcases h with ⟨g1, g2, g3, g4⟩ | ⟨g1, g2, g3⟩ <;> rcases h2 with ⟨k1, k2, k3, k4⟩ | ⟨k1, k2, k3⟩
          · rw [g3]; exact k3
          · omega
          · omega
          · rw [g3]; exact k3
        refine ok_t ef ?_
        exact ok_bn3 _ (c_put h2) (fun a b c h3 => ok_s h3)
      · have e2 : extL sl pa p r L = matL sl r L := by rw [e1, if_neg (fun h => em h.2)]
        rw [e2]
        refine ok_if (fun ef => ?_) (fun _ => ok_s h2)
        have hlen : 0 < (matL sl r L).length := List.length_pos_iff.mpr em
        refine ok_bn3 _ (c_put h2) (fun a2 b2 c2 h3 => ok_s ?_)
        have hla : (X ++ matL sl r L).length = X.length + (matL sl r L).length := List.length_append
        have big : 500 < (X ++ matL sl r L).length := by
          rcases h with ⟨g1, g2, g3, g4⟩ | ⟨g1, g2, g3⟩
          · rcases h2 with ⟨k1, k2, k3, k4⟩ | ⟨k1, k2, k3⟩
            · rw [ef, g3] at k3
              have := (nI_eq (by omega) (by omega)).mp k3
              omega
            · exact k1
          · omega
        rcases h3 with ⟨k1, k2, k3, k4⟩ | ⟨k1, k2, k3⟩
        · rw [List.length_append] at k1
          omega
        · exact Or.inr ⟨big, k2, k3⟩
/-! A table of rows: none when there was no room -/
def tbl (R : Option (List Nat)) (ct cr : Int32) (rw_ : Nat → Int64) : Prop := (R = none ∧ cr = 1 ∧ ct = 0) ∨ (∃ L, R = some L ∧ cr = 0 ∧ ct = nI L.length ∧ L.length ≤ 500 ∧ hL rw_ L ∧ ∀ r, r ∈ L → okR r)
noncomputable def joinR (sl : Nat → Nat) (pa p : Nat) (M : List Nat) (R : Option (List Nat)) : Option (List Nat) := match R with
  | none => none
  | some L => if (L.flatMap (fun r => extL sl pa p r M)).length ≤ 500 then some (L.flatMap (fun r => extL sl pa p r M)) else none
theorem okR_or {a b : Nat} (ha : okR a) (hb : b < 2 ^ 56) (h : ∀ v, v < 8 → fld b v = 0 ∨ fld b v = fld a v ∨ (fld a v = 0 ∧ fld b v ≤ 32)) : okR (a ||| b) := by
  refine ⟨or_lt ha.1 hb, fun v hv => ?_⟩
  rw [fld_or]
  have h1 := ha.2 v hv
  rcases h v hv with e | e | ⟨e1, e2⟩
  · rw [e, Nat.or_zero]; exact h1
  · rw [e, Nat.or_self]; exact h1
  · rw [e1, Nat.zero_or]; exact e2
theorem fld_one {x j v : Nat} (hx : x < 64) : fld (x * 2 ^ (j * 6)) v = if j = v then x else 0 := by
  unfold fld
  by_cases e : j = v
  · subst e
    rw [if_pos rfl, Nat.mul_div_cancel _ (Nat.two_pow_pos _)]
    exact Nat.mod_eq_of_lt hx
  · rw [if_neg e]
    by_cases l : j < v
    · have h1 : x * 2 ^ (j * 6) < 2 ^ 6 * 2 ^ (j * 6) := Nat.mul_lt_mul_of_pos_right hx (Nat.two_pow_pos _)
      rw [← Nat.pow_add] at h1
      have h2 : 2 ^ (6 + j * 6) ≤ 2 ^ (v * 6) := Nat.pow_le_pow_right (by decide) (by omega)
      rw [Nat.div_eq_of_lt (by omega)]
    · have h1 : 2 ^ (j * 6) = 2 ^ ((j - v - 1) * 6) * 2 ^ 6 * 2 ^ (v * 6) := by
        rw [← Nat.pow_add, ← Nat.pow_add]
        congr 1
        omega
      rw [h1, ← Nat.mul_assoc, Nat.mul_div_cancel _ (Nat.two_pow_pos _), ← Nat.mul_assoc]
      exact Nat.mul_mod_left _ _
theorem fld_0 (v : Nat) : fld 0 v = 0 := by
  unfold fld
  rw [Nat.zero_div]
theorem fld_K {sl : Nat → Nat} {t k v : Nat} : fld (bndK sl t k) v = if sl k = 32 + v then prt t k + 1 else 0 := by
  have h1 := prt_lt t k
  unfold bndK
  by_cases h : 32 ≤ sl k
  · rw [if_pos h, fld_one (by omega)]
    by_cases e : sl k = 32 + v
    · rw [if_pos e, if_pos (by omega)]
    · rw [if_neg e, if_neg (by omega)]
  · rw [if_neg h, if_neg (by omega), fld_0]
theorem fld_B {sl : Nat → Nat} {t v : Nat} : fld (bndN sl t 3) v = (fld (bndK sl t 0) v ||| fld (bndK sl t 1) v) ||| fld (bndK sl t 2) v := by
  show fld (((0 ||| bndK sl t 0) ||| bndK sl t 1) ||| bndK sl t 2) v = _
  rw [Nat.zero_or, fld_or, fld_or]
/-- a place with the variable tells what is bound -/
theorem fld_at {sl : Nat → Nat} {t v k : Nat} (hf : fitP sl t) (hk : k < 3) (e : sl k = 32 + v) : fld (bndN sl t 3) v = prt t k + 1 := by
  have ag : ∀ a b, a < 3 → b < 3 → sl a = 32 + v → sl b = 32 + v → prt t a = prt t b := fun a b ha hb ea eb => by
    rcases Nat.lt_trichotomy a b with h | h | h
    · exact (hf b hb).2 (by omega) a h (by omega)
    · rw [h]
    · exact ((hf a ha).2 (by omega) b h (by omega)).symm
  have each : ∀ a, a < 3 → fld (bndK sl t a) v = prt t k + 1 ∨ (fld (bndK sl t a) v = 0 ∧ a ≠ k) := fun a ha => by
    rw [fld_K]
    by_cases ea : sl a = 32 + v
    · rw [if_pos ea, ag a k ha hk ea e]
      exact Or.inl rfl
    · rw [if_neg ea]
      exact Or.inr ⟨rfl, fun h => ea (h ▸ e)⟩
  rw [fld_B]
  rcases each 0 (by omega) with h0 | ⟨h0, n0⟩ <;> rcases each 1 (by omega) with h1 | ⟨h1, n1⟩ <;> rcases each 2 (by omega) with h2 | ⟨h2, n2⟩ <;> rw [h0, h1, h2] <;> simp only [Nat.or_self, Nat.or_zero, Nat.zero_or]
  omega
theorem fld_no {sl : Nat → Nat} {t v : Nat} (h : ∀ k, k < 3 → sl k ≠ 32 + v) : fld (bndN sl t 3) v = 0 := by
  rw [fld_B, fld_K, fld_K, fld_K, if_neg (h 0 (by omega)), if_neg (h 1 (by omega)), if_neg (h 2 (by omega))]
  rfl
theorem fld_big {r p v : Nat} (hv : v < 8) : fld (2 ^ (48 + p)) v = 0 := by
  unfold fld
  have h1 : 2 ^ (48 + p) = 2 ^ (42 - v * 6 + p) * 2 ^ 6 * 2 ^ (v * 6) := by
    rw [← Nat.pow_add, ← Nat.pow_add]
    congr 1
    omega
  rw [h1, Nat.mul_div_cancel _ (Nat.two_pow_pos _)]
  exact Nat.mul_mod_left _ _
theorem okR_bnd {sl : Nat → Nat} {r t : Nat} (hsl : ∀ k, k < 3 → sl k < 40) (hr : okR r) (hf : fitP sl t) (hm : matP sl r t) : okR (r ||| bndN sl t 3) := by
  have hb := bndN_lt (t := t) hsl 3 (by omega)
  refine okR_or hr (Nat.lt_trans hb (by decide)) (fun v hv => ?_)
  by_cases h : ∃ k, k < 3 ∧ sl k = 32 + v
  · obtain ⟨k, hk, e⟩ := h
    rw [fld_at hf hk e]
    have h1 := prt_lt t k
    by_cases h2 : fld r v = 0
    · exact Or.inr (Or.inr ⟨h2, by omega⟩)
    · have h3 := hm k hk ⟨by omega, by rw [e, Nat.add_sub_cancel_left]; exact h2⟩
      rw [e, Nat.add_sub_cancel_left] at h3
      exact Or.inr (Or.inl h3)
  · exact Or.inl (fld_no (fun k hk e => h ⟨k, hk, e⟩))
theorem okR_miss {r p : Nat} (hr : okR r) (hp : p < 8) : okR (r ||| 2 ^ (48 + p)) :=
  okR_or hr (p62 hp) (fun v hv => Or.inl (fld_big (r := r) hv))
theorem okR_ext {sl : Nat → Nat} {pa p r : Nat} {M : List Nat} (hsl : ∀ k, k < 3 → sl k < 40) (hp : p < 8) (hr : okR r) (hf : ∀ t, t ∈ M → fitP sl t) : ∀ x, x ∈ extL sl pa p r M → okR x := by
  have hm : ∀ x, x ∈ matL sl r M → okR x := fun x hx => by
    unfold matL at hx
    obtain ⟨t, ht, e⟩ := List.mem_map.mp hx
    obtain ⟨ht, hb⟩ := List.mem_filter.mp ht
    subst e
    exact okR_bnd hsl hr (hf t ht) (matB_iff.mp hb)
  intro x hx
  unfold extL at hx
  split at hx
  · rw [List.mem_singleton.mp hx]
    exact okR_miss hr hp
  · split at hx
    · rw [List.mem_singleton.mp hx]
      exact okR_miss hr hp
    · exact hm x hx
theorem flat_len {α β : Type} (f : α → List β) (L : List α) (i : Nat) : ((L.take i).flatMap f).length ≤ (L.flatMap f).length := by
  have h : L.flatMap f = (L.take i).flatMap f ++ (L.drop i).flatMap f := by
    rw [← List.flatMap_append, List.take_append_drop]
  rw [h, List.length_append]
  omega
theorem c_join {n p pa aR aS : Nat} {S mc ms pr : Nat → Int32} {sl : Nat → Nat} {M : List Nat} {R : Option (List Nat)} {ct cr : Int32} {rws sp : Nat → Int64} (hn : 500 < n) (hp : p < 8) (hS : slH S p sl) (hl : M.length ≤ 80) (hlt : ∀ x, x ∈ M → x < 32768) (hfit : ∀ x, x ∈ M → fitP sl x) (hmc : mc p = nI M.length) (hms : hI ms (p * 80) M) (hpa : pa ≤ 8) (hpr : pr p = nI pa - 1) (h : tbl R ct cr rws) :
    ok (f_Table_join n (nI p) aR aS ct cr rws pr sp S mc ms) (fun o => o.1 = aS ∧ o.2.1 = aR ∧ tbl (joinR sl pa p M R) o.2.2.1 o.2.2.2.2.1 o.2.2.2.2.2.1) := by
  rw [f_Table_join_u]
  rcases h with ⟨h1, h2, h3⟩ | ⟨L, h1, h2, h3, h4, h5, h6⟩
  · subst h1 h2 h3
    refine ok_bn3 (fun o => o.2.1 = 1) ?_ (fun a b c e => ?_)
    · obtain ⟨k, rfl⟩ : ∃ k, n = k + 1 := ⟨n - 1, by omega⟩
      rw [f_Table_join_L0_s]
      exact ok_t (by decide) (ok_s rfl)
    · simp only at e
      subst e
      exact ok_f (by decide) (ok_s ⟨rfl, rfl, Or.inl ⟨rfl, rfl, rfl⟩⟩)
  · subst h1 h2 h3
    refine ok_bn3 (fun o => putP (L.flatMap (fun r => extL sl pa p r M)) o.1 o.2.1 o.2.2) ?_ (fun a b c e => ?_)
    · refine lpF (σ := Int32 × Int32 × (Nat → Int64)) (fun f i s => f_Table_join_L0 n (nI p) (nI L.length) rws pr S mc ms f s.1 s.2.1 s.2.2 (nI i)) (fun i s => putP ((L.take i).flatMap (fun r => extL sl pa p r M)) s.1 s.2.1 s.2.2) L.length _ ?_ ?_ n 0 (0, 0, sp) (by omega) (by omega) (Or.inl ⟨by simp, rfl, rfl, by simp; exact hL_nil⟩)
      · intro f s hI
        rw [f_Table_join_L0_s]
        rw [List.take_length] at hI
        exact ok_t (nI_le (Nat.le_refl _) (by omega)) (ok_s hI)
      · intro f i s hi hI ih
        rw [f_Table_join_L0_s]
        refine ok_f (nI_ge hi (by first | omega | decide)) ?_
        refine ok_if (fun c0 => ?_) (fun c0 => ok_s ?_)
        · refine ok_gd i rfl (by omega) (by omega) ?_
          have hx : L[i]? = some L[i] := List.getElem?_eq_getElem hi
          rw [nI_clamp (by omega : i < 2 ^ 31), h5 i _ hx]
          refine ok_bn3 _ (c_ext (by omega) hp (h6 _ (List.getElem_mem hi)) hS hl hlt hmc hms hpa hpr hI) (fun a b c h7 => ?_)
          refine ok_nmE (nI_1 i) (ih (a, b, c) ?_)
          have e2 : L.take (i + 1) = L.take i ++ [L[i]] := List.take_succ_eq_append_getElem hi
          rw [e2, List.flatMap_append, List.flatMap_singleton]
          exact h7
        · have h8 := flat_len (fun r => extL sl pa p r M) L i
          rcases hI with ⟨k1, k2, k3, k4⟩ | ⟨k1, k2, k3⟩
          · exact absurd k2 c0
          · exact Or.inr ⟨by omega, k2, k3⟩
    · rcases e with ⟨k1, k2, k3, k4⟩ | ⟨k1, k2, k3⟩
      · simp only at k2 k3 k4
        refine ok_t k2 (ok_s ⟨rfl, rfl, Or.inr ⟨_, if_pos k1, k2, k3, k1, k4, fun x hx => ?_⟩⟩)
        obtain ⟨r, hr, hx⟩ := List.mem_flatMap.mp hx
        exact okR_ext (fun k hk => (hS k hk).1) hp (h6 r hr) hfit x hx
      · simp only at k2
        refine ok_f (by rw [k2]; decide) (ok_s ⟨rfl, rfl, Or.inl ⟨if_neg (by omega), k2, rfl⟩⟩)
/-! Filters -/
def hldP (k x c : Nat) : Prop := c ≠ 0 ∧ ((k = 0 ∧ c - 1 = x) ∨ (k = 1 ∧ c - 1 ≠ x) ∨ (k = 2 ∧ c - 1 < x) ∨ (k = 3 ∧ x < c - 1))
theorem c_holds {f k x c : Nat} {K V : Nat → Int32} (hf : f < 8) (hk : k < 4) (hx : x < 32) (hc : c < 64) (eK : K f = nI k) (eV : V f = nI x) : ok (f_Filters_holds (nI f) (nI c - 1) K V) (fun o => tf o (hldP k x c)) := by
  rw [f_Filters_holds_u]
  by_cases c0 : c = 0
  · exact ok_t ((tm_none hc).mpr c0) (ok_s (tf_f (fun h => h.1 c0)))
  · refine ok_f (fun e => c0 ((tm_none hc).mp e)) ?_
    rw [pa_v c0]
    refine ok_gd f rfl hf (by omega) ?_
    rw [nI_clamp (by omega : f < 2 ^ 31), eK, eV]
    refine ok_nm ?_
    have h : k = 0 ∨ k = 1 ∨ k = 2 ∨ k = 3 := by omega
    rcases h with rfl | rfl | rfl | rfl
    · refine ok_t (by decide) ?_
      exact ok_b (c - 1 = x) (nI_eq (by omega) (by omega)) (fun h => ok_s (tf_t ⟨c0, by omega⟩)) (fun h => ok_s (tf_f (fun g => by have := g.2; omega)))
    · refine ok_f (by decide) (ok_t (by decide) ?_)
      exact ok_b (c - 1 = x) (nI_eq (by omega) (by omega)) (fun h => ok_s (tf_f (fun g => by have := g.2; omega))) (fun h => ok_s (tf_t ⟨c0, by omega⟩))
    · refine ok_f (by decide) (ok_f (by decide) (ok_t (by decide) ?_))
      exact ok_b (x ≤ c - 1) (nI_leI (by omega) (by omega)) (fun h => ok_s (tf_f (fun g => by have := g.2; omega))) (fun h => ok_s (tf_t ⟨c0, by omega⟩))
    · refine ok_f (by decide) (ok_f (by decide) (ok_f (by decide) ?_))
      exact ok_b (c - 1 ≤ x) (nI_leI (by omega) (by omega)) (fun h => ok_s (tf_f (fun g => by have := g.2; omega))) (fun h => ok_s (tf_t ⟨c0, by omega⟩))
def FL (nf : Nat) (fv fk fx : Nat → Nat) (V K X : Nat → Int32) : Prop := nf ≤ 8 ∧ ∀ f, f < nf → fv f < 8 ∧ fk f < 4 ∧ fx f < 32 ∧ V f = nI (fv f) ∧ K f = nI (fk f) ∧ X f = nI (fx f)
def allP (nf : Nat) (fv fk fx : Nat → Nat) (set r : Nat) : Prop := ∀ f, f < nf → set.testBit f = true → hldP (fk f) (fx f) (fld r (fv f))
theorem c_all {n nf set r : Nat} {fv fk fx : Nat → Nat} {V K X : Nat → Int32} (hn : 8 < n) (hF : FL nf fv fk fx V K X) (hs : set < 2 ^ 31) (hr : okR r) : ok (f_Filters_allHold n (nI set) (lN r) (nI nf) V K X) (fun o => tf o (allP nf fv fk fx set r)) := by
  obtain ⟨hnf, hF⟩ := hF
  rw [f_Filters_allHold_u]
  refine ok_bd0 (fun _ => allP nf fv fk fx set r) ?_ (fun h => ok_s (tf_t h))
  refine lpU (fun f i => f_Filters_allHold_L0 n (nI set) (lN r) (nI nf) V K X f (nI i)) (fun i => ∀ f, f < i → set.testBit f = true → hldP (fk f) (fx f) (fld r (fv f))) nf _ ?_ ?_ n 0 (by omega) (by omega) (fun e h => by omega)
  · intro f h
    rw [f_Filters_allHold_L0_s]
    exact ok_t (nI_le (Nat.le_refl _) (by omega)) (ok_s h)
  · intro f i hi h ih
    obtain ⟨g1, g2, g3, g4, g5, g6⟩ := hF i hi
    rw [f_Filters_allHold_L0_s]
    refine ok_f (nI_ge hi (by first | omega | decide)) ?_
    have hm := m_in (m := set) (p := i) hs (by omega)
    have step : (set.testBit i = true → hldP (fk i) (fx i) (fld r (fv i))) → ∀ f, f < i + 1 → set.testBit f = true → hldP (fk f) (fx f) (fld r (fv f)) := fun h1 f hf hb => by
      by_cases e : f = i
      · subst e; exact h1 hb
      · exact h f (by omega) hb
    refine ok_b _ (tf_0 hm) (fun h1 => ok_nmE (nI_1 i) (ih (step (fun h2 => absurd h2 h1)))) (fun h1 => ?_)
    refine ok_gd i rfl (by omega) (by omega) ?_
    rw [nI_clamp (by omega : i < 2 ^ 31), g4, t_term (Nat.lt_trans hr.1 (by decide)) g1]
    refine ok_bn1 _ (c_holds (by omega) g2 g3 (fld_lt _ _) g5 g6) (fun o ho => ?_)
    refine ok_b _ (tf_0 ho) (fun h2 => ok_s (tf_f (fun h3 => h2 (h3 i hi (Classical.not_not.mp h1))))) (fun h2 => ?_)
    exact ok_nmE (nI_1 i) (ih (step (fun _ => Classical.not_not.mp h2)))
noncomputable def allB (nf : Nat) (fv fk fx : Nat → Nat) (set r : Nat) : Bool := @decide (allP nf fv fk fx set r) (Classical.propDecidable _)
theorem allB_iff {nf : Nat} {fv fk fx : Nat → Nat} {set r : Nat} : allB nf fv fk fx set r = true ↔ allP nf fv fk fx set r := by
  unfold allB
  exact ⟨fun h => @of_decide_eq_true _ (Classical.propDecidable _) h, fun h => @decide_eq_true _ (Classical.propDecidable _) h⟩
noncomputable def siftR (nf : Nat) (fv fk fx : Nat → Nat) (set : Nat) (R : Option (List Nat)) : Option (List Nat) := R.map (fun L => L.filter (allB nf fv fk fx set))
theorem filter_snoc {α : Type} (B : α → Bool) (L : List α) (x : α) : (L ++ [x]).filter B = L.filter B ++ (if B x = true then [x] else []) := by
  rw [List.filter_append]
  congr 1
  by_cases h : B x = true
  · rw [if_pos h, List.filter_cons_of_pos h, List.filter_nil]
  · rw [if_neg h, List.filter_cons_of_neg h, List.filter_nil]
theorem c_sift {n nf set : Nat} {fv fk fx : Nat → Nat} {V K X : Nat → Int32} {R : Option (List Nat)} {ct cr : Int32} {rws : Nat → Int64} (hn : 500 < n) (hF : FL nf fv fk fx V K X) (hs : set < 2 ^ 31) (h : tbl R ct cr rws) :
    ok (f_Table_sift n (nI set) ct rws (nI nf) V K X) (fun o => tbl (siftR nf fv fk fx set R) o.1 cr o.2) := by
  rw [f_Table_sift_u]
  by_cases s0 : set = 0
  · subst s0
    refine ok_t rfl (ok_s ?_)
    have e : ∀ L : List Nat, L.filter (allB nf fv fk fx 0) = L := fun L => List.filter_eq_self.mpr (fun r _ => allB_iff.mpr (fun f _ hb => by rw [Nat.zero_testBit] at hb; exact absurd hb Bool.false_ne_true))
    rcases h with ⟨h1, h2, h3⟩ | ⟨L, h1, h2⟩
    · subst h1
      exact Or.inl ⟨rfl, h2, h3⟩
    · subst h1
      exact Or.inr ⟨L, congrArg some (e L), h2⟩
  · refine ok_f (nI_ne0 (by omega) hs) ?_
    rcases h with ⟨h1, h2, h3⟩ | ⟨L, h1, h2, h3, h4, h5, h6⟩
    · subst h1 h3
      refine ok_bn2 (fun o => o.2 = 0) ?_ (fun a b e => ok_s (Or.inl ⟨rfl, h2, e⟩))
      obtain ⟨k, rfl⟩ : ∃ k, n = k + 1 := ⟨n - 1, by omega⟩
      rw [f_Table_sift_L0_s]
      exact ok_t (by decide) (ok_s rfl)
    · subst h1 h3
      let B := allB nf fv fk fx set
      refine ok_bn2 (fun o => o.2 = nI (L.filter B).length ∧ hL o.1 (L.filter B)) ?_ (fun a b e => ok_s (Or.inr ⟨L.filter B, rfl, h2, e.1, Nat.le_trans (List.length_filter_le _ _) h4, e.2, fun r hr => h6 r (List.mem_filter.mp hr).1⟩))
      refine lpF (σ := (Nat → Int64) × Int32) (fun f i s => f_Table_sift_L0 n (nI set) (nI L.length) (nI nf) V K X f s.1 s.2 (nI i)) (fun i s => s.2 = nI ((L.take i).filter B).length ∧ hL s.1 ((L.take i).filter B) ∧ ∀ j t, i ≤ j → L[j]? = some t → s.1 j = lN t) L.length _ ?_ ?_ n 0 (rws, 0) (by omega) (by omega) ⟨by simp; rfl, by simp; exact hL_nil, fun j t _ ht => h5 j t ht⟩
      · intro f s hI
        rw [f_Table_sift_L0_s]
        rw [List.take_length] at hI
        exact ok_t (nI_le (Nat.le_refl _) (by omega)) (ok_s ⟨hI.1, hI.2.1⟩)
      · intro f i s hi hI ih
        obtain ⟨Rw, lf⟩ := s
        obtain ⟨k1, k2, k3⟩ := hI
        simp only at k1 k2 k3
        rw [f_Table_sift_L0_s]
        dsimp only
        refine ok_f (nI_ge hi (by first | omega | decide)) ?_
        refine ok_gd i rfl (by omega) (by omega) ?_
        have hx : L[i]? = some L[i] := List.getElem?_eq_getElem hi
        have hfl : ((L.take i).filter B).length ≤ i := by
          have g1 := List.length_filter_le B (L.take i)
          have g2 := List.length_take_le i L
          omega
        rw [nI_clamp (by omega : i < 2 ^ 31), k3 i _ (Nat.le_refl i) hx]
        have e2 : L.take (i + 1) = L.take i ++ [L[i]] := List.take_succ_eq_append_getElem hi
        refine ok_bn1 _ (c_all (by omega) hF hs (h6 _ (List.getElem_mem hi))) (fun o ho => ?_)
        refine ok_b _ (tf_0 ho) (fun h7 => ?_) (fun h7 => ?_)
        · refine ok_nmE (nI_1 i) (ih (Rw, lf) ?_)
          rw [e2, filter_snoc, if_neg (fun h => h7 (allB_iff.mp h)), List.append_nil]
          exact ⟨k1, k2, fun j t hj ht => k3 j t (by omega) ht⟩
        · refine ok_nm ?_
          subst k1
          refine ok_gd _ rfl (show _ < 500 by omega) (by omega) ?_
          rw [nI_clamp (by omega : ((L.take i).filter B).length < 2 ^ 31)]
          refine ok_nm (ok_nmE (nI_1 _) (ok_nmE (nI_1 i) (ih (_, _) ?_)))
          rw [e2, filter_snoc, if_pos (allB_iff.mpr (Classical.not_not.mp h7))]
          refine ⟨by rw [List.length_append]; rfl, hL_push k2, fun j t hj ht => ?_⟩
          exact Eq.trans (pk_uLn (f := Rw) (k := ((L.take i).filter B).length) (x := lN L[i]) (j := j) (by omega)) (k3 j t (by omega) ht)
