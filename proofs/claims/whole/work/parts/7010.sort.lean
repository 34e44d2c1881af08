/-! Counts of a table's values; its own sort -/
def cnt (f : Nat → Int64) : Nat → Int64 → Nat
  | 0, _ => 0
  | n + 1, x => cnt f n x + (if f n = x then 1 else 0)
theorem cnt_congr {f g : Nat → Int64} : ∀ n, (∀ i, i < n → f i = g i) → ∀ x, cnt f n x = cnt g n x := by
  intro n
  induction n with
  | zero => intro _ _; rfl
  | succ n ih =>
    intro h x
    show cnt f n x + _ = cnt g n x + _
    rw [ih (fun i hi => h i (by omega)) x, h n (by omega)]
theorem uL_s {f : Nat → Int64} {k : Nat} {v : Int64} : vp_updL f k v k = v := pk_uLs
theorem uL_n {f : Nat → Int64} {k j : Nat} {v : Int64} (h : j ≠ k) : vp_updL f k v j = f j := pk_uLn h
theorem cnt_upd (f : Nat → Int64) (k : Nat) (v x : Int64) : ∀ n, k < n → cnt (vp_updL f k v) n x + (if f k = x then 1 else 0) = cnt f n x + (if v = x then 1 else 0) := by
  intro n
  induction n with
  | zero => intro h; omega
  | succ n ih =>
    intro h
    show cnt (vp_updL f k v) n x + (if vp_updL f k v n = x then 1 else 0) + _ = cnt f n x + (if f n = x then 1 else 0) + _
    by_cases e : k = n
    · subst e
      rw [cnt_congr (f := vp_updL f k v) (g := f) k (fun i hi => uL_n (by omega)) x, uL_s]
      omega
    · have h2 := ih (by omega)
      rw [uL_n (f := f) (k := k) (v := v) (j := n) (by omega)]
      omega
theorem cnt_pos {f : Nat → Int64} {i : Nat} {x : Int64} : ∀ n, i < n → f i = x → 0 < cnt f n x := by
  intro n
  induction n with
  | zero => intro h; omega
  | succ n ih =>
    intro h e
    show 0 < cnt f n x + (if f n = x then 1 else 0)
    by_cases h2 : i = n
    · subst h2
      rw [if_pos e]
      omega
    · have := ih (by omega) e
      omega
theorem cnt_zero {f : Nat → Int64} {x : Int64} : ∀ n, (∀ i, i < n → f i ≠ x) → cnt f n x = 0 := by
  intro n
  induction n with
  | zero => intro _; rfl
  | succ n ih =>
    intro h
    show cnt f n x + (if f n = x then 1 else 0) = 0
    rw [ih (fun i hi => h i (by omega)), if_neg (h n (by omega))]
def srt (f : Nat → Int64) (n : Nat) : Prop := ∀ a b, a ≤ b → b < n → (f a).toInt ≤ (f b).toInt
/-- two sorted tables of the same counts are the same -/
theorem srt_eq {f g : Nat → Int64} : ∀ n, srt f n → srt g n → (∀ x, cnt f n x = cnt g n x) → ∀ i, i < n → f i = g i := by
  intro n
  induction n with
  | zero => intro _ _ _ i h; omega
  | succ n ih =>
    intro hf hg hc
    have top : f n = g n := by
      by_cases e : f n = g n
      · exact e
      · have e2 : (f n).toInt ≠ (g n).toInt := fun h => e (Int64.toInt_inj.mp h)
        by_cases l : (f n).toInt < (g n).toInt
        · have h1 : cnt f (n + 1) (g n) = 0 := cnt_zero (n + 1) (fun i hi h => by
            have := hf i n (by omega) (by omega)
            rw [h] at this
            omega)
          have h2 : 0 < cnt g (n + 1) (g n) := cnt_pos (n + 1) (i := n) (by omega) rfl
          rw [← hc, h1] at h2
          omega
        · have h1 : cnt g (n + 1) (f n) = 0 := cnt_zero (n + 1) (fun i hi h => by
            have := hg i n (by omega) (by omega)
            rw [h] at this
            omega)
          have h2 : 0 < cnt f (n + 1) (f n) := cnt_pos (n + 1) (i := n) (by omega) rfl
          rw [hc, h1] at h2
          omega
    have low := ih (fun a b h1 h2 => hf a b h1 (by omega)) (fun a b h1 h2 => hg a b h1 (by omega)) (fun x => by
      have := hc x
      have e1 : cnt f (n + 1) x = cnt f n x + (if f n = x then 1 else 0) := rfl
      have e2 : cnt g (n + 1) x = cnt g n x + (if g n = x then 1 else 0) := rfl
      rw [e1, e2, top] at this
      omega)
    intro i hi
    by_cases h : i = n
    · subst h; exact top
    · exact low i (by omega)
theorem l_le {x y : Int64} : x ≤ y ↔ x.toInt ≤ y.toInt := Int64.le_iff_toInt_le
/-- one insertion, with steps of g -/
theorem so_2 {n g N i : Nat} (hg : 1 ≤ g) (hg5 : g ≤ 500) (hN : N ≤ 500) (hi : i < N) (v : Int64) (Z0 : Nat → Int64) (c0 : Int64 → Nat)
    (h0 : ∀ x, cnt (vp_updL Z0 i v) N x = c0 x) (hs0 : g = 1 → srt Z0 i) :
    ∀ k, 500 < k → ok (f_Table_sort_L2 n (nI g) v k Z0 (nI i)) (fun r => ∃ a, a ≤ i ∧ r.2 = nI a ∧ (∀ x, cnt (vp_updL r.1 a v) N x = c0 x) ∧ (g = 1 → srt (vp_updL r.1 a v) (i + 1))) := by
  intro k hk
  refine lpM (σ := (Nat → Int64) × Nat) (fun k s => f_Table_sort_L2 n (nI g) v k s.1 (nI s.2)) (fun s => s.2 ≤ i ∧ (∀ x, cnt (vp_updL s.1 s.2 v) N x = c0 x) ∧ (g = 1 → (∀ a b, a ≤ b → b ≤ i → a ≠ s.2 → b ≠ s.2 → (s.1 a).toInt ≤ (s.1 b).toInt) ∧ (∀ b, s.2 < b → b ≤ i → v.toInt ≤ (s.1 b).toInt))) (fun s => s.2) _ ?_ k (Z0, i) ⟨Nat.le_refl i, h0, fun e => ⟨fun a b h1 h2 h3 h4 => hs0 e a b h1 (by show b < i; simp only at h4; omega), fun b h1 h2 => by simp only at h1; omega⟩⟩ (by show i < k; omega)
  intro k s hI ih
  obtain ⟨Z, a⟩ := s
  obtain ⟨ha, hc, hs⟩ := hI
  simp only at ha hc hs ih ⊢
  rw [f_Table_sort_L2_s]
  refine ok_b (a < g) (nI_ltI (by omega) (by omega)) (fun h => ?_) (fun h => ?_)
  · refine ok_s ⟨a, ha, rfl, hc, fun e => ?_⟩
    obtain ⟨h1, h2⟩ := hs e
    intro p q hpq hq
    by_cases hp : p = a
    · by_cases hq2 : q = a
      · rw [hp, hq2]; exact Int.le_refl _
      · rw [hp, uL_s, uL_n hq2]; exact h2 q (by omega) (by omega)
    · by_cases hq2 : q = a
      · omega
      · rw [uL_n hp, uL_n hq2]; exact h1 p q hpq (by omega) hp hq2
  · rw [pk_sub (by omega)]
    refine ok_gd (a - g) rfl (by omega) (by omega) ?_
    rw [nI_clamp (by omega : a - g < 2 ^ 31), nI_clamp (by omega : a < 2 ^ 31)]
    refine ok_b ((Z (a - g)).toInt ≤ v.toInt) ((lg_cmp_le _ _).trans l_le) (fun hle => ?_) (fun hle => ?_)
    · refine ok_s ⟨a, ha, rfl, hc, fun e => ?_⟩
      obtain ⟨h1, h2⟩ := hs e
      intro p q hpq hq
      by_cases hp : p = a
      · by_cases hq2 : q = a
        · rw [hp, hq2]; exact Int.le_refl _
        · rw [hp, uL_s, uL_n hq2]; exact h2 q (by omega) (by omega)
      · by_cases hq2 : q = a
        · rw [hq2, uL_s, uL_n hp]
          have h3 := h1 p (a - g) (by omega) (by omega) hp (by omega)
          show (Z p).toInt ≤ v.toInt
          omega
        · rw [uL_n hp, uL_n hq2]; exact h1 p q hpq (by omega) hp hq2
    · refine ok_nm ?_
      refine ok_gd a rfl (by omega) (by omega) ?_
      refine ok_nm (ok_nm ?_)
      refine ih (vp_updL Z a (Z (a - g)), a - g) ⟨by show a - g ≤ i; omega, fun x => ?_, fun e => ?_⟩ (by show a - g < a; omega)
      · have e1 := cnt_upd (vp_updL Z a (Z (a - g))) (a - g) v x N (by omega)
        have e2 := cnt_upd Z a (Z (a - g)) x N (by omega)
        have e3 := cnt_upd Z a v x N (by omega)
        rw [uL_n (f := Z) (k := a) (v := Z (a - g)) (j := a - g) (by omega)] at e1
        have e4 := hc x
        show cnt (vp_updL (vp_updL Z a (Z (a - g))) (a - g) v) N x = c0 x
        omega
      · obtain ⟨h1, h2⟩ := hs e
        refine ⟨fun p q hpq hq hp hq2 => ?_, fun b hb1 hb2 => ?_⟩
        · simp only at hp hq2 ⊢
          by_cases ep : p = a
          · by_cases eq : q = a
            · rw [ep, eq]; exact Int.le_refl _
            · rw [ep, uL_s, uL_n eq]; exact h1 (a - g) q (by omega) hq (by omega) eq
          · by_cases eq : q = a
            · rw [eq, uL_s, uL_n ep]; exact h1 p (a - g) (by omega) (by omega) ep (by omega)
            · rw [uL_n ep, uL_n eq]; exact h1 p q hpq hq ep eq
        · simp only at hb1 ⊢
          by_cases eb : b = a
          · rw [eb, uL_s]; omega
          · rw [uL_n eb]; exact h2 b (by omega) hb2
/-- one pass with steps of g -/
theorem so_1 {n g N : Nat} (hn : 500 < n) (hg : 1 ≤ g) (hN : N ≤ 500) (hgN : g ≤ N) (Z0 : Nat → Int64) (c0 : Int64 → Nat) (h0 : ∀ x, cnt Z0 N x = c0 x) :
    ok (f_Table_sort_L1 n (nI N) (nI g) n Z0 (nI g)) (fun Z => (∀ x, cnt Z N x = c0 x) ∧ (g = 1 → srt Z N)) := by
  refine lpF (σ := Nat → Int64) (fun k i Z => f_Table_sort_L1 n (nI N) (nI g) k Z (nI i)) (fun i Z => (∀ x, cnt Z N x = c0 x) ∧ (g = 1 → srt Z i)) N _ ?_ ?_ n g Z0 hgN (by omega) ⟨h0, fun e a b h1 h2 => by
    have : a = b := by omega
    rw [this]
    exact Int.le_refl _⟩
  · intro k Z hI
    rw [f_Table_sort_L1_s]
    exact ok_t (nI_le (Nat.le_refl N) (by omega)) (ok_s hI)
  · intro k i Z hi hI ih
    rw [f_Table_sort_L1_s]
    refine ok_f (nI_ge hi (by first | omega | decide)) ?_
    refine ok_gd i rfl (by omega) (by omega) ?_
    rw [nI_clamp (by omega : i < 2 ^ 31)]
    refine ok_nm ?_
    have hcu : ∀ x, cnt (vp_updL Z i (Z i)) N x = c0 x := fun x => by
      have := cnt_upd Z i (Z i) x N hi
      have h2 := hI.1 x
      omega
    refine ok_bn2 _ (so_2 (n := n) hg (by omega) hN hi (Z i) Z c0 hcu hI.2 n hn) ?_
    intro Z1 x6 hr
    obtain ⟨a, ha, e, hc, hs⟩ := hr
    simp only at e hc hs
    refine ok_gd a e (by omega) (by omega) ?_
    subst e
    rw [nI_clamp (by omega : a < 2 ^ 31)]
    refine ok_nm ?_
    refine ok_nmE (nI_1 i) ?_
    exact ih _ ⟨hc, hs⟩
theorem so_0 {n N : Nat} (hn : 500 < n) (hN : N ≤ 500) (Z0 : Nat → Int64) :
    ok (f_Table_sort n (nI N) Z0) (fun Z => (∀ x, cnt Z N x = cnt Z0 N x) ∧ srt Z N) := by
  rw [f_Table_sort_u]
  refine ok_nmE (show nI N / (2 : Int32) = nI (N / 2) from pk_div (d := 2) (by omega) (by omega) (by omega)) ?_
  refine ok_bn1 (fun Z => (∀ x, cnt Z N x = cnt Z0 N x) ∧ srt Z N) ?_ (fun Z h => ok_s h)
  refine lpM (σ := (Nat → Int64) × Nat) (fun k s => f_Table_sort_L0 n (nI N) k s.1 (nI s.2)) (fun s => s.2 ≤ N ∧ (∀ x, cnt s.1 N x = cnt Z0 N x) ∧ (s.2 = 0 → srt s.1 N)) (fun s => s.2) _ ?_ n (Z0, N / 2) ⟨by show N / 2 ≤ N; omega, fun _ => rfl, fun e a b h1 h2 => by
    simp only at e
    have : a = b := by omega
    rw [this]
    exact Int.le_refl _⟩ (by show N / 2 < n; omega)
  intro k s hI ih
  obtain ⟨Z, g⟩ := s
  obtain ⟨hg, hc, hs⟩ := hI
  simp only at hg hc hs ih ⊢
  rw [f_Table_sort_L0_s]
  refine ok_b (g ≤ 0) (nI_leI (b := 0) (by omega) (by omega)) (fun h => ?_) (fun h => ?_)
  · exact ok_s ⟨hc, hs (by omega)⟩
  · refine ok_bn1 _ (so_1 hn (by omega) hN hg Z _ hc) ?_
    intro Z1 h1
    refine ok_nmE (show nI g / (2 : Int32) = nI (g / 2) from pk_div (d := 2) (by omega) (by omega) (by omega)) ?_
    exact ih (Z1, g / 2) ⟨by show g / 2 ≤ N; omega, h1.1, fun e => h1.2 (by simp only at e; omega)⟩ (by show g / 2 < g; omega)
