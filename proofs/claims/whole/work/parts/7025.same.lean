/-! Whether two tables bind the same, in any order -/
def msk (r : Nat) : Nat := r % 2 ^ 48
theorem cnt_take {f : Nat → Int64} {L : List Nat} (h : hL f L) (y : Int64) : ∀ i, i ≤ L.length → cnt f i y = ((L.take i).filter (fun r => decide (lN r = y))).length := by
  intro i
  induction i with
  | zero => intro _; rfl
  | succ i ih =>
    intro hi
    have hx : L[i]? = some L[i] := List.getElem?_eq_getElem (by omega)
    rw [List.take_succ_eq_append_getElem (by omega), filter_snoc, List.length_append, ← ih (by omega)]
    show cnt f i y + (if f i = y then 1 else 0) = _
    rw [h i _ hx]
    by_cases e : lN L[i] = y
    · rw [if_pos e, if_pos (decide_eq_true e)]
      rfl
    · rw [if_neg e, if_neg (fun h => e (of_decide_eq_true h))]
      rfl
theorem cnt_list {f : Nat → Int64} {L : List Nat} (h : hL f L) (y : Int64) : cnt f L.length y = (L.filter (fun r => decide (lN r = y))).length := by
  rw [cnt_take h y L.length (Nat.le_refl _), List.take_length]
theorem cnt_perm {f g : Nat → Int64} {L M : List Nat} (hf : hL f L) (hg : hL g M) (e : L.length = M.length) (hL' : ∀ r, r ∈ L → r < 2 ^ 63) (hM' : ∀ r, r ∈ M → r < 2 ^ 63) : (∀ y, cnt f L.length y = cnt g L.length y) ↔ L.Perm M := by
  constructor
  · intro h
    rw [List.perm_iff_count]
    intro x
    have key : ∀ N : List Nat, (∀ r, r ∈ N → r < 2 ^ 63) → x < 2 ^ 63 → List.count x N = (N.filter (fun r => decide (lN r = lN x))).length := fun N hN hx => by
      rw [List.count_eq_length_filter]
      congr 1
      apply List.filter_congr
      intro r hr
      have := pk_lEQ (hN r hr) hx
      by_cases e2 : r = x
      · subst e2
        simp
      · rw [decide_eq_false (fun h => e2 (this.mp h))]
        simpa using e2
    by_cases hx : x < 2 ^ 63
    · have h2 := h (lN x)
      rw [cnt_list hf, e, cnt_list hg] at h2
      rw [key L hL' hx, key M hM' hx, h2]
    · rw [List.count_eq_zero.mpr (fun h => hx (hL' x h)), List.count_eq_zero.mpr (fun h => hx (hM' x h))]
  · intro h y
    rw [cnt_list hf, e, cnt_list hg]
    exact (h.filter _).length_eq
theorem c_mask {n : Nat} {LB LC : List Nat} {Br Cr Bs : Nat → Int64} (hn : 500 < n) (e : LB.length = LC.length) (hl : LB.length ≤ 500) (hB : hL Br LB) (hC : hL Cr LC) (oB : ∀ r, r ∈ LB → r < 2 ^ 56) (oC : ∀ r, r ∈ LC → r < 2 ^ 56) :
    ok (f_Table_bindsTheSame_L0 n (nI LB.length) Cr n Br Bs (0 : Int32)) (fun o => hL o.1 (LB.map msk) ∧ hL o.2 (LC.map msk)) := by
  refine lpF (σ := (Nat → Int64) × (Nat → Int64)) (fun f i s => f_Table_bindsTheSame_L0 n (nI LB.length) Cr f s.1 s.2 (nI i)) (fun i s => (∀ j t, LB[j]? = some t → (j < i → s.1 j = lN (msk t)) ∧ (i ≤ j → s.1 j = lN t)) ∧ (∀ j t, LC[j]? = some t → j < i → s.2 j = lN (msk t))) LB.length _ ?_ ?_ n 0 (Br, Bs) (by omega) (by omega) ⟨fun j t h => ⟨fun h2 => by omega, fun _ => hB j t h⟩, fun j t h h2 => by omega⟩
  · intro f s hI
    rw [f_Table_bindsTheSame_L0_s]
    refine ok_t (nI_le (Nat.le_refl _) (by omega)) (ok_s ⟨fun i t h => ?_, fun i t h => ?_⟩)
    · rw [List.getElem?_map] at h
      obtain ⟨u, hu, eu⟩ := Option.map_eq_some_iff.mp h
      subst eu
      exact (hI.1 i u hu).1 (List.getElem?_eq_some_iff.mp hu).1
    · rw [List.getElem?_map] at h
      obtain ⟨u, hu, eu⟩ := Option.map_eq_some_iff.mp h
      subst eu
      exact hI.2 i u hu (by rw [e]; exact (List.getElem?_eq_some_iff.mp hu).1)
  · intro f i s hi hI ih
    obtain ⟨X, Y⟩ := s
    obtain ⟨h1, h2⟩ := hI
    simp only at h1 h2
    rw [f_Table_bindsTheSame_L0_s]
    dsimp only
    refine ok_f (nI_ge hi (by first | omega | decide)) ?_
    refine ok_gd i rfl (by omega) (by omega) ?_
    have hxB : LB[i]? = some LB[i] := List.getElem?_eq_getElem hi
    have hiC : i < LC.length := by omega
    have hxC : LC[i]? = some LC[i] := List.getElem?_eq_getElem hiC
    have b1 := oB _ (List.getElem_mem hi)
    have b2 := oC _ (List.getElem_mem hiC)
    rw [nI_clamp (by omega : i < 2 ^ 31), (h1 i _ hxB).2 (Nat.le_refl i), hC i _ hxC, show (281474976710655 : Int64) = lN (2 ^ 48 - 1) from rfl, wb_mask (by omega) (by omega), wb_mask (by omega) (by omega)]
    refine ok_nm (ok_nm (ok_nm (ok_nm (ok_nmE (nI_1 i) (ih (vp_updL X i (lN (LB[i] % 2 ^ 48)), vp_updL Y i (lN (LC[i] % 2 ^ 48))) ⟨fun j t h => ⟨fun h3 => ?_, fun h3 => ?_⟩, fun j t h h3 => ?_⟩)))))
    · simp only
      by_cases ej : j = i
      · subst ej
        rw [hxB] at h
        cases h
        rw [pk_uLs]
        rfl
      · rw [pk_uLn ej]
        exact (h1 j t h).1 (by omega)
    · simp only
      rw [pk_uLn (by omega)]
      exact (h1 j t h).2 (by omega)
    · simp only
      by_cases ej : j = i
      · subst ej
        rw [hxC] at h
        cases h
        rw [pk_uLs]
        rfl
      · rw [pk_uLn ej]
        exact h2 j t h (by omega)
theorem msk_lt (r : Nat) : msk r < 2 ^ 63 := Nat.lt_trans (Nat.mod_lt _ (by decide)) (by decide)
theorem c_same {n : Nat} {LB LC : List Nat} {Br Cr Bs : Nat → Int64} (hn : 500 < n) (hlB : LB.length ≤ 500) (hlC : LC.length ≤ 500) (hB : hL Br LB) (hC : hL Cr LC) (oB : ∀ r, r ∈ LB → r < 2 ^ 56) (oC : ∀ r, r ∈ LC → r < 2 ^ 56) :
    ok (f_Table_bindsTheSame n (nI LB.length) (nI LC.length) Br Cr Bs) (fun o => tf o.1 ((LB.map msk).Perm (LC.map msk))) := by
  rw [f_Table_bindsTheSame_u]
  refine ok_b (LB.length = LC.length) (nI_eq (by omega) (by omega)) (fun e => ?_) (fun e => ok_s (tf_f (fun h => e (by have := h.length_eq; simpa using this))))
  refine ok_bn2 _ (c_mask hn e hlB hB hC oB oC) (fun X Y hXY => ?_)
  obtain ⟨hX, hY⟩ := hXY
  simp only at hX hY
  refine ok_bn1 _ (so_0 hn hlB X) (fun X2 h1 => ?_)
  refine ok_bn1 _ (so_0 hn hlB Y) (fun Y2 h2 => ?_)
  have lB : (LB.map msk).length = LB.length := List.length_map ..
  have lC : (LC.map msk).length = LC.length := List.length_map ..
  have key := cnt_perm (f := X) (g := Y) hX hY (by rw [lB, lC, e]) (fun r hr => by
    obtain ⟨u, -, eu⟩ := List.mem_map.mp hr
    subst eu
    exact msk_lt u) (fun r hr => by
    obtain ⟨u, -, eu⟩ := List.mem_map.mp hr
    subst eu
    exact msk_lt u)
  rw [lB] at key
  refine ok_bd0 (fun _ => ∀ j, j < LB.length → X2 j = Y2 j) ?_ (fun h => ok_s (tf_t (key.mp (fun y => ?_))))
  · refine lpU (fun f i => f_Table_bindsTheSame_L1 n (nI LB.length) X2 Y2 f (nI i)) (fun i => ∀ j, j < i → X2 j = Y2 j) LB.length _ ?_ ?_ n 0 (by omega) (by omega) (fun j h => by omega)
    · intro f h
      rw [f_Table_bindsTheSame_L1_s]
      exact ok_t (nI_le (Nat.le_refl _) (by omega)) (ok_s h)
    · intro f i hi h ih
      rw [f_Table_bindsTheSame_L1_s]
      refine ok_f (nI_ge hi (by first | omega | decide)) ?_
      refine ok_gd i rfl (by omega) (by omega) ?_
      rw [nI_clamp (by omega : i < 2 ^ 31)]
      refine ok_b (X2 i = Y2 i) (lg_cmp_eq _ _) (fun h3 => ?_) (fun h3 => ok_s (tf_f (fun hp => ?_)))
      · refine ok_nmE (nI_1 i) (ih (fun j hj => ?_))
        by_cases ej : j = i
        · rw [ej]; exact h3
        · exact h j (by omega)
      · have h4 := key.mpr hp
        exact h3 (srt_eq LB.length h1.2 h2.2 (fun x => by rw [h1.1, h2.1]; exact h4 x) i hi)
  · rw [← h1.1, ← h2.1]
    exact cnt_congr LB.length h y
