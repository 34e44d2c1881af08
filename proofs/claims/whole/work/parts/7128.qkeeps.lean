/-! keeps, of the reference: each plain row takes one of the last run's -/
theorem fld_msk {r v : Nat} (hv : v < 8) : fld (msk r) v = fld r v := by
  unfold fld msk
  have h : (2 : Nat) ^ 48 = 2 ^ (v * 6) * 2 ^ (48 - v * 6) := by
    rw [← Nat.pow_add]
    congr 1
    omega
  rw [h, Nat.mod_mul_right_div_self]
  rw [Nat.mod_mod_of_dvd]
  exact Nat.pow_dvd_pow 2 (by omega)
theorem msk_ext {a b : Nat} (h : ∀ v, v < 8 → fld a v = fld b v) : msk a = msk b := by
  refine bit_ext 48 (Nat.mod_lt _ (by decide)) (Nat.mod_lt _ (by decide)) (fun i hi => ?_)
  have key : ∀ r : Nat, (msk r).testBit i = (fld r (i / 6)).testBit (i % 6) := fun r => by
    unfold msk fld
    rw [Nat.testBit_mod_two_pow, Nat.testBit_mod_two_pow, Nat.testBit_div_two_pow, show i % 6 + i / 6 * 6 = i by omega]
    have h1 : i % 6 < 6 := Nat.mod_lt _ (by decide)
    rw [decide_eq_true h1, decide_eq_true hi]
  rw [key, key, h _ (by omega)]
theorem cnt_mono {f : Nat → Int64} {x : Int64} {i : Nat} : ∀ n, i ≤ n → cnt f i x ≤ cnt f n x := by
  intro n
  induction n with
  | zero =>
    intro h
    have e : i = 0 := by omega
    rw [e]
    exact Nat.le_refl _
  | succ n ih =>
    intro h
    by_cases e : i = n + 1
    · rw [e]
      exact Nat.le_refl _
    · have h1 := ih (by omega)
      show _ ≤ cnt f n x + (if f n = x then 1 else 0)
      omega
theorem cnt_le {f : Nat → Int64} {x : Int64} : ∀ n, cnt f n x ≤ n := by
  intro n
  induction n with
  | zero => exact Nat.le_refl 0
  | succ n ih =>
    show cnt f n x + (if f n = x then 1 else 0) ≤ n + 1
    split <;> omega
theorem cnt_all {f : Nat → Int64} {x : Int64} : ∀ n, cnt f n x = n → ∀ i, i < n → f i = x := by
  intro n
  induction n with
  | zero => intro _ i h; omega
  | succ n ih =>
    intro h i hi
    have h1 : cnt f n x + (if f n = x then 1 else 0) = n + 1 := h
    have h2 := cnt_le (f := f) (x := x) n
    by_cases e : f n = x
    · rw [if_pos e] at h1
      by_cases e2 : i = n
      · rw [e2]
        exact e
      · exact ih (by omega) i (by omega)
    · rw [if_neg e] at h1
      omega
theorem lN_m1 {a : Nat} (h : a < 2 ^ 63) : lN a ≠ -1 := fun e => by
  have h1 := pk_lT h
  rw [e] at h1
  have h2 : (-1 : Int64).toInt = -1 := by decide
  omega
theorem q_alike {n i j r r' : Nat} {Rw Kp : Nat → Int32} (hn : 8 < n) (hi : i ≤ 500) (hj : j ≤ 500) (h1 : rwI Rw i r) (h2 : rwI Kp j r') (k1 : okR r) (k2 : okR r') : ok (f_JoinOrderModel_isAlike n (nI i) (nI j) Rw Kp) (fun o => tf o (msk r = msk r')) := by
  rw [f_JoinOrderModel_isAlike_u]
  refine ok_bn1 (fun x => tf x (msk r = msk r')) ?_ (fun x hx => ok_gb (tf_01 hx) (ok_s hx))
  refine ok_w (P := fun x => tf x (∀ v, v < 8 → fld r v = fld r' v)) ?_ (fun x hx => tf_iff hx ⟨msk_ext, fun e v hv => by rw [← fld_msk hv, e, fld_msk hv]⟩)
  refine lpF (σ := Int32) (fun f v x => f_JoinOrderModel_isAlike_L0 n (nI i) (nI j) Rw Kp f x (nI v)) (fun v x => tf x (∀ u, u < v → fld r u = fld r' u)) 8 _ ?_ ?_ n 0 (1 : Int32) (by omega) (by omega) (tf_t (fun u h => by omega))
  · intro f x hx
    rw [f_JoinOrderModel_isAlike_L0_s]
    exact ok_t (nI_le (Nat.le_refl 8) (by decide)) (ok_s hx)
  · intro f v x hv hx ih
    rw [f_JoinOrderModel_isAlike_L0_s]
    refine ok_f (nI_ge hv (by decide)) ?_
    refine ok_b _ (tf_0 hx) (fun g => ok_nmE (nI_1 v) (ih _ (tf_f (fun h => g (fun u hu => h u (by omega)))))) (fun g => ?_)
    have g := Classical.not_not.mp g
    rw [i8, i8]
    refine ok_gd (8 * i + v) rfl (by omega) (by decide) (ok_gd (8 * j + v) rfl (by omega) (by decide) ?_)
    rw [nI_clamp (by omega : 8 * i + v < 2 ^ 31), nI_clamp (by omega : 8 * j + v < 2 ^ 31), h1 v hv, h2 v hv]
    have l1 := k1.2 v hv
    have l2 := k2.2 v hv
    have e : nI (fld r v) - 1 = nI (fld r' v) - 1 ↔ fld r v = fld r' v := by
      constructor
      · intro e
        have e2 : nI (fld r v) - 1 + 1 = nI (fld r' v) - 1 + 1 := by rw [e]
        rw [m1p1, m1p1] at e2
        exact (nI_eq (by omega) (by omega)).mp e2
      · intro e
        rw [e]
    refine ok_b _ e (fun g2 => ok_nmE (nI_1 v) (ih _ (tf_t (fun u hu => ?_)))) (fun g2 => ok_nmE (nI_1 v) (ih _ (tf_f (fun h => g2 (h v (by omega))))))
    by_cases e2 : u = v
    · rw [e2]
      exact g2
    · exact g u (by omega)
theorem q_untake {n c : Nat} {T : Nat → Int32} (hn : 500 < n) (hc : c ≤ 500) : ok (f_JoinOrderModel_keeps_L0 n (nI c) n T (0 : Int32)) (fun Y => ∀ x, x < c → Y x = 0) := by
  refine lpF (σ := Nat → Int32) (fun f x Y => f_JoinOrderModel_keeps_L0 n (nI c) f Y (nI x)) (fun x Y => ∀ y, y < x → Y y = 0) c _ ?_ ?_ n 0 T (by omega) (by omega) (fun y h => by omega)
  · intro f Y h
    rw [f_JoinOrderModel_keeps_L0_s]
    exact ok_t (nI_le (Nat.le_refl _) (by omega)) (ok_s h)
  · intro f x Y hx h ih
    rw [f_JoinOrderModel_keeps_L0_s]
    refine ok_f (nI_ge hx (by omega)) ?_
    refine ok_gd x rfl (by omega) (by decide) ?_
    rw [nI_clamp (by omega : x < 2 ^ 31), nar_01 (Or.inl rfl)]
    refine ok_nm (ok_nmE (nI_1 x) (ih _ (fun y hy => ?_)))
    by_cases e : y = x
    · subst e
      rw [pk_us]
    · rw [pk_un e]
      exact h y (by omega)
def tkP (T : Nat → Int32) (g G : Nat → Int64) (c : Nat) : Prop := ∀ j, j < c → (T j = 0 ∧ G j = g j) ∨ (T j = 1 ∧ G j = -1)
theorem q_find {n i r : Nat} {B : List Nat} {g G : Nat → Int64} {Rw Kp T : Nat → Int32} (hn : 500 < n) (hi : i ≤ 500) (hB : B.length ≤ 500) (hrow : rwI Rw i r) (k1 : okR r) (hk : qR Kp B) (oB : ∀ r, r ∈ B → okR r) (hg : hL g (B.map msk)) (ht : tkP T g G B.length) :
    ok (f_JoinOrderModel_keeps_L2 n (nI B.length) Kp Rw T (nI i) n (0 : Int32)) (fun o => (o = nI B.length ∧ ∀ j, j < B.length → G j ≠ lN (msk r)) ∨ (∃ j, j < B.length ∧ o = nI j ∧ T j = 0 ∧ G j = lN (msk r))) := by
  refine lpU (fun f j => f_JoinOrderModel_keeps_L2 n (nI B.length) Kp Rw T (nI i) f (nI j)) (fun j => ∀ u, u < j → G u ≠ lN (msk r)) B.length _ ?_ ?_ n 0 (by omega) (by omega) (fun u h => by omega)
  · intro f h
    rw [f_JoinOrderModel_keeps_L2_s]
    exact ok_t (nI_le (Nat.le_refl _) (by omega)) (ok_s (Or.inl ⟨rfl, h⟩))
  · intro f j hj h ih
    rw [f_JoinOrderModel_keeps_L2_s]
    refine ok_f (nI_ge hj (by omega)) ?_
    refine ok_gd j rfl (by omega) (by decide) ?_
    rw [nI_clamp (by omega : j < 2 ^ 31)]
    have up : G j ≠ lN (msk r) → ∀ u, u < j + 1 → G u ≠ lN (msk r) := fun h2 u hu => by
      by_cases e : u = j
      · rw [e]
        exact h2
      · exact h u (by omega)
    have hx : B[j]? = some B[j] := List.getElem?_eq_getElem hj
    have hgj : g j = lN (msk B[j]) := hg j _ (by rw [List.getElem?_map, hx]; rfl)
    rcases ht j hj with ⟨t1, t2⟩ | ⟨t1, t2⟩
    · refine ok_t t1 ?_
      refine ok_bn1 _ (q_alike (by omega) hi (by omega) hrow (hk j _ hx) k1 (oB _ (List.getElem_mem hj))) (fun z hz => ?_)
      refine ok_b _ (tf_0 hz) (fun g1 => ok_nmE (nI_1 j) (ih (up (fun e => g1 ?_)))) (fun g1 => ok_s (Or.inr ⟨j, hj, rfl, t1, ?_⟩))
      · rw [t2, hgj] at e
        exact ((pk_lEQ (msk_lt _) (msk_lt _)).mp e).symm
      · rw [t2, hgj, Classical.not_not.mp g1]
    · refine ok_f (by rw [t1]; decide) (ok_nmE (nI_1 j) (ih (up (fun e => ?_))))
      rw [t2] at e
      exact lN_m1 (msk_lt r) e.symm
theorem q_greedy {n : Nat} {A B : List Nat} {Rw Kp T : Nat → Int32} (hn : 500 < n) (e : A.length = B.length) (hA : A.length ≤ 500) (hrow : qR Rw A) (oA : ∀ r, r ∈ A → okR r) (hk : qR Kp B) (oB : ∀ r, r ∈ B → okR r) (ht : ∀ x, x < B.length → T x = 0) :
    ok (f_JoinOrderModel_keeps_L1 n (nI B.length) Kp (nI A.length) Rw n T (1 : Int32) (0 : Int32)) (fun o => tf o.2 ((A.map msk).Perm (B.map msk))) := by
  have lA : (A.map msk).length = A.length := List.length_map ..
  have lB : (B.map msk).length = B.length := List.length_map ..
  obtain ⟨fA, hfA⟩ : ∃ f : Nat → Int64, f = fun i => lN ((A.map msk).getD i 0) := ⟨_, rfl⟩
  obtain ⟨gB, hgB⟩ : ∃ f : Nat → Int64, f = fun i => lN ((B.map msk).getD i 0) := ⟨_, rfl⟩
  have hf : hL fA (A.map msk) := fun i t hi => by
    rw [hfA]
    show lN ((A.map msk).getD i 0) = lN t
    rw [List.getD_eq_getElem?_getD, hi]
    rfl
  have hg : hL gB (B.map msk) := fun i t hi => by
    rw [hgB]
    show lN ((B.map msk).getD i 0) = lN t
    rw [List.getD_eq_getElem?_getD, hi]
    rfl
  have m63 : ∀ N : List Nat, ∀ r, r ∈ N.map msk → r < 2 ^ 63 := fun N r hr => by
    obtain ⟨u, -, eu⟩ := List.mem_map.mp hr
    subst eu
    exact msk_lt u
  have key := cnt_perm hf hg (by rw [lA, lB, e]) (m63 A) (m63 B)
  rw [lA] at key
  have nf : ∀ i, i < A.length → fA i ≠ -1 := fun i hi => by
    rw [hf i (msk A[i]) (by rw [List.getElem?_map, List.getElem?_eq_getElem hi]; rfl)]
    exact lN_m1 (msk_lt _)
  have ng : ∀ i, i < A.length → gB i ≠ -1 := fun i hi => by
    have hi2 : i < B.length := by omega
    rw [hg i (msk B[i]) (by rw [List.getElem?_map, List.getElem?_eq_getElem hi2]; rfl)]
    exact lN_m1 (msk_lt _)
  refine lpF (σ := (Nat → Int32) × Int32) (fun f i s => f_JoinOrderModel_keeps_L1 n (nI B.length) Kp (nI A.length) Rw f s.1 s.2 (nI i)) (fun i s => (s.2 = 0 ∧ ¬ (A.map msk).Perm (B.map msk)) ∨ (s.2 = 1 ∧ ∃ G, tkP s.1 gB G B.length ∧ cnt G A.length (-1) = i ∧ ∀ y, y ≠ -1 → cnt fA i y + cnt G A.length y = cnt gB A.length y)) A.length _ ?_ ?_ n 0 (T, 1) (by omega) (by omega) (Or.inr ⟨rfl, gB, fun j hj => Or.inl ⟨ht j hj, rfl⟩, cnt_zero _ ng, fun y _ => Nat.zero_add _⟩)
  · intro f s hI
    rw [f_JoinOrderModel_keeps_L1_s]
    refine ok_t (nI_le (Nat.le_refl _) (by omega)) (ok_s ?_)
    rcases hI with ⟨h1, h2⟩ | ⟨h1, G, g1, g2, g3⟩
    · exact Or.inr ⟨h1, h2⟩
    · refine Or.inl ⟨h1, key.mp (fun y => ?_)⟩
      have hall := cnt_all _ g2
      by_cases hy : y = -1
      · subst hy
        rw [cnt_zero _ nf, cnt_zero _ ng]
      · rw [← g3 y hy, cnt_zero (f := G) _ (fun i hi => by rw [hall i hi]; exact fun h => hy h.symm), Nat.add_zero]
  · intro f i s hi hI ih
    obtain ⟨T2, fl⟩ := s
    simp only at hI
    rw [f_JoinOrderModel_keeps_L1_s]
    dsimp only
    refine ok_f (nI_ge hi (by omega)) ?_
    rcases hI with ⟨h1, h2⟩ | ⟨h1, G, g1, g2, g3⟩
    · subst h1
      exact ok_t rfl (ok_s (Or.inr ⟨rfl, h2⟩))
    · subst h1
      refine ok_f (by decide) ?_
      have hx : A[i]? = some A[i] := List.getElem?_eq_getElem hi
      have hfi : fA i = lN (msk A[i]) := hf i _ (by rw [List.getElem?_map, hx]; rfl)
      have es : ∀ y, cnt fA (i + 1) y = cnt fA i y + (if fA i = y then 1 else 0) := fun y => rfl
      refine ok_bn1 _ (q_find hn (by omega) (by omega) (hrow i _ hx) (oA _ (List.getElem_mem hi)) hk oB hg g1) (fun x4 h4 => ?_)
      rcases h4 with ⟨h4, h5⟩ | ⟨j, j1, j2, j3, j4⟩
      · subst h4
        refine ok_bn1 (fun z => z = 0) (ok_t (nI_le (Nat.le_refl _) (by omega)) (ok_s rfl)) (fun z ez => ?_)
        subst ez
        refine ok_t rfl (ok_nmE (nI_1 i) (ih (T2, 0) (Or.inl ⟨rfl, fun hp => ?_⟩)))
        have h6 := key.mpr hp (fA i)
        have h7 := g3 (fA i) (nf i hi)
        have h8 : cnt G A.length (fA i) = 0 := cnt_zero _ (fun u hu => by rw [hfi]; exact h5 u (by omega))
        have h9 := cnt_mono (f := fA) (x := fA i) (i := i + 1) A.length (by omega)
        rw [es, if_pos rfl] at h9
        omega
      · subst j2
        refine ok_bn1 (fun z => z = 1) (ok_f (nI_ge j1 (by omega)) (ok_s rfl)) (fun z ez => ?_)
        subst ez
        refine ok_f (by decide) ?_
        refine ok_gd j rfl (by omega) (by decide) ?_
        rw [nI_clamp (by omega : j < 2 ^ 31), nar_01 (Or.inr rfl)]
        refine ok_nm (ok_nmE (nI_1 i) (ih (upd T2 j 1, 1) (Or.inr ⟨rfl, vp_updL G j (-1), fun u hu => ?_, ?_, fun y hy => ?_⟩)))
        · simp only
          by_cases eu : u = j
          · subst eu
            rw [pk_us, pk_uLs]
            exact Or.inr ⟨rfl, rfl⟩
          · rw [pk_un eu, pk_uLn eu]
            exact g1 u hu
        · have h6 := cnt_upd G j (-1) (-1) A.length (by omega)
          rw [if_neg (by rw [j4]; exact lN_m1 (msk_lt _)), if_pos rfl] at h6
          omega
        · have h6 := cnt_upd G j (-1) y A.length (by omega)
          rw [if_neg (show ¬ (-1 : Int64) = y from fun h => hy h.symm), j4, ← hfi] at h6
          have h7 := g3 y hy
          rw [es]
          omega
theorem q_keeps {n np nf sf : Nat} {TL : List Nat} {sl : Nat → Nat → Nat} {pa an td fv fk fx : Nat → Nat} {R : Option (List Nat)} {Rc Rp Rf cs kept room : Int32} {C F Td Of Lk K X Z Fd Rw Nx Nf T Kp : Nat → Int32} (hn : 4000 < n) (hT : QT TL Rc F) (hQ : QQ np sl pa td Rp C Td Of) (hac : AC np pa an) (hF : QF nf fv fk fx sf Rf Lk K X Z) (hR : QB R kept room Kp) (hok : ∀ L, R = some L → ∀ r, r ∈ L → okR r) :
    ok (f_JoinOrderModel_keeps n Rc Rp Rf cs kept room Fd Rw Of Nx C F Nf Lk X K T Kp) (fun o => tf o.1 (∃ A B, plnA TL np sl pa nf fv fk fx = some A ∧ R = some B ∧ (A.map msk).Perm (B.map msk))) := by
  rw [f_JoinOrderModel_keeps_u]
  refine ok_bn7 _ (q_plain hn hT hQ hac hF) (fun r rs c Fd2 Rw2 Nx2 Nf2 h => ?_)
  obtain ⟨h1, h2⟩ := h
  simp only at h1 h2
  subst h1
  rcases hR with ⟨r1, r2, r3⟩ | ⟨B, r1, r2, r3, r4, r5⟩
  · subst r1 r3
    refine ok_t rfl (ok_s (tf_f ?_))
    rintro ⟨A, B, _, e, _⟩
    cases e
  · subst r1 r3 r4
    refine ok_f (by decide) ?_
    cases ep : plnA TL np sl pa nf fv fk fx with
    | none =>
      refine ok_f (fun e => ?_) (ok_s (tf_f ?_))
      · have h5 := nI_pos (n := B.length) (by omega)
        rw [← e] at h5
        exact absurd (by decide) h5
      · rintro ⟨A, B2, e, _, _⟩
        cases e
    | some A =>
      obtain ⟨a1, a2, a3⟩ := h2 A ep
      refine ok_b (A.length = B.length) (nI_eq (by omega) (by omega)) (fun e => ?_) (fun e => ok_s (tf_f ?_))
      · refine ok_bn1 _ (q_untake (by omega) r2) (fun T2 hT2 => ?_)
        refine ok_bn2 _ (q_greedy (by omega) e a1 a3 a2 r5 (hok B rfl) hT2) (fun T3 x2 h3 => ?_)
        simp only at h3
        refine ok_gb (tf_01 h3) (ok_s (tf_iff h3 ⟨fun h => ⟨A, B, rfl, rfl, h⟩, ?_⟩))
        rintro ⟨A2, B2, e1, e2, h⟩
        cases e1
        cases e2
        exact h
      · rintro ⟨A2, B2, e1, e2, h⟩
        cases e1
        cases e2
        have h5 := h.length_eq
        rw [List.length_map, List.length_map] at h5
        exact e h5
