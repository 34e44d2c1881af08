/-! beforeOf of the reference; hint of both -/
def SD (bf : Nat → Nat) (p m : Nat) : Prop := m < 256 ∧ ∀ q, q < 8 → m.testBit q = true → (bf p).testBit q = true
def MO (m m' : Nat) : Prop := ∀ q, q < 8 → m.testBit q = true → m'.testBit q = true
theorem q_bf2 {n np hm p a m : Nat} {pa bf : Nat → Nat} {ht : Nat → Nat → Prop} {Hn : Nat → Int32} (hn : 8 < n) (hw : HW np pa bf hm ht) (hH : QH ht Hn) (hp : p < 8) (ha : a < 8) (hs : SD bf p m) :
    ok (f_JoinOrderModel_beforeOf_L2 n (nI p) Hn (nI a) n (nI m) (0 : Int32)) (fun r => ∃ m', r = nI m' ∧ SD bf p m' ∧ MO m m' ∧ ((∃ b, b < 8 ∧ ht a b ∧ (b = p ∨ m.testBit b = true)) → m'.testBit a = true)) := by
  refine lpF (σ := Int32) (fun f b x => f_JoinOrderModel_beforeOf_L2 n (nI p) Hn (nI a) f x (nI b)) (fun b x => ∃ m', x = nI m' ∧ SD bf p m' ∧ MO m m' ∧ ∀ c, c < b → ht a c ∧ (c = p ∨ m.testBit c = true) → m'.testBit a = true) 8 _ ?_ ?_ n 0 (nI m) (by omega) (by omega) ⟨m, rfl, hs, fun _ _ h => h, fun c h => by omega⟩
  · intro f x hx
    obtain ⟨m', e, k1, k2, k3⟩ := hx
    rw [f_JoinOrderModel_beforeOf_L2_s]
    exact ok_t (nI_le (Nat.le_refl 8) (by decide)) (ok_s ⟨m', e, k1, k2, fun ⟨b, hb, h⟩ => k3 b hb h⟩)
  · intro f b x hb hx ih
    obtain ⟨m', e, k1, k2, k3⟩ := hx
    subst e
    have hm' := k1.1
    rw [f_JoinOrderModel_beforeOf_L2_s]
    refine ok_f (nI_ge hb (by decide)) ?_
    rw [i8]
    refine ok_gd (8 * a + b) rfl (by omega) (by decide) ?_
    rw [nI_clamp (by omega : 8 * a + b < 2 ^ 31)]
    refine ok_bn1 (fun z => tf z (ht a b ∧ (b = p ∨ m'.testBit b = true))) ?_ (fun z hz => ?_)
    · refine ok_b _ (tf_0 (hH a b ha hb)) (fun g => ok_s (tf_f (fun g2 => g g2.1))) (fun g => ?_)
      have g := Classical.not_not.mp g
      refine ok_b (b = p) (nI_eq (by omega) (by omega)) (fun g2 => ok_s (tf_t ⟨g, Or.inl g2⟩)) (fun g2 => ?_)
      exact ok_b _ (q_bit (by omega) (by omega)) (fun g3 => ok_s (tf_t ⟨g, Or.inr g3⟩)) (fun g3 => ok_s (tf_f (fun g4 => g4.2.elim g2 g3)))
    · refine ok_b _ (tf_0 hz) (fun g => ?_) (fun g => ?_)
      · refine ok_nmE (nI_1 b) (ih _ ⟨m', rfl, k1, k2, fun c hc h => ?_⟩)
        by_cases e : c = b
        · subst e
          exact absurd ⟨h.1, h.2.elim Or.inl (fun h2 => Or.inr (k2 c hb h2))⟩ g
        · exact k3 c (by omega) h
      · have g := Classical.not_not.mp g
        rw [m_sh (by omega), m_or]
        have hin : (bf p).testBit a = true := by
          have g1 := (hw.1 a b g.1).2.2
          rcases g.2 with e | e
          · exact e ▸ g1
          · exact hw.2.1 p b a (k1.2 b hb e) g1
        refine ok_nm (ok_nmE (nI_1 b) (ih _ ⟨m' ||| 2 ^ a, rfl, ⟨or_lt (k := 8) hm' (p2_lt ha), fun q hq hbq => ?_⟩, fun q hq hbq => (bit_or _ _ _).mpr (Or.inl (k2 q hq hbq)), fun c _ _ => (bit_or _ _ _).mpr (Or.inr ((bit_p2 _ _).mpr rfl))⟩))
        rw [bit_or, bit_p2] at hbq
        rcases hbq with hbq | hbq
        · exact k1.2 q hq hbq
        · exact hbq ▸ hin
theorem q_bf1 {n np hm p m : Nat} {pa bf : Nat → Nat} {ht : Nat → Nat → Prop} {Hn : Nat → Int32} (hn : 8 < n) (hw : HW np pa bf hm ht) (hH : QH ht Hn) (hp : p < 8) (hs : SD bf p m) :
    ok (f_JoinOrderModel_beforeOf_L1 n (nI p) Hn n (nI m) (0 : Int32)) (fun r => ∃ m', r = nI m' ∧ SD bf p m' ∧ MO m m' ∧ ∀ a, a < 8 → (∃ b, b < 8 ∧ ht a b ∧ (b = p ∨ m.testBit b = true)) → m'.testBit a = true) := by
  refine lpF (σ := Int32) (fun f a x => f_JoinOrderModel_beforeOf_L1 n (nI p) Hn f x (nI a)) (fun a x => ∃ m', x = nI m' ∧ SD bf p m' ∧ MO m m' ∧ ∀ c, c < a → (∃ b, b < 8 ∧ ht c b ∧ (b = p ∨ m.testBit b = true)) → m'.testBit c = true) 8 _ ?_ ?_ n 0 (nI m) (by omega) (by omega) ⟨m, rfl, hs, fun _ _ h => h, fun c h => by omega⟩
  · intro f x hx
    rw [f_JoinOrderModel_beforeOf_L1_s]
    exact ok_t (nI_le (Nat.le_refl 8) (by decide)) (ok_s hx)
  · intro f a x ha hx ih
    obtain ⟨m', e, k1, k2, k3⟩ := hx
    subst e
    rw [f_JoinOrderModel_beforeOf_L1_s]
    refine ok_f (nI_ge ha (by decide)) ?_
    refine ok_bn1 _ (q_bf2 hn hw hH hp ha k1) (fun r hr => ?_)
    obtain ⟨m2, e, g1, g2, g3⟩ := hr
    subst e
    refine ok_nmE (nI_1 a) (ih _ ⟨m2, rfl, g1, fun q hq h => g2 q hq (k2 q hq h), fun c hc h => ?_⟩)
    by_cases e : c = a
    · subst e
      obtain ⟨b, hb, h1, h2⟩ := h
      exact g3 ⟨b, hb, h1, h2.elim Or.inl (fun h3 => Or.inr (k2 b hb h3))⟩
    · exact g2 c (by omega) (k3 c (by omega) h)
def clo (ht : Nat → Nat → Prop) (p m : Nat) : Prop := ∀ a b, a < 8 → b < 8 → ht a b → (b = p ∨ m.testBit b = true) → m.testBit a = true
theorem clo_all {np hm p m : Nat} {pa bf : Nat → Nat} {ht : Nat → Nat → Prop} (hw : HW np pa bf hm ht) (hnp : np ≤ 8) (h : clo ht p m) : ∀ q, (bf p).testBit q = true → m.testBit q = true := by
  intro q hq
  refine hw.2.2.2.1 p (fun a => m.testBit a = true) (fun a b k1 k2 => ?_) q hq
  have g := hw.1 a b k1
  have g1 := g.1.1
  have g2 := g.2.1.1
  exact h a b (by omega) (by omega) k1 k2
theorem q_before {n np hm p : Nat} {pa bf : Nat → Nat} {ht : Nat → Nat → Prop} {Hn : Nat → Int32} (hn : 8 < n) (hnp : np ≤ 8) (hw : HW np pa bf hm ht) (hH : QH ht Hn) (hp : p < 8) : f_JoinOrderModel_beforeOf n (nI p) Hn = some (nI (bf p)) := by
  apply ok_eq
  rw [f_JoinOrderModel_beforeOf_u]
  refine ok_bn1 (fun x => x = nI (bf p)) ?_ (fun x h => ok_s h)
  have fin : ∀ m, SD bf p m → clo ht p m → nI m = nI (bf p) := fun m h1 h2 => by
    congr 1
    refine bit_ext 8 h1.1 (hw.2.2.2.2.1 p) (fun i hi => ⟨h1.2 i hi, clo_all hw hnp h2 i⟩)
  refine lpF (σ := Int32) (fun f i x => f_JoinOrderModel_beforeOf_L0 n (nI p) Hn f x (nI i)) (fun i x => ∃ m, x = nI m ∧ SD bf p m ∧ (clo ht p m ∨ i ≤ popc m 8)) 8 _ ?_ ?_ n 0 (nI 0) (by omega) (by omega) ⟨0, rfl, ⟨by omega, fun q _ h => by rw [Nat.zero_testBit] at h; exact absurd h Bool.false_ne_true⟩, Or.inr (Nat.zero_le _)⟩
  · intro f x hx
    obtain ⟨m, e, k1, k2⟩ := hx
    subst e
    rw [f_JoinOrderModel_beforeOf_L0_s]
    refine ok_t (nI_le (Nat.le_refl 8) (by decide)) (ok_s (fin m k1 ?_))
    rcases k2 with k2 | k2
    · exact k2
    · intro a b ha _ _ _
      refine Classical.not_not.mp (fun h => ?_)
      have h2 := popc_lt (m := m) (m' := 255) (a := a) 8 (fun i hi _ => by
        have : ∀ i, i < 8 → (255 : Nat).testBit i = true := by decide
        exact this i hi) ha (by
        have : ∀ i, i < 8 → (255 : Nat).testBit i = true := by decide
        exact this a ha) h
      have h3 : popc 255 8 = 8 := by decide
      omega
  · intro f i x hi hx ih
    obtain ⟨m, e, k1, k2⟩ := hx
    subst e
    rw [f_JoinOrderModel_beforeOf_L0_s]
    refine ok_f (nI_ge hi (by decide)) ?_
    refine ok_bn1 _ (q_bf1 hn hw hH hp k1) (fun r hr => ?_)
    obtain ⟨m2, e, g1, g2, g3⟩ := hr
    subst e
    refine ok_nmE (nI_1 i) (ih _ ⟨m2, rfl, g1, ?_⟩)
    by_cases hc : clo ht p m
    · have e : m2 = m := bit_ext 8 g1.1 k1.1 (fun q hq => ⟨fun h => clo_all hw hnp hc q (g1.2 q hq h), g2 q hq⟩)
      rw [e]
      exact Or.inl hc
    · have hlt : popc m 8 < popc m2 8 := by
        unfold clo at hc
        obtain ⟨a, hc⟩ := Classical.not_forall.mp hc
        obtain ⟨b, hc⟩ := Classical.not_forall.mp hc
        obtain ⟨c1, hc⟩ := Classical.not_imp.mp hc
        obtain ⟨c2, hc⟩ := Classical.not_imp.mp hc
        obtain ⟨c3, hc⟩ := Classical.not_imp.mp hc
        obtain ⟨c4, c5⟩ := Classical.not_imp.mp hc
        exact popc_lt 8 g2 c1 (g3 a c1 ⟨b, c2, c3, c4⟩) c5
      rcases k2 with k2 | k2
      · exact absurd k2 hc
      · exact Or.inr (by omega)
