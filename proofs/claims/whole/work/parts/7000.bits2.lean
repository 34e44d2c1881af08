/-! Masks: nI m for a set m of numbers below 31; truths as 0 and 1 -/
def tf (r : Int32) (D : Prop) : Prop := (r = 1 ∧ D) ∨ (r = 0 ∧ ¬ D)
theorem tf_0 {r : Int32} {D : Prop} (h : tf r D) : r = 0 ↔ ¬ D := by
  rcases h with ⟨h, d⟩ | ⟨h, d⟩
  · subst h
    exact ⟨fun h => absurd h (by decide), fun h => absurd d h⟩
  · exact ⟨fun _ => d, fun _ => h⟩
theorem tf_t {D : Prop} (h : D) : tf 1 D := Or.inl ⟨rfl, h⟩
theorem tf_f {D : Prop} (h : ¬ D) : tf 0 D := Or.inr ⟨rfl, h⟩
theorem tf_iff {r : Int32} {D E : Prop} (h : tf r D) (e : D ↔ E) : tf r E := by
  rcases h with ⟨h, d⟩ | ⟨h, d⟩
  · exact Or.inl ⟨h, e.mp d⟩
  · exact Or.inr ⟨h, fun x => d (e.mpr x)⟩
theorem tf_01 {r : Int32} {D : Prop} (h : tf r D) : r = 0 ∨ r = 1 := by
  rcases h with ⟨h, _⟩ | ⟨h, _⟩
  · exact Or.inr h
  · exact Or.inl h
theorem tf_eq {r r' : Int32} {D : Prop} (h : tf r D) (h' : tf r' D) : r = r' := by
  rcases h with ⟨h, d⟩ | ⟨h, d⟩ <;> rcases h' with ⟨h', d'⟩ | ⟨h', d'⟩
  · rw [h, h']
  · exact absurd d d'
  · exact absurd d' d
  · rw [h, h']
theorem m_or (a b : Nat) : nI a ||| nI b = nI (a ||| b) := by
  apply Int32.toBitVec_inj.1
  show BitVec.ofNat 32 a ||| BitVec.ofNat 32 b = BitVec.ofNat 32 (a ||| b)
  apply BitVec.eq_of_getLsbD_eq
  intro i hi
  simp [hi]
theorem p2_lt {a b : Nat} (h : a < b) : 2 ^ a < 2 ^ b := Nat.pow_lt_pow_right (by decide) h
theorem m_shx {x p : Nat} (hp : p < 32) (hx : x * 2 ^ p < 2 ^ 32) : nI x <<< (nI p &&& 31) = nI (x * 2 ^ p) :=
  pk_shlN (nI p &&& 31) p (s_l p hp) hx
theorem m_sh {p : Nat} (hp : p < 32) : (1 : Int32) <<< (nI p &&& 31) = nI (2 ^ p) := by
  have h := m_shx (x := 1) hp (by have := p2_lt hp; omega)
  rw [Nat.one_mul] at h
  exact h
theorem m_shr {m p : Nat} (hm : m < 2 ^ 31) (hp : p < 32) : nI m >>> (nI p &&& 31) = nI (m / 2 ^ p) :=
  pk_shrN hm (nI p &&& 31) p (s_l p hp)
theorem m_in {m p : Nat} (hm : m < 2 ^ 31) (hp : p < 32) : tf (f_JoinOrder_inSet (nI m) (nI p)) (m.testBit p = true) := by
  have hd := Nat.div_le_self m (2 ^ p)
  rw [f_JoinOrder_inSet_u, m_shr hm hp, pk_andN (n := m / 2 ^ p) (m := (1 : Int32)) (by omega) 1 (by decide), Nat.testBit_eq_decide_div_mod_eq]
  have h2 : m / 2 ^ p % 2 ^ 1 = 0 ∨ m / 2 ^ p % 2 ^ 1 = 1 := by omega
  rcases h2 with h | h
  · rw [h, if_pos (show nI 0 = 0 from rfl)]
    exact tf_f (fun h3 => by
      have := of_decide_eq_true h3
      omega)
  · rw [h, if_neg (nI_ne0 (by decide) (by decide))]
    exact tf_t (decide_eq_true (by omega))
theorem m_m1 : (-1 : Int32) = nI 4294967295 := by decide
def dif (a b : Nat) : Nat := a &&& (b ^^^ 4294967295)
theorem m_not (a b : Nat) : nI a &&& (nI b ^^^ (-1)) = nI (dif a b) := by
  rw [m_m1, nx_xor, nx_and]
  rfl
theorem dif_bit {a b i : Nat} (hi : i < 32) : (dif a b).testBit i = (a.testBit i && !b.testBit i) := by
  unfold dif
  rw [Nat.testBit_and, Nat.testBit_xor, show (4294967295 : Nat) = 2 ^ 32 - 1 from rfl, Nat.testBit_two_pow_sub_one, decide_eq_true hi]
  cases a.testBit i <;> cases b.testBit i <;> rfl
theorem dif_le (a b : Nat) : dif a b ≤ a := Nat.and_le_left
theorem or_lt {a b k : Nat} (ha : a < 2 ^ k) (hb : b < 2 ^ k) : a ||| b < 2 ^ k := Nat.or_lt_two_pow ha hb
theorem bit_or (a b i : Nat) : (a ||| b).testBit i = true ↔ a.testBit i = true ∨ b.testBit i = true := by
  rw [Nat.testBit_or]
  exact Bool.or_eq_true _ _ |>.to_iff
theorem bit_and (a b i : Nat) : (a &&& b).testBit i = true ↔ a.testBit i = true ∧ b.testBit i = true := by
  rw [Nat.testBit_and]
  exact Bool.and_eq_true _ _ |>.to_iff
theorem bit_p2 (p i : Nat) : (2 ^ p).testBit i = true ↔ p = i := by
  rw [Nat.testBit_two_pow]
  exact ⟨of_decide_eq_true, decide_eq_true⟩
theorem bit_dif {a b i : Nat} (hi : i < 32) : (dif a b).testBit i = true ↔ a.testBit i = true ∧ ¬ b.testBit i = true := by
  rw [dif_bit hi]
  cases a.testBit i <;> cases b.testBit i <;> simp
/-- a set has no member: it is 0 -/
theorem bit_none {m : Nat} (k : Nat) (hm : m < 2 ^ k) : m = 0 ↔ ∀ i, i < k → ¬ m.testBit i = true := by
  constructor
  · intro h i _
    rw [h, Nat.zero_testBit]
    exact Bool.false_ne_true
  · intro h
    apply Nat.eq_of_testBit_eq
    intro i
    rw [Nat.zero_testBit]
    by_cases hi : i < k
    · have := h i hi
      cases e : m.testBit i
      · rfl
      · exact absurd e this
    · have h3 : 2 ^ k ≤ 2 ^ i := Nat.pow_le_pow_right (by decide) (by omega)
      exact Nat.testBit_lt_two_pow (by omega)
theorem bit_ext {a b : Nat} (k : Nat) (ha : a < 2 ^ k) (hb : b < 2 ^ k) (h : ∀ i, i < k → (a.testBit i = true ↔ b.testBit i = true)) : a = b := by
  apply Nat.eq_of_testBit_eq
  intro i
  by_cases hi : i < k
  · have := h i hi
    cases e : a.testBit i <;> cases e2 : b.testBit i
    · rfl
    · exact absurd (this.mpr e2) (by rw [e]; exact Bool.false_ne_true)
    · exact absurd (this.mp e) (by rw [e2]; exact Bool.false_ne_true)
    · rfl
  · have h3 : 2 ^ k ≤ 2 ^ i := Nat.pow_le_pow_right (by decide) (by omega)
    rw [Nat.testBit_lt_two_pow (by omega), Nat.testBit_lt_two_pow (by omega)]
/-! Triples in one int -/
def pck (s p o : Nat) : Nat := o * 1024 + (p * 32 + s)
def prt (t : Nat) : Nat → Nat
  | 0 => t % 32
  | 1 => t / 32 % 32
  | _ => t / 1024 % 32
theorem prt_lt (t k : Nat) : prt t k < 32 := by
  unfold prt
  split <;> omega
theorem t_part {t k : Nat} (ht : t < 32768) (hk : k < 3) : f_Triples_part (nI t) (nI k) = nI (prt t k) := by
  rw [f_Triples_part_u, show nI k * (5 : Int32) = nI (k * 5) from pk_mul k 5, m_shr (by omega) (by omega)]
  have hd := Nat.div_le_self t (2 ^ (k * 5))
  rw [pk_andN (n := t / 2 ^ (k * 5)) (m := (31 : Int32)) (by omega) 5 (by decide)]
  have h : k = 0 ∨ k = 1 ∨ k = 2 := by omega
  rcases h with rfl | rfl | rfl
  · rw [show t / 2 ^ (0 * 5) = t by rw [Nat.zero_mul, Nat.pow_zero, Nat.div_one]]
    rfl
  · rfl
  · rfl
theorem or_sum {s p k : Nat} (hs : s < 2 ^ k) : s ||| p * 2 ^ k = p * 2 ^ k + s := by
  rw [Nat.or_comm, ← Nat.shiftLeft_eq, ← Nat.shiftLeft_add_eq_or_of_lt hs]
theorem t_at {x k : Nat} (hx : x < 32) (hk : k < 3) : f_Triples_at (nI x) (nI k) = nI (x * 2 ^ (k * 5)) := by
  rw [f_Triples_at_u, show nI k * (5 : Int32) = nI (k * 5) from pk_mul k 5]
  refine m_shx (by omega) ?_
  have h : k = 0 ∨ k = 1 ∨ k = 2 := by omega
  rcases h with rfl | rfl | rfl <;> omega
theorem t_pack {s p o : Nat} (hs : s < 32) (hp : p < 32) (ho : o < 32) : f_Triples_pack (nI s) (nI p) (nI o) = nI (pck s p o) := by
  rw [f_Triples_pack_u, show (0 : Int32) = nI 0 from rfl, show (1 : Int32) = nI 1 from rfl, show (2 : Int32) = nI 2 from rfl, t_at hs (by omega), t_at hp (by omega), t_at ho (by omega), m_or, m_or]
  have e1 : s * 2 ^ (0 * 5) = s := by omega
  rw [e1, or_sum (k := 1 * 5) (by omega), or_sum (k := 2 * 5) (by omega)]
  rfl
theorem prt_pck {s p o : Nat} (hs : s < 32) (hp : p < 32) (ho : o < 32) : prt (pck s p o) 0 = s ∧ prt (pck s p o) 1 = p ∧ prt (pck s p o) 2 = o := by
  unfold prt pck
  refine ⟨?_, ?_, ?_⟩ <;> simp only <;> omega
theorem pck_lt {s p o : Nat} (hs : s < 32) (hp : p < 32) (ho : o < 32) : pck s p o < 32768 := by
  unfold pck
  omega
theorem pck_inj {s p o s' p' o' : Nat} (hs : s < 32) (hp : p < 32) (ho : o < 32) (hs' : s' < 32) (hp' : p' < 32) (ho' : o' < 32) : pck s p o = pck s' p' o' ↔ s = s' ∧ p = p' ∧ o = o' := by
  unfold pck
  omega
