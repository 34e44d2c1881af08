/-! Integer.bitCount counts the members of a set -/
def popc (n : Nat) : Nat → Nat
  | 0 => 0
  | k + 1 => popc n k + (n.testBit k).toNat
theorem popc_add (n j : Nat) : ∀ k, popc n (j + k) = popc n j + popc (n / 2 ^ j) k := by
  intro k
  induction k with
  | zero => rfl
  | succ k ih =>
    show popc n (j + k) + (n.testBit (j + k)).toNat = popc n j + (popc (n / 2 ^ j) k + ((n / 2 ^ j).testBit k).toNat)
    rw [ih, Nat.testBit_div_two_pow, Nat.add_comm k j]
    omega
theorem popc_mod (n m : Nat) : ∀ k, k ≤ m → popc (n % 2 ^ m) k = popc n k := by
  intro k
  induction k with
  | zero => intro _; rfl
  | succ k ih =>
    intro hk
    show popc (n % 2 ^ m) k + ((n % 2 ^ m).testBit k).toNat = popc n k + (n.testBit k).toNat
    rw [ih (by omega), Nat.testBit_mod_two_pow, decide_eq_true (by omega : k < m), Bool.true_and]
theorem and_2 {a b c d : Nat} (ha : a < 256) (hc : c < 256) : (a + 256 * b) &&& (c + 256 * d) = (a &&& c) + 256 * (b &&& d) := by
  have h1 := Nat.and_mod_two_pow (a := a + 256 * b) (b := c + 256 * d) (n := 8)
  have h2 := Nat.and_div_two_pow (a := a + 256 * b) (b := c + 256 * d) (n := 8)
  have h3 := Nat.mod_add_div ((a + 256 * b) &&& (c + 256 * d)) (2 ^ 8)
  rw [h1, h2] at h3
  have e1 : (a + 256 * b) % 2 ^ 8 = a := by omega
  have e2 : (c + 256 * d) % 2 ^ 8 = c := by omega
  have e3 : (a + 256 * b) / 2 ^ 8 = b := by omega
  have e4 : (c + 256 * d) / 2 ^ 8 = d := by omega
  rw [e1, e2, e3, e4] at h3
  exact h3.symm
def by4 (a b c d : Nat) : Nat := a + 256 * (b + 256 * (c + 256 * d))
theorem and_4 {a b c d m : Nat} (ha : a < 256) (hb : b < 256) (hc : c < 256) (hm : m < 256) : by4 a b c d &&& by4 m m m m = by4 (a &&& m) (b &&& m) (c &&& m) (d &&& m) := by
  unfold by4
  rw [and_2 ha hm, and_2 hb hm, and_2 hc hm]
theorem bc_1 : ∀ b, b < 256 → ∀ c, c < 2 → (b / 2 + 128 * c) &&& 85 = (b / 2) &&& 85 := by decide +kernel
theorem bc_2 : ∀ b, b < 256 → ∀ c, c < 4 → (b / 4 + 64 * c) &&& 51 = (b / 4) &&& 51 := by decide +kernel
def bs1 (b : Nat) : Nat := b - ((b / 2) &&& 85)
def bs2 (b : Nat) : Nat := (b &&& 51) + ((b / 4) &&& 51)
theorem bc_s1 : ∀ b, b < 256 → (b / 2) &&& 85 ≤ b := by decide +kernel
theorem bc_s2 : ∀ b, b < 256 → bs2 (bs1 b) % 16 ≤ 4 ∧ bs2 (bs1 b) / 16 ≤ 4 ∧ bs2 (bs1 b) % 16 + bs2 (bs1 b) / 16 = popc b 8 := by decide +kernel
theorem bc_bytes {n : Nat} : n = by4 (n % 256) (n / 256 % 256) (n / 65536 % 256) (n / 16777216) := by
  unfold by4
  omega
theorem u_shr {n : Nat} (hn : n < 2 ^ 32) (s : Int32) (k : Nat) (hs : ((s.toUInt32 &&& Int32.toUInt32 31).toBitVec % 32).toNat = k) : ((nI n).toUInt32 >>> (s.toUInt32 &&& Int32.toUInt32 31)).toInt32 = nI (n / 2 ^ k) := pk_ushrN hn s k hs
theorem bc_4 {z y : Nat} (h1 : z % 16 ≤ 4) (h2 : z / 16 ≤ 4) : (z + z / 16 + 16 * (y % 16)) &&& 15 = z % 16 + z / 16 := by
  rw [show (15 : Nat) = 2 ^ 4 - 1 from rfl, Nat.and_two_pow_sub_one_eq_mod]
  omega
theorem bc_5 {a b c d : Nat} (h0 : a ≤ 8) (h1 : b ≤ 8) (h2 : c ≤ 8) (h3 : d ≤ 8) : (by4 a b c d + by4 a b c d / 2 ^ 8 + (by4 a b c d + by4 a b c d / 2 ^ 8) / 2 ^ 16) % 2 ^ 6 = a + b + c + d := by
  have q1 : by4 a b c d / 2 ^ 8 = b + 256 * (c + 256 * d) := by
    unfold by4
    omega
  have q2 : by4 a b c d + by4 a b c d / 2 ^ 8 = (a + b) + 256 * (b + c) + 65536 * (c + d + 256 * d) := by
    rw [q1]
    unfold by4
    omega
  have q3 : (by4 a b c d + by4 a b c d / 2 ^ 8) / 2 ^ 16 = c + d + 256 * d := by
    rw [q2]
    omega
  rw [q3, q2]
  omega
theorem bitC {n : Nat} (hn : n < 2 ^ 32) : f_Integer_bitCount (nI n) = nI (popc n 32) := by
  have e0 := bc_bytes (n := n)
  have hb0 : n % 256 < 256 := by omega
  have hb1 : n / 256 % 256 < 256 := by omega
  have hb2 : n / 65536 % 256 < 256 := by omega
  have hb3 : n / 16777216 < 256 := by omega
  have hp : popc n 32 = popc (n % 256) 8 + popc (n / 256 % 256) 8 + popc (n / 65536 % 256) 8 + popc (n / 16777216) 8 := by
    have q1 := popc_add n 8 24
    have q2 := popc_add (n / 2 ^ 8) 8 16
    have q3 := popc_add (n / 2 ^ 8 / 2 ^ 8) 8 8
    have r0 := popc_mod n 8 8 (by omega)
    have r1 := popc_mod (n / 2 ^ 8) 8 8 (by omega)
    have r2 := popc_mod (n / 2 ^ 8 / 2 ^ 8) 8 8 (by omega)
    have d2 : n / 2 ^ 8 / 2 ^ 8 = n / 65536 := by omega
    have d3 : n / 65536 / 2 ^ 8 = n / 16777216 := by omega
    rw [d2] at q2 q3 r2
    rw [d3] at q3
    have t1 : popc n 32 = popc n (8 + 24) := rfl
    have t2 : popc (n / 2 ^ 8) 24 = popc (n / 2 ^ 8) (8 + 16) := rfl
    have t3 : popc (n / 65536) 16 = popc (n / 65536) (8 + 8) := rfl
    rw [t1, q1, t2, q2, t3, q3, ← r0, ← r1, ← r2]
    simp only [show (2 : Nat) ^ 8 = 256 from rfl]
    omega
  revert hp
  generalize n % 256 = a at *
  generalize n / 256 % 256 = b at *
  generalize n / 65536 % 256 = c at *
  generalize n / 16777216 = d at *
  intro hp
  obtain ⟨a1, a2, a3⟩ := bc_s2 a hb0
  obtain ⟨b1, b2, b3⟩ := bc_s2 b hb1
  obtain ⟨c1, c2, c3⟩ := bc_s2 c hb2
  obtain ⟨d1, d2, d3⟩ := bc_s2 d hb3
  have sa := bc_s1 a hb0
  have sb := bc_s1 b hb1
  have sc := bc_s1 c hb2
  have sd := bc_s1 d hb3
  -- the first step
  have f1 : n / 2 &&& 1431655765 = by4 ((a / 2) &&& 85) ((b / 2) &&& 85) ((c / 2) &&& 85) ((d / 2) &&& 85) := by
    have h : n / 2 = by4 (a / 2 + 128 * (b % 2)) (b / 2 + 128 * (c % 2)) (c / 2 + 128 * (d % 2)) (d / 2 + 128 * 0) := by
      rw [e0]; unfold by4; omega
    rw [h, show (1431655765 : Nat) = by4 85 85 85 85 from rfl, and_4 (by omega) (by omega) (by omega) (by omega), bc_1 a hb0 _ (by omega), bc_1 b hb1 _ (by omega), bc_1 c hb2 _ (by omega), bc_1 d hb3 _ (by omega)]
  have f2 : n - (n / 2 &&& 1431655765) = by4 (bs1 a) (bs1 b) (bs1 c) (bs1 d) := by
    rw [f1]
    unfold bs1
    rw [e0]
    unfold by4
    omega
  have f2' : n / 2 &&& 1431655765 ≤ n := by
    rw [f1, e0]
    unfold by4
    omega
  have ga : bs1 a < 256 := by unfold bs1; omega
  have gb : bs1 b < 256 := by unfold bs1; omega
  have gc : bs1 c < 256 := by unfold bs1; omega
  have gd : bs1 d < 256 := by unfold bs1; omega
  generalize bs1 a = a' at *
  generalize bs1 b = b' at *
  generalize bs1 c = c' at *
  generalize bs1 d = d' at *
  have f3 : (by4 a' b' c' d' &&& 858993459) + (by4 a' b' c' d' / 4 &&& 858993459) = by4 (bs2 a') (bs2 b') (bs2 c') (bs2 d') := by
    have h : by4 a' b' c' d' / 4 = by4 (a' / 4 + 64 * (b' % 4)) (b' / 4 + 64 * (c' % 4)) (c' / 4 + 64 * (d' % 4)) (d' / 4 + 64 * 0) := by
      unfold by4; omega
    rw [h, show (858993459 : Nat) = by4 51 51 51 51 from rfl, and_4 (by omega) (by omega) (by omega) (by omega), and_4 (by omega) (by omega) (by omega) (by omega), bc_2 a' ga _ (by omega), bc_2 b' gb _ (by omega), bc_2 c' gc _ (by omega), bc_2 d' gd _ (by omega)]
    unfold by4 bs2
    omega
  generalize bs2 a' = z0 at *
  generalize bs2 b' = z1 at *
  generalize bs2 c' = z2 at *
  generalize bs2 d' = z3 at *
  have f4 : (by4 z0 z1 z2 z3 + by4 z0 z1 z2 z3 / 16) &&& 252645135 = by4 (z0 % 16 + z0 / 16) (z1 % 16 + z1 / 16) (z2 % 16 + z2 / 16) (z3 % 16 + z3 / 16) := by
    have h : by4 z0 z1 z2 z3 + by4 z0 z1 z2 z3 / 16 = by4 (z0 + z0 / 16 + 16 * (z1 % 16)) (z1 + z1 / 16 + 16 * (z2 % 16)) (z2 + z2 / 16 + 16 * (z3 % 16)) (z3 + z3 / 16 + 16 * (0 % 16)) := by
      unfold by4; omega
    rw [h, show (252645135 : Nat) = by4 15 15 15 15 from rfl, and_4 (by omega) (by omega) (by omega) (by omega), bc_4 a1 a2, bc_4 b1 b2, bc_4 c1 c2, bc_4 d1 d2]
  rw [f_Integer_bitCount_u]
  dsimp only [nm]
  rw [u_shr hn (1 : Int32) 1 (by decide), show (1431655765 : Int32) = nI 1431655765 from rfl, nx_and, pk_sub (show n / 2 ^ 1 &&& 1431655765 ≤ n from f2'), show n - (n / 2 ^ 1 &&& 1431655765) = by4 a' b' c' d' from f2]
  have k1 : by4 a' b' c' d' < 2 ^ 32 := by unfold by4; omega
  rw [u_shr k1 (2 : Int32) 2 (by decide), show (858993459 : Int32) = nI 858993459 from rfl, nx_and, nx_and, nI_add, show (by4 a' b' c' d' &&& 858993459) + (by4 a' b' c' d' / 2 ^ 2 &&& 858993459) = by4 z0 z1 z2 z3 from f3]
  have k2 : by4 z0 z1 z2 z3 < 2 ^ 32 := by unfold by4; omega
  rw [u_shr k2 (4 : Int32) 4 (by decide), nI_add, show (252645135 : Int32) = nI 252645135 from rfl, nx_and, show (by4 z0 z1 z2 z3 + by4 z0 z1 z2 z3 / 2 ^ 4) &&& 252645135 = by4 (z0 % 16 + z0 / 16) (z1 % 16 + z1 / 16) (z2 % 16 + z2 / 16) (z3 % 16 + z3 / 16) from f4]
  rw [a3, b3, c3, d3]
  have qa : popc a 8 ≤ 8 := by omega
  have qb : popc b 8 ≤ 8 := by omega
  have qc : popc c 8 ≤ 8 := by omega
  have qd : popc d 8 ≤ 8 := by omega
  generalize popc a 8 = w0 at *
  generalize popc b 8 = w1 at *
  generalize popc c 8 = w2 at *
  generalize popc d 8 = w3 at *
  have k3 : by4 w0 w1 w2 w3 < 2 ^ 32 := by unfold by4; omega
  rw [u_shr k3 (8 : Int32) 8 (by decide), nI_add]
  have k4 : by4 w0 w1 w2 w3 + by4 w0 w1 w2 w3 / 2 ^ 8 < 2 ^ 32 := by unfold by4; omega
  rw [u_shr k4 (16 : Int32) 16 (by decide), nI_add, show (63 : Int32) = nI (2 ^ 6 - 1) from rfl, nx_and, Nat.and_two_pow_sub_one_eq_mod]
  congr 1
  rw [hp]
  exact bc_5 qa qb qc qd
