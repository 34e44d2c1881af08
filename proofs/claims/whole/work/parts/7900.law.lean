/-! THE LAW at its start -/
def fuelN : Nat := 5000
theorem inv_0 : INV (0 : Int32) (0 : Int32) (0 : Int32) (0 : Int32) (0 : Int32) (0 : Int32) (0 : Int32) (0 : Int32) (0 : Int32) (0 : Int32) (0 : Int32) (fun _ => (0 : Int32)) (fun _ => (0 : Int32)) (fun _ => (0 : Int32)) (fun _ => (0 : Int32)) (fun _ => (0 : Int32)) (fun _ => (0 : Int32)) (fun _ => (0 : Int32)) (fun _ => (0 : Int32)) (fun _ => (0 : Int32)) (fun _ => (0 : Int32)) (fun _ => (0 : Int32)) (fun _ => (0 : Int32)) (fun _ => (0 : Int32)) (fun _ => (0 : Int32)) (fun _ => (0 : Int32)) (fun _ => (0 : Int32)) (fun _ => (0 : Int64)) (fun _ => (0 : Int32)) (fun _ => (0 : Int64)) (0 : Int32) (0 : Int32) (0 : Int32) (0 : Int32) (0 : Int32) (0 : Int32) (0 : Int32) (fun _ => (0 : Int32)) (fun _ => (0 : Int32)) (fun _ => (0 : Int32)) (fun _ => (0 : Int32)) (fun _ => (0 : Int32)) (fun _ => (0 : Int32)) (fun _ => (0 : Int32)) (fun _ => (0 : Int32)) (fun _ => (0 : Int32)) (fun _ => (0 : Int32)) (fun _ => (0 : Int32)) (fun _ => (0 : Int32)) (fun _ => (0 : Int64)) (fun _ => (0 : Int32)) (fun _ => (0 : Int32)) := by
  have eM : ∀ p, MN [] 0 (fun _ _ => 0) p = [] := fun p => if_neg (Nat.not_lt_zero p)
  have nS : ∀ (P : Nat → Prop) (k : Nat), (∀ i, ¬ P i) → isS 0 P k := fun P k h => ⟨0, by omega, rfl, fun i _ => ⟨fun hb => absurd hb (bit0 i), fun hp => absurd hp.2 (h i)⟩⟩
  refine ⟨[], 0, fun _ _ => 0, fun _ => 0, fun _ => 0, fun _ => 0, fun _ => 0, 0, fun _ _ => False, 0, fun _ => 0, fun _ => 0, fun _ => 0, 0, 0, 0, fun _ => 0, fun _ => 0, fun _ => 0, fun _ => 0, fun _ => 0, none, ?_, ?_, ?_, ?_, ?_, rfl, fun _ _ => rfl, ?_, ?_, Or.inl ⟨rfl, rfl, Or.inl rfl⟩, ?_, ?_, fun _ _ _ _ => tf_f id, ?_, ?_, Or.inl ⟨rfl, rfl, rfl⟩, fun L hL => by cases hL⟩
  · refine ⟨by decide, fun x hx => (by cases hx), by omega, rfl, hI_nil, fun p hp => absurd hp (Nat.not_lt_zero p), fun p _ => ?_⟩
    rw [eM p]
    exact ⟨rfl, hI_nil, fun k _ => ⟨0, by decide, rfl, fun t _ => ⟨fun hb => absurd hb (bit0 t), fun ⟨x, hx, _⟩ => by cases hx⟩⟩⟩
  · exact ⟨by omega, rfl, isS_0 _, ⟨fun q _ => nS _ 8 (fun v h => absurd h.1 (Nat.not_lt_zero q)), fun v _ => nS _ 8 (fun q h => absurd h.1 (Nat.not_lt_zero q))⟩, fun p hp => absurd hp (Nat.not_lt_zero p), fun p hp => absurd hp (Nat.not_lt_zero p)⟩
  · exact fun p _ => ⟨rfl, rfl, rfl⟩
  · exact ⟨fun a b h => absurd h id, fun p q x h => absurd h (bit0 q), fun p => bit0 p, fun p X _ q h => absurd h (bit0 q), fun p => by show 0 < 256; omega, by omega, fun p => ⟨fun h => absurd h (bit0 p), fun ⟨k, h⟩ => h.elim (fun h => absurd h id) (fun h => absurd h id)⟩⟩
  · exact fun p hp => absurd hp (Nat.not_lt_zero p)
  · exact ⟨⟨by omega, fun f hf => absurd hf (Nat.not_lt_zero f)⟩, rfl, rfl, by decide⟩
  · exact ⟨by omega, by omega, rfl, rfl, fun i hi => absurd hi (Nat.not_lt_zero i), fun h => absurd h (Nat.not_lt_zero 0)⟩
  · exact ⟨by decide, fun x hx => (by cases hx), rfl, fun i t h => by simp at h⟩
  · exact ⟨by omega, rfl, fun p hp => absurd hp (Nat.not_lt_zero p), fun p hp => absurd hp (Nat.not_lt_zero p), fun p hp => absurd hp (Nat.not_lt_zero p)⟩
  · exact ⟨by omega, rfl, fun f hf => absurd hf (Nat.not_lt_zero f)⟩
  · exact ⟨by omega, by omega, rfl, rfl, fun i hi => absurd hi (Nat.not_lt_zero i), fun f hf => absurd hf (Nat.not_lt_zero f)⟩
theorem pure_law {L : Nat} {xs : Nat → Int32} (hL : L ≤ 2560) (u_2 : Nat → Nat) : f_JoinOrderLaw_law fuelN L xs u_2 = some (1 : Int32) := by
  apply ok_eq
  rw [f_JoinOrderLaw_law_u]
  exact law_loop (n := fuelN) (by decide) hL fuelN 0 _ _ _ _ _ _ _ _ _ _ _ _ _ _ _ _ _ _ _ _ _ _ _ _ _ _ _ _ _ _ _ _ _ _ _ _ _ _ _ _ _ _ _ _ _ _ _ _ _ _ _ _ _ _ _ _ _ _ _ _ _ _ _ _ _ _ _ _ _ _ _ _ _ _ _ _ _ _ _ _ (Nat.zero_le _) (by have : fuelN = 5000 := rfl; omega) inv_0
