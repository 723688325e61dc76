section Start3
variable {L : Nat} {xs : Nat → Int32}
set_option maxRecDepth 100000 in
set_option maxHeartbeats 4000000 in
theorem rI_0 : rI L xs mem0 mem0 400 := by
  have hS : ∀ i, i < 150 → mem0.1 [1, 1] i = oN 0 := fun i hi => by
    show (if 180 ≤ i ∧ i < 180 + 16 then (-4 : Int32) else (if 150 ≤ i ∧ i < 150 + 24 then 30 else 0)) = oN 0
    rw [if_neg (by omega), if_neg (by omega)]
    rfl
  refine ⟨0, 0, 0, 0, 0, 0, fun _ => 0, fun _ => 0, fun _ => 0, fun _ => 0, fun _ => 0, fun _ => 0, ⟨⟨rfl, rfl, rfl, rfl, rfl, rfl, rfl, hS 0 (by omega), hS 1 (by omega), hS 2 (by omega), hS 3 (by omega), hS 4 (by omega), hS 5 (by omega), Nat.zero_le _, Nat.zero_le _, Nat.zero_le _, Nat.zero_le _, Nat.zero_le _, Nat.zero_le _⟩, fun i h => absurd h (Nat.not_lt_zero i), fun i h => absurd h (Nat.not_lt_zero i), fun i h => absurd h (Nat.not_lt_zero i), fun h hh => ?_, fun k hk => ?_, fun i h => absurd h (Nat.not_lt_zero i), fun i h => absurd h (Nat.not_lt_zero i), fun i h => absurd h (Nat.not_lt_zero i), .inl rfl⟩, .inl ⟨rfl, rfl⟩, ⟨fun m hm => absurd hm (Nat.not_lt_zero m), fun b m n hb => absurd hb (Nat.not_lt_zero b)⟩, fun t ht => absurd ht (Nat.not_lt_zero t), fun d _ => .inl ⟨rfl, rfl⟩, rfl⟩
  · have e1 : mem0.1 [7, 0, 0] h = oN 30 := by
      show (if 0 ≤ h ∧ h < 0 + 24 then (30 : Int32) else 0) = oN 30
      rw [if_pos (by omega)]
      rfl
    have e2 : mem0.1 [1, 1] (150 + h) = oN 30 := by
      show (if 180 ≤ 150 + h ∧ 150 + h < 180 + 16 then (-4 : Int32) else (if 150 ≤ 150 + h ∧ 150 + h < 150 + 24 then 30 else 0)) = oN 30
      rw [if_neg (by omega), if_pos (by omega)]
      rfl
    exact ⟨e1.trans e2.symm, 30, by omega, e2⟩
  · refine .inl ⟨?_, ?_⟩
    · show (if 0 ≤ k ∧ k < 0 + 16 then (-1 : Int32) else 0) = oM 1
      rw [if_pos (by omega)]
      rfl
    · show (if 180 ≤ 180 + k ∧ 180 + k < 180 + 16 then (-4 : Int32) else (if 150 ≤ 180 + k ∧ 180 + k < 150 + 24 then 30 else 0)) = oM 4
      rw [if_pos (by omega)]
      rfl
end Start3
