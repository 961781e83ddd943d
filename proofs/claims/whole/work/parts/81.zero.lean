/-! the memory at the law's loop: all 0 -/
theorem jInv_0 : jInv (fun _ _ => 0) (fun _ _ => 0) := by
  refine ⟨⟨?_, ?_, ?_, ?_, fun f hf => ?_, fun k hk f hf => ?_, ?_, ?_, ?_⟩, ⟨⟨rfl, fun _ _ => rfl, fun _ _ => rfl, fun _ _ _ _ => rfl⟩, fun _ _ _ _ => ⟨rfl, fun _ _ => rfl, fun _ _ => rfl⟩, fun _ _ => ⟨rfl, rfl, rfl⟩, ⟨fun _ => rfl, fun h => absurd h (by decide), rfl, rfl, fun _ _ => ⟨rfl, rfl⟩, fun _ _ => rfl⟩, ⟨rfl, fun _ _ => rfl, rfl, fun _ _ => rfl⟩, rfl, rfl⟩, fun f hf => absurd hf (Nat.not_lt_zero _), fun _ _ _ => ⟨rfl, fun _ _ => rfl, fun _ _ => rfl⟩, fun h => absurd h (by decide)⟩
  · exact Nat.zero_le _
  · exact Nat.zero_le _
  · exact Nat.zero_le _
  · exact fun _ _ => (show (0 : Nat) < 2147483647 by decide)
  · exact ⟨Nat.zero_le _, (show (0 : Nat) = 6 * ((0 + 15) / 16) by decide), fun _ _ => (show (0 : Nat) < 2147483647 by decide), fun _ _ => (show (0 : Nat) < 2147483647 by decide), fun _ _ => (show (0 : Nat) < 2147483647 by decide)⟩
  · exact ⟨Nat.zero_le _, fun _ _ => (show (0 : Nat) ≤ 1 by decide), fun _ _ => (show (0 : Nat) < 2147483647 by decide)⟩
  · exact ⟨Nat.zero_le _, show (0 : Nat) < 3 by decide, show (0 : Nat) < 4 by decide, Nat.zero_le _, fun _ _ => (show (0 : Nat) < 24 by decide), fun _ _ => (show (0 : Nat) < 2147483647 by decide), fun _ _ => (show (0 : Nat) < 2147483647 by decide), fun _ _ => (show (0 : Nat) ≤ 1 by decide)⟩
  · exact fun _ _ => (show (0 : Nat) < 2147483647 by decide)
  · exact fun _ _ => (show (0 : Nat) ≤ 1 by decide)
