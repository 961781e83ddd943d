/-! what each of the 104 cells is -/
abbrev jH : Type := (Nat × Nat) ⊕ (Nat × Nat) ⊕ (Nat × List Nat) ⊕ (Nat × List Nat)
abbrev jo (ci : Nat) (fl : List Nat) : jH := .inr (.inr (.inr (ci, fl)))
def jshp (q : Nat) : jH :=
  if q = 0 then jo 0 [1, 1, 3, 4, 0, 20, 77, 82, 0, 83, 0, 84, 86]
  else if q = 1 then .inl (0, 64)
  else if q = 2 then .inr (.inr (.inl (3, [3, 8, 13])))
  else if q < 18 then (match (q - 3) % 5 with
    | 0 => jo 3 [0, 0, q + 3, q + 4, q + 5]
    | 1 => .inl (0, 4)
    | 2 => .inl (0, 24)
    | 3 => jo 5 [q + 3]
    | _ => .inl (0, 120))
  else if q = 18 then .inr (.inr (.inl (4, [19, 33, 47, 61])))
  else if q < 75 then (if (q - 19) % 14 = 0 then jo 4 [q + 3, 0, 0, 0] else if (q - 19) % 14 = 1 then .inr (.inr (.inl (5, [q + 1, q + 5, q + 9]))) else (match ((q - 19) % 14 - 2) % 4 with
    | 0 => jo 2 [0, q + 3, q + 5]
    | 1 => jo 5 [q + 3]
    | 2 => .inl (0, 120)
    | _ => .inl (1, 24)))
  else (match q - 75 with
    | 0 => jo 1 [0, 0, 0, 0, 78, 79, 80, 81]
    | 1 => .inl (0, 24)
    | 2 => .inl (0, 24)
    | 3 => .inl (0, 5)
    | 4 => .inl (1, 24)
    | 5 => .inl (0, 24)
    | 6 => .inl (0, 64)
    | 7 => jo 5 [85]
    | 8 => .inl (0, 120)
    | 9 => .inl (1, 6)
    | 10 => jo 6 [0, 1, 1, 88, 0, 89, 90, 91, 92, 93, 94, 95, 96, 0, 0, 0, 97, 98, 99, 0, 100, 0, 101, 102, 103, 104]
    | 11 => .inl (0, 64)
    | 12 => .inl (0, 3)
    | 13 => .inl (0, 360)
    | 14 => .inl (1, 12)
    | 15 => .inl (0, 1440)
    | 16 => .inl (1, 288)
    | 17 => .inl (0, 4)
    | 18 => .inl (0, 4)
    | 19 => .inl (0, 4)
    | 20 => .inl (0, 24)
    | 21 => .inl (0, 24)
    | 22 => .inl (0, 5)
    | 23 => .inl (0, 24)
    | 24 => .inl (0, 64)
    | 25 => .inl (0, 64)
    | 26 => .inr (.inl (2, 32))
    | 27 => .inl (0, 360)
    | _ => .inr (.inl (2, 1)))
theorem jshp_E : ∀ f, f < 3 → jshp (3 + 5 * f) = jo 3 [0, 0, (4 + 5 * f) + 2, (5 + 5 * f) + 2, (6 + 5 * f) + 2] ∧ jshp (4 + 5 * f) = .inl (0, 4) ∧ jshp (5 + 5 * f) = .inl (0, 24) ∧ jshp (6 + 5 * f) = jo 5 [(7 + 5 * f) + 2] ∧ jshp (7 + 5 * f) = .inl (0, 120) := by
  intro f hf
  match f, hf with
  | 0, _ => exact ⟨rfl, rfl, rfl, rfl, rfl⟩
  | 1, _ => exact ⟨rfl, rfl, rfl, rfl, rfl⟩
  | 2, _ => exact ⟨rfl, rfl, rfl, rfl, rfl⟩
theorem jshp_K : ∀ k, k < 4 → jshp (19 + 14 * k) = jo 4 [(20 + 14 * k) + 2, 0, 0, 0] ∧ jshp (20 + 14 * k) = .inr (.inr (.inl (5, [21 + 14 * k, 25 + 14 * k, 29 + 14 * k]))) := by
  intro k hk
  match k, hk with
  | 0, _ => exact ⟨rfl, rfl⟩
  | 1, _ => exact ⟨rfl, rfl⟩
  | 2, _ => exact ⟨rfl, rfl⟩
  | 3, _ => exact ⟨rfl, rfl⟩
theorem jshp_Y : ∀ k, k < 4 → ∀ f, f < 3 → jshp (21 + 14 * k + 4 * f) = jo 2 [0, (22 + 14 * k + 4 * f) + 2, (24 + 14 * k + 4 * f) + 2] ∧ jshp (22 + 14 * k + 4 * f) = jo 5 [(23 + 14 * k + 4 * f) + 2] ∧ jshp (23 + 14 * k + 4 * f) = .inl (0, 120) ∧ jshp (24 + 14 * k + 4 * f) = .inl (1, 24) := by
  intro k hk f hf
  match k, hk, f, hf with
  | 0, _, 0, _ => exact ⟨rfl, rfl, rfl, rfl⟩
  | 0, _, 1, _ => exact ⟨rfl, rfl, rfl, rfl⟩
  | 0, _, 2, _ => exact ⟨rfl, rfl, rfl, rfl⟩
  | 1, _, 0, _ => exact ⟨rfl, rfl, rfl, rfl⟩
  | 1, _, 1, _ => exact ⟨rfl, rfl, rfl, rfl⟩
  | 1, _, 2, _ => exact ⟨rfl, rfl, rfl, rfl⟩
  | 2, _, 0, _ => exact ⟨rfl, rfl, rfl, rfl⟩
  | 2, _, 1, _ => exact ⟨rfl, rfl, rfl, rfl⟩
  | 2, _, 2, _ => exact ⟨rfl, rfl, rfl, rfl⟩
  | 3, _, 0, _ => exact ⟨rfl, rfl, rfl, rfl⟩
  | 3, _, 1, _ => exact ⟨rfl, rfl, rfl, rfl⟩
  | 3, _, 2, _ => exact ⟨rfl, rfl, rfl, rfl⟩
