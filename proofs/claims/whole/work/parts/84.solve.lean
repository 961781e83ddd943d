/-! solve: one stage at once -/
theorem sw1_at (S : Nat → Nat) (c x : Nat) : sw1 S c x = if x / 8 = pvs S c (4 - c) c then S (8 * c + x % 8) else if x / 8 = c then S (8 * pvs S c (4 - c) c + x % 8) else S x := by
  unfold sw1
  rw [swp_at 8 (Nat.le_refl _)]
  have h8 : x % 8 < 8 := Nat.mod_lt _ (by decide)
  generalize pvs S c (4 - c) c = p
  by_cases h : x / 8 = p
  · rw [if_pos ⟨h, h8⟩, if_pos h]
  · rw [if_neg (fun z => h z.1), if_neg h]
    by_cases h2 : x / 8 = c
    · rw [if_pos ⟨h2, h8⟩, if_pos h2]
    · rw [if_neg (fun z => h2 z.1), if_neg h2]
theorem sw1_c (S : Nat → Nat) (c : Nat) {j : Nat} (hj : j < 8) : sw1 S c (8 * c + j) = S (8 * pvs S c (4 - c) c + j) := by
  rw [sw1_at, show (8 * c + j) / 8 = c from by omega, show (8 * c + j) % 8 = j from by omega]
  generalize pvs S c (4 - c) c = p
  by_cases h : c = p
  · rw [if_pos h, h]
  · rw [if_neg h, if_pos rfl]
theorem sc1_at (S : Nat → Nat) (c x : Nat) : sc1 S c x = if x / 8 = c then S x * ovr (S (8 * c + c)) % 2147483647 else S x := by
  unfold sc1
  rw [scl_at 8 (Nat.le_refl _)]
  have h8 : x % 8 < 8 := Nat.mod_lt _ (by decide)
  by_cases h : x / 8 = c
  · rw [if_pos ⟨h, h8⟩, if_pos h]
  · rw [if_neg (fun z => h z.1), if_neg h]
/-- row c after its stage: the pivot's row over its pivot -/
theorem stc_c {S : Nat → Nat} {c : Nat} (hS : sP S) (hc : c < 4) (hp : pvs S c (4 - c) c < 4) {j : Nat} (hj : j < 8) : stc S c (8 * c + j) = S (8 * pvs S c (4 - c) c + j) * ovr (S (8 * pvs S c (4 - c) c + c)) % 2147483647 := by
  unfold stc
  rw [ela_at (show sP (sc1 (sw1 S c) c) from sP_scl (sP_swp hS hp hc 8 (by omega)) 8) hc 4 (by omega), if_neg (by omega), sc1_at, if_pos (by omega), sw1_c S c hj, sw1_c S c (show c < 8 by omega)]
/-- another row after the stage of c -/
theorem stc_n {S : Nat → Nat} {c n : Nat} (hS : sP S) (hc : c < 4) (hn : n < 4) (hnc : n ≠ c) (hp : pvs S c (4 - c) c < 4) {j : Nat} (hj : j < 8) : stc S c (8 * n + j) = (sw1 S c (8 * n + j) + (2147483647 - sw1 S c (8 * n + c)) * (S (8 * pvs S c (4 - c) c + j) * ovr (S (8 * pvs S c (4 - c) c + c)) % 2147483647)) % 2147483647 := by
  unfold stc
  rw [ela_at (show sP (sc1 (sw1 S c) c) from sP_scl (sP_swp hS hp hc 8 (by omega)) 8) hc 4 (by omega), if_pos (by omega), show (8 * n + j) / 8 = n from by omega, show (8 * n + j) % 8 = j from by omega, sc1_at, if_neg (by omega), sc1_at, if_neg (by omega), sc1_at, if_pos (by omega), sw1_c S c hj, sw1_c S c (show c < 8 by omega)]
