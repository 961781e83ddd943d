/-! solve: each stage at once -/
theorem swp_at {S : Nat → Nat} {p c : Nat} : ∀ j, j ≤ 8 → ∀ x, swp S p c j x = if x / 8 = p ∧ x % 8 < j then S (8 * c + x % 8) else if x / 8 = c ∧ x % 8 < j then S (8 * p + x % 8) else S x
  | 0, _, x => by
    rw [if_neg (by omega), if_neg (by omega)]
    rfl
  | j + 1, hj, x => by
    have ih := swp_at (S := S) (p := p) (c := c) j (by omega)
    have e1 : swp S p c j (8 * p + j) = S (8 * p + j) := by rw [ih, if_neg (by omega), if_neg (by omega)]
    have e2 : swp S p c j (8 * c + j) = S (8 * c + j) := by rw [ih, if_neg (by omega), if_neg (by omega)]
    show su (su (swp S p c j) (8 * p + j) (swp S p c j (8 * c + j))) (8 * c + j) (swp S p c j (8 * p + j)) x = _
    rw [e1, e2]
    by_cases h : x = 8 * c + j
    · refine (if_pos h).trans ?_
      by_cases hp : p = c
      · rw [if_pos (by omega)]
        congr 1
        omega
      · rw [if_neg (by omega), if_pos (by omega)]
        congr 1
        omega
    · refine (if_neg h).trans ?_
      by_cases h2 : x = 8 * p + j
      · rw [if_pos (by omega)]
        refine (if_pos h2).trans ?_
        congr 1
        omega
      · refine (if_neg h2).trans ?_
        rw [ih]
        by_cases h3 : x / 8 = p ∧ x % 8 < j
        · rw [if_pos h3, if_pos (by omega)]
        · rw [if_neg h3, if_neg (show ¬ (x / 8 = p ∧ x % 8 < j + 1) by omega)]
          by_cases h4 : x / 8 = c ∧ x % 8 < j
          · rw [if_pos h4, if_pos (by omega)]
          · rw [if_neg h4, if_neg (by omega)]
theorem scl_at {S : Nat → Nat} {c b : Nat} : ∀ j, j ≤ 8 → ∀ x, scl S c b j x = if x / 8 = c ∧ x % 8 < j then S x * b % 2147483647 else S x
  | 0, _, x => by
    rw [if_neg (by omega)]
    rfl
  | j + 1, hj, x => by
    have ih := scl_at (S := S) (c := c) (b := b) j (by omega)
    have e1 : scl S c b j (8 * c + j) = S (8 * c + j) := by rw [ih, if_neg (by omega)]
    show su (scl S c b j) (8 * c + j) (scl S c b j (8 * c + j) * b % 2147483647) x = _
    rw [e1]
    by_cases h : x = 8 * c + j
    · refine (if_pos h).trans ?_
      rw [if_pos (by omega), h]
    · refine (if_neg h).trans ?_
      rw [ih]
      by_cases h3 : x / 8 = c ∧ x % 8 < j
      · rw [if_pos h3, if_pos (by omega)]
      · rw [if_neg h3, if_neg (by omega)]
theorem eln_at {S : Nat → Nat} {c n t : Nat} (hn : n ≠ c) : ∀ j, j ≤ 8 → ∀ x, eln S c n t j x = if x / 8 = n ∧ x % 8 < j then (S x + (2147483647 - t) * S (8 * c + x % 8)) % 2147483647 else S x
  | 0, _, x => by
    rw [if_neg (by omega)]
    rfl
  | j + 1, hj, x => by
    have ih := eln_at (S := S) (t := t) hn j (by omega)
    have e1 : eln S c n t j (8 * n + j) = S (8 * n + j) := by rw [ih, if_neg (by omega)]
    have e2 : eln S c n t j (8 * c + j) = S (8 * c + j) := by rw [ih, if_neg (by omega)]
    show su (eln S c n t j) (8 * n + j) ((eln S c n t j (8 * n + j) + (2147483647 - t) * eln S c n t j (8 * c + j)) % 2147483647) x = _
    rw [e1, e2]
    by_cases h : x = 8 * n + j
    · refine (if_pos h).trans ?_
      rw [if_pos (by omega), h, show (8 * n + j) % 8 = j from by omega]
    · refine (if_neg h).trans ?_
      rw [ih]
      by_cases h3 : x / 8 = n ∧ x % 8 < j
      · rw [if_pos h3, if_pos (by omega)]
      · rw [if_neg h3, if_neg (by omega)]
theorem eln_c {S : Nat → Nat} {c : Nat} (hS : sP S) (hc : c < 4) : ∀ j, j ≤ 8 → eln S c c 0 j = S
  | 0, _ => rfl
  | j + 1, hj => by
    have ih := eln_c hS hc j (by omega)
    show su (eln S c c 0 j) (8 * c + j) ((eln S c c 0 j (8 * c + j) + (2147483647 - 0) * eln S c c 0 j (8 * c + j)) % 2147483647) = S
    rw [ih]
    funext x
    by_cases h : x = 8 * c + j
    · refine (if_pos h).trans ?_
      have := hS (8 * c + j) (by omega)
      rw [h, Nat.sub_zero, Nat.add_mul_mod_self_left, Nat.mod_eq_of_lt this]
    · exact if_neg h
theorem ela_at {S : Nat → Nat} {c : Nat} (hS : sP S) (hc : c < 4) : ∀ n, n ≤ 4 → ∀ x, ela S c n x = if x / 8 < n ∧ x / 8 ≠ c then (S x + (2147483647 - S (8 * (x / 8) + c)) * S (8 * c + x % 8)) % 2147483647 else S x
  | 0, _, x => by
    rw [if_neg (by omega)]
    rfl
  | n + 1, hn, x => by
    have ih := ela_at hS hc n (by omega)
    show eln (ela S c n) c n (if n = c then 0 else ela S c n (8 * n + c)) 8 x = _
    by_cases h : n = c
    · subst h
      rw [if_pos rfl, eln_c (sP_ela hS n) hc 8 (by omega), ih]
      by_cases h3 : x / 8 < n ∧ x / 8 ≠ n
      · rw [if_pos h3, if_pos (by omega)]
      · rw [if_neg h3, if_neg (by omega)]
    · have e1 : ela S c n (8 * n + c) = S (8 * n + c) := by rw [ih, if_neg (by omega)]
      have e2 : ela S c n (8 * c + x % 8) = S (8 * c + x % 8) := by rw [ih, if_neg (by omega)]
      rw [if_neg h, e1, eln_at h 8 (by omega), e2]
      by_cases h3 : x / 8 = n ∧ x % 8 < 8
      · rw [if_pos h3, if_pos (by omega), ih, if_neg (by omega), h3.1]
      · rw [if_neg h3, ih]
        by_cases h4 : x / 8 < n ∧ x / 8 ≠ c
        · rw [if_pos h4, if_pos (by omega)]
        · rw [if_neg h4, if_neg (by omega)]
