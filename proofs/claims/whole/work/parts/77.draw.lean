/-! drawing: the search for a row that is not asked yet ends -/
theorem php : ∀ (n i : Nat) (a : Nat → Nat), (∀ r, r < n → ∃ x, x < i ∧ a x = r) → n ≤ i
  | 0, _, _, _ => Nat.zero_le _
  | n + 1, i, a, h => by
    obtain ⟨x0, hx0, e0⟩ := h n (Nat.lt_succ_self n)
    have hi : 0 < i := by omega
    have ih := php n (i - 1) (fun x => if x = x0 then a (i - 1) else a x) (fun r hr => by
      obtain ⟨x, hx, ex⟩ := h r (by omega)
      by_cases h1 : x = i - 1
      · by_cases h2 : x0 = i - 1
        · have e9 : a x = n := by rw [h1, ← h2]; exact e0
          omega
        · exact ⟨x0, by omega, by rw [if_pos rfl, ← h1]; exact ex⟩
      · by_cases h2 : x = x0
        · rw [h2, e0] at ex
          omega
        · exact ⟨x, by omega, by rw [if_neg h2]; exact ex⟩)
    omega
theorem nxu_eq {d d' : Nat → Nat} {rc : Nat} (h : ∀ r, r < rc → d r = d' r) : ∀ n row, row < rc → nxu d rc n row = nxu d' rc n row
  | 0, _, _ => rfl
  | n + 1, row, hr => by
    unfold nxu
    rw [h row hr]
    split
    · rfl
    · refine nxu_eq h n _ ?_
      split <;> omega
/-- if the search ends at a drawn row, all that it passed are drawn -/
theorem nxu_all {d : Nat → Nat} {rc : Nat} : ∀ n row, row < rc → ¬ d (nxu d rc n row) = 0 → ∀ t, t ≤ n → ¬ d ((row + t) % rc) = 0
  | 0, row, hr, h, t, ht => by
    obtain rfl : t = 0 := by omega
    rw [Nat.add_zero, Nat.mod_eq_of_lt hr]
    exact h
  | n + 1, row, hr, h, t, ht => by
    unfold nxu at h
    by_cases h0 : d row = 0
    · rw [if_pos h0] at h
      exact absurd h0 h
    · rw [if_neg h0] at h
      match t with
      | 0 =>
        rw [Nat.add_zero, Nat.mod_eq_of_lt hr]
        exact h0
      | t + 1 =>
        by_cases h1 : row + 1 < rc
        · rw [if_pos h1] at h
          have e := nxu_all n (row + 1) h1 h t (by omega)
          rw [show row + (t + 1) = row + 1 + t from by omega]
          exact e
        · rw [if_neg h1] at h
          have e := nxu_all n 0 (by omega) h t (by omega)
          rw [show row + (t + 1) = t + rc from by omega, Nat.add_mod_right]
          rw [Nat.zero_add] at e
          exact e
theorem mia_of {V : Nat → Nat → Nat} {r : Nat} : ∀ n, ¬ mia V r n = 0 → ∃ x, x < n ∧ V 95 x = r
  | 0, h => absurd rfl h
  | n + 1, h => by
    unfold mia at h
    by_cases h0 : mia V r n = 0
    · rw [if_pos h0] at h
      by_cases h1 : V 95 n = r
      · exact ⟨n, by omega, h1⟩
      · rw [if_neg h1] at h
        exact absurd rfl h
    · obtain ⟨x, hx, e⟩ := mia_of n h0
      exact ⟨x, by omega, e⟩
/-- with fewer rows asked than there are, the search ends at one that is not asked -/
theorem mcr_free {W : Nat → Nat → Nat} {s rc i : Nat} (h0 : 0 < rc) (hi : i < rc) : mia W (mcr W s rc i) i = 0 := by
  refine Decidable.byContradiction fun h => ?_
  have hall := nxu_all (d := fun r => mia W r i) (rc := rc) rc _ (Nat.mod_lt (stp (sdn s i) / 2 ^ 16) h0) h
  have hp := php rc i (W 95) (fun r hr => by
    have hq := Nat.mod_lt (stp (sdn s i) / 2 ^ 16) h0
    generalize stp (sdn s i) / 2 ^ 16 % rc = q at hall hq
    by_cases hqr : q ≤ r
    · have e := hall (r - q) (by omega)
      rw [show q + (r - q) = r from by omega, Nat.mod_eq_of_lt hr] at e
      exact mia_of i e
    · have e := hall (r + rc - q) (by omega)
      rw [show q + (r + rc - q) = r + rc from by omega, Nat.add_mod_right, Nat.mod_eq_of_lt hr] at e
      exact mia_of i e)
  omega
