/-! drawing: the answers -/
theorem man_at (W : Nat → Nat → Nat) (k f r i : Nat) : ∀ n j, man W k f r i n 97 j = if j < n then fpl (W 97 j) (fti (W 96 i) (W 90 (360 * k + 5 * (24 * f + r) + j))) else W 97 j
  | 0, j => by
    rw [if_neg (by omega)]
    rfl
  | n + 1, j => by
    show vu (man W k f r i n) 97 n _ 97 j = _
    by_cases h : j = n
    · rw [if_pos (by omega)]
      refine (if_pos ⟨rfl, h⟩).trans ?_
      rw [man_at W k f r i n n, if_neg (by omega), man_nq (by decide), man_nq (by decide), h]
    · refine (if_neg (fun z => h z.2)).trans ?_
      rw [man_at W k f r i n j]
      by_cases h2 : j < n
      · rw [if_pos h2, if_pos (by omega)]
      · rw [if_neg h2, if_neg (by omega)]
theorem mcs_st {V1 : Nat → Nat → Nat} {f k s m rc : Nat} {i x : Nat} (hx : x < i) : ∀ e, mcs V1 f k s m rc (i + e) 95 x = mcs V1 f k s m rc i 95 x ∧ mcs V1 f k s m rc (i + e) 96 x = mcs V1 f k s m rc i 96 x
  | 0 => ⟨rfl, rfl⟩
  | e + 1 => by
    obtain ⟨h1, h2⟩ := mcs_st hx e
    have eM : ∀ a, a ≠ 97 → mcs V1 f k s m rc (i + e + 1) a = vu (vu (mcs V1 f k s m rc (i + e)) 95 (i + e) (mcr (mcs V1 f k s m rc (i + e)) s rc (i + e))) 96 (i + e) (drc s (i + e)) a := fun a ha => man_nq ha 5
    rw [← Nat.add_assoc, eM 95 (by decide), eM 96 (by decide)]
    refine ⟨?_, ?_⟩
    · rw [vu_nq _ (i + e) _ (show 95 ≠ 96 by decide)]
      exact (if_neg (by omega)).trans h1
    · refine (if_neg (by omega)).trans ?_
      rw [vu_nq _ (i + e) _ (show 96 ≠ 95 by decide)]
      exact h2
/-- the answer's numbers, as the class sums them -/
theorem ans_eq {X V1 : Nat → Nat → Nat} {f k s m rc r : Nat} (hm : m ≤ 24) (h5 : ∀ x, x < m → mcs V1 f k s m rc m 95 x = X 76 x ∧ mcs V1 f k s m rc m 96 x = X 77 x) (h9 : ∀ y j, y < 24 → j < 5 → V1 90 (360 * k + 5 * (24 * f + y) + j) = X (r + 1) (y * 5 + j)) (h24 : ∀ x, x < m → X 76 x < 24) : ∀ i, i ≤ m → ∀ j, j < 5 → mcs V1 f k s m rc i 97 j = asm X r j i
  | 0, _, j, hj => by
    show (if 97 = 97 ∧ j < 5 then 0 else _) = 0
    exact if_pos ⟨rfl, hj⟩
  | i + 1, hi, j, hj => by
    have ih := ans_eq hm h5 h9 h24 i (by omega) j hj
    have hs := mcs_st (V1 := V1) (f := f) (k := k) (s := s) (m := m) (rc := rc) (i := i + 1) (x := i) (by omega) (m - (i + 1))
    rw [show i + 1 + (m - (i + 1)) = m from by omega] at hs
    have eM : ∀ a, a ≠ 97 → mcs V1 f k s m rc (i + 1) a = vu (vu (mcs V1 f k s m rc i) 95 i (mcr (mcs V1 f k s m rc i) s rc i)) 96 i (drc s i) a := fun a ha => man_nq ha 5
    have eR : mcr (mcs V1 f k s m rc i) s rc i = X 76 i := by
      rw [← (h5 i (by omega)).1, hs.1, eM 95 (by decide), vu_nq _ i _ (show 95 ≠ 96 by decide), vu_eq]
    have eD : drc s i = X 77 i := by
      rw [← (h5 i (by omega)).2, hs.2, eM 96 (by decide), vu_eq]
    show man (vu (vu (mcs V1 f k s m rc i) 95 i (mcr (mcs V1 f k s m rc i) s rc i)) 96 i (drc s i)) k f (mcr (mcs V1 f k s m rc i) s rc i) i 5 97 j = fpl (asm X r j i) (fti (X 77 i) (X (r + 1) (X 76 i * 5 + j)))
    rw [man_at, if_pos hj, eR, eD, vu_eq, vu_nq _ i _ (show 97 ≠ 96 by decide), vu_nq _ i _ (show 97 ≠ 95 by decide), vu_nq _ i _ (show 90 ≠ 96 by decide), vu_nq _ i _ (show 90 ≠ 95 by decide), ih, mcs_nq (by decide) (by decide) (by decide), ← h9 _ _ (h24 i (by omega)) hj]
    rfl
