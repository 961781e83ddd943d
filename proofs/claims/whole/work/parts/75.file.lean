/-! making a file: the class's rows and the model's -/
theorem mkw_at {V : Nat → Nat → Nat} {f : Nat} (hf : f < 3) : ∀ n, n ≤ 64 → ∀ x, mkw V f n (6 + 5 * f + 1) x = if x / 30 < 4 ∧ x % 30 < 20 ∧ x % 5 < 4 ∧ 16 * (x / 30) + 4 * (x % 30 / 5) + x % 5 < n then V 1 (16 * (x / 30) + 4 * (x % 30 / 5) + x % 5) else V (6 + 5 * f + 1) x
  | 0, _, x => by
    rw [if_neg (by omega)]
    rfl
  | n + 1, hn, x => by
    have ih := mkw_at (V := V) hf n (by omega) x
    show vu (mkw V f n) (6 + 5 * f + 1) ((n / 16 * 6 + n % 16 / 4) * 5 + n % 4) (mkw V f n 1 n) (6 + 5 * f + 1) x = _
    by_cases h : x = (n / 16 * 6 + n % 16 / 4) * 5 + n % 4
    · have e : 16 * (x / 30) + 4 * (x % 30 / 5) + x % 5 = n := by omega
      rw [if_pos (by omega), e]
      refine (if_pos ⟨rfl, h⟩).trans ?_
      rw [mkw_nq (by omega)]
    · refine (if_neg (fun z => h z.2)).trans ?_
      rw [ih]
      by_cases h2 : x / 30 < 4 ∧ x % 30 < 20 ∧ x % 5 < 4 ∧ 16 * (x / 30) + 4 * (x % 30 / 5) + x % 5 < n
      · rw [if_pos h2, if_pos (by omega)]
      · rw [if_neg h2, if_neg (by omega)]
theorem spd_at (V : Nat → Nat → Nat) (r first x : Nat) : spd V r first (r + 1) x = if (first + 4) * 5 ≤ x ∧ x < (first + 6) * 5 ∧ x % 5 < 4 then cwd (fun q => V (r + 1) ((first + q) * 5 + x % 5)) ((x - (first + 4) * 5) / 5) else V (r + 1) x := by
  by_cases h : (first + 4) * 5 ≤ x ∧ x < (first + 6) * 5 ∧ x % 5 < 4
  · rw [if_pos h]
    obtain ⟨c, j, hc, hj, rfl⟩ : ∃ c j, c < 2 ∧ j < 4 ∧ x = (first + 4 + c) * 5 + j := ⟨(x - (first + 4) * 5) / 5, x % 5, by omega, by omega, by omega⟩
    rw [show ((first + 4 + c) * 5 + j) % 5 = j from by omega, show ((first + 4 + c) * 5 + j - (first + 4) * 5) / 5 = c from by omega]
    unfold spd
    rcases (show c = 0 ∨ c = 1 by omega) with rfl | rfl
    all_goals
      rcases (show j = 0 ∨ j = 1 ∨ j = 2 ∨ j = 3 by omega) with rfl | rfl | rfl | rfl
      all_goals
        unfold vu
        repeat' first
          | rw [if_pos ⟨rfl, rfl⟩]
          | rw [if_neg (by omega)]
  · rw [if_neg h]
    unfold spd vu
    repeat' rw [if_neg (by omega)]
theorem spall_at (V : Nat → Nat → Nat) (r : Nat) : ∀ G x, spall V r G (r + 1) x = if x / 30 < G ∧ 20 ≤ x % 30 ∧ x % 5 < 4 then cwd (fun q => V (r + 1) ((6 * (x / 30) + q) * 5 + x % 5)) (x % 30 / 5 - 4) else V (r + 1) x
  | 0, x => by
    rw [if_neg (by omega)]
    rfl
  | G + 1, x => by
    show spd (spall V r G) r (6 * G) (r + 1) x = _
    rw [spd_at]
    by_cases h : (6 * G + 4) * 5 ≤ x ∧ x < (6 * G + 6) * 5 ∧ x % 5 < 4
    · rw [if_pos h, if_pos (by omega), show x / 30 = G from by omega, show (x - (6 * G + 4) * 5) / 5 = x % 30 / 5 - 4 from by omega]
      refine cwd_eq _ (fun q hq => ?_)
      rw [spall_at V r G, if_neg (by omega)]
    · rw [if_neg h, spall_at V r G]
      by_cases h2 : x / 30 < G ∧ 20 ≤ x % 30 ∧ x % 5 < 4
      · rw [if_pos h2, if_pos (by omega)]
      · rw [if_neg h2, if_neg (by omega)]
theorem tall_at (V : Nat → Nat → Nat) (f r : Nat) (h5 : 5 + 5 * f ≠ r + 1) (h4 : 4 + 5 * f ≠ r + 1) : ∀ n x, tall V f r n (r + 1) x = if x % 5 = 4 ∧ x / 5 < n then tgd (V (5 + 5 * f) (x / 5)) (V (4 + 5 * f)) (fun j => V (r + 1) (x / 5 * 5 + j)) else V (r + 1) x
  | 0, x => by
    rw [if_neg (by omega)]
    rfl
  | n + 1, x => by
    show vu (tall V f r n) (r + 1) (n * 5 + 4) _ (r + 1) x = _
    by_cases h : x = n * 5 + 4
    · rw [if_pos (by omega)]
      refine (if_pos ⟨rfl, h⟩).trans ?_
      rw [tall_nq h5, tall_nq h4, show x / 5 = n from by omega]
      refine tgd_eq rfl (fun _ _ => rfl) (fun j hj => ?_)
      rw [tall_at V f r h5 h4 n, if_neg (by omega)]
    · refine (if_neg (fun z => h z.2)).trans ?_
      rw [tall_at V f r h5 h4 n]
      by_cases h2 : x % 5 = 4 ∧ x / 5 < n
      · rw [if_pos h2, if_pos (by omega)]
      · rw [if_neg h2, if_neg (by omega)]
theorem en4_at (V : Nat → Nat → Nat) (f i : Nat) : ∀ j x, en4 V f i j 88 x = if 5 * (24 * f + i) ≤ x ∧ x < 5 * (24 * f + i) + j then mew V (i / 6) (i % 6) (x - 5 * (24 * f + i)) else V 88 x
  | 0, x => by
    rw [if_neg (by omega)]
    rfl
  | j + 1, x => by
    show vu (en4 V f i j) 88 (5 * (24 * f + i) + j) _ 88 x = _
    by_cases h : x = 5 * (24 * f + i) + j
    · rw [if_pos (by omega), show x - 5 * (24 * f + i) = j from by omega]
      exact if_pos ⟨rfl, h⟩
    · refine (if_neg (fun z => h z.2)).trans ?_
      rw [en4_at V f i j]
      by_cases h2 : 5 * (24 * f + i) ≤ x ∧ x < 5 * (24 * f + i) + j
      · rw [if_pos h2, if_pos (by omega)]
      · rw [if_neg h2, if_neg (by omega)]
/-- the model's rows, all at once -/
theorem enc_at (V : Nat → Nat → Nat) (L : Nat → Nat → Int64) (f : Nat) : ∀ n x, enc V L f n 88 x = if 120 * f ≤ x ∧ x < 120 * f + 5 * n then (if x % 5 < 4 then mew V ((x - 120 * f) / 30) ((x - 120 * f) / 5 % 6) (x % 5) else tgd (sN (L 85 1) (L 85 2) (64 * f + 8 + (x - 120 * f) / 5)) (fun j => sN (L 85 1) (L 85 2) (64 * f + j)) (fun j => mew V ((x - 120 * f) / 30) ((x - 120 * f) / 5 % 6) j)) else V 88 x
  | 0, x => by
    rw [if_neg (by omega)]
    rfl
  | n + 1, x => by
    have hmew : ∀ g r j, mew (enc V L f n) g r j = mew V g r j := fun g r j => by unfold mew; rw [enc_nq (by decide)]
    show vu (en4 (enc V L f n) f n 4) 88 (5 * (24 * f + n) + 4) _ 88 x = _
    by_cases h : x = 5 * (24 * f + n) + 4
    · rw [if_pos (by omega), if_neg (by omega), show (x - 120 * f) / 5 = n from by omega, show (x - 120 * f) / 30 = n / 6 from by omega]
      refine (if_pos ⟨rfl, h⟩).trans ?_
      refine tgd_eq rfl (fun _ _ => rfl) (fun j hj => ?_)
      rw [en4_at, if_pos (by omega), hmew, show 5 * (24 * f + n) + j - 5 * (24 * f + n) = j from by omega]
    · refine (if_neg (fun z => h z.2)).trans ?_
      rw [en4_at]
      by_cases h1 : 5 * (24 * f + n) ≤ x ∧ x < 5 * (24 * f + n) + 4
      · rw [if_pos h1, if_pos (by omega), if_pos (by omega), hmew, show (x - 120 * f) / 30 = n / 6 from by omega, show (x - 120 * f) / 5 % 6 = n % 6 from by omega, show x - 5 * (24 * f + n) = x % 5 from by omega]
      · rw [if_neg h1, enc_at V L f n]
        by_cases h2 : 120 * f ≤ x ∧ x < 120 * f + 5 * n
        · rw [if_pos h2, if_pos (show 120 * f ≤ x ∧ x < 120 * f + 5 * (n + 1) by omega)]
        · rw [if_neg h2, if_neg (show ¬ (120 * f ≤ x ∧ x < 120 * f + 5 * (n + 1)) by omega)]
/-- a word of the class's rows is that of the model's -/
theorem file_w {A W : Nat → Nat → Nat} {f n : Nat} (hf : f < 3) (hn : n ≤ 64) (hz : ∀ y, y < 120 → A (6 + 5 * f + 1) y = 0) (h100 : ∀ x, x < 64 → W 100 x = if x < n then A 1 x else 0) : ∀ y, y < 120 → spall (mkw A f n) (6 + 5 * f) ((n + 15) / 16) (6 + 5 * f + 1) y = if y / 30 < (n + 15) / 16 ∧ y % 5 < 4 then mew W (y / 30) (y / 5 % 6) (y % 5) else 0 := by
  intro y hy
  rw [spall_at]
  have hp : ∀ q, q < 4 → ∀ g j, g < 4 → j < 4 → mkw A f n (6 + 5 * f + 1) ((6 * g + q) * 5 + j) = W 100 (16 * g + 4 * q + j) := fun q hq g j hg hj => by
    rw [mkw_at hf n hn, show ((6 * g + q) * 5 + j) / 30 = g from by omega, show ((6 * g + q) * 5 + j) % 30 / 5 = q from by omega, show ((6 * g + q) * 5 + j) % 5 = j from by omega, h100 _ (by omega)]
    by_cases h : 16 * g + 4 * q + j < n
    · rw [if_pos (by omega), if_pos h]
    · rw [if_neg (by omega), if_neg h, hz _ (by omega)]
  by_cases h : y / 30 < (n + 15) / 16 ∧ 20 ≤ y % 30 ∧ y % 5 < 4
  · rw [if_pos h, if_pos ⟨h.1, h.2.2⟩]
    unfold mew
    rw [if_neg (by omega), show y % 30 / 5 - 4 = y / 5 % 6 - 4 from by omega]
    exact cwd_eq _ (fun q hq => hp q hq (y / 30) (y % 5) (by omega) h.2.2)
  · rw [if_neg h]
    by_cases h2 : y / 30 < (n + 15) / 16 ∧ y % 5 < 4
    · rw [if_pos h2]
      unfold mew
      rw [if_pos (by omega)]
      have e := hp (y / 5 % 6) (by omega) (y / 30) (y % 5) (by omega) h2.2
      rw [show (6 * (y / 30) + y / 5 % 6) * 5 + y % 5 = y from by omega] at e
      exact e
    · rw [if_neg h2, mkw_at hf n hn, if_neg (by omega), hz y hy]
/-- the rows of a file: the class's and the model's -/
theorem file_r {A W : Nat → Nat → Nat} {L : Nat → Nat → Int64} {f n : Nat} (hf : f < 3) (hn : n ≤ 64) (hz : ∀ y, y < 120 → A (6 + 5 * f + 1) y = 0) (h100 : ∀ x, x < 64 → W 100 x = if x < n then A 1 x else 0) (h88 : ∀ y, y < 120 → W 88 (120 * f + y) = 0) (hal : ∀ j, j < 4 → A (4 + 5 * f) j = sN (L 85 1) (L 85 2) (64 * f + j)) (hms : ∀ i, i < 24 → A (5 + 5 * f) i = sN (L 85 1) (L 85 2) (64 * f + 8 + i)) :
    ∀ y, y < 120 → enc W L f (6 * ((n + 15) / 16)) 88 (120 * f + y) = cmpl (mkw A f n) f (6 + 5 * f) ((n + 15) / 16) (6 + 5 * f + 1) y := by
  intro y hy
  have hw := file_w hf hn hz h100
  unfold cmpl
  rw [enc_at, tall_at _ _ _ (by omega) (by omega), show (120 * f + y - 120 * f) = y from by omega, show (120 * f + y) % 5 = y % 5 from by omega, spall_nq (by omega), spall_nq (by omega), mkw_nq (by omega), mkw_nq (by omega)]
  by_cases h : y < 5 * (6 * ((n + 15) / 16))
  · rw [if_pos (show 120 * f ≤ 120 * f + y ∧ 120 * f + y < 120 * f + 5 * (6 * ((n + 15) / 16)) by omega)]
    by_cases h4 : y % 5 < 4
    · rw [if_pos h4, if_neg (by omega), hw y hy, if_pos (by omega)]
    · rw [if_neg h4, if_pos (by omega)]
      refine tgd_eq (hms _ (by omega)).symm (fun j hj => (hal j hj).symm) (fun j hj => ?_)
      rw [hw _ (by omega), if_pos (by omega), show (y / 5 * 5 + j) / 30 = y / 30 from by omega, show (y / 5 * 5 + j) / 5 % 6 = y / 5 % 6 from by omega, show (y / 5 * 5 + j) % 5 = j from by omega]
  · rw [if_neg (show ¬ (120 * f ≤ 120 * f + y ∧ 120 * f + y < 120 * f + 5 * (6 * ((n + 15) / 16))) by omega), if_neg (by omega), hw y hy, if_neg (by omega), h88 y hy]
