/-! recover: the words that the class makes solve the rows that were taken -/
theorem cwd_s (x : Nat → Nat) (c : Nat) : cwd x c = (x 0 * jinvN (4 + c - 0) + x 1 * jinvN (4 + c - 1) + x 2 * jinvN (4 + c - 2) + x 3 * jinvN (4 + c - 3)) % 2147483647 := by
  unfold cwd fpl fti
  generalize x 0 * jinvN (4 + c - 0) = a
  generalize x 1 * jinvN (4 + c - 1) = b
  generalize x 2 * jinvN (4 + c - 2) = d
  generalize x 3 * jinvN (4 + c - 3) = e
  simp only [Nat.zero_add, Nat.mod_add_mod, Nat.add_mod_mod]
theorem cwd_md (x : Nat → Nat) {c : Nat} (hc : c < 2) : l4 (cof (4 + c)) x % 2147483647 = cwd x c := by
  have e : ∀ i, i < 4 → cof (4 + c) i = jinvN (4 + c - i) := fun i hi => by
    unfold cof
    rw [if_neg (by omega), ovr_inv _ (by omega) (by omega)]
  rw [l4_eq x e, cwd_s]
  unfold l4
  simp only [Nat.mul_comm]
theorem cwd_1 (x : Nat → Nat) {c ms : Nat} (hms : ms < 4) (y : Nat → Nat) (h : ∀ i, i < 4 → i ≠ ms → x i = y i) (h0 : y ms = 0) : cwd x c = (cwd y c + x ms * jinvN (4 + c - ms)) % 2147483647 := by
  rw [cwd_s, cwd_s]
  rcases (show ms = 0 ∨ ms = 1 ∨ ms = 2 ∨ ms = 3 by omega) with rfl | rfl | rfl | rfl
  · rw [h0, h 1 (by omega) (by omega), h 2 (by omega) (by omega), h 3 (by omega) (by omega), Nat.zero_mul, Nat.mod_add_mod]
    congr 1
    omega
  · rw [h0, h 0 (by omega) (by omega), h 2 (by omega) (by omega), h 3 (by omega) (by omega), Nat.zero_mul, Nat.mod_add_mod]
    congr 1
    omega
  · rw [h0, h 0 (by omega) (by omega), h 1 (by omega) (by omega), h 3 (by omega) (by omega), Nat.zero_mul, Nat.mod_add_mod]
    congr 1
    omega
  · rw [h0, h 0 (by omega) (by omega), h 1 (by omega) (by omega), h 2 (by omega) (by omega), Nat.zero_mul, Nat.mod_add_mod, Nat.add_zero]
theorem inv_k : ∀ k, k < 6 → 1 ≤ k → k * jinvN k % 2147483647 = 1 := by decide +kernel
/-- one missing word -/
theorem rec1 {x y : Nat → Nat} {v ms c : Nat} (hms : ms < 4) (hc : c < 2) (hv : v < 2147483647) (h : ∀ i, i < 4 → i ≠ ms → x i = y i) (h0 : y ms = 0) (hx : x ms = fti (fmi v (cwd y c)) (4 + c - ms)) : cwd x c = v := by
  have hC := cwd_lt y c
  have hk := inv_k (4 + c - ms) (by omega) (by omega)
  rw [cwd_1 x hms y h h0, hx]
  generalize cwd y c = C at *
  unfold fti fmi
  rw [Nat.add_mod, Nat.mod_mul_mod, Nat.mul_assoc, Nat.mul_mod, hk, Nat.mul_one, Nat.mod_mod, Nat.mod_mod]
  omega
theorem cwd_2 (x : Nat → Nat) {c lo hi : Nat} (hlo : lo < hi) (hhi : hi < 4) (y : Nat → Nat) (h : ∀ i, i < 4 → i ≠ lo → i ≠ hi → x i = y i) (h0 : y lo = 0) (h1 : y hi = 0) : cwd x c = (cwd y c + (x lo * jinvN (4 + c - lo) + x hi * jinvN (4 + c - hi)) % 2147483647) % 2147483647 := by
  have e1 := cwd_1 x (c := c) (ms := hi) hhi (fun i => if i = hi then 0 else x i) (fun i _ hi => (if_neg hi).symm) (if_pos rfl)
  have e2 := cwd_1 (fun i => if i = hi then 0 else x i) (c := c) (ms := lo) (by omega) y (fun i h4 hl => by
    by_cases h5 : i = hi
    · exact (if_pos h5).trans (by rw [h5, h1])
    · exact (if_neg h5).trans (h i h4 hl h5)) h0
  rw [e1, e2, show (if lo = hi then 0 else x lo) = x lo from if_neg (by omega)]
  generalize x lo * jinvN (4 + c - lo) = a
  generalize x hi * jinvN (4 + c - hi) = b
  rw [Nat.mod_add_mod, Nat.add_mod_mod, Nat.add_assoc]
theorem lin2 {A B : Nat} {lo hi : Nat} (h1 : lo < hi) (h2 : hi < 4) (hA : A < 2147483647) (hB : B < 2147483647) (X Y h l : Nat) (hX : X = fti A ((4 - lo) * (4 - hi))) (hY : Y = fmi (fti B ((4 - lo + 1) * (4 - hi + 1))) X) (hh : h = fti (fmi X (fti Y (4 - hi))) (jinvN (4 - lo - (4 - hi)))) (hl : l = fmi Y h) : (l * jinvN (4 + 0 - lo) + h * jinvN (4 + 0 - hi)) % 2147483647 = A ∧ (l * jinvN (4 + 1 - lo) + h * jinvN (4 + 1 - hi)) % 2147483647 = B := by
  rcases (show (lo = 0 ∧ hi = 1) ∨ (lo = 0 ∧ hi = 2) ∨ (lo = 0 ∧ hi = 3) ∨ (lo = 1 ∧ hi = 2) ∨ (lo = 1 ∧ hi = 3) ∨ (lo = 2 ∧ hi = 3) by omega) with ⟨rfl, rfl⟩ | ⟨rfl, rfl⟩ | ⟨rfl, rfl⟩ | ⟨rfl, rfl⟩ | ⟨rfl, rfl⟩ | ⟨rfl, rfl⟩
  all_goals
    simp only [fti, fmi, jinvN, Nat.reduceAdd, Nat.reduceSub, Nat.reduceMul] at *
    constructor <;> omega
theorem fmi_k {v C : Nat} (hv : v < 2147483647) (hC : C < 2147483647) : (C + fmi v C) % 2147483647 = v := by
  unfold fmi
  omega
/-- two missing words -/
theorem rec2 {x y : Nat → Nat} {v w lo hi : Nat} (h1 : lo < hi) (h2 : hi < 4) (hv : v < 2147483647) (hw : w < 2147483647) (h : ∀ i, i < 4 → i ≠ lo → i ≠ hi → x i = y i) (h0 : y lo = 0) (h3 : y hi = 0) (X Y : Nat) (hX : X = fti (fmi v (cwd y 0)) ((4 - lo) * (4 - hi))) (hY : Y = fmi (fti (fmi w (cwd y 1)) ((4 - lo + 1) * (4 - hi + 1))) X) (hh : x hi = fti (fmi X (fti Y (4 - hi))) (jinvN (4 - lo - (4 - hi)))) (hl : x lo = fmi Y (x hi)) : cwd x 0 = v ∧ cwd x 1 = w := by
  obtain ⟨e1, e2⟩ := lin2 h1 h2 (fmi_lt _ _) (fmi_lt _ _) X Y (x hi) (x lo) hX hY hh hl
  rw [cwd_2 x h1 h2 y h h0 h3, cwd_2 x h1 h2 y h h0 h3, e1, e2]
  exact ⟨fmi_k hv (cwd_lt _ _), fmi_k hw (cwd_lt _ _)⟩
theorem nms_of {V : Nat → Nat → Nat} {fr m : Nat} (hm : m ≤ 4) (hf : fr ≤ m) (h : ∀ i, fr ≤ i → i < m → V 84 i ≠ 0) (h0 : m < 4 → V 84 m = 0) : nms V fr = m := by
  have hn : ∀ i, i < m → ¬ (fr < i + 1 ∧ V 84 i = 0) := fun i hi z => h i (by omega) hi z.2
  have hp : m < 4 → fr < m + 1 ∧ V 84 m = 0 := fun z => ⟨by omega, h0 z⟩
  unfold nms
  rcases (show m = 0 ∨ m = 1 ∨ m = 2 ∨ m = 3 ∨ m = 4 by omega) with rfl | rfl | rfl | rfl | rfl
  · exact if_pos (hp (by omega))
  · exact (if_neg (hn 0 (by omega))).trans (if_pos (hp (by omega)))
  · exact (if_neg (hn 0 (by omega))).trans ((if_neg (hn 1 (by omega))).trans (if_pos (hp (by omega))))
  · exact (if_neg (hn 0 (by omega))).trans ((if_neg (hn 1 (by omega))).trans ((if_neg (hn 2 (by omega))).trans (if_pos (hp (by omega)))))
  · exact (if_neg (hn 0 (by omega))).trans ((if_neg (hn 1 (by omega))).trans ((if_neg (hn 2 (by omega))).trans (if_neg (hn 3 (by omega)))))
theorem rc1_at (V : Nat → Nat → Nat) (r first ms c : Nat) {i j : Nat} (hj : j < 5) : rc1 V r first ms c (r + 1) ((first + i) * 5 + j) = if i = ms ∧ j < 4 then fti (rst V r first c j) (4 + c - ms) else V (r + 1) ((first + i) * 5 + j) := by
  unfold rc1 vu
  by_cases h : i = ms ∧ j < 4
  · obtain ⟨rfl, h4⟩ := h
    rw [if_pos (show i = i ∧ j < 4 from ⟨rfl, h4⟩)]
    rcases (show j = 0 ∨ j = 1 ∨ j = 2 ∨ j = 3 by omega) with rfl | rfl | rfl | rfl
    all_goals
      repeat' first
        | rw [if_pos ⟨rfl, rfl⟩]
        | rw [if_neg (by omega)]
  · rw [if_neg h]
    repeat' rw [if_neg (by omega)]
theorem rc2_at (V : Nat → Nat → Nat) (r first lo hi : Nat) (hlh : lo < hi) {i j : Nat} (hj : j < 5) : rc2 V r first lo hi (r + 1) ((first + i) * 5 + j) = if i = lo ∧ j < 4 then rtl V r first lo hi j else if i = hi ∧ j < 4 then rth V r first lo hi j else V (r + 1) ((first + i) * 5 + j) := by
  unfold rc2 vu
  by_cases h : i = lo ∧ j < 4
  · obtain ⟨rfl, h4⟩ := h
    rw [if_pos (show i = i ∧ j < 4 from ⟨rfl, h4⟩)]
    rcases (show j = 0 ∨ j = 1 ∨ j = 2 ∨ j = 3 by omega) with rfl | rfl | rfl | rfl
    all_goals
      repeat' first
        | rw [if_pos ⟨rfl, rfl⟩]
        | rw [if_neg (by omega)]
  · rw [if_neg h]
    by_cases h2 : i = hi ∧ j < 4
    · obtain ⟨rfl, h4⟩ := h2
      rw [if_pos (show i = i ∧ j < 4 from ⟨rfl, h4⟩)]
      rcases (show j = 0 ∨ j = 1 ∨ j = 2 ∨ j = 3 by omega) with rfl | rfl | rfl | rfl
      all_goals
        repeat' first
          | rw [if_pos ⟨rfl, rfl⟩]
          | rw [if_neg (by omega)]
    · rw [if_neg h2]
      repeat' rw [if_neg (by omega)]
theorem clr_at (V : Nat → Nat → Nat) (r first ms : Nat) {i j : Nat} (hj : j < 5) : clr V r (first + ms) (r + 1) ((first + i) * 5 + j) = if i = ms then 0 else V (r + 1) ((first + i) * 5 + j) := by
  unfold clr
  by_cases h : i = ms
  · rw [if_pos h, if_pos ⟨rfl, by omega, by omega⟩]
  · rw [if_neg h, if_neg (by omega)]
/-- what is asked of the words made: they solve what was taken -/
def rcs (G R : Nat → Nat → Nat) (first : Nat) : Prop := (∀ j, j < 4 → ∀ u, u < 6 → G 84 u = 1 → (if u < 4 then R 83 ((first + u) * 5 + j) else cwd (fun i => R 83 ((first + i) * 5 + j)) (u - 4)) = G 83 ((first + u) * 5 + j)) ∧ ∀ i j, j < 5 → 4 ≤ i → R 83 ((first + i) * 5 + j) = G 83 ((first + i) * 5 + j)
theorem rcv_0 {G : Nat → Nat → Nat} {first : Nat} (hf : ∀ i, i < 4 → G 84 i = 1) (h4 : ∀ u, u < 6 → G 84 u = 1 → u < 4) : rcs G (rcv G first) first := by
  have e : rcv G first = G := by
    unfold rcv
    rw [nms_of (m := 4) (by omega) (by omega) (fun i _ hi => by rw [hf i hi]; decide) (fun h => by omega), if_pos rfl]
  rw [e]
  exact ⟨fun j hj u hu h1 => if_pos (h4 u hu h1), fun _ _ _ _ => rfl⟩
theorem rcv_1 {G : Nat → Nat → Nat} {first ms c : Nat} (hms : ms < 4) (hc : c < 2) (hG : ∀ i, i < 120 → G 83 i < 2147483647) (h24 : first + 6 ≤ 24) (hf : ∀ i, i < 4 → i ≠ ms → G 84 i = 1) (h0 : G 84 ms = 0) (hc4 : (if G 84 4 = 0 then 1 else 0) = c) (h4 : ∀ u, u < 6 → G 84 u = 1 → u < 4 ∨ u = 4 + c) : rcs G (rcv G first) first := by
  have e : rcv G first = rc1 (clr G 82 (first + ms)) 82 first ms c := by
    unfold rcv
    rw [nms_of (m := ms) (by omega) (by omega) (fun i _ hi => by rw [hf i (by omega) (by omega)]; decide) (fun _ => h0), if_neg (by omega), nms_of (m := 4) (by omega) (by omega) (fun i h1 hi => by rw [hf i (by omega) (by omega)]; decide) (fun h => by omega), if_pos rfl, hc4]
  rw [e]
  have ex : ∀ i j, j < 5 → i ≠ ms → rc1 (clr G 82 (first + ms)) 82 first ms c 83 ((first + i) * 5 + j) = G 83 ((first + i) * 5 + j) := fun i j hj hi => by
    rw [show 83 = 82 + 1 from rfl, rc1_at _ _ _ _ _ hj, if_neg (fun z => hi z.1), clr_at _ _ _ _ hj, if_neg hi]
  refine ⟨fun j hj u hu h1 => ?_, fun i j hj hi => ex i j hj (by omega)⟩
  rcases h4 u hu h1 with h | rfl
  · rw [if_pos h]
    refine ex u j (by omega) (fun z => ?_)
    rw [z, h0] at h1
    exact absurd h1 (by decide)
  · rw [if_neg (by omega), show 4 + c - 4 = c from by omega]
    refine rec1 (y := fun i => clr G 82 (first + ms) 83 ((first + i) * 5 + j)) hms hc (hG _ (by omega)) (fun i hi hn => ?_) ?_ ?_
    · show _ = clr G 82 (first + ms) 83 ((first + i) * 5 + j)
      rw [ex i j (by omega) hn, show 83 = 82 + 1 from rfl, clr_at _ _ _ _ (show j < 5 by omega), if_neg hn]
    · show clr G 82 (first + ms) (82 + 1) ((first + ms) * 5 + j) = 0
      rw [clr_at _ _ _ _ (show j < 5 by omega), if_pos rfl]
    · show rc1 (clr G 82 (first + ms)) 82 first ms c (82 + 1) ((first + ms) * 5 + j) = _
      rw [rc1_at _ _ _ _ _ (show j < 5 by omega), if_pos ⟨rfl, hj⟩]
      unfold rst
      rw [show first + 4 + c = first + (4 + c) from by omega, clr_at _ _ _ _ (show j < 5 by omega), if_neg (by omega)]
theorem rcv_2 {G : Nat → Nat → Nat} {first lo hi : Nat} (hlo : lo < hi) (hhi : hi < 4) (hG : ∀ i, i < 120 → G 83 i < 2147483647) (h24 : first + 6 ≤ 24) (hf : ∀ i, i < 4 → i ≠ lo → i ≠ hi → G 84 i = 1) (h0 : G 84 lo = 0) (h1 : G 84 hi = 0) : rcs G (rcv G first) first := by
  generalize hK : clr (clr G 82 (first + lo)) 82 (first + hi) = K
  have e : rcv G first = rc2 K 82 first lo hi := by
    unfold rcv
    rw [nms_of (m := lo) (by omega) (by omega) (fun i _ hi => by rw [hf i (by omega) (by omega) (by omega)]; decide) (fun _ => h0), if_neg (by omega), nms_of (m := hi) (by omega) (by omega) (fun i h1 hi => by rw [hf i (by omega) (by omega) (by omega)]; decide) (fun _ => h1), if_neg (by omega), hK]
  rw [e]
  have eK : ∀ i j, j < 5 → K 83 ((first + i) * 5 + j) = if i = hi then 0 else if i = lo then 0 else G 83 ((first + i) * 5 + j) := fun i j hj => by
    rw [← hK, show 83 = 82 + 1 from rfl, clr_at _ _ _ _ hj, clr_at _ _ _ _ hj]
  have ex : ∀ i j, j < 5 → i ≠ lo → i ≠ hi → rc2 K 82 first lo hi 83 ((first + i) * 5 + j) = G 83 ((first + i) * 5 + j) := fun i j hj h2 h3 => by
    rw [show 83 = 82 + 1 from rfl, rc2_at _ _ _ _ _ hlo hj, if_neg (fun z => h2 z.1), if_neg (fun z => h3 z.1)]
    exact (eK i j hj).trans ((if_neg h3).trans (if_neg h2))
  have hs : ∀ c j, c < 2 → j < 4 → rst K 82 first c j = fmi (G 83 ((first + (4 + c)) * 5 + j)) (cwd (fun i => K 83 ((first + i) * 5 + j)) c) := fun c j hc hj => by
    unfold rst
    rw [show first + 4 + c = first + (4 + c) from by omega]
    show fmi (K 83 _) _ = _
    rw [eK _ _ (by omega), if_neg (by omega), if_neg (by omega)]
  refine ⟨fun j hj u hu hu1 => ?_, fun i j hj hi => ex i j hj (by omega) (by omega)⟩
  by_cases h : u < 4
  · rw [if_pos h]
    refine ex u j (by omega) (fun z => ?_) (fun z => ?_)
    · rw [z, h0] at hu1
      exact absurd hu1 (by decide)
    · rw [z, h1] at hu1
      exact absurd hu1 (by decide)
  · rw [if_neg h]
    have er := rec2 (x := fun i => rc2 K 82 first lo hi 83 ((first + i) * 5 + j)) (y := fun i => K 83 ((first + i) * 5 + j)) (v := G 83 ((first + (4 + 0)) * 5 + j)) (w := G 83 ((first + (4 + 1)) * 5 + j)) hlo hhi (hG _ (by omega)) (hG _ (by omega))
      (fun i hi h2 h3 => (ex i j (by omega) h2 h3).trans ((eK i j (by omega)).trans ((if_neg h3).trans (if_neg h2))).symm)
      ((eK lo j (by omega)).trans ((if_neg (by omega)).trans (if_pos rfl))) ((eK hi j (by omega)).trans (if_pos rfl))
      (rtx K 82 first lo hi j) (rtb K 82 first lo hi j) (by unfold rtx; rw [hs 0 j (by omega) hj]) (by unfold rtb; rw [hs 1 j (by omega) hj])
      (by
        show rc2 K 82 first lo hi (82 + 1) ((first + hi) * 5 + j) = _
        rw [rc2_at _ _ _ _ _ hlo (by omega), if_neg (by omega), if_pos ⟨rfl, hj⟩]
        rfl)
      (by
        show rc2 K 82 first lo hi (82 + 1) ((first + lo) * 5 + j) = fmi _ (rc2 K 82 first lo hi (82 + 1) ((first + hi) * 5 + j))
        rw [rc2_at _ _ _ _ _ hlo (by omega), if_pos ⟨rfl, hj⟩, rc2_at _ _ _ _ _ hlo (by omega), if_neg (by omega), if_pos ⟨rfl, hj⟩]
        rfl)
    rcases (show u = 4 ∨ u = 5 by omega) with rfl | rfl
    · exact er.1
    · exact er.2
/-- whichever four rows were taken -/
theorem rcv_a {G : Nat → Nat → Nat} {first : Nat} {r : Nat → Nat} (hG : ∀ i, i < 120 → G 83 i < 2147483647) (h24 : first + 6 ≤ 24) (hr : ∀ n, n < 4 → r n < 6) (hi : ∀ n m, n < m → m < 4 → r n < r m) (h1 : ∀ n, n < 4 → G 84 (r n) = 1) (h2 : ∀ u, u < 6 → G 84 u = 1 → ∃ n, n < 4 ∧ r n = u) (h01 : ∀ i, i < 6 → G 84 i ≤ 1) : rcs G (rcv G first) first := by
  have a1 := hi 0 1 (by omega) (by omega)
  have a2 := hi 1 2 (by omega) (by omega)
  have a3 := hi 2 3 (by omega) (by omega)
  have a4 := hr 3 (by omega)
  have z : ∀ u, u < 6 → u ≠ r 0 → u ≠ r 1 → u ≠ r 2 → u ≠ r 3 → G 84 u = 0 := fun u hu n0 n1 n2 n3 => by
    have b := h01 u hu
    rcases (show G 84 u = 0 ∨ G 84 u = 1 by omega) with h | h
    · exact h
    · obtain ⟨n, hn, e⟩ := h2 u hu h
      rcases (show n = 0 ∨ n = 1 ∨ n = 2 ∨ n = 3 by omega) with rfl | rfl | rfl | rfl
      · exact absurd e.symm n0
      · exact absurd e.symm n1
      · exact absurd e.symm n2
      · exact absurd e.symm n3
  have o : ∀ u, u = r 0 ∨ u = r 1 ∨ u = r 2 ∨ u = r 3 → G 84 u = 1 := fun u hu => by
    rcases hu with rfl | rfl | rfl | rfl
    · exact h1 0 (by omega)
    · exact h1 1 (by omega)
    · exact h1 2 (by omega)
    · exact h1 3 (by omega)
  have t : ∀ u, u < 6 → G 84 u = 1 → u = r 0 ∨ u = r 1 ∨ u = r 2 ∨ u = r 3 := fun u hu h => by
    apply Classical.byContradiction
    intro hn
    rw [z u hu (by omega) (by omega) (by omega) (by omega)] at h
    exact absurd h (by decide)
  by_cases h3 : r 3 < 4
  · exact rcv_0 (fun i hi => o i (by omega)) (fun u hu h => by have := t u hu h; omega)
  · by_cases h4 : r 2 < 4
    · obtain ⟨ms, hm, n0, n1, n2⟩ : ∃ ms, ms < 4 ∧ ms ≠ r 0 ∧ ms ≠ r 1 ∧ ms ≠ r 2 := by
        rcases (show (0 ≠ r 0 ∧ 0 ≠ r 1 ∧ 0 ≠ r 2) ∨ (1 ≠ r 0 ∧ 1 ≠ r 1 ∧ 1 ≠ r 2) ∨ (2 ≠ r 0 ∧ 2 ≠ r 1 ∧ 2 ≠ r 2) ∨ (3 ≠ r 0 ∧ 3 ≠ r 1 ∧ 3 ≠ r 2) by omega) with h | h | h | h
        · exact ⟨0, by omega, h⟩
        · exact ⟨1, by omega, h⟩
        · exact ⟨2, by omega, h⟩
        · exact ⟨3, by omega, h⟩
      refine rcv_1 (ms := ms) (c := r 3 - 4) hm (by omega) hG h24 (fun i hi hn => o i (by omega)) (z ms (by omega) n0 n1 n2 (by omega)) ?_ (fun u hu h => by have := t u hu h; omega)
      by_cases h5 : r 3 = 4
      · rw [o 4 (by omega), if_neg (by decide)]
        omega
      · rw [z 4 (by omega) (by omega) (by omega) (by omega) (by omega), if_pos rfl]
        omega
    · obtain ⟨lo, hi', hl, hh, n0, n1, n2, n3⟩ : ∃ lo hi', lo < hi' ∧ hi' < 4 ∧ lo ≠ r 0 ∧ lo ≠ r 1 ∧ hi' ≠ r 0 ∧ hi' ≠ r 1 := by
        rcases (show (r 0 = 0 ∧ r 1 = 1) ∨ (r 0 = 0 ∧ r 1 = 2) ∨ (r 0 = 0 ∧ r 1 = 3) ∨ (r 0 = 1 ∧ r 1 = 2) ∨ (r 0 = 1 ∧ r 1 = 3) ∨ (r 0 = 2 ∧ r 1 = 3) by omega) with h | h | h | h | h | h
        · exact ⟨2, 3, by omega, by omega, by omega, by omega, by omega, by omega⟩
        · exact ⟨1, 3, by omega, by omega, by omega, by omega, by omega, by omega⟩
        · exact ⟨1, 2, by omega, by omega, by omega, by omega, by omega, by omega⟩
        · exact ⟨0, 3, by omega, by omega, by omega, by omega, by omega, by omega⟩
        · exact ⟨0, 2, by omega, by omega, by omega, by omega, by omega, by omega⟩
        · exact ⟨0, 1, by omega, by omega, by omega, by omega, by omega, by omega⟩
      exact rcv_2 hl hh hG h24 (fun i hi hn hn2 => o i (by omega)) (z lo (by omega) n0 n1 (by omega) (by omega)) (z hi' (by omega) n2 n3 (by omega) (by omega))
