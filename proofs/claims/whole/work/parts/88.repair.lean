/-! repair and fetch: what the class makes is what the model makes -/
/-- the rows made out of the words gathered: the class's and the model's -/
theorem gat_r {A W : Nat → Nat → Nat} {L : Nat → Nat → Int64} {f G : Nat} (hf : f < 3) (hw : ∀ q, q < G → ∀ i, i < 4 → ∀ j, j < 4 → W 100 (16 * q + 4 * i + j) = A 83 ((6 * q + i) * 5 + j)) (hG : G ≤ 4) (hal : ∀ j, j < 4 → A (4 + 5 * f) j = sN (L 85 1) (L 85 2) (64 * f + j)) (hms : ∀ i, i < 24 → A (5 + 5 * f) i = sN (L 85 1) (L 85 2) (64 * f + 8 + i)) : ∀ y, y < 30 * G → enc W L f (6 * G) 88 (120 * f + y) = cmpl A f 82 G 83 y := by
  have hs : ∀ y, y < 30 * G → y % 5 < 4 → spall A 82 G (82 + 1) y = mew W (y / 30) (y / 5 % 6) (y % 5) := fun y hy h5 => by
    rw [spall_at]
    unfold mew
    by_cases h : y / 30 < G ∧ 20 ≤ y % 30 ∧ y % 5 < 4
    · rw [if_pos h, if_neg (by omega), show y % 30 / 5 - 4 = y / 5 % 6 - 4 from by omega]
      refine cwd_eq _ (fun q hq => ?_)
      rw [hw (y / 30) h.1 q hq (y % 5) h5]
    · rw [if_neg h, if_pos (by omega), hw (y / 30) (by omega) (y / 5 % 6) (by omega) (y % 5) h5]
      congr 1
      omega
  intro y hy
  unfold cmpl
  rw [show 83 = 82 + 1 from rfl, enc_at, tall_at _ _ _ (by omega) (by omega), show (120 * f + y - 120 * f) = y from by omega, show (120 * f + y) % 5 = y % 5 from by omega, spall_nq (by omega), spall_nq (by omega), if_pos (show 120 * f ≤ 120 * f + y ∧ 120 * f + y < 120 * f + 5 * (6 * G) by omega)]
  by_cases h4 : y % 5 < 4
  · rw [if_pos h4, if_neg (by omega), hs y hy h4]
  · rw [if_neg h4, if_pos (by omega)]
    refine tgd_eq (hms _ (by omega)).symm (fun j hj => (hal j hj).symm) (fun j hj => ?_)
    rw [hs _ (by omega) (by omega), show (y / 5 * 5 + j) / 30 = y / 30 from by omega, show (y / 5 * 5 + j) / 5 % 6 = y / 5 % 6 from by omega, show (y / 5 * 5 + j) % 5 = j from by omega]
/-- a plain word stays as it is when the rows are completed -/
theorem cmpl_p {A : Nat → Nat → Nat} {f G q i j : Nat} (hf : f < 3) (hi : i < 4) (hj : j < 4) : cmpl A f 82 G 83 ((6 * q + i) * 5 + j) = A 83 ((6 * q + i) * 5 + j) := by
  unfold cmpl
  rw [show 83 = 82 + 1 from rfl, tall_at _ _ _ (by omega) (by omega), if_neg (by omega), spall_at, if_neg (by omega)]
theorem mdo_5 (V : Nat → Nat → Nat) (k f i p : Nat) : mdo V k f i p 5 = if V 89 (3 * k + f) = 0 then 1 else if V 91 (72 * k + 24 * f + i) = 0 then (if V 90 (360 * k + 5 * (24 * f + i) + 0) = V 88 (p + 0) ∧ V 90 (360 * k + 5 * (24 * f + i) + 1) = V 88 (p + 1) ∧ V 90 (360 * k + 5 * (24 * f + i) + 2) = V 88 (p + 2) ∧ V 90 (360 * k + 5 * (24 * f + i) + 3) = V 88 (p + 3) ∧ V 90 (360 * k + 5 * (24 * f + i) + 4) = V 88 (p + 4) then 0 else 1) else 1 := by
  have s : ∀ j, mdo V k f i p (j + 1) = if mdo V k f i p j = 0 then (if V 90 (360 * k + 5 * (24 * f + i) + j) = V 88 (p + j) then 0 else 1) else 1 := fun _ => rfl
  have s0 : mdo V k f i p 0 = if V 89 (3 * k + f) = 0 then 1 else if V 91 (72 * k + 24 * f + i) = 0 then 0 else 1 := rfl
  rw [s 4, s 3, s 2, s 1, s 0, s0]
  by_cases h1 : V 89 (3 * k + f) = 0
  · simp [h1]
  · by_cases h2 : V 91 (72 * k + 24 * f + i) = 0
    · rw [if_neg h1, if_neg h1, if_pos h2, if_pos h2, if_pos rfl]
      by_cases a0 : V 90 (360 * k + 5 * (24 * f + i) + 0) = V 88 (p + 0)
      · rw [if_pos a0, if_pos rfl]
        by_cases a1 : V 90 (360 * k + 5 * (24 * f + i) + 1) = V 88 (p + 1)
        · rw [if_pos a1, if_pos rfl]
          by_cases a2 : V 90 (360 * k + 5 * (24 * f + i) + 2) = V 88 (p + 2)
          · rw [if_pos a2, if_pos rfl]
            by_cases a3 : V 90 (360 * k + 5 * (24 * f + i) + 3) = V 88 (p + 3)
            · rw [if_pos a3, if_pos rfl]
              by_cases a4 : V 90 (360 * k + 5 * (24 * f + i) + 4) = V 88 (p + 4)
              · rw [if_pos a4, if_pos ⟨a0, a1, a2, a3, a4⟩]
              · rw [if_neg a4, if_neg (fun z => a4 z.2.2.2.2)]
            · rw [if_neg a3, if_neg (show ¬ (1 : Nat) = 0 by decide), if_neg (fun z => a3 z.2.2.2.1)]
          · rw [if_neg a2, if_neg (show ¬ (1 : Nat) = 0 by decide), if_neg (show ¬ (1 : Nat) = 0 by decide), if_neg (fun z => a2 z.2.2.1)]
        · rw [if_neg a1, if_neg (show ¬ (1 : Nat) = 0 by decide), if_neg (show ¬ (1 : Nat) = 0 by decide), if_neg (show ¬ (1 : Nat) = 0 by decide), if_neg (fun z => a1 z.2.1)]
      · rw [if_neg a0, if_neg (show ¬ (1 : Nat) = 0 by decide), if_neg (show ¬ (1 : Nat) = 0 by decide), if_neg (show ¬ (1 : Nat) = 0 by decide), if_neg (show ¬ (1 : Nat) = 0 by decide), if_neg (fun z => a0 z.1)]
    · simp [h1, h2]
/-- how many rows are made anew: alike -/
theorem cnt_rep {V GT Z : Nat → Nat → Nat} {L : Nat → Nat → Int64} (hV : jInv V L) {k f m : Nat} (hk : k < 4) (hf : f < V 0 4) (hm : m ≤ 24) (h89 : Z 89 = V 89) (h90 : Z 90 = V 90) (h91 : Z 91 = V 91) (hG : ∀ a, a ≠ 83 → a ≠ 84 → GT a = V a) (hw : ∀ y, y < 5 * m → Z 88 (120 * f + y) = GT 83 y) : ∀ t, t ≤ m → mdn Z k f t = bco GT k f 82 t
  | 0, _ => rfl
  | t + 1, ht => by
    have h3 := hV.1.F
    have ih := cnt_rep hV hk hf hm h89 h90 h91 hG hw t (by omega)
    have hR := hV.2.1
    have e1 := hR.hs hk (show f < 3 by omega)
    have e2 := hR.ls hk (show f < 3 by omega) (show t < 24 by omega)
    have ek : ∀ j, j < 5 → V 90 (360 * k + 5 * (24 * f + t) + j) = V (22 + 14 * k + 4 * f + 1) (t * 5 + j) := fun j hj => hR.kp hk (show f < 3 by omega) (show t < 24 by omega) hj
    have ew : ∀ j, j < 5 → Z 88 (5 * (24 * f + t) + j) = GT 83 (t * 5 + j) := fun j hj => by
      rw [← hw (t * 5 + j) (by omega)]
      congr 1
      omega
    have eb : ∀ j, j < 5 → bcm GT k f 82 t (22 + 14 * k + 4 * f + 1) (t * 5 + j) = V (22 + 14 * k + 4 * f + 1) (t * 5 + j) := fun j hj => by
      rw [bcm_N (by omega) (by omega), if_neg (by omega), hG _ (by omega) (by omega)]
    show mdn Z k f t + mdo Z k f t (5 * (24 * f + t)) 5 = _
    rw [bco_s, ih, mdo_5, h89, h91, h90, e1, e2, bcm_nq (by omega) (by omega), hG _ (by omega) (by omega), bcm_T, if_neg (show ¬ t < t by omega), hG (24 + 14 * k + 4 * f) (by omega) (by omega), ek 0 (by omega), ek 1 (by omega), ek 2 (by omega), ek 3 (by omega), ek 4 (by omega), ew 0 (by omega), ew 1 (by omega), ew 2 (by omega), ew 3 (by omega), ew 4 (by omega)]
    congr 1
    unfold sam
    rw [eb 0 (by omega), eb 1 (by omega), eb 2 (by omega), eb 3 (by omega), eb 4 (by omega), bcm_nq (show 82 + 1 ≠ 24 + 14 * k + 4 * f by omega) (by omega)]
    by_cases a1 : V (21 + 14 * k + 4 * f) 0 = 0
    · rw [if_pos a1, if_pos a1]
    · rw [if_neg a1, if_neg a1]
      by_cases a2 : V (24 + 14 * k + 4 * f) t = 0
      · rw [if_pos a2, if_pos a2]
        show (if _ then 0 else 1) = if (if _ then 1 else 0) = 0 then 1 else 0
        split
        · rw [if_neg (by decide)]
        · rw [if_pos rfl]
      · rw [if_neg a2, if_neg a2]
theorem inv_rep {V : Nat → Nat → Nat} {L : Nat → Nat → Int64} (hV : jInv V L) {W : Nat → Nat → Nat} {M : Nat → Nat → Int64} {c d m b : Nat} {R : Nat → Nat} (hc : c < 4) (hd : d < V 0 4) (hm : m ≤ 24) (hRt : ∀ x, x < 120 → R x < 2147483647)
    (e : ∀ a, a ≠ 19 + 14 * c → a ≠ 21 + 14 * c + 4 * d → a ≠ 24 + 14 * c + 4 * d → a ≠ 22 + 14 * c + 4 * d + 1 → a ≠ 83 → a ≠ 84 → a ≠ 85 → a ≠ 88 → a ≠ 89 → a ≠ 90 → a ≠ 91 → a ≠ 94 → a ≠ 100 → a ≠ 102 → W a = V a)
    (e85 : ∀ x, x ≠ 0 → W 85 x = V 85 x) (e83 : ∀ i, i < 120 → W 83 i < 2147483647) (e84 : ∀ i, i < 6 → W 84 i ≤ 1) (e88 : ∀ x, x < 360 → W 88 x = V 88 x)
    (eK : ∀ k x, k < 4 → W (19 + 14 * k) x = if k = c ∧ x = 3 then V (19 + 14 * c) 3 + b else V (19 + 14 * k) x)
    (eH : ∀ k f, k < 4 → f < 3 → W (21 + 14 * k + 4 * f) 0 = if k = c ∧ f = d then 1 else V (21 + 14 * k + 4 * f) 0)
    (eN : ∀ k f x, k < 4 → f < 3 → W (22 + 14 * k + 4 * f + 1) x = if (k = c ∧ f = d) ∧ x < 5 * m then R x else V (22 + 14 * k + 4 * f + 1) x)
    (eT : ∀ k f x, k < 4 → f < 3 → W (24 + 14 * k + 4 * f) x = if (k = c ∧ f = d) ∧ x < m then 0 else V (24 + 14 * k + 4 * f) x)
    (e89 : ∀ x, W 89 x = if x = 3 * c + d then 1 else V 89 x)
    (e90 : ∀ x, W 90 x = if 360 * c + 120 * d ≤ x ∧ x < 360 * c + 120 * d + 5 * m then R (x - 360 * c - 120 * d) else V 90 x)
    (e91 : ∀ x, W 91 x = if 72 * c + 24 * d ≤ x ∧ x < 72 * c + 24 * d + m then 0 else V 91 x)
    (e94 : ∀ x, W 94 x = if x = c then V 94 c + b else V 94 x)
    (k0 : M 0 0 = L 0 0) (k1 : M 0 1 = L 0 1) (k2 : M 85 1 = L 85 1) (k3 : M 85 2 = L 85 2) : jInv (W) (M) := by
  obtain ⟨hI, hR, hX⟩ := hV
  have h3 := hI.F
  obtain ⟨i1, i2, i3, i4, i5, i6, i7, i8, i9⟩ := id hI
  obtain ⟨x1, x2, x3⟩ := id hX
  obtain ⟨⟨r1, r2, r3, r4⟩, r5, r6, r7, r8, r9, r10⟩ := id hR
  refine ⟨⟨?_, ?_, ?_, ?_, fun f hf => ?_, fun k hk f hf => ?_, ?_, ?_, ?_⟩, ⟨⟨?_, ?_, fun f hf => ?_, fun f hf => ?_⟩, fun k hk f hf => ?_, fun k hk => ?_, ?_, ?_, ?_, ?_⟩, fun f hf => ?_, fun f hf hf3 => ?_, ?_⟩
  · rw [e (0) (by omega) (by omega) (by omega) (by omega) (by omega) (by omega) (by omega) (by omega) (by omega) (by omega) (by omega) (by omega) (by omega) (by omega)]
    exact i1
  · rw [e (0) (by omega) (by omega) (by omega) (by omega) (by omega) (by omega) (by omega) (by omega) (by omega) (by omega) (by omega) (by omega) (by omega) (by omega)]
    exact i2
  · rw [e (0) (by omega) (by omega) (by omega) (by omega) (by omega) (by omega) (by omega) (by omega) (by omega) (by omega) (by omega) (by omega) (by omega) (by omega)]
    exact i3
  · rw [e (1) (by omega) (by omega) (by omega) (by omega) (by omega) (by omega) (by omega) (by omega) (by omega) (by omega) (by omega) (by omega) (by omega) (by omega)]
    exact i4
  · rw [e (3 + 5 * f) (by omega) (by omega) (by omega) (by omega) (by omega) (by omega) (by omega) (by omega) (by omega) (by omega) (by omega) (by omega) (by omega) (by omega), e (4 + 5 * f) (by omega) (by omega) (by omega) (by omega) (by omega) (by omega) (by omega) (by omega) (by omega) (by omega) (by omega) (by omega) (by omega) (by omega), e (5 + 5 * f) (by omega) (by omega) (by omega) (by omega) (by omega) (by omega) (by omega) (by omega) (by omega) (by omega) (by omega) (by omega) (by omega) (by omega), e (6 + 5 * f + 1) (by omega) (by omega) (by omega) (by omega) (by omega) (by omega) (by omega) (by omega) (by omega) (by omega) (by omega) (by omega) (by omega) (by omega)]
    exact i5 f hf
  · obtain ⟨a1, a2, a3⟩ := i6 k hk f hf
    refine ⟨?_, fun x hx => ?_, fun x hx => ?_⟩
    · rw [eH k f hk hf]
      split
      · omega
      · exact a1
    · rw [eT k f x hk hf]
      split
      · omega
      · exact a2 x hx
    · rw [eN k f x hk hf]
      split
      · exact hRt x hx
      · exact a3 x hx
  · rw [e (75) (by omega) (by omega) (by omega) (by omega) (by omega) (by omega) (by omega) (by omega) (by omega) (by omega) (by omega) (by omega) (by omega) (by omega), e (76) (by omega) (by omega) (by omega) (by omega) (by omega) (by omega) (by omega) (by omega) (by omega) (by omega) (by omega) (by omega) (by omega) (by omega), e (77) (by omega) (by omega) (by omega) (by omega) (by omega) (by omega) (by omega) (by omega) (by omega) (by omega) (by omega) (by omega) (by omega) (by omega), e (78) (by omega) (by omega) (by omega) (by omega) (by omega) (by omega) (by omega) (by omega) (by omega) (by omega) (by omega) (by omega) (by omega) (by omega), e (79) (by omega) (by omega) (by omega) (by omega) (by omega) (by omega) (by omega) (by omega) (by omega) (by omega) (by omega) (by omega) (by omega) (by omega)]
    exact i7
  · exact e83
  · exact e84
  · rw [e85 4 (by omega), e (0) (by omega) (by omega) (by omega) (by omega) (by omega) (by omega) (by omega) (by omega) (by omega) (by omega) (by omega) (by omega) (by omega) (by omega)]
    exact r1
  · rw [e (86) (by omega) (by omega) (by omega) (by omega) (by omega) (by omega) (by omega) (by omega) (by omega) (by omega) (by omega) (by omega) (by omega) (by omega), e (1) (by omega) (by omega) (by omega) (by omega) (by omega) (by omega) (by omega) (by omega) (by omega) (by omega) (by omega) (by omega) (by omega) (by omega)]
    exact r2
  · rw [e (87) (by omega) (by omega) (by omega) (by omega) (by omega) (by omega) (by omega) (by omega) (by omega) (by omega) (by omega) (by omega) (by omega) (by omega), e (3 + 5 * f) (by omega) (by omega) (by omega) (by omega) (by omega) (by omega) (by omega) (by omega) (by omega) (by omega) (by omega) (by omega) (by omega) (by omega)]
    exact r3 f hf
  · intro y hy
    rw [e88 _ (by omega), e (6 + 5 * f + 1) (by omega) (by omega) (by omega) (by omega) (by omega) (by omega) (by omega) (by omega) (by omega) (by omega) (by omega) (by omega) (by omega) (by omega)]
    exact r4 f hf y hy
  · obtain ⟨a1, a2, a3⟩ := r5 k hk f hf
    refine ⟨?_, fun x hx => ?_, fun x hx => ?_⟩
    · rw [e89, eH k f hk hf]
      by_cases h : k = c ∧ f = d
      · rw [if_pos h, if_pos (by omega)]
      · rw [if_neg h, if_neg (by omega)]
        exact a1
    · rw [e90, eN k f x hk hf]
      by_cases h : (k = c ∧ f = d) ∧ x < 5 * m
      · rw [if_pos h, if_pos (by omega), show 360 * k + 120 * f + x - 360 * c - 120 * d = x from by omega]
      · rw [if_neg h, if_neg (by omega)]
        exact a2 x hx
    · rw [e91, eT k f x hk hf]
      by_cases h : (k = c ∧ f = d) ∧ x < m
      · rw [if_pos h, if_pos (by omega)]
      · rw [if_neg h, if_neg (by omega)]
        exact a3 x hx
  · rw [e (92) (by omega) (by omega) (by omega) (by omega) (by omega) (by omega) (by omega) (by omega) (by omega) (by omega) (by omega) (by omega) (by omega) (by omega), e (93) (by omega) (by omega) (by omega) (by omega) (by omega) (by omega) (by omega) (by omega) (by omega) (by omega) (by omega) (by omega) (by omega) (by omega)]
    obtain ⟨a1, a2, a3⟩ := r6 k hk
    rw [e94, eK k 1 hk, eK k 2 hk, eK k 3 hk, if_neg (show ¬ (k = c ∧ 1 = 3) by omega), if_neg (show ¬ (k = c ∧ 2 = 3) by omega)]
    refine ⟨a1, a2, ?_⟩
    by_cases h : k = c
    · rw [if_pos h, if_pos ⟨h, rfl⟩, ← h, a3]
    · rw [if_neg h, if_neg (fun z => h z.1)]
      exact a3
  · rw [e85 13 (by omega), e85 14 (by omega), e85 15 (by omega), e (95) (by omega) (by omega) (by omega) (by omega) (by omega) (by omega) (by omega) (by omega) (by omega) (by omega) (by omega) (by omega) (by omega) (by omega), e (96) (by omega) (by omega) (by omega) (by omega) (by omega) (by omega) (by omega) (by omega) (by omega) (by omega) (by omega) (by omega) (by omega) (by omega), e (97) (by omega) (by omega) (by omega) (by omega) (by omega) (by omega) (by omega) (by omega) (by omega) (by omega) (by omega) (by omega) (by omega) (by omega), e (75) (by omega) (by omega) (by omega) (by omega) (by omega) (by omega) (by omega) (by omega) (by omega) (by omega) (by omega) (by omega) (by omega) (by omega), e (76) (by omega) (by omega) (by omega) (by omega) (by omega) (by omega) (by omega) (by omega) (by omega) (by omega) (by omega) (by omega) (by omega) (by omega), e (77) (by omega) (by omega) (by omega) (by omega) (by omega) (by omega) (by omega) (by omega) (by omega) (by omega) (by omega) (by omega) (by omega) (by omega), e (78) (by omega) (by omega) (by omega) (by omega) (by omega) (by omega) (by omega) (by omega) (by omega) (by omega) (by omega) (by omega) (by omega) (by omega)]
    exact r7
  · rw [e85 19 (by omega), e85 21 (by omega), e (98) (by omega) (by omega) (by omega) (by omega) (by omega) (by omega) (by omega) (by omega) (by omega) (by omega) (by omega) (by omega) (by omega) (by omega), e (99) (by omega) (by omega) (by omega) (by omega) (by omega) (by omega) (by omega) (by omega) (by omega) (by omega) (by omega) (by omega) (by omega) (by omega), e (0) (by omega) (by omega) (by omega) (by omega) (by omega) (by omega) (by omega) (by omega) (by omega) (by omega) (by omega) (by omega) (by omega) (by omega), e (80) (by omega) (by omega) (by omega) (by omega) (by omega) (by omega) (by omega) (by omega) (by omega) (by omega) (by omega) (by omega) (by omega) (by omega), e (81) (by omega) (by omega) (by omega) (by omega) (by omega) (by omega) (by omega) (by omega) (by omega) (by omega) (by omega) (by omega) (by omega) (by omega)]
    exact r8
  · rw [k2, k0]
    exact r9
  · rw [k3, k1]
    exact r10
  · rw [e 0 (by omega) (by omega) (by omega) (by omega) (by omega) (by omega) (by omega) (by omega) (by omega) (by omega) (by omega) (by omega) (by omega) (by omega)] at hf
    rw [e (4 + 5 * f) (by omega) (by omega) (by omega) (by omega) (by omega) (by omega) (by omega) (by omega) (by omega) (by omega) (by omega) (by omega) (by omega) (by omega), e (5 + 5 * f) (by omega) (by omega) (by omega) (by omega) (by omega) (by omega) (by omega) (by omega) (by omega) (by omega) (by omega) (by omega) (by omega) (by omega), k0, k1]
    exact x1 f hf
  · rw [e (0) (by omega) (by omega) (by omega) (by omega) (by omega) (by omega) (by omega) (by omega) (by omega) (by omega) (by omega) (by omega) (by omega) (by omega)] at hf
    obtain ⟨a1, a2, a3⟩ := x2 f hf hf3
    exact ⟨by rw [e (3 + 5 * f) (by omega) (by omega) (by omega) (by omega) (by omega) (by omega) (by omega) (by omega) (by omega) (by omega) (by omega) (by omega) (by omega) (by omega)]; exact a1, by rw [e (6 + 5 * f + 1) (by omega) (by omega) (by omega) (by omega) (by omega) (by omega) (by omega) (by omega) (by omega) (by omega) (by omega) (by omega) (by omega) (by omega)]; exact a2, fun k hk => by rw [eH k f hk hf3, if_neg (by omega)]; exact a3 k hk⟩
  · rw [e (75) (by omega) (by omega) (by omega) (by omega) (by omega) (by omega) (by omega) (by omega) (by omega) (by omega) (by omega) (by omega) (by omega) (by omega), e (0) (by omega) (by omega) (by omega) (by omega) (by omega) (by omega) (by omega) (by omega) (by omega) (by omega) (by omega) (by omega) (by omega) (by omega)]
    exact x3
theorem inv_fet {V : Nat → Nat → Nat} {L : Nat → Nat → Int64} (hV : jInv V L) {W : Nat → Nat → Nat} {M : Nat → Nat → Int64} {w : Nat} (hw : w ≤ 64)
    (e : ∀ a, a ≠ 0 → a ≠ 81 → a ≠ 83 → a ≠ 84 → a ≠ 85 → a ≠ 99 → a ≠ 100 → W a = V a)
    (e85 : ∀ x, x ≠ 0 ∧ x ≠ 21 → W 85 x = V 85 x) (e0 : ∀ x, x ≠ 10 → W 0 x = V 0 x) (e01 : W 0 10 = w) (e21 : W 85 21 = w) (e83 : ∀ i, i < 120 → W 83 i < 2147483647) (e84 : ∀ i, i < 6 → W 84 i ≤ 1) (e99 : ∀ x, x < 64 → W 99 x = W 81 x)
    (k0 : M 0 0 = L 0 0) (k1 : M 0 1 = L 0 1) (k2 : M 85 1 = L 85 1) (k3 : M 85 2 = L 85 2) : jInv (W) (M) := by
  obtain ⟨hI, hR, hX⟩ := hV
  have h3 := hI.F
  obtain ⟨i1, i2, i3, i4, i5, i6, i7, i8, i9⟩ := id hI
  obtain ⟨x1, x2, x3⟩ := id hX
  obtain ⟨⟨r1, r2, r3, r4⟩, r5, r6, r7, r8, r9, r10⟩ := id hR
  refine ⟨⟨?_, ?_, ?_, ?_, fun f hf => ?_, fun k hk f hf => ?_, ?_, ?_, ?_⟩, ⟨⟨?_, ?_, fun f hf => ?_, fun f hf => ?_⟩, fun k hk f hf => ?_, fun k hk => ?_, ?_, ?_, ?_, ?_⟩, fun f hf => ?_, fun f hf hf3 => ?_, ?_⟩
  · rw [e0 4 (by decide)]
    exact i1
  · rw [e0 8 (by decide)]
    exact i2
  · rw [e01]
    exact hw
  · rw [e (1) (by omega) (by omega) (by omega) (by omega) (by omega) (by omega) (by omega)]
    exact i4
  · rw [e (3 + 5 * f) (by omega) (by omega) (by omega) (by omega) (by omega) (by omega) (by omega), e (4 + 5 * f) (by omega) (by omega) (by omega) (by omega) (by omega) (by omega) (by omega), e (5 + 5 * f) (by omega) (by omega) (by omega) (by omega) (by omega) (by omega) (by omega), e (6 + 5 * f + 1) (by omega) (by omega) (by omega) (by omega) (by omega) (by omega) (by omega)]
    exact i5 f hf
  · rw [e (21 + 14 * k + 4 * f) (by omega) (by omega) (by omega) (by omega) (by omega) (by omega) (by omega), e (24 + 14 * k + 4 * f) (by omega) (by omega) (by omega) (by omega) (by omega) (by omega) (by omega), e (22 + 14 * k + 4 * f + 1) (by omega) (by omega) (by omega) (by omega) (by omega) (by omega) (by omega)]
    exact i6 k hk f hf
  · rw [e (75) (by omega) (by omega) (by omega) (by omega) (by omega) (by omega) (by omega), e (76) (by omega) (by omega) (by omega) (by omega) (by omega) (by omega) (by omega), e (77) (by omega) (by omega) (by omega) (by omega) (by omega) (by omega) (by omega), e (78) (by omega) (by omega) (by omega) (by omega) (by omega) (by omega) (by omega), e (79) (by omega) (by omega) (by omega) (by omega) (by omega) (by omega) (by omega)]
    exact i7
  · exact e83
  · exact e84
  · rw [e85 4 (by decide), e0 4 (by decide)]
    exact r1
  · rw [e (86) (by omega) (by omega) (by omega) (by omega) (by omega) (by omega) (by omega), e (1) (by omega) (by omega) (by omega) (by omega) (by omega) (by omega) (by omega)]
    exact r2
  · rw [e (87) (by omega) (by omega) (by omega) (by omega) (by omega) (by omega) (by omega), e (3 + 5 * f) (by omega) (by omega) (by omega) (by omega) (by omega) (by omega) (by omega)]
    exact r3 f hf
  · rw [e (88) (by omega) (by omega) (by omega) (by omega) (by omega) (by omega) (by omega), e (6 + 5 * f + 1) (by omega) (by omega) (by omega) (by omega) (by omega) (by omega) (by omega)]
    exact r4 f hf
  · rw [e (89) (by omega) (by omega) (by omega) (by omega) (by omega) (by omega) (by omega), e (90) (by omega) (by omega) (by omega) (by omega) (by omega) (by omega) (by omega), e (91) (by omega) (by omega) (by omega) (by omega) (by omega) (by omega) (by omega), e (21 + 14 * k + 4 * f) (by omega) (by omega) (by omega) (by omega) (by omega) (by omega) (by omega), e (22 + 14 * k + 4 * f + 1) (by omega) (by omega) (by omega) (by omega) (by omega) (by omega) (by omega), e (24 + 14 * k + 4 * f) (by omega) (by omega) (by omega) (by omega) (by omega) (by omega) (by omega)]
    exact r5 k hk f hf
  · rw [e (92) (by omega) (by omega) (by omega) (by omega) (by omega) (by omega) (by omega), e (93) (by omega) (by omega) (by omega) (by omega) (by omega) (by omega) (by omega), e (94) (by omega) (by omega) (by omega) (by omega) (by omega) (by omega) (by omega), e (19 + 14 * k) (by omega) (by omega) (by omega) (by omega) (by omega) (by omega) (by omega)]
    exact r6 k hk
  · rw [e85 13 (by omega), e85 14 (by omega), e85 15 (by omega), e (95) (by omega) (by omega) (by omega) (by omega) (by omega) (by omega) (by omega), e (96) (by omega) (by omega) (by omega) (by omega) (by omega) (by omega) (by omega), e (97) (by omega) (by omega) (by omega) (by omega) (by omega) (by omega) (by omega), e (75) (by omega) (by omega) (by omega) (by omega) (by omega) (by omega) (by omega), e (76) (by omega) (by omega) (by omega) (by omega) (by omega) (by omega) (by omega), e (77) (by omega) (by omega) (by omega) (by omega) (by omega) (by omega) (by omega), e (78) (by omega) (by omega) (by omega) (by omega) (by omega) (by omega) (by omega)]
    exact r7
  · obtain ⟨q1, q2, q3, q4⟩ := r8
    rw [e85 19 (by decide), e0 8 (by decide), e21, e01, e (98) (by omega) (by omega) (by omega) (by omega) (by omega) (by omega) (by omega), e (80) (by omega) (by omega) (by omega) (by omega) (by omega) (by omega) (by omega)]
    exact ⟨q1, q2, rfl, e99⟩
  · rw [k2, k0]
    exact r9
  · rw [k3, k1]
    exact r10
  · rw [e0 4 (by decide)] at hf
    rw [e (4 + 5 * f) (by omega) (by omega) (by omega) (by omega) (by omega) (by omega) (by omega), e (5 + 5 * f) (by omega) (by omega) (by omega) (by omega) (by omega) (by omega) (by omega), k0, k1]
    exact x1 f hf
  · rw [e0 4 (by decide)] at hf
    obtain ⟨a1, a2, a3⟩ := x2 f hf hf3
    exact ⟨by rw [e (3 + 5 * f) (by omega) (by omega) (by omega) (by omega) (by omega) (by omega) (by omega)]; exact a1, by rw [e (6 + 5 * f + 1) (by omega) (by omega) (by omega) (by omega) (by omega) (by omega) (by omega)]; exact a2, fun k hk => by rw [e (21 + 14 * k + 4 * f) (by omega) (by omega) (by omega) (by omega) (by omega) (by omega) (by omega)]; exact a3 k hk⟩
  · rw [e (75) (by omega) (by omega) (by omega) (by omega) (by omega) (by omega) (by omega), e0 4 (by decide)]
    exact x3
theorem inv_gno {V : Nat → Nat → Nat} {L : Nat → Nat → Int64} (hV : jInv V L) {W : Nat → Nat → Nat} {M : Nat → Nat → Int64}
    (e : ∀ a, a ≠ 83 → a ≠ 84 → a ≠ 85 → a ≠ 100 → W a = V a)
    (e85 : ∀ x, x ≠ 0 → W 85 x = V 85 x) (e83 : ∀ i, i < 120 → W 83 i < 2147483647) (e84 : ∀ i, i < 6 → W 84 i ≤ 1)
    (k0 : M 0 0 = L 0 0) (k1 : M 0 1 = L 0 1) (k2 : M 85 1 = L 85 1) (k3 : M 85 2 = L 85 2) : jInv (W) (M) := by
  obtain ⟨hI, hR, hX⟩ := hV
  have h3 := hI.F
  obtain ⟨i1, i2, i3, i4, i5, i6, i7, i8, i9⟩ := id hI
  obtain ⟨x1, x2, x3⟩ := id hX
  obtain ⟨⟨r1, r2, r3, r4⟩, r5, r6, r7, r8, r9, r10⟩ := id hR
  refine ⟨⟨?_, ?_, ?_, ?_, fun f hf => ?_, fun k hk f hf => ?_, ?_, ?_, ?_⟩, ⟨⟨?_, ?_, fun f hf => ?_, fun f hf => ?_⟩, fun k hk f hf => ?_, fun k hk => ?_, ?_, ?_, ?_, ?_⟩, fun f hf => ?_, fun f hf hf3 => ?_, ?_⟩
  · rw [e (0) (by omega) (by omega) (by omega) (by omega)]
    exact i1
  · rw [e (0) (by omega) (by omega) (by omega) (by omega)]
    exact i2
  · rw [e (0) (by omega) (by omega) (by omega) (by omega)]
    exact i3
  · rw [e (1) (by omega) (by omega) (by omega) (by omega)]
    exact i4
  · rw [e (3 + 5 * f) (by omega) (by omega) (by omega) (by omega), e (4 + 5 * f) (by omega) (by omega) (by omega) (by omega), e (5 + 5 * f) (by omega) (by omega) (by omega) (by omega), e (6 + 5 * f + 1) (by omega) (by omega) (by omega) (by omega)]
    exact i5 f hf
  · rw [e (21 + 14 * k + 4 * f) (by omega) (by omega) (by omega) (by omega), e (24 + 14 * k + 4 * f) (by omega) (by omega) (by omega) (by omega), e (22 + 14 * k + 4 * f + 1) (by omega) (by omega) (by omega) (by omega)]
    exact i6 k hk f hf
  · rw [e (75) (by omega) (by omega) (by omega) (by omega), e (76) (by omega) (by omega) (by omega) (by omega), e (77) (by omega) (by omega) (by omega) (by omega), e (78) (by omega) (by omega) (by omega) (by omega), e (79) (by omega) (by omega) (by omega) (by omega)]
    exact i7
  · exact e83
  · exact e84
  · rw [e85 4 (by omega), e (0) (by omega) (by omega) (by omega) (by omega)]
    exact r1
  · rw [e (86) (by omega) (by omega) (by omega) (by omega), e (1) (by omega) (by omega) (by omega) (by omega)]
    exact r2
  · rw [e (87) (by omega) (by omega) (by omega) (by omega), e (3 + 5 * f) (by omega) (by omega) (by omega) (by omega)]
    exact r3 f hf
  · rw [e (88) (by omega) (by omega) (by omega) (by omega), e (6 + 5 * f + 1) (by omega) (by omega) (by omega) (by omega)]
    exact r4 f hf
  · rw [e (89) (by omega) (by omega) (by omega) (by omega), e (90) (by omega) (by omega) (by omega) (by omega), e (91) (by omega) (by omega) (by omega) (by omega), e (21 + 14 * k + 4 * f) (by omega) (by omega) (by omega) (by omega), e (22 + 14 * k + 4 * f + 1) (by omega) (by omega) (by omega) (by omega), e (24 + 14 * k + 4 * f) (by omega) (by omega) (by omega) (by omega)]
    exact r5 k hk f hf
  · rw [e (92) (by omega) (by omega) (by omega) (by omega), e (93) (by omega) (by omega) (by omega) (by omega), e (94) (by omega) (by omega) (by omega) (by omega), e (19 + 14 * k) (by omega) (by omega) (by omega) (by omega)]
    exact r6 k hk
  · rw [e85 13 (by omega), e85 14 (by omega), e85 15 (by omega), e (95) (by omega) (by omega) (by omega) (by omega), e (96) (by omega) (by omega) (by omega) (by omega), e (97) (by omega) (by omega) (by omega) (by omega), e (75) (by omega) (by omega) (by omega) (by omega), e (76) (by omega) (by omega) (by omega) (by omega), e (77) (by omega) (by omega) (by omega) (by omega), e (78) (by omega) (by omega) (by omega) (by omega)]
    exact r7
  · rw [e85 19 (by omega), e85 21 (by omega), e (98) (by omega) (by omega) (by omega) (by omega), e (99) (by omega) (by omega) (by omega) (by omega), e (0) (by omega) (by omega) (by omega) (by omega), e (80) (by omega) (by omega) (by omega) (by omega), e (81) (by omega) (by omega) (by omega) (by omega)]
    exact r8
  · rw [k2, k0]
    exact r9
  · rw [k3, k1]
    exact r10
  · rw [e 0 (by omega) (by omega) (by omega) (by omega)] at hf
    rw [e (4 + 5 * f) (by omega) (by omega) (by omega) (by omega), e (5 + 5 * f) (by omega) (by omega) (by omega) (by omega), k0, k1]
    exact x1 f hf
  · rw [e 0 (by omega) (by omega) (by omega) (by omega)] at hf
    obtain ⟨a1, a2, a3⟩ := x2 f hf hf3
    exact ⟨by rw [e (3 + 5 * f) (by omega) (by omega) (by omega) (by omega)]; exact a1, by rw [e (6 + 5 * f + 1) (by omega) (by omega) (by omega) (by omega)]; exact a2, fun k hk => by rw [e (21 + 14 * k + 4 * f) (by omega) (by omega) (by omega) (by omega)]; exact a3 k hk⟩
  · rw [e (75) (by omega) (by omega) (by omega) (by omega), e (0) (by omega) (by omega) (by omega) (by omega)]
    exact x3
theorem gth_ok {V : Nat → Nat → Nat} {f G : Nat} (h : (gth V f G).2 = 1) : (gal V f G).2 = true ∧ (gth V f G).1 = cmpl (gal V f G).1 f 82 G := by
  unfold gth at *
  by_cases h2 : (gal V f G).2 = true
  · rw [if_pos h2]
    exact ⟨h2, rfl⟩
  · rw [if_neg h2] at h
    exact absurd (show (0 : Nat) = 1 from h) (by decide)
theorem gth_no {V : Nat → Nat → Nat} {f G : Nat} (h : (gth V f G).2 = 0) : ¬ (gal V f G).2 = true := fun h2 => by
  unfold gth at h
  rw [if_pos h2] at h
  exact absurd (show (1 : Nat) = 0 from h) (by decide)
/-- the model's cells after its gathering -/
theorem mga_nq {V : Nat → Nat → Nat} {L : Nat → Nat → Int64} {f : Nat} {S : Nat → Nat} {x a : Nat} (h85 : a ≠ 85) (h100 : a ≠ 100) : mga V L f S x a = V a := by
  unfold mga
  rw [vu_nq _ _ _ h85, mgw_nq h100, vu_nq _ _ _ h85]
theorem mga_85 {V : Nat → Nat → Nat} {L : Nat → Nat → Int64} {f : Nat} {S : Nat → Nat} {x y : Nat} (hy : y ≠ 0) : mga V L f S x 85 y = V 85 y := by
  unfold mga
  refine (if_neg (fun z => hy z.2)).trans ?_
  rw [mgw_nq (by decide)]
  exact if_neg (fun z => hy z.2)
theorem mga_t {V : Nat → Nat → Nat} {L : Nat → Nat → Int64} {f : Nat} {S : Nat → Nat} {x : Nat} : mga V L f S x 85 0 = x := vu_eq _ _ _ _
/-- repair: the number of rows made anew, and the invariant -/
theorem rep_ok {V V1 : Nat → Nat → Nat} {L M N : Nat → Nat → Int64} (hV : jInv V L) {c d G : Nat} (hc : c < 4) (hd : d < V 0 4) (hG : G ≤ 4) (hrc : V (3 + 5 * d) 1 = 6 * G) (hM : M 85 = L 85) (S : Nat → Nat) (hg : (gth V d G).2 = 1) (hV1 : V1 = rpr (gth V d G).1 c d (6 * G)) (k0 : N 0 0 = L 0 0) (k1 : N 0 1 = L 0 1) (k2 : N 85 1 = L 85 1) (k3 : N 85 2 = L 85 2) :
    (mgw (vu V1 85 0 0) M d S (mrs V1 d / 6)).2 = true ∧ mrn (mga V1 M d S 0) M c d = bco (gth V d G).1 c d 82 (6 * G) ∧ mr7 (mga V1 M d S 0) M c d 85 0 = 0 ∧ jInv (mr7 (mga V1 M d S 0) M c d) N := by
  obtain ⟨hI, hR, hX⟩ := id hV
  have h3 := hI.F
  have hGG := gth_G (f := d) hI (by omega) hG
  obtain ⟨hok, hcm⟩ := gth_ok hg
  have hAA := gal_G (f := d) hI (by omega) G hG
  have v1 : ∀ a, a ≠ 19 + 14 * c → a ≠ 21 + 14 * c + 4 * d → a ≠ 24 + 14 * c + 4 * d → a ≠ 22 + 14 * c + 4 * d + 1 → V1 a = (gth V d G).1 a := fun a n1 n2 n3 n4 => by
    rw [hV1]
    unfold rpr
    rw [vu_nq _ _ _ n1, vu_nq _ _ _ n2, bcm_nq n3 n4]
  have v2 : ∀ a, 85 ≤ a → V1 a = V a := fun a ha => by rw [v1 a (by omega) (by omega) (by omega) (by omega), hGG.1 a (by omega) (by omega)]
  have hrs : mrs V1 d = 6 * G := by unfold mrs; rw [v2 87 (by omega)]; exact (hR.rs hI (by omega)).trans hrc
  have hgt := gat hV (W := vu V1 85 0 0) hM ((vu_nq _ _ _ (by decide)).trans (v2 89 (by omega))) ((vu_nq _ _ _ (by decide)).trans (v2 90 (by omega))) ((vu_nq _ _ _ (by decide)).trans (v2 91 (by omega))) hd S G hG
  have hmw : (mgw (vu V1 85 0 0) M d S (mrs V1 d / 6)).2 = true := by rw [hrs, show 6 * G / 6 = G from by omega, hgt.1]; exact hok
  have x0 : ∀ a, a ≠ 85 → a ≠ 100 → mga V1 M d S 0 a = V1 a := fun a => mga_nq
  have x85 : ∀ y, y ≠ 0 → mga V1 M d S 0 85 y = V 85 y := fun y hy => by rw [mga_85 hy, v2 85 (by omega)]
  have xt : mga V1 M d S 0 85 0 = 0 := mga_t
  have x100 : ∀ q, q < G → ∀ i, i < 4 → ∀ j, j < 4 → mga V1 M d S 0 100 (16 * q + 4 * i + j) = (gal V d G).1 83 ((6 * q + i) * 5 + j) := fun q hq i hi j hj => by
    unfold mga
    rw [vu_nq _ _ _ (by decide), hrs, show 6 * G / 6 = G from by omega]
    exact hgt.2 hok q hq i hi j hj
  have xrs : mrs (mga V1 M d S 0) d = 6 * G := by rw [← hrs]; unfold mrs; rw [x0 87 (by decide) (by decide)]
  generalize mga V1 M d S 0 = X at *
  have z88 : ∀ y, y < 30 * G → mr3 X M d 88 (120 * d + y) = (gth V d G).1 83 y := fun y hy => by
    unfold mr3
    rw [xrs, hcm]
    refine gat_r (by omega) (fun q hq i hi j hj => ?_) hG (fun j hj => ?_) (fun i hi => ?_) y hy
    · rw [mbk_nq (by decide)]
      exact x100 q hq i hi j hj
    · rw [hAA.1 _ (by omega) (by omega), hM, hR.k1, hR.k2]
      exact (hX.1 d hd).1 j hj
    · rw [hAA.1 _ (by omega) (by omega), hM, hR.k1, hR.k2]
      exact (hX.1 d hd).2 i hi
  have z0 : ∀ a, a ≠ 88 → a ≠ 102 → mr3 X M d a = X a := fun a n1 n2 => by
    unfold mr3
    rw [enc_nq n1, mbk_nq n2]
  have z102 : ∀ x, x < 360 → mr3 X M d 102 x = X 88 x := fun x hx => by
    unfold mr3
    rw [enc_nq (by decide)]
    exact if_pos ⟨rfl, hx⟩
  have hn : mrn X M c d = bco (gth V d G).1 c d 82 (6 * G) := by
    unfold mrn
    rw [xrs]
    exact cnt_rep hV hc hd (by omega) ((z0 89 (by decide) (by decide)).trans ((x0 89 (by decide) (by decide)).trans (v2 89 (by omega)))) ((z0 90 (by decide) (by decide)).trans ((x0 90 (by decide) (by decide)).trans (v2 90 (by omega)))) ((z0 91 (by decide) (by decide)).trans ((x0 91 (by decide) (by decide)).trans (v2 91 (by omega)))) hGG.1 (fun y hy => z88 y (by omega)) (6 * G) (Nat.le_refl _)
  have w0 : ∀ a, a ≠ 88 → a ≠ 89 → a ≠ 90 → a ≠ 91 → a ≠ 94 → a ≠ 102 → mr7 X M c d a = X a := fun a n1 n2 n3 n4 n5 n6 => by
    unfold mr7 mr6 mr5
    rw [vu_nq _ _ _ n5, mrb_nq n1, mpl_nq n3 n4, vu_nq _ _ _ n2, z0 a n1 n6]
  have w5 : ∀ a, a ≠ 88 → a ≠ 94 → mr7 X M c d a = mpl (vu (mr3 X M d) 89 (3 * c + d) 1) c d (6 * G) a := fun a n1 n5 => by
    unfold mr7 mr6 mr5
    rw [vu_nq _ _ _ n5, mrb_nq n1, xrs]
  refine ⟨hmw, hn, by rw [w0 85 (by decide) (by decide) (by decide) (by decide) (by decide) (by decide)]; exact xt, ?_⟩
  have wl : ∀ a, a < 85 → mr7 X M c d a = V1 a := fun a ha => by rw [w0 a (by omega) (by omega) (by omega) (by omega) (by omega) (by omega), x0 a (by omega) (by omega)]
  refine inv_rep hV (c := c) (d := d) (m := 6 * G) (b := bco (gth V d G).1 c d 82 (6 * G)) (R := (gth V d G).1 83) hc hd (by omega) hGG.2.1 ?_ ?_ ?_ ?_ ?_ ?_ ?_ ?_ ?_ ?_ ?_ ?_ ?_ k0 k1 k2 k3
  · intro a n1 n2 n3 n4 n5 n6 n7 n8 n9 n10 n11 n12 n13 n14
    rw [w0 a n8 n9 n10 n11 n12 n14, x0 a n7 n13, v1 a n1 n2 n3 n4, hGG.1 a n5 n6]
  · intro x hx
    rw [w0 85 (by decide) (by decide) (by decide) (by decide) (by decide) (by decide)]
    exact x85 x hx
  · rw [wl 83 (by omega), v1 83 (by omega) (by omega) (by omega) (by omega)]
    exact hGG.2.1
  · rw [wl 84 (by omega), v1 84 (by omega) (by omega) (by omega) (by omega)]
    exact hGG.2.2
  · intro x hx
    have e : mr7 X M c d 88 x = mr3 X M d 102 x := by
      unfold mr7 mr6 mr5
      rw [vu_nq _ _ _ (by decide)]
      refine (if_pos ⟨rfl, hx⟩).trans ?_
      rw [mpl_nq (by decide) (by decide), vu_nq _ _ _ (by decide)]
    rw [e, z102 x hx, x0 88 (by decide) (by decide), v2 88 (by omega)]
  · intro k x hk
    rw [wl _ (by omega), hV1]
    unfold rpr
    by_cases h : k = c ∧ x = 3
    · rw [if_pos h]
      refine (if_pos (by omega)).trans ?_
      rw [hGG.1 _ (by omega) (by omega)]
    · rw [if_neg h]
      refine (if_neg (by omega)).trans ?_
      rw [vu_nq _ _ _ (by omega), bcm_nq (by omega) (by omega), hGG.1 _ (by omega) (by omega)]
  · intro k f hk hf
    rw [wl _ (by omega), hV1]
    unfold rpr
    rw [vu_nq _ _ _ (by omega)]
    by_cases h : k = c ∧ f = d
    · rw [if_pos h]
      exact if_pos (by omega)
    · rw [if_neg h]
      exact (if_neg (by omega)).trans (by rw [bcm_nq (by omega) (by omega), hGG.1 _ (by omega) (by omega)])
  · intro k f x hk hf
    rw [wl _ (by omega), hV1]
    unfold rpr
    rw [vu_nq _ _ _ (by omega), vu_nq _ _ _ (by omega)]
    by_cases h : k = c ∧ f = d
    · obtain ⟨rfl, rfl⟩ := h
      rw [bcm_N (by omega) (by omega)]
      by_cases h5 : x < 5 * (6 * G)
      · rw [if_pos h5, if_pos ⟨⟨rfl, rfl⟩, h5⟩]
      · rw [if_neg h5, if_neg (fun z => h5 z.2), hGG.1 _ (by omega) (by omega)]
    · rw [if_neg (fun z => h z.1), bcm_nq (by omega) (by omega), hGG.1 _ (by omega) (by omega)]
  · intro k f x hk hf
    rw [wl _ (by omega), hV1]
    unfold rpr
    rw [vu_nq _ _ _ (by omega), vu_nq _ _ _ (by omega)]
    by_cases h : k = c ∧ f = d
    · obtain ⟨rfl, rfl⟩ := h
      rw [bcm_T]
      by_cases h5 : x < 6 * G
      · rw [if_pos h5, if_pos ⟨⟨rfl, rfl⟩, h5⟩]
      · rw [if_neg h5, if_neg (fun z => h5 z.2), hGG.1 _ (by omega) (by omega)]
    · rw [if_neg (fun z => h z.1), bcm_nq (by omega) (by omega), hGG.1 _ (by omega) (by omega)]
  · intro x
    rw [w5 89 (by decide) (by decide), mpl_nq (by decide) (by decide)]
    by_cases h : x = 3 * c + d
    · rw [if_pos h]
      exact if_pos ⟨rfl, h⟩
    · rw [if_neg h]
      refine (if_neg (fun z => h z.2)).trans ?_
      rw [z0 89 (by decide) (by decide), x0 89 (by decide) (by decide), v2 89 (by omega)]
  · intro x
    rw [w5 90 (by decide) (by decide), mpl_90, vu_nq _ _ _ (show 88 ≠ 89 by decide), vu_nq _ _ _ (show 90 ≠ 89 by decide), z0 90 (by decide) (by decide), x0 90 (by decide) (by decide), v2 90 (by omega)]
    by_cases h : 360 * c + 120 * d ≤ x ∧ x < 360 * c + 120 * d + 5 * (6 * G)
    · rw [if_pos h, if_pos h, ← z88 (x - 360 * c - 120 * d) (by omega)]
      congr 1
      omega
    · rw [if_neg h, if_neg h]
  · intro x
    rw [w5 91 (by decide) (by decide), mpl_91, vu_nq _ _ _ (show 91 ≠ 89 by decide), z0 91 (by decide) (by decide), x0 91 (by decide) (by decide), v2 91 (by omega)]
  · intro x
    have e : mr6 X M c d 94 = V 94 := by
      unfold mr6 mr5
      rw [mrb_nq (by decide), mpl_nq (by decide) (by decide), vu_nq _ _ _ (by decide), z0 94 (by decide) (by decide), x0 94 (by decide) (by decide), v2 94 (by omega)]
    unfold mr7
    rw [hn, e]
    by_cases h : x = c
    · rw [if_pos h]
      exact if_pos ⟨rfl, h⟩
    · rw [if_neg h]
      exact (if_neg (fun z => h z.2)).trans (by rw [e])
theorem ftv_at {V : Nat → Nat → Nat} : ∀ t x, ftv V t 81 x = if x < t then V 83 ((x / 16 * 6 + x % 16 / 4) * 5 + x % 4) else V 81 x
  | 0, x => by
    rw [if_neg (by omega)]
    rfl
  | t + 1, x => by
    show vu (ftv V t) 81 t (ftv V t 83 ((t / 16 * 6 + t % 16 / 4) * 5 + t % 4)) 81 x = _
    by_cases h : x = t
    · rw [if_pos (by omega), h]
      refine (if_pos ⟨rfl, rfl⟩).trans ?_
      rw [ftv_nq (by decide)]
    · refine (if_neg (fun z => h z.2)).trans ?_
      rw [ftv_at t x]
      by_cases h2 : x < t
      · rw [if_pos h2, if_pos (by omega)]
      · rw [if_neg h2, if_neg (by omega)]
/-- fetch: the words, and the invariant -/
theorem fet_ok {V V1 : Nat → Nat → Nat} {L M N : Nat → Nat → Int64} (hV : jInv V L) {d G w : Nat} (hd : d < V 0 4) (hG : G ≤ 4) (hw0 : V (3 + 5 * d) 0 = w) (hGw : G = (w + 15) / 16) (hM : M 85 = L 85) (S : Nat → Nat) (hg : (gth V d G).2 = 1) (hV1 : V1 = ftv (vu (gth V d G).1 0 10 w) w) (k0 : N 0 0 = L 0 0) (k1 : N 0 1 = L 0 1) (k2 : N 85 1 = L 85 1) (k3 : N 85 2 = L 85 2) :
    (mgw (vu V1 85 0 0) M d S (mrs V1 d / 6)).2 = true ∧ V1 87 d = w ∧ mft (vu (mga V1 M d S 0) 85 21 w) w 85 0 = 0 ∧ jInv (mft (vu (mga V1 M d S 0) 85 21 w) w) N := by
  obtain ⟨hI, hR, hX⟩ := id hV
  have h3 := hI.F
  have hwl := hI.w (show d < 3 by omega)
  rw [hw0] at hwl
  have hGG := gth_G (f := d) hI (by omega) hG
  obtain ⟨hok, hcm⟩ := gth_ok hg
  have v1 : ∀ a, a ≠ 0 → a ≠ 81 → V1 a = (gth V d G).1 a := fun a n1 n2 => by
    rw [hV1, ftv_nq n2, vu_nq _ _ _ n1]
  have v2 : ∀ a, 85 ≤ a → V1 a = V a := fun a ha => by rw [v1 a (by omega) (by omega), hGG.1 a (by omega) (by omega)]
  have h87 : V1 87 d = w := by rw [v2 87 (by omega), hR.w (by omega)]; exact hw0
  have hrs : mrs V1 d = 6 * G := by unfold mrs; rw [h87, hGw]
  have hgt := gat hV (W := vu V1 85 0 0) hM ((vu_nq _ _ _ (by decide)).trans (v2 89 (by omega))) ((vu_nq _ _ _ (by decide)).trans (v2 90 (by omega))) ((vu_nq _ _ _ (by decide)).trans (v2 91 (by omega))) hd S G hG
  have hmw : (mgw (vu V1 85 0 0) M d S (mrs V1 d / 6)).2 = true := by rw [hrs, show 6 * G / 6 = G from by omega, hgt.1]; exact hok
  have x0 : ∀ a, a ≠ 85 → a ≠ 100 → mga V1 M d S 0 a = V1 a := fun a => mga_nq
  have x85 : ∀ y, y ≠ 0 → mga V1 M d S 0 85 y = V 85 y := fun y hy => by rw [mga_85 hy, v2 85 (by omega)]
  have xt : mga V1 M d S 0 85 0 = 0 := mga_t
  have x100 : ∀ q, q < G → ∀ i, i < 4 → ∀ j, j < 4 → mga V1 M d S 0 100 (16 * q + 4 * i + j) = (gal V d G).1 83 ((6 * q + i) * 5 + j) := fun q hq i hi j hj => by
    unfold mga
    rw [vu_nq _ _ _ (by decide), hrs, show 6 * G / 6 = G from by omega]
    exact hgt.2 hok q hq i hi j hj
  generalize mga V1 M d S 0 = X at *
  have w0 : ∀ a, a ≠ 85 → a ≠ 99 → mft (vu X 85 21 w) w a = X a := fun a n1 n2 => by rw [mft_nq n2, vu_nq _ _ _ n1]
  refine ⟨hmw, h87, ?_, ?_⟩
  · rw [mft_nq (by decide)]
    exact (if_neg (by omega)).trans xt
  · refine inv_fet hV (w := w) hwl ?_ ?_ ?_ ?_ ?_ ?_ ?_ ?_ k0 k1 k2 k3
    · intro a n1 n2 n3 n4 n5 n6 n7
      rw [w0 a n5 n6, x0 a n5 n7, v1 a n1 n2, hGG.1 a n3 n4]
    · intro x hx
      rw [mft_nq (by decide)]
      exact (if_neg (fun z => hx.2 z.2)).trans (x85 x hx.1)
    · intro x hx
      rw [w0 0 (by decide) (by decide), x0 0 (by decide) (by decide), hV1, ftv_nq (by decide)]
      refine (if_neg (fun z => hx z.2)).trans ?_
      rw [hGG.1 0 (by decide) (by decide)]
    · rw [w0 0 (by decide) (by decide), x0 0 (by decide) (by decide), hV1, ftv_nq (by decide)]
      exact vu_eq _ _ _ _
    · rw [mft_nq (by decide)]
      exact vu_eq _ _ _ _
    · rw [w0 83 (by decide) (by decide), x0 83 (by decide) (by decide), v1 83 (by decide) (by decide)]
      exact hGG.2.1
    · rw [w0 84 (by decide) (by decide), x0 84 (by decide) (by decide), v1 84 (by decide) (by decide)]
      exact hGG.2.2
    · intro x hx
      rw [w0 81 (by decide) (by decide), x0 81 (by decide) (by decide), hV1, ftv_at, vu_nq _ _ _ (by decide), vu_nq _ _ _ (by decide), hGG.1 81 (by decide) (by decide)]
      by_cases h : x < w
      · rw [if_pos h]
        refine (if_pos ⟨rfl, h⟩).trans ?_
        rw [vu_nq _ _ _ (by decide), hcm, show x / 16 * 6 + x % 16 / 4 = 6 * (x / 16) + x % 16 / 4 from by omega, cmpl_p (by omega) (by omega) (by omega), ← x100 (x / 16) (by omega) (x % 16 / 4) (by omega) (x % 4) (by omega)]
        congr 1
        omega
      · rw [if_neg h]
        refine (if_neg (fun z => h z.2)).trans ?_
        rw [vu_nq _ _ _ (by decide), x0 99 (by decide) (by decide), v2 99 (by omega)]
        exact hR.ft x hx
/-- a gathering that failed: alike -/
theorem gno_ok {V : Nat → Nat → Nat} {L M N : Nat → Nat → Int64} (hV : jInv V L) {d G : Nat} (hd : d < V 0 4) (hG : G ≤ 4) (hrc : V (3 + 5 * d) 1 = 6 * G) (hM : M 85 = L 85) (S : Nat → Nat) (hg : (gth V d G).2 = 0) (k0 : N 0 0 = L 0 0) (k1 : N 0 1 = L 0 1) (k2 : N 85 1 = L 85 1) (k3 : N 85 2 = L 85 2) :
    (¬ (mgw (vu (gth V d G).1 85 0 0) M d S (mrs (gth V d G).1 d / 6)).2 = true) ∧ mga (gth V d G).1 M d S 2 85 0 = 2 ∧ jInv (mga (gth V d G).1 M d S 2) N := by
  obtain ⟨hI, hR, hX⟩ := id hV
  have h3 := hI.F
  have hGG := gth_G (f := d) hI (by omega) hG
  have v2 : ∀ a, 85 ≤ a → (gth V d G).1 a = V a := fun a ha => hGG.1 a (by omega) (by omega)
  have hno := gth_no hg
  have hrs : mrs (gth V d G).1 d = 6 * G := by unfold mrs; rw [v2 87 (by omega)]; exact (hR.rs hI (by omega)).trans hrc
  have hgt := gat hV (W := vu (gth V d G).1 85 0 0) hM ((vu_nq _ _ _ (by decide)).trans (v2 89 (by omega))) ((vu_nq _ _ _ (by decide)).trans (v2 90 (by omega))) ((vu_nq _ _ _ (by decide)).trans (v2 91 (by omega))) hd S G hG
  refine ⟨?_, mga_t, ?_⟩
  · rw [hrs, show 6 * G / 6 = G from by omega, hgt.1]
    exact hno
  · refine inv_gno hV ?_ ?_ ?_ ?_ k0 k1 k2 k3
    · intro a n1 n2 n3 n4
      rw [mga_nq n3 n4, hGG.1 a n1 n2]
    · intro x hx
      rw [mga_85 hx, v2 85 (by omega)]
    · rw [mga_nq (by decide) (by decide)]
      exact hGG.2.1
    · rw [mga_nq (by decide) (by decide)]
      exact hGG.2.2
