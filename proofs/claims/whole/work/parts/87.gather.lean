/-! gathering: the class and the model gather alike -/
theorem sus_at (V : Nat → Nat → Nat) (n f i k : Nat) (S : Nat → Nat) : ∀ c, c ≤ 4 → ∀ x, sus V n f i k S c x = if x / 8 = n ∧ x % 8 < c then cof (i % 6) (x % 8) else if x / 8 = n ∧ 4 ≤ x % 8 ∧ x % 8 < 4 + c then V 90 (360 * k + 5 * (24 * f + i) + (x % 8 - 4)) else S x
  | 0, _, x => by
    rw [if_neg (by omega), if_neg (by omega)]
    rfl
  | c + 1, hc, x => by
    have ih := sus_at V n f i k S c (by omega) x
    show su (su (sus V n f i k S c) (8 * n + c) (cof (i % 6) c)) (8 * n + 4 + c) (V 90 (360 * k + 5 * (24 * f + i) + c)) x = _
    by_cases h : x = 8 * n + 4 + c
    · refine (if_pos h).trans ?_
      rw [if_neg (by omega), if_pos (by omega), show x % 8 - 4 = c from by omega]
    · refine (if_neg h).trans ?_
      by_cases h2 : x = 8 * n + c
      · refine (if_pos h2).trans ?_
        rw [if_pos (by omega), show x % 8 = c from by omega]
      · refine (if_neg h2).trans ?_
        rw [ih]
        by_cases h3 : x / 8 = n ∧ x % 8 < c
        · rw [if_pos h3, if_pos (by omega)]
        · rw [if_neg h3, if_neg (show ¬ (x / 8 = n ∧ x % 8 < c + 1) by omega)]
          by_cases h4 : x / 8 = n ∧ 4 ≤ x % 8 ∧ x % 8 < 4 + c
          · rw [if_pos h4, if_pos (by omega)]
          · rw [if_neg h4, if_neg (by omega)]
/-- r: the rows of group q that were taken, after t rows; p the model's sums and their number, G the class's cells -/
def tkP (p : (Nat → Nat) × Nat) (G U : Nat → Nat → Nat) (q t : Nat) (r : Nat → Nat) : Prop :=
  (∀ n, n < p.2 → r n < t) ∧ (∀ n m, n < m → m < p.2 → r n < r m) ∧ (∀ n, n < p.2 → ∀ c, c < 4 → p.1 (8 * n + c) = cof (r n) c ∧ p.1 (8 * n + (4 + c)) = G 83 ((6 * q + r n) * 5 + c)) ∧ (∀ n, n < p.2 → G 84 (r n) = 1) ∧ (∀ u, u < t → G 84 u = 1 → ∃ n, n < p.2 ∧ r n = u) ∧ (∀ x, x < 30 * q ∨ 30 * q + 5 * t ≤ x → G 83 x = U 83 x)
theorem tkn {V U W : Nat → Nat → Nat} {L M : Nat → Nat → Int64} (hV : jInv V L) (hU : jI U) (hG : jG2 V U) (hM : M 85 = L 85) (h89 : W 89 = V 89) (h90 : W 90 = V 90) (h91 : W 91 = V 91) {f q : Nat} (hf : f < V 0 4) (hq : q < 4) (S : Nat → Nat) : ∀ t, t ≤ 6 → ∃ r : Nat → Nat, tkP (mgr W M f q S t) (ggr U f (6 * q) t).1 U q t r
  | 0, _ => ⟨fun _ => 0, fun n hn => absurd hn (Nat.not_lt_zero _), fun n m _ hn => absurd hn (Nat.not_lt_zero _), fun n hn => absurd hn (Nat.not_lt_zero _), fun n hn => absurd hn (Nat.not_lt_zero _), fun u hu => absurd hu (Nat.not_lt_zero _), fun _ _ => rfl⟩
  | t + 1, ht => by
    have h3 := hV.1.F
    obtain ⟨r, a1, a2, a3, a4, a5, a6⟩ := tkn hV hU hG hM h89 h90 h91 hf hq S t (by omega)
    have hg := (ggr_G (first := 6 * q) hU (show f < 3 by omega) (by omega) t (by omega)).1
    have hc := cnt_eq hV hU hG hM h89 h90 h91 hf hq S t (by omega)
    have hgv := (hG.trans hg).1
    have hkp := fun (k : Nat) (hk : k < 4) (c : Nat) (hc : c < 4) => hV.2.1.kp hk (show f < 3 by omega) (show 6 * q + t < 24 by omega) (show c < 5 by omega)
    rw [ggr_s, mgr_s, lgk_G (hG.trans hg) (show f < 3 by omega), lgk_mkk hV hM h89 h90 h91 hf (show 6 * q + t < 24 by omega), hc]
    generalize mgr W M f q S t = p at *
    generalize (ggr U f (6 * q) t).1 = G at *
    generalize lgk V f (6 * q + t) = k at *
    by_cases h : p.2 < 4 ∧ k < 4
    · rw [if_pos h, if_pos h]
      have e84 : ∀ u, tak (vu G 84 t 1) 82 (22 + 14 * k + 4 * f) (6 * q + t) 84 u = if u = t then 1 else G 84 u := fun u => by
        unfold tak
        rw [if_neg (by omega)]
        by_cases hu : u = t
        · rw [if_pos hu]
          exact if_pos ⟨rfl, hu⟩
        · rw [if_neg hu]
          exact if_neg (fun z => hu z.2)
      have e83 : ∀ x, tak (vu G 84 t 1) 82 (22 + 14 * k + 4 * f) (6 * q + t) 83 x = if (6 * q + t) * 5 ≤ x ∧ x < (6 * q + t) * 5 + 5 then V (22 + 14 * k + 4 * f + 1) x else G 83 x := fun x => by
        unfold tak
        by_cases hx : (6 * q + t) * 5 ≤ x ∧ x < (6 * q + t) * 5 + 5
        · rw [if_pos ⟨rfl, hx⟩, if_pos hx, vu_nq _ _ _ (by omega), hgv _ (by omega) (by omega)]
        · rw [if_neg (fun z => hx z.2), if_neg hx, vu_nq _ _ _ (by omega)]
      refine ⟨fun n => if n = p.2 then t else r n, fun n hn => ?_, fun n m hnm hm => ?_, fun n hn c hc4 => ?_, fun n hn => ?_, fun u hu h1 => ?_, fun x hx => ?_⟩
      · show (if n = p.2 then t else r n) < t + 1
        split
        · omega
        · next hh =>
          have := a1 n (by simp only at hn; omega)
          omega
      · show (if n = p.2 then t else r n) < if m = p.2 then t else r m
        simp only at hm
        rw [if_neg (by omega)]
        by_cases hmp : m = p.2
        · rw [if_pos hmp]
          exact a1 n (by omega)
        · rw [if_neg hmp]
          exact a2 n m hnm (by omega)
      · show sus W p.2 f (6 * q + t) k p.1 4 (8 * n + c) = cof (if n = p.2 then t else r n) c ∧ sus W p.2 f (6 * q + t) k p.1 4 (8 * n + (4 + c)) = tak (vu G 84 t 1) 82 (22 + 14 * k + 4 * f) (6 * q + t) 83 ((6 * q + (if n = p.2 then t else r n)) * 5 + c)
        simp only at hn
        rw [sus_at _ _ _ _ _ _ 4 (by omega), sus_at _ _ _ _ _ _ 4 (by omega), e83]
        by_cases hnp : n = p.2
        · rw [if_pos hnp, if_pos (by omega), if_neg (by omega), if_pos (by omega), if_pos (by omega), show (8 * n + c) % 8 = c from by omega, show (8 * n + (4 + c)) % 8 - 4 = c from by omega, show (6 * q + t) % 6 = t from by omega, h90, hkp k h.2 c hc4]
          exact ⟨rfl, rfl⟩
        · have := a1 n (by omega)
          rw [if_neg hnp, if_neg (by omega), if_neg (by omega), if_neg (by omega), if_neg (by omega), if_neg (by omega)]
          exact a3 n (by omega) c hc4
      · show tak (vu G 84 t 1) 82 (22 + 14 * k + 4 * f) (6 * q + t) 84 (if n = p.2 then t else r n) = 1
        simp only at hn
        rw [e84]
        by_cases hnp : n = p.2
        · rw [if_pos hnp, if_pos rfl]
        · have := a1 n (by omega)
          rw [if_neg hnp, if_neg (by omega)]
          exact a4 n (by omega)
      · have h1' : tak (vu G 84 t 1) 82 (22 + 14 * k + 4 * f) (6 * q + t) 84 u = 1 := h1
        rw [e84] at h1'
        by_cases hu2 : u = t
        · exact ⟨p.2, Nat.lt_succ_self _, by rw [hu2]; exact if_pos rfl⟩
        · rw [if_neg hu2] at h1'
          obtain ⟨n, hn, e⟩ := a5 u (by omega) h1'
          exact ⟨n, Nat.lt_succ_of_lt hn, (if_neg (by omega)).trans e⟩
      · show tak (vu G 84 t 1) 82 (22 + 14 * k + 4 * f) (6 * q + t) 83 x = _
        rw [e83, if_neg (by omega)]
        exact a6 x (by omega)
    · rw [if_neg h, if_neg h]
      have e84 : ∀ u, vu G 84 t 0 84 u = if u = t then 0 else G 84 u := fun u => by
        by_cases hu : u = t
        · rw [if_pos hu]
          exact if_pos ⟨rfl, hu⟩
        · rw [if_neg hu]
          exact if_neg (fun z => hu z.2)
      refine ⟨r, fun n hn => Nat.lt_succ_of_lt (a1 n hn), a2, fun n hn c hc4 => ?_, fun n hn => ?_, fun u hu h1 => ?_, fun x hx => ?_⟩
      · show _ ∧ _ = vu G 84 t 0 83 _
        rw [vu_nq _ _ _ (by decide)]
        exact a3 n hn c hc4
      · show vu G 84 t 0 84 (r n) = 1
        have := a1 n hn
        rw [e84, if_neg (by omega)]
        exact a4 n hn
      · have h1' : vu G 84 t 0 84 u = 1 := h1
        rw [e84] at h1'
        by_cases hu2 : u = t
        · rw [if_pos hu2] at h1'
          exact absurd h1' (by decide)
        · rw [if_neg hu2] at h1'
          exact a5 u (by omega) h1'
      · show vu G 84 t 0 83 x = _
        rw [vu_nq _ _ _ (by decide)]
        exact a6 x (by omega)
theorem cof_lt : ∀ r, r < 6 → ∀ c, c < 4 → cof r c < 2147483647 := by decide +kernel
/-- four rows taken can be solved -/
theorem tk_s {p : (Nat → Nat) × Nat} {G U : Nat → Nat → Nat} {q : Nat} {r : Nat → Nat} (hq : q < 4) (h : tkP p G U q 6 r) (h4 : p.2 = 4) (hG : ∀ i, i < 120 → G 83 i < 2147483647) : sP p.1 ∧ ∃ s, s < 15 ∧ ∀ n, n < 4 → ∀ j, j < 4 → p.1 (8 * n + j) = tG s 0 n j := by
  obtain ⟨a1, a2, a3, a4, a5, a6⟩ := h
  rw [h4] at a1 a2 a3
  refine ⟨fun x hx => ?_, tI (r 0) (r 1) (r 2) (r 3), ?_⟩
  · have hr := a1 (x / 8) (by omega)
    by_cases h : x % 8 < 4
    · have e := (a3 (x / 8) (by omega) (x % 8) h).1
      rw [show 8 * (x / 8) + x % 8 = x from by omega] at e
      rw [e]
      exact cof_lt _ hr _ h
    · have e := (a3 (x / 8) (by omega) (x % 8 - 4) (by omega)).2
      rw [show 8 * (x / 8) + (4 + (x % 8 - 4)) = x from by omega] at e
      rw [e]
      exact hG _ (by omega)
  · have b1 := a2 0 1 (by omega) (by omega)
    have b2 := a2 1 2 (by omega) (by omega)
    have b3 := a2 2 3 (by omega) (by omega)
    have b4 := a1 3 (by omega)
    obtain ⟨c1, c2⟩ := tT_0 b1 b2 b3 b4
    refine ⟨c1, fun n hn j hj => ?_⟩
    obtain ⟨d0, d1, d2, d3⟩ := c2 j hj
    rw [(a3 n hn j hj).1]
    rcases (show n = 0 ∨ n = 1 ∨ n = 2 ∨ n = 3 by omega) with rfl | rfl | rfl | rfl
    · exact d0
    · exact d1
    · exact d2
    · exact d3
theorem mgr_4 {V : Nat → Nat → Nat} {L : Nat → Nat → Int64} {f q : Nat} {S : Nat → Nat} {t : Nat} (h : ¬ (mgr V L f q S t).2 < 4) : (mgr V L f q S t).2 = 4 := by
  have := mgr_le V L f q S t
  omega
theorem jG2_rfl {V : Nat → Nat → Nat} (h : jI V) : jG2 V V := ⟨fun _ _ _ => rfl, h.ga, h.pr⟩
/-- four rows can always be solved -/
theorem mgo_of {V W : Nat → Nat → Nat} {L M : Nat → Nat → Int64} (hV : jInv V L) (hM : M 85 = L 85) (h89 : W 89 = V 89) (h90 : W 90 = V 90) (h91 : W 91 = V 91) {f : Nat} (hf : f < V 0 4) : mgo W M f := fun t T ht h => by
  have h3 := hV.1.F
  obtain ⟨r, hr⟩ := tkn hV hV.1 (jG2_rfl hV.1) hM h89 h90 h91 hf ht T 6 (by omega)
  have hg := (ggr_G (first := 6 * t) hV.1 (show f < 3 by omega) (by omega) 6 (by omega)).1
  obtain ⟨h1, s, hs, h2⟩ := tk_s ht hr (mgr_4 h) hg.2.1
  exact stg_p h1 hs h2
theorem rcv_out {G : Nat → Nat → Nat} {first x : Nat} (h : x < first * 5) : rcv G first 83 x = G 83 x := by
  unfold rcv
  split
  · rfl
  · split
    · unfold rc1 vu clr
      repeat' rw [if_neg (by omega)]
    · unfold rc2 vu clr
      repeat' rw [if_neg (by omega)]
theorem l4_id (x : Nat → Nat) {u : Nat} (hu : u < 4) : l4 (cof u) x = x u := by
  have e : ∀ i, i < 4 → cof u i = if u = i then 1 else 0 := fun i _ => by
    unfold cof
    rw [if_pos hu]
  rw [l4_eq x e]
  unfold l4
  rcases (show u = 0 ∨ u = 1 ∨ u = 2 ∨ u = 3 by omega) with rfl | rfl | rfl | rfl
  all_goals simp
/-- the class's words solve the model's rows -/
theorem tk_sol {p : (Nat → Nat) × Nat} {G U : Nat → Nat → Nat} {q : Nat} {r : Nat → Nat} (hq : q < 4) (h : tkP p G U q 6 r) (h4 : p.2 = 4) (hG : ∀ i, i < 120 → G 83 i < 2147483647) (h01 : ∀ i, i < 6 → G 84 i ≤ 1) {j : Nat} (hj : j < 4) : sol p.1 (fun i => rcv G (6 * q) 83 ((6 * q + i) * 5 + j)) j := by
  obtain ⟨a1, a2, a3, a4, a5, a6⟩ := h
  rw [h4] at a1 a2 a3 a4 a5
  intro n hn
  have hs := (rcv_a hG (show 6 * q + 6 ≤ 24 by omega) a1 a2 a4 a5 h01).1 j hj (r n) (a1 n hn) (a4 n hn)
  have hr := a1 n hn
  rw [l4_eq _ (fun i hi => (a3 n hn i hi).1), (a3 n hn j hj).2, ← hs]
  by_cases h : r n < 4
  · rw [if_pos h, l4_id _ h]
  · rw [if_neg h]
    obtain ⟨c, hc⟩ : ∃ c, r n = 4 + c := ⟨r n - 4, by omega⟩
    rw [hc, show 4 + c - 4 = c from by omega, cwd_md _ (by omega), Nat.mod_eq_of_lt (cwd_lt _ _)]
/-- the class and the model gather alike -/
theorem gat {V W : Nat → Nat → Nat} {L M : Nat → Nat → Int64} (hV : jInv V L) (hM : M 85 = L 85) (h89 : W 89 = V 89) (h90 : W 90 = V 90) (h91 : W 91 = V 91) {f : Nat} (hf : f < V 0 4) (S : Nat → Nat) : ∀ t, t ≤ 4 → (mgw W M f S t).2 = (gal V f t).2 ∧ ((gal V f t).2 = true → ∀ q, q < t → ∀ i, i < 4 → ∀ j, j < 4 → (mgw W M f S t).1.1 100 (16 * q + 4 * i + j) = (gal V f t).1 83 ((6 * q + i) * 5 + j))
  | 0, _ => ⟨rfl, fun _ q hq => absurd hq (Nat.not_lt_zero _)⟩
  | t + 1, ht => by
    have h3 := hV.1.F
    obtain ⟨b1, b2⟩ := gat hV hM h89 h90 h91 hf S t (by omega)
    have hg := gal_G (f := f) hV.1 (by omega) t (by omega)
    rw [gal_s, mgw_s, b1]
    by_cases h : (gal V f t).2 = true
    · rw [if_pos h, if_pos h]
      generalize hT : (mgw W M f S t).1.2 = T at *
      have hU := hg.I hV.1
      obtain ⟨r, hr⟩ := tkn hV hU hg hM h89 h90 h91 hf (show t < 4 by omega) T 6 (by omega)
      have hc := cnt_eq hV hU hg hM h89 h90 h91 hf (show t < 4 by omega) T 6 (by omega)
      have hg6 := (ggr_G (first := 6 * t) hU (show f < 3 by omega) (by omega) 6 (by omega)).1
      have hm4 := mgr_le W M f t T 6
      rw [hc]
      generalize mgr W M f t T 6 = p at *
      generalize ggr (gal V f t).1 f (6 * t) 6 = Gp at *
      generalize gal V f t = A at *
      generalize mgw W M f S t = B at *
      by_cases h4 : p.2 < 4
      · rw [if_pos h4, if_neg (by omega)]
        exact ⟨rfl, fun z => absurd z (fun z => Bool.noConfusion z)⟩
      · rw [if_neg h4, if_pos (by omega)]
        refine ⟨rfl, fun _ q hq i hi j hj => ?_⟩
        obtain ⟨k1, s, hs, k2⟩ := tk_s (by omega) hr (by omega) hg6.2.1
        show mwk B.1.1 t (stg p.1 4) 16 100 (16 * q + 4 * i + j) = rcv Gp.1 (6 * t) 83 ((6 * q + i) * 5 + j)
        by_cases hqt : q = t
        · subst hqt
          have e : ∀ Z, mwk B.1.1 q Z 16 100 (16 * q + 4 * i + j) = Z (8 * i + 4 + j) := fun Z => by
            unfold mwk
            rw [if_pos ⟨rfl, by omega, by omega⟩, show (16 * q + 4 * i + j - 16 * q) / 4 = i from by omega, show (16 * q + 4 * i + j - 16 * q) % 4 = j from by omega]
          rw [e]
          exact sol_end k1 hs k2 hj (fun n hn => rcv_lt hg6.2.1 _ (by omega)) (tk_sol (by omega) hr (by omega) hg6.2.1 hg6.2.2 hj) i hi
        · have e : ∀ Z, mwk B.1.1 t Z 16 100 (16 * q + 4 * i + j) = B.1.1 100 (16 * q + 4 * i + j) := fun Z => by
            unfold mwk
            rw [if_neg (by omega)]
          rw [e, rcv_out (by omega), hr.2.2.2.2.2 _ (by omega)]
          exact b2 h q (by omega) i hi j hj
    · rw [if_neg h, if_neg h]
      exact ⟨b1, fun z => absurd z h⟩
