/-! rounds that change: word, key, tamper, change, lose, judge -/
theorem jN_c {V W : Nat → Nat → Nat} (h : ∀ a, 85 ≤ a → a < 98 → W a = V a) (hN : jN V) : jN W := by
  unfold jN
  rw [h 85 (by decide) (by decide), h 87 (by decide) (by decide), h 88 (by decide) (by decide), h 89 (by decide) (by decide), h 90 (by decide) (by decide), h 91 (by decide) (by decide), h 95 (by decide) (by decide), h 96 (by decide) (by decide), h 97 (by decide) (by decide)]
  exact hN
theorem inv_word {V : Nat → Nat → Nat} {L : Nat → Nat → Int64} (hV : jInv V L) {j w : Nat} (hj : j < 64) (hw : w < 2147483647) : jInv (vu (vu (vu V 1 j w) 85 0 0) 86 j w) (L) := by
  obtain ⟨hI, hR, hX⟩ := hV
  have h3 := hI.F
  obtain ⟨i1, i2, i3, i4, i5, i6, i7, i8, i9⟩ := id hI
  obtain ⟨x1, x2, x3⟩ := id hX
  obtain ⟨⟨r1, r2, r3, r4⟩, r5, r6, r7, r8, r9, r10⟩ := id hR
  have e : ∀ a, a ≠ 1 → a ≠ 85 → a ≠ 86 → (vu (vu (vu V 1 j w) 85 0 0) 86 j w) a = V a := fun a n1 n2 n3 => by rw [vu_nq _ _ _ n3, vu_nq _ _ _ n2, vu_nq _ _ _ n1]
  have e85 : ∀ x, x ≠ 0 → (vu (vu (vu V 1 j w) 85 0 0) 86 j w) 85 x = V 85 x := fun x hx => by rw [vu_nq _ _ _ (by decide)]; exact (if_neg (fun z => hx z.2)).trans (by rw [vu_nq _ _ _ (by decide)])
  have e1 : ∀ x, (vu (vu (vu V 1 j w) 85 0 0) 86 j w) 1 x = vu V 1 j w 1 x := fun x => by rw [vu_nq _ _ _ (by decide), vu_nq _ _ _ (by decide)]
  refine ⟨⟨?_, ?_, ?_, ?_, fun f hf => ?_, fun k hk f hf => ?_, ?_, ?_, ?_⟩, ⟨⟨?_, ?_, fun f hf => ?_, fun f hf => ?_⟩, fun k hk f hf => ?_, fun k hk => ?_, ?_, ?_, ?_, ?_⟩, fun f hf => ?_, fun f hf hf3 => ?_, ?_⟩
  · rw [e (0) (by omega) (by omega) (by omega)]
    exact i1
  · rw [e (0) (by omega) (by omega) (by omega)]
    exact i2
  · rw [e (0) (by omega) (by omega) (by omega)]
    exact i3
  · intro x hx
    rw [e1]
    unfold vu
    split
    · exact hw
    · exact i4 x hx
  · rw [e (3 + 5 * f) (by omega) (by omega) (by omega), e (4 + 5 * f) (by omega) (by omega) (by omega), e (5 + 5 * f) (by omega) (by omega) (by omega), e (6 + 5 * f + 1) (by omega) (by omega) (by omega)]
    exact i5 f hf
  · rw [e (21 + 14 * k + 4 * f) (by omega) (by omega) (by omega), e (24 + 14 * k + 4 * f) (by omega) (by omega) (by omega), e (22 + 14 * k + 4 * f + 1) (by omega) (by omega) (by omega)]
    exact i6 k hk f hf
  · rw [e (75) (by omega) (by omega) (by omega), e (76) (by omega) (by omega) (by omega), e (77) (by omega) (by omega) (by omega), e (78) (by omega) (by omega) (by omega), e (79) (by omega) (by omega) (by omega)]
    exact i7
  · rw [e (83) (by omega) (by omega) (by omega)]
    exact i8
  · rw [e (84) (by omega) (by omega) (by omega)]
    exact i9
  · rw [e85 4 (by omega), e (0) (by omega) (by omega) (by omega)]
    exact r1
  · intro x hx
    rw [e1]
    unfold vu
    by_cases h : x = j
    · rw [if_pos ⟨rfl, h⟩, if_pos ⟨rfl, h⟩]
    · rw [if_neg (show ¬ (86 = 86 ∧ x = j) from fun z => h z.2), if_neg (show ¬ (86 = 85 ∧ x = 0) by omega), if_neg (show ¬ (86 = 1 ∧ x = j) by omega), if_neg (show ¬ (1 = 1 ∧ x = j) from fun z => h z.2)]
      exact r2 x hx
  · rw [e (87) (by omega) (by omega) (by omega), e (3 + 5 * f) (by omega) (by omega) (by omega)]
    exact r3 f hf
  · rw [e (88) (by omega) (by omega) (by omega), e (6 + 5 * f + 1) (by omega) (by omega) (by omega)]
    exact r4 f hf
  · rw [e (89) (by omega) (by omega) (by omega), e (90) (by omega) (by omega) (by omega), e (91) (by omega) (by omega) (by omega), e (21 + 14 * k + 4 * f) (by omega) (by omega) (by omega), e (22 + 14 * k + 4 * f + 1) (by omega) (by omega) (by omega), e (24 + 14 * k + 4 * f) (by omega) (by omega) (by omega)]
    exact r5 k hk f hf
  · rw [e (92) (by omega) (by omega) (by omega), e (93) (by omega) (by omega) (by omega), e (94) (by omega) (by omega) (by omega), e (19 + 14 * k) (by omega) (by omega) (by omega)]
    exact r6 k hk
  · rw [e85 13 (by omega), e85 14 (by omega), e85 15 (by omega), e (95) (by omega) (by omega) (by omega), e (96) (by omega) (by omega) (by omega), e (97) (by omega) (by omega) (by omega), e (75) (by omega) (by omega) (by omega), e (76) (by omega) (by omega) (by omega), e (77) (by omega) (by omega) (by omega), e (78) (by omega) (by omega) (by omega)]
    exact r7
  · rw [e85 19 (by omega), e85 21 (by omega), e (98) (by omega) (by omega) (by omega), e (99) (by omega) (by omega) (by omega), e (0) (by omega) (by omega) (by omega), e (80) (by omega) (by omega) (by omega), e (81) (by omega) (by omega) (by omega)]
    exact r8
  · exact r9
  · exact r10
  · rw [e 0 (by omega) (by omega) (by omega)] at hf
    rw [e (4 + 5 * f) (by omega) (by omega) (by omega), e (5 + 5 * f) (by omega) (by omega) (by omega)]
    exact x1 f hf
  · rw [e 0 (by omega) (by omega) (by omega)] at hf
    obtain ⟨a1, a2, a3⟩ := x2 f hf hf3
    exact ⟨by rw [e (3 + 5 * f) (by omega) (by omega) (by omega)]; exact a1, by rw [e (6 + 5 * f + 1) (by omega) (by omega) (by omega)]; exact a2, fun k hk => by rw [e (21 + 14 * k + 4 * f) (by omega) (by omega) (by omega)]; exact a3 k hk⟩
  · rw [e (75) (by omega) (by omega) (by omega), e (0) (by omega) (by omega) (by omega)]
    exact x3
theorem st_word (g : jG) (hb : jaN g < 2 ^ 31) {V : Nat → Nat → Nat} {L : Nat → Nat → Int64} {i : Nat} (hV : jInv V L) (hi : i + 6 ≤ jaN g) : jGo g jInv V L i 244 := by
  intro kC kS Q k n hk hn kk
  obtain ⟨hI, hR, hX⟩ := id hV
  have hN := jN_of hI hR
  have h3 := hI.F
  have kk0 := fun x => kk (vu V 85 0 x) L k n (jInv_t x hV) (by omega) (by omega)
  have kk1 := fun x z => kk (vu V 85 0 x) (jupL L 103 0 z) (k + 1) (n + 6) (jInv_o z (jInv_t x hV)) (by omega) (by omega)
  have kk2 := fun x => kk (vu V 85 0 x) L (k + 1) (n + 6) (jInv_t x hV) (by omega) (by omega)
  by_cases h : isn 64 (jxs g (i + 1)) = 0 ∨ hsn (jxs g (i + 2)) = 0
  · exact law_word g kC kS Q V L k n i hk hn hi hb V _ L L (nI 0) (n_D_word g V L _ _ h) (n_M_word g V L _ _ h) (kk0 0)
  · obtain ⟨h1, h2⟩ := not_or.mp h
    obtain ⟨j, hj, ej⟩ := isn_of (by decide) h1
    obtain ⟨w, hw, ew⟩ := hsn_of h2
    refine law_word g kC kS Q V L k n i hk hn hi hb (vu V 1 j w) _ L L (nI 1) ?_ ?_ (kk _ L k n (inv_word hV hj hw) (by omega) (by omega))
    · rw [ej, ew]
      exact c_D_word g V L j w hj hw
    · rw [ej, ew]
      exact c_M_word g (vu V 1 j w) L j w hj hw
theorem inv_key {V : Nat → Nat → Nat} {L : Nat → Nat → Int64} (hV : jInv V L) (h0 : V 0 4 = 0) (a b : Int64) : jInv (vu V 85 0 0) (jupL (jupL (jupL (jupL L 0 0 a) 0 1 b) 85 1 a) 85 2 b) := by
  obtain ⟨hI, hR, hX⟩ := hV
  have h3 := hI.F
  obtain ⟨i1, i2, i3, i4, i5, i6, i7, i8, i9⟩ := id hI
  obtain ⟨x1, x2, x3⟩ := id hX
  obtain ⟨⟨r1, r2, r3, r4⟩, r5, r6, r7, r8, r9, r10⟩ := id hR
  have e : ∀ a, a ≠ 85 → (vu V 85 0 0) a = V a := fun a n1 => vu_nq _ _ _ n1
  have e85 : ∀ x, x ≠ 0 → (vu V 85 0 0) 85 x = V 85 x := fun x hx => if_neg (fun z => hx z.2)
  refine ⟨⟨?_, ?_, ?_, ?_, fun f hf => ?_, fun k hk f hf => ?_, ?_, ?_, ?_⟩, ⟨⟨?_, ?_, fun f hf => ?_, fun f hf => ?_⟩, fun k hk f hf => ?_, fun k hk => ?_, ?_, ?_, ?_, ?_⟩, fun f hf => ?_, fun f hf hf3 => ?_, ?_⟩
  · rw [e (0) (by omega)]
    exact i1
  · rw [e (0) (by omega)]
    exact i2
  · rw [e (0) (by omega)]
    exact i3
  · rw [e (1) (by omega)]
    exact i4
  · rw [e (3 + 5 * f) (by omega), e (4 + 5 * f) (by omega), e (5 + 5 * f) (by omega), e (6 + 5 * f + 1) (by omega)]
    exact i5 f hf
  · rw [e (21 + 14 * k + 4 * f) (by omega), e (24 + 14 * k + 4 * f) (by omega), e (22 + 14 * k + 4 * f + 1) (by omega)]
    exact i6 k hk f hf
  · rw [e (75) (by omega), e (76) (by omega), e (77) (by omega), e (78) (by omega), e (79) (by omega)]
    exact i7
  · rw [e (83) (by omega)]
    exact i8
  · rw [e (84) (by omega)]
    exact i9
  · rw [e85 4 (by omega), e (0) (by omega)]
    exact r1
  · rw [e (86) (by omega), e (1) (by omega)]
    exact r2
  · rw [e (87) (by omega), e (3 + 5 * f) (by omega)]
    exact r3 f hf
  · rw [e (88) (by omega), e (6 + 5 * f + 1) (by omega)]
    exact r4 f hf
  · rw [e (89) (by omega), e (90) (by omega), e (91) (by omega), e (21 + 14 * k + 4 * f) (by omega), e (22 + 14 * k + 4 * f + 1) (by omega), e (24 + 14 * k + 4 * f) (by omega)]
    exact r5 k hk f hf
  · rw [e (92) (by omega), e (93) (by omega), e (94) (by omega), e (19 + 14 * k) (by omega)]
    exact r6 k hk
  · rw [e85 13 (by omega), e85 14 (by omega), e85 15 (by omega), e (95) (by omega), e (96) (by omega), e (97) (by omega), e (75) (by omega), e (76) (by omega), e (77) (by omega), e (78) (by omega)]
    exact r7
  · rw [e85 19 (by omega), e85 21 (by omega), e (98) (by omega), e (99) (by omega), e (0) (by omega), e (80) (by omega), e (81) (by omega)]
    exact r8
  · rfl
  · rfl
  · rw [e 0 (by omega), h0] at hf
    exact absurd hf (Nat.not_lt_zero _)
  · rw [e 0 (by omega)] at hf
    obtain ⟨a1, a2, a3⟩ := x2 f hf hf3
    exact ⟨by rw [e (3 + 5 * f) (by omega)]; exact a1, by rw [e (6 + 5 * f + 1) (by omega)]; exact a2, fun k hk => by rw [e (21 + 14 * k + 4 * f) (by omega)]; exact a3 k hk⟩
  · rw [e (75) (by omega), e (0) (by omega)]
    exact x3
theorem st_key (g : jG) (hb : jaN g < 2 ^ 31) {V : Nat → Nat → Nat} {L : Nat → Nat → Int64} {i : Nat} (hV : jInv V L) (hi : i + 6 ≤ jaN g) : jGo g jInv V L i 132 := by
  intro kC kS Q k n hk hn kk
  obtain ⟨hI, hR, hX⟩ := id hV
  have hN := jN_of hI hR
  have h3 := hI.F
  have kk0 := fun x => kk (vu V 85 0 x) L k n (jInv_t x hV) (by omega) (by omega)
  have kk1 := fun x z => kk (vu V 85 0 x) (jupL L 103 0 z) (k + 1) (n + 6) (jInv_o z (jInv_t x hV)) (by omega) (by omega)
  have kk2 := fun x => kk (vu V 85 0 x) L (k + 1) (n + 6) (jInv_t x hV) (by omega) (by omega)
  by_cases h : V 0 4 = 0
  · exact law_key g kC kS Q V L k n i hk hn hi hb V _ _ _ 0 (by omega) (w_key g V L _ _ V _ (c_D_key g V L _ _ h)) (c_M_key g V _ _ _ (by rw [hR.F]; exact h)) rfl (kk _ _ _ _ (inv_key hV h _ _) (by omega) (by omega))
  · exact law_key g kC kS Q V L k n i hk hn hi hb V _ L L 1 (by omega) (wt0_key g V L _ _ V L (t_D_key g V L _ _ (by omega) h3)) (n_M_key g V L _ _ (by rw [hR.F]; omega) (by rw [hR.F]; exact h3)) rfl (kk2 1)
theorem inv_tamper {V : Nat → Nat → Nat} {L : Nat → Nat → Int64} (hV : jInv V L) {j w : Nat} (hj : j < 5) (hw : w < 2147483647) : jInv (vu (vu (vu V 78 j w) 85 0 0) 97 j w) (L) := by
  obtain ⟨hI, hR, hX⟩ := hV
  have h3 := hI.F
  obtain ⟨i1, i2, i3, i4, i5, i6, i7, i8, i9⟩ := id hI
  obtain ⟨x1, x2, x3⟩ := id hX
  obtain ⟨⟨r1, r2, r3, r4⟩, r5, r6, r7, r8, r9, r10⟩ := id hR
  have e : ∀ a, a ≠ 78 → a ≠ 85 → a ≠ 97 → (vu (vu (vu V 78 j w) 85 0 0) 97 j w) a = V a := fun a n1 n2 n3 => by rw [vu_nq _ _ _ n3, vu_nq _ _ _ n2, vu_nq _ _ _ n1]
  have e85 : ∀ x, x ≠ 0 → (vu (vu (vu V 78 j w) 85 0 0) 97 j w) 85 x = V 85 x := fun x hx => by rw [vu_nq _ _ _ (by decide)]; exact (if_neg (fun z => hx z.2)).trans (by rw [vu_nq _ _ _ (by decide)])
  have e1 : ∀ x, (vu (vu (vu V 78 j w) 85 0 0) 97 j w) 78 x = vu V 78 j w 78 x := fun x => by rw [vu_nq _ _ _ (by decide), vu_nq _ _ _ (by decide)]
  obtain ⟨p1, p2, p3, p4, p5, p6, p7, p8⟩ := i7
  obtain ⟨q1, q2, q3, q4, q5, q6⟩ := r7
  refine ⟨⟨?_, ?_, ?_, ?_, fun f hf => ?_, fun k hk f hf => ?_, ?_, ?_, ?_⟩, ⟨⟨?_, ?_, fun f hf => ?_, fun f hf => ?_⟩, fun k hk f hf => ?_, fun k hk => ?_, ?_, ?_, ?_, ?_⟩, fun f hf => ?_, fun f hf hf3 => ?_, ?_⟩
  · rw [e (0) (by omega) (by omega) (by omega)]
    exact i1
  · rw [e (0) (by omega) (by omega) (by omega)]
    exact i2
  · rw [e (0) (by omega) (by omega) (by omega)]
    exact i3
  · rw [e (1) (by omega) (by omega) (by omega)]
    exact i4
  · rw [e (3 + 5 * f) (by omega) (by omega) (by omega), e (4 + 5 * f) (by omega) (by omega) (by omega), e (5 + 5 * f) (by omega) (by omega) (by omega), e (6 + 5 * f + 1) (by omega) (by omega) (by omega)]
    exact i5 f hf
  · rw [e (21 + 14 * k + 4 * f) (by omega) (by omega) (by omega), e (24 + 14 * k + 4 * f) (by omega) (by omega) (by omega), e (22 + 14 * k + 4 * f + 1) (by omega) (by omega) (by omega)]
    exact i6 k hk f hf
  · rw [e (75) (by omega) (by omega) (by omega), e (76) (by omega) (by omega) (by omega), e (77) (by omega) (by omega) (by omega), e (79) (by omega) (by omega) (by omega)]
    refine ⟨p1, p2, p3, p4, p5, p6, fun x hx => ?_, p8⟩
    rw [e1]
    unfold vu
    split
    · exact hw
    · exact p7 x hx
  · rw [e (83) (by omega) (by omega) (by omega)]
    exact i8
  · rw [e (84) (by omega) (by omega) (by omega)]
    exact i9
  · rw [e85 4 (by omega), e (0) (by omega) (by omega) (by omega)]
    exact r1
  · rw [e (86) (by omega) (by omega) (by omega), e (1) (by omega) (by omega) (by omega)]
    exact r2
  · rw [e (87) (by omega) (by omega) (by omega), e (3 + 5 * f) (by omega) (by omega) (by omega)]
    exact r3 f hf
  · rw [e (88) (by omega) (by omega) (by omega), e (6 + 5 * f + 1) (by omega) (by omega) (by omega)]
    exact r4 f hf
  · rw [e (89) (by omega) (by omega) (by omega), e (90) (by omega) (by omega) (by omega), e (91) (by omega) (by omega) (by omega), e (21 + 14 * k + 4 * f) (by omega) (by omega) (by omega), e (22 + 14 * k + 4 * f + 1) (by omega) (by omega) (by omega), e (24 + 14 * k + 4 * f) (by omega) (by omega) (by omega)]
    exact r5 k hk f hf
  · rw [e (92) (by omega) (by omega) (by omega), e (93) (by omega) (by omega) (by omega), e (94) (by omega) (by omega) (by omega), e (19 + 14 * k) (by omega) (by omega) (by omega)]
    exact r6 k hk
  · rw [e85 13 (by omega), e85 14 (by omega), e85 15 (by omega), e (95) (by omega) (by omega) (by omega), e (96) (by omega) (by omega) (by omega), e (75) (by omega) (by omega) (by omega), e (76) (by omega) (by omega) (by omega), e (77) (by omega) (by omega) (by omega)]
    refine ⟨q1, q2, q3, q4, q5, fun x hx => ?_⟩
    rw [e1]
    unfold vu
    by_cases h : x = j
    · rw [if_pos ⟨rfl, h⟩, if_pos ⟨rfl, h⟩]
    · rw [if_neg (show ¬ (97 = 97 ∧ x = j) from fun z => h z.2), if_neg (show ¬ (97 = 85 ∧ x = 0) by omega), if_neg (show ¬ (97 = 78 ∧ x = j) by omega), if_neg (show ¬ (78 = 78 ∧ x = j) from fun z => h z.2)]
      exact q6 x hx
  · rw [e85 19 (by omega), e85 21 (by omega), e (98) (by omega) (by omega) (by omega), e (99) (by omega) (by omega) (by omega), e (0) (by omega) (by omega) (by omega), e (80) (by omega) (by omega) (by omega), e (81) (by omega) (by omega) (by omega)]
    exact r8
  · exact r9
  · exact r10
  · rw [e 0 (by omega) (by omega) (by omega)] at hf
    rw [e (4 + 5 * f) (by omega) (by omega) (by omega), e (5 + 5 * f) (by omega) (by omega) (by omega)]
    exact x1 f hf
  · rw [e 0 (by omega) (by omega) (by omega)] at hf
    obtain ⟨a1, a2, a3⟩ := x2 f hf hf3
    exact ⟨by rw [e (3 + 5 * f) (by omega) (by omega) (by omega)]; exact a1, by rw [e (6 + 5 * f + 1) (by omega) (by omega) (by omega)]; exact a2, fun k hk => by rw [e (21 + 14 * k + 4 * f) (by omega) (by omega) (by omega)]; exact a3 k hk⟩
  · rw [e (75) (by omega) (by omega) (by omega), e (0) (by omega) (by omega) (by omega)]
    exact x3
theorem st_tamper (g : jG) (hb : jaN g < 2 ^ 31) {V : Nat → Nat → Nat} {L : Nat → Nat → Int64} {i : Nat} (hV : jInv V L) (hi : i + 6 ≤ jaN g) : jGo g jInv V L i 732 := by
  intro kC kS Q k n hk hn kk
  obtain ⟨hI, hR, hX⟩ := id hV
  have hN := jN_of hI hR
  have h3 := hI.F
  have kk0 := fun x => kk (vu V 85 0 x) L k n (jInv_t x hV) (by omega) (by omega)
  have kk1 := fun x z => kk (vu V 85 0 x) (jupL L 103 0 z) (k + 1) (n + 6) (jInv_o z (jInv_t x hV)) (by omega) (by omega)
  have kk2 := fun x => kk (vu V 85 0 x) L (k + 1) (n + 6) (jInv_t x hV) (by omega) (by omega)
  have hp := hI.ps
  by_cases h : V 75 0 = 0 ∨ isn 5 (jxs g (i + 1)) = 0 ∨ hsn (jxs g (i + 2)) = 0
  · refine law_tamper g kC kS Q V L k n i hk hn hi hb V _ L L (nI 0) (n_D_tamper g V L hI _ _ h) (n_M_tamper g V L hN _ _ ?_) (kk0 0)
    rcases h with h | h
    · exact Or.inl (hR.p0 h)
    · exact Or.inr h
  · obtain ⟨h1, h2⟩ := not_or.mp h
    obtain ⟨h2, h4⟩ := not_or.mp h2
    obtain ⟨j, hj, ej⟩ := isn_of (by decide) h2
    obtain ⟨d, hd, ed⟩ := hsn_of h4
    have e13 := hR.p1 (by omega)
    refine law_tamper g kC kS Q V L k n i hk hn hi hb (vu V 78 j (fpl (V 78 j) d)) _ L L (nI 1) ?_ ?_ (kk _ L k n (inv_tamper hV hj (fpl_lt (V 78 j) d)) (by omega) (by omega))
    · rw [ej, ed]
      exact c_D_tamper g V L hI (by omega) j hj d hd
    · rw [ej, ed]
      have e := c_M_tamper g (vu V 78 j (fpl (V 78 j) d)) L (jN_c (fun a h1 _ => vu_nq _ _ _ (by omega)) hN) (by rw [vu_nq _ _ _ (by decide)]; omega) j hj d hd
      rw [vu_nq V (a := 97) j _ (by decide), hR.pa j hj] at e
      exact e
theorem inv_change {V : Nat → Nat → Nat} {L : Nat → Nat → Int64} (hV : jInv V L) {c d y w : Nat} (hc : c < 4) (hd : d < 3) (hy : y < 120) (hw : w < 2147483647) : jInv (vu (vu (vu V (22 + 14 * c + 4 * d + 1) y w) 85 0 0) 90 (360 * c + 120 * d + y) w) (L) := by
  obtain ⟨hI, hR, hX⟩ := hV
  have h3 := hI.F
  obtain ⟨i1, i2, i3, i4, i5, i6, i7, i8, i9⟩ := id hI
  obtain ⟨x1, x2, x3⟩ := id hX
  obtain ⟨⟨r1, r2, r3, r4⟩, r5, r6, r7, r8, r9, r10⟩ := id hR
  have e : ∀ a, a ≠ 22 + 14 * c + 4 * d + 1 → a ≠ 85 → a ≠ 90 → (vu (vu (vu V (22 + 14 * c + 4 * d + 1) y w) 85 0 0) 90 (360 * c + 120 * d + y) w) a = V a := fun a n1 n2 n3 => by rw [vu_nq _ _ _ n3, vu_nq _ _ _ n2, vu_nq _ _ _ n1]
  have e85 : ∀ x, x ≠ 0 → (vu (vu (vu V (22 + 14 * c + 4 * d + 1) y w) 85 0 0) 90 (360 * c + 120 * d + y) w) 85 x = V 85 x := fun x hx => by rw [vu_nq _ _ _ (by decide)]; exact (if_neg (fun z => hx z.2)).trans (by rw [vu_nq _ _ _ (by omega)])
  have e1 : ∀ q x, q < 85 → (vu (vu (vu V (22 + 14 * c + 4 * d + 1) y w) 85 0 0) 90 (360 * c + 120 * d + y) w) q x = vu V (22 + 14 * c + 4 * d + 1) y w q x := fun q x hq => by rw [vu_nq _ _ _ (by omega), vu_nq _ _ _ (by omega)]
  have e2 : ∀ x, (vu (vu (vu V (22 + 14 * c + 4 * d + 1) y w) 85 0 0) 90 (360 * c + 120 * d + y) w) 90 x = if x = 360 * c + 120 * d + y then w else V 90 x := fun x => by
    by_cases h : x = 360 * c + 120 * d + y
    · rw [if_pos h]
      exact if_pos ⟨rfl, h⟩
    · rw [if_neg h]
      exact (if_neg (fun z => h z.2)).trans (by rw [vu_nq _ _ _ (by decide), vu_nq _ _ _ (by omega)])
  refine ⟨⟨?_, ?_, ?_, ?_, fun f hf => ?_, fun k hk f hf => ?_, ?_, ?_, ?_⟩, ⟨⟨?_, ?_, fun f hf => ?_, fun f hf => ?_⟩, fun k hk f hf => ?_, fun k hk => ?_, ?_, ?_, ?_, ?_⟩, fun f hf => ?_, fun f hf hf3 => ?_, ?_⟩
  · rw [e (0) (by omega) (by omega) (by omega)]
    exact i1
  · rw [e (0) (by omega) (by omega) (by omega)]
    exact i2
  · rw [e (0) (by omega) (by omega) (by omega)]
    exact i3
  · rw [e (1) (by omega) (by omega) (by omega)]
    exact i4
  · rw [e (3 + 5 * f) (by omega) (by omega) (by omega), e (4 + 5 * f) (by omega) (by omega) (by omega), e (5 + 5 * f) (by omega) (by omega) (by omega), e (6 + 5 * f + 1) (by omega) (by omega) (by omega)]
    exact i5 f hf
  · rw [e (21 + 14 * k + 4 * f) (by omega) (by omega) (by omega), e (24 + 14 * k + 4 * f) (by omega) (by omega) (by omega)]
    obtain ⟨a1, a2, a3⟩ := i6 k hk f hf
    refine ⟨a1, a2, fun x hx => ?_⟩
    rw [e1 _ _ (by omega)]
    unfold vu
    split
    · exact hw
    · exact a3 x hx
  · rw [e (75) (by omega) (by omega) (by omega), e (76) (by omega) (by omega) (by omega), e (77) (by omega) (by omega) (by omega), e (78) (by omega) (by omega) (by omega), e (79) (by omega) (by omega) (by omega)]
    exact i7
  · rw [e (83) (by omega) (by omega) (by omega)]
    exact i8
  · rw [e (84) (by omega) (by omega) (by omega)]
    exact i9
  · rw [e85 4 (by omega), e (0) (by omega) (by omega) (by omega)]
    exact r1
  · rw [e (86) (by omega) (by omega) (by omega), e (1) (by omega) (by omega) (by omega)]
    exact r2
  · rw [e (87) (by omega) (by omega) (by omega), e (3 + 5 * f) (by omega) (by omega) (by omega)]
    exact r3 f hf
  · rw [e (88) (by omega) (by omega) (by omega), e (6 + 5 * f + 1) (by omega) (by omega) (by omega)]
    exact r4 f hf
  · rw [e (89) (by omega) (by omega) (by omega), e (91) (by omega) (by omega) (by omega), e (21 + 14 * k + 4 * f) (by omega) (by omega) (by omega), e (24 + 14 * k + 4 * f) (by omega) (by omega) (by omega)]
    obtain ⟨a1, a2, a3⟩ := r5 k hk f hf
    refine ⟨a1, fun x hx => ?_, a3⟩
    rw [e2, e1 (22 + 14 * k + 4 * f + 1) x (by omega)]
    unfold vu
    by_cases h : 22 + 14 * k + 4 * f + 1 = 22 + 14 * c + 4 * d + 1 ∧ x = y
    · rw [if_pos h, if_pos (by omega)]
    · rw [if_neg h, if_neg (by omega)]
      exact a2 x hx
  · rw [e (92) (by omega) (by omega) (by omega), e (93) (by omega) (by omega) (by omega), e (94) (by omega) (by omega) (by omega), e (19 + 14 * k) (by omega) (by omega) (by omega)]
    exact r6 k hk
  · rw [e85 13 (by omega), e85 14 (by omega), e85 15 (by omega), e (95) (by omega) (by omega) (by omega), e (96) (by omega) (by omega) (by omega), e (97) (by omega) (by omega) (by omega), e (75) (by omega) (by omega) (by omega), e (76) (by omega) (by omega) (by omega), e (77) (by omega) (by omega) (by omega), e (78) (by omega) (by omega) (by omega)]
    exact r7
  · rw [e85 19 (by omega), e85 21 (by omega), e (98) (by omega) (by omega) (by omega), e (99) (by omega) (by omega) (by omega), e (0) (by omega) (by omega) (by omega), e (80) (by omega) (by omega) (by omega), e (81) (by omega) (by omega) (by omega)]
    exact r8
  · exact r9
  · exact r10
  · rw [e 0 (by omega) (by omega) (by omega)] at hf
    rw [e (4 + 5 * f) (by omega) (by omega) (by omega), e (5 + 5 * f) (by omega) (by omega) (by omega)]
    exact x1 f hf
  · rw [e 0 (by omega) (by omega) (by omega)] at hf
    obtain ⟨a1, a2, a3⟩ := x2 f hf hf3
    exact ⟨by rw [e (3 + 5 * f) (by omega) (by omega) (by omega)]; exact a1, by rw [e (6 + 5 * f + 1) (by omega) (by omega) (by omega)]; exact a2, fun k hk => by rw [e (21 + 14 * k + 4 * f) (by omega) (by omega) (by omega)]; exact a3 k hk⟩
  · rw [e (75) (by omega) (by omega) (by omega), e (0) (by omega) (by omega) (by omega)]
    exact x3
theorem st_change (g : jG) (hb : jaN g < 2 ^ 31) {V : Nat → Nat → Nat} {L : Nat → Nat → Int64} {i : Nat} (hV : jInv V L) (hi : i + 6 ≤ jaN g) : jGo g jInv V L i 499 := by
  intro kC kS Q k n hk hn kk
  obtain ⟨hI, hR, hX⟩ := id hV
  have hN := jN_of hI hR
  have h3 := hI.F
  have kk0 := fun x => kk (vu V 85 0 x) L k n (jInv_t x hV) (by omega) (by omega)
  have kk1 := fun x z => kk (vu V 85 0 x) (jupL L 103 0 z) (k + 1) (n + 6) (jInv_o z (jInv_t x hV)) (by omega) (by omega)
  have kk2 := fun x => kk (vu V 85 0 x) L (k + 1) (n + 6) (jInv_t x hV) (by omega) (by omega)
  have hkk := kpr_mrw hI hR (jxs g (i + 1)) (jxs g (i + 2)) (jxs g (i + 3))
  by_cases h : kpr V (jxs g (i + 1)) (jxs g (i + 2)) (jxs g (i + 3)) = 0 ∨ isn 5 (jxs g (i + 4)) = 0 ∨ hsn (jxs g (i + 5)) = 0
  · exact law_change g kC kS Q V L k n i hk hn hi hb V _ L L 1 (by omega) (wt1_change g V L _ _ _ _ _ V L (t1_D_change g V L hI _ _ _ _ _ h)) (nI 0) (n1_M_change g V L hN _ _ _ _ _ (by rw [hkk.1]; exact h)) rfl (fun h => by omega) (kk2 1)
  · obtain ⟨h1, h2⟩ := not_or.mp h
    obtain ⟨h2, h4⟩ := not_or.mp h2
    obtain ⟨c, f, r, hc, hf, hr, ek, ef, er, hh⟩ := kpr_of hI h1
    obtain ⟨j, hj, ej⟩ := isn_of (by decide) h2
    obtain ⟨d, hd, ed⟩ := hsn_of h4
    have hrc := hI.rc (show f < 3 by omega)
    have hwd := hI.w (show f < 3 by omega)
    have hmf : f < V 85 4 := by rw [hR.F]; exact hf
    have hmr : r < mrs V f := by rw [hR.rs hI (by omega)]; exact hr
    have hmh : V 89 (3 * c + f) = 1 := by rw [hR.hs hc (by omega)]; exact hh
    have hls := hI.ls hc (show f < 3 by omega) r (by omega)
    have eml := hR.ls hc (show f < 3 by omega) (show r < 24 by omega)
    by_cases hl : V (24 + 14 * c + 4 * f) r = 1
    · refine law_change g kC kS Q V L k n i hk hn hi hb V _ L L 2 (by omega) ?_ (nI 0) ?_ rfl (fun h => by omega) (kk2 2)
      · rw [ek, ef, er, ej, ed]
        exact wt0_change g V L _ _ _ _ _ V L (t0_D_change g V L hI c hc f hf r hr hh hl j hj d hd)
      · rw [ek, ef, er, ej, ed]
        exact n2_M_change g V L hN c f hc hmf r hmr hmh (by rw [eml]; exact hl) j hj d hd
    · have ekp := hR.kp hc (show f < 3 by omega) (show r < 24 by omega) hj
      generalize hx : V (22 + 14 * c + 4 * f + 1) (r * 5 + j) = x0 at ekp
      have hIv := inv_change (y := r * 5 + j) hV hc (show f < 3 by omega) (by omega) (fpl_lt x0 d)
      rw [show 360 * c + 120 * f + (r * 5 + j) = 360 * c + 5 * (24 * f + r) + j from by omega] at hIv
      refine law_change g kC kS Q V L k n i hk hn hi hb (vu V (22 + 14 * c + 4 * f + 1) (r * 5 + j) (fpl x0 d)) _ (jupL L 103 0 (nI (fpl x0 d)).toInt64) _ 0 (by omega) ?_ (nI (fpl x0 d)) ?_ rfl (fun _ => ?_) (kk _ _ _ _ (jInv_o (nI (fpl x0 d)).toInt64 hIv) (by omega) (by omega))
      · rw [ek, ef, er, ej, ed, ← hx]
        exact w_change g V L _ _ _ _ _ _ L _ (c_D_change g V L hI c hc f hf r hr hh (by omega) j hj d hd)
      · rw [ek, ef, er, ej, ed]
        have e := c_M_change g (vu V (22 + 14 * c + 4 * f + 1) (r * 5 + j) (fpl x0 d)) (jupL L 103 0 (nI (fpl x0 d)).toInt64) (jN_c (fun a h1 _ => vu_nq _ _ _ (by omega)) hN) c f hc (by rw [vu_nq _ _ _ (by omega)]; exact hmf) r (by unfold mrs; rw [vu_nq _ _ _ (by omega)]; exact hmr) (by rw [vu_nq _ _ _ (by omega)]; exact hmh) (by rw [vu_nq _ _ _ (by omega), eml]; omega) j hj d hd
        rw [vu_nq V (a := 90) _ _ (by omega), ekp] at e
        exact e
      · rw [jupL_q]
        exact if_pos rfl
