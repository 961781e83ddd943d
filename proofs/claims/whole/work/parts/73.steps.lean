/-! rounds that change: lose, judge, locate -/
theorem inv_lose {V : Nat → Nat → Nat} {L : Nat → Nat → Int64} (hV : jInv V L) {c d r : Nat} (hc : c < 4) (hd : d < 3) (hr : r < 24) : jInv (mls (vu (vu (clr (vu V (24 + 14 * c + 4 * d) r 1) (22 + 14 * c + 4 * d) r) 85 0 0) 91 (72 * c + 24 * d + r) 1) c d r 5) (L) := by
  obtain ⟨hI, hR, hX⟩ := hV
  have h3 := hI.F
  obtain ⟨i1, i2, i3, i4, i5, i6, i7, i8, i9⟩ := id hI
  obtain ⟨x1, x2, x3⟩ := id hX
  obtain ⟨⟨r1, r2, r3, r4⟩, r5, r6, r7, r8, r9, r10⟩ := id hR
  have e : ∀ a, a ≠ 24 + 14 * c + 4 * d → a ≠ 22 + 14 * c + 4 * d + 1 → a ≠ 85 → a ≠ 90 → a ≠ 91 → (mls (vu (vu (clr (vu V (24 + 14 * c + 4 * d) r 1) (22 + 14 * c + 4 * d) r) 85 0 0) 91 (72 * c + 24 * d + r) 1) c d r 5) a = V a := fun a n1 n2 n3 n4 n5 => by
    funext x
    show (if a = 90 ∧ _ then 0 else vu (vu (clr (vu V (24 + 14 * c + 4 * d) r 1) (22 + 14 * c + 4 * d) r) 85 0 0) 91 (72 * c + 24 * d + r) 1 a x) = _
    rw [if_neg (fun z => n4 z.1), vu_nq _ _ _ n5, vu_nq _ _ _ n3, clr_nq n2, vu_nq _ _ _ n1]
  have e85 : ∀ x, x ≠ 0 → (mls (vu (vu (clr (vu V (24 + 14 * c + 4 * d) r 1) (22 + 14 * c + 4 * d) r) 85 0 0) 91 (72 * c + 24 * d + r) 1) c d r 5) 85 x = V 85 x := fun x hx => by
    show (if 85 = 90 ∧ _ then 0 else vu (vu (clr (vu V (24 + 14 * c + 4 * d) r 1) (22 + 14 * c + 4 * d) r) 85 0 0) 91 (72 * c + 24 * d + r) 1 85 x) = _
    rw [if_neg (fun z => absurd z.1 (by decide)), vu_nq _ _ _ (by decide)]
    exact (if_neg (fun z => hx z.2)).trans (by rw [clr_nq (by omega), vu_nq _ _ _ (by omega)])
  have eL : ∀ q x, q < 85 → (mls (vu (vu (clr (vu V (24 + 14 * c + 4 * d) r 1) (22 + 14 * c + 4 * d) r) 85 0 0) 91 (72 * c + 24 * d + r) 1) c d r 5) q x = (clr (vu V (24 + 14 * c + 4 * d) r 1) (22 + 14 * c + 4 * d) r) q x := fun q x hq => by
    show (if q = 90 ∧ _ then 0 else vu (vu (clr (vu V (24 + 14 * c + 4 * d) r 1) (22 + 14 * c + 4 * d) r) 85 0 0) 91 (72 * c + 24 * d + r) 1 q x) = _
    rw [if_neg (fun z => absurd z.1 (by omega)), vu_nq _ _ _ (by omega), vu_nq _ _ _ (by omega)]
  have e90 : ∀ x, (mls (vu (vu (clr (vu V (24 + 14 * c + 4 * d) r 1) (22 + 14 * c + 4 * d) r) 85 0 0) 91 (72 * c + 24 * d + r) 1) c d r 5) 90 x = if 360 * c + 5 * (24 * d + r) ≤ x ∧ x < 360 * c + 5 * (24 * d + r) + 5 then 0 else V 90 x := fun x => by
    show (if 90 = 90 ∧ _ then 0 else vu (vu (clr (vu V (24 + 14 * c + 4 * d) r 1) (22 + 14 * c + 4 * d) r) 85 0 0) 91 (72 * c + 24 * d + r) 1 90 x) = _
    rw [vu_nq _ _ _ (by decide), vu_nq _ _ _ (by decide), clr_nq (by omega), vu_nq _ _ _ (by omega)]
    by_cases h : 360 * c + 5 * (24 * d + r) ≤ x ∧ x < 360 * c + 5 * (24 * d + r) + 5
    · rw [if_pos ⟨rfl, h⟩, if_pos h]
    · rw [if_neg (fun z => h z.2), if_neg h]
  have e91 : ∀ x, (mls (vu (vu (clr (vu V (24 + 14 * c + 4 * d) r 1) (22 + 14 * c + 4 * d) r) 85 0 0) 91 (72 * c + 24 * d + r) 1) c d r 5) 91 x = if x = 72 * c + 24 * d + r then 1 else V 91 x := fun x => by
    show (if 91 = 90 ∧ _ then 0 else vu (vu (clr (vu V (24 + 14 * c + 4 * d) r 1) (22 + 14 * c + 4 * d) r) 85 0 0) 91 (72 * c + 24 * d + r) 1 91 x) = _
    rw [if_neg (fun z => absurd z.1 (by decide))]
    by_cases h : x = 72 * c + 24 * d + r
    · rw [if_pos h]
      exact if_pos ⟨rfl, h⟩
    · rw [if_neg h]
      exact (if_neg (fun z => h z.2)).trans (by rw [vu_nq _ _ _ (by decide), clr_nq (by omega), vu_nq _ _ _ (by omega)])
  have eN : ∀ k f x, k < 4 → f < 3 → (mls (vu (vu (clr (vu V (24 + 14 * c + 4 * d) r 1) (22 + 14 * c + 4 * d) r) 85 0 0) 91 (72 * c + 24 * d + r) 1) c d r 5) (22 + 14 * k + 4 * f + 1) x = if 22 + 14 * k + 4 * f + 1 = 22 + 14 * c + 4 * d + 1 ∧ r * 5 ≤ x ∧ x < r * 5 + 5 then 0 else V (22 + 14 * k + 4 * f + 1) x := fun k f x hk hf => by
    rw [eL _ _ (by omega)]
    show (if _ then 0 else vu V (24 + 14 * c + 4 * d) r 1 (22 + 14 * k + 4 * f + 1) x) = _
    rw [vu_nq _ _ _ (by omega)]
  have eT : ∀ k f x, k < 4 → f < 3 → (mls (vu (vu (clr (vu V (24 + 14 * c + 4 * d) r 1) (22 + 14 * c + 4 * d) r) 85 0 0) 91 (72 * c + 24 * d + r) 1) c d r 5) (24 + 14 * k + 4 * f) x = if 24 + 14 * k + 4 * f = 24 + 14 * c + 4 * d ∧ x = r then 1 else V (24 + 14 * k + 4 * f) x := fun k f x hk hf => by
    rw [eL _ _ (by omega), clr_nq (by omega)]
    rfl
  refine ⟨⟨?_, ?_, ?_, ?_, fun f hf => ?_, fun k hk f hf => ?_, ?_, ?_, ?_⟩, ⟨⟨?_, ?_, fun f hf => ?_, fun f hf => ?_⟩, fun k hk f hf => ?_, fun k hk => ?_, ?_, ?_, ?_, ?_⟩, fun f hf => ?_, fun f hf hf3 => ?_, ?_⟩
  · rw [e (0) (by omega) (by omega) (by omega) (by omega) (by omega)]
    exact i1
  · rw [e (0) (by omega) (by omega) (by omega) (by omega) (by omega)]
    exact i2
  · rw [e (0) (by omega) (by omega) (by omega) (by omega) (by omega)]
    exact i3
  · rw [e (1) (by omega) (by omega) (by omega) (by omega) (by omega)]
    exact i4
  · rw [e (3 + 5 * f) (by omega) (by omega) (by omega) (by omega) (by omega), e (4 + 5 * f) (by omega) (by omega) (by omega) (by omega) (by omega), e (5 + 5 * f) (by omega) (by omega) (by omega) (by omega) (by omega), e (6 + 5 * f + 1) (by omega) (by omega) (by omega) (by omega) (by omega)]
    exact i5 f hf
  · rw [e (21 + 14 * k + 4 * f) (by omega) (by omega) (by omega) (by omega) (by omega)]
    obtain ⟨a1, a2, a3⟩ := i6 k hk f hf
    refine ⟨a1, fun x hx => ?_, fun x hx => ?_⟩
    · rw [eT k f x hk hf]
      split
      · omega
      · exact a2 x hx
    · rw [eN k f x hk hf]
      split
      · omega
      · exact a3 x hx
  · rw [e (75) (by omega) (by omega) (by omega) (by omega) (by omega), e (76) (by omega) (by omega) (by omega) (by omega) (by omega), e (77) (by omega) (by omega) (by omega) (by omega) (by omega), e (78) (by omega) (by omega) (by omega) (by omega) (by omega), e (79) (by omega) (by omega) (by omega) (by omega) (by omega)]
    exact i7
  · rw [e (83) (by omega) (by omega) (by omega) (by omega) (by omega)]
    exact i8
  · rw [e (84) (by omega) (by omega) (by omega) (by omega) (by omega)]
    exact i9
  · rw [e85 4 (by omega), e (0) (by omega) (by omega) (by omega) (by omega) (by omega)]
    exact r1
  · rw [e (86) (by omega) (by omega) (by omega) (by omega) (by omega), e (1) (by omega) (by omega) (by omega) (by omega) (by omega)]
    exact r2
  · rw [e (87) (by omega) (by omega) (by omega) (by omega) (by omega), e (3 + 5 * f) (by omega) (by omega) (by omega) (by omega) (by omega)]
    exact r3 f hf
  · rw [e (88) (by omega) (by omega) (by omega) (by omega) (by omega), e (6 + 5 * f + 1) (by omega) (by omega) (by omega) (by omega) (by omega)]
    exact r4 f hf
  · rw [e (89) (by omega) (by omega) (by omega) (by omega) (by omega), e (21 + 14 * k + 4 * f) (by omega) (by omega) (by omega) (by omega) (by omega)]
    obtain ⟨a1, a2, a3⟩ := r5 k hk f hf
    refine ⟨a1, fun x hx => ?_, fun x hx => ?_⟩
    · rw [e90, eN k f x hk hf]
      by_cases h : 22 + 14 * k + 4 * f + 1 = 22 + 14 * c + 4 * d + 1 ∧ r * 5 ≤ x ∧ x < r * 5 + 5
      · rw [if_pos h, if_pos (by omega)]
      · rw [if_neg h, if_neg (by omega)]
        exact a2 x hx
    · rw [e91, eT k f x hk hf]
      by_cases h : 24 + 14 * k + 4 * f = 24 + 14 * c + 4 * d ∧ x = r
      · rw [if_pos h, if_pos (by omega)]
      · rw [if_neg h, if_neg (by omega)]
        exact a3 x hx
  · rw [e (92) (by omega) (by omega) (by omega) (by omega) (by omega), e (93) (by omega) (by omega) (by omega) (by omega) (by omega), e (94) (by omega) (by omega) (by omega) (by omega) (by omega), e (19 + 14 * k) (by omega) (by omega) (by omega) (by omega) (by omega)]
    exact r6 k hk
  · rw [e85 13 (by omega), e85 14 (by omega), e85 15 (by omega), e (95) (by omega) (by omega) (by omega) (by omega) (by omega), e (96) (by omega) (by omega) (by omega) (by omega) (by omega), e (97) (by omega) (by omega) (by omega) (by omega) (by omega), e (75) (by omega) (by omega) (by omega) (by omega) (by omega), e (76) (by omega) (by omega) (by omega) (by omega) (by omega), e (77) (by omega) (by omega) (by omega) (by omega) (by omega), e (78) (by omega) (by omega) (by omega) (by omega) (by omega)]
    exact r7
  · rw [e85 19 (by omega), e85 21 (by omega), e (98) (by omega) (by omega) (by omega) (by omega) (by omega), e (99) (by omega) (by omega) (by omega) (by omega) (by omega), e (0) (by omega) (by omega) (by omega) (by omega) (by omega), e (80) (by omega) (by omega) (by omega) (by omega) (by omega), e (81) (by omega) (by omega) (by omega) (by omega) (by omega)]
    exact r8
  · exact r9
  · exact r10
  · rw [e 0 (by omega) (by omega) (by omega) (by omega) (by omega)] at hf
    rw [e (4 + 5 * f) (by omega) (by omega) (by omega) (by omega) (by omega), e (5 + 5 * f) (by omega) (by omega) (by omega) (by omega) (by omega)]
    exact x1 f hf
  · rw [e 0 (by omega) (by omega) (by omega) (by omega) (by omega)] at hf
    obtain ⟨a1, a2, a3⟩ := x2 f hf hf3
    exact ⟨by rw [e (3 + 5 * f) (by omega) (by omega) (by omega) (by omega) (by omega)]; exact a1, by rw [e (6 + 5 * f + 1) (by omega) (by omega) (by omega) (by omega) (by omega)]; exact a2, fun k hk => by rw [e (21 + 14 * k + 4 * f) (by omega) (by omega) (by omega) (by omega) (by omega)]; exact a3 k hk⟩
  · rw [e (75) (by omega) (by omega) (by omega) (by omega) (by omega), e (0) (by omega) (by omega) (by omega) (by omega) (by omega)]
    exact x3
theorem st_lose (g : jG) (hb : jaN g < 2 ^ 31) {V : Nat → Nat → Nat} {L : Nat → Nat → Int64} {i : Nat} (hV : jInv V L) (hi : i + 6 ≤ jaN g) : jGo g jInv V L i 412 := by
  intro kC kS Q k n hk hn kk
  obtain ⟨hI, hR, hX⟩ := id hV
  have hN := jN_of hI hR
  have h3 := hI.F
  have kk0 := fun x => kk (vu V 85 0 x) L k n (jInv_t x hV) (by omega) (by omega)
  have kk1 := fun x z => kk (vu V 85 0 x) (jupL L 103 0 z) (k + 1) (n + 6) (jInv_o z (jInv_t x hV)) (by omega) (by omega)
  have kk2 := fun x => kk (vu V 85 0 x) L (k + 1) (n + 6) (jInv_t x hV) (by omega) (by omega)
  have hkk := kpr_mrw hI hR (jxs g (i + 1)) (jxs g (i + 2)) (jxs g (i + 3))
  by_cases h1 : kpr V (jxs g (i + 1)) (jxs g (i + 2)) (jxs g (i + 3)) = 0
  · exact law_lose g kC kS Q V L k n i hk hn hi hb V _ L L 1 (by omega) (wt1_lose g V L _ _ _ V L (t1_D_lose g V L hI _ _ _ h1)) 0 (by omega) (n_M_lose g V L hN _ _ _ (by rw [hkk.1]; exact h1)) rfl (fun h => by omega) (kk2 1)
  · obtain ⟨c, f, r, hc, hf, hr, ek, ef, er, hh⟩ := kpr_of hI h1
    have hrc := hI.rc (show f < 3 by omega)
    have hwd := hI.w (show f < 3 by omega)
    have hmf : f < V 85 4 := by rw [hR.F]; exact hf
    have hmr : r < mrs V f := by rw [hR.rs hI (by omega)]; exact hr
    have hmh : V 89 (3 * c + f) = 1 := by rw [hR.hs hc (by omega)]; exact hh
    have hls := hI.ls hc (show f < 3 by omega) r (by omega)
    have eml := hR.ls hc (show f < 3 by omega) (show r < 24 by omega)
    by_cases hl : V (24 + 14 * c + 4 * f) r = 1
    · refine law_lose g kC kS Q V L k n i hk hn hi hb V _ (jupL L 103 0 (lN 0)) _ 0 (by omega) ?_ 0 (by omega) ?_ rfl (fun _ => ?_) (kk1 0 (lN 0))
      · rw [ek, ef, er]
        exact w_lose g V L _ _ _ V L 0 (by omega) (c0_D_lose g V L hI c hc f hf r hr hh hl)
      · rw [ek, ef, er]
        exact c0_M_lose g V _ hN c f hc hmf r hmr hmh (by rw [eml]; exact hl)
      · rw [jupL_q]
        exact if_pos rfl
    · have nq : ∀ a, 85 ≤ a → clr (vu V (24 + 14 * c + 4 * f) r 1) (22 + 14 * c + 4 * f) r a = V a := fun a ha => by rw [clr_nq (by omega), vu_nq _ _ _ (by omega)]
      refine law_lose g kC kS Q V L k n i hk hn hi hb (clr (vu V (24 + 14 * c + 4 * f) r 1) (22 + 14 * c + 4 * f) r) _ (jupL L 103 0 (lN 1)) _ 0 (by omega) ?_ 1 (by omega) ?_ ?_ (fun _ => ?_) (kk _ _ _ _ (jInv_o (lN 1) (inv_lose hV hc (show f < 3 by omega) (show r < 24 by omega))) (by omega) (by omega))
      · rw [ek, ef, er]
        exact w_lose g V L _ _ _ _ L 1 (by omega) (c1_D_lose g V L hI c hc f hf r hr hh (by omega))
      · rw [ek, ef, er]
        exact c1_M_lose g _ _ (jN_c (fun a h1 _ => nq a h1) hN) c f hc (by rw [nq 85 (by omega)]; exact hmf) r (by unfold mrs; rw [nq 87 (by omega)]; exact hmr) (by rw [nq 89 (by omega)]; exact hmh) (by rw [nq 91 (by omega), eml]; omega)
      · rfl
      · rw [jupL_q]
        exact if_pos rfl
theorem inv_judge {V : Nat → Nat → Nat} {L : Nat → Nat → Int64} (hV : jInv V L) {c t b : Nat} (hc : c < 4) (ht : (t = 1 ∧ b = 1) ∨ (t = 2 ∧ b = 0)) : jInv (vu (vu (vu (vu V (19 + 14 * c) t (V (19 + 14 * c) t + 1)) 85 0 0) 92 c (V 92 c + b)) 93 c (V 93 c + (1 - b))) (L) := by
  obtain ⟨hI, hR, hX⟩ := hV
  have h3 := hI.F
  obtain ⟨i1, i2, i3, i4, i5, i6, i7, i8, i9⟩ := id hI
  obtain ⟨x1, x2, x3⟩ := id hX
  obtain ⟨⟨r1, r2, r3, r4⟩, r5, r6, r7, r8, r9, r10⟩ := id hR
  have e : ∀ a, a ≠ 19 + 14 * c → a ≠ 85 → a ≠ 92 → a ≠ 93 → (vu (vu (vu (vu V (19 + 14 * c) t (V (19 + 14 * c) t + 1)) 85 0 0) 92 c (V 92 c + b)) 93 c (V 93 c + (1 - b))) a = V a := fun a n1 n2 n3 n4 => by rw [vu_nq _ _ _ n4, vu_nq _ _ _ n3, vu_nq _ _ _ n2, vu_nq _ _ _ n1]
  have e85 : ∀ x, x ≠ 0 → (vu (vu (vu (vu V (19 + 14 * c) t (V (19 + 14 * c) t + 1)) 85 0 0) 92 c (V 92 c + b)) 93 c (V 93 c + (1 - b))) 85 x = V 85 x := fun x hx => by rw [vu_nq _ _ _ (by decide), vu_nq _ _ _ (by decide)]; exact (if_neg (fun z => hx z.2)).trans (by rw [vu_nq _ _ _ (by omega)])
  have e92 : ∀ x, (vu (vu (vu (vu V (19 + 14 * c) t (V (19 + 14 * c) t + 1)) 85 0 0) 92 c (V 92 c + b)) 93 c (V 93 c + (1 - b))) 92 x = if x = c then V 92 c + b else V 92 x := fun x => by
    rw [vu_nq _ _ _ (by decide)]
    by_cases h : x = c
    · rw [if_pos h]
      exact if_pos ⟨rfl, h⟩
    · rw [if_neg h]
      exact (if_neg (fun z => h z.2)).trans (by rw [vu_nq _ _ _ (by decide), vu_nq _ _ _ (by omega)])
  have e93 : ∀ x, (vu (vu (vu (vu V (19 + 14 * c) t (V (19 + 14 * c) t + 1)) 85 0 0) 92 c (V 92 c + b)) 93 c (V 93 c + (1 - b))) 93 x = if x = c then V 93 c + (1 - b) else V 93 x := fun x => by
    by_cases h : x = c
    · rw [if_pos h]
      exact if_pos ⟨rfl, h⟩
    · rw [if_neg h]
      exact (if_neg (fun z => h z.2)).trans (by rw [vu_nq _ _ _ (by decide), vu_nq _ _ _ (by decide), vu_nq _ _ _ (by omega)])
  have eK : ∀ k x, k < 4 → (vu (vu (vu (vu V (19 + 14 * c) t (V (19 + 14 * c) t + 1)) 85 0 0) 92 c (V 92 c + b)) 93 c (V 93 c + (1 - b))) (19 + 14 * k) x = if k = c ∧ x = t then V (19 + 14 * c) t + 1 else V (19 + 14 * k) x := fun k x hk => by
    rw [vu_nq _ _ _ (by omega), vu_nq _ _ _ (by omega), vu_nq _ _ _ (by omega)]
    by_cases h : k = c ∧ x = t
    · rw [if_pos h]
      exact if_pos (by omega)
    · rw [if_neg h]
      exact if_neg (by omega)
  refine ⟨⟨?_, ?_, ?_, ?_, fun f hf => ?_, fun k hk f hf => ?_, ?_, ?_, ?_⟩, ⟨⟨?_, ?_, fun f hf => ?_, fun f hf => ?_⟩, fun k hk f hf => ?_, fun k hk => ?_, ?_, ?_, ?_, ?_⟩, fun f hf => ?_, fun f hf hf3 => ?_, ?_⟩
  · rw [e (0) (by omega) (by omega) (by omega) (by omega)]
    exact i1
  · rw [e (0) (by omega) (by omega) (by omega) (by omega)]
    exact i2
  · rw [e (0) (by omega) (by omega) (by omega) (by omega)]
    exact i3
  · rw [e (1) (by omega) (by omega) (by omega) (by omega)]
    exact i4
  · rw [e (3 + 5 * f) (by omega) (by omega) (by omega) (by omega), e (4 + 5 * f) (by omega) (by omega) (by omega) (by omega), e (5 + 5 * f) (by omega) (by omega) (by omega) (by omega), e (6 + 5 * f + 1) (by omega) (by omega) (by omega) (by omega)]
    exact i5 f hf
  · rw [e (21 + 14 * k + 4 * f) (by omega) (by omega) (by omega) (by omega), e (24 + 14 * k + 4 * f) (by omega) (by omega) (by omega) (by omega), e (22 + 14 * k + 4 * f + 1) (by omega) (by omega) (by omega) (by omega)]
    exact i6 k hk f hf
  · rw [e (75) (by omega) (by omega) (by omega) (by omega), e (76) (by omega) (by omega) (by omega) (by omega), e (77) (by omega) (by omega) (by omega) (by omega), e (78) (by omega) (by omega) (by omega) (by omega), e (79) (by omega) (by omega) (by omega) (by omega)]
    exact i7
  · rw [e (83) (by omega) (by omega) (by omega) (by omega)]
    exact i8
  · rw [e (84) (by omega) (by omega) (by omega) (by omega)]
    exact i9
  · rw [e85 4 (by omega), e (0) (by omega) (by omega) (by omega) (by omega)]
    exact r1
  · rw [e (86) (by omega) (by omega) (by omega) (by omega), e (1) (by omega) (by omega) (by omega) (by omega)]
    exact r2
  · rw [e (87) (by omega) (by omega) (by omega) (by omega), e (3 + 5 * f) (by omega) (by omega) (by omega) (by omega)]
    exact r3 f hf
  · rw [e (88) (by omega) (by omega) (by omega) (by omega), e (6 + 5 * f + 1) (by omega) (by omega) (by omega) (by omega)]
    exact r4 f hf
  · rw [e (89) (by omega) (by omega) (by omega) (by omega), e (90) (by omega) (by omega) (by omega) (by omega), e (91) (by omega) (by omega) (by omega) (by omega), e (21 + 14 * k + 4 * f) (by omega) (by omega) (by omega) (by omega), e (22 + 14 * k + 4 * f + 1) (by omega) (by omega) (by omega) (by omega), e (24 + 14 * k + 4 * f) (by omega) (by omega) (by omega) (by omega)]
    exact r5 k hk f hf
  · rw [e (94) (by omega) (by omega) (by omega) (by omega)]
    obtain ⟨a1, a2, a3⟩ := r6 k hk
    rw [e92, e93, eK k 1 hk, eK k 2 hk, eK k 3 hk, if_neg (show ¬ (k = c ∧ 3 = t) by omega)]
    by_cases h : k = c
    · subst h
      rw [if_pos rfl, if_pos rfl]
      rcases ht with ⟨rfl, rfl⟩ | ⟨rfl, rfl⟩
      · rw [if_pos ⟨rfl, rfl⟩, if_neg (by omega)]
        exact ⟨by rw [a1], a2, a3⟩
      · rw [if_neg (by omega), if_pos ⟨rfl, rfl⟩]
        exact ⟨a1, by rw [a2], a3⟩
    · rw [if_neg h, if_neg h, if_neg (fun z => h z.1), if_neg (fun z => h z.1)]
      exact ⟨a1, a2, a3⟩
  · rw [e85 13 (by omega), e85 14 (by omega), e85 15 (by omega), e (95) (by omega) (by omega) (by omega) (by omega), e (96) (by omega) (by omega) (by omega) (by omega), e (97) (by omega) (by omega) (by omega) (by omega), e (75) (by omega) (by omega) (by omega) (by omega), e (76) (by omega) (by omega) (by omega) (by omega), e (77) (by omega) (by omega) (by omega) (by omega), e (78) (by omega) (by omega) (by omega) (by omega)]
    exact r7
  · rw [e85 19 (by omega), e85 21 (by omega), e (98) (by omega) (by omega) (by omega) (by omega), e (99) (by omega) (by omega) (by omega) (by omega), e (0) (by omega) (by omega) (by omega) (by omega), e (80) (by omega) (by omega) (by omega) (by omega), e (81) (by omega) (by omega) (by omega) (by omega)]
    exact r8
  · exact r9
  · exact r10
  · rw [e 0 (by omega) (by omega) (by omega) (by omega)] at hf
    rw [e (4 + 5 * f) (by omega) (by omega) (by omega) (by omega), e (5 + 5 * f) (by omega) (by omega) (by omega) (by omega)]
    exact x1 f hf
  · rw [e 0 (by omega) (by omega) (by omega) (by omega)] at hf
    obtain ⟨a1, a2, a3⟩ := x2 f hf hf3
    exact ⟨by rw [e (3 + 5 * f) (by omega) (by omega) (by omega) (by omega)]; exact a1, by rw [e (6 + 5 * f + 1) (by omega) (by omega) (by omega) (by omega)]; exact a2, fun k hk => by rw [e (21 + 14 * k + 4 * f) (by omega) (by omega) (by omega) (by omega)]; exact a3 k hk⟩
  · rw [e (75) (by omega) (by omega) (by omega) (by omega), e (0) (by omega) (by omega) (by omega) (by omega)]
    exact x3
theorem mjs_hdm {V W : Nat → Nat → Nat} {L M : Nat → Nat → Int64} (hV : jInv V L) (hM : M 85 = L 85) (hp : V 75 0 = 1) (h96 : W 96 = V 96) (h95 : W 95 = V 95) (h14 : W 85 14 = V 85 14) : ∀ m, m ≤ V 75 3 → mjs W M m = hdm V (V 75 1) m
  | 0, _ => rfl
  | m + 1, hm => by
    obtain ⟨hI, hR, hX⟩ := id hV
    have hcm := hI.cm
    have e := mjs_hdm hV hM hp h96 h95 h14 m (by omega)
    unfold mjs hdm
    rw [e, h96, h95, h14, hM, hR.pf, (hR.pr m (by omega)).1, (hR.pr m (by omega)).2, hR.k1, hR.k2, (hX.1 (V 75 1) (hX.2.2 hp)).2 (V 76 m) (hI.cr m (by omega))]
theorem mjh_hld {V W : Nat → Nat → Nat} {L M : Nat → Nat → Int64} (hV : jInv V L) (hM : M 85 = L 85) (hp : V 75 0 = 1) (h96 : W 96 = V 96) (h95 : W 95 = V 95) (h97 : W 97 = V 97) (h85 : W 85 = V 85) : mjh W M = hld V (V 75 1) (V 75 3) := by
  obtain ⟨hI, hR, hX⟩ := id hV
  unfold mjh hld
  rw [h85, h97, (hR.p1 hp).1, mjs_hdm hV hM hp h96 h95 (by rw [h85]) _ (Nat.le_refl _), hR.pa 4 (by omega)]
  rw [tgd_eq (m' := hdm V (V 75 1) (V 75 3)) (al' := V (4 + 5 * V 75 1)) (x' := V 78) rfl (fun j hj => by rw [hM, hR.pf, hR.k1, hR.k2, (hX.1 (V 75 1) (hX.2.2 hp)).1 j hj]) (fun j hj => hR.pa j (by omega))]
  by_cases h : tgd (hdm V (V 75 1) (V 75 3)) (V (4 + 5 * V 75 1)) (V 78) = V 78 4
  · rw [if_pos h, if_pos h.symm]
  · rw [if_neg h, if_neg (fun e => h e.symm)]
theorem st_judge (g : jG) (hb : jaN g < 2 ^ 31) {V : Nat → Nat → Nat} {L : Nat → Nat → Int64} {i : Nat} (hV : jInv V L) (hi : i + 6 ≤ jaN g) : jGo g jInv V L i 769 := by
  intro kC kS Q k n hk hn kk
  obtain ⟨hI, hR, hX⟩ := id hV
  have hN := jN_of hI hR
  have h3 := hI.F
  have kk0 := fun x => kk (vu V 85 0 x) L k n (jInv_t x hV) (by omega) (by omega)
  have kk1 := fun x z => kk (vu V 85 0 x) (jupL L 103 0 z) (k + 1) (n + 6) (jInv_o z (jInv_t x hV)) (by omega) (by omega)
  have kk2 := fun x => kk (vu V 85 0 x) L (k + 1) (n + 6) (jInv_t x hV) (by omega) (by omega)
  have hp := hI.ps
  have hck := hI.ck
  by_cases h : V 75 0 = 0
  · exact law_judge g kC kS Q V L k n i hk hn hi hb V _ L L 1 (by omega) (wt0_judge g V L V L (t0_D_judge g V L h)) 0 (by omega) (n_M_judge g V L (hR.p0 h)) rfl (fun h => by omega) (kk2 1)
  · have h1 : V 75 0 = 1 := by omega
    have e13 := hR.p1 h1
    have hl := hld_le V (V 75 1) (V 75 3)
    have go : ∀ t b, ((t = 1 ∧ b = 1) ∨ (t = 2 ∧ b = 0)) → hld V (V 75 1) (V 75 3) = b → jdg V = vu V (19 + 14 * V 75 2) t (V (19 + 14 * V 75 2) t + 1) → jJ (g, Y_W_law, (10, 388), kC, kS, Q) [(0, .ref (jaS g)), (1, .ref (jb g + 0)), (2, .ref (jb g + 85)), (3, .ref (jb g + 103)), (4, .int (nI i))] (jv (g, Y_W_law, (10, 388), kC, kS, Q) V L k n) 769 [] := fun t b ht hb1 hj => by
      have nq : ∀ a, 85 ≤ a → jdg V a = V a := fun a ha => by rw [hj, vu_nq _ _ _ (by omega)]
      have em : mjh (jdg V) (jupL L 103 0 (lN b)) = b := (mjh_hld hV (M := jupL L 103 0 (lN b)) rfl h1 (nq 96 (by omega)) (nq 95 (by omega)) (nq 97 (by omega)) (nq 85 (by omega))).trans hb1
      have eM : mjd (jdg V) (jupL L 103 0 (lN b)) = vu (vu (vu (vu V (19 + 14 * V 75 2) t (V (19 + 14 * V 75 2) t + 1)) 85 0 0) 92 (V 75 2) (V 92 (V 75 2) + b)) 93 (V 75 2) (V 93 (V 75 2) + (1 - b)) := by
        unfold mjd
        rw [em, nq 85 (by omega), nq 92 (by omega), nq 93 (by omega), hR.pk, hj]
      refine law_judge g kC kS Q V L k n i hk hn hi hb (jdg V) (mjd (jdg V) (jupL L 103 0 (lN b))) (jupL L 103 0 (lN b)) _ 0 (by omega) (w_judge g V L _ L b (by omega) (by have e := c_D_judge g V L hI h1; rw [hb1] at e; exact e)) b (by omega) (by have e := c_M_judge g (jdg V) (jupL L 103 0 (lN b)) (jN_c (fun a h1 _ => nq a h1) hN) (by rw [nq 85 (by omega)]; omega); rw [em] at e; exact e) ?_ (fun _ => ?_) (kk _ _ _ _ (jInv_o (lN b) ?_) (by omega) (by omega))
      · rw [eM]
        rfl
      · rw [jupL_q]
        exact if_pos rfl
      · rw [eM]
        exact inv_judge hV hck ht
    by_cases h0 : hld V (V 75 1) (V 75 3) = 0
    · exact go 2 0 (Or.inr ⟨rfl, rfl⟩) h0 (by unfold jdg; rw [if_pos h0])
    · exact go 1 1 (Or.inl ⟨rfl, rfl⟩) (by omega) (by unfold jdg; rw [if_neg h0])
