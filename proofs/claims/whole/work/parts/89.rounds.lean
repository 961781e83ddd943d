/-! the rounds repair and fetch -/
theorem st_repair (g : jG) (hb : jaN g < 2 ^ 31) {V : Nat → Nat → Nat} {L : Nat → Nat → Int64} {i : Nat} (hV : jInv V L) (hi : i + 6 ≤ jaN g) : jGo g jInv V L i 913 := by
  intro kC kS Q k n hk hn kk
  obtain ⟨hI, hR, hX⟩ := id hV
  have hN := jN_of hI hR
  have h3 := hI.F
  have kk2 := fun x => kk (vu V 85 0 x) L (k + 1) (n + 6) (jInv_t x hV) (by omega) (by omega)
  by_cases h : isf V (jxs g (i + 1)) = 0 ∨ isn 4 (jxs g (i + 2)) = 0
  · exact law_repair g kC kS Q V L k n i hk hn hi hb V _ L L 1 (by omega) (wt2_repair g V L _ _ V L (t2_D_repair g V L _ _ h)) (nI 0) (n1_M_repair g V L _ _ (by rw [hR.F]; exact h)) rfl (fun h => by omega) (kk2 1)
  · obtain ⟨h1, h2⟩ := not_or.mp h
    obtain ⟨f, hf, ef⟩ := isf_of h3 h1
    obtain ⟨c, hc, ek⟩ := isn_of (by decide) h2
    have hrc := hI.rc (show f < 3 by omega)
    have hwd := hI.w (show f < 3 by omega)
    obtain ⟨G, hGe⟩ : ∃ G, G = (V (3 + 5 * f) 0 + 15) / 16 := ⟨_, rfl⟩
    rw [← hGe] at hrc
    have hG : G ≤ 4 := by omega
    have hmf : f < V 85 4 := by rw [hR.F]; exact hf
    have hGG := gth_G (f := f) hI (by omega) hG
    have hle := gth_le V f G
    by_cases hg : (gth V f G).2 = 1
    · obtain ⟨V1, hV1⟩ : ∃ V1, V1 = rpr (gth V f G).1 c f (6 * G) := ⟨_, rfl⟩
      obtain ⟨L', hL'⟩ : ∃ L', L' = jupL L 103 0 (nI (bco (gth V f G).1 c f 82 (6 * G))).toInt64 := ⟨_, rfl⟩
      obtain ⟨S, hS⟩ := lsS_of L'
      have m85 : L' 85 = L 85 := by rw [hL']; rfl
      have m0 : L' 0 = L 0 := by rw [hL']; rfl
      have nq : ∀ a, 85 ≤ a → V1 a = V a := fun a ha => by
        rw [hV1]
        unfold rpr
        rw [vu_nq _ _ _ (by omega), vu_nq _ _ _ (by omega), bcm_nq (by omega) (by omega), hGG.1 a (by omega) (by omega)]
      obtain ⟨q1, q2, q3, q4⟩ := rep_ok hV (M := L') (N := lsS L' (mgw (vu V1 85 0 0) L' f S (mrs V1 f / 6)).1.2) hc hf hG hrc m85 S hg hV1 (show L' 0 0 = L 0 0 by rw [m0]) (show L' 0 1 = L 0 1 by rw [m0]) (show L' 85 1 = L 85 1 by rw [m85]) (show L' 85 2 = L 85 2 by rw [m85])
      refine law_repair g kC kS Q V L k n i hk hn hi hb V1 (mr7 (mga V1 L' f S 0) L' c f) L' (lsS L' (mgw (vu V1 85 0 0) L' f S (mrs V1 f / 6)).1.2) 0 (by omega) ?_ (nI (bco (gth V f G).1 c f 82 (6 * G))) ?_ q3 (fun _ => ?_) (kk _ _ _ _ q4 (by omega) (by omega))
      · rw [ek, ef, hL', hV1]
        exact w_repair g V L _ _ _ L _ (c_D_repair g V L hI c hc f hf G hG hrc hg)
      · rw [ek, ef]
        have e := c_M_repair g V1 L' S (jN_c (fun a h1 _ => nq a h1) hN) f (by rw [nq 85 (by omega)]; exact hmf) (mgo_of hV m85 (nq 89 (by omega)) (nq 90 (by omega)) (nq 91 (by omega)) hf) c hc q1
        rw [q2, ← hS] at e
        exact e
      · show L' 103 0 = _
        rw [hL', jupL_q]
        exact if_pos rfl
    · have hg0 : (gth V f G).2 = 0 := by omega
      obtain ⟨S, hS⟩ := lsS_of L
      obtain ⟨q1, q3, q4⟩ := gno_ok hV (M := L) (N := lsS L (mgw (vu (gth V f G).1 85 0 0) L f S (mrs (gth V f G).1 f / 6)).1.2) hf hG hrc rfl S hg0 rfl rfl rfl rfl
      have nq : ∀ a, 85 ≤ a → (gth V f G).1 a = V a := fun a ha => hGG.1 a (by omega) (by omega)
      refine law_repair g kC kS Q V L k n i hk hn hi hb (gth V f G).1 (mga (gth V f G).1 L f S 2) L (lsS L (mgw (vu (gth V f G).1 85 0 0) L f S (mrs (gth V f G).1 f / 6)).1.2) 2 (by omega) ?_ (nI 0) ?_ q3 (fun h => by omega) (kk _ _ _ _ q4 (by omega) (by omega))
      · rw [ek, ef]
        exact wt0_repair g V L _ _ _ L (t0_D_repair g V L hI c hc f hf G hG hrc hg0)
      · rw [ek, ef]
        have e := n2_M_repair g (gth V f G).1 L S (jN_c (fun a h1 _ => nq a h1) hN) f (by rw [nq 85 (by omega)]; exact hmf) (mgo_of hV rfl (nq 89 (by omega)) (nq 90 (by omega)) (nq 91 (by omega)) hf) c hc q1
        rw [← hS] at e
        exact e
theorem st_fetch (g : jG) (hb : jaN g < 2 ^ 31) {V : Nat → Nat → Nat} {L : Nat → Nat → Int64} {i : Nat} (hV : jInv V L) (hi : i + 6 ≤ jaN g) : jGo g jInv V L i 981 := by
  intro kC kS Q k n hk hn kk
  obtain ⟨hI, hR, hX⟩ := id hV
  have hN := jN_of hI hR
  have h3 := hI.F
  have kk2 := fun x => kk (vu V 85 0 x) L (k + 1) (n + 6) (jInv_t x hV) (by omega) (by omega)
  by_cases h : isf V (jxs g (i + 1)) = 0
  · exact law_fetch g kC kS Q V L k n i hk hn hi hb V _ L L 1 (by omega) (wt2_fetch g V L _ V L (t2_D_fetch g V L _ h)) (nI 0) (n1_M_fetch g V L _ (by rw [hR.F]; exact h)) rfl (fun h => by omega) (kk2 1)
  · obtain ⟨f, hf, ef⟩ := isf_of h3 h
    have hrc := hI.rc (show f < 3 by omega)
    have hwd := hI.w (show f < 3 by omega)
    obtain ⟨w, hw0⟩ : ∃ w, V (3 + 5 * f) 0 = w := ⟨_, rfl⟩
    obtain ⟨G, hGe⟩ : ∃ G, G = (w + 15) / 16 := ⟨_, rfl⟩
    rw [hw0, ← hGe] at hrc
    rw [hw0] at hwd
    have hG : G ≤ 4 := by omega
    have hmf : f < V 85 4 := by rw [hR.F]; exact hf
    have hGG := gth_G (f := f) hI (by omega) hG
    have hle := gth_le V f G
    by_cases hg : (gth V f G).2 = 1
    · obtain ⟨V1, hV1⟩ : ∃ V1, V1 = ftv (vu (gth V f G).1 0 10 w) w := ⟨_, rfl⟩
      obtain ⟨L', hL'⟩ : ∃ L', L' = jupL L 103 0 (nI w).toInt64 := ⟨_, rfl⟩
      obtain ⟨S, hS⟩ := lsS_of L'
      have m85 : L' 85 = L 85 := by rw [hL']; rfl
      have m0 : L' 0 = L 0 := by rw [hL']; rfl
      have nq : ∀ a, 85 ≤ a → V1 a = V a := fun a ha => by rw [hV1, ftv_nq (by omega), vu_nq _ _ _ (by omega), hGG.1 a (by omega) (by omega)]
      obtain ⟨q1, q2, q3, q4⟩ := fet_ok hV (M := L') (N := lsS L' (mgw (vu V1 85 0 0) L' f S (mrs V1 f / 6)).1.2) hf hG hw0 hGe m85 S hg hV1 (show L' 0 0 = L 0 0 by rw [m0]) (show L' 0 1 = L 0 1 by rw [m0]) (show L' 85 1 = L 85 1 by rw [m85]) (show L' 85 2 = L 85 2 by rw [m85])
      refine law_fetch g kC kS Q V L k n i hk hn hi hb V1 (mft (vu (mga V1 L' f S 0) 85 21 w) w) L' (lsS L' (mgw (vu V1 85 0 0) L' f S (mrs V1 f / 6)).1.2) 0 (by omega) ?_ (nI w) ?_ q3 (fun _ => ?_) (kk _ _ _ _ q4 (by omega) (by omega))
      · rw [ef, hL', hV1]
        have e := c_D_fetch g V L hI f hf G hG hrc hg
        rw [hw0] at e
        exact w_fetch g V L _ _ L _ e
      · rw [ef]
        have e := c_M_fetch g V1 L' S (jN_c (fun a h1 _ => nq a h1) hN) f (by rw [nq 85 (by omega)]; exact hmf) (mgo_of hV m85 (nq 89 (by omega)) (nq 90 (by omega)) (nq 91 (by omega)) hf) q1
        rw [q2, ← hS] at e
        exact e
      · show L' 103 0 = _
        rw [hL', jupL_q]
        exact if_pos rfl
    · have hg0 : (gth V f G).2 = 0 := by omega
      obtain ⟨S, hS⟩ := lsS_of L
      obtain ⟨q1, q3, q4⟩ := gno_ok hV (M := L) (N := lsS L (mgw (vu (gth V f G).1 85 0 0) L f S (mrs (gth V f G).1 f / 6)).1.2) hf hG hrc rfl S hg0 rfl rfl rfl rfl
      have nq : ∀ a, 85 ≤ a → (gth V f G).1 a = V a := fun a ha => hGG.1 a (by omega) (by omega)
      refine law_fetch g kC kS Q V L k n i hk hn hi hb (gth V f G).1 (mga (gth V f G).1 L f S 2) L (lsS L (mgw (vu (gth V f G).1 85 0 0) L f S (mrs (gth V f G).1 f / 6)).1.2) 2 (by omega) ?_ (nI 0) ?_ q3 (fun h => by omega) (kk _ _ _ _ q4 (by omega) (by omega))
      · rw [ef]
        exact wt0_fetch g V L _ _ L (t0_D_fetch g V L hI f hf G hG hrc hg0)
      · rw [ef]
        have e := n2_M_fetch g (gth V f G).1 L S (jN_c (fun a h1 _ => nq a h1) hN) f (by rw [nq 85 (by omega)]; exact hmf) (mgo_of hV rfl (nq 89 (by omega)) (nq 90 (by omega)) (nq 91 (by omega)) hf) q1
        rw [← hS] at e
        exact e
