/-! the round of file -/
def flA (V : Nat → Nat → Nat) (L : Nat → Nat → Int64) (d n : Nat) : Nat → Nat → Nat := vu (vu (drs V (L 0 0) (L 0 1) d) (3 + 5 * d) 0 n) (3 + 5 * d) 1 ((n + 16 - 1) / 16 * 6)
def fl1 (V : Nat → Nat → Nat) (L : Nat → Nat → Int64) (d n : Nat) : Nat → Nat → Nat := vu (mkv (drs V (L 0 0) (L 0 1) d) d n) 0 4 (d + 1)
theorem drs_nq {V : Nat → Nat → Nat} {a b : Int64} {d q : Nat} (h4 : q ≠ 4 + 5 * d) (h5 : q ≠ 5 + 5 * d) : drs V a b d q = V q := by
  funext x
  unfold drs
  rw [if_neg (fun z => h4 z.1), if_neg (fun z => h5 z.1)]
theorem flA_nq {V : Nat → Nat → Nat} {L : Nat → Nat → Int64} {d n q : Nat} (h3 : q ≠ 3 + 5 * d) (h4 : q ≠ 4 + 5 * d) (h5 : q ≠ 5 + 5 * d) : flA V L d n q = V q := by
  unfold flA
  rw [vu_nq _ _ _ h3, vu_nq _ _ _ h3, drs_nq h4 h5]
theorem fl1_A {V : Nat → Nat → Nat} {L : Nat → Nat → Int64} {d n q : Nat} (h0 : q ≠ 0) (h7 : q ≠ 6 + 5 * d + 1) : fl1 V L d n q = flA V L d n q := by
  unfold fl1 mkv
  rw [vu_nq _ _ _ h0, cmpl_nq h7, mkw_nq h7]
  rfl
theorem inv_file {V : Nat → Nat → Nat} {L : Nat → Nat → Int64} (hV : jInv V L) {M : Nat → Nat → Int64} {d n : Nat} (hM : M 85 = L 85) (k0 : M 0 0 = L 0 0) (k1 : M 0 1 = L 0 1) (hd : V 0 4 = d) (hd3 : d < 3) (hn : n ≤ 64) : jInv (mfl (fl1 V L d n) M d n) (M) := by
  obtain ⟨hI, hR, hX⟩ := hV
  have h3 := hI.F
  obtain ⟨i1, i2, i3, i4, i5, i6, i7, i8, i9⟩ := id hI
  obtain ⟨x1, x2, x3⟩ := id hX
  obtain ⟨⟨r1, r2, r3, r4⟩, r5, r6, r7, r8, r9, r10⟩ := id hR
  have eL : ∀ q, q < 85 → (mfl (fl1 V L d n) M d n) q = fl1 V L d n q := fun q hq => by unfold mfl mf1; rw [enc_nq (by omega), vu_nq _ _ _ (by omega), mfb_nq (by omega), vu_nq _ _ _ (by omega), vu_nq _ _ _ (by omega)]
  have eV : ∀ q, 85 ≤ q → fl1 V L d n q = V q := fun q hq => by rw [fl1_A (by omega) (by omega), flA_nq (by omega) (by omega) (by omega)]
  have e : ∀ a, a ≠ 0 → a ≠ 3 + 5 * d → a ≠ 4 + 5 * d → a ≠ 5 + 5 * d → a ≠ 6 + 5 * d + 1 → a ≠ 85 → a ≠ 87 → a ≠ 88 → a ≠ 100 → (mfl (fl1 V L d n) M d n) a = V a := fun a n0 n3 n4 n5 n7 n85 n87 n88 n100 => by unfold mfl mf1; rw [enc_nq n88, vu_nq _ _ _ n85, mfb_nq n100, vu_nq _ _ _ n87, vu_nq _ _ _ n85, fl1_A n0 n7, flA_nq n3 n4 n5]
  have e85 : ∀ x, x ≠ 0 ∧ x ≠ 4 → (mfl (fl1 V L d n) M d n) 85 x = V 85 x := fun x hx => by
    unfold mfl mf1
    rw [enc_nq (by decide)]
    refine (if_neg (fun z => hx.2 z.2)).trans ?_
    rw [mfb_nq (by decide), vu_nq _ _ _ (by decide)]
    refine (if_neg (fun z => hx.1 z.2)).trans ?_
    rw [eV 85 (by decide)]
  have e854 : (mfl (fl1 V L d n) M d n) 85 4 = d + 1 := by unfold mfl mf1; rw [enc_nq (by decide)]; exact vu_eq _ _ _ _
  have e0 : ∀ x, x ≠ 4 → (mfl (fl1 V L d n) M d n) 0 x = V 0 x := fun x hx => by
    rw [eL 0 (by decide)]
    unfold fl1 mkv
    refine (if_neg (fun z => hx z.2)).trans ?_
    rw [cmpl_nq (by omega), mkw_nq (by omega)]
    show flA V L d n 0 x = _
    rw [flA_nq (by omega) (by omega) (by omega)]
  have e04 : (mfl (fl1 V L d n) M d n) 0 4 = d + 1 := by rw [eL 0 (by decide)]; exact vu_eq _ _ _ _
  have e87 : ∀ x, (mfl (fl1 V L d n) M d n) 87 x = if x = d then n else V 87 x := fun x => by
    unfold mfl mf1
    rw [enc_nq (by decide), vu_nq _ _ _ (by decide), mfb_nq (by decide)]
    by_cases h : x = d
    · rw [if_pos h]
      exact if_pos ⟨rfl, h⟩
    · rw [if_neg h]
      refine (if_neg (fun z => h z.2)).trans ?_
      rw [vu_nq _ _ _ (by decide), eV 87 (by decide)]
  have w0 : (mfl (fl1 V L d n) M d n) (3 + 5 * d) 0 = n := by
    rw [eL _ (by omega), fl1_A (by omega) (by omega)]
    unfold flA
    refine (if_neg (by omega)).trans ?_
    exact vu_eq _ _ _ _
  have w1 : (mfl (fl1 V L d n) M d n) (3 + 5 * d) 1 = 6 * ((n + 15) / 16) := by
    rw [eL _ (by omega), fl1_A (by omega) (by omega)]
    refine (vu_eq _ _ _ _).trans ?_
    omega
  have aal : ∀ j, j < 4 → flA V L d n (4 + 5 * d) j = sN (L 0 0) (L 0 1) (64 * d + j) := fun j hj => by
    unfold flA
    rw [vu_nq _ _ _ (by omega), vu_nq _ _ _ (by omega)]
    exact if_pos ⟨rfl, hj⟩
  have ams : ∀ i, i < 24 → flA V L d n (5 + 5 * d) i = sN (L 0 0) (L 0 1) (64 * d + 8 + i) := fun i hi => by
    unfold flA
    rw [vu_nq _ _ _ (by omega), vu_nq _ _ _ (by omega)]
    exact (if_neg (by omega)).trans (if_pos ⟨rfl, hi⟩)
  have wal : ∀ j, j < 4 → (mfl (fl1 V L d n) M d n) (4 + 5 * d) j = sN (L 0 0) (L 0 1) (64 * d + j) := fun j hj => by rw [eL _ (by omega), fl1_A (by omega) (by omega)]; exact aal j hj
  have wms : ∀ i, i < 24 → (mfl (fl1 V L d n) M d n) (5 + 5 * d) i = sN (L 0 0) (L 0 1) (64 * d + 8 + i) := fun i hi => by rw [eL _ (by omega), fl1_A (by omega) (by omega)]; exact ams i hi
  have wmd : (mfl (fl1 V L d n) M d n) (6 + 5 * d + 1) = cmpl (mkw (flA V L d n) d n) d (6 + 5 * d) ((n + 15) / 16) (6 + 5 * d + 1) := by rw [eL _ (by omega)]; exact vu_nq _ _ _ (by omega)
  have hz : ∀ y, y < 120 → flA V L d n (6 + 5 * d + 1) y = 0 := fun y hy => by rw [flA_nq (by omega) (by omega) (by omega)]; exact (x2 d (by omega) (by omega)).2.1 y hy
  obtain ⟨q1, q2, q3, q4⟩ := r8
  refine ⟨⟨?_, ?_, ?_, ?_, fun f hf => ?_, fun k hk f hf => ?_, ?_, ?_, ?_⟩, ⟨⟨?_, ?_, fun f hf => ?_, fun f hf => ?_⟩, fun k hk f hf => ?_, fun k hk => ?_, ?_, ?_, ?_, ?_⟩, fun f hf => ?_, fun f hf hf3 => ?_, ?_⟩
  · rw [e04]
    omega
  · rw [e0 8 (by decide)]
    exact i2
  · rw [e0 10 (by decide)]
    exact i3
  · rw [e (1) (by omega) (by omega) (by omega) (by omega) (by omega) (by omega) (by omega) (by omega) (by omega)]
    exact i4
  · by_cases h : f = d
    · subst h
      rw [w0, w1, wmd]
      refine ⟨hn, rfl, fun j hj => by rw [wal j hj]; exact sN_lt _ _ _, fun j hj => by rw [wms j hj]; exact sN_lt _ _ _, ?_⟩
      exact tall_lt (spall_lt (mkw_lt (fun y hy => by rw [hz y hy]; decide) (by rw [flA_nq (by omega) (by omega) (by omega)]; exact i4) n hn) _) _
    · rw [e (3 + 5 * f) (by omega) (by omega) (by omega) (by omega) (by omega) (by omega) (by omega) (by omega) (by omega), e (4 + 5 * f) (by omega) (by omega) (by omega) (by omega) (by omega) (by omega) (by omega) (by omega) (by omega), e (5 + 5 * f) (by omega) (by omega) (by omega) (by omega) (by omega) (by omega) (by omega) (by omega) (by omega), e (6 + 5 * f + 1) (by omega) (by omega) (by omega) (by omega) (by omega) (by omega) (by omega) (by omega) (by omega)]
      exact i5 f hf
  · rw [e (21 + 14 * k + 4 * f) (by omega) (by omega) (by omega) (by omega) (by omega) (by omega) (by omega) (by omega) (by omega), e (24 + 14 * k + 4 * f) (by omega) (by omega) (by omega) (by omega) (by omega) (by omega) (by omega) (by omega) (by omega), e (22 + 14 * k + 4 * f + 1) (by omega) (by omega) (by omega) (by omega) (by omega) (by omega) (by omega) (by omega) (by omega)]
    exact i6 k hk f hf
  · rw [e (75) (by omega) (by omega) (by omega) (by omega) (by omega) (by omega) (by omega) (by omega) (by omega), e (76) (by omega) (by omega) (by omega) (by omega) (by omega) (by omega) (by omega) (by omega) (by omega), e (77) (by omega) (by omega) (by omega) (by omega) (by omega) (by omega) (by omega) (by omega) (by omega), e (78) (by omega) (by omega) (by omega) (by omega) (by omega) (by omega) (by omega) (by omega) (by omega), e (79) (by omega) (by omega) (by omega) (by omega) (by omega) (by omega) (by omega) (by omega) (by omega)]
    exact i7
  · rw [e (83) (by omega) (by omega) (by omega) (by omega) (by omega) (by omega) (by omega) (by omega) (by omega)]
    exact i8
  · rw [e (84) (by omega) (by omega) (by omega) (by omega) (by omega) (by omega) (by omega) (by omega) (by omega)]
    exact i9
  · rw [e854, e04]
  · rw [e (86) (by omega) (by omega) (by omega) (by omega) (by omega) (by omega) (by omega) (by omega) (by omega), e (1) (by omega) (by omega) (by omega) (by omega) (by omega) (by omega) (by omega) (by omega) (by omega)]
    exact r2
  · rw [e87]
    by_cases h : f = d
    · subst h
      rw [if_pos rfl, w0]
    · rw [if_neg h, e (3 + 5 * f) (by omega) (by omega) (by omega) (by omega) (by omega) (by omega) (by omega) (by omega) (by omega)]
      exact r3 f hf
  · intro y hy
    by_cases h : f = d
    · subst h
      rw [wmd]
      unfold mfl
      refine file_r hf hn hz (fun x hx => ?_) (fun x hx => ?_) (fun j hj => ?_) (fun j hj => ?_) y hy
      · unfold mf1
        rw [vu_nq _ _ _ (by decide)]
        refine (if_pos ⟨rfl, hx⟩).trans ?_
        rw [vu_nq _ _ _ (by decide), vu_nq _ _ _ (by decide), eV 86 (by decide), flA_nq (by omega) (by omega) (by omega), r2 x hx]
      · unfold mf1
        rw [vu_nq _ _ _ (by decide), mfb_nq (by decide), vu_nq _ _ _ (by decide), vu_nq _ _ _ (by decide), eV 88 (by decide), r4 f hf x hx]
        exact (x2 f (by omega) hf).2.1 x hx
      · rw [hM, r9, r10]
        exact aal j hj
      · rw [hM, r9, r10]
        exact ams j hj
    · rw [e (6 + 5 * f + 1) (by omega) (by omega) (by omega) (by omega) (by omega) (by omega) (by omega) (by omega) (by omega)]
      unfold mfl mf1
      rw [enc_at, if_neg (by omega), vu_nq _ _ _ (by decide), mfb_nq (by decide), vu_nq _ _ _ (by decide), vu_nq _ _ _ (by decide), eV 88 (by decide)]
      exact r4 f hf y hy
  · rw [e (89) (by omega) (by omega) (by omega) (by omega) (by omega) (by omega) (by omega) (by omega) (by omega), e (90) (by omega) (by omega) (by omega) (by omega) (by omega) (by omega) (by omega) (by omega) (by omega), e (91) (by omega) (by omega) (by omega) (by omega) (by omega) (by omega) (by omega) (by omega) (by omega), e (21 + 14 * k + 4 * f) (by omega) (by omega) (by omega) (by omega) (by omega) (by omega) (by omega) (by omega) (by omega), e (22 + 14 * k + 4 * f + 1) (by omega) (by omega) (by omega) (by omega) (by omega) (by omega) (by omega) (by omega) (by omega), e (24 + 14 * k + 4 * f) (by omega) (by omega) (by omega) (by omega) (by omega) (by omega) (by omega) (by omega) (by omega)]
    exact r5 k hk f hf
  · rw [e (92) (by omega) (by omega) (by omega) (by omega) (by omega) (by omega) (by omega) (by omega) (by omega), e (93) (by omega) (by omega) (by omega) (by omega) (by omega) (by omega) (by omega) (by omega) (by omega), e (94) (by omega) (by omega) (by omega) (by omega) (by omega) (by omega) (by omega) (by omega) (by omega), e (19 + 14 * k) (by omega) (by omega) (by omega) (by omega) (by omega) (by omega) (by omega) (by omega) (by omega)]
    exact r6 k hk
  · rw [e85 13 (by omega), e85 14 (by omega), e85 15 (by omega), e (95) (by omega) (by omega) (by omega) (by omega) (by omega) (by omega) (by omega) (by omega) (by omega), e (96) (by omega) (by omega) (by omega) (by omega) (by omega) (by omega) (by omega) (by omega) (by omega), e (97) (by omega) (by omega) (by omega) (by omega) (by omega) (by omega) (by omega) (by omega) (by omega), e (75) (by omega) (by omega) (by omega) (by omega) (by omega) (by omega) (by omega) (by omega) (by omega), e (76) (by omega) (by omega) (by omega) (by omega) (by omega) (by omega) (by omega) (by omega) (by omega), e (77) (by omega) (by omega) (by omega) (by omega) (by omega) (by omega) (by omega) (by omega) (by omega), e (78) (by omega) (by omega) (by omega) (by omega) (by omega) (by omega) (by omega) (by omega) (by omega)]
    exact r7
  · rw [e85 19 (by decide), e85 21 (by decide), e0 8 (by decide), e0 10 (by decide), e (98) (by omega) (by omega) (by omega) (by omega) (by omega) (by omega) (by omega) (by omega) (by omega), e (99) (by omega) (by omega) (by omega) (by omega) (by omega) (by omega) (by omega) (by omega) (by omega), e (80) (by omega) (by omega) (by omega) (by omega) (by omega) (by omega) (by omega) (by omega) (by omega), e (81) (by omega) (by omega) (by omega) (by omega) (by omega) (by omega) (by omega) (by omega) (by omega)]
    exact ⟨q1, q2, q3, q4⟩
  · rw [hM, k0]
    exact r9
  · rw [hM, k1]
    exact r10
  · rw [e04] at hf
    rw [k0, k1]
    by_cases h : f = d
    · subst h
      exact ⟨wal, wms⟩
    · rw [e (4 + 5 * f) (by omega) (by omega) (by omega) (by omega) (by omega) (by omega) (by omega) (by omega) (by omega), e (5 + 5 * f) (by omega) (by omega) (by omega) (by omega) (by omega) (by omega) (by omega) (by omega) (by omega)]
      exact x1 f (by omega)
  · rw [e04] at hf
    obtain ⟨a1, a2, a3⟩ := x2 f (by omega) hf3
    exact ⟨by rw [e (3 + 5 * f) (by omega) (by omega) (by omega) (by omega) (by omega) (by omega) (by omega) (by omega) (by omega)]; exact a1, by rw [e (6 + 5 * f + 1) (by omega) (by omega) (by omega) (by omega) (by omega) (by omega) (by omega) (by omega) (by omega)]; exact a2, fun k hk => by rw [e (21 + 14 * k + 4 * f) (by omega) (by omega) (by omega) (by omega) (by omega) (by omega) (by omega) (by omega) (by omega)]; exact a3 k hk⟩
  · rw [e (75) (by omega) (by omega) (by omega) (by omega) (by omega) (by omega) (by omega) (by omega) (by omega), e04]
    intro h
    have := x3 h
    omega
theorem st_file (g : jG) (hb : jaN g < 2 ^ 31) {V : Nat → Nat → Nat} {L : Nat → Nat → Int64} {i : Nat} (hV : jInv V L) (hi : i + 6 ≤ jaN g) : jGo g jInv V L i 281 := by
  intro kC kS Q k n hk hn kk
  obtain ⟨hI, hR, hX⟩ := id hV
  have hN := jN_of hI hR
  have h3 := hI.F
  have kk0 := fun x => kk (vu V 85 0 x) L k n (jInv_t x hV) (by omega) (by omega)
  have kk1 := fun x z => kk (vu V 85 0 x) (jupL L 103 0 z) (k + 1) (n + 6) (jInv_o z (jInv_t x hV)) (by omega) (by omega)
  have kk2 := fun x => kk (vu V 85 0 x) L (k + 1) (n + 6) (jInv_t x hV) (by omega) (by omega)
  by_cases h : jxs g (i + 1) < nI 1 ∨ ¬ jxs g (i + 1) ≤ nI 64
  · exact law_file g kC kS Q V L k n i hk hn hi hb V _ L L 1 (by omega) (wt1_file g V L _ V L (t1_D_file g V L _ h)) (nI 0) (n1_M_file g V L _ h) rfl (fun h => by omega) (kk2 1)
  · obtain ⟨m, h1, h64, em⟩ := fn_of (by decide) h
    by_cases hF : V 0 4 = 3
    · refine law_file g kC kS Q V L k n i hk hn hi hb V _ L L 2 (by omega) ?_ (nI 0) ?_ rfl (fun h => by omega) (kk2 2)
      · rw [em]
        exact wt0_file g V L _ V L (t0_D_file g V L hF m h1 h64)
      · rw [em]
        exact n2_M_file g V L (by rw [hR.F]; exact hF) m h1 h64
    · obtain ⟨d, hd⟩ : ∃ d, V 0 4 = d := ⟨_, rfl⟩
      have eV : ∀ q, 85 ≤ q → fl1 V L d m q = V q := fun q hq => by rw [fl1_A (by omega) (by omega), flA_nq (by omega) (by omega) (by omega)]
      refine law_file g kC kS Q V L k n i hk hn hi hb (fl1 V L d m) (mfl (fl1 V L d m) (jupL L 103 0 (nI d).toInt64) d m) (jupL L 103 0 (nI d).toInt64) _ 0 (by omega) ?_ (nI d) ?_ ?_ (fun _ => ?_) (kk _ _ _ _ (inv_file hV rfl rfl rfl hd (by omega) h64) (by omega) (by omega))
      · rw [em]
        exact w_file g V L _ _ L _ (c_D_file g V L hI d (by omega) hd m h1 h64)
      · rw [em]
        exact c_M_file g (fl1 V L d m) _ (jN_c (fun a h1 _ => eV a h1) hN) (by rw [eV 86 (by omega)]; exact fun x hx => by rw [hR.bf x hx]; exact hI.bf x hx) d (by omega) (by rw [eV 85 (by omega), hR.F]; exact hd) m h1 h64
      · unfold mfl mf1
        rw [enc_nq (by decide)]
        refine (if_neg (by decide)).trans ?_
        rw [mfb_nq (by decide), vu_nq _ _ _ (by decide)]
        exact vu_eq _ _ _ _
      · rw [jupL_q]
        exact if_pos rfl
