/-! the round of challenge -/
theorem asm_eq {V W : Nat → Nat → Nat} {r j : Nat} (h76 : W 76 = V 76) (h77 : W 77 = V 77) (hr : W (r + 1) = V (r + 1)) : ∀ i, asm W r j i = asm V r j i
  | 0 => rfl
  | i + 1 => by
    unfold asm
    rw [asm_eq h76 h77 hr i, h76, h77, hr]
theorem anv_at {V : Nat → Nat → Nat} {r m : Nat} (hr : r + 1 ≠ 78) : ∀ n j, anv V r m n 78 j = if j < n then asm V r j m else V 78 j
  | 0, j => by
    rw [if_neg (by omega)]
    rfl
  | n + 1, j => by
    show vu (anv V r m n) 78 n (asm (anv V r m n) r n m) 78 j = _
    by_cases h : j = n
    · rw [if_pos (by omega)]
      refine (if_pos ⟨rfl, h⟩).trans ?_
      rw [asm_eq (anv_nq (by decide) n) (anv_nq (by decide) n) (anv_nq hr n), h]
    · refine (if_neg (fun z => h z.2)).trans ?_
      rw [anv_at hr n j]
      by_cases h2 : j < n
      · rw [if_pos h2, if_pos (by omega)]
      · rw [if_neg h2, if_neg (by omega)]
theorem dr0_z {V : Nat → Nat → Nat} : ∀ t r, r < t → dr0 V t 79 r = 0
  | 0, _, h => absurd h (Nat.not_lt_zero _)
  | t + 1, r, h => by
    show vu (dr0 V t) 79 t 0 79 r = 0
    by_cases h1 : r = t
    · exact if_pos ⟨rfl, h1⟩
    · exact (if_neg (fun z => h1 z.2)).trans (dr0_z t r (by omega))
def chP (V : Nat → Nat → Nat) (d c : Nat) : Nat → Nat → Nat := vu (vu (vu V 75 0 1) 75 1 d) 75 2 c
theorem chl_nq {V : Nat → Nat → Nat} {d c s m a : Nat} (h1 : a ≠ 75) (h2 : a ≠ 76) (h3 : a ≠ 77) (h4 : a ≠ 78) (h5 : a ≠ 79) : chl V d c s m a = V a := by
  unfold chl
  rw [anv_nq h4, drv_nq h1 h2 h3 h5, vu_nq _ _ _ h1, vu_nq _ _ _ h1, vu_nq _ _ _ h1]
theorem chl_D {V : Nat → Nat → Nat} {d c s m a : Nat} (h4 : a ≠ 78) : chl V d c s m a = drv (chP V d c) s m (V (3 + 5 * d) 1) a := by
  unfold chl
  rw [anv_nq h4]
  rfl
theorem inv_chl {V : Nat → Nat → Nat} {L : Nat → Nat → Int64} (hV : jInv V L) {c d s m : Nat} (hc : c < 4) (hd : d < V 0 4) (h1 : 1 ≤ m) (hm : m ≤ V (3 + 5 * d) 1) : jInv (mcs (chl V d c s m) d c s m (V (3 + 5 * d) 1) m) (L) := by
  obtain ⟨hI, hR, hX⟩ := hV
  have h3 := hI.F
  obtain ⟨i1, i2, i3, i4, i5, i6, i7, i8, i9⟩ := id hI
  obtain ⟨x1, x2, x3⟩ := id hX
  obtain ⟨⟨r1, r2, r3, r4⟩, r5, r6, r7, r8, r9, r10⟩ := id hR
  have hd3 : d < 3 := by omega
  have hrc := hI.rc hd3
  have hwd := hI.w hd3
  have eL : ∀ a, a < 85 → (mcs (chl V d c s m) d c s m (V (3 + 5 * d) 1) m) a = chl V d c s m a := fun a ha => by rw [mcs_nq (by omega) (by omega) (by omega)]; unfold mc1; rw [vu_nq _ _ _ (by omega), vu_nq _ _ _ (by omega), vu_nq _ _ _ (by omega), vu_nq _ _ _ (by omega)]
  have eV : ∀ a, 85 ≤ a → chl V d c s m a = V a := fun a ha => chl_nq (by omega) (by omega) (by omega) (by omega) (by omega)
  have e : ∀ a, a ≠ 75 → a ≠ 76 → a ≠ 77 → a ≠ 78 → a ≠ 79 → a ≠ 85 → a ≠ 95 → a ≠ 96 → a ≠ 97 → (mcs (chl V d c s m) d c s m (V (3 + 5 * d) 1) m) a = V a := fun a n1 n2 n3 n4 n5 n6 n7 n8 n9 => by rw [mcs_nq n7 n8 n9]; unfold mc1; rw [vu_nq _ _ _ n6, vu_nq _ _ _ n6, vu_nq _ _ _ n6, vu_nq _ _ _ n6, chl_nq n1 n2 n3 n4 n5]
  have e85 : ∀ x, x ≠ 0 ∧ x ≠ 13 ∧ x ≠ 14 ∧ x ≠ 15 → (mcs (chl V d c s m) d c s m (V (3 + 5 * d) 1) m) 85 x = V 85 x := fun x hx => by
    rw [mcs_nq (by decide) (by decide) (by decide)]
    refine (if_neg (fun z => hx.2.2.2 z.2)).trans ((if_neg (fun z => hx.2.2.1 z.2)).trans ((if_neg (fun z => hx.2.1 z.2)).trans ((if_neg (fun z => hx.1 z.2)).trans ?_)))
    rw [eV 85 (by decide)]
  have f13 : (mcs (chl V d c s m) d c s m (V (3 + 5 * d) 1) m) 85 13 = m := by rw [mcs_nq (by decide) (by decide) (by decide)]; rfl
  have f14 : (mcs (chl V d c s m) d c s m (V (3 + 5 * d) 1) m) 85 14 = d := by rw [mcs_nq (by decide) (by decide) (by decide)]; rfl
  have f15 : (mcs (chl V d c s m) d c s m (V (3 + 5 * d) 1) m) 85 15 = c := by rw [mcs_nq (by decide) (by decide) (by decide)]; rfl
  have c75 : ∀ x, chl V d c s m 75 x = vu (dr0 (chP V d c) (V (3 + 5 * d) 1)) 75 3 m 75 x := fun x => by rw [chl_D (by decide)]; unfold drv; rw [drw_nq (by decide) (by decide) (by decide)]
  have g3 : (mcs (chl V d c s m) d c s m (V (3 + 5 * d) 1) m) 75 3 = m := by rw [eL 75 (by decide), c75]; exact vu_eq _ _ _ _
  have g0 : (mcs (chl V d c s m) d c s m (V (3 + 5 * d) 1) m) 75 0 = 1 := by rw [eL 75 (by decide), c75]; refine (if_neg (by omega)).trans ?_; rw [dr0_nq (by decide)]; rfl
  have g1 : (mcs (chl V d c s m) d c s m (V (3 + 5 * d) 1) m) 75 1 = d := by rw [eL 75 (by decide), c75]; refine (if_neg (by omega)).trans ?_; rw [dr0_nq (by decide)]; rfl
  have g2 : (mcs (chl V d c s m) d c s m (V (3 + 5 * d) 1) m) 75 2 = c := by rw [eL 75 (by decide), c75]; refine (if_neg (by omega)).trans ?_; rw [dr0_nq (by decide)]; rfl
  obtain ⟨p1, p2, p3, p4, p5, p6, p7, p8⟩ := i7
  obtain ⟨q1, q2, q3, q4, q5, q6⟩ := r7
  have eP : ∀ a, a ≠ 75 → chP V d c a = V a := fun a ha => by unfold chP; rw [vu_nq _ _ _ ha, vu_nq _ _ _ ha, vu_nq _ _ _ ha]
  have hdr := (draw_eq (D := vu (dr0 (chP V d c) (V (3 + 5 * d) 1)) 75 3 m) (V1 := chl V d c s m) (f := d) (k := c) (s := s) (m := m) (rc := V (3 + 5 * d) 1) (by omega) (by omega) (fun r hr => by rw [vu_nq _ _ _ (by decide)]; exact dr0_z _ r hr) (fun x hx => by rw [eV 95 (by decide), eV 96 (by decide), vu_nq _ _ _ (by decide), vu_nq _ _ _ (by decide), dr0_nq (by decide), dr0_nq (by decide), eP 76 (by decide), eP 77 (by decide)]; exact q5 x hx) m hm).1
  have d76 : chl V d c s m 76 = drw (vu (dr0 (chP V d c) (V (3 + 5 * d) 1)) 75 3 m) s (V (3 + 5 * d) 1) m 76 := chl_D (by decide)
  have d77 : chl V d c s m 77 = drw (vu (dr0 (chP V d c) (V (3 + 5 * d) 1)) 75 3 m) s (V (3 + 5 * d) 1) m 77 := chl_D (by decide)
  have l76 : ∀ x, x < m → chl V d c s m 76 x < 24 := fun x hx => by rw [d76]; exact Nat.lt_of_lt_of_le (drw_76 (by omega) m x hx) (by omega)
  have c78 : ∀ j, j < 5 → chl V d c s m 78 j = asm (chl V d c s m) (22 + 14 * c + 4 * d) j m := fun j hj => by
    refine (anv_at (by omega) 5 j).trans ?_
    rw [if_pos hj]
    exact (asm_eq (chl_D (by decide)) (chl_D (by decide)) (chl_D (by omega)) m).symm
  have han := ans_eq (X := chl V d c s m) (V1 := chl V d c s m) (f := d) (k := c) (s := s) (m := m) (rc := V (3 + 5 * d) 1) (r := 22 + 14 * c + 4 * d) (by omega) (fun x hx => by rw [d76, d77]; exact hdr x (by omega)) (fun y j hy hj => by rw [eV 90 (by decide), chl_nq (by omega) (by omega) (by omega) (by omega) (by omega)]; exact hR.kp hc hd3 hy hj) l76 m (Nat.le_refl _)
  refine ⟨⟨?_, ?_, ?_, ?_, fun f hf => ?_, fun k hk f hf => ?_, ?_, ?_, ?_⟩, ⟨⟨?_, ?_, fun f hf => ?_, fun f hf => ?_⟩, fun k hk f hf => ?_, fun k hk => ?_, ?_, ?_, ?_, ?_⟩, fun f hf => ?_, fun f hf hf3 => ?_, ?_⟩
  · rw [e (0) (by omega) (by omega) (by omega) (by omega) (by omega) (by omega) (by omega) (by omega) (by omega)]
    exact i1
  · rw [e (0) (by omega) (by omega) (by omega) (by omega) (by omega) (by omega) (by omega) (by omega) (by omega)]
    exact i2
  · rw [e (0) (by omega) (by omega) (by omega) (by omega) (by omega) (by omega) (by omega) (by omega) (by omega)]
    exact i3
  · rw [e (1) (by omega) (by omega) (by omega) (by omega) (by omega) (by omega) (by omega) (by omega) (by omega)]
    exact i4
  · rw [e (3 + 5 * f) (by omega) (by omega) (by omega) (by omega) (by omega) (by omega) (by omega) (by omega) (by omega), e (4 + 5 * f) (by omega) (by omega) (by omega) (by omega) (by omega) (by omega) (by omega) (by omega) (by omega), e (5 + 5 * f) (by omega) (by omega) (by omega) (by omega) (by omega) (by omega) (by omega) (by omega) (by omega), e (6 + 5 * f + 1) (by omega) (by omega) (by omega) (by omega) (by omega) (by omega) (by omega) (by omega) (by omega)]
    exact i5 f hf
  · rw [e (21 + 14 * k + 4 * f) (by omega) (by omega) (by omega) (by omega) (by omega) (by omega) (by omega) (by omega) (by omega), e (24 + 14 * k + 4 * f) (by omega) (by omega) (by omega) (by omega) (by omega) (by omega) (by omega) (by omega) (by omega), e (22 + 14 * k + 4 * f + 1) (by omega) (by omega) (by omega) (by omega) (by omega) (by omega) (by omega) (by omega) (by omega)]
    exact i6 k hk f hf
  · rw [g0, g1, g2, g3, eL 76 (by decide), eL 77 (by decide), eL 78 (by decide), eL 79 (by decide)]
    refine ⟨Nat.le_refl _, hd3, hc, by omega, l76, fun x hx => by rw [d77]; exact drw_77 m x hx, fun x hx => by rw [c78 x hx]; exact asm_lt _ _ _ _, ?_⟩
    rw [chl_D (by decide)]
    exact drw_le (by rw [vu_nq _ _ _ (by decide)]; exact dr0_le (by rw [eP 79 (by decide)]; exact p8) _) m
  · rw [e (83) (by omega) (by omega) (by omega) (by omega) (by omega) (by omega) (by omega) (by omega) (by omega)]
    exact i8
  · rw [e (84) (by omega) (by omega) (by omega) (by omega) (by omega) (by omega) (by omega) (by omega) (by omega)]
    exact i9
  · rw [e85 4 (by omega), e (0) (by omega) (by omega) (by omega) (by omega) (by omega) (by omega) (by omega) (by omega) (by omega)]
    exact r1
  · rw [e (86) (by omega) (by omega) (by omega) (by omega) (by omega) (by omega) (by omega) (by omega) (by omega), e (1) (by omega) (by omega) (by omega) (by omega) (by omega) (by omega) (by omega) (by omega) (by omega)]
    exact r2
  · rw [e (87) (by omega) (by omega) (by omega) (by omega) (by omega) (by omega) (by omega) (by omega) (by omega), e (3 + 5 * f) (by omega) (by omega) (by omega) (by omega) (by omega) (by omega) (by omega) (by omega) (by omega)]
    exact r3 f hf
  · rw [e (88) (by omega) (by omega) (by omega) (by omega) (by omega) (by omega) (by omega) (by omega) (by omega), e (6 + 5 * f + 1) (by omega) (by omega) (by omega) (by omega) (by omega) (by omega) (by omega) (by omega) (by omega)]
    exact r4 f hf
  · rw [e (89) (by omega) (by omega) (by omega) (by omega) (by omega) (by omega) (by omega) (by omega) (by omega), e (90) (by omega) (by omega) (by omega) (by omega) (by omega) (by omega) (by omega) (by omega) (by omega), e (91) (by omega) (by omega) (by omega) (by omega) (by omega) (by omega) (by omega) (by omega) (by omega), e (21 + 14 * k + 4 * f) (by omega) (by omega) (by omega) (by omega) (by omega) (by omega) (by omega) (by omega) (by omega), e (22 + 14 * k + 4 * f + 1) (by omega) (by omega) (by omega) (by omega) (by omega) (by omega) (by omega) (by omega) (by omega), e (24 + 14 * k + 4 * f) (by omega) (by omega) (by omega) (by omega) (by omega) (by omega) (by omega) (by omega) (by omega)]
    exact r5 k hk f hf
  · rw [e (92) (by omega) (by omega) (by omega) (by omega) (by omega) (by omega) (by omega) (by omega) (by omega), e (93) (by omega) (by omega) (by omega) (by omega) (by omega) (by omega) (by omega) (by omega) (by omega), e (94) (by omega) (by omega) (by omega) (by omega) (by omega) (by omega) (by omega) (by omega) (by omega), e (19 + 14 * k) (by omega) (by omega) (by omega) (by omega) (by omega) (by omega) (by omega) (by omega) (by omega)]
    exact r6 k hk
  · rw [f13, f14, f15, g0, g1, g2, g3, eL 76 (by decide), eL 77 (by decide), eL 78 (by decide)]
    refine ⟨fun h => absurd h (by decide), fun _ => ⟨rfl, h1⟩, rfl, rfl, fun x hx => ?_, fun x hx => ?_⟩
    · rw [d76, d77]
      exact hdr x hx
    · rw [c78 x hx]
      exact han x hx
  · rw [e85 19 (by omega), e85 21 (by omega), e (98) (by omega) (by omega) (by omega) (by omega) (by omega) (by omega) (by omega) (by omega) (by omega), e (99) (by omega) (by omega) (by omega) (by omega) (by omega) (by omega) (by omega) (by omega) (by omega), e (0) (by omega) (by omega) (by omega) (by omega) (by omega) (by omega) (by omega) (by omega) (by omega), e (80) (by omega) (by omega) (by omega) (by omega) (by omega) (by omega) (by omega) (by omega) (by omega), e (81) (by omega) (by omega) (by omega) (by omega) (by omega) (by omega) (by omega) (by omega) (by omega)]
    exact r8
  · exact r9
  · exact r10
  · rw [e 0 (by omega) (by omega) (by omega) (by omega) (by omega) (by omega) (by omega) (by omega) (by omega)] at hf
    rw [e (4 + 5 * f) (by omega) (by omega) (by omega) (by omega) (by omega) (by omega) (by omega) (by omega) (by omega), e (5 + 5 * f) (by omega) (by omega) (by omega) (by omega) (by omega) (by omega) (by omega) (by omega) (by omega)]
    exact x1 f hf
  · rw [e 0 (by omega) (by omega) (by omega) (by omega) (by omega) (by omega) (by omega) (by omega) (by omega)] at hf
    obtain ⟨a1, a2, a3⟩ := x2 f hf hf3
    exact ⟨by rw [e (3 + 5 * f) (by omega) (by omega) (by omega) (by omega) (by omega) (by omega) (by omega) (by omega) (by omega)]; exact a1, by rw [e (6 + 5 * f + 1) (by omega) (by omega) (by omega) (by omega) (by omega) (by omega) (by omega) (by omega) (by omega)]; exact a2, fun k hk => by rw [e (21 + 14 * k + 4 * f) (by omega) (by omega) (by omega) (by omega) (by omega) (by omega) (by omega) (by omega) (by omega)]; exact a3 k hk⟩
  · rw [g1, e (0) (by omega) (by omega) (by omega) (by omega) (by omega) (by omega) (by omega) (by omega) (by omega)]
    exact fun _ => hd
theorem st_challenge (g : jG) (hb : jaN g < 2 ^ 31) {V : Nat → Nat → Nat} {L : Nat → Nat → Int64} {i : Nat} (hV : jInv V L) (hi : i + 6 ≤ jaN g) : jGo g jInv V L i 603 := by
  intro kC kS Q k n hk hn kk
  obtain ⟨hI, hR, hX⟩ := id hV
  have hN := jN_of hI hR
  have h3 := hI.F
  have kk0 := fun x => kk (vu V 85 0 x) L k n (jInv_t x hV) (by omega) (by omega)
  have kk1 := fun x z => kk (vu V 85 0 x) (jupL L 103 0 z) (k + 1) (n + 6) (jInv_o z (jInv_t x hV)) (by omega) (by omega)
  have kk2 := fun x => kk (vu V 85 0 x) L (k + 1) (n + 6) (jInv_t x hV) (by omega) (by omega)
  have hkk := (kpr_mrw hI hR (jxs g (i + 2)) (jxs g (i + 1)) 0).2
  have hrs0 : ∀ z : Int32, ¬ kps V (jxs g (i + 2)) z = 0 → mrs V z.toNatClampNeg = V (3 + 5 * z.toNatClampNeg) 1 := fun z hz => by
    obtain ⟨c, f, hc, hf, ek, rfl, hh⟩ := kps_of hI hz
    rw [nI_clamp (by omega)]
    exact hR.rs hI (by omega)
  by_cases h : kps V (jxs g (i + 2)) (jxs g (i + 1)) = 0 ∨ jxs g (i + 4) < nI 1 ∨ ¬ jxs g (i + 4) ≤ nI (V (3 + 5 * (jxs g (i + 1)).toNatClampNeg) 1)
  · refine law_challenge g kC kS Q V L k n i hk hn hi hb V _ L L 1 (by omega) (wt1_challenge g V L _ _ _ _ V L (t1_D_challenge g V L hI _ _ _ _ h)) (nI 0) (n_M_challenge g V L hN _ _ _ _ ?_) rfl (fun h => by omega) (kk2 1)
    rw [hkk]
    by_cases h0 : kps V (jxs g (i + 2)) (jxs g (i + 1)) = 0
    · exact Or.inl h0
    · rw [hrs0 _ h0]
      exact h
  · obtain ⟨h1, h2⟩ := not_or.mp h
    obtain ⟨c, f, hc, hf, ek, ef, hh⟩ := kps_of hI h1
    have hrc := hI.rc (show f < 3 by omega)
    have hwd := hI.w (show f < 3 by omega)
    rw [ef, nI_clamp (by omega)] at h2
    obtain ⟨m, hm1, hm2, em⟩ := fn_of (by omega) h2
    obtain ⟨s, hs, es⟩ := wb_of32 (jxs g (i + 3))
    have eV : ∀ a, 85 ≤ a → chl V f c s m a = V a := fun a ha => chl_nq (by omega) (by omega) (by omega) (by omega) (by omega)
    have hrs : mrs (chl V f c s m) f = V (3 + 5 * f) 1 := by unfold mrs; rw [eV 87 (by omega)]; exact hR.rs hI (by omega)
    have hIv := inv_chl (s := s) hV hc hf hm1 hm2
    have e76 : mcs (chl V f c s m) f c s m (V (3 + 5 * f) 1) m 95 0 = chl V f c s m 76 0 := by
      have e1 := (hIv.2.1.pr 0 (by omega)).1
      rw [e1, mcs_nq (by decide) (by decide) (by decide)]
      rfl
    refine law_challenge g kC kS Q V L k n i hk hn hi hb (chl V f c s m) (mcs (chl V f c s m) f c s m (V (3 + 5 * f) 1) m) (jupL L 103 0 (nI (chl V f c s m 76 0)).toInt64) _ 0 (by omega) ?_ (nI (chl V f c s m 76 0)) ?_ ?_ (fun _ => ?_) (kk _ _ _ _ (jInv_o (nI (chl V f c s m 76 0)).toInt64 hIv) (by omega) (by omega))
    · rw [ek, ef, es, em]
      exact w_challenge g V L _ _ _ _ _ L _ (c_D_challenge g V L hI c hc f hf hh s hs m hm1 hm2)
    · rw [ek, ef, es, em]
      have e := c_M_challenge g (chl V f c s m) (jupL L 103 0 (nI (chl V f c s m 76 0)).toInt64) (jN_c (fun a h1 _ => eV a h1) hN) c f hc (by rw [eV 85 (by omega), hR.F]; exact hf) (by rw [eV 89 (by omega), hR.hs hc (by omega)]; exact hh) s hs m hm1 (by rw [hrs]; exact hm2) (fun x hx => mcr_free (by rw [hrs]; omega) (by rw [hrs]; omega))
      rw [hrs, e76] at e
      exact e
    · rw [mcs_nq (by decide) (by decide) (by decide)]
      rfl
    · rw [jupL_q]
      exact if_pos rfl
