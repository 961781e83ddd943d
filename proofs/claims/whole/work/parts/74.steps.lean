/-! rounds that change: locate, place -/
theorem mgd_igd {V W : Nat → Nat → Nat} {L M : Nat → Nat → Int64} (hV : jInv V L) (hM : M 85 = L 85) (h89 : W 89 = V 89) (h90 : W 90 = V 90) (h91 : W 91 = V 91) {k f i : Nat} (hk : k < 4) (hf : f < V 0 4) (hi : i < 24) : mgd W M k f i = igd V k f i := by
  obtain ⟨hI, hR, hX⟩ := id hV
  have h3 := hI.F
  have hf3 : f < 3 := by omega
  unfold mgd igd
  rw [h89, h90, h91, hR.hs hk hf3, hR.ls hk hf3 hi, hR.kp hk hf3 hi (show 4 < 5 by decide), hM]
  rw [tgd_eq (m' := V (5 + 5 * f) i) (al' := V (4 + 5 * f)) (x' := fun j => V (22 + 14 * k + 4 * f + 1) (i * 5 + j)) (by rw [hR.k1, hR.k2, (hX.1 f hf).2 i hi]) (fun j hj => by rw [hR.k1, hR.k2, (hX.1 f hf).1 j hj]) (fun j hj => hR.kp hk hf3 hi (by omega))]
  by_cases h1 : V (21 + 14 * k + 4 * f) 0 = 0
  · rw [if_pos h1, if_pos h1]
  · rw [if_neg h1, if_neg h1]
    by_cases h2 : V (24 + 14 * k + 4 * f) i = 0
    · rw [if_pos h2, if_pos h2]
      by_cases h4 : tgd (V (5 + 5 * f) i) (V (4 + 5 * f)) (fun j => V (22 + 14 * k + 4 * f + 1) (i * 5 + j)) = V (22 + 14 * k + 4 * f + 1) (i * 5 + 4)
      · rw [if_pos h4, if_pos h4.symm]
      · rw [if_neg h4, if_neg (fun e => h4 e.symm)]
    · rw [if_neg h2, if_neg h2]
theorem igd_eq {V W : Nat → Nat → Nat} {k f i : Nat} (h : ∀ a, a ≠ 0 → a ≠ 80 → W a = V a) (hk : k < 4) (hf : f < 3) : igd W k f i = igd V k f i := by
  unfold igd
  rw [h (21 + 14 * k + 4 * f) (by omega) (by omega), h (24 + 14 * k + 4 * f) (by omega) (by omega), h (22 + 14 * k + 4 * f + 1) (by omega) (by omega), h (5 + 5 * f) (by omega) (by omega), h (4 + 5 * f) (by omega) (by omega)]
theorem mlc_lcv {V V1 : Nat → Nat → Nat} {L M : Nat → Nat → Int64} (hV : jInv V L) (hM : M 85 = L 85) (h1 : ∀ a, 85 ≤ a → V1 a = V a) {k f : Nat} (hk : k < 4) (hf : f < V 0 4) : ∀ t, t ≤ 24 → mlc V1 M k f t 85 19 = lcv V k f t 0 8 ∧ ∀ i, i < 24 → mlc V1 M k f t 98 i = lcv V k f t 80 i
  | 0, _ => by
    refine ⟨?_, fun i hi => ?_⟩
    · show vu _ _ _ _ 85 19 = vu _ _ _ _ 0 8
      rw [vu_eq, vu_eq]
    · show vu (vu V1 85 0 0) 85 19 0 98 i = vu V 0 8 0 80 i
      rw [vu_nq _ _ _ (by decide), vu_nq _ _ _ (by decide), vu_nq _ _ _ (by decide), h1 98 (by decide)]
      exact hV.2.1.bd i hi
  | t + 1, ht => by
    obtain ⟨e1, e2⟩ := mlc_lcv hV hM h1 hk hf t (by omega)
    have h3 := hV.1.F
    have h8 := lcv_8 (V := V) (k := k) (f := f) t
    rw [mlc_s, lcv_s, mgd_igd hV hM (h1 89 (by decide)) (h1 90 (by decide)) (h1 91 (by decide)) hk hf (by omega), igd_eq (fun a a1 a2 => lcv_nq a1 a2 t) hk (by omega)]
    by_cases h : igd V k f t = 0
    · rw [if_pos h, if_pos h]
      refine ⟨by rw [vu_eq, vu_eq, e1], fun i hi => ?_⟩
      rw [vu_nq _ 19 _ (show 98 ≠ 85 by decide), vu_nq _ 8 _ (show 80 ≠ 0 by decide), e1]
      unfold vu
      by_cases h5 : i = lcv V k f t 0 8
      · rw [if_pos ⟨rfl, h5⟩, if_pos ⟨rfl, h5⟩]
      · rw [if_neg (fun z => h5 z.2), if_neg (fun z => h5 z.2)]
        exact e2 i hi
    · rw [if_neg h, if_neg h]
      exact ⟨e1, e2⟩
theorem mlc_th (V : Nat → Nat → Nat) (L : Nat → Nat → Int64) (k f : Nat) : ∀ t, mlc V L k f t 85 0 = 0
  | 0 => by
    show vu (vu V 85 0 0) 85 19 0 85 0 = 0
    unfold vu
    rw [if_neg (by omega), if_pos ⟨rfl, rfl⟩]
  | t + 1 => by
    rw [mlc_s]
    split
    · show vu (vu (mlc V L k f t) 98 (mlc V L k f t 85 19) t) 85 19 (mlc V L k f t 85 19 + 1) 85 0 = 0
      rw [show vu (vu (mlc V L k f t) 98 (mlc V L k f t 85 19) t) 85 19 (mlc V L k f t 85 19 + 1) 85 0 = mlc V L k f t 85 0 from by unfold vu; rw [if_neg (by omega), if_neg (by omega)]]
      exact mlc_th V L k f t
    · exact mlc_th V L k f t
theorem inv_locate {V : Nat → Nat → Nat} {L : Nat → Nat → Int64} (hV : jInv V L) {M : Nat → Nat → Int64} {c d m : Nat} (hM : M 85 = L 85) (k0 : M 0 0 = L 0 0) (k1 : M 0 1 = L 0 1) (hc : c < 4) (hd : d < V 0 4) (hm : m ≤ 24) : jInv (mlc (lcv V c d m) M c d m) (M) := by
  obtain ⟨hI, hR, hX⟩ := hV
  have h3 := hI.F
  obtain ⟨i1, i2, i3, i4, i5, i6, i7, i8, i9⟩ := id hI
  obtain ⟨x1, x2, x3⟩ := id hX
  obtain ⟨⟨r1, r2, r3, r4⟩, r5, r6, r7, r8, r9, r10⟩ := id hR
  have e : ∀ a, a ≠ 0 → a ≠ 80 → a ≠ 85 → a ≠ 98 → (mlc (lcv V c d m) M c d m) a = V a := fun a n1 n2 n3 n4 => by rw [mlc_nq n3 n4, lcv_nq n1 n2]
  have e85 : ∀ x, x ≠ 0 ∧ x ≠ 19 → (mlc (lcv V c d m) M c d m) 85 x = V 85 x := fun x hx => by rw [mlc_85 hx.2 hx.1, lcv_nq (by decide) (by decide)]
  have e0 : ∀ x, x ≠ 8 → (mlc (lcv V c d m) M c d m) 0 x = V 0 x := fun x hx => by rw [mlc_nq (by decide) (by decide), lcv_0 hx]
  have e08 : (mlc (lcv V c d m) M c d m) 0 8 = lcv V c d m 0 8 := by rw [mlc_nq (by decide) (by decide)]
  have e80 : ∀ x, (mlc (lcv V c d m) M c d m) 80 x = lcv V c d m 80 x := fun x => by rw [mlc_nq (by decide) (by decide)]
  obtain ⟨m1, m2⟩ := mlc_lcv (V1 := lcv V c d m) ⟨hI, hR, hX⟩ hM (fun a ha => lcv_nq (by omega) (by omega) m) hc hd m hm
  obtain ⟨q1, q2, q3, q4⟩ := r8
  refine ⟨⟨?_, ?_, ?_, ?_, fun f hf => ?_, fun k hk f hf => ?_, ?_, ?_, ?_⟩, ⟨⟨?_, ?_, fun f hf => ?_, fun f hf => ?_⟩, fun k hk f hf => ?_, fun k hk => ?_, ?_, ?_, ?_, ?_⟩, fun f hf => ?_, fun f hf hf3 => ?_, ?_⟩
  · rw [e0 4 (by decide)]
    exact i1
  · rw [e08]
    exact Nat.le_trans (lcv_8 m) hm
  · rw [e0 10 (by decide)]
    exact i3
  · rw [e (1) (by omega) (by omega) (by omega) (by omega)]
    exact i4
  · rw [e (3 + 5 * f) (by omega) (by omega) (by omega) (by omega), e (4 + 5 * f) (by omega) (by omega) (by omega) (by omega), e (5 + 5 * f) (by omega) (by omega) (by omega) (by omega), e (6 + 5 * f + 1) (by omega) (by omega) (by omega) (by omega)]
    exact i5 f hf
  · rw [e (21 + 14 * k + 4 * f) (by omega) (by omega) (by omega) (by omega), e (24 + 14 * k + 4 * f) (by omega) (by omega) (by omega) (by omega), e (22 + 14 * k + 4 * f + 1) (by omega) (by omega) (by omega) (by omega)]
    exact i6 k hk f hf
  · rw [e (75) (by omega) (by omega) (by omega) (by omega), e (76) (by omega) (by omega) (by omega) (by omega), e (77) (by omega) (by omega) (by omega) (by omega), e (78) (by omega) (by omega) (by omega) (by omega), e (79) (by omega) (by omega) (by omega) (by omega)]
    exact i7
  · rw [e (83) (by omega) (by omega) (by omega) (by omega)]
    exact i8
  · rw [e (84) (by omega) (by omega) (by omega) (by omega)]
    exact i9
  · rw [e85 4 (by decide), e0 4 (by decide)]
    exact r1
  · rw [e (86) (by omega) (by omega) (by omega) (by omega), e (1) (by omega) (by omega) (by omega) (by omega)]
    exact r2
  · rw [e (87) (by omega) (by omega) (by omega) (by omega), e (3 + 5 * f) (by omega) (by omega) (by omega) (by omega)]
    exact r3 f hf
  · rw [e (88) (by omega) (by omega) (by omega) (by omega), e (6 + 5 * f + 1) (by omega) (by omega) (by omega) (by omega)]
    exact r4 f hf
  · rw [e (89) (by omega) (by omega) (by omega) (by omega), e (90) (by omega) (by omega) (by omega) (by omega), e (91) (by omega) (by omega) (by omega) (by omega), e (21 + 14 * k + 4 * f) (by omega) (by omega) (by omega) (by omega), e (22 + 14 * k + 4 * f + 1) (by omega) (by omega) (by omega) (by omega), e (24 + 14 * k + 4 * f) (by omega) (by omega) (by omega) (by omega)]
    exact r5 k hk f hf
  · rw [e (92) (by omega) (by omega) (by omega) (by omega), e (93) (by omega) (by omega) (by omega) (by omega), e (94) (by omega) (by omega) (by omega) (by omega), e (19 + 14 * k) (by omega) (by omega) (by omega) (by omega)]
    exact r6 k hk
  · rw [e85 13 (by omega), e85 14 (by omega), e85 15 (by omega), e (95) (by omega) (by omega) (by omega) (by omega), e (96) (by omega) (by omega) (by omega) (by omega), e (97) (by omega) (by omega) (by omega) (by omega), e (75) (by omega) (by omega) (by omega) (by omega), e (76) (by omega) (by omega) (by omega) (by omega), e (77) (by omega) (by omega) (by omega) (by omega), e (78) (by omega) (by omega) (by omega) (by omega)]
    exact r7
  · rw [e85 21 (by decide), e0 10 (by decide), e (99) (by omega) (by omega) (by omega) (by omega), e (81) (by omega) (by omega) (by omega) (by omega), e08]
    exact ⟨m1, fun x hx => by rw [e80]; exact m2 x hx, q3, q4⟩
  · rw [hM, k0]
    exact r9
  · rw [hM, k1]
    exact r10
  · rw [e0 4 (by decide)] at hf
    rw [e (4 + 5 * f) (by omega) (by omega) (by omega) (by omega), e (5 + 5 * f) (by omega) (by omega) (by omega) (by omega), k0, k1]
    exact x1 f hf
  · rw [e0 4 (by decide)] at hf
    obtain ⟨a1, a2, a3⟩ := x2 f hf hf3
    exact ⟨by rw [e (3 + 5 * f) (by omega) (by omega) (by omega) (by omega)]; exact a1, by rw [e (6 + 5 * f + 1) (by omega) (by omega) (by omega) (by omega)]; exact a2, fun k hk => by rw [e (21 + 14 * k + 4 * f) (by omega) (by omega) (by omega) (by omega)]; exact a3 k hk⟩
  · rw [e (75) (by omega) (by omega) (by omega) (by omega), e0 4 (by decide)]
    exact x3
theorem st_locate (g : jG) (hb : jaN g < 2 ^ 31) {V : Nat → Nat → Nat} {L : Nat → Nat → Int64} {i : Nat} (hV : jInv V L) (hi : i + 6 ≤ jaN g) : jGo g jInv V L i 820 := by
  intro kC kS Q k n hk hn kk
  obtain ⟨hI, hR, hX⟩ := id hV
  have hN := jN_of hI hR
  have h3 := hI.F
  have kk0 := fun x => kk (vu V 85 0 x) L k n (jInv_t x hV) (by omega) (by omega)
  have kk1 := fun x z => kk (vu V 85 0 x) (jupL L 103 0 z) (k + 1) (n + 6) (jInv_o z (jInv_t x hV)) (by omega) (by omega)
  have kk2 := fun x => kk (vu V 85 0 x) L (k + 1) (n + 6) (jInv_t x hV) (by omega) (by omega)
  have hkk := (kpr_mrw hI hR (jxs g (i + 2)) (jxs g (i + 1)) 0).2
  by_cases h1 : kps V (jxs g (i + 2)) (jxs g (i + 1)) = 0
  · exact law_locate g kC kS Q V L k n i hk hn hi hb V _ L L 1 (by omega) (wt1_locate g V L _ _ V L (t1_D_locate g V L hI _ _ h1)) (nI 0) (n_M_locate g V L hN _ _ (by rw [hkk]; exact h1)) rfl (fun h => by omega) (kk2 1)
  · obtain ⟨c, f, hc, hf, ek, ef, hh⟩ := kps_of hI h1
    have hrc := hI.rc (show f < 3 by omega)
    have hwd := hI.w (show f < 3 by omega)
    have nq : ∀ m a, 85 ≤ a → lcv V c f m a = V a := fun m a ha => lcv_nq (by omega) (by omega) m
    have hrs : mrs (lcv V c f (V (3 + 5 * f) 1)) f = V (3 + 5 * f) 1 := by unfold mrs; rw [nq _ 87 (by omega)]; exact hR.rs hI (by omega)
    generalize hm : V (3 + 5 * f) 1 = m at *
    have m1 := (mlc_lcv (V1 := lcv V c f m) (M := jupL L 103 0 (nI (lcv V c f m 0 8)).toInt64) hV rfl (nq m) hc hf m (by omega)).1
    refine law_locate g kC kS Q V L k n i hk hn hi hb (lcv V c f m) (mlc (lcv V c f m) (jupL L 103 0 (nI (lcv V c f m 0 8)).toInt64) c f m) (jupL L 103 0 (nI (lcv V c f m 0 8)).toInt64) _ 0 (by omega) ?_ (nI (lcv V c f m 0 8)) ?_ ?_ (fun _ => ?_) (kk _ _ _ _ (inv_locate hV rfl rfl rfl hc hf (by omega)) (by omega) (by omega))
    · rw [ek, ef]
      refine w_locate g V L _ _ _ L _ ?_
      have e := c_D_locate g V L hI c hc f hf hh
      rw [hm] at e
      exact e
    · rw [ek, ef]
      have e := c_M_locate g (lcv V c f m) (jupL L 103 0 (nI (lcv V c f m 0 8)).toInt64) (jN_c (fun a h1 _ => nq m a h1) hN) c f hc (by rw [nq m 85 (by omega), hR.F]; exact hf) (by rw [nq m 89 (by omega), hR.hs hc (by omega)]; exact hh)
      rw [hrs, m1] at e
      exact e
    · exact mlc_th _ _ _ _ m
    · rw [jupL_q]
      exact if_pos rfl
theorem bcm_N {V : Nat → Nat → Nat} {k f r2 : Nat} (h1 : r2 + 1 ≠ 24 + 14 * k + 4 * f) (h2 : r2 + 1 ≠ 22 + 14 * k + 4 * f + 1) : ∀ t x, bcm V k f r2 t (22 + 14 * k + 4 * f + 1) x = if x < 5 * t then V (r2 + 1) x else V (22 + 14 * k + 4 * f + 1) x
  | 0, x => by
    rw [if_neg (by omega)]
    rfl
  | t + 1, x => by
    show tak _ _ _ _ _ _ = _
    unfold tak
    by_cases h : t * 5 ≤ x ∧ x < t * 5 + 5
    · rw [if_pos ⟨rfl, h⟩, if_pos (by omega), vu_nq _ _ _ h1, bcm_nq h1 h2]
    · rw [if_neg (fun z => h z.2), vu_nq _ _ _ (by omega), bcm_N h1 h2 t x]
      by_cases h5 : x < 5 * t
      · rw [if_pos h5, if_pos (by omega)]
      · rw [if_neg h5, if_neg (by omega)]
theorem bcm_T {V : Nat → Nat → Nat} {k f r2 : Nat} : ∀ t x, bcm V k f r2 t (24 + 14 * k + 4 * f) x = if x < t then 0 else V (24 + 14 * k + 4 * f) x
  | 0, x => by
    rw [if_neg (by omega)]
    rfl
  | t + 1, x => by
    show tak _ _ _ _ _ _ = _
    unfold tak
    rw [if_neg (by omega)]
    by_cases h : x = t
    · rw [if_pos (by omega)]
      exact if_pos ⟨rfl, h⟩
    · refine (if_neg (fun z => h z.2)).trans ?_
      rw [bcm_T t x]
      by_cases h5 : x < t
      · rw [if_pos h5, if_pos (by omega)]
      · rw [if_neg h5, if_neg (by omega)]
theorem mpl_90 {X : Nat → Nat → Nat} {k f : Nat} : ∀ t x, mpl X k f t 90 x = if 360 * k + 120 * f ≤ x ∧ x < 360 * k + 120 * f + 5 * t then X 88 (x - 360 * k) else X 90 x
  | 0, x => by
    rw [if_neg (by omega)]
    rfl
  | t + 1, x => by
    show mpt _ _ _ _ 90 x = _
    unfold mpt
    by_cases h : 360 * k + 5 * (24 * f + t) ≤ x ∧ x < 360 * k + 5 * (24 * f + t) + 5
    · rw [if_pos ⟨rfl, h⟩, if_pos (by omega), mpl_nq (by decide) (by decide)]
    · rw [if_neg (fun z => h z.2), if_neg (by omega), mpl_90 t x]
      by_cases h5 : 360 * k + 120 * f ≤ x ∧ x < 360 * k + 120 * f + 5 * t
      · rw [if_pos h5, if_pos (by omega)]
      · rw [if_neg h5, if_neg (by omega)]
theorem mpl_91 {X : Nat → Nat → Nat} {k f : Nat} : ∀ t x, mpl X k f t 91 x = if 72 * k + 24 * f ≤ x ∧ x < 72 * k + 24 * f + t then 0 else X 91 x
  | 0, x => by
    rw [if_neg (by omega)]
    rfl
  | t + 1, x => by
    show mpt _ _ _ _ 91 x = _
    unfold mpt
    rw [if_neg (fun z => absurd z.1 (by decide))]
    by_cases h : x = 72 * k + 24 * f + t
    · rw [if_pos ⟨rfl, h⟩, if_pos (by omega)]
    · rw [if_neg (fun z => h z.2), mpl_91 t x]
      by_cases h5 : 72 * k + 24 * f ≤ x ∧ x < 72 * k + 24 * f + t
      · rw [if_pos h5, if_pos (by omega)]
      · rw [if_neg h5, if_neg (by omega)]
theorem inv_place {V : Nat → Nat → Nat} {L : Nat → Nat → Int64} (hV : jInv V L) {c d m : Nat} (hc : c < 4) (hd : d < V 0 4) (hm : m ≤ 24) : jInv (mpl (vu (vu (vu (bcm V c d (6 + 5 * d) m) (21 + 14 * c + 4 * d) 0 1) 85 0 0) 89 (3 * c + d) 1) c d m) (L) := by
  obtain ⟨hI, hR, hX⟩ := hV
  have h3 := hI.F
  obtain ⟨i1, i2, i3, i4, i5, i6, i7, i8, i9⟩ := id hI
  obtain ⟨x1, x2, x3⟩ := id hX
  obtain ⟨⟨r1, r2, r3, r4⟩, r5, r6, r7, r8, r9, r10⟩ := id hR
  have e : ∀ a, a ≠ 21 + 14 * c + 4 * d → a ≠ 24 + 14 * c + 4 * d → a ≠ 22 + 14 * c + 4 * d + 1 → a ≠ 85 → a ≠ 89 → a ≠ 90 → a ≠ 91 → (mpl (vu (vu (vu (bcm V c d (6 + 5 * d) m) (21 + 14 * c + 4 * d) 0 1) 85 0 0) 89 (3 * c + d) 1) c d m) a = V a := fun a n1 n2 n3 n4 n5 n6 n7 => by rw [mpl_nq n6 n7, vu_nq _ _ _ n5, vu_nq _ _ _ n4, vu_nq _ _ _ n1, bcm_nq n2 n3]
  have e85 : ∀ x, x ≠ 0 → (mpl (vu (vu (vu (bcm V c d (6 + 5 * d) m) (21 + 14 * c + 4 * d) 0 1) 85 0 0) 89 (3 * c + d) 1) c d m) 85 x = V 85 x := fun x hx => by rw [mpl_nq (by decide) (by decide), vu_nq _ _ _ (by decide)]; exact (if_neg (fun z => hx z.2)).trans (by rw [vu_nq _ _ _ (by omega), bcm_nq (by omega) (by omega)])
  have eL : ∀ q, q < 85 → (mpl (vu (vu (vu (bcm V c d (6 + 5 * d) m) (21 + 14 * c + 4 * d) 0 1) 85 0 0) 89 (3 * c + d) 1) c d m) q = (vu (bcm V c d (6 + 5 * d) m) (21 + 14 * c + 4 * d) 0 1) q := fun q hq => by rw [mpl_nq (by omega) (by omega), vu_nq _ _ _ (by omega), vu_nq _ _ _ (by omega)]
  have eX : ∀ q, 85 < q → q ≠ 89 → (vu (vu (vu (bcm V c d (6 + 5 * d) m) (21 + 14 * c + 4 * d) 0 1) 85 0 0) 89 (3 * c + d) 1) q = V q := fun q hq hn => by rw [vu_nq _ _ _ hn, vu_nq _ _ _ (by omega), vu_nq _ _ _ (by omega), bcm_nq (by omega) (by omega)]
  have e89 : ∀ x, (mpl (vu (vu (vu (bcm V c d (6 + 5 * d) m) (21 + 14 * c + 4 * d) 0 1) 85 0 0) 89 (3 * c + d) 1) c d m) 89 x = if x = 3 * c + d then 1 else V 89 x := fun x => by
    rw [mpl_nq (by decide) (by decide)]
    by_cases h : x = 3 * c + d
    · rw [if_pos h]
      exact if_pos ⟨rfl, h⟩
    · rw [if_neg h]
      exact (if_neg (fun z => h z.2)).trans (by rw [vu_nq _ _ _ (by omega), vu_nq _ _ _ (by omega), bcm_nq (by omega) (by omega)])
  have eH : ∀ k f, k < 4 → f < 3 → (mpl (vu (vu (vu (bcm V c d (6 + 5 * d) m) (21 + 14 * c + 4 * d) 0 1) 85 0 0) 89 (3 * c + d) 1) c d m) (21 + 14 * k + 4 * f) 0 = if k = c ∧ f = d then 1 else V (21 + 14 * k + 4 * f) 0 := fun k f hk hf => by
    rw [eL _ (by omega)]
    by_cases h : k = c ∧ f = d
    · rw [if_pos h]
      exact if_pos (by omega)
    · rw [if_neg h]
      exact (if_neg (by omega)).trans (by rw [bcm_nq (by omega) (by omega)])
  have eN : ∀ k f x, k < 4 → f < 3 → (mpl (vu (vu (vu (bcm V c d (6 + 5 * d) m) (21 + 14 * c + 4 * d) 0 1) 85 0 0) 89 (3 * c + d) 1) c d m) (22 + 14 * k + 4 * f + 1) x = if (k = c ∧ f = d) ∧ x < 5 * m then V (6 + 5 * d + 1) x else V (22 + 14 * k + 4 * f + 1) x := fun k f x hk hf => by
    rw [eL _ (by omega), vu_nq _ _ _ (by omega)]
    by_cases h : k = c ∧ f = d
    · obtain ⟨rfl, rfl⟩ := h
      rw [bcm_N (by omega) (by omega)]
      by_cases h5 : x < 5 * m
      · rw [if_pos h5, if_pos ⟨⟨rfl, rfl⟩, h5⟩]
      · rw [if_neg h5, if_neg (fun z => h5 z.2)]
    · rw [if_neg (fun z => h z.1), bcm_nq (by omega) (by omega)]
  have eT : ∀ k f x, k < 4 → f < 3 → (mpl (vu (vu (vu (bcm V c d (6 + 5 * d) m) (21 + 14 * c + 4 * d) 0 1) 85 0 0) 89 (3 * c + d) 1) c d m) (24 + 14 * k + 4 * f) x = if (k = c ∧ f = d) ∧ x < m then 0 else V (24 + 14 * k + 4 * f) x := fun k f x hk hf => by
    rw [eL _ (by omega), vu_nq _ _ _ (by omega)]
    by_cases h : k = c ∧ f = d
    · obtain ⟨rfl, rfl⟩ := h
      rw [bcm_T]
      by_cases h5 : x < m
      · rw [if_pos h5, if_pos ⟨⟨rfl, rfl⟩, h5⟩]
      · rw [if_neg h5, if_neg (fun z => h5 z.2)]
    · rw [if_neg (fun z => h z.1), bcm_nq (by omega) (by omega)]
  refine ⟨⟨?_, ?_, ?_, ?_, fun f hf => ?_, fun k hk f hf => ?_, ?_, ?_, ?_⟩, ⟨⟨?_, ?_, fun f hf => ?_, fun f hf => ?_⟩, fun k hk f hf => ?_, fun k hk => ?_, ?_, ?_, ?_, ?_⟩, fun f hf => ?_, fun f hf hf3 => ?_, ?_⟩
  · rw [e (0) (by omega) (by omega) (by omega) (by omega) (by omega) (by omega) (by omega)]
    exact i1
  · rw [e (0) (by omega) (by omega) (by omega) (by omega) (by omega) (by omega) (by omega)]
    exact i2
  · rw [e (0) (by omega) (by omega) (by omega) (by omega) (by omega) (by omega) (by omega)]
    exact i3
  · rw [e (1) (by omega) (by omega) (by omega) (by omega) (by omega) (by omega) (by omega)]
    exact i4
  · rw [e (3 + 5 * f) (by omega) (by omega) (by omega) (by omega) (by omega) (by omega) (by omega), e (4 + 5 * f) (by omega) (by omega) (by omega) (by omega) (by omega) (by omega) (by omega), e (5 + 5 * f) (by omega) (by omega) (by omega) (by omega) (by omega) (by omega) (by omega), e (6 + 5 * f + 1) (by omega) (by omega) (by omega) (by omega) (by omega) (by omega) (by omega)]
    exact i5 f hf
  · obtain ⟨a1, a2, a3⟩ := i6 k hk f hf
    refine ⟨?_, fun x hx => ?_, fun x hx => ?_⟩
    · rw [eH k f hk hf]
      split
      · omega
      · exact a1
    · rw [eT k f x hk hf]
      split
      · omega
      · exact a2 x hx
    · rw [eN k f x hk hf]
      split
      · exact hI.md (by omega) x hx
      · exact a3 x hx
  · rw [e (75) (by omega) (by omega) (by omega) (by omega) (by omega) (by omega) (by omega), e (76) (by omega) (by omega) (by omega) (by omega) (by omega) (by omega) (by omega), e (77) (by omega) (by omega) (by omega) (by omega) (by omega) (by omega) (by omega), e (78) (by omega) (by omega) (by omega) (by omega) (by omega) (by omega) (by omega), e (79) (by omega) (by omega) (by omega) (by omega) (by omega) (by omega) (by omega)]
    exact i7
  · rw [e (83) (by omega) (by omega) (by omega) (by omega) (by omega) (by omega) (by omega)]
    exact i8
  · rw [e (84) (by omega) (by omega) (by omega) (by omega) (by omega) (by omega) (by omega)]
    exact i9
  · rw [e85 4 (by omega), e (0) (by omega) (by omega) (by omega) (by omega) (by omega) (by omega) (by omega)]
    exact r1
  · rw [e (86) (by omega) (by omega) (by omega) (by omega) (by omega) (by omega) (by omega), e (1) (by omega) (by omega) (by omega) (by omega) (by omega) (by omega) (by omega)]
    exact r2
  · rw [e (87) (by omega) (by omega) (by omega) (by omega) (by omega) (by omega) (by omega), e (3 + 5 * f) (by omega) (by omega) (by omega) (by omega) (by omega) (by omega) (by omega)]
    exact r3 f hf
  · rw [e (88) (by omega) (by omega) (by omega) (by omega) (by omega) (by omega) (by omega), e (6 + 5 * f + 1) (by omega) (by omega) (by omega) (by omega) (by omega) (by omega) (by omega)]
    exact r4 f hf
  · obtain ⟨a1, a2, a3⟩ := r5 k hk f hf
    refine ⟨?_, fun x hx => ?_, fun x hx => ?_⟩
    · rw [e89, eH k f hk hf]
      by_cases h : k = c ∧ f = d
      · rw [if_pos h, if_pos (by omega)]
      · rw [if_neg h, if_neg (by omega)]
        exact a1
    · rw [mpl_90, eX 88 (by decide) (by decide), eX 90 (by decide) (by decide), eN k f x hk hf]
      by_cases h : (k = c ∧ f = d) ∧ x < 5 * m
      · rw [if_pos h, if_pos (by omega), show 360 * k + 120 * f + x - 360 * c = 120 * d + x from by omega]
        exact r4 d (by omega) x hx
      · rw [if_neg h, if_neg (by omega)]
        exact a2 x hx
    · rw [mpl_91, eX 91 (by decide) (by decide), eT k f x hk hf]
      by_cases h : (k = c ∧ f = d) ∧ x < m
      · rw [if_pos h, if_pos (by omega)]
      · rw [if_neg h, if_neg (by omega)]
        exact a3 x hx
  · rw [e (92) (by omega) (by omega) (by omega) (by omega) (by omega) (by omega) (by omega), e (93) (by omega) (by omega) (by omega) (by omega) (by omega) (by omega) (by omega), e (94) (by omega) (by omega) (by omega) (by omega) (by omega) (by omega) (by omega), e (19 + 14 * k) (by omega) (by omega) (by omega) (by omega) (by omega) (by omega) (by omega)]
    exact r6 k hk
  · rw [e85 13 (by omega), e85 14 (by omega), e85 15 (by omega), e (95) (by omega) (by omega) (by omega) (by omega) (by omega) (by omega) (by omega), e (96) (by omega) (by omega) (by omega) (by omega) (by omega) (by omega) (by omega), e (97) (by omega) (by omega) (by omega) (by omega) (by omega) (by omega) (by omega), e (75) (by omega) (by omega) (by omega) (by omega) (by omega) (by omega) (by omega), e (76) (by omega) (by omega) (by omega) (by omega) (by omega) (by omega) (by omega), e (77) (by omega) (by omega) (by omega) (by omega) (by omega) (by omega) (by omega), e (78) (by omega) (by omega) (by omega) (by omega) (by omega) (by omega) (by omega)]
    exact r7
  · rw [e85 19 (by omega), e85 21 (by omega), e (98) (by omega) (by omega) (by omega) (by omega) (by omega) (by omega) (by omega), e (99) (by omega) (by omega) (by omega) (by omega) (by omega) (by omega) (by omega), e (0) (by omega) (by omega) (by omega) (by omega) (by omega) (by omega) (by omega), e (80) (by omega) (by omega) (by omega) (by omega) (by omega) (by omega) (by omega), e (81) (by omega) (by omega) (by omega) (by omega) (by omega) (by omega) (by omega)]
    exact r8
  · exact r9
  · exact r10
  · rw [e 0 (by omega) (by omega) (by omega) (by omega) (by omega) (by omega) (by omega)] at hf
    rw [e (4 + 5 * f) (by omega) (by omega) (by omega) (by omega) (by omega) (by omega) (by omega), e (5 + 5 * f) (by omega) (by omega) (by omega) (by omega) (by omega) (by omega) (by omega)]
    exact x1 f hf
  · rw [e (0) (by omega) (by omega) (by omega) (by omega) (by omega) (by omega) (by omega)] at hf
    obtain ⟨a1, a2, a3⟩ := x2 f hf hf3
    exact ⟨by rw [e (3 + 5 * f) (by omega) (by omega) (by omega) (by omega) (by omega) (by omega) (by omega)]; exact a1, by rw [e (6 + 5 * f + 1) (by omega) (by omega) (by omega) (by omega) (by omega) (by omega) (by omega)]; exact a2, fun k hk => by rw [eH k f hk hf3, if_neg (by omega)]; exact a3 k hk⟩
  · rw [e (75) (by omega) (by omega) (by omega) (by omega) (by omega) (by omega) (by omega), e (0) (by omega) (by omega) (by omega) (by omega) (by omega) (by omega) (by omega)]
    exact x3
theorem st_place (g : jG) (hb : jaN g < 2 ^ 31) {V : Nat → Nat → Nat} {L : Nat → Nat → Int64} {i : Nat} (hV : jInv V L) (hi : i + 6 ≤ jaN g) : jGo g jInv V L i 337 := by
  intro kC kS Q k n hk hn kk
  obtain ⟨hI, hR, hX⟩ := id hV
  have hN := jN_of hI hR
  have h3 := hI.F
  have kk0 := fun x => kk (vu V 85 0 x) L k n (jInv_t x hV) (by omega) (by omega)
  have kk1 := fun x z => kk (vu V 85 0 x) (jupL L 103 0 z) (k + 1) (n + 6) (jInv_o z (jInv_t x hV)) (by omega) (by omega)
  have kk2 := fun x => kk (vu V 85 0 x) L (k + 1) (n + 6) (jInv_t x hV) (by omega) (by omega)
  by_cases h : isf V (jxs g (i + 1)) = 0 ∨ isn 4 (jxs g (i + 2)) = 0
  · exact law_place g kC kS Q V L k n i hk hn hi hb V _ L L 1 (by omega) (wt2_place g V L _ _ V L (t2_D_place g V L _ _ h)) 0 (by omega) (n_M_place g V L _ _ (by rw [hR.F]; exact h)) rfl (fun h => by omega) (kk2 1)
  · obtain ⟨h1, h2⟩ := not_or.mp h
    obtain ⟨f, hf, ef⟩ := isf_of h3 h1
    obtain ⟨c, hc, ek⟩ := isn_of (by decide) h2
    have hrc := hI.rc (show f < 3 by omega)
    have hwd := hI.w (show f < 3 by omega)
    have hmf : f < V 85 4 := by rw [hR.F]; exact hf
    have hmh := hR.hs hc (show f < 3 by omega)
    have hhd := hI.hd hc (show f < 3 by omega)
    by_cases hh : V (21 + 14 * c + 4 * f) 0 = 1
    · refine law_place g kC kS Q V L k n i hk hn hi hb V _ (jupL L 103 0 (lN 0)) _ 0 (by omega) ?_ 0 (by omega) ?_ rfl (fun _ => ?_) (kk1 0 (lN 0))
      · rw [ek, ef]
        exact w_place g V L _ _ V L 0 (by omega) (c0_D_place g V L hI c hc f hf hh)
      · rw [ek, ef]
        exact c0_M_place g V _ hN c f hc hmf (by rw [hmh]; exact hh)
      · rw [jupL_q]
        exact if_pos rfl
    · have nq : ∀ a, 85 ≤ a → vu (bcm V c f (6 + 5 * f) (V (3 + 5 * f) 1)) (21 + 14 * c + 4 * f) 0 1 a = V a := fun a ha => by rw [vu_nq _ _ _ (by omega), bcm_nq (by omega) (by omega)]
      have hrs : mrs (vu (bcm V c f (6 + 5 * f) (V (3 + 5 * f) 1)) (21 + 14 * c + 4 * f) 0 1) f = V (3 + 5 * f) 1 := by unfold mrs; rw [nq 87 (by omega)]; exact hR.rs hI (by omega)
      refine law_place g kC kS Q V L k n i hk hn hi hb (vu (bcm V c f (6 + 5 * f) (V (3 + 5 * f) 1)) (21 + 14 * c + 4 * f) 0 1) _ (jupL L 103 0 (lN 1)) _ 0 (by omega) ?_ 1 (by omega) ?_ ?_ (fun _ => ?_) (kk _ _ _ _ (jInv_o (lN 1) (inv_place (m := V (3 + 5 * f) 1) hV hc hf (by omega))) (by omega) (by omega))
      · rw [ek, ef]
        exact w_place g V L _ _ _ L 1 (by omega) (c1_D_place g V L hI c hc f hf (by omega))
      · rw [ek, ef]
        have e := c1_M_place g (vu (bcm V c f (6 + 5 * f) (V (3 + 5 * f) 1)) (21 + 14 * c + 4 * f) 0 1) (jupL L 103 0 (lN 1)) (jN_c (fun a h1 _ => nq a h1) hN) c f hc (by rw [nq 85 (by omega)]; exact hmf) (by rw [nq 89 (by omega), hmh]; omega)
        rw [hrs] at e
        exact e
      · rw [mpl_nq (by decide) (by decide)]
        rfl
      · rw [jupL_q]
        exact if_pos rfl
