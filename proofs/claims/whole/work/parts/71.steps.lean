/-! the rounds that change nothing but the mark: found, fetched, asked, made, kept, rota, score -/
theorem st_found (g : jG) (hb : jaN g < 2 ^ 31) {V : Nat → Nat → Nat} {L : Nat → Nat → Int64} {i : Nat} (hV : jInv V L) (hi : i + 6 ≤ jaN g) : jGo g jInv V L i 888 := by
  intro kC kS Q k n hk hn kk
  obtain ⟨hI, hR, hX⟩ := id hV
  have hN := jN_of hI hR
  have h3 := hI.F
  have kk0 := fun x => kk (vu V 85 0 x) L k n (jInv_t x hV) (by omega) (by omega)
  have kk1 := fun x z => kk (vu V 85 0 x) (jupL L 103 0 z) (k + 1) (n + 6) (jInv_o z (jInv_t x hV)) (by omega) (by omega)
  have kk2 := fun x => kk (vu V 85 0 x) L (k + 1) (n + 6) (jInv_t x hV) (by omega) (by omega)
  have e := hR.fo
  have hc := hI.bc
  by_cases h : isn (V 0 8) (jxs g (i + 1)) = 0
  · exact law_found g kC kS Q V L k n i hk hn hi hb V _ L L (-1) (n_D_found g V L _ h) (n_M_found g V L _ (by rw [e]; exact h)) (kk0 0)
  · obtain ⟨j, hj, ej⟩ := isn_of (by omega) h
    refine law_found g kC kS Q V L k n i hk hn hi hb V _ L L (nI (V 80 j)) ?_ ?_ (kk0 0)
    · rw [ej]
      exact c_D_found g V L hI j hj
    · rw [ej, ← hR.bd j (by omega)]
      exact c_M_found g V L hN j (by rw [e]; exact hj)
theorem st_fetched (g : jG) (hb : jaN g < 2 ^ 31) {V : Nat → Nat → Nat} {L : Nat → Nat → Int64} {i : Nat} (hV : jInv V L) (hi : i + 6 ≤ jaN g) : jGo g jInv V L i 1037 := by
  intro kC kS Q k n hk hn kk
  obtain ⟨hI, hR, hX⟩ := id hV
  have hN := jN_of hI hR
  have h3 := hI.F
  have kk0 := fun x => kk (vu V 85 0 x) L k n (jInv_t x hV) (by omega) (by omega)
  have kk1 := fun x z => kk (vu V 85 0 x) (jupL L 103 0 z) (k + 1) (n + 6) (jInv_o z (jInv_t x hV)) (by omega) (by omega)
  have kk2 := fun x => kk (vu V 85 0 x) L (k + 1) (n + 6) (jInv_t x hV) (by omega) (by omega)
  have e := hR.fe
  have hc := hI.fc
  by_cases h : isn (V 0 10) (jxs g (i + 1)) = 0
  · exact law_fetched g kC kS Q V L k n i hk hn hi hb V _ L L (-1) (n_D_fetched g V L _ h) (n_M_fetched g V L _ (by rw [e]; exact h)) (kk0 0)
  · obtain ⟨j, hj, ej⟩ := isn_of (by omega) h
    refine law_fetched g kC kS Q V L k n i hk hn hi hb V _ L L (nI (V 81 j)) ?_ ?_ (kk0 0)
    · rw [ej]
      exact c_D_fetched g V L hI j hj
    · rw [ej, ← hR.ft j (by omega)]
      exact c_M_fetched g V L hN j (by rw [e]; exact hj)
theorem st_asked (g : jG) (hb : jaN g < 2 ^ 31) {V : Nat → Nat → Nat} {L : Nat → Nat → Int64} {i : Nat} (hV : jInv V L) (hi : i + 6 ≤ jaN g) : jGo g jInv V L i 695 := by
  intro kC kS Q k n hk hn kk
  obtain ⟨hI, hR, hX⟩ := id hV
  have hN := jN_of hI hR
  have h3 := hI.F
  have kk0 := fun x => kk (vu V 85 0 x) L k n (jInv_t x hV) (by omega) (by omega)
  have kk1 := fun x z => kk (vu V 85 0 x) (jupL L 103 0 z) (k + 1) (n + 6) (jInv_o z (jInv_t x hV)) (by omega) (by omega)
  have kk2 := fun x => kk (vu V 85 0 x) L (k + 1) (n + 6) (jInv_t x hV) (by omega) (by omega)
  have hp := hI.ps
  have hcm := hI.cm
  generalize hw : jxs g (i + 1) = zw
  generalize hz : jxs g (i + 2) = zi
  have go : ∀ z, jK g Y_D_asked (0, 0) [.ref (jb g + 0), .int zw, .int zi] V L (jA0 (some (.int z)) V L) → jK g Y_M_asked (0, 0) [.ref (jb g + 85), .int zw, .int zi] V L (jA0 (some (.int z)) (vu V 85 0 0) L) → jJ (g, Y_W_law, (10, 388), kC, kS, Q) [(0, .ref (jaS g)), (1, .ref (jb g + 0)), (2, .ref (jb g + 85)), (3, .ref (jb g + 103)), (4, .int (nI i))] (jv (g, Y_W_law, (10, 388), kC, kS, Q) V L k n) 695 [] := fun z hC hM =>
    law_asked g kC kS Q V L k n i hk hn hi hb V _ L L z (by rw [hw, hz]; exact hC) (by rw [hw, hz]; exact hM) (kk0 0)
  have none_ : (V 75 0 = 0 ∨ zi < 0 ∨ ((zw = 0 → nI (V 75 3) ≤ zi) ∧ (zw = nI 1 → nI (V 75 3) ≤ zi) ∧ (zw = nI 2 → nI 5 ≤ zi))) → jJ (g, Y_W_law, (10, 388), kC, kS, Q) [(0, .ref (jaS g)), (1, .ref (jb g + 0)), (2, .ref (jb g + 85)), (3, .ref (jb g + 103)), (4, .int (nI i))] (jv (g, Y_W_law, (10, 388), kC, kS, Q) V L k n) 695 [] := fun h => by
    refine go (-1) (n_D_asked g V L hI zw zi h) (n_M_asked g V L hN zw zi ?_)
    rcases (show V 75 0 = 0 ∨ V 75 0 = 1 by omega) with h0 | h0
    · exact Or.inl (hR.p0 h0)
    · rw [(hR.p1 h0).1]
      rcases h with h1 | h1
      · omega
      · exact Or.inr h1
  rcases (show V 75 0 = 0 ∨ V 75 0 = 1 by omega) with h0 | h0
  · exact none_ (Or.inl h0)
  · obtain ⟨e13, h1⟩ := hR.p1 h0
    by_cases hn0 : zi < 0
    · exact none_ (Or.inr (Or.inl hn0))
    · by_cases w0 : zw = 0
      · by_cases hl : nI (V 75 3) ≤ zi
        · exact none_ (Or.inr (Or.inr ⟨fun _ => hl, fun _ => hl, fun e => absurd (w0.symm.trans e) (by decide)⟩))
        · obtain ⟨j, hj, rfl⟩ := isn_of (n := V 75 3) (z := zi) (by omega) (by unfold isn; rw [if_pos ⟨hn0, hl⟩]; decide)
          subst w0
          exact go (nI (V 76 j)) (c0_D_asked g V L hI h0 j hj) (by rw [← (hR.pr j (by omega)).1]; exact c0_M_asked g V L hN j (by rw [e13]; exact hj))
      · by_cases w1 : zw = nI 1
        · by_cases hl : nI (V 75 3) ≤ zi
          · exact none_ (Or.inr (Or.inr ⟨fun _ => hl, fun _ => hl, fun e => absurd (w1.symm.trans e) (by decide)⟩))
          · obtain ⟨j, hj, rfl⟩ := isn_of (n := V 75 3) (z := zi) (by omega) (by unfold isn; rw [if_pos ⟨hn0, hl⟩]; decide)
            subst w1
            exact go (nI (V 77 j)) (c1_D_asked g V L hI h0 j hj) (by rw [← (hR.pr j (by omega)).2]; exact c1_M_asked g V L hN j (by rw [e13]; exact hj))
        · by_cases w2 : zw = nI 2
          · by_cases hl : nI 5 ≤ zi
            · exact none_ (Or.inr (Or.inr ⟨fun e => absurd e w0, fun e => absurd e w1, fun _ => hl⟩))
            · obtain ⟨j, hj, rfl⟩ := isn_of (n := 5) (z := zi) (by omega) (by unfold isn; rw [if_pos ⟨hn0, hl⟩]; decide)
              subst w2
              exact go (nI (V 78 j)) (c2_D_asked g V L h0 j hj) (by rw [← hR.pa j hj]; exact c2_M_asked g V L hN (by omega) j hj)
          · exact none_ (Or.inr (Or.inr ⟨fun e => absurd e w0, fun e => absurd e w1, fun e => absurd e w2⟩))
theorem st_made (g : jG) (hb : jaN g < 2 ^ 31) {V : Nat → Nat → Nat} {L : Nat → Nat → Int64} {i : Nat} (hV : jInv V L) (hi : i + 6 ≤ jaN g) : jGo g jInv V L i 1062 := by
  intro kC kS Q k n hk hn kk
  obtain ⟨hI, hR, hX⟩ := id hV
  have hN := jN_of hI hR
  have h3 := hI.F
  have kk0 := fun x => kk (vu V 85 0 x) L k n (jInv_t x hV) (by omega) (by omega)
  have kk1 := fun x z => kk (vu V 85 0 x) (jupL L 103 0 z) (k + 1) (n + 6) (jInv_o z (jInv_t x hV)) (by omega) (by omega)
  have kk2 := fun x => kk (vu V 85 0 x) L (k + 1) (n + 6) (jInv_t x hV) (by omega) (by omega)
  by_cases h : isf V (jxs g (i + 1)) = 0 ∨ isn (V (3 + 5 * (jxs g (i + 1)).toNatClampNeg) 1) (jxs g (i + 2)) = 0 ∨ isn 5 (jxs g (i + 3)) = 0
  · refine law_made g kC kS Q V L k n i hk hn hi hb V _ L L 1 (by omega) (wt2_made g V L _ _ _ V L (t2_D_made g V L hI _ _ _ h)) (nI 0) (n_M_made g V L hN _ _ _ ?_) rfl (fun h => by omega) (kk2 1)
    by_cases h1 : isf V (jxs g (i + 1)) = 0
    · exact Or.inl (by rw [hR.F]; exact h1)
    · obtain ⟨f, hf, ef⟩ := isf_of h3 h1
      rw [ef, nI_clamp (by omega)] at h ⊢
      rw [hR.F, hR.rs hI (by omega)]
      exact h
  · obtain ⟨h1, h2⟩ := not_or.mp h
    obtain ⟨h2, h4⟩ := not_or.mp h2
    obtain ⟨f, hf, ef⟩ := isf_of h3 h1
    have hrc := hI.rc (show f < 3 by omega)
    have hwd := hI.w (show f < 3 by omega)
    rw [ef, nI_clamp (by omega)] at h2
    obtain ⟨r, hr, er⟩ := isn_of (by omega) h2
    obtain ⟨j, hj, ej⟩ := isn_of (by omega) h4
    refine law_made g kC kS Q V L k n i hk hn hi hb V _ (jupL L 103 0 (nI (V (6 + 5 * f + 1) (r * 5 + j))).toInt64) _ 0 (by omega) ?_ (nI (V (6 + 5 * f + 1) (r * 5 + j))) ?_ rfl (fun _ => ?_) (kk1 0 (nI (V (6 + 5 * f + 1) (r * 5 + j))).toInt64)
    · rw [ef, er, ej]
      exact w_made g V L _ _ _ V L _ (c_D_made g V L hI f hf r hr j hj)
    · rw [ef, er, ej, ← hR.md (show f < 3 by omega) (by omega) hj]
      exact c_M_made g V _ hN f (by rw [hR.F]; exact hf) r (by rw [hR.rs hI (by omega)]; exact hr) j hj
    · rw [jupL_q]
      exact if_pos rfl
theorem st_kept (g : jG) (hb : jaN g < 2 ^ 31) {V : Nat → Nat → Nat} {L : Nat → Nat → Int64} {i : Nat} (hV : jInv V L) (hi : i + 6 ≤ jaN g) : jGo g jInv V L i 1142 := by
  intro kC kS Q k n hk hn kk
  obtain ⟨hI, hR, hX⟩ := id hV
  have hN := jN_of hI hR
  have h3 := hI.F
  have kk0 := fun x => kk (vu V 85 0 x) L k n (jInv_t x hV) (by omega) (by omega)
  have kk1 := fun x z => kk (vu V 85 0 x) (jupL L 103 0 z) (k + 1) (n + 6) (jInv_o z (jInv_t x hV)) (by omega) (by omega)
  have kk2 := fun x => kk (vu V 85 0 x) L (k + 1) (n + 6) (jInv_t x hV) (by omega) (by omega)
  have hkk := kpr_mrw hI hR (jxs g (i + 1)) (jxs g (i + 2)) (jxs g (i + 3))
  by_cases h : kpr V (jxs g (i + 1)) (jxs g (i + 2)) (jxs g (i + 3)) = 0 ∨ (isn 5 (jxs g (i + 4)) = 0 ∧ ¬ jxs g (i + 4) = nI 5)
  · exact law_kept g kC kS Q V L k n i hk hn hi hb V _ L L 1 (by omega) (wt1_kept g V L _ _ _ _ V L (t1_D_kept g V L hI _ _ _ _ h)) (nI 0) (n_M_kept g V L hN _ _ _ _ (by rw [hkk.1]; exact h)) rfl (fun h => by omega) (kk2 1)
  · obtain ⟨h1, h2⟩ := not_or.mp h
    obtain ⟨k', f, r, hk', hf, hr, ek, ef, er, hh⟩ := kpr_of hI h1
    have hrc := hI.rc (show f < 3 by omega)
    have hwd := hI.w (show f < 3 by omega)
    have hmf : f < V 85 4 := by rw [hR.F]; exact hf
    have hmr : r < mrs V f := by rw [hR.rs hI (by omega)]; exact hr
    have hmh : V 89 (3 * k' + f) = 1 := by rw [hR.hs hk' (by omega)]; exact hh
    by_cases h5 : jxs g (i + 4) = nI 5
    · refine law_kept g kC kS Q V L k n i hk hn hi hb V _ (jupL L 103 0 (nI (V (24 + 14 * k' + 4 * f) r)).toInt64) _ 0 (by omega) ?_ (nI (V (24 + 14 * k' + 4 * f) r)) ?_ rfl (fun _ => ?_) (kk1 0 (nI (V (24 + 14 * k' + 4 * f) r)).toInt64)
      · rw [ek, ef, er, h5]
        exact w_kept g V L _ _ _ _ V L _ (c5_D_kept g V L hI k' hk' f hf r hr hh)
      · rw [ek, ef, er, h5, ← hR.ls hk' (show f < 3 by omega) (by omega)]
        exact c5_M_kept g V _ hN k' f hk' hmf r hmr hmh
      · rw [jupL_q]
        exact if_pos rfl
    · obtain ⟨j, hj, ej⟩ := isn_of (n := 5) (by omega) (fun e => h2 ⟨e, h5⟩)
      refine law_kept g kC kS Q V L k n i hk hn hi hb V _ (jupL L 103 0 (nI (V (22 + 14 * k' + 4 * f + 1) (r * 5 + j))).toInt64) _ 0 (by omega) ?_ (nI (V (22 + 14 * k' + 4 * f + 1) (r * 5 + j))) ?_ rfl (fun _ => ?_) (kk1 0 (nI (V (22 + 14 * k' + 4 * f + 1) (r * 5 + j))).toInt64)
      · rw [ek, ef, er, ej]
        exact w_kept g V L _ _ _ _ V L _ (c_D_kept g V L hI k' hk' f hf r hr hh j hj)
      · rw [ek, ef, er, ej, ← hR.kp hk' (show f < 3 by omega) (by omega) hj]
        exact c_M_kept g V _ hN k' f hk' hmf r hmr hmh j hj
      · rw [jupL_q]
        exact if_pos rfl
theorem st_score (g : jG) (hb : jaN g < 2 ^ 31) {V : Nat → Nat → Nat} {L : Nat → Nat → Int64} {i : Nat} (hV : jInv V L) (hi : i + 6 ≤ jaN g) : jGo g jInv V L i 1259 := by
  intro kC kS Q k n hk hn kk
  obtain ⟨hI, hR, hX⟩ := id hV
  have hN := jN_of hI hR
  have h3 := hI.F
  have kk0 := fun x => kk (vu V 85 0 x) L k n (jInv_t x hV) (by omega) (by omega)
  have kk1 := fun x z => kk (vu V 85 0 x) (jupL L 103 0 z) (k + 1) (n + 6) (jInv_o z (jInv_t x hV)) (by omega) (by omega)
  have kk2 := fun x => kk (vu V 85 0 x) L (k + 1) (n + 6) (jInv_t x hV) (by omega) (by omega)
  by_cases h : isn 4 (jxs g (i + 1)) = 0
  · refine law_score g kC kS Q V L k n i hk hn hi hb V _ L L _ (f_D_score g V L hI _ _ h) ?_ (kk0 0)
    have e := f_M_score g V L hN (jxs g (i + 1)) (jxs g (i + 2)) h
    rw [hR.F] at e
    by_cases h1 : isn (V 0 4) (-1 - jxs g (i + 1)) = 0
    · rw [if_pos h1] at e
      rw [show isf V (-1 - jxs g (i + 1)) = 0 from h1, if_pos rfl]
      exact e
    · obtain ⟨f, hf, ef⟩ := isn_of (by omega) h1
      rw [if_neg h1] at e
      rw [if_neg (show ¬ isf V (-1 - jxs g (i + 1)) = 0 from h1)]
      rw [ef, nI_clamp (by omega), hR.w (show f < 3 by omega), hR.rs hI (show f < 3 by omega)] at e
      rw [ef, nI_clamp (by omega)]
      exact e
  · obtain ⟨k', hk', ek⟩ := isn_of (by omega) h
    obtain ⟨t1, t2, t3⟩ := hR.tl hk'
    refine law_score g kC kS Q V L k n i hk hn hi hb V _ L L _ (by rw [ek]; exact c_D_score g V L k' hk' _) ?_ (kk0 0)
    rw [ek, ← t1, ← t2, ← t3]
    exact c_M_score g V L k' hk' _
theorem rk_eq {h h' : Nat → Nat} : ∀ n k a, (∀ x, k ≤ x → x < k + n → h x = h' x) → rk h n k a = rk h' n k a
  | 0, _, _, _ => rfl
  | n + 1, k, a, e => by
    unfold rk
    rw [e k (Nat.le_refl _) (by omega), rk_eq n (k + 1) a (fun x h1 h2 => e x (by omega) (by omega)), rk_eq n (k + 1) (a - 1) (fun x h1 h2 => e x (by omega) (by omega))]
theorem rk_z {h : Nat → Nat} : ∀ n k a, (∀ x, k ≤ x → x < k + n → h x = 0) → rk h n k a = (0, a)
  | 0, _, _, _ => rfl
  | n + 1, k, a, e => by
    unfold rk
    rw [e k (Nat.le_refl _) (by omega), if_pos rfl, rk_z n (k + 1) a (fun x h1 h2 => e x (by omega) (by omega))]
theorem rf_eq {h h' : Nat → Nat → Nat} : ∀ n f a, (∀ y, f ≤ y → y < f + n → ∀ x, x < 4 → h y x = h' y x) → rf h n f a = rf h' n f a
  | 0, _, _, _ => rfl
  | n + 1, f, a, e => by
    unfold rf
    rw [rk_eq 4 0 a (fun x _ h2 => e f (Nat.le_refl _) (by omega) x (by omega)), rf_eq n (f + 1) _ (fun y h1 h2 => e y (by omega) (by omega))]
theorem rf_z {h : Nat → Nat → Nat} : ∀ n f a, (∀ y, f ≤ y → y < f + n → ∀ x, x < 4 → h y x = 0) → rf h n f a = -1
  | 0, _, _, _ => rfl
  | n + 1, f, a, e => by
    unfold rf
    rw [rk_z 4 0 a (fun x _ h2 => e f (Nat.le_refl _) (by omega) x (by omega)), if_pos rfl]
    exact rf_z n (f + 1) _ (fun y h1 h2 => e y (by omega) (by omega))
theorem rf_ext {h : Nat → Nat → Nat} (r : Nat) : ∀ n f a, (∀ y, f + n ≤ y → y < f + n + r → ∀ x, x < 4 → h y x = 0) → rf h (n + r) f a = rf h n f a
  | 0, f, a, e => by
    rw [Nat.zero_add]
    exact rf_z r f a (fun y h1 h2 => e y (by omega) (by omega))
  | n + 1, f, a, e => by
    rw [show n + 1 + r = n + r + 1 from by omega]
    unfold rf
    rw [rf_ext r n (f + 1) _ (fun y h1 h2 => e y (by omega) (by omega))]
theorem cpk_s (V : Nat → Nat → Nat) (f k : Nat) : cpk V f (k + 1) = cpk V f k + (if V (21 + 14 * k + 4 * f) 0 = 0 then 0 else 1) := by
  show (if _ then _ else _) = _
  by_cases h : V (21 + 14 * k + 4 * f) 0 = 0
  · rw [if_pos h, if_pos h]
    rfl
  · rw [if_neg h, if_neg h]
theorem mcp_cpf {V : Nat → Nat → Nat} {L : Nat → Nat → Int64} (h : jInv V L) : mcp V 12 = cpf V (V 0 4) := by
  obtain ⟨hI, hR, hX⟩ := h
  have h3 := hI.F
  have e : ∀ k f, k < 4 → f < 3 → (if V 89 (3 * k + f) = 0 then 0 else 1) = (if V (21 + 14 * k + 4 * f) 0 = 0 then 0 else 1) := fun k f hk hf => by rw [hR.hs hk hf]
  have z : ∀ f, V 0 4 ≤ f → f < 3 → cpk V f 4 = 0 := fun f h1 h2 => by
    have hz := (hX.2.1 f h1 h2).2.2
    rw [cpk_s, cpk_s, cpk_s, cpk_s, hz 0 (by omega), hz 1 (by omega), hz 2 (by omega), hz 3 (by omega)]
    rfl
  have e3 : cpf V 3 = cpf V (V 0 4) := by
    rcases (show V 0 4 = 0 ∨ V 0 4 = 1 ∨ V 0 4 = 2 ∨ V 0 4 = 3 by omega) with h | h | h | h
    · rw [h]
      show cpf V 0 + cpk V 0 4 + cpk V 1 4 + cpk V 2 4 = _
      rw [z 0 (by omega) (by omega), z 1 (by omega) (by omega), z 2 (by omega) (by omega)]
      rfl
    · rw [h]
      show cpf V 1 + cpk V 1 4 + cpk V 2 4 = _
      rw [z 1 (by omega) (by omega), z 2 (by omega) (by omega)]
      rfl
    · rw [h]
      show cpf V 2 + cpk V 2 4 = _
      rw [z 2 (by omega) (by omega)]
      rfl
    · rw [h]
  rw [← e3]
  show 0 + (if V 89 0 = 0 then 0 else 1) + (if V 89 1 = 0 then 0 else 1) + (if V 89 2 = 0 then 0 else 1) + (if V 89 3 = 0 then 0 else 1) + (if V 89 4 = 0 then 0 else 1) + (if V 89 5 = 0 then 0 else 1) + (if V 89 6 = 0 then 0 else 1) + (if V 89 7 = 0 then 0 else 1) + (if V 89 8 = 0 then 0 else 1) + (if V 89 9 = 0 then 0 else 1) + (if V 89 10 = 0 then 0 else 1) + (if V 89 11 = 0 then 0 else 1) = 0 + cpk V 0 4 + cpk V 1 4 + cpk V 2 4
  rw [cpk_s, cpk_s, cpk_s, cpk_s, cpk_s, cpk_s, cpk_s, cpk_s, cpk_s, cpk_s, cpk_s, cpk_s]
  rw [← (show (if V 89 0 = 0 then 0 else 1) = (if V (21 + 14 * 0 + 4 * 0) 0 = 0 then 0 else 1) from e 0 0 (by omega) (by omega)), ← (show (if V 89 3 = 0 then 0 else 1) = (if V (21 + 14 * 1 + 4 * 0) 0 = 0 then 0 else 1) from e 1 0 (by omega) (by omega)), ← (show (if V 89 6 = 0 then 0 else 1) = (if V (21 + 14 * 2 + 4 * 0) 0 = 0 then 0 else 1) from e 2 0 (by omega) (by omega)), ← (show (if V 89 9 = 0 then 0 else 1) = (if V (21 + 14 * 3 + 4 * 0) 0 = 0 then 0 else 1) from e 3 0 (by omega) (by omega)), ← (show (if V 89 1 = 0 then 0 else 1) = (if V (21 + 14 * 0 + 4 * 1) 0 = 0 then 0 else 1) from e 0 1 (by omega) (by omega)), ← (show (if V 89 4 = 0 then 0 else 1) = (if V (21 + 14 * 1 + 4 * 1) 0 = 0 then 0 else 1) from e 1 1 (by omega) (by omega)), ← (show (if V 89 7 = 0 then 0 else 1) = (if V (21 + 14 * 2 + 4 * 1) 0 = 0 then 0 else 1) from e 2 1 (by omega) (by omega)), ← (show (if V 89 10 = 0 then 0 else 1) = (if V (21 + 14 * 3 + 4 * 1) 0 = 0 then 0 else 1) from e 3 1 (by omega) (by omega)), ← (show (if V 89 2 = 0 then 0 else 1) = (if V (21 + 14 * 0 + 4 * 2) 0 = 0 then 0 else 1) from e 0 2 (by omega) (by omega)), ← (show (if V 89 5 = 0 then 0 else 1) = (if V (21 + 14 * 1 + 4 * 2) 0 = 0 then 0 else 1) from e 1 2 (by omega) (by omega)), ← (show (if V 89 8 = 0 then 0 else 1) = (if V (21 + 14 * 2 + 4 * 2) 0 = 0 then 0 else 1) from e 2 2 (by omega) (by omega)), ← (show (if V 89 11 = 0 then 0 else 1) = (if V (21 + 14 * 3 + 4 * 2) 0 = 0 then 0 else 1) from e 3 2 (by omega) (by omega))]
  show _ = 0 + (0 + _ + _ + _ + _) + (0 + _ + _ + _ + _) + (0 + _ + _ + _ + _)
  omega
theorem st_rota (g : jG) (hb : jaN g < 2 ^ 31) {V : Nat → Nat → Nat} {L : Nat → Nat → Int64} {i : Nat} (hV : jInv V L) (hi : i + 6 ≤ jaN g) : jGo g jInv V L i 1234 := by
  intro kC kS Q k n hk hn kk
  obtain ⟨hI, hR, hX⟩ := id hV
  have hN := jN_of hI hR
  have h3 := hI.F
  have kk0 := fun x => kk (vu V 85 0 x) L k n (jInv_t x hV) (by omega) (by omega)
  have kk1 := fun x z => kk (vu V 85 0 x) (jupL L 103 0 z) (k + 1) (n + 6) (jInv_o z (jInv_t x hV)) (by omega) (by omega)
  have kk2 := fun x => kk (vu V 85 0 x) L (k + 1) (n + 6) (jInv_t x hV) (by omega) (by omega)
  have ec := mcp_cpf hV
  by_cases h : jxs g (i + 1) < 0 ∨ cpf V (V 0 4) = 0
  · exact law_rota g kC kS Q V L k n i hk hn hi hb V _ L L (-1) (n_D_rota g V L hI _ h) (n_M_rota g V L hN _ (by rw [ec]; exact h)) (kk0 0)
  · obtain ⟨h1, h2⟩ := not_or.mp h
    obtain ⟨t, ht, et⟩ : ∃ t, t < 2 ^ 31 ∧ jxs g (i + 1) = nI t := by
      obtain ⟨t, ht, et⟩ := wb_of32 (jxs g (i + 1))
      refine ⟨t, Decidable.byContradiction fun e => h1 ?_, et⟩
      rw [et]
      exact nI_neg (by omega) ht
    refine law_rota g kC kS Q V L k n i hk hn hi hb V _ L L (rf (hdf V) (V 0 4) 0 (t % cpf V (V 0 4))) (by rw [et]; exact c_D_rota g V L hI t ht h2) ?_ (kk0 0)
    rw [et]
    have e := c_M_rota g V L hN t ht (by rw [ec]; exact h2)
    rw [ec] at e
    have e2 : rf (mhf V) 3 0 (t % cpf V (V 0 4)) = rf (hdf V) (V 0 4) 0 (t % cpf V (V 0 4)) := by
      rw [rf_eq (h := mhf V) (h' := hdf V) 3 0 _ (fun y _ h2 x hx => hR.hs hx (by omega)), show 3 = V 0 4 + (3 - V 0 4) from by omega]
      exact rf_ext _ _ _ _ (fun y h1 h2 x hx => (hX.2.1 y (by omega) (by omega)).2.2 x hx)
    rw [e2] at e
    exact e
