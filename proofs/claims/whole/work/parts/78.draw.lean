/-! drawing: the class's and the model's rows and coefficients -/
theorem mia_eq {W W' : Nat → Nat → Nat} {r : Nat} : ∀ n, (∀ x, x < n → W 95 x = W' 95 x) → mia W r n = mia W' r n
  | 0, _ => rfl
  | n + 1, h => by
    unfold mia
    rw [mia_eq n (fun x hx => h x (by omega)), h n (by omega)]
theorem draw_eq {D V1 : Nat → Nat → Nat} {f k s m rc : Nat} (h0 : 0 < rc) (hrc : rc ≤ 24) (hz : ∀ r, r < rc → D 79 r = 0) (hD : ∀ x, x < 24 → V1 95 x = D 76 x ∧ V1 96 x = D 77 x) : ∀ i, i ≤ rc → (∀ x, x < 24 → mcs V1 f k s m rc i 95 x = drw D s rc i 76 x ∧ mcs V1 f k s m rc i 96 x = drw D s rc i 77 x) ∧ ∀ r, r < rc → drw D s rc i 79 r = mia (mcs V1 f k s m rc i) r i
  | 0, _ => ⟨fun x hx => hD x hx, fun r hr => hz r hr⟩
  | i + 1, hi => by
    obtain ⟨h1, h2⟩ := draw_eq (f := f) (k := k) (s := s) (m := m) h0 hrc hz hD i (by omega)
    have hfree := mcr_free (W := mcs V1 f k s m rc i) (s := s) h0 (show i < rc by omega)
    have hR : drr (drw D s rc i) s rc i = mcr (mcs V1 f k s m rc i) s rc i := nxu_eq h2 rc _ (Nat.mod_lt _ h0)
    have eM : ∀ a, a ≠ 97 → mcs V1 f k s m rc (i + 1) a = vu (vu (mcs V1 f k s m rc i) 95 i (mcr (mcs V1 f k s m rc i) s rc i)) 96 i (drc s i) a := fun a ha => man_nq ha 5
    have eC : drw D s rc (i + 1) = vu (vu (vu (drw D s rc i) 76 i (mcr (mcs V1 f k s m rc i) s rc i)) 79 (mcr (mcs V1 f k s m rc i) s rc i) 1) 77 i (drc s i) := by
      show vu (vu (vu (drw D s rc i) 76 i (drr (drw D s rc i) s rc i)) 79 (drr (drw D s rc i) s rc i) 1) 77 i (drc s i) = _
      rw [hR]
    rw [eC]
    have e95 : ∀ x, mcs V1 f k s m rc (i + 1) 95 x = vu (mcs V1 f k s m rc i) 95 i (mcr (mcs V1 f k s m rc i) s rc i) 95 x := fun x => by rw [eM 95 (by decide), vu_nq _ _ _ (by decide)]
    generalize mcr (mcs V1 f k s m rc i) s rc i = R at *
    refine ⟨fun x hx => ⟨?_, ?_⟩, fun r hr => ?_⟩
    · rw [e95, vu_nq _ i _ (show 76 ≠ 77 by decide), vu_nq _ R _ (show 76 ≠ 79 by decide)]
      unfold vu
      by_cases h : x = i
      · rw [if_pos ⟨rfl, h⟩, if_pos ⟨rfl, h⟩]
      · rw [if_neg (fun z => h z.2), if_neg (fun z => h z.2)]
        exact (h1 x hx).1
    · rw [eM 96 (by decide)]
      by_cases h : x = i
      · rw [h]
        exact (vu_eq _ _ _ _).trans (vu_eq _ _ _ _).symm
      · refine (if_neg (fun z => h z.2)).trans (Eq.trans ?_ (if_neg (fun z => h z.2)).symm)
        rw [vu_nq _ _ _ (by decide), vu_nq _ _ _ (by decide), vu_nq _ _ _ (by decide)]
        exact (h1 x hx).2
    · rw [vu_nq _ _ _ (by decide)]
      have hme : mia (mcs V1 f k s m rc (i + 1)) r i = mia (mcs V1 f k s m rc i) r i := mia_eq i (fun x hx => by rw [e95]; exact if_neg (by omega))
      have hml := mia_le (mcs V1 f k s m rc i) r i
      rw [show mia (mcs V1 f k s m rc (i + 1)) r (i + 1) = if mia (mcs V1 f k s m rc (i + 1)) r i = 0 then (if mcs V1 f k s m rc (i + 1) 95 i = r then 1 else 0) else 1 from rfl, hme, e95, vu_eq]
      by_cases h : r = R
      · subst h
        rw [hfree, if_pos rfl, if_pos rfl]
        exact vu_eq _ _ _ _
      · refine (if_neg (fun z => h z.2)).trans ?_
        rw [vu_nq _ i _ (show 79 ≠ 76 by decide), h2 r hr, if_neg (show ¬ R = r from fun e => h e.symm)]
        by_cases h5 : mia (mcs V1 f k s m rc i) r i = 0
        · rw [if_pos h5, h5]
        · rw [if_neg h5]
          omega
