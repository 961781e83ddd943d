/-! AuditDesk: gather, countCopies -/
theorem rc1_nq {V : Nat → Nat → Nat} {r first ms c a : Nat} (h : a ≠ r + 1) : rc1 V r first ms c a = V a := by
  unfold rc1
  rw [vu_nq _ _ _ h, vu_nq _ _ _ h, vu_nq _ _ _ h, vu_nq _ _ _ h]
theorem rc2_nq {V : Nat → Nat → Nat} {r first lo hi a : Nat} (h : a ≠ r + 1) : rc2 V r first lo hi a = V a := by
  unfold rc2
  rw [vu_nq _ _ _ h, vu_nq _ _ _ h, vu_nq _ _ _ h, vu_nq _ _ _ h, vu_nq _ _ _ h, vu_nq _ _ _ h, vu_nq _ _ _ h, vu_nq _ _ _ h]
theorem clr_nq {V : Nat → Nat → Nat} {r row a : Nat} (h : a ≠ r + 1) : clr V r row a = V a := by
  funext i
  exact if_neg (fun z => h z.1)
theorem rcv_nq {V : Nat → Nat → Nat} {first a : Nat} (h : a ≠ 83) : rcv V first a = V a := by
  unfold rcv
  split
  · rfl
  · split
    · rw [rc1_nq h, clr_nq h]
    · rw [rc2_nq h, clr_nq h, clr_nq h]
theorem vu_lt {V : Nat → Nat → Nat} {q j v : Nat} (hv : v < 2147483647) (h : ∀ i, i < 120 → V q i < 2147483647) : ∀ i, i < 120 → vu V q j v q i < 2147483647 := by
  intro i hi
  unfold vu
  split
  · exact hv
  · exact h i hi
theorem rcv_lt {V : Nat → Nat → Nat} {first : Nat} (hV : ∀ i, i < 120 → V 83 i < 2147483647) : ∀ i, i < 120 → rcv V first 83 i < 2147483647 := by
  unfold rcv
  split
  · exact hV
  · split
    · unfold rc1
      exact vu_lt (fti_lt _ _) (vu_lt (fti_lt _ _) (vu_lt (fti_lt _ _) (vu_lt (fti_lt _ _) (clr_lt hV))))
    · unfold rc2
      exact vu_lt (fti_lt _ _) (vu_lt (fmi_lt _ _) (vu_lt (fti_lt _ _) (vu_lt (fmi_lt _ _) (vu_lt (fti_lt _ _) (vu_lt (fmi_lt _ _) (vu_lt (fti_lt _ _) (vu_lt (fmi_lt _ _) (clr_lt (clr_lt hV)))))))))
/-- the first t groups of file f gathered; false: a group had not enough -/
def gal (V : Nat → Nat → Nat) (f : Nat) : Nat → (Nat → Nat → Nat) × Bool
  | 0 => (V, true)
  | t + 1 => if (gal V f t).2 = true then (if (ggr (gal V f t).1 f (6 * t) 6).2 = 4 then (rcv (ggr (gal V f t).1 f (6 * t) 6).1 (6 * t), true) else ((ggr (gal V f t).1 f (6 * t) 6).1, false)) else gal V f t
theorem gal_s (V : Nat → Nat → Nat) (f t : Nat) : gal V f (t + 1) = if (gal V f t).2 = true then (if (ggr (gal V f t).1 f (6 * t) 6).2 = 4 then (rcv (ggr (gal V f t).1 f (6 * t) 6).1 (6 * t), true) else ((ggr (gal V f t).1 f (6 * t) 6).1, false)) else gal V f t := rfl
theorem jG2.trans {V W X : Nat → Nat → Nat} (h1 : jG2 V W) (h2 : jG2 W X) : jG2 V X := ⟨fun a a1 a2 => (h2.1 a a1 a2).trans (h1.1 a a1 a2), h2.2⟩
theorem jG2_rcv {V : Nat → Nat → Nat} {first : Nat} (h : jI V) : jG2 V (rcv V first) := ⟨fun _ h1 _ => rcv_nq h1, rcv_lt h.ga, by rw [rcv_nq (by decide)]; exact h.pr⟩
theorem gal_G {V : Nat → Nat → Nat} {f : Nat} (hI : jI V) (hf : f < 3) : ∀ t, t ≤ 4 → jG2 V (gal V f t).1
  | 0, _ => ⟨fun _ _ _ => rfl, hI.ga, hI.pr⟩
  | t + 1, ht => by
    have h1 := gal_G hI hf t (by omega)
    have hW := jG2.I hI h1
    have h2 := (ggr_G (first := 6 * t) hW hf (by omega) 6 (by omega)).1
    rw [gal_s]
    revert h2
    generalize ggr (gal V f t).1 f (6 * t) 6 = Y
    intro h2
    have h3 : jG2 Y.1 (rcv Y.1 (6 * t)) := jG2_rcv (jG2.I hW h2)
    split
    · split
      · exact h1.trans (h2.trans h3)
      · exact h1.trans h2
    · exact h1
theorem gal_st {V : Nat → Nat → Nat} {f t : Nat} (h : (gal V f t).2 = false) : ∀ m, gal V f (t + m) = gal V f t
  | 0 => rfl
  | m + 1 => by
    have e := gal_st h m
    show gal V f (t + m + 1) = _
    rw [gal_s, if_neg (by rw [e, h]; decide), e]
/-- what gathering leaves, and whether it did -/
def gth (V : Nat → Nat → Nat) (f G : Nat) : (Nat → Nat → Nat) × Nat := if (gal V f G).2 = true then (cmpl (gal V f G).1 f 82 G, 1) else ((gal V f G).1, 0)
theorem cmpl_nq {V : Nat → Nat → Nat} {f r G a : Nat} (h : a ≠ r + 1) : cmpl V f r G a = V a := (tall_nq h _).trans (spall_nq h _)
theorem gth_G {V : Nat → Nat → Nat} {f G : Nat} (hI : jI V) (hf : f < 3) (hG : G ≤ 4) : jG2 V (gth V f G).1 := by
  have h1 := gal_G hI hf G hG
  unfold gth
  split
  · refine ⟨fun a a1 a2 => (cmpl_nq a1).trans (h1.1 a a1 a2), tall_lt (spall_lt h1.2.1 _) _, ?_⟩
    show ∀ i, i < 6 → cmpl (gal V f G).1 f 82 G 84 i ≤ 1
    rw [cmpl_nq (by decide)]
    exact h1.2.2
  · exact h1
theorem gth_le (V : Nat → Nat → Nat) (f G : Nat) : (gth V f G).2 ≤ 1 := by
  unfold gth
  split
  · exact Nat.le_refl _
  · exact Nat.zero_le _
theorem c_D_gather (g : jG) (V : Nat → Nat → Nat) (L : Nat → Nat → Int64) (hI : jI V) (f : Nat) (hf : f < 3) (G : Nat) (hG : G ≤ 4) (hrc : V (3 + 5 * f) 1 = 6 * G) : jK g Y_D_gather (5, 123) [.ref (jb g + 0), .int (nI f)] V L (jA0 (some (.int (nI (gth V f G).2))) (gth V f G).1 L) := by
  refine jK_entry (by decide +kernel) rfl (Nat.le_of_ble_eq_true rfl) ?_
  show jJ (g, Y_D_gather, (5, 123), 0, 0, jVQ g (jA0 (some (.int (nI (gth V f G).2))) (gth V f G).1 L)) [(0, .ref (jb g + 0)), (1, .int (nI f))] (jv (g, Y_D_gather, (5, 123), 0, 0, jVQ g (jA0 (some (.int (nI (gth V f G).2))) (gth V f G).1 L)) V L 0 0) 0 []
  generalize hφ : jA0 (some (.int (nI (gth V f G).2))) (gth V f G).1 L = φ
  have loop : ∀ (m t : Nat), t + m = G → (gal V f t).2 = true → jJ (g, Y_D_gather, (5, 123), 0, 0, jVQ g φ) [(0, .ref (jb g + 0)), (1, .int (nI f)), (2, .ref (jb g + (3 + 5 * f))), (3, .int (nI (6 * t)))] (jv (g, Y_D_gather, (5, 123), 0, 0, jVQ g φ) (gal V f t).1 L 0 0) 9 [] := by
    intro m
    induction m with
    | zero =>
      intro t ht h0
      obtain rfl : t = G := by omega
      have hg := gal_G hI hf t hG
      have hW := jG2.I hI hg
      refine j_iload_n d_D_gather_9 rfl 3 rfl ?_
      refine j_aload_n d_D_gather_10 rfl 2 rfl ?_
      refine v_getI d_D_gather_11 lf_D_114 (jshp_E f hf).1 (by omega) rfl ?_
      rw [show (gal V f t).1 (3 + 5 * f) 1 = 6 * t from by rw [hg.1 _ (by omega) (by omega), hrc]]
      refine n_icmp_ge d_D_gather_14 46 rfl (by omega) (by omega) (fun h => ?_) (fun h => absurd h (by omega))
      refine j_aload_n d_D_gather_46 rfl 2 rfl ?_
      refine j_aload_n d_D_gather_47 rfl 0 rfl ?_
      refine v_getR d_D_gather_48 lf_D_43 rfl (Nat.le_of_ble_eq_true rfl) rfl ?_
      refine v_callV d_D_gather_51 mt_E_complete ln_D_251 im_E_complete se_E_complete (jshp_E f hf).1 (by omega) rfl rfl ⟨Nat.le_of_ble_eq_true rfl, Nat.le_of_ble_eq_true rfl⟩ (Nat.le_of_ble_eq_true rfl) rfl (Nat.zero_le _) (Nat.zero_le _) (c_E_complete g (gal V f t).1 L f hf 82 rfl rfl (by decide) t hG (by rw [hg.1 _ (by omega) (by omega), hrc]) hW.ga (hW.al hf) (hW.ms hf)) rfl ?_
      rintro _ _ _ ⟨rfl, rfl, rfl⟩
      subst hφ
      rw [show gth V f t = (cmpl (gal V f t).1 f 82 t, 1) from if_pos h0]
      refine n_iconst d_D_gather_54 1 (by decide) ?_
      exact v_zret d_D_gather_55 rfl (by omega) (Nat.zero_le _) (Nat.zero_le _) rfl jA0_rfl
    | succ m ih =>
      intro t ht h0
      have hg := gal_G hI hf t (by omega)
      have hW := jG2.I hI hg
      have h2 := (ggr_G (first := 6 * t) hW hf (by omega) 6 (by omega)).1
      have hX := jG2.I hW h2
      refine j_iload_n d_D_gather_9 rfl 3 rfl ?_
      refine j_aload_n d_D_gather_10 rfl 2 rfl ?_
      refine v_getI d_D_gather_11 lf_D_114 (jshp_E f hf).1 (by omega) rfl ?_
      rw [show (gal V f t).1 (3 + 5 * f) 1 = 6 * G from by rw [hg.1 _ (by omega) (by omega), hrc]]
      refine n_icmp_ge d_D_gather_14 46 rfl (by omega) (by omega) (fun h => absurd h (by omega)) (fun h => ?_)
      refine j_aload_n d_D_gather_17 rfl 0 rfl ?_
      refine j_iload_n d_D_gather_18 rfl 1 rfl ?_
      refine j_iload_n d_D_gather_19 rfl 3 rfl ?_
      refine v_callV d_D_gather_20 mt_D_gatherGroup ln_D_244 im_D_gatherGroup se_D_gatherGroup rfl (Nat.le_of_ble_eq_true rfl) rfl rfl ⟨Nat.le_of_ble_eq_true rfl, Nat.le_of_ble_eq_true rfl⟩ (Nat.le_of_ble_eq_true rfl) rfl (Nat.zero_le _) (Nat.zero_le _) (c_D_gatherGroup g (gal V f t).1 L hW f hf (6 * t) (by omega)) rfl ?_
      rintro _ _ _ ⟨rfl, rfl, rfl⟩
      have es := gal_s V f t
      revert es h2 hX
      generalize ggr (gal V f t).1 f (6 * t) 6 = Y
      intro h2 hX es
      rw [if_pos h0] at es
      by_cases h4 : Y.2 = 4
      · rw [show gg4 Y.2 = 1 from if_pos h4]
        have e4 : gal V f (t + 1) = (rcv Y.1 (6 * t), true) := by
          rw [es, if_pos h4]
        have ih' := ih (t + 1) (by omega) (by rw [e4])
        rw [e4] at ih'
        dsimp only at ih'
        refine n_if_ne d_D_gather_23 28 rfl (by omega) (fun h => ?_) (fun h => absurd h (by omega))
        refine j_aload_n d_D_gather_28 rfl 0 rfl ?_
        refine v_getR d_D_gather_29 lf_D_43 rfl (Nat.le_of_ble_eq_true rfl) rfl ?_
        refine j_iload_n d_D_gather_32 rfl 3 rfl ?_
        refine j_aload_n d_D_gather_33 rfl 0 rfl ?_
        refine v_getR d_D_gather_34 lf_D_47 rfl (Nat.le_of_ble_eq_true rfl) rfl ?_
        refine v_callV d_D_gather_37 mt_R_recover ln_D_247 im_R_recover se_R_recover rfl (Nat.le_of_ble_eq_true rfl) rfl rfl ⟨Nat.le_of_ble_eq_true rfl, Nat.le_of_ble_eq_true rfl⟩ (Nat.le_of_ble_eq_true rfl) rfl (Nat.zero_le _) (Nat.zero_le _) (c_R_recover g Y.1 L (6 * t) (by omega) hX.ga hX.pr) rfl ?_
        rintro _ _ _ ⟨rfl, rfl, rfl⟩
        refine n_iinc d_D_gather_40 6 (by decide) 3 rfl (Nat.le_of_ble_eq_true rfl) (lv' := [_, _, _, _]) rfl ?_
        refine j_goto d_D_gather_43 9 rfl ?_
        refine j_lv [1, 2, 3, 0] rfl ?_
        exact ih'
      · rw [show gg4 Y.2 = 0 from if_neg h4]
        have e4 : gal V f (t + 1) = (Y.1, false) := by
          rw [es, if_neg h4]
        have e5 : gal V f G = (Y.1, false) := by
          obtain rfl : G = t + 1 + m := by omega
          rw [gal_st (by rw [e4]), e4]
        refine n_if_ne d_D_gather_23 28 rfl (by omega) (fun h => absurd h (by omega)) (fun h => ?_)
        subst hφ
        rw [show gth V f G = (Y.1, 0) from by unfold gth; rw [e5]; rfl]
        refine n_iconst d_D_gather_26 0 (by decide) ?_
        exact v_zret d_D_gather_27 rfl (by omega) (Nat.zero_le _) (Nat.zero_le _) rfl jA0_rfl
  refine j_aload_n d_D_gather_0 rfl 0 rfl ?_
  refine v_getR d_D_gather_1 lf_D_15 rfl (Nat.le_of_ble_eq_true rfl) rfl ?_
  refine j_iload_n d_D_gather_4 rfl 1 rfl ?_
  refine v_ald d_D_gather_5 rfl rfl (Nat.le_of_ble_eq_true rfl) rfl (dref f hf) (Nat.le_of_ble_eq_true rfl) ?_
  refine j_astore_n d_D_gather_6 (i := 2) rfl (Nat.le_of_ble_eq_true rfl) (lv' := [_, _, _]) rfl ?_
  refine n_iconst d_D_gather_7 0 (by decide) ?_
  refine j_istore_n d_D_gather_8 (i := 3) rfl (Nat.le_of_ble_eq_true rfl) (lv' := [_, _, _, _]) rfl ?_
  refine j_lv [2, 3, 1, 0] rfl ?_
  exact loop G 0 (by omega) rfl
/-- copies of the files below f, and of file f at the keepers below k -/
def cpk (V : Nat → Nat → Nat) (f : Nat) : Nat → Nat
  | 0 => 0
  | k + 1 => if V (21 + 14 * k + 4 * f) 0 = 0 then cpk V f k else cpk V f k + 1
def cpf (V : Nat → Nat → Nat) : Nat → Nat
  | 0 => 0
  | f + 1 => cpf V f + cpk V f 4
theorem cpk_le (V : Nat → Nat → Nat) (f : Nat) : ∀ k, cpk V f k ≤ k
  | 0 => Nat.le_refl _
  | k + 1 => by
    have := cpk_le V f k
    unfold cpk
    split <;> omega
theorem cpf_le (V : Nat → Nat → Nat) : ∀ f, cpf V f ≤ 4 * f
  | 0 => Nat.le_refl _
  | f + 1 => by
    have := cpf_le V f
    have := cpk_le V f 4
    unfold cpf
    omega
theorem c_D_countCopies (g : jG) (V : Nat → Nat → Nat) (L : Nat → Nat → Int64) (hI : jI V) : jK g Y_D_countCopies (0, 0) [.ref (jb g + 0)] V L (jA0 (some (.int (nI (cpf V (V 0 4))))) V L) := by
  refine jK_entry (by decide +kernel) rfl (Nat.le_of_ble_eq_true rfl) ?_
  show jJ (g, Y_D_countCopies, (0, 0), 0, 0, jVQ g (jA0 (some (.int (nI (cpf V (V 0 4))))) V L)) [(0, .ref (jb g + 0))] (jv (g, Y_D_countCopies, (0, 0), 0, 0, jVQ g (jA0 (some (.int (nI (cpf V (V 0 4))))) V L)) V L 0 0) 0 []
  generalize hφ : jA0 (some (.int (nI (cpf V (V 0 4))))) V L = φ
  have loop : ∀ (m f : Nat), f + m = V 0 4 → jJ (g, Y_D_countCopies, (0, 0), 0, 0, jVQ g φ) [(0, .ref (jb g + 0)), (1, .int (nI (cpf V f))), (2, .int (nI f))] (jv (g, Y_D_countCopies, (0, 0), 0, 0, jVQ g φ) V L 0 0) 4 [] := by
    have h3 := hI.F
    intro m
    induction m with
    | zero =>
      intro f hf0
      obtain rfl : f = V 0 4 := by omega
      refine j_iload_n d_D_countCopies_4 rfl 2 rfl ?_
      refine j_aload_n d_D_countCopies_5 rfl 0 rfl ?_
      refine v_getI d_D_countCopies_6 lf_D_51 rfl (Nat.le_of_ble_eq_true rfl) rfl ?_
      refine n_icmp_ge d_D_countCopies_9 51 rfl (by omega) (by omega) (fun h => ?_) (fun h => absurd h (by omega))
      subst hφ
      refine j_iload_n d_D_countCopies_51 rfl 1 rfl ?_
      exact v_iret d_D_countCopies_52 rfl (Nat.zero_le _) (Nat.zero_le _) rfl jA0_rfl
    | succ m ih =>
      intro f hf0
      have hf : f < 3 := by omega
      have ih' := ih (f + 1) (by omega)
      have inner : ∀ (n k : Nat), k + n = 4 → jJ (g, Y_D_countCopies, (0, 0), 0, 0, jVQ g φ) [(0, .ref (jb g + 0)), (1, .int (nI (cpf V f + cpk V f k))), (2, .int (nI f)), (3, .int (nI k))] (jv (g, Y_D_countCopies, (0, 0), 0, 0, jVQ g φ) V L 0 0) 14 [] := by
        intro n
        induction n with
        | zero =>
          intro k hk
          obtain rfl : k = 4 := by omega
          refine j_iload_n d_D_countCopies_14 rfl 3 rfl ?_
          refine n_iconst d_D_countCopies_15 4 (by decide) ?_
          refine n_icmp_ge d_D_countCopies_16 45 rfl (by omega) (by omega) (fun h => ?_) (fun h => absurd h (by omega))
          refine n_iinc d_D_countCopies_45 1 (by decide) 2 rfl (Nat.le_of_ble_eq_true rfl) (lv' := [_, _, _, _]) rfl ?_
          refine j_goto d_D_countCopies_48 4 rfl ?_
          refine j_lv [1, 2, 0] rfl ?_
          exact ih'
        | succ n ihn =>
          intro k hk0
          have hk : k < 4 := by omega
          have ihn' := ihn (k + 1) (by omega)
          unfold cpk at ihn'
          refine j_iload_n d_D_countCopies_14 rfl 3 rfl ?_
          refine n_iconst d_D_countCopies_15 4 (by decide) ?_
          refine n_icmp_ge d_D_countCopies_16 45 rfl (by omega) (by omega) (fun h => absurd h (by omega)) (fun h => ?_)
          refine j_aload_n d_D_countCopies_19 rfl 0 rfl ?_
          refine v_getR d_D_countCopies_20 lf_D_22 rfl (Nat.le_of_ble_eq_true rfl) rfl ?_
          refine j_iload_n d_D_countCopies_23 rfl 3 rfl ?_
          refine v_ald d_D_countCopies_24 rfl rfl (Nat.le_of_ble_eq_true rfl) rfl (kref k hk) (Nat.le_of_ble_eq_true rfl) ?_
          refine v_getR d_D_countCopies_25 lf_D_101 (jshp_K k hk).1 (by omega) rfl ?_
          refine j_iload_n d_D_countCopies_28 rfl 2 rfl ?_
          refine v_ald d_D_countCopies_29 (jshp_K k hk).2 rfl (by omega) rfl (cref k f hf) (Nat.le_of_ble_eq_true rfl) ?_
          refine v_getI d_D_countCopies_30 lf_D_105 (jshp_Y k hk f hf).1 (by omega) rfl ?_
          refine n_if_eq d_D_countCopies_33 39 rfl (Nat.lt_of_le_of_lt (hI.hd hk hf) (by decide)) (fun h1 => ?_) (fun h1 => ?_)
          · rw [if_pos h1] at ihn'
            refine n_iinc d_D_countCopies_39 1 (by decide) 3 rfl (Nat.le_of_ble_eq_true rfl) (lv' := [_, _, _, _]) rfl ?_
            refine j_goto d_D_countCopies_42 14 rfl ?_
            refine j_lv [1, 2, 3, 0] rfl ?_
            exact ihn'
          · rw [if_neg h1] at ihn'
            refine n_iinc d_D_countCopies_36 1 (by decide) 1 rfl (Nat.le_of_ble_eq_true rfl) (lv' := [_, _, _, _]) rfl ?_
            refine n_iinc d_D_countCopies_39 1 (by decide) 3 rfl (Nat.le_of_ble_eq_true rfl) (lv' := [_, _, _, _]) rfl ?_
            refine j_goto d_D_countCopies_42 14 rfl ?_
            refine j_lv [2, 1, 3, 0] rfl ?_
            exact ihn'
      refine j_iload_n d_D_countCopies_4 rfl 2 rfl ?_
      refine j_aload_n d_D_countCopies_5 rfl 0 rfl ?_
      refine v_getI d_D_countCopies_6 lf_D_51 rfl (Nat.le_of_ble_eq_true rfl) rfl ?_
      refine n_icmp_ge d_D_countCopies_9 51 rfl (by omega) (by omega) (fun h => absurd h (by omega)) (fun h => ?_)
      refine n_iconst d_D_countCopies_12 0 (by decide) ?_
      refine j_istore_n d_D_countCopies_13 (i := 3) rfl (Nat.le_of_ble_eq_true rfl) (lv' := [_, _, _, _]) rfl ?_
      refine j_lv [1, 2, 3, 0] rfl ?_
      exact inner 4 0 (by omega)
  refine n_iconst d_D_countCopies_0 0 (by decide) ?_
  refine j_istore_n d_D_countCopies_1 (i := 1) rfl (Nat.le_of_ble_eq_true rfl) (lv' := [_, _]) rfl ?_
  refine n_iconst d_D_countCopies_2 0 (by decide) ?_
  refine j_istore_n d_D_countCopies_3 (i := 2) rfl (Nat.le_of_ble_eq_true rfl) (lv' := [_, _, _]) rfl ?_
  refine j_lv [2, 1, 0] rfl ?_
  exact loop (V 0 4) 0 (by omega)
