/-! AuditDesk: locate, found, fetched, made, kept, repair, fetch, rota, score -/
/-- the first t rows looked at: the bad ones noted -/
def lcv (V : Nat → Nat → Nat) (k f : Nat) : Nat → Nat → Nat → Nat
  | 0 => vu V 0 8 0
  | t + 1 => if igd (lcv V k f t) k f t = 0 then vu (vu (lcv V k f t) 80 (lcv V k f t 0 8) t) 0 8 (lcv V k f t 0 8 + 1) else lcv V k f t
theorem lcv_s (V : Nat → Nat → Nat) (k f t : Nat) : lcv V k f (t + 1) = if igd (lcv V k f t) k f t = 0 then vu (vu (lcv V k f t) 80 (lcv V k f t 0 8) t) 0 8 (lcv V k f t 0 8 + 1) else lcv V k f t := rfl
theorem lcv_nq {V : Nat → Nat → Nat} {k f a : Nat} (h1 : a ≠ 0) (h2 : a ≠ 80) : ∀ t, lcv V k f t a = V a
  | 0 => vu_nq _ _ _ h1
  | t + 1 => by
    rw [lcv_s]
    split
    · rw [vu_nq _ _ _ h1, vu_nq _ _ _ h2, lcv_nq h1 h2 t]
    · exact lcv_nq h1 h2 t
theorem lcv_0 {V : Nat → Nat → Nat} {k f i : Nat} (h : i ≠ 8) : ∀ t, lcv V k f t 0 i = V 0 i
  | 0 => if_neg (fun z => h z.2)
  | t + 1 => by
    rw [lcv_s]
    split
    · show (if _ then _ else _) = _
      rw [if_neg (fun z => h z.2), vu_nq _ _ _ (by decide), lcv_0 h t]
    · exact lcv_0 h t
theorem lcv_8 {V : Nat → Nat → Nat} {k f : Nat} : ∀ t, lcv V k f t 0 8 ≤ t
  | 0 => by show vu _ _ _ _ 0 8 ≤ 0; rw [vu_eq]; exact Nat.le_refl _
  | t + 1 => by
    have := lcv_8 (V := V) (k := k) (f := f) t
    rw [lcv_s]
    split
    · rw [vu_eq]
      omega
    · omega
theorem jI_0 {V W : Nat → Nat → Nat} (hI : jI V) (h4 : W 0 4 ≤ 3) (h8 : W 0 8 ≤ 24) (h10 : W 0 10 ≤ 64) (h : ∀ a, a ≠ 0 → a ≠ 80 → a ≠ 81 → W a = V a) : jI W := by
  obtain ⟨i1, i2, i3, i4, i5, i6, i7, i8, i9⟩ := hI
  refine ⟨h4, h8, h10, ?_, fun f hf => ?_, fun k hk f hf => ?_, ?_, ?_, ?_⟩
  · rw [h 1 (by decide) (by decide) (by decide)]; exact i4
  · rw [h (3 + 5 * f) (by omega) (by omega) (by omega), h (4 + 5 * f) (by omega) (by omega) (by omega), h (5 + 5 * f) (by omega) (by omega) (by omega), h (6 + 5 * f + 1) (by omega) (by omega) (by omega)]
    exact i5 f hf
  · rw [h (21 + 14 * k + 4 * f) (by omega) (by omega) (by omega), h (24 + 14 * k + 4 * f) (by omega) (by omega) (by omega), h (22 + 14 * k + 4 * f + 1) (by omega) (by omega) (by omega)]
    exact i6 k hk f hf
  · rw [h 75 (by decide) (by decide) (by decide), h 76 (by decide) (by decide) (by decide), h 77 (by decide) (by decide) (by decide), h 78 (by decide) (by decide) (by decide), h 79 (by decide) (by decide) (by decide)]
    exact i7
  · rw [h 83 (by decide) (by decide) (by decide)]; exact i8
  · rw [h 84 (by decide) (by decide) (by decide)]; exact i9
theorem lcv_I {V : Nat → Nat → Nat} {k f t : Nat} (hI : jI V) (ht : t ≤ 24) : jI (lcv V k f t) := jI_0 hI (by rw [lcv_0 (by decide)]; exact hI.F) (Nat.le_trans (lcv_8 t) ht) (by rw [lcv_0 (by decide)]; exact hI.fc) (fun _ h1 h2 _ => lcv_nq h1 h2 t)
theorem c_D_locate (g : jG) (V : Nat → Nat → Nat) (L : Nat → Nat → Int64) (hI : jI V) (k : Nat) (hk : k < 4) (f : Nat) (hf0 : f < V 0 4) (hh : V (21 + 14 * k + 4 * f) 0 = 1) : jK g Y_D_locate (6, 86) [.ref (jb g + 0), .int (nI f), .int (nI k)] V L (jA0 (some (.int (nI (lcv V k f (V (3 + 5 * f) 1) 0 8)))) (lcv V k f (V (3 + 5 * f) 1)) L) := by
  refine jK_entry (by decide +kernel) rfl (Nat.le_of_ble_eq_true rfl) ?_
  show jJ (g, Y_D_locate, (6, 86), 0, 0, jVQ g (jA0 (some (.int (nI (lcv V k f (V (3 + 5 * f) 1) 0 8)))) (lcv V k f (V (3 + 5 * f) 1)) L)) [(0, .ref (jb g + 0)), (1, .int (nI f)), (2, .int (nI k))] (jv (g, Y_D_locate, (6, 86), 0, 0, jVQ g (jA0 (some (.int (nI (lcv V k f (V (3 + 5 * f) 1) 0 8)))) (lcv V k f (V (3 + 5 * f) 1)) L)) V L 0 0) 0 []
  have hf : f < 3 := Nat.lt_of_lt_of_le hf0 hI.F
  have hrc := hI.rc hf
  have hwd := hI.w hf
  generalize hφ : jA0 (some (.int (nI (lcv V k f (V (3 + 5 * f) 1) 0 8)))) (lcv V k f (V (3 + 5 * f) 1)) L = φ
  have loop : ∀ (m t : Nat), t + m = V (3 + 5 * f) 1 → jJ (g, Y_D_locate, (6, 86), 0, 0, jVQ g φ) [(0, .ref (jb g + 0)), (1, .int (nI f)), (2, .int (nI k)), (3, .int (nI t))] (jv (g, Y_D_locate, (6, 86), 0, 0, jVQ g φ) (lcv V k f t) L 0 0) 26 [] := by
    intro m
    induction m with
    | zero =>
      intro t ht
      refine j_iload_n d_D_locate_26 rfl 3 rfl ?_
      refine j_aload_n d_D_locate_27 rfl 0 rfl ?_
      refine v_getR d_D_locate_28 lf_D_15 rfl (Nat.le_of_ble_eq_true rfl) rfl ?_
      refine j_iload_n d_D_locate_31 rfl 1 rfl ?_
      refine v_ald d_D_locate_32 rfl rfl (Nat.le_of_ble_eq_true rfl) rfl (dref f hf) (Nat.le_of_ble_eq_true rfl) ?_
      refine v_getI d_D_locate_33 lf_D_114 (jshp_E f hf).1 (by omega) rfl ?_
      rw [show lcv V k f t (3 + 5 * f) 1 = V (3 + 5 * f) 1 from by rw [lcv_nq (by omega) (by omega)]]
      refine n_icmp_ge d_D_locate_36 75 rfl (by omega) (by omega) (fun h => ?_) (fun h => absurd h (by omega))
      rw [show V (3 + 5 * f) 1 = t from by omega] at hφ
      subst hφ
      refine j_aload_n d_D_locate_75 rfl 0 rfl ?_
      refine v_getI d_D_locate_76 lf_D_204 rfl (Nat.le_of_ble_eq_true rfl) rfl ?_
      exact v_iret d_D_locate_79 rfl (Nat.zero_le _) (Nat.zero_le _) rfl jA0_rfl
    | succ m ih =>
      intro t ht
      have ih' := ih (t + 1) (by omega)
      have hW := lcv_I (k := k) (f := f) (t := t) hI (by omega)
      have h8 := lcv_8 (V := V) (k := k) (f := f) t
      rw [lcv_s] at ih'
      refine j_iload_n d_D_locate_26 rfl 3 rfl ?_
      refine j_aload_n d_D_locate_27 rfl 0 rfl ?_
      refine v_getR d_D_locate_28 lf_D_15 rfl (Nat.le_of_ble_eq_true rfl) rfl ?_
      refine j_iload_n d_D_locate_31 rfl 1 rfl ?_
      refine v_ald d_D_locate_32 rfl rfl (Nat.le_of_ble_eq_true rfl) rfl (dref f hf) (Nat.le_of_ble_eq_true rfl) ?_
      refine v_getI d_D_locate_33 lf_D_114 (jshp_E f hf).1 (by omega) rfl ?_
      rw [show lcv V k f t (3 + 5 * f) 1 = V (3 + 5 * f) 1 from by rw [lcv_nq (by omega) (by omega)]]
      refine n_icmp_ge d_D_locate_36 75 rfl (by omega) (by omega) (fun h => absurd h (by omega)) (fun h => ?_)
      refine j_aload_n d_D_locate_39 rfl 0 rfl ?_
      refine j_iload_n d_D_locate_40 rfl 2 rfl ?_
      refine j_iload_n d_D_locate_41 rfl 1 rfl ?_
      refine j_iload_n d_D_locate_42 rfl 3 rfl ?_
      refine v_callV d_D_locate_43 mt_D_isGood ln_D_207 im_D_isGood se_D_isGood rfl (Nat.le_of_ble_eq_true rfl) rfl rfl ⟨Nat.le_of_ble_eq_true rfl, Nat.le_of_ble_eq_true rfl⟩ (Nat.le_of_ble_eq_true rfl) rfl (Nat.zero_le _) (Nat.zero_le _) (c_D_isGood g (lcv V k f t) L hW k hk f hf t (by omega)) rfl ?_
      rintro _ _ _ ⟨rfl, rfl, rfl⟩
      refine n_if_ne d_D_locate_46 69 rfl (Nat.lt_of_le_of_lt (igd_le _ _ _ _) (by decide)) (fun h1 => ?_) (fun h1 => ?_)
      · rw [if_neg h1] at ih'
        refine n_iinc d_D_locate_69 1 (by decide) 3 rfl (Nat.le_of_ble_eq_true rfl) (lv' := [_, _, _, _]) rfl ?_
        refine j_goto d_D_locate_72 26 rfl ?_
        refine j_lv [1, 2, 3, 0] rfl ?_
        exact ih'
      · rw [if_pos h1] at ih'
        refine j_aload_n d_D_locate_49 rfl 0 rfl ?_
        refine v_getR d_D_locate_50 lf_D_34 rfl (Nat.le_of_ble_eq_true rfl) rfl ?_
        refine j_aload_n d_D_locate_53 rfl 0 rfl ?_
        refine v_getI d_D_locate_54 lf_D_204 rfl (Nat.le_of_ble_eq_true rfl) rfl ?_
        refine j_iload_n d_D_locate_57 rfl 3 rfl ?_
        refine v_ist d_D_locate_58 rfl rfl (Nat.le_of_ble_eq_true rfl) rfl (by omega) (by omega) ?_
        refine j_aload_n d_D_locate_59 rfl 0 rfl ?_
        refine j_dup d_D_locate_60 rfl ?_
        refine v_getI d_D_locate_61 lf_D_204 rfl (Nat.le_of_ble_eq_true rfl) rfl ?_
        refine n_iconst d_D_locate_64 1 (by decide) ?_
        refine n_add d_D_locate_65 ?_
        refine v_putI d_D_locate_66 lf_D_204 rfl (Nat.le_of_ble_eq_true rfl) rfl rfl rfl rfl ?_
        refine n_iinc d_D_locate_69 1 (by decide) 3 rfl (Nat.le_of_ble_eq_true rfl) (lv' := [_, _, _, _]) rfl ?_
        refine j_goto d_D_locate_72 26 rfl ?_
        refine j_lv [1, 2, 3, 0] rfl ?_
        exact ih'
  refine j_aload_n d_D_locate_0 rfl 0 rfl ?_
  refine j_iload_n d_D_locate_1 rfl 2 rfl ?_
  refine j_iload_n d_D_locate_2 rfl 1 rfl ?_
  refine v_callV d_D_locate_3 mt_D_keeps ln_D_153 im_D_keeps se_D_keeps rfl (Nat.le_of_ble_eq_true rfl) rfl rfl ⟨Nat.le_of_ble_eq_true rfl, Nat.le_of_ble_eq_true rfl⟩ (Nat.le_of_ble_eq_true rfl) rfl (Nat.zero_le _) (Nat.zero_le _) (c_D_keeps g V L hI (nI k) (nI f)) rfl ?_
  rintro _ _ _ ⟨rfl, rfl, rfl⟩
  rw [kps_nI hI.F hk hf0, hh]
  refine n_if_ne d_D_locate_6 19 rfl (by omega) (fun h => ?_) (fun h => absurd h (by omega))
  refine j_aload_n d_D_locate_19 rfl 0 rfl ?_
  refine n_iconst d_D_locate_20 0 (by decide) ?_
  refine v_putI d_D_locate_21 lf_D_204 rfl (Nat.le_of_ble_eq_true rfl) rfl rfl rfl rfl ?_
  refine n_iconst d_D_locate_24 0 (by decide) ?_
  refine j_istore_n d_D_locate_25 (i := 3) rfl (Nat.le_of_ble_eq_true rfl) (lv' := [_, _, _, _]) rfl ?_
  refine j_lv [1, 2, 3, 0] rfl ?_
  exact loop (V (3 + 5 * f) 1) 0 (by omega)
theorem t1_D_locate (g : jG) (V : Nat → Nat → Nat) (L : Nat → Nat → Int64) (hI : jI V) (zf zk : Int32) (h : kps V zk zf = 0) : jT g Y_D_locate (6, 86) [.ref (jb g + 0), .int (zf), .int (zk)] V L 1 (jB0 V L) := by
  refine jT_entry (by decide +kernel) rfl (Nat.le_of_ble_eq_true rfl) ?_
  show jJ (g, Y_D_locate, (6, 86), 1, 6, jTQ g 1 (jB0 V L)) [(0, .ref (jb g + 0)), (1, .int (zf)), (2, .int (zk))] (jv (g, Y_D_locate, (6, 86), 1, 6, jTQ g 1 (jB0 V L)) V L 0 0) 0 []
  refine j_aload_n d_D_locate_0 rfl 0 rfl ?_
  refine j_iload_n d_D_locate_1 rfl 2 rfl ?_
  refine j_iload_n d_D_locate_2 rfl 1 rfl ?_
  refine v_callV d_D_locate_3 mt_D_keeps ln_D_153 im_D_keeps se_D_keeps rfl (Nat.le_of_ble_eq_true rfl) rfl rfl ⟨Nat.le_of_ble_eq_true rfl, Nat.le_of_ble_eq_true rfl⟩ (Nat.le_of_ble_eq_true rfl) rfl (Nat.zero_le _) (Nat.zero_le _) (c_D_keeps g V L hI zk zf) rfl ?_
  rintro _ _ _ ⟨rfl, rfl, rfl⟩
  rw [h]
  refine n_if_ne d_D_locate_6 19 rfl (by omega) (fun h => absurd h (by omega)) (fun h => ?_)
  exact v_throw (kd := 1) (tx := "the keeper has no such file") d_D_locate_9 d_D_locate_12 d_D_locate_13 d_D_locate_15 d_D_locate_18 rfl rfl lc_D_75 it_IAE iz_IAE (by decide +kernel) (by decide +kernel) own1 ⟨Nat.le_of_ble_eq_true rfl, Nat.le_of_ble_eq_true rfl⟩ (Nat.le_of_ble_eq_true rfl) (Nat.le_of_ble_eq_true rfl) rfl ⟨rfl, rfl⟩
theorem c_D_found (g : jG) (V : Nat → Nat → Nat) (L : Nat → Nat → Int64) (hI : jI V) (i : Nat) (hi : i < V 0 8) : jK g Y_D_found (0, 0) [.ref (jb g + 0), .int (nI i)] V L (jA0 (some (.int (nI (V 80 i)))) V L) := by
  refine jK_entry (by decide +kernel) rfl (Nat.le_of_ble_eq_true rfl) ?_
  show jJ (g, Y_D_found, (0, 0), 0, 0, jVQ g (jA0 (some (.int (nI (V 80 i)))) V L)) [(0, .ref (jb g + 0)), (1, .int (nI i))] (jv (g, Y_D_found, (0, 0), 0, 0, jVQ g (jA0 (some (.int (nI (V 80 i)))) V L)) V L 0 0) 0 []
  have := hI.bc
  refine j_iload_n d_D_found_0 rfl 1 rfl ?_
  refine n_iff_lt d_D_found_1 21 rfl rfl (by omega) ?_
  refine j_iload_n d_D_found_4 rfl 1 rfl ?_
  refine j_aload_n d_D_found_5 rfl 0 rfl ?_
  refine v_getI d_D_found_6 lf_D_204 rfl (Nat.le_of_ble_eq_true rfl) rfl ?_
  refine n_icmp_ge d_D_found_9 21 rfl (by omega) (by omega) (fun h => absurd h (by omega)) (fun h => ?_)
  refine j_aload_n d_D_found_12 rfl 0 rfl ?_
  refine v_getR d_D_found_13 lf_D_34 rfl (Nat.le_of_ble_eq_true rfl) rfl ?_
  refine j_iload_n d_D_found_16 rfl 1 rfl ?_
  refine v_ild d_D_found_17 rfl rfl (Nat.le_of_ble_eq_true rfl) rfl (by omega) (by omega) ?_
  refine j_goto d_D_found_18 22 rfl ?_
  exact v_iret d_D_found_22 rfl (Nat.zero_le _) (Nat.zero_le _) rfl jA0_rfl
theorem n_D_found (g : jG) (V : Nat → Nat → Nat) (L : Nat → Nat → Int64) (z : Int32) (h : isn (V 0 8) z = 0) : jK g Y_D_found (0, 0) [.ref (jb g + 0), .int (z)] V L (jA0 (some (.int (-1))) V L) := by
  refine jK_entry (by decide +kernel) rfl (Nat.le_of_ble_eq_true rfl) ?_
  show jJ (g, Y_D_found, (0, 0), 0, 0, jVQ g (jA0 (some (.int (-1))) V L)) [(0, .ref (jb g + 0)), (1, .int (z))] (jv (g, Y_D_found, (0, 0), 0, 0, jVQ g (jA0 (some (.int (-1))) V L)) V L 0 0) 0 []
  refine j_iload_n d_D_found_0 rfl 1 rfl ?_
  refine j_if_lt d_D_found_1 21 rfl (fun h1 => ?_) (fun h1 => ?_)
  · refine j_iconst d_D_found_21 (v := -1) rfl ?_
    exact v_iret d_D_found_22 rfl (Nat.zero_le _) (Nat.zero_le _) rfl jA0_rfl
  · refine j_iload_n d_D_found_4 rfl 1 rfl ?_
    refine j_aload_n d_D_found_5 rfl 0 rfl ?_
    refine v_getI d_D_found_6 lf_D_204 rfl (Nat.le_of_ble_eq_true rfl) rfl ?_
    refine j_icmp_ge d_D_found_9 21 rfl (fun h2 => ?_) (fun h2 => ?_)
    · refine j_iconst d_D_found_21 (v := -1) rfl ?_
      exact v_iret d_D_found_22 rfl (Nat.zero_le _) (Nat.zero_le _) rfl jA0_rfl
    · exact absurd h (by unfold isn; rw [if_pos ⟨h1, h2⟩]; decide)
theorem c_D_fetched (g : jG) (V : Nat → Nat → Nat) (L : Nat → Nat → Int64) (hI : jI V) (i : Nat) (hi : i < V 0 10) : jK g Y_D_fetched (0, 0) [.ref (jb g + 0), .int (nI i)] V L (jA0 (some (.int (nI (V 81 i)))) V L) := by
  refine jK_entry (by decide +kernel) rfl (Nat.le_of_ble_eq_true rfl) ?_
  show jJ (g, Y_D_fetched, (0, 0), 0, 0, jVQ g (jA0 (some (.int (nI (V 81 i)))) V L)) [(0, .ref (jb g + 0)), (1, .int (nI i))] (jv (g, Y_D_fetched, (0, 0), 0, 0, jVQ g (jA0 (some (.int (nI (V 81 i)))) V L)) V L 0 0) 0 []
  have := hI.fc
  refine j_iload_n d_D_fetched_0 rfl 1 rfl ?_
  refine n_iff_lt d_D_fetched_1 21 rfl rfl (by omega) ?_
  refine j_iload_n d_D_fetched_4 rfl 1 rfl ?_
  refine j_aload_n d_D_fetched_5 rfl 0 rfl ?_
  refine v_getI d_D_fetched_6 lf_D_223 rfl (Nat.le_of_ble_eq_true rfl) rfl ?_
  refine n_icmp_ge d_D_fetched_9 21 rfl (by omega) (by omega) (fun h => absurd h (by omega)) (fun h => ?_)
  refine j_aload_n d_D_fetched_12 rfl 0 rfl ?_
  refine v_getR d_D_fetched_13 lf_D_37 rfl (Nat.le_of_ble_eq_true rfl) rfl ?_
  refine j_iload_n d_D_fetched_16 rfl 1 rfl ?_
  refine v_ild d_D_fetched_17 rfl rfl (Nat.le_of_ble_eq_true rfl) rfl (by omega) (by omega) ?_
  refine j_goto d_D_fetched_18 22 rfl ?_
  exact v_iret d_D_fetched_22 rfl (Nat.zero_le _) (Nat.zero_le _) rfl jA0_rfl
theorem n_D_fetched (g : jG) (V : Nat → Nat → Nat) (L : Nat → Nat → Int64) (z : Int32) (h : isn (V 0 10) z = 0) : jK g Y_D_fetched (0, 0) [.ref (jb g + 0), .int (z)] V L (jA0 (some (.int (-1))) V L) := by
  refine jK_entry (by decide +kernel) rfl (Nat.le_of_ble_eq_true rfl) ?_
  show jJ (g, Y_D_fetched, (0, 0), 0, 0, jVQ g (jA0 (some (.int (-1))) V L)) [(0, .ref (jb g + 0)), (1, .int (z))] (jv (g, Y_D_fetched, (0, 0), 0, 0, jVQ g (jA0 (some (.int (-1))) V L)) V L 0 0) 0 []
  refine j_iload_n d_D_fetched_0 rfl 1 rfl ?_
  refine j_if_lt d_D_fetched_1 21 rfl (fun h1 => ?_) (fun h1 => ?_)
  · refine j_iconst d_D_fetched_21 (v := -1) rfl ?_
    exact v_iret d_D_fetched_22 rfl (Nat.zero_le _) (Nat.zero_le _) rfl jA0_rfl
  · refine j_iload_n d_D_fetched_4 rfl 1 rfl ?_
    refine j_aload_n d_D_fetched_5 rfl 0 rfl ?_
    refine v_getI d_D_fetched_6 lf_D_223 rfl (Nat.le_of_ble_eq_true rfl) rfl ?_
    refine j_icmp_ge d_D_fetched_9 21 rfl (fun h2 => ?_) (fun h2 => ?_)
    · refine j_iconst d_D_fetched_21 (v := -1) rfl ?_
      exact v_iret d_D_fetched_22 rfl (Nat.zero_le _) (Nat.zero_le _) rfl jA0_rfl
    · exact absurd h (by unfold isn; rw [if_pos ⟨h1, h2⟩]; decide)
theorem c_D_made (g : jG) (V : Nat → Nat → Nat) (L : Nat → Nat → Int64) (hI : jI V) (f : Nat) (hf0 : f < V 0 4) (r : Nat) (hr : r < V (3 + 5 * f) 1) (j : Nat) (hj : j < 5) : jK g Y_D_made (6, 86) [.ref (jb g + 0), .int (nI f), .int (nI r), .int (nI j)] V L (jA0 (some (.int (nI (V (6 + 5 * f + 1) (r * 5 + j))))) V L) := by
  refine jK_entry (by decide +kernel) rfl (Nat.le_of_ble_eq_true rfl) ?_
  show jJ (g, Y_D_made, (6, 86), 0, 0, jVQ g (jA0 (some (.int (nI (V (6 + 5 * f + 1) (r * 5 + j))))) V L)) [(0, .ref (jb g + 0)), (1, .int (nI f)), (2, .int (nI r)), (3, .int (nI j))] (jv (g, Y_D_made, (6, 86), 0, 0, jVQ g (jA0 (some (.int (nI (V (6 + 5 * f + 1) (r * 5 + j))))) V L)) V L 0 0) 0 []
  have hf : f < 3 := Nat.lt_of_lt_of_le hf0 hI.F
  have hrc := hI.rc hf
  have hwd := hI.w hf
  have h24 : r < 24 := by omega
  refine j_aload_n d_D_made_0 rfl 0 rfl ?_
  refine j_iload_n d_D_made_1 rfl 1 rfl ?_
  refine v_callV d_D_made_2 mt_D_isFile ln_D_90 im_D_isFile se_D_isFile rfl (Nat.le_of_ble_eq_true rfl) rfl rfl ⟨Nat.le_of_ble_eq_true rfl, Nat.le_of_ble_eq_true rfl⟩ (Nat.le_of_ble_eq_true rfl) rfl (Nat.zero_le _) (Nat.zero_le _) (c_D_isFile g V L (nI f)) rfl ?_
  rintro _ _ _ ⟨rfl, rfl, rfl⟩
  rw [show isf V (nI f) = 1 from isn_nI (by have := hI.F; omega) hf0]
  refine n_if_eq d_D_made_5 32 rfl (by omega) (fun h => absurd h (by omega)) (fun h => ?_)
  refine j_iload_n d_D_made_8 rfl 2 rfl ?_
  refine n_iff_lt d_D_made_9 32 rfl rfl (by omega) ?_
  refine j_iload_n d_D_made_12 rfl 2 rfl ?_
  refine j_aload_n d_D_made_13 rfl 0 rfl ?_
  refine v_getR d_D_made_14 lf_D_15 rfl (Nat.le_of_ble_eq_true rfl) rfl ?_
  refine j_iload_n d_D_made_17 rfl 1 rfl ?_
  refine v_ald d_D_made_18 rfl rfl (Nat.le_of_ble_eq_true rfl) rfl (dref f hf) (Nat.le_of_ble_eq_true rfl) ?_
  refine v_getI d_D_made_19 lf_D_114 (jshp_E f hf).1 (by omega) rfl ?_
  refine n_icmp_ge d_D_made_22 32 rfl (by omega) (by omega) (fun h => absurd h (by omega)) (fun h => ?_)
  refine j_iload_n d_D_made_25 rfl 3 rfl ?_
  refine v_callS d_D_made_26 mt_D_isRowNumber ln_D_134 sm_D_isRowNumber ⟨Nat.le_of_ble_eq_true rfl, Nat.le_of_ble_eq_true rfl⟩ (Nat.le_of_ble_eq_true rfl) rfl (Nat.zero_le _) (Nat.zero_le _) (c_D_isRowNumber g V L (nI j)) rfl ?_
  rintro _ _ _ ⟨rfl, rfl, rfl⟩
  rw [isn_nI (by omega) hj]
  refine n_if_ne d_D_made_29 42 rfl (by omega) (fun h => ?_) (fun h => absurd h (by omega))
  refine j_aload_n d_D_made_42 rfl 0 rfl ?_
  refine v_getR d_D_made_43 lf_D_15 rfl (Nat.le_of_ble_eq_true rfl) rfl ?_
  refine j_iload_n d_D_made_46 rfl 1 rfl ?_
  refine v_ald d_D_made_47 rfl rfl (Nat.le_of_ble_eq_true rfl) rfl (dref f hf) (Nat.le_of_ble_eq_true rfl) ?_
  refine v_getR d_D_made_48 lf_D_111 (jshp_E f hf).1 (by omega) rfl ?_
  refine j_iload_n d_D_made_51 rfl 2 rfl ?_
  refine j_iload_n d_D_made_52 rfl 3 rfl ?_
  refine v_callV d_D_made_53 mt_R_get ln_D_142 im_R_get se_R_get (jshp_ER f hf).1 (by omega) rfl rfl ⟨Nat.le_of_ble_eq_true rfl, Nat.le_of_ble_eq_true rfl⟩ (Nat.le_of_ble_eq_true rfl) rfl (Nat.zero_le _) (Nat.zero_le _) (c_R_get g V L (6 + 5 * f) (jshp_ER f hf).1 (jshp_ER f hf).2 (by omega) r j h24 hj) rfl ?_
  rintro _ _ _ ⟨rfl, rfl, rfl⟩
  exact v_iret d_D_made_56 rfl (Nat.zero_le _) (Nat.zero_le _) rfl jA0_rfl
theorem t2_D_made (g : jG) (V : Nat → Nat → Nat) (L : Nat → Nat → Int64) (hI : jI V) (zf zr zj : Int32) (h : isf V zf = 0 ∨ isn (V (3 + 5 * zf.toNatClampNeg) 1) zr = 0 ∨ isn 5 zj = 0) : jT g Y_D_made (6, 86) [.ref (jb g + 0), .int (zf), .int (zr), .int (zj)] V L 2 (jB0 V L) := by
  refine jT_entry (by decide +kernel) rfl (Nat.le_of_ble_eq_true rfl) ?_
  show jJ (g, Y_D_made, (6, 86), 1, 6, jTQ g 2 (jB0 V L)) [(0, .ref (jb g + 0)), (1, .int (zf)), (2, .int (zr)), (3, .int (zj))] (jv (g, Y_D_made, (6, 86), 1, 6, jTQ g 2 (jB0 V L)) V L 0 0) 0 []
  refine j_aload_n d_D_made_0 rfl 0 rfl ?_
  refine j_iload_n d_D_made_1 rfl 1 rfl ?_
  refine v_callV d_D_made_2 mt_D_isFile ln_D_90 im_D_isFile se_D_isFile rfl (Nat.le_of_ble_eq_true rfl) rfl rfl ⟨Nat.le_of_ble_eq_true rfl, Nat.le_of_ble_eq_true rfl⟩ (Nat.le_of_ble_eq_true rfl) rfl (Nat.zero_le _) (Nat.zero_le _) (c_D_isFile g V L zf) rfl ?_
  rintro _ _ _ ⟨rfl, rfl, rfl⟩
  refine n_if_eq d_D_made_5 32 rfl (Nat.lt_of_le_of_lt (isf_le _ _) (by decide)) (fun h1 => ?_) (fun h1 => ?_)
  · exact v_throw (kd := 2) (tx := "no such number of a file's row") d_D_made_32 d_D_made_35 d_D_made_36 d_D_made_38 d_D_made_41 rfl rfl lc_D_96 it_IOE iz_IOE (by decide +kernel) (by decide +kernel) own2 ⟨Nat.le_of_ble_eq_true rfl, Nat.le_of_ble_eq_true rfl⟩ (Nat.le_of_ble_eq_true rfl) (Nat.le_of_ble_eq_true rfl) rfl ⟨rfl, rfl⟩
  · obtain ⟨f, hf0, rfl⟩ := isf_of hI.F h1
    have hf : f < 3 := Nat.lt_of_lt_of_le hf0 hI.F
    rw [nI_clamp (by omega)] at h
    refine j_iload_n d_D_made_8 rfl 2 rfl ?_
    refine j_if_lt d_D_made_9 32 rfl (fun h2 => ?_) (fun h2 => ?_)
    · exact v_throw (kd := 2) (tx := "no such number of a file's row") d_D_made_32 d_D_made_35 d_D_made_36 d_D_made_38 d_D_made_41 rfl rfl lc_D_96 it_IOE iz_IOE (by decide +kernel) (by decide +kernel) own2 ⟨Nat.le_of_ble_eq_true rfl, Nat.le_of_ble_eq_true rfl⟩ (Nat.le_of_ble_eq_true rfl) (Nat.le_of_ble_eq_true rfl) rfl ⟨rfl, rfl⟩
    · refine j_iload_n d_D_made_12 rfl 2 rfl ?_
      refine j_aload_n d_D_made_13 rfl 0 rfl ?_
      refine v_getR d_D_made_14 lf_D_15 rfl (Nat.le_of_ble_eq_true rfl) rfl ?_
      refine j_iload_n d_D_made_17 rfl 1 rfl ?_
      refine v_ald d_D_made_18 rfl rfl (Nat.le_of_ble_eq_true rfl) rfl (dref f hf) (Nat.le_of_ble_eq_true rfl) ?_
      refine v_getI d_D_made_19 lf_D_114 (jshp_E f hf).1 (by omega) rfl ?_
      refine j_icmp_ge d_D_made_22 32 rfl (fun h3 => ?_) (fun h3 => ?_)
      · exact v_throw (kd := 2) (tx := "no such number of a file's row") d_D_made_32 d_D_made_35 d_D_made_36 d_D_made_38 d_D_made_41 rfl rfl lc_D_96 it_IOE iz_IOE (by decide +kernel) (by decide +kernel) own2 ⟨Nat.le_of_ble_eq_true rfl, Nat.le_of_ble_eq_true rfl⟩ (Nat.le_of_ble_eq_true rfl) (Nat.le_of_ble_eq_true rfl) rfl ⟨rfl, rfl⟩
      · have h4 : isn (V (3 + 5 * f) 1) zr = 1 := if_pos ⟨h2, h3⟩
        refine j_iload_n d_D_made_25 rfl 3 rfl ?_
        refine v_callS d_D_made_26 mt_D_isRowNumber ln_D_134 sm_D_isRowNumber ⟨Nat.le_of_ble_eq_true rfl, Nat.le_of_ble_eq_true rfl⟩ (Nat.le_of_ble_eq_true rfl) rfl (Nat.zero_le _) (Nat.zero_le _) (c_D_isRowNumber g V L zj) rfl ?_
        rintro _ _ _ ⟨rfl, rfl, rfl⟩
        refine n_if_ne d_D_made_29 42 rfl (Nat.lt_of_le_of_lt (isn_le _ _) (by decide)) (fun h5 => ?_) (fun h5 => ?_)
        · omega
        · exact v_throw (kd := 2) (tx := "no such number of a file's row") d_D_made_32 d_D_made_35 d_D_made_36 d_D_made_38 d_D_made_41 rfl rfl lc_D_96 it_IOE iz_IOE (by decide +kernel) (by decide +kernel) own2 ⟨Nat.le_of_ble_eq_true rfl, Nat.le_of_ble_eq_true rfl⟩ (Nat.le_of_ble_eq_true rfl) (Nat.le_of_ble_eq_true rfl) rfl ⟨rfl, rfl⟩
theorem c_D_kept (g : jG) (V : Nat → Nat → Nat) (L : Nat → Nat → Int64) (hI : jI V) (k : Nat) (hk : k < 4) (f : Nat) (hf0 : f < V 0 4) (r : Nat) (hr : r < V (3 + 5 * f) 1) (hh : V (21 + 14 * k + 4 * f) 0 = 1) (j : Nat) (hj : j < 5) : jK g Y_D_kept (6, 86) [.ref (jb g + 0), .int (nI k), .int (nI f), .int (nI r), .int (nI j)] V L (jA0 (some (.int (nI (V (22 + 14 * k + 4 * f + 1) (r * 5 + j))))) V L) := by
  refine jK_entry (by decide +kernel) rfl (Nat.le_of_ble_eq_true rfl) ?_
  show jJ (g, Y_D_kept, (6, 86), 0, 0, jVQ g (jA0 (some (.int (nI (V (22 + 14 * k + 4 * f + 1) (r * 5 + j))))) V L)) [(0, .ref (jb g + 0)), (1, .int (nI k)), (2, .int (nI f)), (3, .int (nI r)), (4, .int (nI j))] (jv (g, Y_D_kept, (6, 86), 0, 0, jVQ g (jA0 (some (.int (nI (V (22 + 14 * k + 4 * f + 1) (r * 5 + j))))) V L)) V L 0 0) 0 []
  have hf : f < 3 := Nat.lt_of_lt_of_le hf0 hI.F
  have hrc := hI.rc hf
  have hwd := hI.w hf
  have h24 : r < 24 := by omega
  refine j_aload_n d_D_kept_0 rfl 0 rfl ?_
  refine j_iload_n d_D_kept_1 rfl 1 rfl ?_
  refine j_iload_n d_D_kept_2 rfl 2 rfl ?_
  refine j_iload_n d_D_kept_3 rfl 3 rfl ?_
  refine v_callV d_D_kept_4 mt_D_keepsRow ln_D_121 im_D_keepsRow se_D_keepsRow rfl (Nat.le_of_ble_eq_true rfl) rfl rfl ⟨Nat.le_of_ble_eq_true rfl, Nat.le_of_ble_eq_true rfl⟩ (Nat.le_of_ble_eq_true rfl) rfl (Nat.zero_le _) (Nat.zero_le _) (c_D_keepsRow g V L hI (nI k) (nI f) (nI r)) rfl ?_
  rintro _ _ _ ⟨rfl, rfl, rfl⟩
  rw [kpr_nI hI hk hf0 hh hr]
  refine n_if_eq d_D_kept_7 24 rfl (by omega) (fun h => absurd h (by omega)) (fun h => ?_)
  refine j_iload d_D_kept_10 4 rfl ?_
  refine v_callS d_D_kept_12 mt_D_isRowNumber ln_D_134 sm_D_isRowNumber ⟨Nat.le_of_ble_eq_true rfl, Nat.le_of_ble_eq_true rfl⟩ (Nat.le_of_ble_eq_true rfl) rfl (Nat.zero_le _) (Nat.zero_le _) (c_D_isRowNumber g V L (nI j)) rfl ?_
  rintro _ _ _ ⟨rfl, rfl, rfl⟩
  rw [isn_nI (by omega) hj]
  refine n_if_ne d_D_kept_15 34 rfl (by omega) (fun h => ?_) (fun h => absurd h (by omega))
  refine j_aload_n d_D_kept_34 rfl 0 rfl ?_
  refine v_getR d_D_kept_35 lf_D_22 rfl (Nat.le_of_ble_eq_true rfl) rfl ?_
  refine j_iload_n d_D_kept_38 rfl 1 rfl ?_
  refine v_ald d_D_kept_39 rfl rfl (Nat.le_of_ble_eq_true rfl) rfl (kref k hk) (Nat.le_of_ble_eq_true rfl) ?_
  refine v_getR d_D_kept_40 lf_D_101 (jshp_K k hk).1 (by omega) rfl ?_
  refine j_iload_n d_D_kept_43 rfl 2 rfl ?_
  refine v_ald d_D_kept_44 (jshp_K k hk).2 rfl (by omega) rfl (cref k f hf) (Nat.le_of_ble_eq_true rfl) ?_
  refine j_astore d_D_kept_45 (i := 5) (Nat.le_of_ble_eq_true rfl) (lv' := [_, _, _, _, _, _]) rfl ?_
  refine j_iload d_D_kept_47 5 rfl ?_
  refine n_iconst d_D_kept_49 5 (by decide) ?_
  refine n_icmp_ne d_D_kept_50 69 rfl (by omega) (by omega) (fun h => ?_) (fun h => absurd h (by omega))
  refine j_aload d_D_kept_69 0 rfl ?_
  refine v_getR d_D_kept_71 lf_D_141 (jshp_Y k hk f hf).1 (by omega) rfl ?_
  refine j_iload_n d_D_kept_74 rfl 4 rfl ?_
  refine j_iload d_D_kept_75 5 rfl ?_
  refine v_callV d_D_kept_77 mt_R_get ln_D_142 im_R_get se_R_get (jshp_YR k hk f hf).1 (by omega) rfl rfl ⟨Nat.le_of_ble_eq_true rfl, Nat.le_of_ble_eq_true rfl⟩ (Nat.le_of_ble_eq_true rfl) rfl (Nat.zero_le _) (Nat.zero_le _) (c_R_get g V L (22 + 14 * k + 4 * f) (jshp_YR k hk f hf).1 (jshp_YR k hk f hf).2 (by omega) r j h24 hj) rfl ?_
  rintro _ _ _ ⟨rfl, rfl, rfl⟩
  exact v_iret d_D_kept_80 rfl (Nat.zero_le _) (Nat.zero_le _) rfl jA0_rfl
theorem c5_D_kept (g : jG) (V : Nat → Nat → Nat) (L : Nat → Nat → Int64) (hI : jI V) (k : Nat) (hk : k < 4) (f : Nat) (hf0 : f < V 0 4) (r : Nat) (hr : r < V (3 + 5 * f) 1) (hh : V (21 + 14 * k + 4 * f) 0 = 1)  : jK g Y_D_kept (6, 86) [.ref (jb g + 0), .int (nI k), .int (nI f), .int (nI r), .int (nI 5)] V L (jA0 (some (.int (nI (V (24 + 14 * k + 4 * f) r)))) V L) := by
  refine jK_entry (by decide +kernel) rfl (Nat.le_of_ble_eq_true rfl) ?_
  show jJ (g, Y_D_kept, (6, 86), 0, 0, jVQ g (jA0 (some (.int (nI (V (24 + 14 * k + 4 * f) r)))) V L)) [(0, .ref (jb g + 0)), (1, .int (nI k)), (2, .int (nI f)), (3, .int (nI r)), (4, .int (nI 5))] (jv (g, Y_D_kept, (6, 86), 0, 0, jVQ g (jA0 (some (.int (nI (V (24 + 14 * k + 4 * f) r)))) V L)) V L 0 0) 0 []
  have hf : f < 3 := Nat.lt_of_lt_of_le hf0 hI.F
  have hrc := hI.rc hf
  have hwd := hI.w hf
  have h24 : r < 24 := by omega
  have hll := hI.ls hk hf r h24
  refine j_aload_n d_D_kept_0 rfl 0 rfl ?_
  refine j_iload_n d_D_kept_1 rfl 1 rfl ?_
  refine j_iload_n d_D_kept_2 rfl 2 rfl ?_
  refine j_iload_n d_D_kept_3 rfl 3 rfl ?_
  refine v_callV d_D_kept_4 mt_D_keepsRow ln_D_121 im_D_keepsRow se_D_keepsRow rfl (Nat.le_of_ble_eq_true rfl) rfl rfl ⟨Nat.le_of_ble_eq_true rfl, Nat.le_of_ble_eq_true rfl⟩ (Nat.le_of_ble_eq_true rfl) rfl (Nat.zero_le _) (Nat.zero_le _) (c_D_keepsRow g V L hI (nI k) (nI f) (nI r)) rfl ?_
  rintro _ _ _ ⟨rfl, rfl, rfl⟩
  rw [kpr_nI hI hk hf0 hh hr]
  refine n_if_eq d_D_kept_7 24 rfl (by omega) (fun h => absurd h (by omega)) (fun h => ?_)
  refine j_iload d_D_kept_10 4 rfl ?_
  refine v_callS d_D_kept_12 mt_D_isRowNumber ln_D_134 sm_D_isRowNumber ⟨Nat.le_of_ble_eq_true rfl, Nat.le_of_ble_eq_true rfl⟩ (Nat.le_of_ble_eq_true rfl) rfl (Nat.zero_le _) (Nat.zero_le _) (c_D_isRowNumber g V L (nI 5)) rfl ?_
  rintro _ _ _ ⟨rfl, rfl, rfl⟩
  rw [isn_no (by decide) (Nat.le_refl 5)]
  refine n_if_ne d_D_kept_15 34 rfl (by omega) (fun h => absurd h (by omega)) (fun h => ?_)
  refine j_iload d_D_kept_18 4 rfl ?_
  refine n_iconst d_D_kept_20 5 (by decide) ?_
  refine n_icmp_eq d_D_kept_21 34 rfl (by omega) (by omega) (fun h => ?_) (fun h => absurd h (by omega))
  refine j_aload_n d_D_kept_34 rfl 0 rfl ?_
  refine v_getR d_D_kept_35 lf_D_22 rfl (Nat.le_of_ble_eq_true rfl) rfl ?_
  refine j_iload_n d_D_kept_38 rfl 1 rfl ?_
  refine v_ald d_D_kept_39 rfl rfl (Nat.le_of_ble_eq_true rfl) rfl (kref k hk) (Nat.le_of_ble_eq_true rfl) ?_
  refine v_getR d_D_kept_40 lf_D_101 (jshp_K k hk).1 (by omega) rfl ?_
  refine j_iload_n d_D_kept_43 rfl 2 rfl ?_
  refine v_ald d_D_kept_44 (jshp_K k hk).2 rfl (by omega) rfl (cref k f hf) (Nat.le_of_ble_eq_true rfl) ?_
  refine j_astore d_D_kept_45 (i := 5) (Nat.le_of_ble_eq_true rfl) (lv' := [_, _, _, _, _, _]) rfl ?_
  refine j_iload d_D_kept_47 5 rfl ?_
  refine n_iconst d_D_kept_49 5 (by decide) ?_
  refine n_icmp_ne d_D_kept_50 69 rfl (by omega) (by omega) (fun h => absurd h (by omega)) (fun h => ?_)
  refine j_aload d_D_kept_53 0 rfl ?_
  refine v_getR d_D_kept_55 lf_D_127 (jshp_Y k hk f hf).1 (by omega) rfl ?_
  refine j_iload_n d_D_kept_58 rfl 4 rfl ?_
  refine v_zld d_D_kept_59 (jshp_Y k hk f hf).2.2.2 rfl (by omega) rfl (by omega) (by omega) ?_
  refine n_if_eq d_D_kept_60 67 rfl (by omega) (fun h1 => ?_) (fun h1 => ?_)
  · rw [h1]
    refine n_iconst d_D_kept_67 0 (by decide) ?_
    exact v_iret d_D_kept_68 rfl (Nat.zero_le _) (Nat.zero_le _) rfl jA0_rfl
  · rw [show V (24 + 14 * k + 4 * f) r = 1 from by omega]
    refine n_iconst d_D_kept_63 1 (by decide) ?_
    refine j_goto d_D_kept_64 68 rfl ?_
    exact v_iret d_D_kept_68 rfl (Nat.zero_le _) (Nat.zero_le _) rfl jA0_rfl
theorem t1_D_kept (g : jG) (V : Nat → Nat → Nat) (L : Nat → Nat → Int64) (hI : jI V) (zk zf zr zj : Int32) (h : kpr V zk zf zr = 0 ∨ (isn 5 zj = 0 ∧ ¬ zj = nI 5)) : jT g Y_D_kept (6, 86) [.ref (jb g + 0), .int (zk), .int (zf), .int (zr), .int (zj)] V L 1 (jB0 V L) := by
  refine jT_entry (by decide +kernel) rfl (Nat.le_of_ble_eq_true rfl) ?_
  show jJ (g, Y_D_kept, (6, 86), 1, 6, jTQ g 1 (jB0 V L)) [(0, .ref (jb g + 0)), (1, .int (zk)), (2, .int (zf)), (3, .int (zr)), (4, .int (zj))] (jv (g, Y_D_kept, (6, 86), 1, 6, jTQ g 1 (jB0 V L)) V L 0 0) 0 []
  refine j_aload_n d_D_kept_0 rfl 0 rfl ?_
  refine j_iload_n d_D_kept_1 rfl 1 rfl ?_
  refine j_iload_n d_D_kept_2 rfl 2 rfl ?_
  refine j_iload_n d_D_kept_3 rfl 3 rfl ?_
  refine v_callV d_D_kept_4 mt_D_keepsRow ln_D_121 im_D_keepsRow se_D_keepsRow rfl (Nat.le_of_ble_eq_true rfl) rfl rfl ⟨Nat.le_of_ble_eq_true rfl, Nat.le_of_ble_eq_true rfl⟩ (Nat.le_of_ble_eq_true rfl) rfl (Nat.zero_le _) (Nat.zero_le _) (c_D_keepsRow g V L hI zk zf zr) rfl ?_
  rintro _ _ _ ⟨rfl, rfl, rfl⟩
  refine n_if_eq d_D_kept_7 24 rfl (Nat.lt_of_le_of_lt (kpr_le _ _ _) (by decide)) (fun h1 => ?_) (fun h1 => ?_)
  · exact v_throw (kd := 1) (tx := "no such number of a keeper's row") d_D_kept_24 d_D_kept_27 d_D_kept_28 d_D_kept_30 d_D_kept_33 rfl rfl lc_D_75 it_IAE iz_IAE (by decide +kernel) (by decide +kernel) own1 ⟨Nat.le_of_ble_eq_true rfl, Nat.le_of_ble_eq_true rfl⟩ (Nat.le_of_ble_eq_true rfl) (Nat.le_of_ble_eq_true rfl) rfl ⟨rfl, rfl⟩
  · obtain ⟨ha, hb⟩ := h.resolve_left h1
    refine j_iload d_D_kept_10 4 rfl ?_
    refine v_callS d_D_kept_12 mt_D_isRowNumber ln_D_134 sm_D_isRowNumber ⟨Nat.le_of_ble_eq_true rfl, Nat.le_of_ble_eq_true rfl⟩ (Nat.le_of_ble_eq_true rfl) rfl (Nat.zero_le _) (Nat.zero_le _) (c_D_isRowNumber g V L zj) rfl ?_
    rintro _ _ _ ⟨rfl, rfl, rfl⟩
    rw [ha]
    refine n_if_ne d_D_kept_15 34 rfl (by omega) (fun h => absurd h (by omega)) (fun h => ?_)
    refine j_iload d_D_kept_18 4 rfl ?_
    refine n_iconst d_D_kept_20 5 (by decide) ?_
    refine j_icmp_eq d_D_kept_21 34 rfl (fun h2 => ?_) (fun h2 => ?_)
    · exact absurd h2 hb
    · exact v_throw (kd := 1) (tx := "no such number of a keeper's row") d_D_kept_24 d_D_kept_27 d_D_kept_28 d_D_kept_30 d_D_kept_33 rfl rfl lc_D_75 it_IAE iz_IAE (by decide +kernel) (by decide +kernel) own1 ⟨Nat.le_of_ble_eq_true rfl, Nat.le_of_ble_eq_true rfl⟩ (Nat.le_of_ble_eq_true rfl) (Nat.le_of_ble_eq_true rfl) rfl ⟨rfl, rfl⟩
/-- what a repair leaves -/
def rpr (V : Nat → Nat → Nat) (k f rc : Nat) : Nat → Nat → Nat := vu (vu (bcm V k f 82 rc) (21 + 14 * k + 4 * f) 0 1) (19 + 14 * k) 3 (V (19 + 14 * k) 3 + bco V k f 82 rc)
theorem c_D_repair (g : jG) (V : Nat → Nat → Nat) (L : Nat → Nat → Int64) (hI : jI V) (k : Nat) (hk : k < 4) (f : Nat) (hf0 : f < V 0 4) (G : Nat) (hG : G ≤ 4) (hrc : V (3 + 5 * f) 1 = 6 * G) (hg : (gth V f G).2 = 1) : jK g Y_D_repair (6, 146) [.ref (jb g + 0), .int (nI f), .int (nI k)] V L (jA0 (some (.int (nI (bco (gth V f G).1 k f 82 (6 * G))))) (rpr (gth V f G).1 k f (6 * G)) L) := by
  refine jK_entry (by decide +kernel) rfl (Nat.le_of_ble_eq_true rfl) ?_
  show jJ (g, Y_D_repair, (6, 146), 0, 0, jVQ g (jA0 (some (.int (nI (bco (gth V f G).1 k f 82 (6 * G))))) (rpr (gth V f G).1 k f (6 * G)) L)) [(0, .ref (jb g + 0)), (1, .int (nI f)), (2, .int (nI k))] (jv (g, Y_D_repair, (6, 146), 0, 0, jVQ g (jA0 (some (.int (nI (bco (gth V f G).1 k f 82 (6 * G))))) (rpr (gth V f G).1 k f (6 * G)) L)) V L 0 0) 0 []
  have hf : f < 3 := Nat.lt_of_lt_of_le hf0 hI.F
  have hGG := gth_G hI hf hG
  have hX := jG2.I hI hGG
  refine j_aload_n d_D_repair_0 rfl 0 rfl ?_
  refine j_iload_n d_D_repair_1 rfl 1 rfl ?_
  refine v_callV d_D_repair_2 mt_D_isFile ln_D_90 im_D_isFile se_D_isFile rfl (Nat.le_of_ble_eq_true rfl) rfl rfl ⟨Nat.le_of_ble_eq_true rfl, Nat.le_of_ble_eq_true rfl⟩ (Nat.le_of_ble_eq_true rfl) rfl (Nat.zero_le _) (Nat.zero_le _) (c_D_isFile g V L (nI f)) rfl ?_
  rintro _ _ _ ⟨rfl, rfl, rfl⟩
  rw [show isf V (nI f) = 1 from isn_nI (by have := hI.F; omega) hf0]
  refine n_if_eq d_D_repair_5 15 rfl (by omega) (fun h => absurd h (by omega)) (fun h => ?_)
  refine j_iload_n d_D_repair_8 rfl 2 rfl ?_
  refine v_callS d_D_repair_9 mt_D_isKeeper ln_D_93 sm_D_isKeeper ⟨Nat.le_of_ble_eq_true rfl, Nat.le_of_ble_eq_true rfl⟩ (Nat.le_of_ble_eq_true rfl) rfl (Nat.zero_le _) (Nat.zero_le _) (c_D_isKeeper g V L (nI k)) rfl ?_
  rintro _ _ _ ⟨rfl, rfl, rfl⟩
  rw [isn_nI (by omega) hk]
  refine n_if_ne d_D_repair_12 25 rfl (by omega) (fun h => ?_) (fun h => absurd h (by omega))
  refine j_aload_n d_D_repair_25 rfl 0 rfl ?_
  refine j_iload_n d_D_repair_26 rfl 1 rfl ?_
  refine v_callV d_D_repair_27 mt_D_gather ln_D_210 im_D_gather se_D_gather rfl (Nat.le_of_ble_eq_true rfl) rfl rfl ⟨Nat.le_of_ble_eq_true rfl, Nat.le_of_ble_eq_true rfl⟩ (Nat.le_of_ble_eq_true rfl) rfl (Nat.zero_le _) (Nat.zero_le _) (c_D_gather g V L hI f hf G hG hrc) rfl ?_
  rintro _ _ _ ⟨rfl, rfl, rfl⟩
  rw [hg]
  refine n_if_ne d_D_repair_30 43 rfl (by omega) (fun h => ?_) (fun h => absurd h (by omega))
  have erc : (gth V f G).1 (3 + 5 * f) 1 = 6 * G := by rw [hGG.1 _ (by omega) (by omega), hrc]
  unfold rpr
  revert hX erc
  generalize (gth V f G).1 = X
  intro hX erc
  refine j_aload_n d_D_repair_43 rfl 0 rfl ?_
  refine v_getR d_D_repair_44 lf_D_22 rfl (Nat.le_of_ble_eq_true rfl) rfl ?_
  refine j_iload_n d_D_repair_47 rfl 2 rfl ?_
  refine v_ald d_D_repair_48 rfl rfl (Nat.le_of_ble_eq_true rfl) rfl (kref k hk) (Nat.le_of_ble_eq_true rfl) ?_
  refine v_getR d_D_repair_49 lf_D_101 (jshp_K k hk).1 (by omega) rfl ?_
  refine j_iload_n d_D_repair_52 rfl 1 rfl ?_
  refine v_ald d_D_repair_53 (jshp_K k hk).2 rfl (by omega) rfl (cref k f hf) (Nat.le_of_ble_eq_true rfl) ?_
  refine j_aload_n d_D_repair_54 rfl 0 rfl ?_
  refine v_getR d_D_repair_55 lf_D_43 rfl (Nat.le_of_ble_eq_true rfl) rfl ?_
  refine j_aload_n d_D_repair_58 rfl 0 rfl ?_
  refine v_getR d_D_repair_59 lf_D_15 rfl (Nat.le_of_ble_eq_true rfl) rfl ?_
  refine j_iload_n d_D_repair_62 rfl 1 rfl ?_
  refine v_ald d_D_repair_63 rfl rfl (Nat.le_of_ble_eq_true rfl) rfl (dref f hf) (Nat.le_of_ble_eq_true rfl) ?_
  refine v_getI d_D_repair_64 lf_D_114 (jshp_E f hf).1 (by omega) rfl ?_
  rw [erc]
  refine v_callV d_D_repair_67 mt_Y_become ln_D_117 im_Y_become se_Y_become (jshp_Y k hk f hf).1 (by omega) rfl rfl ⟨Nat.le_of_ble_eq_true rfl, Nat.le_of_ble_eq_true rfl⟩ (Nat.le_of_ble_eq_true rfl) rfl (Nat.zero_le _) (Nat.zero_le _) (c_Y_become g X L k hk f hf 82 rfl rfl (by decide) (by omega) (6 * G) (by omega) (hX.hd hk hf) (hX.ls hk hf) (hX.kp hk hf) hX.ga) rfl ?_
  rintro _ _ _ ⟨rfl, rfl, rfl⟩
  refine j_istore_n d_D_repair_70 (i := 3) rfl (Nat.le_of_ble_eq_true rfl) (lv' := [_, _, _, _]) rfl ?_
  refine j_aload_n d_D_repair_71 rfl 1 rfl ?_
  refine v_getR d_D_repair_72 lf_D_22 rfl (Nat.le_of_ble_eq_true rfl) rfl ?_
  refine j_iload_n d_D_repair_75 rfl 3 rfl ?_
  refine v_ald d_D_repair_76 rfl rfl (Nat.le_of_ble_eq_true rfl) rfl (kref k hk) (Nat.le_of_ble_eq_true rfl) ?_
  refine j_dup d_D_repair_77 rfl ?_
  refine v_getI d_D_repair_78 lf_D_215 (jshp_K k hk).1 (by omega) rfl ?_
  rw [show vu (bcm X k f 82 (6 * G)) (21 + 14 * k + 4 * f) 0 1 (19 + 14 * k) 3 = X (19 + 14 * k) 3 from by rw [vu_nq _ _ _ (by omega), bcm_nq (by omega) (by omega)]]
  refine j_iload_n d_D_repair_81 rfl 0 rfl ?_
  refine n_add d_D_repair_82 ?_
  refine v_putI d_D_repair_83 lf_D_215 (jshp_K k hk).1 (by omega) rfl rfl rfl rfl ?_
  refine j_iload_n d_D_repair_86 rfl 0 rfl ?_
  exact v_iret d_D_repair_87 rfl (Nat.zero_le _) (Nat.zero_le _) rfl jA0_rfl
theorem t0_D_repair (g : jG) (V : Nat → Nat → Nat) (L : Nat → Nat → Int64) (hI : jI V) (k : Nat) (hk : k < 4) (f : Nat) (hf0 : f < V 0 4) (G : Nat) (hG : G ≤ 4) (hrc : V (3 + 5 * f) 1 = 6 * G) (hg : (gth V f G).2 = 0) : jT g Y_D_repair (6, 146) [.ref (jb g + 0), .int (nI f), .int (nI k)] V L 0 (jB0 (gth V f G).1 L) := by
  refine jT_entry (by decide +kernel) rfl (Nat.le_of_ble_eq_true rfl) ?_
  show jJ (g, Y_D_repair, (6, 146), 1, 6, jTQ g 0 (jB0 (gth V f G).1 L)) [(0, .ref (jb g + 0)), (1, .int (nI f)), (2, .int (nI k))] (jv (g, Y_D_repair, (6, 146), 1, 6, jTQ g 0 (jB0 (gth V f G).1 L)) V L 0 0) 0 []
  have hf : f < 3 := Nat.lt_of_lt_of_le hf0 hI.F
  refine j_aload_n d_D_repair_0 rfl 0 rfl ?_
  refine j_iload_n d_D_repair_1 rfl 1 rfl ?_
  refine v_callV d_D_repair_2 mt_D_isFile ln_D_90 im_D_isFile se_D_isFile rfl (Nat.le_of_ble_eq_true rfl) rfl rfl ⟨Nat.le_of_ble_eq_true rfl, Nat.le_of_ble_eq_true rfl⟩ (Nat.le_of_ble_eq_true rfl) rfl (Nat.zero_le _) (Nat.zero_le _) (c_D_isFile g V L (nI f)) rfl ?_
  rintro _ _ _ ⟨rfl, rfl, rfl⟩
  rw [show isf V (nI f) = 1 from isn_nI (by have := hI.F; omega) hf0]
  refine n_if_eq d_D_repair_5 15 rfl (by omega) (fun h => absurd h (by omega)) (fun h => ?_)
  refine j_iload_n d_D_repair_8 rfl 2 rfl ?_
  refine v_callS d_D_repair_9 mt_D_isKeeper ln_D_93 sm_D_isKeeper ⟨Nat.le_of_ble_eq_true rfl, Nat.le_of_ble_eq_true rfl⟩ (Nat.le_of_ble_eq_true rfl) rfl (Nat.zero_le _) (Nat.zero_le _) (c_D_isKeeper g V L (nI k)) rfl ?_
  rintro _ _ _ ⟨rfl, rfl, rfl⟩
  rw [isn_nI (by omega) hk]
  refine n_if_ne d_D_repair_12 25 rfl (by omega) (fun h => ?_) (fun h => absurd h (by omega))
  refine j_aload_n d_D_repair_25 rfl 0 rfl ?_
  refine j_iload_n d_D_repair_26 rfl 1 rfl ?_
  refine v_callV d_D_repair_27 mt_D_gather ln_D_210 im_D_gather se_D_gather rfl (Nat.le_of_ble_eq_true rfl) rfl rfl ⟨Nat.le_of_ble_eq_true rfl, Nat.le_of_ble_eq_true rfl⟩ (Nat.le_of_ble_eq_true rfl) rfl (Nat.zero_le _) (Nat.zero_le _) (c_D_gather g V L hI f hf G hG hrc) rfl ?_
  rintro _ _ _ ⟨rfl, rfl, rfl⟩
  rw [hg]
  refine n_if_ne d_D_repair_30 43 rfl (by omega) (fun h => absurd h (by omega)) (fun h => ?_)
  exact v_throw (kd := 0) (tx := "a group has not four good rows") d_D_repair_33 d_D_repair_36 d_D_repair_37 d_D_repair_39 d_D_repair_42 rfl rfl lc_D_55 it_ISE iz_ISE (by decide +kernel) (by decide +kernel) own0 ⟨Nat.le_of_ble_eq_true rfl, Nat.le_of_ble_eq_true rfl⟩ (Nat.le_of_ble_eq_true rfl) (Nat.le_of_ble_eq_true rfl) rfl ⟨rfl, rfl⟩
theorem t2_D_repair (g : jG) (V : Nat → Nat → Nat) (L : Nat → Nat → Int64) (zf zk : Int32) (h : isf V zf = 0 ∨ isn 4 zk = 0) : jT g Y_D_repair (6, 146) [.ref (jb g + 0), .int (zf), .int (zk)] V L 2 (jB0 V L) := by
  refine jT_entry (by decide +kernel) rfl (Nat.le_of_ble_eq_true rfl) ?_
  show jJ (g, Y_D_repair, (6, 146), 1, 6, jTQ g 2 (jB0 V L)) [(0, .ref (jb g + 0)), (1, .int (zf)), (2, .int (zk))] (jv (g, Y_D_repair, (6, 146), 1, 6, jTQ g 2 (jB0 V L)) V L 0 0) 0 []
  refine j_aload_n d_D_repair_0 rfl 0 rfl ?_
  refine j_iload_n d_D_repair_1 rfl 1 rfl ?_
  refine v_callV d_D_repair_2 mt_D_isFile ln_D_90 im_D_isFile se_D_isFile rfl (Nat.le_of_ble_eq_true rfl) rfl rfl ⟨Nat.le_of_ble_eq_true rfl, Nat.le_of_ble_eq_true rfl⟩ (Nat.le_of_ble_eq_true rfl) rfl (Nat.zero_le _) (Nat.zero_le _) (c_D_isFile g V L zf) rfl ?_
  rintro _ _ _ ⟨rfl, rfl, rfl⟩
  refine n_if_eq d_D_repair_5 15 rfl (Nat.lt_of_le_of_lt (isf_le _ _) (by decide)) (fun h1 => ?_) (fun h1 => ?_)
  · exact v_throw (kd := 2) (tx := "no such file or keeper") d_D_repair_15 d_D_repair_18 d_D_repair_19 d_D_repair_21 d_D_repair_24 rfl rfl lc_D_96 it_IOE iz_IOE (by decide +kernel) (by decide +kernel) own2 ⟨Nat.le_of_ble_eq_true rfl, Nat.le_of_ble_eq_true rfl⟩ (Nat.le_of_ble_eq_true rfl) (Nat.le_of_ble_eq_true rfl) rfl ⟨rfl, rfl⟩
  · refine j_iload_n d_D_repair_8 rfl 2 rfl ?_
    refine v_callS d_D_repair_9 mt_D_isKeeper ln_D_93 sm_D_isKeeper ⟨Nat.le_of_ble_eq_true rfl, Nat.le_of_ble_eq_true rfl⟩ (Nat.le_of_ble_eq_true rfl) rfl (Nat.zero_le _) (Nat.zero_le _) (c_D_isKeeper g V L zk) rfl ?_
    rintro _ _ _ ⟨rfl, rfl, rfl⟩
    refine n_if_ne d_D_repair_12 25 rfl (Nat.lt_of_le_of_lt (isn_le _ _) (by decide)) (fun h2 => ?_) (fun h2 => ?_)
    · omega
    · exact v_throw (kd := 2) (tx := "no such file or keeper") d_D_repair_15 d_D_repair_18 d_D_repair_19 d_D_repair_21 d_D_repair_24 rfl rfl lc_D_96 it_IOE iz_IOE (by decide +kernel) (by decide +kernel) own2 ⟨Nat.le_of_ble_eq_true rfl, Nat.le_of_ble_eq_true rfl⟩ (Nat.le_of_ble_eq_true rfl) (Nat.le_of_ble_eq_true rfl) rfl ⟨rfl, rfl⟩
/-- the first t words fetched -/
def ftv (V : Nat → Nat → Nat) : Nat → Nat → Nat → Nat
  | 0 => V
  | t + 1 => vu (ftv V t) 81 t (ftv V t 83 ((t / 16 * 6 + t % 16 / 4) * 5 + t % 4))
theorem ftv_nq {V : Nat → Nat → Nat} {a : Nat} (h : a ≠ 81) : ∀ t, ftv V t a = V a
  | 0 => rfl
  | t + 1 => (vu_nq _ _ _ h).trans (ftv_nq h t)
theorem c_D_fetch (g : jG) (V : Nat → Nat → Nat) (L : Nat → Nat → Int64) (hI : jI V) (f : Nat) (hf0 : f < V 0 4) (G : Nat) (hG : G ≤ 4) (hrc : V (3 + 5 * f) 1 = 6 * G) (hg : (gth V f G).2 = 1) : jK g Y_D_fetch (6, 146) [.ref (jb g + 0), .int (nI f)] V L (jA0 (some (.int (nI (V (3 + 5 * f) 0)))) (ftv (vu (gth V f G).1 0 10 (V (3 + 5 * f) 0)) (V (3 + 5 * f) 0)) L) := by
  refine jK_entry (by decide +kernel) rfl (Nat.le_of_ble_eq_true rfl) ?_
  show jJ (g, Y_D_fetch, (6, 146), 0, 0, jVQ g (jA0 (some (.int (nI (V (3 + 5 * f) 0)))) (ftv (vu (gth V f G).1 0 10 (V (3 + 5 * f) 0)) (V (3 + 5 * f) 0)) L)) [(0, .ref (jb g + 0)), (1, .int (nI f))] (jv (g, Y_D_fetch, (6, 146), 0, 0, jVQ g (jA0 (some (.int (nI (V (3 + 5 * f) 0)))) (ftv (vu (gth V f G).1 0 10 (V (3 + 5 * f) 0)) (V (3 + 5 * f) 0)) L)) V L 0 0) 0 []
  have hf : f < 3 := Nat.lt_of_lt_of_le hf0 hI.F
  have hGG := gth_G hI hf hG
  have hwd := hI.w hf
  refine j_aload_n d_D_fetch_0 rfl 0 rfl ?_
  refine j_iload_n d_D_fetch_1 rfl 1 rfl ?_
  refine v_callV d_D_fetch_2 mt_D_isFile ln_D_90 im_D_isFile se_D_isFile rfl (Nat.le_of_ble_eq_true rfl) rfl rfl ⟨Nat.le_of_ble_eq_true rfl, Nat.le_of_ble_eq_true rfl⟩ (Nat.le_of_ble_eq_true rfl) rfl (Nat.zero_le _) (Nat.zero_le _) (c_D_isFile g V L (nI f)) rfl ?_
  rintro _ _ _ ⟨rfl, rfl, rfl⟩
  rw [show isf V (nI f) = 1 from isn_nI (by have := hI.F; omega) hf0]
  refine n_if_ne d_D_fetch_5 18 rfl (by omega) (fun h => ?_) (fun h => absurd h (by omega))
  refine j_aload_n d_D_fetch_18 rfl 0 rfl ?_
  refine j_iload_n d_D_fetch_19 rfl 1 rfl ?_
  refine v_callV d_D_fetch_20 mt_D_gather ln_D_210 im_D_gather se_D_gather rfl (Nat.le_of_ble_eq_true rfl) rfl rfl ⟨Nat.le_of_ble_eq_true rfl, Nat.le_of_ble_eq_true rfl⟩ (Nat.le_of_ble_eq_true rfl) rfl (Nat.zero_le _) (Nat.zero_le _) (c_D_gather g V L hI f hf G hG hrc) rfl ?_
  rintro _ _ _ ⟨rfl, rfl, rfl⟩
  rw [hg]
  refine n_if_ne d_D_fetch_23 36 rfl (by omega) (fun h => ?_) (fun h => absurd h (by omega))
  have ewc : (gth V f G).1 (3 + 5 * f) 0 = V (3 + 5 * f) 0 := by rw [hGG.1 _ (by omega) (by omega)]
  refine j_aload_n d_D_fetch_36 rfl 0 rfl ?_
  refine j_aload_n d_D_fetch_37 rfl 0 rfl ?_
  refine v_getR d_D_fetch_38 lf_D_15 rfl (Nat.le_of_ble_eq_true rfl) rfl ?_
  refine j_iload_n d_D_fetch_41 rfl 1 rfl ?_
  refine v_ald d_D_fetch_42 rfl rfl (Nat.le_of_ble_eq_true rfl) rfl (dref f hf) (Nat.le_of_ble_eq_true rfl) ?_
  refine v_getI d_D_fetch_43 lf_D_220 (jshp_E f hf).1 (by omega) rfl ?_
  rw [ewc]
  generalize (gth V f G).1 = X
  generalize V (3 + 5 * f) 0 = n at *
  refine v_putI d_D_fetch_46 lf_D_223 rfl (Nat.le_of_ble_eq_true rfl) rfl rfl rfl rfl ?_
  generalize hZ : vu X 0 10 n = Z
  have h10 : Z 0 10 = n := by rw [← hZ]; exact vu_eq _ _ _ _
  generalize hφ : jA0 (some (.int (nI n))) (ftv Z n) L = φ
  refine n_iconst d_D_fetch_49 0 (by decide) ?_
  refine j_istore_n d_D_fetch_50 (i := 2) rfl (Nat.le_of_ble_eq_true rfl) (lv' := [_, _, _]) rfl ?_
  refine j_lv [1, 2, 0] rfl ?_
  have loop : ∀ (m t : Nat), t + m = n → jJ (g, Y_D_fetch, (6, 146), 0, 0, jVQ g φ) [(0, .ref (jb g + 0)), (1, .int (nI f)), (2, .int (nI t))] (jv (g, Y_D_fetch, (6, 146), 0, 0, jVQ g φ) (ftv Z t) L 0 0) 51 [] := by
    intro m
    induction m with
    | zero =>
      intro t ht
      obtain rfl : t = n := by omega
      refine j_iload_n d_D_fetch_51 rfl 2 rfl ?_
      refine j_aload_n d_D_fetch_52 rfl 0 rfl ?_
      refine v_getI d_D_fetch_53 lf_D_223 rfl (Nat.le_of_ble_eq_true rfl) rfl ?_
      rw [show ftv Z t 0 10 = t from by rw [ftv_nq (by decide), h10]]
      refine n_icmp_ge d_D_fetch_56 85 rfl (by omega) (by omega) (fun h => ?_) (fun h => absurd h (by omega))
      refine j_aload_n d_D_fetch_85 rfl 0 rfl ?_
      refine v_getI d_D_fetch_86 lf_D_223 rfl (Nat.le_of_ble_eq_true rfl) rfl ?_
      rw [show ftv Z t 0 10 = t from by rw [ftv_nq (by decide), h10]]
      subst hφ
      exact v_iret d_D_fetch_89 rfl (Nat.zero_le _) (Nat.zero_le _) rfl jA0_rfl
    | succ m ih =>
      intro t ht
      refine j_iload_n d_D_fetch_51 rfl 2 rfl ?_
      refine j_aload_n d_D_fetch_52 rfl 0 rfl ?_
      refine v_getI d_D_fetch_53 lf_D_223 rfl (Nat.le_of_ble_eq_true rfl) rfl ?_
      rw [show ftv Z t 0 10 = n from by rw [ftv_nq (by decide), h10]]
      refine n_icmp_ge d_D_fetch_56 85 rfl (by omega) (by omega) (fun h => absurd h (by omega)) (fun h => ?_)
      refine j_aload_n d_D_fetch_59 rfl 0 rfl ?_
      refine v_getR d_D_fetch_60 lf_D_37 rfl (Nat.le_of_ble_eq_true rfl) rfl ?_
      refine j_iload_n d_D_fetch_63 rfl 2 rfl ?_
      refine j_aload_n d_D_fetch_64 rfl 0 rfl ?_
      refine v_getR d_D_fetch_65 lf_D_43 rfl (Nat.le_of_ble_eq_true rfl) rfl ?_
      refine j_iload_n d_D_fetch_68 rfl 2 rfl ?_
      refine v_callS d_D_fetch_69 mt_R_rowOfWord ln_D_226 sm_R_rowOfWord ⟨Nat.le_of_ble_eq_true rfl, Nat.le_of_ble_eq_true rfl⟩ (Nat.le_of_ble_eq_true rfl) rfl (Nat.zero_le _) (Nat.zero_le _) (c_R_rowOfWord g (ftv Z t) L t (by omega)) rfl ?_
      rintro _ _ _ ⟨rfl, rfl, rfl⟩
      refine j_iload_n d_D_fetch_72 rfl 2 rfl ?_
      refine n_iconst d_D_fetch_73 4 (by decide) ?_
      refine n_rem d_D_fetch_74 (by omega) (by omega) (by omega) ?_
      refine v_callV d_D_fetch_75 mt_R_get ln_D_142 im_R_get se_R_get rfl (Nat.le_of_ble_eq_true rfl) rfl rfl ⟨Nat.le_of_ble_eq_true rfl, Nat.le_of_ble_eq_true rfl⟩ (Nat.le_of_ble_eq_true rfl) rfl (Nat.zero_le _) (Nat.zero_le _) (c_R_get g (ftv Z t) L 82 rfl rfl (by decide) (t / 16 * 6 + t % 16 / 4) (t % 4) (by omega) (by omega)) rfl ?_
      rintro _ _ _ ⟨rfl, rfl, rfl⟩
      refine v_ist d_D_fetch_78 rfl rfl (Nat.le_of_ble_eq_true rfl) rfl (by omega) (by omega) ?_
      refine n_iinc d_D_fetch_79 1 (by decide) 2 rfl (Nat.le_of_ble_eq_true rfl) (lv' := [_, _, _]) rfl ?_
      refine j_goto d_D_fetch_82 51 rfl ?_
      refine j_lv [1, 2, 0] rfl ?_
      exact ih (t + 1) (by omega)
  exact loop n 0 (by omega)
theorem t0_D_fetch (g : jG) (V : Nat → Nat → Nat) (L : Nat → Nat → Int64) (hI : jI V) (f : Nat) (hf0 : f < V 0 4) (G : Nat) (hG : G ≤ 4) (hrc : V (3 + 5 * f) 1 = 6 * G) (hg : (gth V f G).2 = 0) : jT g Y_D_fetch (6, 146) [.ref (jb g + 0), .int (nI f)] V L 0 (jB0 (gth V f G).1 L) := by
  refine jT_entry (by decide +kernel) rfl (Nat.le_of_ble_eq_true rfl) ?_
  show jJ (g, Y_D_fetch, (6, 146), 1, 6, jTQ g 0 (jB0 (gth V f G).1 L)) [(0, .ref (jb g + 0)), (1, .int (nI f))] (jv (g, Y_D_fetch, (6, 146), 1, 6, jTQ g 0 (jB0 (gth V f G).1 L)) V L 0 0) 0 []
  have hf : f < 3 := Nat.lt_of_lt_of_le hf0 hI.F
  refine j_aload_n d_D_fetch_0 rfl 0 rfl ?_
  refine j_iload_n d_D_fetch_1 rfl 1 rfl ?_
  refine v_callV d_D_fetch_2 mt_D_isFile ln_D_90 im_D_isFile se_D_isFile rfl (Nat.le_of_ble_eq_true rfl) rfl rfl ⟨Nat.le_of_ble_eq_true rfl, Nat.le_of_ble_eq_true rfl⟩ (Nat.le_of_ble_eq_true rfl) rfl (Nat.zero_le _) (Nat.zero_le _) (c_D_isFile g V L (nI f)) rfl ?_
  rintro _ _ _ ⟨rfl, rfl, rfl⟩
  rw [show isf V (nI f) = 1 from isn_nI (by have := hI.F; omega) hf0]
  refine n_if_ne d_D_fetch_5 18 rfl (by omega) (fun h => ?_) (fun h => absurd h (by omega))
  refine j_aload_n d_D_fetch_18 rfl 0 rfl ?_
  refine j_iload_n d_D_fetch_19 rfl 1 rfl ?_
  refine v_callV d_D_fetch_20 mt_D_gather ln_D_210 im_D_gather se_D_gather rfl (Nat.le_of_ble_eq_true rfl) rfl rfl ⟨Nat.le_of_ble_eq_true rfl, Nat.le_of_ble_eq_true rfl⟩ (Nat.le_of_ble_eq_true rfl) rfl (Nat.zero_le _) (Nat.zero_le _) (c_D_gather g V L hI f hf G hG hrc) rfl ?_
  rintro _ _ _ ⟨rfl, rfl, rfl⟩
  rw [hg]
  refine n_if_ne d_D_fetch_23 36 rfl (by omega) (fun h => absurd h (by omega)) (fun h => ?_)
  exact v_throw (kd := 0) (tx := "a group has not four good rows") d_D_fetch_26 d_D_fetch_29 d_D_fetch_30 d_D_fetch_32 d_D_fetch_35 rfl rfl lc_D_55 it_ISE iz_ISE (by decide +kernel) (by decide +kernel) own0 ⟨Nat.le_of_ble_eq_true rfl, Nat.le_of_ble_eq_true rfl⟩ (Nat.le_of_ble_eq_true rfl) (Nat.le_of_ble_eq_true rfl) rfl ⟨rfl, rfl⟩
theorem t2_D_fetch (g : jG) (V : Nat → Nat → Nat) (L : Nat → Nat → Int64) (zf : Int32) (h : isf V zf = 0) : jT g Y_D_fetch (6, 146) [.ref (jb g + 0), .int (zf)] V L 2 (jB0 V L) := by
  refine jT_entry (by decide +kernel) rfl (Nat.le_of_ble_eq_true rfl) ?_
  show jJ (g, Y_D_fetch, (6, 146), 1, 6, jTQ g 2 (jB0 V L)) [(0, .ref (jb g + 0)), (1, .int (zf))] (jv (g, Y_D_fetch, (6, 146), 1, 6, jTQ g 2 (jB0 V L)) V L 0 0) 0 []
  refine j_aload_n d_D_fetch_0 rfl 0 rfl ?_
  refine j_iload_n d_D_fetch_1 rfl 1 rfl ?_
  refine v_callV d_D_fetch_2 mt_D_isFile ln_D_90 im_D_isFile se_D_isFile rfl (Nat.le_of_ble_eq_true rfl) rfl rfl ⟨Nat.le_of_ble_eq_true rfl, Nat.le_of_ble_eq_true rfl⟩ (Nat.le_of_ble_eq_true rfl) rfl (Nat.zero_le _) (Nat.zero_le _) (c_D_isFile g V L zf) rfl ?_
  rintro _ _ _ ⟨rfl, rfl, rfl⟩
  rw [h]
  refine n_if_ne d_D_fetch_5 18 rfl (by omega) (fun h => absurd h (by omega)) (fun h => ?_)
  exact v_throw (kd := 2) (tx := "no such file") d_D_fetch_8 d_D_fetch_11 d_D_fetch_12 d_D_fetch_14 d_D_fetch_17 rfl rfl lc_D_96 it_IOE iz_IOE (by decide +kernel) (by decide +kernel) own2 ⟨Nat.le_of_ble_eq_true rfl, Nat.le_of_ble_eq_true rfl⟩ (Nat.le_of_ble_eq_true rfl) (Nat.le_of_ble_eq_true rfl) rfl ⟨rfl, rfl⟩
