/-! AuditDesk: word, file, place, lose, change -/
def hsn (z : Int32) : Nat := if 0 ≤ z ∧ z < 2147483647 then 1 else 0
theorem c_F_hs (g : jG) (V : Nat → Nat → Nat) (L : Nat → Nat → Int64) (v : Int32) : jK g Y_F_has (0, 0) [.int v] V L (jA0 (some (.int (nI (hsn v)))) V L) := c_F_has g V L v
theorem hsn_le (z : Int32) : hsn z ≤ 1 := by
  unfold hsn
  split <;> omega
theorem hsn_nI {w : Nat} (h : w < 2147483647) : hsn (nI w) = 1 := by
  refine if_pos ⟨nI_pos' (by omega), ?_⟩
  have h1 : ¬ nI 2147483647 ≤ nI w := nI_ge h (by decide)
  exact Int32.not_le.mp h1
theorem hsn_of {z : Int32} (h : ¬ hsn z = 0) : ∃ w, w < 2147483647 ∧ z = nI w := by
  unfold hsn at h
  split at h
  next h2 =>
    rcases pk_ix z (show 2147483647 < 2 ^ 31 by decide) with h3 | h3 | h3
    · exact absurd h3 (Int32.not_lt.mpr h2.1)
    · exact absurd (show (2147483647 : Int32) ≤ z from h3) (Int32.not_le.mpr h2.2)
    · exact h3
  next => exact absurd rfl h
theorem fn_of {z : Int32} {n : Nat} (hn : n < 2 ^ 31 - 1) (h : ¬ (z < nI 1 ∨ ¬ z ≤ nI n)) : ∃ i, 1 ≤ i ∧ i ≤ n ∧ z = nI i := by
  have h1 : ¬ z < nI 1 := fun e => h (Or.inl e)
  have h2 : z ≤ nI n := Decidable.byContradiction fun e => h (Or.inr e)
  rcases pk_ix z (show n + 1 < 2 ^ 31 by omega) with h3 | h3 | ⟨i, hi, rfl⟩
  · exact absurd (Int32.lt_trans h3 (by decide)) h1
  · exact absurd (Int32.le_trans h3 h2) (nI_ge (Nat.lt_succ_self n) (by omega))
  · refine ⟨i, ?_, by omega, rfl⟩
    match i with
    | 0 => exact absurd (by decide) h1
    | i + 1 => omega
theorem kpr_nI {V : Nat → Nat → Nat} {k f r : Nat} (hI : jI V) (hk : k < 4) (hf : f < V 0 4) (hh : V (21 + 14 * k + 4 * f) 0 = 1) (hr : r < V (3 + 5 * f) 1) : kpr V (nI k) (nI f) (nI r) = 1 := by
  have h3 := hI.F
  have h4 := hI.rc (show f < 3 by omega)
  have h5 := hI.w (show f < 3 by omega)
  unfold kpr
  rw [kps_nI h3 hk hf, hh, if_neg (by omega), nI_clamp (by omega)]
  exact isn_nI (by omega) hr
theorem c_D_word (g : jG) (V : Nat → Nat → Nat) (L : Nat → Nat → Int64) (i w : Nat) (hi : i < 64) (hw : w < 2147483647) : jK g Y_D_word (1, 20) [.ref (jb g + 0), .int (nI i), .int (nI w)] V L (jA0 (some (.int (nI 1))) (vu V 1 i w) L) := by
  refine jK_entry (by decide +kernel) rfl (Nat.le_of_ble_eq_true rfl) ?_
  show jJ (g, Y_D_word, (1, 20), 0, 0, jVQ g (jA0 (some (.int (nI 1))) (vu V 1 i w) L)) [(0, .ref (jb g + 0)), (1, .int (nI i)), (2, .int (nI w))] (jv (g, Y_D_word, (1, 20), 0, 0, jVQ g (jA0 (some (.int (nI 1))) (vu V 1 i w) L)) V L 0 0) 0 []
  refine j_iload_n d_D_word_0 rfl 1 rfl ?_
  refine n_iff_lt d_D_word_1 17 rfl rfl (by omega) ?_
  refine j_iload_n d_D_word_4 rfl 1 rfl ?_
  refine n_bipush d_D_word_5 64 (by decide) ?_
  refine n_icmp_ge d_D_word_7 17 rfl (by omega) (by omega) (fun h => absurd h (by omega)) (fun h => ?_)
  refine j_iload_n d_D_word_10 rfl 2 rfl ?_
  refine v_callS d_D_word_11 mt_F_has ln_D_69 sm_F_has ⟨Nat.le_of_ble_eq_true rfl, Nat.le_of_ble_eq_true rfl⟩ (Nat.le_of_ble_eq_true rfl) rfl (Nat.zero_le _) (Nat.zero_le _) (c_F_hs g V L (nI w)) rfl ?_
  rintro _ _ _ ⟨rfl, rfl, rfl⟩
  rw [hsn_nI hw]
  refine n_if_ne d_D_word_14 19 rfl (by omega) (fun h => ?_) (fun h => absurd h (by omega))
  refine j_aload_n d_D_word_19 rfl 0 rfl ?_
  refine v_getR d_D_word_20 lf_D_9 rfl (Nat.le_of_ble_eq_true rfl) rfl ?_
  refine j_iload_n d_D_word_23 rfl 1 rfl ?_
  refine j_iload_n d_D_word_24 rfl 2 rfl ?_
  refine v_ist d_D_word_25 rfl rfl (Nat.le_of_ble_eq_true rfl) rfl (by omega) (by omega) ?_
  refine n_iconst d_D_word_26 1 (by decide) ?_
  exact v_zret d_D_word_27 rfl (by omega) (Nat.zero_le _) (Nat.zero_le _) rfl jA0_rfl
theorem n_D_word (g : jG) (V : Nat → Nat → Nat) (L : Nat → Nat → Int64) (z w : Int32) (h : isn 64 z = 0 ∨ hsn w = 0) : jK g Y_D_word (1, 20) [.ref (jb g + 0), .int (z), .int (w)] V L (jA0 (some (.int (nI 0))) V L) := by
  refine jK_entry (by decide +kernel) rfl (Nat.le_of_ble_eq_true rfl) ?_
  show jJ (g, Y_D_word, (1, 20), 0, 0, jVQ g (jA0 (some (.int (nI 0))) V L)) [(0, .ref (jb g + 0)), (1, .int (z)), (2, .int (w))] (jv (g, Y_D_word, (1, 20), 0, 0, jVQ g (jA0 (some (.int (nI 0))) V L)) V L 0 0) 0 []
  refine j_iload_n d_D_word_0 rfl 1 rfl ?_
  refine j_if_lt d_D_word_1 17 rfl (fun h1 => ?_) (fun h1 => ?_)
  · refine n_iconst d_D_word_17 0 (by decide) ?_
    exact v_zret d_D_word_18 rfl (by omega) (Nat.zero_le _) (Nat.zero_le _) rfl jA0_rfl
  · refine j_iload_n d_D_word_4 rfl 1 rfl ?_
    refine n_bipush d_D_word_5 64 (by decide) ?_
    refine j_icmp_ge d_D_word_7 17 rfl (fun h2 => ?_) (fun h2 => ?_)
    · refine n_iconst d_D_word_17 0 (by decide) ?_
      exact v_zret d_D_word_18 rfl (by omega) (Nat.zero_le _) (Nat.zero_le _) rfl jA0_rfl
    · have h3 : isn 64 z = 1 := if_pos ⟨h1, h2⟩
      refine j_iload_n d_D_word_10 rfl 2 rfl ?_
      refine v_callS d_D_word_11 mt_F_has ln_D_69 sm_F_has ⟨Nat.le_of_ble_eq_true rfl, Nat.le_of_ble_eq_true rfl⟩ (Nat.le_of_ble_eq_true rfl) rfl (Nat.zero_le _) (Nat.zero_le _) (c_F_hs g V L w) rfl ?_
      rintro _ _ _ ⟨rfl, rfl, rfl⟩
      refine n_if_ne d_D_word_14 19 rfl (Nat.lt_of_le_of_lt (hsn_le _) (by decide)) (fun h4 => ?_) (fun h4 => ?_)
      · omega
      · refine n_iconst d_D_word_17 0 (by decide) ?_
        exact v_zret d_D_word_18 rfl (by omega) (Nat.zero_le _) (Nat.zero_le _) rfl jA0_rfl
theorem c_D_file (g : jG) (V : Nat → Nat → Nat) (L : Nat → Nat → Int64) (hI : jI V) (f : Nat) (hf : f < 3) (hf0 : V 0 4 = f) (n : Nat) (h1 : 1 ≤ n) (h64 : n ≤ 64) : jK g Y_D_file (6, 115) [.ref (jb g + 0), .int (nI n)] V L (jA0 (some (.int (nI f))) (vu (mkv (drs V (L 0 0) (L 0 1) f) f n) 0 4 (f + 1)) L) := by
  refine jK_entry (by decide +kernel) rfl (Nat.le_of_ble_eq_true rfl) ?_
  show jJ (g, Y_D_file, (6, 115), 0, 0, jVQ g (jA0 (some (.int (nI f))) (vu (mkv (drs V (L 0 0) (L 0 1) f) f n) 0 4 (f + 1)) L)) [(0, .ref (jb g + 0)), (1, .int (nI n))] (jv (g, Y_D_file, (6, 115), 0, 0, jVQ g (jA0 (some (.int (nI f))) (vu (mkv (drs V (L 0 0) (L 0 1) f) f n) 0 4 (f + 1)) L)) V L 0 0) 0 []
  refine j_iload_n d_D_file_0 rfl 1 rfl ?_
  refine n_iconst d_D_file_1 1 (by decide) ?_
  refine n_icmp_lt d_D_file_2 11 rfl (by omega) (by omega) (fun h => absurd h (by omega)) (fun h => ?_)
  refine j_iload_n d_D_file_5 rfl 1 rfl ?_
  refine n_bipush d_D_file_6 64 (by decide) ?_
  refine n_icmp_le d_D_file_8 21 rfl (by omega) (by omega) (fun h => ?_) (fun h => absurd h (by omega))
  refine j_aload_n d_D_file_21 rfl 0 rfl ?_
  refine v_getI d_D_file_22 lf_D_51 rfl (Nat.le_of_ble_eq_true rfl) rfl ?_
  rw [hf0]
  refine n_iconst d_D_file_25 3 (by decide) ?_
  refine n_icmp_lt d_D_file_26 39 rfl (by omega) (by omega) (fun h => ?_) (fun h => absurd h (by omega))
  refine j_aload_n d_D_file_39 rfl 0 rfl ?_
  refine v_getI d_D_file_40 lf_D_51 rfl (Nat.le_of_ble_eq_true rfl) rfl ?_
  rw [hf0]
  refine j_istore_n d_D_file_43 (i := 2) rfl (Nat.le_of_ble_eq_true rfl) (lv' := [_, _, _]) rfl ?_
  refine j_aload_n d_D_file_44 rfl 1 rfl ?_
  refine v_getR d_D_file_45 lf_D_15 rfl (Nat.le_of_ble_eq_true rfl) rfl ?_
  refine j_iload_n d_D_file_48 rfl 0 rfl ?_
  refine v_ald d_D_file_49 rfl rfl (Nat.le_of_ble_eq_true rfl) rfl (dref f hf) (Nat.le_of_ble_eq_true rfl) ?_
  refine j_aload_n d_D_file_50 rfl 1 rfl ?_
  refine v_getL d_D_file_51 lf_D_62 rfl (Nat.le_of_ble_eq_true rfl) rfl ?_
  refine j_aload_n d_D_file_54 rfl 1 rfl ?_
  refine v_getL d_D_file_55 lf_D_66 rfl (Nat.le_of_ble_eq_true rfl) rfl ?_
  refine j_iload_n d_D_file_58 rfl 0 rfl ?_
  refine v_callV d_D_file_59 mt_E_drawSecrets ln_D_82 im_E_drawSecrets se_E_drawSecrets (jshp_E f hf).1 (by omega) rfl rfl ⟨Nat.le_of_ble_eq_true rfl, Nat.le_of_ble_eq_true rfl⟩ (Nat.le_of_ble_eq_true rfl) rfl (Nat.zero_le _) (Nat.zero_le _) (c_E_drawSecrets g V L f hf (L 0 0) (L 0 1)) rfl ?_
  rintro _ _ _ ⟨rfl, rfl, rfl⟩
  refine j_aload_n d_D_file_62 rfl 1 rfl ?_
  refine v_getR d_D_file_63 lf_D_15 rfl (Nat.le_of_ble_eq_true rfl) rfl ?_
  refine j_iload_n d_D_file_66 rfl 0 rfl ?_
  refine v_ald d_D_file_67 rfl rfl (Nat.le_of_ble_eq_true rfl) rfl (dref f hf) (Nat.le_of_ble_eq_true rfl) ?_
  refine j_aload_n d_D_file_68 rfl 1 rfl ?_
  refine v_getR d_D_file_69 lf_D_9 rfl (Nat.le_of_ble_eq_true rfl) rfl ?_
  refine j_iload_n d_D_file_72 rfl 2 rfl ?_
  have d1 : ∀ q i, drs V (L 0 0) (L 0 1) f q i < 2147483647 ∨ drs V (L 0 0) (L 0 1) f q i = V q i := fun q i => by
    unfold drs
    split
    · exact Or.inl (sN_lt _ _ _)
    · split
      · exact Or.inl (sN_lt _ _ _)
      · exact Or.inr rfl
  refine v_callV d_D_file_73 mt_E_make ln_D_86 im_E_make se_E_make (jshp_E f hf).1 (by omega) rfl rfl ⟨Nat.le_of_ble_eq_true rfl, Nat.le_of_ble_eq_true rfl⟩ (Nat.le_of_ble_eq_true rfl) rfl (Nat.zero_le _) (Nat.zero_le _) (c_E_make g (drs V (L 0 0) (L 0 1) f) L f hf n h1 h64 (fun i hi => (d1 _ i).elim id (fun e => by rw [e]; exact hI.md hf i hi)) (fun i hi => (d1 _ i).elim id (fun e => by rw [e]; exact hI.bf i hi)) (fun i hi => (d1 _ i).elim id (fun e => by rw [e]; exact hI.al hf i hi)) (fun i hi => (d1 _ i).elim id (fun e => by rw [e]; exact hI.ms hf i hi))) rfl ?_
  rintro _ _ _ ⟨rfl, rfl, rfl⟩
  refine j_aload_n d_D_file_76 rfl 1 rfl ?_
  refine j_iload_n d_D_file_77 rfl 0 rfl ?_
  refine n_iconst d_D_file_78 1 (by decide) ?_
  refine n_add d_D_file_79 ?_
  refine v_putI d_D_file_80 lf_D_51 rfl (Nat.le_of_ble_eq_true rfl) rfl rfl rfl rfl ?_
  refine j_iload_n d_D_file_83 rfl 0 rfl ?_
  exact v_iret d_D_file_84 rfl (Nat.zero_le _) (Nat.zero_le _) rfl jA0_rfl
theorem t1_D_file (g : jG) (V : Nat → Nat → Nat) (L : Nat → Nat → Int64) (z : Int32) (h : z < nI 1 ∨ ¬ z ≤ nI 64) : jT g Y_D_file (6, 115) [.ref (jb g + 0), .int (z)] V L 1 (jB0 V L) := by
  refine jT_entry (by decide +kernel) rfl (Nat.le_of_ble_eq_true rfl) ?_
  show jJ (g, Y_D_file, (6, 115), 1, 6, jTQ g 1 (jB0 V L)) [(0, .ref (jb g + 0)), (1, .int (z))] (jv (g, Y_D_file, (6, 115), 1, 6, jTQ g 1 (jB0 V L)) V L 0 0) 0 []
  refine j_iload_n d_D_file_0 rfl 1 rfl ?_
  refine n_iconst d_D_file_1 1 (by decide) ?_
  refine j_icmp_lt d_D_file_2 11 rfl (fun h1 => ?_) (fun h1 => ?_)
  · exact v_throw (kd := 1) (tx := "a file has 1 to 64 words") d_D_file_11 d_D_file_14 d_D_file_15 d_D_file_17 d_D_file_20 rfl rfl lc_D_75 it_IAE iz_IAE (by decide +kernel) (by decide +kernel) own1 ⟨Nat.le_of_ble_eq_true rfl, Nat.le_of_ble_eq_true rfl⟩ (Nat.le_of_ble_eq_true rfl) (Nat.le_of_ble_eq_true rfl) rfl ⟨rfl, rfl⟩
  · refine j_iload_n d_D_file_5 rfl 1 rfl ?_
    refine n_bipush d_D_file_6 64 (by decide) ?_
    refine j_icmp_le d_D_file_8 21 rfl (fun h2 => ?_) (fun h2 => ?_)
    · exact (h.elim h1 (fun e => e h2)).elim
    · exact v_throw (kd := 1) (tx := "a file has 1 to 64 words") d_D_file_11 d_D_file_14 d_D_file_15 d_D_file_17 d_D_file_20 rfl rfl lc_D_75 it_IAE iz_IAE (by decide +kernel) (by decide +kernel) own1 ⟨Nat.le_of_ble_eq_true rfl, Nat.le_of_ble_eq_true rfl⟩ (Nat.le_of_ble_eq_true rfl) (Nat.le_of_ble_eq_true rfl) rfl ⟨rfl, rfl⟩
theorem t0_D_file (g : jG) (V : Nat → Nat → Nat) (L : Nat → Nat → Int64) (h3 : V 0 4 = 3) (n : Nat) (h1 : 1 ≤ n) (h64 : n ≤ 64) : jT g Y_D_file (6, 115) [.ref (jb g + 0), .int (nI n)] V L 0 (jB0 V L) := by
  refine jT_entry (by decide +kernel) rfl (Nat.le_of_ble_eq_true rfl) ?_
  show jJ (g, Y_D_file, (6, 115), 1, 6, jTQ g 0 (jB0 V L)) [(0, .ref (jb g + 0)), (1, .int (nI n))] (jv (g, Y_D_file, (6, 115), 1, 6, jTQ g 0 (jB0 V L)) V L 0 0) 0 []
  refine j_iload_n d_D_file_0 rfl 1 rfl ?_
  refine n_iconst d_D_file_1 1 (by decide) ?_
  refine n_icmp_lt d_D_file_2 11 rfl (by omega) (by omega) (fun h => absurd h (by omega)) (fun h => ?_)
  refine j_iload_n d_D_file_5 rfl 1 rfl ?_
  refine n_bipush d_D_file_6 64 (by decide) ?_
  refine n_icmp_le d_D_file_8 21 rfl (by omega) (by omega) (fun h => ?_) (fun h => absurd h (by omega))
  refine j_aload_n d_D_file_21 rfl 0 rfl ?_
  refine v_getI d_D_file_22 lf_D_51 rfl (Nat.le_of_ble_eq_true rfl) rfl ?_
  rw [h3]
  refine n_iconst d_D_file_25 3 (by decide) ?_
  refine n_icmp_lt d_D_file_26 39 rfl (by omega) (by omega) (fun h => absurd h (by omega)) (fun h => ?_)
  exact v_throw (kd := 0) (tx := "there are 3 files") d_D_file_29 d_D_file_32 d_D_file_33 d_D_file_35 d_D_file_38 rfl rfl lc_D_55 it_ISE iz_ISE (by decide +kernel) (by decide +kernel) own0 ⟨Nat.le_of_ble_eq_true rfl, Nat.le_of_ble_eq_true rfl⟩ (Nat.le_of_ble_eq_true rfl) (Nat.le_of_ble_eq_true rfl) rfl ⟨rfl, rfl⟩
theorem c0_D_place (g : jG) (V : Nat → Nat → Nat) (L : Nat → Nat → Int64) (hI : jI V) (k : Nat) (hk : k < 4) (f : Nat) (hf0 : f < V 0 4) (hh : V (21 + 14 * k + 4 * f) 0 = 1) : jK g Y_D_place (6, 94) [.ref (jb g + 0), .int (nI f), .int (nI k)] V L (jA0 (some (.int (nI 0))) V L) := by
  refine jK_entry (by decide +kernel) rfl (Nat.le_of_ble_eq_true rfl) ?_
  show jJ (g, Y_D_place, (6, 94), 0, 0, jVQ g (jA0 (some (.int (nI 0))) V L)) [(0, .ref (jb g + 0)), (1, .int (nI f)), (2, .int (nI k))] (jv (g, Y_D_place, (6, 94), 0, 0, jVQ g (jA0 (some (.int (nI 0))) V L)) V L 0 0) 0 []
  have hf : f < 3 := Nat.lt_of_lt_of_le hf0 hI.F
  refine j_aload_n d_D_place_0 rfl 0 rfl ?_
  refine j_iload_n d_D_place_1 rfl 1 rfl ?_
  refine v_callV d_D_place_2 mt_D_isFile ln_D_90 im_D_isFile se_D_isFile rfl (Nat.le_of_ble_eq_true rfl) rfl rfl ⟨Nat.le_of_ble_eq_true rfl, Nat.le_of_ble_eq_true rfl⟩ (Nat.le_of_ble_eq_true rfl) rfl (Nat.zero_le _) (Nat.zero_le _) (c_D_isFile g V L (nI f)) rfl ?_
  rintro _ _ _ ⟨rfl, rfl, rfl⟩
  rw [show isf V (nI f) = 1 from isn_nI (by have := hI.F; omega) hf0]
  refine n_if_eq d_D_place_5 15 rfl (by omega) (fun h => absurd h (by omega)) (fun h => ?_)
  refine j_iload_n d_D_place_8 rfl 2 rfl ?_
  refine v_callS d_D_place_9 mt_D_isKeeper ln_D_93 sm_D_isKeeper ⟨Nat.le_of_ble_eq_true rfl, Nat.le_of_ble_eq_true rfl⟩ (Nat.le_of_ble_eq_true rfl) rfl (Nat.zero_le _) (Nat.zero_le _) (c_D_isKeeper g V L (nI k)) rfl ?_
  rintro _ _ _ ⟨rfl, rfl, rfl⟩
  rw [isn_nI (by omega) hk]
  refine n_if_ne d_D_place_12 25 rfl (by omega) (fun h => ?_) (fun h => absurd h (by omega))
  refine j_aload_n d_D_place_25 rfl 0 rfl ?_
  refine v_getR d_D_place_26 lf_D_22 rfl (Nat.le_of_ble_eq_true rfl) rfl ?_
  refine j_iload_n d_D_place_29 rfl 2 rfl ?_
  refine v_ald d_D_place_30 rfl rfl (Nat.le_of_ble_eq_true rfl) rfl (kref k hk) (Nat.le_of_ble_eq_true rfl) ?_
  refine v_getR d_D_place_31 lf_D_101 (jshp_K k hk).1 (by omega) rfl ?_
  refine j_iload_n d_D_place_34 rfl 1 rfl ?_
  refine v_ald d_D_place_35 (jshp_K k hk).2 rfl (by omega) rfl (cref k f hf) (Nat.le_of_ble_eq_true rfl) ?_
  refine j_astore_n d_D_place_36 (i := 3) rfl (Nat.le_of_ble_eq_true rfl) (lv' := [_, _, _, _]) rfl ?_
  refine j_aload_n d_D_place_37 rfl 0 rfl ?_
  refine v_getI d_D_place_38 lf_D_105 (jshp_Y k hk f hf).1 (by omega) rfl ?_
  rw [hh]
  refine n_if_eq d_D_place_41 46 rfl (by omega) (fun h => absurd h (by omega)) (fun h => ?_)
  refine n_iconst d_D_place_44 0 (by decide) ?_
  exact v_zret d_D_place_45 rfl (by omega) (Nat.zero_le _) (Nat.zero_le _) rfl jA0_rfl
theorem c1_D_place (g : jG) (V : Nat → Nat → Nat) (L : Nat → Nat → Int64) (hI : jI V) (k : Nat) (hk : k < 4) (f : Nat) (hf0 : f < V 0 4) (hh : V (21 + 14 * k + 4 * f) 0 = 0) : jK g Y_D_place (6, 94) [.ref (jb g + 0), .int (nI f), .int (nI k)] V L (jA0 (some (.int (nI 1))) (vu (bcm V k f (6 + 5 * f) (V (3 + 5 * f) 1)) (21 + 14 * k + 4 * f) 0 1) L) := by
  refine jK_entry (by decide +kernel) rfl (Nat.le_of_ble_eq_true rfl) ?_
  show jJ (g, Y_D_place, (6, 94), 0, 0, jVQ g (jA0 (some (.int (nI 1))) (vu (bcm V k f (6 + 5 * f) (V (3 + 5 * f) 1)) (21 + 14 * k + 4 * f) 0 1) L)) [(0, .ref (jb g + 0)), (1, .int (nI f)), (2, .int (nI k))] (jv (g, Y_D_place, (6, 94), 0, 0, jVQ g (jA0 (some (.int (nI 1))) (vu (bcm V k f (6 + 5 * f) (V (3 + 5 * f) 1)) (21 + 14 * k + 4 * f) 0 1) L)) V L 0 0) 0 []
  have hf : f < 3 := Nat.lt_of_lt_of_le hf0 hI.F
  have hrc := hI.rc hf
  have hwd := hI.w hf
  refine j_aload_n d_D_place_0 rfl 0 rfl ?_
  refine j_iload_n d_D_place_1 rfl 1 rfl ?_
  refine v_callV d_D_place_2 mt_D_isFile ln_D_90 im_D_isFile se_D_isFile rfl (Nat.le_of_ble_eq_true rfl) rfl rfl ⟨Nat.le_of_ble_eq_true rfl, Nat.le_of_ble_eq_true rfl⟩ (Nat.le_of_ble_eq_true rfl) rfl (Nat.zero_le _) (Nat.zero_le _) (c_D_isFile g V L (nI f)) rfl ?_
  rintro _ _ _ ⟨rfl, rfl, rfl⟩
  rw [show isf V (nI f) = 1 from isn_nI (by have := hI.F; omega) hf0]
  refine n_if_eq d_D_place_5 15 rfl (by omega) (fun h => absurd h (by omega)) (fun h => ?_)
  refine j_iload_n d_D_place_8 rfl 2 rfl ?_
  refine v_callS d_D_place_9 mt_D_isKeeper ln_D_93 sm_D_isKeeper ⟨Nat.le_of_ble_eq_true rfl, Nat.le_of_ble_eq_true rfl⟩ (Nat.le_of_ble_eq_true rfl) rfl (Nat.zero_le _) (Nat.zero_le _) (c_D_isKeeper g V L (nI k)) rfl ?_
  rintro _ _ _ ⟨rfl, rfl, rfl⟩
  rw [isn_nI (by omega) hk]
  refine n_if_ne d_D_place_12 25 rfl (by omega) (fun h => ?_) (fun h => absurd h (by omega))
  refine j_aload_n d_D_place_25 rfl 0 rfl ?_
  refine v_getR d_D_place_26 lf_D_22 rfl (Nat.le_of_ble_eq_true rfl) rfl ?_
  refine j_iload_n d_D_place_29 rfl 2 rfl ?_
  refine v_ald d_D_place_30 rfl rfl (Nat.le_of_ble_eq_true rfl) rfl (kref k hk) (Nat.le_of_ble_eq_true rfl) ?_
  refine v_getR d_D_place_31 lf_D_101 (jshp_K k hk).1 (by omega) rfl ?_
  refine j_iload_n d_D_place_34 rfl 1 rfl ?_
  refine v_ald d_D_place_35 (jshp_K k hk).2 rfl (by omega) rfl (cref k f hf) (Nat.le_of_ble_eq_true rfl) ?_
  refine j_astore_n d_D_place_36 (i := 3) rfl (Nat.le_of_ble_eq_true rfl) (lv' := [_, _, _, _]) rfl ?_
  refine j_aload_n d_D_place_37 rfl 0 rfl ?_
  refine v_getI d_D_place_38 lf_D_105 (jshp_Y k hk f hf).1 (by omega) rfl ?_
  rw [hh]
  refine n_if_eq d_D_place_41 46 rfl (by omega) (fun h => ?_) (fun h => absurd h (by omega))
  refine j_aload_n d_D_place_46 rfl 0 rfl ?_
  refine j_aload_n d_D_place_47 rfl 1 rfl ?_
  refine v_getR d_D_place_48 lf_D_15 rfl (Nat.le_of_ble_eq_true rfl) rfl ?_
  refine j_iload_n d_D_place_51 rfl 2 rfl ?_
  refine v_ald d_D_place_52 rfl rfl (Nat.le_of_ble_eq_true rfl) rfl (dref f hf) (Nat.le_of_ble_eq_true rfl) ?_
  refine v_getR d_D_place_53 lf_D_111 (jshp_E f hf).1 (by omega) rfl ?_
  refine j_aload_n d_D_place_56 rfl 1 rfl ?_
  refine v_getR d_D_place_57 lf_D_15 rfl (Nat.le_of_ble_eq_true rfl) rfl ?_
  refine j_iload_n d_D_place_60 rfl 2 rfl ?_
  refine v_ald d_D_place_61 rfl rfl (Nat.le_of_ble_eq_true rfl) rfl (dref f hf) (Nat.le_of_ble_eq_true rfl) ?_
  refine v_getI d_D_place_62 lf_D_114 (jshp_E f hf).1 (by omega) rfl ?_
  refine v_callV d_D_place_65 mt_Y_become ln_D_117 im_Y_become se_Y_become (jshp_Y k hk f hf).1 (by omega) rfl rfl ⟨Nat.le_of_ble_eq_true rfl, Nat.le_of_ble_eq_true rfl⟩ (Nat.le_of_ble_eq_true rfl) rfl (Nat.zero_le _) (Nat.zero_le _) (c_Y_become g V L k hk f hf (6 + 5 * f) (jshp_ER f hf).1 (jshp_ER f hf).2 (by omega) (by omega) (V (3 + 5 * f) 1) (by omega) (hI.hd hk hf) (hI.ls hk hf) (hI.kp hk hf) (hI.md hf)) rfl ?_
  rintro _ _ _ ⟨rfl, rfl, rfl⟩
  refine j_pop d_D_place_68 rfl ?_
  refine n_iconst d_D_place_69 1 (by decide) ?_
  exact v_zret d_D_place_70 rfl (by omega) (Nat.zero_le _) (Nat.zero_le _) rfl jA0_rfl
theorem t2_D_place (g : jG) (V : Nat → Nat → Nat) (L : Nat → Nat → Int64) (zf zk : Int32) (h : isf V zf = 0 ∨ isn 4 zk = 0) : jT g Y_D_place (6, 94) [.ref (jb g + 0), .int (zf), .int (zk)] V L 2 (jB0 V L) := by
  refine jT_entry (by decide +kernel) rfl (Nat.le_of_ble_eq_true rfl) ?_
  show jJ (g, Y_D_place, (6, 94), 1, 6, jTQ g 2 (jB0 V L)) [(0, .ref (jb g + 0)), (1, .int (zf)), (2, .int (zk))] (jv (g, Y_D_place, (6, 94), 1, 6, jTQ g 2 (jB0 V L)) V L 0 0) 0 []
  refine j_aload_n d_D_place_0 rfl 0 rfl ?_
  refine j_iload_n d_D_place_1 rfl 1 rfl ?_
  refine v_callV d_D_place_2 mt_D_isFile ln_D_90 im_D_isFile se_D_isFile rfl (Nat.le_of_ble_eq_true rfl) rfl rfl ⟨Nat.le_of_ble_eq_true rfl, Nat.le_of_ble_eq_true rfl⟩ (Nat.le_of_ble_eq_true rfl) rfl (Nat.zero_le _) (Nat.zero_le _) (c_D_isFile g V L zf) rfl ?_
  rintro _ _ _ ⟨rfl, rfl, rfl⟩
  refine n_if_eq d_D_place_5 15 rfl (Nat.lt_of_le_of_lt (isf_le _ _) (by decide)) (fun h1 => ?_) (fun h1 => ?_)
  · exact v_throw (kd := 2) (tx := "no such file or keeper") d_D_place_15 d_D_place_18 d_D_place_19 d_D_place_21 d_D_place_24 rfl rfl lc_D_96 it_IOE iz_IOE (by decide +kernel) (by decide +kernel) own2 ⟨Nat.le_of_ble_eq_true rfl, Nat.le_of_ble_eq_true rfl⟩ (Nat.le_of_ble_eq_true rfl) (Nat.le_of_ble_eq_true rfl) rfl ⟨rfl, rfl⟩
  · refine j_iload_n d_D_place_8 rfl 2 rfl ?_
    refine v_callS d_D_place_9 mt_D_isKeeper ln_D_93 sm_D_isKeeper ⟨Nat.le_of_ble_eq_true rfl, Nat.le_of_ble_eq_true rfl⟩ (Nat.le_of_ble_eq_true rfl) rfl (Nat.zero_le _) (Nat.zero_le _) (c_D_isKeeper g V L zk) rfl ?_
    rintro _ _ _ ⟨rfl, rfl, rfl⟩
    refine n_if_ne d_D_place_12 25 rfl (Nat.lt_of_le_of_lt (isn_le _ _) (by decide)) (fun h2 => ?_) (fun h2 => ?_)
    · omega
    · exact v_throw (kd := 2) (tx := "no such file or keeper") d_D_place_15 d_D_place_18 d_D_place_19 d_D_place_21 d_D_place_24 rfl rfl lc_D_96 it_IOE iz_IOE (by decide +kernel) (by decide +kernel) own2 ⟨Nat.le_of_ble_eq_true rfl, Nat.le_of_ble_eq_true rfl⟩ (Nat.le_of_ble_eq_true rfl) (Nat.le_of_ble_eq_true rfl) rfl ⟨rfl, rfl⟩
theorem c0_D_lose (g : jG) (V : Nat → Nat → Nat) (L : Nat → Nat → Int64) (hI : jI V) (k : Nat) (hk : k < 4) (f : Nat) (hf0 : f < V 0 4) (r : Nat) (hr : r < V (3 + 5 * f) 1) (hh : V (21 + 14 * k + 4 * f) 0 = 1) (hl : V (24 + 14 * k + 4 * f) r = 1) : jK g Y_D_lose (6, 86) [.ref (jb g + 0), .int (nI k), .int (nI f), .int (nI r)] V L (jA0 (some (.int (nI 0))) V L) := by
  refine jK_entry (by decide +kernel) rfl (Nat.le_of_ble_eq_true rfl) ?_
  show jJ (g, Y_D_lose, (6, 86), 0, 0, jVQ g (jA0 (some (.int (nI 0))) V L)) [(0, .ref (jb g + 0)), (1, .int (nI k)), (2, .int (nI f)), (3, .int (nI r))] (jv (g, Y_D_lose, (6, 86), 0, 0, jVQ g (jA0 (some (.int (nI 0))) V L)) V L 0 0) 0 []
  have hf : f < 3 := Nat.lt_of_lt_of_le hf0 hI.F
  have hrc := hI.rc hf
  have hwd := hI.w hf
  have h24 : r < 24 := by omega
  refine j_aload_n d_D_lose_0 rfl 0 rfl ?_
  refine j_iload_n d_D_lose_1 rfl 1 rfl ?_
  refine j_iload_n d_D_lose_2 rfl 2 rfl ?_
  refine j_iload_n d_D_lose_3 rfl 3 rfl ?_
  refine v_callV d_D_lose_4 mt_D_keepsRow ln_D_121 im_D_keepsRow se_D_keepsRow rfl (Nat.le_of_ble_eq_true rfl) rfl rfl ⟨Nat.le_of_ble_eq_true rfl, Nat.le_of_ble_eq_true rfl⟩ (Nat.le_of_ble_eq_true rfl) rfl (Nat.zero_le _) (Nat.zero_le _) (c_D_keepsRow g V L hI (nI k) (nI f) (nI r)) rfl ?_
  rintro _ _ _ ⟨rfl, rfl, rfl⟩
  rw [kpr_nI hI hk hf0 hh hr]
  refine n_if_ne d_D_lose_7 20 rfl (by omega) (fun h => ?_) (fun h => absurd h (by omega))
  refine j_aload_n d_D_lose_20 rfl 0 rfl ?_
  refine v_getR d_D_lose_21 lf_D_22 rfl (Nat.le_of_ble_eq_true rfl) rfl ?_
  refine j_iload_n d_D_lose_24 rfl 1 rfl ?_
  refine v_ald d_D_lose_25 rfl rfl (Nat.le_of_ble_eq_true rfl) rfl (kref k hk) (Nat.le_of_ble_eq_true rfl) ?_
  refine v_getR d_D_lose_26 lf_D_101 (jshp_K k hk).1 (by omega) rfl ?_
  refine j_iload_n d_D_lose_29 rfl 2 rfl ?_
  refine v_ald d_D_lose_30 (jshp_K k hk).2 rfl (by omega) rfl (cref k f hf) (Nat.le_of_ble_eq_true rfl) ?_
  refine j_astore d_D_lose_31 (i := 4) (Nat.le_of_ble_eq_true rfl) (lv' := [_, _, _, _, _]) rfl ?_
  refine j_aload d_D_lose_33 0 rfl ?_
  refine v_getR d_D_lose_35 lf_D_127 (jshp_Y k hk f hf).1 (by omega) rfl ?_
  refine j_iload_n d_D_lose_38 rfl 4 rfl ?_
  refine v_zld d_D_lose_39 (jshp_Y k hk f hf).2.2.2 rfl (by omega) rfl (by omega) (by omega) ?_
  rw [hl]
  refine n_if_eq d_D_lose_40 45 rfl (by omega) (fun h => absurd h (by omega)) (fun h => ?_)
  refine n_iconst d_D_lose_43 0 (by decide) ?_
  exact v_zret d_D_lose_44 rfl (by omega) (Nat.zero_le _) (Nat.zero_le _) rfl jA0_rfl
theorem c1_D_lose (g : jG) (V : Nat → Nat → Nat) (L : Nat → Nat → Int64) (hI : jI V) (k : Nat) (hk : k < 4) (f : Nat) (hf0 : f < V 0 4) (r : Nat) (hr : r < V (3 + 5 * f) 1) (hh : V (21 + 14 * k + 4 * f) 0 = 1) (hl : V (24 + 14 * k + 4 * f) r = 0) : jK g Y_D_lose (6, 86) [.ref (jb g + 0), .int (nI k), .int (nI f), .int (nI r)] V L (jA0 (some (.int (nI 1))) (clr (vu V (24 + 14 * k + 4 * f) r 1) (22 + 14 * k + 4 * f) r) L) := by
  refine jK_entry (by decide +kernel) rfl (Nat.le_of_ble_eq_true rfl) ?_
  show jJ (g, Y_D_lose, (6, 86), 0, 0, jVQ g (jA0 (some (.int (nI 1))) (clr (vu V (24 + 14 * k + 4 * f) r 1) (22 + 14 * k + 4 * f) r) L)) [(0, .ref (jb g + 0)), (1, .int (nI k)), (2, .int (nI f)), (3, .int (nI r))] (jv (g, Y_D_lose, (6, 86), 0, 0, jVQ g (jA0 (some (.int (nI 1))) (clr (vu V (24 + 14 * k + 4 * f) r 1) (22 + 14 * k + 4 * f) r) L)) V L 0 0) 0 []
  have hf : f < 3 := Nat.lt_of_lt_of_le hf0 hI.F
  have hrc := hI.rc hf
  have hwd := hI.w hf
  have h24 : r < 24 := by omega
  refine j_aload_n d_D_lose_0 rfl 0 rfl ?_
  refine j_iload_n d_D_lose_1 rfl 1 rfl ?_
  refine j_iload_n d_D_lose_2 rfl 2 rfl ?_
  refine j_iload_n d_D_lose_3 rfl 3 rfl ?_
  refine v_callV d_D_lose_4 mt_D_keepsRow ln_D_121 im_D_keepsRow se_D_keepsRow rfl (Nat.le_of_ble_eq_true rfl) rfl rfl ⟨Nat.le_of_ble_eq_true rfl, Nat.le_of_ble_eq_true rfl⟩ (Nat.le_of_ble_eq_true rfl) rfl (Nat.zero_le _) (Nat.zero_le _) (c_D_keepsRow g V L hI (nI k) (nI f) (nI r)) rfl ?_
  rintro _ _ _ ⟨rfl, rfl, rfl⟩
  rw [kpr_nI hI hk hf0 hh hr]
  refine n_if_ne d_D_lose_7 20 rfl (by omega) (fun h => ?_) (fun h => absurd h (by omega))
  refine j_aload_n d_D_lose_20 rfl 0 rfl ?_
  refine v_getR d_D_lose_21 lf_D_22 rfl (Nat.le_of_ble_eq_true rfl) rfl ?_
  refine j_iload_n d_D_lose_24 rfl 1 rfl ?_
  refine v_ald d_D_lose_25 rfl rfl (Nat.le_of_ble_eq_true rfl) rfl (kref k hk) (Nat.le_of_ble_eq_true rfl) ?_
  refine v_getR d_D_lose_26 lf_D_101 (jshp_K k hk).1 (by omega) rfl ?_
  refine j_iload_n d_D_lose_29 rfl 2 rfl ?_
  refine v_ald d_D_lose_30 (jshp_K k hk).2 rfl (by omega) rfl (cref k f hf) (Nat.le_of_ble_eq_true rfl) ?_
  refine j_astore d_D_lose_31 (i := 4) (Nat.le_of_ble_eq_true rfl) (lv' := [_, _, _, _, _]) rfl ?_
  refine j_aload d_D_lose_33 0 rfl ?_
  refine v_getR d_D_lose_35 lf_D_127 (jshp_Y k hk f hf).1 (by omega) rfl ?_
  refine j_iload_n d_D_lose_38 rfl 4 rfl ?_
  refine v_zld d_D_lose_39 (jshp_Y k hk f hf).2.2.2 rfl (by omega) rfl (by omega) (by omega) ?_
  rw [hl]
  refine n_if_eq d_D_lose_40 45 rfl (by omega) (fun h => ?_) (fun h => absurd h (by omega))
  refine j_aload d_D_lose_45 0 rfl ?_
  refine j_iload_n d_D_lose_47 rfl 4 rfl ?_
  refine v_callV d_D_lose_48 mt_Y_drop ln_D_130 im_Y_drop se_Y_drop (jshp_Y k hk f hf).1 (by omega) rfl rfl ⟨Nat.le_of_ble_eq_true rfl, Nat.le_of_ble_eq_true rfl⟩ (Nat.le_of_ble_eq_true rfl) rfl (Nat.zero_le _) (Nat.zero_le _) (c_Y_drop g V L k hk f hf r h24) rfl ?_
  rintro _ _ _ ⟨rfl, rfl, rfl⟩
  refine n_iconst d_D_lose_51 1 (by decide) ?_
  exact v_zret d_D_lose_52 rfl (by omega) (Nat.zero_le _) (Nat.zero_le _) rfl jA0_rfl
theorem t1_D_lose (g : jG) (V : Nat → Nat → Nat) (L : Nat → Nat → Int64) (hI : jI V) (zk zf zr : Int32) (h : kpr V zk zf zr = 0) : jT g Y_D_lose (6, 86) [.ref (jb g + 0), .int (zk), .int (zf), .int (zr)] V L 1 (jB0 V L) := by
  refine jT_entry (by decide +kernel) rfl (Nat.le_of_ble_eq_true rfl) ?_
  show jJ (g, Y_D_lose, (6, 86), 1, 6, jTQ g 1 (jB0 V L)) [(0, .ref (jb g + 0)), (1, .int (zk)), (2, .int (zf)), (3, .int (zr))] (jv (g, Y_D_lose, (6, 86), 1, 6, jTQ g 1 (jB0 V L)) V L 0 0) 0 []
  refine j_aload_n d_D_lose_0 rfl 0 rfl ?_
  refine j_iload_n d_D_lose_1 rfl 1 rfl ?_
  refine j_iload_n d_D_lose_2 rfl 2 rfl ?_
  refine j_iload_n d_D_lose_3 rfl 3 rfl ?_
  refine v_callV d_D_lose_4 mt_D_keepsRow ln_D_121 im_D_keepsRow se_D_keepsRow rfl (Nat.le_of_ble_eq_true rfl) rfl rfl ⟨Nat.le_of_ble_eq_true rfl, Nat.le_of_ble_eq_true rfl⟩ (Nat.le_of_ble_eq_true rfl) rfl (Nat.zero_le _) (Nat.zero_le _) (c_D_keepsRow g V L hI zk zf zr) rfl ?_
  rintro _ _ _ ⟨rfl, rfl, rfl⟩
  rw [h]
  refine n_if_ne d_D_lose_7 20 rfl (by omega) (fun h => absurd h (by omega)) (fun h => ?_)
  exact v_throw (kd := 1) (tx := "no such row of a keeper") d_D_lose_10 d_D_lose_13 d_D_lose_14 d_D_lose_16 d_D_lose_19 rfl rfl lc_D_75 it_IAE iz_IAE (by decide +kernel) (by decide +kernel) own1 ⟨Nat.le_of_ble_eq_true rfl, Nat.le_of_ble_eq_true rfl⟩ (Nat.le_of_ble_eq_true rfl) (Nat.le_of_ble_eq_true rfl) rfl ⟨rfl, rfl⟩
theorem c_D_change (g : jG) (V : Nat → Nat → Nat) (L : Nat → Nat → Int64) (hI : jI V) (k : Nat) (hk : k < 4) (f : Nat) (hf0 : f < V 0 4) (r : Nat) (hr : r < V (3 + 5 * f) 1) (hh : V (21 + 14 * k + 4 * f) 0 = 1) (hl : V (24 + 14 * k + 4 * f) r = 0) (j : Nat) (hj : j < 5) (d : Nat) (hd : d < 2147483647)  : jK g Y_D_change (6, 86) [.ref (jb g + 0), .int (nI k), .int (nI f), .int (nI r), .int (nI j), .int (nI d)] V L (jA0 (some (.int (nI (fpl (V (22 + 14 * k + 4 * f + 1) (r * 5 + j)) d)))) (vu V (22 + 14 * k + 4 * f + 1) (r * 5 + j) (fpl (V (22 + 14 * k + 4 * f + 1) (r * 5 + j)) d)) L) := by
  refine jK_entry (by decide +kernel) rfl (Nat.le_of_ble_eq_true rfl) ?_
  show jJ (g, Y_D_change, (6, 86), 0, 0, jVQ g (jA0 (some (.int (nI (fpl (V (22 + 14 * k + 4 * f + 1) (r * 5 + j)) d)))) (vu V (22 + 14 * k + 4 * f + 1) (r * 5 + j) (fpl (V (22 + 14 * k + 4 * f + 1) (r * 5 + j)) d)) L)) [(0, .ref (jb g + 0)), (1, .int (nI k)), (2, .int (nI f)), (3, .int (nI r)), (4, .int (nI j)), (5, .int (nI d))] (jv (g, Y_D_change, (6, 86), 0, 0, jVQ g (jA0 (some (.int (nI (fpl (V (22 + 14 * k + 4 * f + 1) (r * 5 + j)) d)))) (vu V (22 + 14 * k + 4 * f + 1) (r * 5 + j) (fpl (V (22 + 14 * k + 4 * f + 1) (r * 5 + j)) d)) L)) V L 0 0) 0 []
  have hf : f < 3 := Nat.lt_of_lt_of_le hf0 hI.F
  have hrc := hI.rc hf
  have hwd := hI.w hf
  have h24 : r < 24 := by omega
  refine j_aload_n d_D_change_0 rfl 0 rfl ?_
  refine j_iload_n d_D_change_1 rfl 1 rfl ?_
  refine j_iload_n d_D_change_2 rfl 2 rfl ?_
  refine j_iload_n d_D_change_3 rfl 3 rfl ?_
  refine v_callV d_D_change_4 mt_D_keepsRow ln_D_121 im_D_keepsRow se_D_keepsRow rfl (Nat.le_of_ble_eq_true rfl) rfl rfl ⟨Nat.le_of_ble_eq_true rfl, Nat.le_of_ble_eq_true rfl⟩ (Nat.le_of_ble_eq_true rfl) rfl (Nat.zero_le _) (Nat.zero_le _) (c_D_keepsRow g V L hI (nI k) (nI f) (nI r)) rfl ?_
  rintro _ _ _ ⟨rfl, rfl, rfl⟩
  rw [kpr_nI hI hk hf0 hh hr]
  refine n_if_eq d_D_change_7 26 rfl (by omega) (fun h => absurd h (by omega)) (fun h => ?_)
  refine j_iload d_D_change_10 4 rfl ?_
  refine v_callS d_D_change_12 mt_D_isRowNumber ln_D_134 sm_D_isRowNumber ⟨Nat.le_of_ble_eq_true rfl, Nat.le_of_ble_eq_true rfl⟩ (Nat.le_of_ble_eq_true rfl) rfl (Nat.zero_le _) (Nat.zero_le _) (c_D_isRowNumber g V L (nI j)) rfl ?_
  rintro _ _ _ ⟨rfl, rfl, rfl⟩
  rw [isn_nI (by omega) hj]
  refine n_if_eq d_D_change_15 26 rfl (by omega) (fun h => absurd h (by omega)) (fun h => ?_)
  refine j_iload d_D_change_18 5 rfl ?_
  refine v_callS d_D_change_20 mt_F_has ln_D_69 sm_F_has ⟨Nat.le_of_ble_eq_true rfl, Nat.le_of_ble_eq_true rfl⟩ (Nat.le_of_ble_eq_true rfl) rfl (Nat.zero_le _) (Nat.zero_le _) (c_F_hs g V L (nI d)) rfl ?_
  rintro _ _ _ ⟨rfl, rfl, rfl⟩
  rw [hsn_nI hd]
  refine n_if_ne d_D_change_23 36 rfl (by omega) (fun h => ?_) (fun h => absurd h (by omega))
  refine j_aload_n d_D_change_36 rfl 0 rfl ?_
  refine v_getR d_D_change_37 lf_D_22 rfl (Nat.le_of_ble_eq_true rfl) rfl ?_
  refine j_iload_n d_D_change_40 rfl 1 rfl ?_
  refine v_ald d_D_change_41 rfl rfl (Nat.le_of_ble_eq_true rfl) rfl (kref k hk) (Nat.le_of_ble_eq_true rfl) ?_
  refine v_getR d_D_change_42 lf_D_101 (jshp_K k hk).1 (by omega) rfl ?_
  refine j_iload_n d_D_change_45 rfl 2 rfl ?_
  refine v_ald d_D_change_46 (jshp_K k hk).2 rfl (by omega) rfl (cref k f hf) (Nat.le_of_ble_eq_true rfl) ?_
  refine j_astore d_D_change_47 (i := 6) (Nat.le_of_ble_eq_true rfl) (lv' := [_, _, _, _, _, _, _]) rfl ?_
  refine j_aload d_D_change_49 0 rfl ?_
  refine v_getR d_D_change_51 lf_D_127 (jshp_Y k hk f hf).1 (by omega) rfl ?_
  refine j_iload_n d_D_change_54 rfl 4 rfl ?_
  refine v_zld d_D_change_55 (jshp_Y k hk f hf).2.2.2 rfl (by omega) rfl (by omega) (by omega) ?_
  rw [hl]
  refine n_if_eq d_D_change_56 69 rfl (by omega) (fun h => ?_) (fun h => absurd h (by omega))
  refine j_aload d_D_change_69 0 rfl ?_
  refine v_getR d_D_change_71 lf_D_141 (jshp_Y k hk f hf).1 (by omega) rfl ?_
  refine j_iload_n d_D_change_74 rfl 4 rfl ?_
  refine j_iload d_D_change_75 5 rfl ?_
  refine v_callV d_D_change_77 mt_R_get ln_D_142 im_R_get se_R_get (jshp_YR k hk f hf).1 (by omega) rfl rfl ⟨Nat.le_of_ble_eq_true rfl, Nat.le_of_ble_eq_true rfl⟩ (Nat.le_of_ble_eq_true rfl) rfl (Nat.zero_le _) (Nat.zero_le _) (c_R_get g V L (22 + 14 * k + 4 * f) (jshp_YR k hk f hf).1 (jshp_YR k hk f hf).2 (by omega) r j h24 hj) rfl ?_
  rintro _ _ _ ⟨rfl, rfl, rfl⟩
  refine j_iload d_D_change_80 6 rfl ?_
  refine v_callS d_D_change_82 mt_F_plus ln_D_146 sm_F_plus ⟨Nat.le_of_ble_eq_true rfl, Nat.le_of_ble_eq_true rfl⟩ (Nat.le_of_ble_eq_true rfl) rfl (Nat.zero_le _) (Nat.zero_le _) (c_F_pl g V L _ d (Nat.lt_of_lt_of_le (hI.kp hk hf _ (by omega)) (by decide)) (by omega)) rfl ?_
  rintro _ _ _ ⟨rfl, rfl, rfl⟩
  refine j_istore d_D_change_85 (i := 7) (Nat.le_of_ble_eq_true rfl) (lv' := [_, _, _, _, _, _, _, _]) rfl ?_
  refine j_aload d_D_change_87 1 rfl ?_
  refine v_getR d_D_change_89 lf_D_141 (jshp_Y k hk f hf).1 (by omega) rfl ?_
  refine j_iload_n d_D_change_92 rfl 5 rfl ?_
  refine j_iload d_D_change_93 6 rfl ?_
  refine j_iload d_D_change_95 0 rfl ?_
  refine v_callV d_D_change_97 mt_R_set ln_D_149 im_R_set se_R_set (jshp_YR k hk f hf).1 (by omega) rfl rfl ⟨Nat.le_of_ble_eq_true rfl, Nat.le_of_ble_eq_true rfl⟩ (Nat.le_of_ble_eq_true rfl) rfl (Nat.zero_le _) (Nat.zero_le _) (c_R_set g V L (22 + 14 * k + 4 * f) (jshp_YR k hk f hf).1 (jshp_YR k hk f hf).2 (by omega) r j h24 hj _) rfl ?_
  rintro _ _ _ ⟨rfl, rfl, rfl⟩
  refine j_iload d_D_change_100 0 rfl ?_
  exact v_iret d_D_change_102 rfl (Nat.zero_le _) (Nat.zero_le _) rfl jA0_rfl
theorem t0_D_change (g : jG) (V : Nat → Nat → Nat) (L : Nat → Nat → Int64) (hI : jI V) (k : Nat) (hk : k < 4) (f : Nat) (hf0 : f < V 0 4) (r : Nat) (hr : r < V (3 + 5 * f) 1) (hh : V (21 + 14 * k + 4 * f) 0 = 1) (hl : V (24 + 14 * k + 4 * f) r = 1) (j : Nat) (hj : j < 5) (d : Nat) (hd : d < 2147483647)  : jT g Y_D_change (6, 86) [.ref (jb g + 0), .int (nI k), .int (nI f), .int (nI r), .int (nI j), .int (nI d)] V L 0 (jB0 V L) := by
  refine jT_entry (by decide +kernel) rfl (Nat.le_of_ble_eq_true rfl) ?_
  show jJ (g, Y_D_change, (6, 86), 1, 6, jTQ g 0 (jB0 V L)) [(0, .ref (jb g + 0)), (1, .int (nI k)), (2, .int (nI f)), (3, .int (nI r)), (4, .int (nI j)), (5, .int (nI d))] (jv (g, Y_D_change, (6, 86), 1, 6, jTQ g 0 (jB0 V L)) V L 0 0) 0 []
  have hf : f < 3 := Nat.lt_of_lt_of_le hf0 hI.F
  have hrc := hI.rc hf
  have hwd := hI.w hf
  have h24 : r < 24 := by omega
  refine j_aload_n d_D_change_0 rfl 0 rfl ?_
  refine j_iload_n d_D_change_1 rfl 1 rfl ?_
  refine j_iload_n d_D_change_2 rfl 2 rfl ?_
  refine j_iload_n d_D_change_3 rfl 3 rfl ?_
  refine v_callV d_D_change_4 mt_D_keepsRow ln_D_121 im_D_keepsRow se_D_keepsRow rfl (Nat.le_of_ble_eq_true rfl) rfl rfl ⟨Nat.le_of_ble_eq_true rfl, Nat.le_of_ble_eq_true rfl⟩ (Nat.le_of_ble_eq_true rfl) rfl (Nat.zero_le _) (Nat.zero_le _) (c_D_keepsRow g V L hI (nI k) (nI f) (nI r)) rfl ?_
  rintro _ _ _ ⟨rfl, rfl, rfl⟩
  rw [kpr_nI hI hk hf0 hh hr]
  refine n_if_eq d_D_change_7 26 rfl (by omega) (fun h => absurd h (by omega)) (fun h => ?_)
  refine j_iload d_D_change_10 4 rfl ?_
  refine v_callS d_D_change_12 mt_D_isRowNumber ln_D_134 sm_D_isRowNumber ⟨Nat.le_of_ble_eq_true rfl, Nat.le_of_ble_eq_true rfl⟩ (Nat.le_of_ble_eq_true rfl) rfl (Nat.zero_le _) (Nat.zero_le _) (c_D_isRowNumber g V L (nI j)) rfl ?_
  rintro _ _ _ ⟨rfl, rfl, rfl⟩
  rw [isn_nI (by omega) hj]
  refine n_if_eq d_D_change_15 26 rfl (by omega) (fun h => absurd h (by omega)) (fun h => ?_)
  refine j_iload d_D_change_18 5 rfl ?_
  refine v_callS d_D_change_20 mt_F_has ln_D_69 sm_F_has ⟨Nat.le_of_ble_eq_true rfl, Nat.le_of_ble_eq_true rfl⟩ (Nat.le_of_ble_eq_true rfl) rfl (Nat.zero_le _) (Nat.zero_le _) (c_F_hs g V L (nI d)) rfl ?_
  rintro _ _ _ ⟨rfl, rfl, rfl⟩
  rw [hsn_nI hd]
  refine n_if_ne d_D_change_23 36 rfl (by omega) (fun h => ?_) (fun h => absurd h (by omega))
  refine j_aload_n d_D_change_36 rfl 0 rfl ?_
  refine v_getR d_D_change_37 lf_D_22 rfl (Nat.le_of_ble_eq_true rfl) rfl ?_
  refine j_iload_n d_D_change_40 rfl 1 rfl ?_
  refine v_ald d_D_change_41 rfl rfl (Nat.le_of_ble_eq_true rfl) rfl (kref k hk) (Nat.le_of_ble_eq_true rfl) ?_
  refine v_getR d_D_change_42 lf_D_101 (jshp_K k hk).1 (by omega) rfl ?_
  refine j_iload_n d_D_change_45 rfl 2 rfl ?_
  refine v_ald d_D_change_46 (jshp_K k hk).2 rfl (by omega) rfl (cref k f hf) (Nat.le_of_ble_eq_true rfl) ?_
  refine j_astore d_D_change_47 (i := 6) (Nat.le_of_ble_eq_true rfl) (lv' := [_, _, _, _, _, _, _]) rfl ?_
  refine j_aload d_D_change_49 0 rfl ?_
  refine v_getR d_D_change_51 lf_D_127 (jshp_Y k hk f hf).1 (by omega) rfl ?_
  refine j_iload_n d_D_change_54 rfl 4 rfl ?_
  refine v_zld d_D_change_55 (jshp_Y k hk f hf).2.2.2 rfl (by omega) rfl (by omega) (by omega) ?_
  rw [hl]
  refine n_if_eq d_D_change_56 69 rfl (by omega) (fun h => absurd h (by omega)) (fun h => ?_)
  exact v_throw (kd := 0) (tx := "the row is lost") d_D_change_59 d_D_change_62 d_D_change_63 d_D_change_65 d_D_change_68 rfl rfl lc_D_55 it_ISE iz_ISE (by decide +kernel) (by decide +kernel) own0 ⟨Nat.le_of_ble_eq_true rfl, Nat.le_of_ble_eq_true rfl⟩ (Nat.le_of_ble_eq_true rfl) (Nat.le_of_ble_eq_true rfl) rfl ⟨rfl, rfl⟩
theorem t1_D_change (g : jG) (V : Nat → Nat → Nat) (L : Nat → Nat → Int64) (hI : jI V) (zk zf zr zj zd : Int32) (h : kpr V zk zf zr = 0 ∨ isn 5 zj = 0 ∨ hsn zd = 0) : jT g Y_D_change (6, 86) [.ref (jb g + 0), .int (zk), .int (zf), .int (zr), .int (zj), .int (zd)] V L 1 (jB0 V L) := by
  refine jT_entry (by decide +kernel) rfl (Nat.le_of_ble_eq_true rfl) ?_
  show jJ (g, Y_D_change, (6, 86), 1, 6, jTQ g 1 (jB0 V L)) [(0, .ref (jb g + 0)), (1, .int (zk)), (2, .int (zf)), (3, .int (zr)), (4, .int (zj)), (5, .int (zd))] (jv (g, Y_D_change, (6, 86), 1, 6, jTQ g 1 (jB0 V L)) V L 0 0) 0 []
  refine j_aload_n d_D_change_0 rfl 0 rfl ?_
  refine j_iload_n d_D_change_1 rfl 1 rfl ?_
  refine j_iload_n d_D_change_2 rfl 2 rfl ?_
  refine j_iload_n d_D_change_3 rfl 3 rfl ?_
  refine v_callV d_D_change_4 mt_D_keepsRow ln_D_121 im_D_keepsRow se_D_keepsRow rfl (Nat.le_of_ble_eq_true rfl) rfl rfl ⟨Nat.le_of_ble_eq_true rfl, Nat.le_of_ble_eq_true rfl⟩ (Nat.le_of_ble_eq_true rfl) rfl (Nat.zero_le _) (Nat.zero_le _) (c_D_keepsRow g V L hI zk zf zr) rfl ?_
  rintro _ _ _ ⟨rfl, rfl, rfl⟩
  refine n_if_eq d_D_change_7 26 rfl (Nat.lt_of_le_of_lt (kpr_le _ _ _) (by decide)) (fun h1 => ?_) (fun h1 => ?_)
  · exact v_throw (kd := 1) (tx := "no such number of a keeper's row, or d is not of the field") d_D_change_26 d_D_change_29 d_D_change_30 d_D_change_32 d_D_change_35 rfl rfl lc_D_75 it_IAE iz_IAE (by decide +kernel) (by decide +kernel) own1 ⟨Nat.le_of_ble_eq_true rfl, Nat.le_of_ble_eq_true rfl⟩ (Nat.le_of_ble_eq_true rfl) (Nat.le_of_ble_eq_true rfl) rfl ⟨rfl, rfl⟩
  · refine j_iload d_D_change_10 4 rfl ?_
    refine v_callS d_D_change_12 mt_D_isRowNumber ln_D_134 sm_D_isRowNumber ⟨Nat.le_of_ble_eq_true rfl, Nat.le_of_ble_eq_true rfl⟩ (Nat.le_of_ble_eq_true rfl) rfl (Nat.zero_le _) (Nat.zero_le _) (c_D_isRowNumber g V L zj) rfl ?_
    rintro _ _ _ ⟨rfl, rfl, rfl⟩
    refine n_if_eq d_D_change_15 26 rfl (Nat.lt_of_le_of_lt (isn_le _ _) (by decide)) (fun h2 => ?_) (fun h2 => ?_)
    · exact v_throw (kd := 1) (tx := "no such number of a keeper's row, or d is not of the field") d_D_change_26 d_D_change_29 d_D_change_30 d_D_change_32 d_D_change_35 rfl rfl lc_D_75 it_IAE iz_IAE (by decide +kernel) (by decide +kernel) own1 ⟨Nat.le_of_ble_eq_true rfl, Nat.le_of_ble_eq_true rfl⟩ (Nat.le_of_ble_eq_true rfl) (Nat.le_of_ble_eq_true rfl) rfl ⟨rfl, rfl⟩
    · refine j_iload d_D_change_18 5 rfl ?_
      refine v_callS d_D_change_20 mt_F_has ln_D_69 sm_F_has ⟨Nat.le_of_ble_eq_true rfl, Nat.le_of_ble_eq_true rfl⟩ (Nat.le_of_ble_eq_true rfl) rfl (Nat.zero_le _) (Nat.zero_le _) (c_F_hs g V L zd) rfl ?_
      rintro _ _ _ ⟨rfl, rfl, rfl⟩
      refine n_if_ne d_D_change_23 36 rfl (Nat.lt_of_le_of_lt (hsn_le _) (by decide)) (fun h3 => ?_) (fun h3 => ?_)
      · omega
      · exact v_throw (kd := 1) (tx := "no such number of a keeper's row, or d is not of the field") d_D_change_26 d_D_change_29 d_D_change_30 d_D_change_32 d_D_change_35 rfl rfl lc_D_75 it_IAE iz_IAE (by decide +kernel) (by decide +kernel) own1 ⟨Nat.le_of_ble_eq_true rfl, Nat.le_of_ble_eq_true rfl⟩ (Nat.le_of_ble_eq_true rfl) (Nat.le_of_ble_eq_true rfl) rfl ⟨rfl, rfl⟩
