/-! AuditDeskModel: public methods -/
theorem nI_ltt {a b : Nat} (h : a < b) (hb : b < 2 ^ 31) : nI a < nI b := Int32.not_le.mp (nI_ge h hb)
theorem jN_t {V : Nat → Nat → Nat} (x : Nat) (h : jN V) : jN (vu V 85 0 x) := h
theorem le_of {z : Int32} {n : Nat} (hn : n < 2 ^ 31 - 1) (h1 : ¬ z < 0) (h2 : ¬ nI n < z) : ∃ i, i ≤ n ∧ z = nI i := by
  rcases pk_ix z (show n + 1 < 2 ^ 31 by omega) with h3 | h3 | ⟨i, hi, rfl⟩
  · exact absurd h3 h1
  · exact absurd (Int32.lt_of_lt_of_le (nI_ltt (Nat.lt_succ_self n) (by omega)) h3) h2
  · exact ⟨i, by omega, rfl⟩
theorem mrw_nI {V : Nat → Nat → Nat} {k f i : Nat} (hN : jN V) (hk : k < 4) (hf : f < V 85 4) (hh : V 89 (3 * k + f) = 1) (hi : i < mrs V f) : mrw V (nI k) (nI f) (nI i) = 1 := by
  have h3 := hN.F
  have h5 := hN.w (show f < 3 by omega)
  unfold mrw
  rw [mhl_nI h3 hk hf, hh, if_neg (by omega), nI_clamp (by omega)]
  exact isn_nI (by unfold mrs; omega) hi
theorem c_M_key (g : jG) (V : Nat → Nat → Nat) (L : Nat → Nat → Int64) (a b : Int64) (h0 : V 85 4 = 0) : jK g Y_M_key (0, 0) [.ref (jb g + 85), .long a, .long b] V L (jA0 none (vu V 85 0 0) (jupL (jupL L 85 1 a) 85 2 b)) := by
  refine jK_entry (by decide +kernel) rfl (Nat.le_of_ble_eq_true rfl) ?_
  show jJ (g, Y_M_key, (0, 0), 0, 0, jVQ g (jA0 none (vu V 85 0 0) (jupL (jupL L 85 1 a) 85 2 b))) [(0, .ref (jb g + 85)), (1, .long a), (3, .long b)] (jv (g, Y_M_key, (0, 0), 0, 0, jVQ g (jA0 none (vu V 85 0 0) (jupL (jupL L 85 1 a) 85 2 b))) V L 0 0) 0 []
  refine j_aload_n d_M_key_0 rfl 0 rfl ?_
  refine j_aload_n d_M_key_1 rfl 0 rfl ?_
  refine v_getI d_M_key_2 lf_M_88 rfl (Nat.le_of_ble_eq_true rfl) rfl ?_
  rw [h0]
  refine n_ift_le d_M_key_5 12 rfl rfl (by decide) ?_
  refine n_iconst d_M_key_12 0 (by decide) ?_
  refine v_putI d_M_key_13 lf_M_63 rfl (Nat.le_of_ble_eq_true rfl) rfl rfl rfl rfl ?_
  refine j_aload_n d_M_key_16 rfl 0 rfl ?_
  refine v_getI d_M_key_17 lf_M_63 rfl (Nat.le_of_ble_eq_true rfl) rfl ?_
  rw [vu_eq]
  refine n_iff_ne d_M_key_20 33 rfl rfl (by decide) ?_
  refine j_aload_n d_M_key_23 rfl 0 rfl ?_
  refine j_lload_n d_M_key_24 rfl 1 rfl ?_
  refine v_putL d_M_key_25 lf_M_75 rfl (Nat.le_of_ble_eq_true rfl) rfl rfl rfl rfl ?_
  refine j_aload_n d_M_key_28 rfl 0 rfl ?_
  refine j_lload_n d_M_key_29 rfl 2 rfl ?_
  refine v_putL d_M_key_30 lf_M_85 rfl (Nat.le_of_ble_eq_true rfl) rfl rfl rfl rfl ?_
  exact v_vret d_M_key_33 rfl (Nat.zero_le _) (Nat.zero_le _) rfl jA0_rfl
theorem n_M_key (g : jG) (V : Nat → Nat → Nat) (L : Nat → Nat → Int64) (a b : Int64) (h0 : 0 < V 85 4) (h3 : V 85 4 ≤ 3) : jK g Y_M_key (0, 0) [.ref (jb g + 85), .long a, .long b] V L (jA0 none (vu V 85 0 1) L) := by
  refine jK_entry (by decide +kernel) rfl (Nat.le_of_ble_eq_true rfl) ?_
  show jJ (g, Y_M_key, (0, 0), 0, 0, jVQ g (jA0 none (vu V 85 0 1) L)) [(0, .ref (jb g + 85)), (1, .long a), (3, .long b)] (jv (g, Y_M_key, (0, 0), 0, 0, jVQ g (jA0 none (vu V 85 0 1) L)) V L 0 0) 0 []
  refine j_aload_n d_M_key_0 rfl 0 rfl ?_
  refine j_aload_n d_M_key_1 rfl 0 rfl ?_
  refine v_getI d_M_key_2 lf_M_88 rfl (Nat.le_of_ble_eq_true rfl) rfl ?_
  refine n_iff_le d_M_key_5 12 rfl h0 (by omega) ?_
  refine n_iconst d_M_key_8 1 (by decide) ?_
  refine j_goto d_M_key_9 13 rfl ?_
  refine v_putI d_M_key_13 lf_M_63 rfl (Nat.le_of_ble_eq_true rfl) rfl rfl rfl rfl ?_
  refine j_aload_n d_M_key_16 rfl 0 rfl ?_
  refine v_getI d_M_key_17 lf_M_63 rfl (Nat.le_of_ble_eq_true rfl) rfl ?_
  rw [vu_eq]
  refine n_ift_ne d_M_key_20 33 rfl (by decide) (by decide) ?_
  exact v_vret d_M_key_33 rfl (Nat.zero_le _) (Nat.zero_le _) rfl jA0_rfl
theorem c_M_word (g : jG) (V : Nat → Nat → Nat) (L : Nat → Nat → Int64) (i w : Nat) (hi : i < 64) (hw : w < 2147483647) : jK g Y_M_word (1, 20) [.ref (jb g + 85), .int (nI i), .int (nI w)] V L (jA0 (some (.int (nI 1))) (vu (vu V 85 0 0) 86 i w) L) := by
  refine jK_entry (by decide +kernel) rfl (Nat.le_of_ble_eq_true rfl) ?_
  show jJ (g, Y_M_word, (1, 20), 0, 0, jVQ g (jA0 (some (.int (nI 1))) (vu (vu V 85 0 0) 86 i w) L)) [(0, .ref (jb g + 85)), (1, .int (nI i)), (2, .int (nI w))] (jv (g, Y_M_word, (1, 20), 0, 0, jVQ g (jA0 (some (.int (nI 1))) (vu (vu V 85 0 0) 86 i w) L)) V L 0 0) 0 []
  refine j_aload_n d_M_word_0 rfl 0 rfl ?_
  refine n_iconst d_M_word_1 0 (by decide) ?_
  refine v_putI d_M_word_2 lf_M_63 rfl (Nat.le_of_ble_eq_true rfl) rfl rfl rfl rfl ?_
  refine j_iload_n d_M_word_5 rfl 1 rfl ?_
  refine n_iff_lt d_M_word_6 22 rfl rfl (by omega) ?_
  refine j_iload_n d_M_word_9 rfl 1 rfl ?_
  refine n_bipush d_M_word_10 63 (by decide) ?_
  refine n_icmp_gt d_M_word_12 22 rfl (by omega) (by omega) (fun h => absurd h (by omega)) (fun h => ?_)
  refine j_iload_n d_M_word_15 rfl 2 rfl ?_
  refine v_callS d_M_word_16 mt_M_isNumber ln_M_91 sm_M_isNumber ⟨Nat.le_of_ble_eq_true rfl, Nat.le_of_ble_eq_true rfl⟩ (Nat.le_of_ble_eq_true rfl) rfl (Nat.zero_le _) (Nat.zero_le _) (c_M_isNumber g (vu V 85 0 0) L (nI w)) rfl ?_
  rintro _ _ _ ⟨rfl, rfl, rfl⟩
  rw [hsn_nI hw]
  refine n_if_ne d_M_word_19 24 rfl (by omega) (fun h => ?_) (fun h => absurd h (by omega))
  refine j_aload_n d_M_word_24 rfl 0 rfl ?_
  refine v_getR d_M_word_25 lf_M_7 rfl (Nat.le_of_ble_eq_true rfl) rfl ?_
  refine j_iload_n d_M_word_28 rfl 1 rfl ?_
  refine j_iload_n d_M_word_29 rfl 2 rfl ?_
  refine v_ist d_M_word_30 rfl rfl (Nat.le_of_ble_eq_true rfl) rfl (by omega) (by omega) ?_
  refine n_iconst d_M_word_31 1 (by decide) ?_
  exact v_zret d_M_word_32 rfl (by omega) (Nat.zero_le _) (Nat.zero_le _) rfl jA0_rfl
theorem n_M_word (g : jG) (V : Nat → Nat → Nat) (L : Nat → Nat → Int64) (z w : Int32) (h : isn 64 z = 0 ∨ hsn w = 0) : jK g Y_M_word (1, 20) [.ref (jb g + 85), .int (z), .int (w)] V L (jA0 (some (.int (nI 0))) (vu V 85 0 0) L) := by
  refine jK_entry (by decide +kernel) rfl (Nat.le_of_ble_eq_true rfl) ?_
  show jJ (g, Y_M_word, (1, 20), 0, 0, jVQ g (jA0 (some (.int (nI 0))) (vu V 85 0 0) L)) [(0, .ref (jb g + 85)), (1, .int (z)), (2, .int (w))] (jv (g, Y_M_word, (1, 20), 0, 0, jVQ g (jA0 (some (.int (nI 0))) (vu V 85 0 0) L)) V L 0 0) 0 []
  refine j_aload_n d_M_word_0 rfl 0 rfl ?_
  refine n_iconst d_M_word_1 0 (by decide) ?_
  refine v_putI d_M_word_2 lf_M_63 rfl (Nat.le_of_ble_eq_true rfl) rfl rfl rfl rfl ?_
  refine j_iload_n d_M_word_5 rfl 1 rfl ?_
  refine j_if_lt d_M_word_6 22 rfl (fun h1 => ?_) (fun h1 => ?_)
  · refine n_iconst d_M_word_22 0 (by decide) ?_
    exact v_zret d_M_word_23 rfl (by omega) (Nat.zero_le _) (Nat.zero_le _) rfl jA0_rfl
  · refine j_iload_n d_M_word_9 rfl 1 rfl ?_
    refine n_bipush d_M_word_10 63 (by decide) ?_
    refine j_icmp_gt d_M_word_12 22 rfl (fun h2 => ?_) (fun h2 => ?_)
    · refine n_iconst d_M_word_22 0 (by decide) ?_
      exact v_zret d_M_word_23 rfl (by omega) (Nat.zero_le _) (Nat.zero_le _) rfl jA0_rfl
    · have h3 : isn 64 z = 1 := by
        obtain ⟨i, hi, rfl⟩ := le_of (by decide) h1 h2
        exact isn_nI (by decide) (by omega)
      refine j_iload_n d_M_word_15 rfl 2 rfl ?_
      refine v_callS d_M_word_16 mt_M_isNumber ln_M_91 sm_M_isNumber ⟨Nat.le_of_ble_eq_true rfl, Nat.le_of_ble_eq_true rfl⟩ (Nat.le_of_ble_eq_true rfl) rfl (Nat.zero_le _) (Nat.zero_le _) (c_M_isNumber g (vu V 85 0 0) L w) rfl ?_
      rintro _ _ _ ⟨rfl, rfl, rfl⟩
      refine n_if_ne d_M_word_19 24 rfl (Nat.lt_of_le_of_lt (hsn_le _) (by decide)) (fun h4 => ?_) (fun h4 => ?_)
      · omega
      · refine n_iconst d_M_word_22 0 (by decide) ?_
        exact v_zret d_M_word_23 rfl (by omega) (Nat.zero_le _) (Nat.zero_le _) rfl jA0_rfl
def mfb (V : Nat → Nat → Nat) (n t : Nat) : Nat → Nat → Nat := fun a x => if a = 100 ∧ x < t then (if x < n then V 86 x else 0) else V a x
theorem mfb_0 (V : Nat → Nat → Nat) (n : Nat) : mfb V n 0 = V := by
  funext a x
  exact if_neg (by omega)
theorem mfb_nq {V : Nat → Nat → Nat} {n t a : Nat} (h : a ≠ 100) : mfb V n t a = V a := by
  funext x
  exact if_neg (fun z => h z.1)
theorem mfb_s (V : Nat → Nat → Nat) (n t : Nat) : vu (mfb V n t) 100 t (if t < n then V 86 t else 0) = mfb V n (t + 1) := by
  funext a x
  unfold vu mfb
  by_cases h : a = 100 ∧ x = t
  · rw [if_pos h, if_pos (show a = 100 ∧ x < t + 1 by omega), h.2]
  · rw [if_neg h]
    by_cases h2 : a = 100 ∧ x < t
    · rw [if_pos h2, if_pos (show a = 100 ∧ x < t + 1 by omega)]
    · rw [if_neg h2, if_neg (by omega)]
/-- what a file leaves, before its rows are made -/
def mf1 (V : Nat → Nat → Nat) (f n : Nat) : Nat → Nat → Nat := vu (mfb (vu (vu V 85 0 0) 87 f n) n 64) 85 4 (f + 1)
def mfl (V : Nat → Nat → Nat) (L : Nat → Nat → Int64) (f n : Nat) : Nat → Nat → Nat := enc (mf1 V f n) L f (6 * ((n + 15) / 16))
theorem c_M_file (g : jG) (V : Nat → Nat → Nat) (L : Nat → Nat → Int64) (hN : jN V) (hB : ∀ i, i < 64 → V 86 i < 2147483647) (f : Nat) (hf : f < 3) (hf0 : V 85 4 = f) (n : Nat) (h1 : 1 ≤ n) (h64 : n ≤ 64) : jK g Y_M_file (3, 81) [.ref (jb g + 85), .int (nI n)] V L (jA0 (some (.int (nI f))) (mfl V L f n) L) := by
  refine jK_entry (by decide +kernel) rfl (Nat.le_of_ble_eq_true rfl) ?_
  show jJ (g, Y_M_file, (3, 81), 0, 0, jVQ g (jA0 (some (.int (nI f))) (mfl V L f n) L)) [(0, .ref (jb g + 85)), (1, .int (nI n))] (jv (g, Y_M_file, (3, 81), 0, 0, jVQ g (jA0 (some (.int (nI f))) (mfl V L f n) L)) V L 0 0) 0 []
  generalize hφ : jA0 (some (.int (nI f))) (mfl V L f n) L = φ
  have loop : ∀ (m t : Nat), t + m = 64 → jJ (g, Y_M_file, (3, 81), 0, 0, jVQ g φ) [(0, .ref (jb g + 85)), (1, .int (nI n)), (2, .int (nI t))] (jv (g, Y_M_file, (3, 81), 0, 0, jVQ g φ) (mfb (vu (vu V 85 0 0) 87 f n) n t) L 0 0) 53 [] := by
    intro m
    induction m with
    | zero =>
      intro t ht
      obtain rfl : t = 64 := by omega
      refine j_iload_n d_M_file_53 rfl 2 rfl ?_
      refine n_bipush d_M_file_54 64 (by decide) ?_
      refine n_icmp_ge d_M_file_56 86 rfl (by omega) (by omega) (fun h => ?_) (fun h => absurd h (by omega))
      refine j_aload_n d_M_file_86 rfl 0 rfl ?_
      refine j_dup d_M_file_87 rfl ?_
      refine v_getI d_M_file_88 lf_M_88 rfl (Nat.le_of_ble_eq_true rfl) rfl ?_
      rw [show mfb (vu (vu V 85 0 0) 87 f n) n 64 85 4 = f from hf0]
      refine n_iconst d_M_file_91 1 (by decide) ?_
      refine n_add d_M_file_92 ?_
      refine v_putI d_M_file_93 lf_M_88 rfl (Nat.le_of_ble_eq_true rfl) rfl rfl rfl rfl ?_
      refine j_aload_n d_M_file_96 rfl 0 rfl ?_
      refine j_aload_n d_M_file_97 rfl 0 rfl ?_
      refine v_getI d_M_file_98 lf_M_88 rfl (Nat.le_of_ble_eq_true rfl) rfl ?_
      rw [show vu (mfb (vu (vu V 85 0 0) 87 f n) n 64) 85 4 (f + 1) 85 4 = f + 1 from vu_eq _ _ _ _]
      refine n_iconst d_M_file_101 1 (by decide) ?_
      refine n_sub d_M_file_102 (by omega) ?_
      refine j_aload_n d_M_file_103 rfl 0 rfl ?_
      refine v_getR d_M_file_104 lf_M_53 rfl (Nat.le_of_ble_eq_true rfl) rfl ?_
      show jJ _ _ (jv _ (mf1 V f n) L 0 0) _ _
      have b1 : ∀ i, i < 64 → mf1 V f n 100 i < 2147483647 := fun i hi => by
        show (if 100 = 100 ∧ i < 64 then (if i < n then V 86 i else 0) else _) < _
        rw [if_pos ⟨rfl, hi⟩]
        split
        · exact hB i hi
        · omega
      have b2 : mf1 V f n 87 f = n := by
        show vu (vu V 85 0 0) 87 f n 87 f = n
        exact vu_eq _ _ _ _
      refine v_callV d_M_file_107 mt_M_encode ln_M_111 im_M_encode se_M_encode rfl (Nat.le_of_ble_eq_true rfl) rfl rfl ⟨Nat.le_of_ble_eq_true rfl, Nat.le_of_ble_eq_true rfl⟩ (Nat.le_of_ble_eq_true rfl) rfl (Nat.zero_le _) (Nat.zero_le _) (c_M_encode g (mf1 V f n) L f hf (by rw [b2]; exact h64) b1 hN.md) rfl ?_
      rintro _ _ _ ⟨rfl, rfl, rfl⟩
      rw [show enc (mf1 V f n) L f (mrs (mf1 V f n) f) = mfl V L f n from by unfold mfl mrs; rw [b2]]
      refine j_aload_n d_M_file_110 rfl 0 rfl ?_
      refine v_getI d_M_file_111 lf_M_88 rfl (Nat.le_of_ble_eq_true rfl) rfl ?_
      rw [show mfl V L f n 85 4 = f + 1 from by unfold mfl; rw [enc_nq (by decide)]; exact vu_eq _ _ _ _]
      subst hφ
      refine n_iconst d_M_file_114 1 (by decide) ?_
      refine n_sub d_M_file_115 (by omega) ?_
      exact v_iret d_M_file_116 rfl (Nat.zero_le _) (Nat.zero_le _) rfl jA0_rfl
    | succ m ih =>
      intro t ht
      have ih' := ih (t + 1) (by omega)
      rw [← mfb_s] at ih'
      refine j_iload_n d_M_file_53 rfl 2 rfl ?_
      refine n_bipush d_M_file_54 64 (by decide) ?_
      refine n_icmp_ge d_M_file_56 86 rfl (by omega) (by omega) (fun h => absurd h (by omega)) (fun h => ?_)
      refine j_aload_n d_M_file_59 rfl 0 rfl ?_
      refine v_getR d_M_file_60 lf_M_53 rfl (Nat.le_of_ble_eq_true rfl) rfl ?_
      refine j_iload_n d_M_file_63 rfl 2 rfl ?_
      refine j_iload_n d_M_file_64 rfl 2 rfl ?_
      refine j_iload_n d_M_file_65 rfl 1 rfl ?_
      refine n_icmp_ge d_M_file_66 78 rfl (by omega) (by omega) (fun h5 => ?_) (fun h5 => ?_)
      · rw [if_neg (by omega)] at ih'
        refine n_iconst d_M_file_78 0 (by decide) ?_
        refine v_ist d_M_file_79 rfl rfl (Nat.le_of_ble_eq_true rfl) rfl (by omega) (by omega) ?_
        refine n_iinc d_M_file_80 1 (by decide) 2 rfl (Nat.le_of_ble_eq_true rfl) (lv' := [_, _, _]) rfl ?_
        refine j_goto d_M_file_83 53 rfl ?_
        refine j_lv [1, 2, 0] rfl ?_
        exact ih'
      · rw [if_pos (by omega)] at ih'
        refine j_aload_n d_M_file_69 rfl 0 rfl ?_
        refine v_getR d_M_file_70 lf_M_7 rfl (Nat.le_of_ble_eq_true rfl) rfl ?_
        refine j_iload_n d_M_file_73 rfl 2 rfl ?_
        refine v_ild d_M_file_74 rfl rfl (Nat.le_of_ble_eq_true rfl) rfl (by omega) (by omega) ?_
        refine j_goto d_M_file_75 79 rfl ?_
        refine v_ist d_M_file_79 rfl rfl (Nat.le_of_ble_eq_true rfl) rfl (by omega) (by omega) ?_
        refine n_iinc d_M_file_80 1 (by decide) 2 rfl (Nat.le_of_ble_eq_true rfl) (lv' := [_, _, _]) rfl ?_
        refine j_goto d_M_file_83 53 rfl ?_
        refine j_lv [1, 2, 0] rfl ?_
        exact ih'
  refine j_aload_n d_M_file_0 rfl 0 rfl ?_
  refine j_iload_n d_M_file_1 rfl 1 rfl ?_
  refine n_iconst d_M_file_2 1 (by decide) ?_
  refine n_icmp_lt d_M_file_3 12 rfl (by omega) (by omega) (fun h => absurd h (by omega)) (fun h => ?_)
  refine j_iload_n d_M_file_6 rfl 1 rfl ?_
  refine n_bipush d_M_file_7 64 (by decide) ?_
  refine n_icmp_le d_M_file_9 16 rfl (by omega) (by omega) (fun h => ?_) (fun h => absurd h (by omega))
  refine j_aload_n d_M_file_16 rfl 0 rfl ?_
  refine v_getI d_M_file_17 lf_M_88 rfl (Nat.le_of_ble_eq_true rfl) rfl ?_
  refine n_iconst d_M_file_20 3 (by decide) ?_
  rw [hf0]
  refine n_icmp_ne d_M_file_21 28 rfl (by omega) (by omega) (fun h => ?_) (fun h => absurd h (by omega))
  refine n_iconst d_M_file_28 0 (by decide) ?_
  refine v_putI d_M_file_29 lf_M_63 rfl (Nat.le_of_ble_eq_true rfl) rfl rfl rfl rfl ?_
  refine j_aload_n d_M_file_32 rfl 0 rfl ?_
  refine v_getI d_M_file_33 lf_M_63 rfl (Nat.le_of_ble_eq_true rfl) rfl ?_
  rw [vu_eq]
  refine n_ift_le d_M_file_36 41 rfl rfl (by decide) ?_
  refine j_aload_n d_M_file_41 rfl 0 rfl ?_
  refine v_getR d_M_file_42 lf_M_13 rfl (Nat.le_of_ble_eq_true rfl) rfl ?_
  refine j_aload_n d_M_file_45 rfl 0 rfl ?_
  refine v_getI d_M_file_46 lf_M_88 rfl (Nat.le_of_ble_eq_true rfl) rfl ?_
  rw [show vu V 85 0 0 85 4 = f from hf0]
  refine j_iload_n d_M_file_49 rfl 1 rfl ?_
  refine v_ist d_M_file_50 rfl rfl (Nat.le_of_ble_eq_true rfl) rfl (by omega) (by omega) ?_
  refine n_iconst d_M_file_51 0 (by decide) ?_
  refine j_istore_n d_M_file_52 (i := 2) rfl (Nat.le_of_ble_eq_true rfl) (lv' := [_, _, _]) rfl ?_
  refine j_lv [1, 2, 0] rfl ?_
  have z0 := loop 64 0 (by omega)
  rw [mfb_0] at z0
  exact z0
theorem n1_M_file (g : jG) (V : Nat → Nat → Nat) (L : Nat → Nat → Int64) (z : Int32) (h : z < nI 1 ∨ ¬ z ≤ nI 64) : jK g Y_M_file (3, 81) [.ref (jb g + 85), .int (z)] V L (jA0 (some (.int (nI 0))) (vu V 85 0 1) L) := by
  refine jK_entry (by decide +kernel) rfl (Nat.le_of_ble_eq_true rfl) ?_
  show jJ (g, Y_M_file, (3, 81), 0, 0, jVQ g (jA0 (some (.int (nI 0))) (vu V 85 0 1) L)) [(0, .ref (jb g + 85)), (1, .int (z))] (jv (g, Y_M_file, (3, 81), 0, 0, jVQ g (jA0 (some (.int (nI 0))) (vu V 85 0 1) L)) V L 0 0) 0 []
  refine j_aload_n d_M_file_0 rfl 0 rfl ?_
  refine j_iload_n d_M_file_1 rfl 1 rfl ?_
  refine n_iconst d_M_file_2 1 (by decide) ?_
  refine j_icmp_lt d_M_file_3 12 rfl (fun h1 => ?_) (fun h1 => ?_)
  · refine n_iconst d_M_file_12 1 (by decide) ?_
    refine j_goto d_M_file_13 29 rfl ?_
    refine v_putI d_M_file_29 lf_M_63 rfl (Nat.le_of_ble_eq_true rfl) rfl rfl rfl rfl ?_
    refine j_aload_n d_M_file_32 rfl 0 rfl ?_
    refine v_getI d_M_file_33 lf_M_63 rfl (Nat.le_of_ble_eq_true rfl) rfl ?_
    rw [vu_eq]
    refine n_iff_le d_M_file_36 41 rfl (by decide) (by decide) ?_
    refine n_iconst d_M_file_39 0 (by decide) ?_
    exact v_iret d_M_file_40 rfl (Nat.zero_le _) (Nat.zero_le _) rfl jA0_rfl
  · refine j_iload_n d_M_file_6 rfl 1 rfl ?_
    refine n_bipush d_M_file_7 64 (by decide) ?_
    refine j_icmp_le d_M_file_9 16 rfl (fun h2 => ?_) (fun h2 => ?_)
    · exact (h.elim h1 (fun e => e h2)).elim
    · refine n_iconst d_M_file_12 1 (by decide) ?_
      refine j_goto d_M_file_13 29 rfl ?_
      refine v_putI d_M_file_29 lf_M_63 rfl (Nat.le_of_ble_eq_true rfl) rfl rfl rfl rfl ?_
      refine j_aload_n d_M_file_32 rfl 0 rfl ?_
      refine v_getI d_M_file_33 lf_M_63 rfl (Nat.le_of_ble_eq_true rfl) rfl ?_
      rw [vu_eq]
      refine n_iff_le d_M_file_36 41 rfl (by decide) (by decide) ?_
      refine n_iconst d_M_file_39 0 (by decide) ?_
      exact v_iret d_M_file_40 rfl (Nat.zero_le _) (Nat.zero_le _) rfl jA0_rfl
theorem n2_M_file (g : jG) (V : Nat → Nat → Nat) (L : Nat → Nat → Int64) (h3 : V 85 4 = 3) (n : Nat) (h1 : 1 ≤ n) (h64 : n ≤ 64) : jK g Y_M_file (3, 81) [.ref (jb g + 85), .int (nI n)] V L (jA0 (some (.int (nI 0))) (vu V 85 0 2) L) := by
  refine jK_entry (by decide +kernel) rfl (Nat.le_of_ble_eq_true rfl) ?_
  show jJ (g, Y_M_file, (3, 81), 0, 0, jVQ g (jA0 (some (.int (nI 0))) (vu V 85 0 2) L)) [(0, .ref (jb g + 85)), (1, .int (nI n))] (jv (g, Y_M_file, (3, 81), 0, 0, jVQ g (jA0 (some (.int (nI 0))) (vu V 85 0 2) L)) V L 0 0) 0 []
  refine j_aload_n d_M_file_0 rfl 0 rfl ?_
  refine j_iload_n d_M_file_1 rfl 1 rfl ?_
  refine n_iconst d_M_file_2 1 (by decide) ?_
  refine n_icmp_lt d_M_file_3 12 rfl (by omega) (by omega) (fun h => absurd h (by omega)) (fun h => ?_)
  refine j_iload_n d_M_file_6 rfl 1 rfl ?_
  refine n_bipush d_M_file_7 64 (by decide) ?_
  refine n_icmp_le d_M_file_9 16 rfl (by omega) (by omega) (fun h => ?_) (fun h => absurd h (by omega))
  refine j_aload_n d_M_file_16 rfl 0 rfl ?_
  refine v_getI d_M_file_17 lf_M_88 rfl (Nat.le_of_ble_eq_true rfl) rfl ?_
  refine n_iconst d_M_file_20 3 (by decide) ?_
  rw [h3]
  refine n_icmp_ne d_M_file_21 28 rfl (by omega) (by omega) (fun h => absurd h (by omega)) (fun h => ?_)
  refine n_iconst d_M_file_24 2 (by decide) ?_
  refine j_goto d_M_file_25 29 rfl ?_
  refine v_putI d_M_file_29 lf_M_63 rfl (Nat.le_of_ble_eq_true rfl) rfl rfl rfl rfl ?_
  refine j_aload_n d_M_file_32 rfl 0 rfl ?_
  refine v_getI d_M_file_33 lf_M_63 rfl (Nat.le_of_ble_eq_true rfl) rfl ?_
  rw [vu_eq]
  refine n_iff_le d_M_file_36 41 rfl (by decide) (by decide) ?_
  refine n_iconst d_M_file_39 0 (by decide) ?_
  exact v_iret d_M_file_40 rfl (Nat.zero_le _) (Nat.zero_le _) rfl jA0_rfl
/-- the first t rows of file f laid at keeper k -/
def mpl (V : Nat → Nat → Nat) (k f : Nat) : Nat → Nat → Nat → Nat
  | 0 => V
  | t + 1 => mpt (mpl V k f t) k f t
theorem mpl_nq {V : Nat → Nat → Nat} {k f a : Nat} (h1 : a ≠ 90) (h2 : a ≠ 91) : ∀ t, mpl V k f t a = V a
  | 0 => rfl
  | t + 1 => by
    funext x
    show mpt _ _ _ _ a x = _
    unfold mpt
    rw [if_neg (fun z => h1 z.1), if_neg (fun z => h2 z.1), mpl_nq h1 h2 t]
theorem c0_M_place (g : jG) (V : Nat → Nat → Nat) (L : Nat → Nat → Int64) (hN : jN V) (k f : Nat) (hk : k < 4) (hf0 : f < V 85 4) (hh : V 89 (3 * k + f) = 1) : jK g Y_M_place (2, 46) [.ref (jb g + 85), .int (nI f), .int (nI k)] V L (jA0 (some (.int (nI 0))) (vu V 85 0 0) L) := by
  refine jK_entry (by decide +kernel) rfl (Nat.le_of_ble_eq_true rfl) ?_
  show jJ (g, Y_M_place, (2, 46), 0, 0, jVQ g (jA0 (some (.int (nI 0))) (vu V 85 0 0) L)) [(0, .ref (jb g + 85)), (1, .int (nI f)), (2, .int (nI k))] (jv (g, Y_M_place, (2, 46), 0, 0, jVQ g (jA0 (some (.int (nI 0))) (vu V 85 0 0) L)) V L 0 0) 0 []
  have h3 := hN.F
  refine j_aload_n d_M_place_0 rfl 0 rfl ?_
  refine j_aload_n d_M_place_1 rfl 0 rfl ?_
  refine j_iload_n d_M_place_2 rfl 1 rfl ?_
  refine v_callV d_M_place_3 mt_M_isFile ln_M_118 im_M_isFile se_M_isFile rfl (Nat.le_of_ble_eq_true rfl) rfl rfl ⟨Nat.le_of_ble_eq_true rfl, Nat.le_of_ble_eq_true rfl⟩ (Nat.le_of_ble_eq_true rfl) rfl (Nat.zero_le _) (Nat.zero_le _) (c_M_isFile g V L (nI f)) rfl ?_
  rintro _ _ _ ⟨rfl, rfl, rfl⟩
  rw [isn_nI (by omega) hf0]
  refine n_if_eq d_M_place_6 20 rfl (by omega) (fun h => absurd h (by omega)) (fun h => ?_)
  refine j_iload_n d_M_place_9 rfl 2 rfl ?_
  refine v_callS d_M_place_10 mt_M_isKeeper ln_M_115 sm_M_isKeeper ⟨Nat.le_of_ble_eq_true rfl, Nat.le_of_ble_eq_true rfl⟩ (Nat.le_of_ble_eq_true rfl) rfl (Nat.zero_le _) (Nat.zero_le _) (c_M_isKeeper g V L (nI k)) rfl ?_
  rintro _ _ _ ⟨rfl, rfl, rfl⟩
  rw [isn_nI (by omega) hk]
  refine n_if_eq d_M_place_13 20 rfl (by omega) (fun h => absurd h (by omega)) (fun h => ?_)
  refine n_iconst d_M_place_16 0 (by decide) ?_
  refine j_goto d_M_place_17 21 rfl ?_
  refine v_putI d_M_place_21 lf_M_63 rfl (Nat.le_of_ble_eq_true rfl) rfl rfl rfl rfl ?_
  refine j_aload_n d_M_place_24 rfl 0 rfl ?_
  refine v_getI d_M_place_25 lf_M_63 rfl (Nat.le_of_ble_eq_true rfl) rfl ?_
  rw [vu_eq]
  refine n_ift_le d_M_place_28 33 rfl rfl (by decide) ?_
  refine j_aload_n d_M_place_33 rfl 0 rfl ?_
  refine v_getR d_M_place_34 lf_M_19 rfl (Nat.le_of_ble_eq_true rfl) rfl ?_
  refine n_iconst d_M_place_37 3 (by decide) ?_
  refine j_iload_n d_M_place_38 rfl 2 rfl ?_
  refine n_mul d_M_place_39 ?_
  refine j_iload_n d_M_place_40 rfl 1 rfl ?_
  refine n_add d_M_place_41 ?_
  refine v_zld d_M_place_42 rfl rfl (Nat.le_of_ble_eq_true rfl) rfl (by omega) (by omega) ?_
  rw [show vu V 85 0 0 89 (3 * k + f) = 1 from hh]
  refine n_if_eq d_M_place_43 48 rfl (by omega) (fun h => absurd h (by omega)) (fun h => ?_)
  refine n_iconst d_M_place_46 0 (by decide) ?_
  exact v_zret d_M_place_47 rfl (by omega) (Nat.zero_le _) (Nat.zero_le _) rfl jA0_rfl
theorem c1_M_place (g : jG) (V : Nat → Nat → Nat) (L : Nat → Nat → Int64) (hN : jN V) (k f : Nat) (hk : k < 4) (hf0 : f < V 85 4) (hh : V 89 (3 * k + f) = 0) : jK g Y_M_place (2, 46) [.ref (jb g + 85), .int (nI f), .int (nI k)] V L (jA0 (some (.int (nI 1))) (mpl (vu (vu V 85 0 0) 89 (3 * k + f) 1) k f (mrs V f)) L) := by
  refine jK_entry (by decide +kernel) rfl (Nat.le_of_ble_eq_true rfl) ?_
  show jJ (g, Y_M_place, (2, 46), 0, 0, jVQ g (jA0 (some (.int (nI 1))) (mpl (vu (vu V 85 0 0) 89 (3 * k + f) 1) k f (mrs V f)) L)) [(0, .ref (jb g + 85)), (1, .int (nI f)), (2, .int (nI k))] (jv (g, Y_M_place, (2, 46), 0, 0, jVQ g (jA0 (some (.int (nI 1))) (mpl (vu (vu V 85 0 0) 89 (3 * k + f) 1) k f (mrs V f)) L)) V L 0 0) 0 []
  have h3 := hN.F
  have hw := hN.w (show f < 3 by omega)
  have hm : mrs V f ≤ 24 := by unfold mrs; omega
  generalize hφ : jA0 (some (.int (nI 1))) (mpl (vu (vu V 85 0 0) 89 (3 * k + f) 1) k f (mrs V f)) L = φ
  refine j_aload_n d_M_place_0 rfl 0 rfl ?_
  refine j_aload_n d_M_place_1 rfl 0 rfl ?_
  refine j_iload_n d_M_place_2 rfl 1 rfl ?_
  refine v_callV d_M_place_3 mt_M_isFile ln_M_118 im_M_isFile se_M_isFile rfl (Nat.le_of_ble_eq_true rfl) rfl rfl ⟨Nat.le_of_ble_eq_true rfl, Nat.le_of_ble_eq_true rfl⟩ (Nat.le_of_ble_eq_true rfl) rfl (Nat.zero_le _) (Nat.zero_le _) (c_M_isFile g V L (nI f)) rfl ?_
  rintro _ _ _ ⟨rfl, rfl, rfl⟩
  rw [isn_nI (by omega) hf0]
  refine n_if_eq d_M_place_6 20 rfl (by omega) (fun h => absurd h (by omega)) (fun h => ?_)
  refine j_iload_n d_M_place_9 rfl 2 rfl ?_
  refine v_callS d_M_place_10 mt_M_isKeeper ln_M_115 sm_M_isKeeper ⟨Nat.le_of_ble_eq_true rfl, Nat.le_of_ble_eq_true rfl⟩ (Nat.le_of_ble_eq_true rfl) rfl (Nat.zero_le _) (Nat.zero_le _) (c_M_isKeeper g V L (nI k)) rfl ?_
  rintro _ _ _ ⟨rfl, rfl, rfl⟩
  rw [isn_nI (by omega) hk]
  refine n_if_eq d_M_place_13 20 rfl (by omega) (fun h => absurd h (by omega)) (fun h => ?_)
  refine n_iconst d_M_place_16 0 (by decide) ?_
  refine j_goto d_M_place_17 21 rfl ?_
  refine v_putI d_M_place_21 lf_M_63 rfl (Nat.le_of_ble_eq_true rfl) rfl rfl rfl rfl ?_
  refine j_aload_n d_M_place_24 rfl 0 rfl ?_
  refine v_getI d_M_place_25 lf_M_63 rfl (Nat.le_of_ble_eq_true rfl) rfl ?_
  rw [vu_eq]
  refine n_ift_le d_M_place_28 33 rfl rfl (by decide) ?_
  refine j_aload_n d_M_place_33 rfl 0 rfl ?_
  refine v_getR d_M_place_34 lf_M_19 rfl (Nat.le_of_ble_eq_true rfl) rfl ?_
  refine n_iconst d_M_place_37 3 (by decide) ?_
  refine j_iload_n d_M_place_38 rfl 2 rfl ?_
  refine n_mul d_M_place_39 ?_
  refine j_iload_n d_M_place_40 rfl 1 rfl ?_
  refine n_add d_M_place_41 ?_
  refine v_zld d_M_place_42 rfl rfl (Nat.le_of_ble_eq_true rfl) rfl (by omega) (by omega) ?_
  rw [show vu V 85 0 0 89 (3 * k + f) = 0 from hh]
  refine n_if_eq d_M_place_43 48 rfl (by omega) (fun h => ?_) (fun h => absurd h (by omega))
  refine j_aload_n d_M_place_48 rfl 0 rfl ?_
  refine v_getR d_M_place_49 lf_M_19 rfl (Nat.le_of_ble_eq_true rfl) rfl ?_
  refine n_iconst d_M_place_52 3 (by decide) ?_
  refine j_iload_n d_M_place_53 rfl 2 rfl ?_
  refine n_mul d_M_place_54 ?_
  refine j_iload_n d_M_place_55 rfl 1 rfl ?_
  refine n_add d_M_place_56 ?_
  refine n_iconst d_M_place_57 1 (by decide) ?_
  refine v_zst d_M_place_58 rfl rfl (Nat.le_of_ble_eq_true rfl) rfl (by omega) (by omega) (by omega) ?_
  refine n_iconst d_M_place_59 0 (by decide) ?_
  refine j_istore_n d_M_place_60 (i := 3) rfl (Nat.le_of_ble_eq_true rfl) (lv' := [_, _, _, _]) rfl ?_
  refine j_lv [1, 2, 3, 0] rfl ?_
  have loop : ∀ (m t : Nat), t + m = mrs V f → jJ (g, Y_M_place, (2, 46), 0, 0, jVQ g φ) [(0, .ref (jb g + 85)), (1, .int (nI f)), (2, .int (nI k)), (3, .int (nI t))] (jv (g, Y_M_place, (2, 46), 0, 0, jVQ g φ) (mpl (vu (vu V 85 0 0) 89 (3 * k + f) 1) k f t) L 0 0) 61 [] := by
    intro m
    induction m with
    | zero =>
      intro t ht
      refine j_iload_n d_M_place_61 rfl 3 rfl ?_
      refine j_aload_n d_M_place_62 rfl 0 rfl ?_
      refine j_iload_n d_M_place_63 rfl 1 rfl ?_
      refine v_callV d_M_place_64 mt_M_rowsOf ln_M_99 im_M_rowsOf se_M_rowsOf rfl (Nat.le_of_ble_eq_true rfl) rfl rfl ⟨Nat.le_of_ble_eq_true rfl, Nat.le_of_ble_eq_true rfl⟩ (Nat.le_of_ble_eq_true rfl) rfl (Nat.zero_le _) (Nat.zero_le _) (c_M_rowsOf g (mpl (vu (vu V 85 0 0) 89 (3 * k + f) 1) k f t) L f (by omega) (by rw [mpl_nq (by decide) (by decide)]; exact hw)) rfl ?_
      rintro _ _ _ ⟨rfl, rfl, rfl⟩
      rw [show mrs (mpl (vu (vu V 85 0 0) 89 (3 * k + f) 1) k f t) f = mrs V f from by unfold mrs; rw [mpl_nq (by decide) (by decide)]; rfl]
      refine n_icmp_ge d_M_place_67 83 rfl (by omega) (by omega) (fun h => ?_) (fun h => absurd h (by omega))
      rw [show mrs V f = t from by omega] at hφ
      subst hφ
      refine n_iconst d_M_place_83 1 (by decide) ?_
      exact v_zret d_M_place_84 rfl (by omega) (Nat.zero_le _) (Nat.zero_le _) rfl jA0_rfl
    | succ m ih =>
      intro t ht
      refine j_iload_n d_M_place_61 rfl 3 rfl ?_
      refine j_aload_n d_M_place_62 rfl 0 rfl ?_
      refine j_iload_n d_M_place_63 rfl 1 rfl ?_
      refine v_callV d_M_place_64 mt_M_rowsOf ln_M_99 im_M_rowsOf se_M_rowsOf rfl (Nat.le_of_ble_eq_true rfl) rfl rfl ⟨Nat.le_of_ble_eq_true rfl, Nat.le_of_ble_eq_true rfl⟩ (Nat.le_of_ble_eq_true rfl) rfl (Nat.zero_le _) (Nat.zero_le _) (c_M_rowsOf g (mpl (vu (vu V 85 0 0) 89 (3 * k + f) 1) k f t) L f (by omega) (by rw [mpl_nq (by decide) (by decide)]; exact hw)) rfl ?_
      rintro _ _ _ ⟨rfl, rfl, rfl⟩
      rw [show mrs (mpl (vu (vu V 85 0 0) 89 (3 * k + f) 1) k f t) f = mrs V f from by unfold mrs; rw [mpl_nq (by decide) (by decide)]; rfl]
      refine n_icmp_ge d_M_place_67 83 rfl (by omega) (by omega) (fun h => absurd h (by omega)) (fun h => ?_)
      refine j_aload_n d_M_place_70 rfl 0 rfl ?_
      refine j_iload_n d_M_place_71 rfl 2 rfl ?_
      refine j_iload_n d_M_place_72 rfl 1 rfl ?_
      refine j_iload_n d_M_place_73 rfl 3 rfl ?_
      refine v_callV d_M_place_74 mt_M_put ln_M_121 im_M_put se_M_put rfl (Nat.le_of_ble_eq_true rfl) rfl rfl ⟨Nat.le_of_ble_eq_true rfl, Nat.le_of_ble_eq_true rfl⟩ (Nat.le_of_ble_eq_true rfl) rfl (Nat.zero_le _) (Nat.zero_le _) (c_M_put g (mpl (vu (vu V 85 0 0) 89 (3 * k + f) 1) k f t) L k f t hk (by omega) (by omega)) rfl ?_
      rintro _ _ _ ⟨rfl, rfl, rfl⟩
      refine n_iinc d_M_place_77 1 (by decide) 3 rfl (Nat.le_of_ble_eq_true rfl) (lv' := [_, _, _, _]) rfl ?_
      refine j_goto d_M_place_80 61 rfl ?_
      refine j_lv [1, 2, 3, 0] rfl ?_
      exact ih (t + 1) (by omega)
  exact loop (mrs V f) 0 (by omega)
theorem n_M_place (g : jG) (V : Nat → Nat → Nat) (L : Nat → Nat → Int64) (zf zk : Int32) (h : isn (V 85 4) zf = 0 ∨ isn 4 zk = 0) : jK g Y_M_place (2, 46) [.ref (jb g + 85), .int (zf), .int (zk)] V L (jA0 (some (.int (nI 0))) (vu V 85 0 1) L) := by
  refine jK_entry (by decide +kernel) rfl (Nat.le_of_ble_eq_true rfl) ?_
  show jJ (g, Y_M_place, (2, 46), 0, 0, jVQ g (jA0 (some (.int (nI 0))) (vu V 85 0 1) L)) [(0, .ref (jb g + 85)), (1, .int (zf)), (2, .int (zk))] (jv (g, Y_M_place, (2, 46), 0, 0, jVQ g (jA0 (some (.int (nI 0))) (vu V 85 0 1) L)) V L 0 0) 0 []
  refine j_aload_n d_M_place_0 rfl 0 rfl ?_
  refine j_aload_n d_M_place_1 rfl 0 rfl ?_
  refine j_iload_n d_M_place_2 rfl 1 rfl ?_
  refine v_callV d_M_place_3 mt_M_isFile ln_M_118 im_M_isFile se_M_isFile rfl (Nat.le_of_ble_eq_true rfl) rfl rfl ⟨Nat.le_of_ble_eq_true rfl, Nat.le_of_ble_eq_true rfl⟩ (Nat.le_of_ble_eq_true rfl) rfl (Nat.zero_le _) (Nat.zero_le _) (c_M_isFile g V L zf) rfl ?_
  rintro _ _ _ ⟨rfl, rfl, rfl⟩
  refine n_if_eq d_M_place_6 20 rfl (Nat.lt_of_le_of_lt (isn_le _ _) (by decide)) (fun h1 => ?_) (fun h1 => ?_)
  · refine n_iconst d_M_place_20 1 (by decide) ?_
    refine v_putI d_M_place_21 lf_M_63 rfl (Nat.le_of_ble_eq_true rfl) rfl rfl rfl rfl ?_
    refine j_aload_n d_M_place_24 rfl 0 rfl ?_
    refine v_getI d_M_place_25 lf_M_63 rfl (Nat.le_of_ble_eq_true rfl) rfl ?_
    rw [vu_eq]
    refine n_iff_le d_M_place_28 33 rfl (by decide) (by decide) ?_
    refine n_iconst d_M_place_31 0 (by decide) ?_
    exact v_zret d_M_place_32 rfl (by omega) (Nat.zero_le _) (Nat.zero_le _) rfl jA0_rfl
  · refine j_iload_n d_M_place_9 rfl 2 rfl ?_
    refine v_callS d_M_place_10 mt_M_isKeeper ln_M_115 sm_M_isKeeper ⟨Nat.le_of_ble_eq_true rfl, Nat.le_of_ble_eq_true rfl⟩ (Nat.le_of_ble_eq_true rfl) rfl (Nat.zero_le _) (Nat.zero_le _) (c_M_isKeeper g V L zk) rfl ?_
    rintro _ _ _ ⟨rfl, rfl, rfl⟩
    refine n_if_eq d_M_place_13 20 rfl (Nat.lt_of_le_of_lt (isn_le _ _) (by decide)) (fun h2 => ?_) (fun h2 => ?_)
    · refine n_iconst d_M_place_20 1 (by decide) ?_
      refine v_putI d_M_place_21 lf_M_63 rfl (Nat.le_of_ble_eq_true rfl) rfl rfl rfl rfl ?_
      refine j_aload_n d_M_place_24 rfl 0 rfl ?_
      refine v_getI d_M_place_25 lf_M_63 rfl (Nat.le_of_ble_eq_true rfl) rfl ?_
      rw [vu_eq]
      refine n_iff_le d_M_place_28 33 rfl (by decide) (by decide) ?_
      refine n_iconst d_M_place_31 0 (by decide) ?_
      exact v_zret d_M_place_32 rfl (by omega) (Nat.zero_le _) (Nat.zero_le _) rfl jA0_rfl
    · omega
def mls (V : Nat → Nat → Nat) (k f i t : Nat) : Nat → Nat → Nat := fun a x => if a = 90 ∧ 360 * k + 5 * (24 * f + i) ≤ x ∧ x < 360 * k + 5 * (24 * f + i) + t then 0 else V a x
theorem mls_0 (V : Nat → Nat → Nat) (k f i : Nat) : mls V k f i 0 = V := by
  funext a x
  exact if_neg (by omega)
theorem mls_s (V : Nat → Nat → Nat) (k f i t : Nat) : vu (mls V k f i t) 90 (360 * k + 5 * (24 * f + i) + t) 0 = mls V k f i (t + 1) := by
  funext a x
  unfold vu mls
  by_cases h : a = 90 ∧ x = 360 * k + 5 * (24 * f + i) + t
  · rw [if_pos h, if_pos (by omega)]
  · rw [if_neg h]
    by_cases h2 : a = 90 ∧ 360 * k + 5 * (24 * f + i) ≤ x ∧ x < 360 * k + 5 * (24 * f + i) + t
    · rw [if_pos h2, if_pos (by omega)]
    · rw [if_neg h2, if_neg (by omega)]
theorem c0_M_lose (g : jG) (V : Nat → Nat → Nat) (L : Nat → Nat → Int64) (hN : jN V) (k f : Nat) (hk : k < 4) (hf0 : f < V 85 4) (i : Nat) (hi : i < mrs V f) (hh : V 89 (3 * k + f) = 1) (hl : V 91 (72 * k + 24 * f + i) = 1) : jK g Y_M_lose (3, 66) [.ref (jb g + 85), .int (nI k), .int (nI f), .int (nI i)] V L (jA0 (some (.int (nI 0))) (vu V 85 0 0) L) := by
  refine jK_entry (by decide +kernel) rfl (Nat.le_of_ble_eq_true rfl) ?_
  show jJ (g, Y_M_lose, (3, 66), 0, 0, jVQ g (jA0 (some (.int (nI 0))) (vu V 85 0 0) L)) [(0, .ref (jb g + 85)), (1, .int (nI k)), (2, .int (nI f)), (3, .int (nI i))] (jv (g, Y_M_lose, (3, 66), 0, 0, jVQ g (jA0 (some (.int (nI 0))) (vu V 85 0 0) L)) V L 0 0) 0 []
  have h3 := hN.F
  have hw := hN.w (show f < 3 by omega)
  have hm : mrs V f ≤ 24 := by unfold mrs; omega
  have h24 : i < 24 := by unfold mrs at hi; omega
  refine j_aload_n d_M_lose_0 rfl 0 rfl ?_
  refine j_aload_n d_M_lose_1 rfl 0 rfl ?_
  refine j_iload_n d_M_lose_2 rfl 1 rfl ?_
  refine j_iload_n d_M_lose_3 rfl 2 rfl ?_
  refine j_iload_n d_M_lose_4 rfl 3 rfl ?_
  refine v_callV d_M_lose_5 mt_M_isRow ln_M_136 im_M_isRow se_M_isRow rfl (Nat.le_of_ble_eq_true rfl) rfl rfl ⟨Nat.le_of_ble_eq_true rfl, Nat.le_of_ble_eq_true rfl⟩ (Nat.le_of_ble_eq_true rfl) rfl (Nat.zero_le _) (Nat.zero_le _) (c_M_isRow g V L hN (nI k) (nI f) (nI i)) rfl ?_
  rintro _ _ _ ⟨rfl, rfl, rfl⟩
  rw [mrw_nI hN hk hf0 hh hi]
  refine n_if_eq d_M_lose_8 15 rfl (by omega) (fun h => absurd h (by omega)) (fun h => ?_)
  refine n_iconst d_M_lose_11 0 (by decide) ?_
  refine j_goto d_M_lose_12 16 rfl ?_
  refine v_putI d_M_lose_16 lf_M_63 rfl (Nat.le_of_ble_eq_true rfl) rfl rfl rfl rfl ?_
  refine j_aload_n d_M_lose_19 rfl 0 rfl ?_
  refine v_getI d_M_lose_20 lf_M_63 rfl (Nat.le_of_ble_eq_true rfl) rfl ?_
  rw [vu_eq]
  refine n_iff_gt d_M_lose_23 40 rfl rfl (by decide) ?_
  refine j_aload_n d_M_lose_26 rfl 0 rfl ?_
  refine v_getR d_M_lose_27 lf_M_26 rfl (Nat.le_of_ble_eq_true rfl) rfl ?_
  refine j_iload_n d_M_lose_30 rfl 1 rfl ?_
  refine j_iload_n d_M_lose_31 rfl 2 rfl ?_
  refine j_iload_n d_M_lose_32 rfl 3 rfl ?_
  refine v_callS d_M_lose_33 mt_M_mark ln_M_129 sm_M_mark ⟨Nat.le_of_ble_eq_true rfl, Nat.le_of_ble_eq_true rfl⟩ (Nat.le_of_ble_eq_true rfl) rfl (Nat.zero_le _) (Nat.zero_le _) (c_M_mark g (vu V 85 0 0) L k f i) rfl ?_
  rintro _ _ _ ⟨rfl, rfl, rfl⟩
  refine v_zld d_M_lose_36 rfl rfl (Nat.le_of_ble_eq_true rfl) rfl (by omega) (by omega) ?_
  rw [show vu V 85 0 0 91 (72 * k + 24 * f + i) = 1 from hl]
  refine n_if_eq d_M_lose_37 42 rfl (by omega) (fun h => absurd h (by omega)) (fun h => ?_)
  refine n_iconst d_M_lose_40 0 (by decide) ?_
  exact v_zret d_M_lose_41 rfl (by omega) (Nat.zero_le _) (Nat.zero_le _) rfl jA0_rfl
theorem c1_M_lose (g : jG) (V : Nat → Nat → Nat) (L : Nat → Nat → Int64) (hN : jN V) (k f : Nat) (hk : k < 4) (hf0 : f < V 85 4) (i : Nat) (hi : i < mrs V f) (hh : V 89 (3 * k + f) = 1) (hl : V 91 (72 * k + 24 * f + i) = 0) : jK g Y_M_lose (3, 66) [.ref (jb g + 85), .int (nI k), .int (nI f), .int (nI i)] V L (jA0 (some (.int (nI 1))) (mls (vu (vu V 85 0 0) 91 (72 * k + 24 * f + i) 1) k f i 5) L) := by
  refine jK_entry (by decide +kernel) rfl (Nat.le_of_ble_eq_true rfl) ?_
  show jJ (g, Y_M_lose, (3, 66), 0, 0, jVQ g (jA0 (some (.int (nI 1))) (mls (vu (vu V 85 0 0) 91 (72 * k + 24 * f + i) 1) k f i 5) L)) [(0, .ref (jb g + 85)), (1, .int (nI k)), (2, .int (nI f)), (3, .int (nI i))] (jv (g, Y_M_lose, (3, 66), 0, 0, jVQ g (jA0 (some (.int (nI 1))) (mls (vu (vu V 85 0 0) 91 (72 * k + 24 * f + i) 1) k f i 5) L)) V L 0 0) 0 []
  have h3 := hN.F
  have hw := hN.w (show f < 3 by omega)
  have hm : mrs V f ≤ 24 := by unfold mrs; omega
  have h24 : i < 24 := by unfold mrs at hi; omega
  refine j_aload_n d_M_lose_0 rfl 0 rfl ?_
  refine j_aload_n d_M_lose_1 rfl 0 rfl ?_
  refine j_iload_n d_M_lose_2 rfl 1 rfl ?_
  refine j_iload_n d_M_lose_3 rfl 2 rfl ?_
  refine j_iload_n d_M_lose_4 rfl 3 rfl ?_
  refine v_callV d_M_lose_5 mt_M_isRow ln_M_136 im_M_isRow se_M_isRow rfl (Nat.le_of_ble_eq_true rfl) rfl rfl ⟨Nat.le_of_ble_eq_true rfl, Nat.le_of_ble_eq_true rfl⟩ (Nat.le_of_ble_eq_true rfl) rfl (Nat.zero_le _) (Nat.zero_le _) (c_M_isRow g V L hN (nI k) (nI f) (nI i)) rfl ?_
  rintro _ _ _ ⟨rfl, rfl, rfl⟩
  rw [mrw_nI hN hk hf0 hh hi]
  refine n_if_eq d_M_lose_8 15 rfl (by omega) (fun h => absurd h (by omega)) (fun h => ?_)
  refine n_iconst d_M_lose_11 0 (by decide) ?_
  refine j_goto d_M_lose_12 16 rfl ?_
  refine v_putI d_M_lose_16 lf_M_63 rfl (Nat.le_of_ble_eq_true rfl) rfl rfl rfl rfl ?_
  refine j_aload_n d_M_lose_19 rfl 0 rfl ?_
  refine v_getI d_M_lose_20 lf_M_63 rfl (Nat.le_of_ble_eq_true rfl) rfl ?_
  rw [vu_eq]
  refine n_iff_gt d_M_lose_23 40 rfl rfl (by decide) ?_
  refine j_aload_n d_M_lose_26 rfl 0 rfl ?_
  refine v_getR d_M_lose_27 lf_M_26 rfl (Nat.le_of_ble_eq_true rfl) rfl ?_
  refine j_iload_n d_M_lose_30 rfl 1 rfl ?_
  refine j_iload_n d_M_lose_31 rfl 2 rfl ?_
  refine j_iload_n d_M_lose_32 rfl 3 rfl ?_
  refine v_callS d_M_lose_33 mt_M_mark ln_M_129 sm_M_mark ⟨Nat.le_of_ble_eq_true rfl, Nat.le_of_ble_eq_true rfl⟩ (Nat.le_of_ble_eq_true rfl) rfl (Nat.zero_le _) (Nat.zero_le _) (c_M_mark g (vu V 85 0 0) L k f i) rfl ?_
  rintro _ _ _ ⟨rfl, rfl, rfl⟩
  refine v_zld d_M_lose_36 rfl rfl (Nat.le_of_ble_eq_true rfl) rfl (by omega) (by omega) ?_
  rw [show vu V 85 0 0 91 (72 * k + 24 * f + i) = 0 from hl]
  refine n_if_eq d_M_lose_37 42 rfl (by omega) (fun h => ?_) (fun h => absurd h (by omega))
  refine j_aload_n d_M_lose_42 rfl 0 rfl ?_
  refine v_getR d_M_lose_43 lf_M_26 rfl (Nat.le_of_ble_eq_true rfl) rfl ?_
  refine j_iload_n d_M_lose_46 rfl 1 rfl ?_
  refine j_iload_n d_M_lose_47 rfl 2 rfl ?_
  refine j_iload_n d_M_lose_48 rfl 3 rfl ?_
  refine v_callS d_M_lose_49 mt_M_mark ln_M_129 sm_M_mark ⟨Nat.le_of_ble_eq_true rfl, Nat.le_of_ble_eq_true rfl⟩ (Nat.le_of_ble_eq_true rfl) rfl (Nat.zero_le _) (Nat.zero_le _) (c_M_mark g (vu V 85 0 0) L k f i) rfl ?_
  rintro _ _ _ ⟨rfl, rfl, rfl⟩
  refine n_iconst d_M_lose_52 1 (by decide) ?_
  refine v_zst d_M_lose_53 rfl rfl (Nat.le_of_ble_eq_true rfl) rfl (by omega) (by omega) (by omega) ?_
  refine n_iconst d_M_lose_54 0 (by decide) ?_
  refine j_istore d_M_lose_55 (i := 4) (Nat.le_of_ble_eq_true rfl) (lv' := [_, _, _, _, _]) rfl ?_
  rw [show vu (vu V 85 0 0) 91 (72 * k + 24 * f + i) 1 = mls (vu (vu V 85 0 0) 91 (72 * k + 24 * f + i) 1) k f i 0 from (mls_0 _ _ _ _).symm]
  rw [show mls (mls (vu (vu V 85 0 0) 91 (72 * k + 24 * f + i) 1) k f i 0) k f i 5 = mls (vu (vu V 85 0 0) 91 (72 * k + 24 * f + i) 1) k f i 5 from by rw [mls_0]]
  refine j_iload d_M_lose_57 0 rfl ?_
  refine n_iconst d_M_lose_59 5 (by decide) ?_
  refine n_icmp_ge d_M_lose_60 84 rfl (by omega) (by omega) (fun h => absurd h (by omega)) (fun h => ?_)
  refine j_aload_n d_M_lose_63 rfl 1 rfl ?_
  refine v_getR d_M_lose_64 lf_M_23 rfl (Nat.le_of_ble_eq_true rfl) rfl ?_
  refine j_iload_n d_M_lose_67 rfl 2 rfl ?_
  refine j_iload_n d_M_lose_68 rfl 3 rfl ?_
  refine j_iload_n d_M_lose_69 rfl 4 rfl ?_
  refine v_callS d_M_lose_70 mt_M_spot ln_M_125 sm_M_spot ⟨Nat.le_of_ble_eq_true rfl, Nat.le_of_ble_eq_true rfl⟩ (Nat.le_of_ble_eq_true rfl) rfl (Nat.zero_le _) (Nat.zero_le _) (c_M_spot g (mls (vu (vu V 85 0 0) 91 (72 * k + 24 * f + i) 1) k f i 0) L k f i) rfl ?_
  rintro _ _ _ ⟨rfl, rfl, rfl⟩
  refine j_iload d_M_lose_73 0 rfl ?_
  refine n_add d_M_lose_75 ?_
  refine n_iconst d_M_lose_76 0 (by decide) ?_
  refine v_ist d_M_lose_77 rfl rfl (Nat.le_of_ble_eq_true rfl) rfl (by omega) (by omega) ?_
  rw [mls_s]
  refine n_iinc d_M_lose_78 1 (by decide) 0 rfl (Nat.le_of_ble_eq_true rfl) (lv' := [(4, .int (nI 1)), _, _, _, _]) rfl ?_
  refine j_goto d_M_lose_81 57 rfl ?_
  refine j_iload d_M_lose_57 0 rfl ?_
  refine n_iconst d_M_lose_59 5 (by decide) ?_
  refine n_icmp_ge d_M_lose_60 84 rfl (by omega) (by omega) (fun h => absurd h (by omega)) (fun h => ?_)
  refine j_aload_n d_M_lose_63 rfl 1 rfl ?_
  refine v_getR d_M_lose_64 lf_M_23 rfl (Nat.le_of_ble_eq_true rfl) rfl ?_
  refine j_iload_n d_M_lose_67 rfl 2 rfl ?_
  refine j_iload_n d_M_lose_68 rfl 3 rfl ?_
  refine j_iload_n d_M_lose_69 rfl 4 rfl ?_
  refine v_callS d_M_lose_70 mt_M_spot ln_M_125 sm_M_spot ⟨Nat.le_of_ble_eq_true rfl, Nat.le_of_ble_eq_true rfl⟩ (Nat.le_of_ble_eq_true rfl) rfl (Nat.zero_le _) (Nat.zero_le _) (c_M_spot g (mls (vu (vu V 85 0 0) 91 (72 * k + 24 * f + i) 1) k f i 1) L k f i) rfl ?_
  rintro _ _ _ ⟨rfl, rfl, rfl⟩
  refine j_iload d_M_lose_73 0 rfl ?_
  refine n_add d_M_lose_75 ?_
  refine n_iconst d_M_lose_76 0 (by decide) ?_
  refine v_ist d_M_lose_77 rfl rfl (Nat.le_of_ble_eq_true rfl) rfl (by omega) (by omega) ?_
  rw [mls_s]
  refine n_iinc d_M_lose_78 1 (by decide) 0 rfl (Nat.le_of_ble_eq_true rfl) (lv' := [(4, .int (nI 2)), _, _, _, _]) rfl ?_
  refine j_goto d_M_lose_81 57 rfl ?_
  refine j_iload d_M_lose_57 0 rfl ?_
  refine n_iconst d_M_lose_59 5 (by decide) ?_
  refine n_icmp_ge d_M_lose_60 84 rfl (by omega) (by omega) (fun h => absurd h (by omega)) (fun h => ?_)
  refine j_aload_n d_M_lose_63 rfl 1 rfl ?_
  refine v_getR d_M_lose_64 lf_M_23 rfl (Nat.le_of_ble_eq_true rfl) rfl ?_
  refine j_iload_n d_M_lose_67 rfl 2 rfl ?_
  refine j_iload_n d_M_lose_68 rfl 3 rfl ?_
  refine j_iload_n d_M_lose_69 rfl 4 rfl ?_
  refine v_callS d_M_lose_70 mt_M_spot ln_M_125 sm_M_spot ⟨Nat.le_of_ble_eq_true rfl, Nat.le_of_ble_eq_true rfl⟩ (Nat.le_of_ble_eq_true rfl) rfl (Nat.zero_le _) (Nat.zero_le _) (c_M_spot g (mls (vu (vu V 85 0 0) 91 (72 * k + 24 * f + i) 1) k f i 2) L k f i) rfl ?_
  rintro _ _ _ ⟨rfl, rfl, rfl⟩
  refine j_iload d_M_lose_73 0 rfl ?_
  refine n_add d_M_lose_75 ?_
  refine n_iconst d_M_lose_76 0 (by decide) ?_
  refine v_ist d_M_lose_77 rfl rfl (Nat.le_of_ble_eq_true rfl) rfl (by omega) (by omega) ?_
  rw [mls_s]
  refine n_iinc d_M_lose_78 1 (by decide) 0 rfl (Nat.le_of_ble_eq_true rfl) (lv' := [(4, .int (nI 3)), _, _, _, _]) rfl ?_
  refine j_goto d_M_lose_81 57 rfl ?_
  refine j_iload d_M_lose_57 0 rfl ?_
  refine n_iconst d_M_lose_59 5 (by decide) ?_
  refine n_icmp_ge d_M_lose_60 84 rfl (by omega) (by omega) (fun h => absurd h (by omega)) (fun h => ?_)
  refine j_aload_n d_M_lose_63 rfl 1 rfl ?_
  refine v_getR d_M_lose_64 lf_M_23 rfl (Nat.le_of_ble_eq_true rfl) rfl ?_
  refine j_iload_n d_M_lose_67 rfl 2 rfl ?_
  refine j_iload_n d_M_lose_68 rfl 3 rfl ?_
  refine j_iload_n d_M_lose_69 rfl 4 rfl ?_
  refine v_callS d_M_lose_70 mt_M_spot ln_M_125 sm_M_spot ⟨Nat.le_of_ble_eq_true rfl, Nat.le_of_ble_eq_true rfl⟩ (Nat.le_of_ble_eq_true rfl) rfl (Nat.zero_le _) (Nat.zero_le _) (c_M_spot g (mls (vu (vu V 85 0 0) 91 (72 * k + 24 * f + i) 1) k f i 3) L k f i) rfl ?_
  rintro _ _ _ ⟨rfl, rfl, rfl⟩
  refine j_iload d_M_lose_73 0 rfl ?_
  refine n_add d_M_lose_75 ?_
  refine n_iconst d_M_lose_76 0 (by decide) ?_
  refine v_ist d_M_lose_77 rfl rfl (Nat.le_of_ble_eq_true rfl) rfl (by omega) (by omega) ?_
  rw [mls_s]
  refine n_iinc d_M_lose_78 1 (by decide) 0 rfl (Nat.le_of_ble_eq_true rfl) (lv' := [(4, .int (nI 4)), _, _, _, _]) rfl ?_
  refine j_goto d_M_lose_81 57 rfl ?_
  refine j_iload d_M_lose_57 0 rfl ?_
  refine n_iconst d_M_lose_59 5 (by decide) ?_
  refine n_icmp_ge d_M_lose_60 84 rfl (by omega) (by omega) (fun h => absurd h (by omega)) (fun h => ?_)
  refine j_aload_n d_M_lose_63 rfl 1 rfl ?_
  refine v_getR d_M_lose_64 lf_M_23 rfl (Nat.le_of_ble_eq_true rfl) rfl ?_
  refine j_iload_n d_M_lose_67 rfl 2 rfl ?_
  refine j_iload_n d_M_lose_68 rfl 3 rfl ?_
  refine j_iload_n d_M_lose_69 rfl 4 rfl ?_
  refine v_callS d_M_lose_70 mt_M_spot ln_M_125 sm_M_spot ⟨Nat.le_of_ble_eq_true rfl, Nat.le_of_ble_eq_true rfl⟩ (Nat.le_of_ble_eq_true rfl) rfl (Nat.zero_le _) (Nat.zero_le _) (c_M_spot g (mls (vu (vu V 85 0 0) 91 (72 * k + 24 * f + i) 1) k f i 4) L k f i) rfl ?_
  rintro _ _ _ ⟨rfl, rfl, rfl⟩
  refine j_iload d_M_lose_73 0 rfl ?_
  refine n_add d_M_lose_75 ?_
  refine n_iconst d_M_lose_76 0 (by decide) ?_
  refine v_ist d_M_lose_77 rfl rfl (Nat.le_of_ble_eq_true rfl) rfl (by omega) (by omega) ?_
  rw [mls_s]
  refine n_iinc d_M_lose_78 1 (by decide) 0 rfl (Nat.le_of_ble_eq_true rfl) (lv' := [(4, .int (nI 5)), _, _, _, _]) rfl ?_
  refine j_goto d_M_lose_81 57 rfl ?_
  refine j_iload d_M_lose_57 0 rfl ?_
  refine n_iconst d_M_lose_59 5 (by decide) ?_
  refine n_icmp_ge d_M_lose_60 84 rfl (by omega) (by omega) (fun h => ?_) (fun h => absurd h (by omega))
  refine n_iconst d_M_lose_84 1 (by decide) ?_
  exact v_zret d_M_lose_85 rfl (by omega) (Nat.zero_le _) (Nat.zero_le _) rfl jA0_rfl
theorem n_M_lose (g : jG) (V : Nat → Nat → Nat) (L : Nat → Nat → Int64) (hN : jN V) (zk zf zi : Int32) (h : mrw V zk zf zi = 0) : jK g Y_M_lose (3, 66) [.ref (jb g + 85), .int (zk), .int (zf), .int (zi)] V L (jA0 (some (.int (nI 0))) (vu V 85 0 1) L) := by
  refine jK_entry (by decide +kernel) rfl (Nat.le_of_ble_eq_true rfl) ?_
  show jJ (g, Y_M_lose, (3, 66), 0, 0, jVQ g (jA0 (some (.int (nI 0))) (vu V 85 0 1) L)) [(0, .ref (jb g + 85)), (1, .int (zk)), (2, .int (zf)), (3, .int (zi))] (jv (g, Y_M_lose, (3, 66), 0, 0, jVQ g (jA0 (some (.int (nI 0))) (vu V 85 0 1) L)) V L 0 0) 0 []
  refine j_aload_n d_M_lose_0 rfl 0 rfl ?_
  refine j_aload_n d_M_lose_1 rfl 0 rfl ?_
  refine j_iload_n d_M_lose_2 rfl 1 rfl ?_
  refine j_iload_n d_M_lose_3 rfl 2 rfl ?_
  refine j_iload_n d_M_lose_4 rfl 3 rfl ?_
  refine v_callV d_M_lose_5 mt_M_isRow ln_M_136 im_M_isRow se_M_isRow rfl (Nat.le_of_ble_eq_true rfl) rfl rfl ⟨Nat.le_of_ble_eq_true rfl, Nat.le_of_ble_eq_true rfl⟩ (Nat.le_of_ble_eq_true rfl) rfl (Nat.zero_le _) (Nat.zero_le _) (c_M_isRow g V L hN zk zf zi) rfl ?_
  rintro _ _ _ ⟨rfl, rfl, rfl⟩
  rw [h]
  refine n_if_eq d_M_lose_8 15 rfl (by omega) (fun h => ?_) (fun h => absurd h (by omega))
  refine n_iconst d_M_lose_15 1 (by decide) ?_
  refine v_putI d_M_lose_16 lf_M_63 rfl (Nat.le_of_ble_eq_true rfl) rfl rfl rfl rfl ?_
  refine j_aload_n d_M_lose_19 rfl 0 rfl ?_
  refine v_getI d_M_lose_20 lf_M_63 rfl (Nat.le_of_ble_eq_true rfl) rfl ?_
  rw [vu_eq]
  refine n_ift_gt d_M_lose_23 40 rfl (by decide) (by decide) ?_
  refine n_iconst d_M_lose_40 0 (by decide) ?_
  exact v_zret d_M_lose_41 rfl (by omega) (Nat.zero_le _) (Nat.zero_le _) rfl jA0_rfl
