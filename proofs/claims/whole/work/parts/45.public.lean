/-! AuditDesk: challenge, asked, tamper, judge, locate, found, fetched, made, kept -/
theorem drw_76 {V : Nat → Nat → Nat} {s rc : Nat} (h0 : 0 < rc) : ∀ t i, i < t → drw V s rc t 76 i < rc
  | 0, _, h => absurd h (Nat.not_lt_zero _)
  | t + 1, i, h => by
    show vu _ _ _ _ 76 i < rc
    rw [vu_nq _ _ _ (by decide), vu_nq _ _ _ (by decide)]
    unfold vu
    split
    · exact drr_lt h0
    · exact drw_76 h0 t i (by omega)
theorem drw_77 {V : Nat → Nat → Nat} {s rc : Nat} : ∀ t i, i < t → drw V s rc t 77 i < 2147483647
  | 0, _, h => absurd h (Nat.not_lt_zero _)
  | t + 1, i, h => by
    show vu (vu (vu (drw V s rc t) 76 t (drr (drw V s rc t) s rc t)) 79 (drr (drw V s rc t) s rc t) 1) 77 t (drc s t) 77 i < _
    unfold vu
    split
    · have : stp (stp (sdn s t)) / 2 ^ 1 % 2147483646 < 2147483646 := Nat.mod_lt _ (by decide)
      unfold drc
      omega
    · rw [if_neg (by omega), if_neg (by omega)]
      exact drw_77 t i (by omega)
/-- what a challenge leaves -/
def chl (V : Nat → Nat → Nat) (f k s m : Nat) : Nat → Nat → Nat := anv (drv (vu (vu (vu V 75 0 1) 75 1 f) 75 2 k) s m (V (3 + 5 * f) 1)) (22 + 14 * k + 4 * f) m 5
theorem drv_nq {V : Nat → Nat → Nat} {s m rc a : Nat} (h1 : a ≠ 75) (h2 : a ≠ 76) (h3 : a ≠ 77) (h4 : a ≠ 79) : drv V s m rc a = V a := by
  unfold drv
  rw [drw_nq h2 h3 h4, vu_nq _ _ _ h1, dr0_nq h4]
theorem c_D_challenge (g : jG) (V : Nat → Nat → Nat) (L : Nat → Nat → Int64) (hI : jI V) (k : Nat) (hk : k < 4) (f : Nat) (hf0 : f < V 0 4) (hh : V (21 + 14 * k + 4 * f) 0 = 1) (s : Nat) (hs : s < 2 ^ 32) (m : Nat) (h1 : 1 ≤ m) (hm : m ≤ V (3 + 5 * f) 1) : jK g Y_D_challenge (6, 86) [.ref (jb g + 0), .int (nI f), .int (nI k), .int (nI s), .int (nI m)] V L (jA0 (some (.int (nI (chl V f k s m 76 0)))) (chl V f k s m) L) := by
  refine jK_entry (by decide +kernel) rfl (Nat.le_of_ble_eq_true rfl) ?_
  show jJ (g, Y_D_challenge, (6, 86), 0, 0, jVQ g (jA0 (some (.int (nI (chl V f k s m 76 0)))) (chl V f k s m) L)) [(0, .ref (jb g + 0)), (1, .int (nI f)), (2, .int (nI k)), (3, .int (nI s)), (4, .int (nI m))] (jv (g, Y_D_challenge, (6, 86), 0, 0, jVQ g (jA0 (some (.int (nI (chl V f k s m 76 0)))) (chl V f k s m) L)) V L 0 0) 0 []
  have hf : f < 3 := Nat.lt_of_lt_of_le hf0 hI.F
  have hrc := hI.rc hf
  have hwd := hI.w hf
  refine j_aload_n d_D_challenge_0 rfl 0 rfl ?_
  refine j_iload_n d_D_challenge_1 rfl 2 rfl ?_
  refine j_iload_n d_D_challenge_2 rfl 1 rfl ?_
  refine v_callV d_D_challenge_3 mt_D_keeps ln_D_153 im_D_keeps se_D_keeps rfl (Nat.le_of_ble_eq_true rfl) rfl rfl ⟨Nat.le_of_ble_eq_true rfl, Nat.le_of_ble_eq_true rfl⟩ (Nat.le_of_ble_eq_true rfl) rfl (Nat.zero_le _) (Nat.zero_le _) (c_D_keeps g V L hI (nI k) (nI f)) rfl ?_
  rintro _ _ _ ⟨rfl, rfl, rfl⟩
  rw [kps_nI hI.F hk hf0, hh]
  refine n_if_eq d_D_challenge_6 29 rfl (by omega) (fun h => absurd h (by omega)) (fun h => ?_)
  refine j_iload d_D_challenge_9 4 rfl ?_
  refine n_iconst d_D_challenge_11 1 (by decide) ?_
  refine n_icmp_lt d_D_challenge_12 29 rfl (by omega) (by omega) (fun h => absurd h (by omega)) (fun h => ?_)
  refine j_iload d_D_challenge_15 4 rfl ?_
  refine j_aload_n d_D_challenge_17 rfl 0 rfl ?_
  refine v_getR d_D_challenge_18 lf_D_15 rfl (Nat.le_of_ble_eq_true rfl) rfl ?_
  refine j_iload_n d_D_challenge_21 rfl 1 rfl ?_
  refine v_ald d_D_challenge_22 rfl rfl (Nat.le_of_ble_eq_true rfl) rfl (dref f hf) (Nat.le_of_ble_eq_true rfl) ?_
  refine v_getI d_D_challenge_23 lf_D_114 (jshp_E f hf).1 (by omega) rfl ?_
  refine n_icmp_le d_D_challenge_26 39 rfl (by omega) (by omega) (fun h => ?_) (fun h => absurd h (by omega))
  refine j_aload_n d_D_challenge_39 rfl 0 rfl ?_
  refine v_getR d_D_challenge_40 lf_D_30 rfl (Nat.le_of_ble_eq_true rfl) rfl ?_
  refine j_iload_n d_D_challenge_43 rfl 1 rfl ?_
  refine j_iload_n d_D_challenge_44 rfl 2 rfl ?_
  refine v_callV d_D_challenge_45 mt_C_pose ln_D_159 im_C_pose se_C_pose rfl (Nat.le_of_ble_eq_true rfl) rfl rfl ⟨Nat.le_of_ble_eq_true rfl, Nat.le_of_ble_eq_true rfl⟩ (Nat.le_of_ble_eq_true rfl) rfl (Nat.zero_le _) (Nat.zero_le _) (c_C_pose g V L f k) rfl ?_
  rintro _ _ _ ⟨rfl, rfl, rfl⟩
  generalize hP : vu (vu (vu V 75 0 1) 75 1 f) 75 2 k = P
  have eP : ∀ a, a ≠ 75 → P a = V a := fun a ha => by rw [← hP, vu_nq _ _ _ ha, vu_nq _ _ _ ha, vu_nq _ _ _ ha]
  refine j_aload_n d_D_challenge_48 rfl 0 rfl ?_
  refine v_getR d_D_challenge_49 lf_D_30 rfl (Nat.le_of_ble_eq_true rfl) rfl ?_
  refine j_iload_n d_D_challenge_52 rfl 3 rfl ?_
  refine j_iload d_D_challenge_53 4 rfl ?_
  refine j_aload_n d_D_challenge_55 rfl 0 rfl ?_
  refine v_getR d_D_challenge_56 lf_D_15 rfl (Nat.le_of_ble_eq_true rfl) rfl ?_
  refine j_iload_n d_D_challenge_59 rfl 1 rfl ?_
  refine v_ald d_D_challenge_60 rfl rfl (Nat.le_of_ble_eq_true rfl) rfl (dref f hf) (Nat.le_of_ble_eq_true rfl) ?_
  refine v_getI d_D_challenge_61 lf_D_114 (jshp_E f hf).1 (by omega) rfl ?_
  rw [show P (3 + 5 * f) 1 = V (3 + 5 * f) 1 from by rw [eP _ (by omega)]]
  refine v_callV d_D_challenge_64 mt_C_draw ln_D_163 im_C_draw se_C_draw rfl (Nat.le_of_ble_eq_true rfl) rfl rfl ⟨Nat.le_of_ble_eq_true rfl, Nat.le_of_ble_eq_true rfl⟩ (Nat.le_of_ble_eq_true rfl) rfl (Nat.zero_le _) (Nat.zero_le _) (c_C_draw g P L s m (V (3 + 5 * f) 1) hs hm (by omega) (by omega) (by rw [eP _ (by decide)]; exact hI.cd)) rfl ?_
  rintro _ _ _ ⟨rfl, rfl, rfl⟩
  refine j_aload_n d_D_challenge_67 rfl 0 rfl ?_
  refine v_getR d_D_challenge_68 lf_D_30 rfl (Nat.le_of_ble_eq_true rfl) rfl ?_
  refine j_aload_n d_D_challenge_71 rfl 0 rfl ?_
  refine v_getR d_D_challenge_72 lf_D_22 rfl (Nat.le_of_ble_eq_true rfl) rfl ?_
  refine j_iload_n d_D_challenge_75 rfl 2 rfl ?_
  refine v_ald d_D_challenge_76 rfl rfl (Nat.le_of_ble_eq_true rfl) rfl (kref k hk) (Nat.le_of_ble_eq_true rfl) ?_
  refine v_getR d_D_challenge_77 lf_D_101 (jshp_K k hk).1 (by omega) rfl ?_
  refine j_iload_n d_D_challenge_80 rfl 1 rfl ?_
  refine v_ald d_D_challenge_81 (jshp_K k hk).2 rfl (by omega) rfl (cref k f hf) (Nat.le_of_ble_eq_true rfl) ?_
  refine v_getR d_D_challenge_82 lf_D_141 (jshp_Y k hk f hf).1 (by omega) rfl ?_
  have e0 : chl V f k s m = anv (drv P s m (V (3 + 5 * f) 1)) (22 + 14 * k + 4 * f) m 5 := by unfold chl; rw [hP]
  refine v_callV d_D_challenge_85 mt_C_answerFrom ln_D_166 im_C_answerFrom se_C_answerFrom rfl (Nat.le_of_ble_eq_true rfl) rfl rfl ⟨Nat.le_of_ble_eq_true rfl, Nat.le_of_ble_eq_true rfl⟩ (Nat.le_of_ble_eq_true rfl) rfl (Nat.zero_le _) (Nat.zero_le _) (c_C_answerFrom g (drv P s m (V (3 + 5 * f) 1)) L (22 + 14 * k + 4 * f) (jshp_YR k hk f hf).1 (jshp_YR k hk f hf).2 (by omega) m (by omega) (by unfold drv; rw [drw_nq (by decide) (by decide) (by decide)]; exact vu_eq _ _ _ _) (fun i hi => Nat.lt_of_lt_of_le (drw_76 (by omega) m i hi) (by omega)) (drw_77 m) (by rw [drv_nq (by omega) (by omega) (by omega) (by omega), eP _ (by omega)]; exact hI.kp hk hf)) rfl ?_
  rintro _ _ _ ⟨rfl, rfl, rfl⟩
  rw [← e0]
  refine j_aload_n d_D_challenge_88 rfl 0 rfl ?_
  refine v_getR d_D_challenge_89 lf_D_30 rfl (Nat.le_of_ble_eq_true rfl) rfl ?_
  refine v_getR d_D_challenge_92 lf_D_170 rfl (Nat.le_of_ble_eq_true rfl) rfl ?_
  refine n_iconst d_D_challenge_95 0 (by decide) ?_
  refine v_ild d_D_challenge_96 rfl rfl (Nat.le_of_ble_eq_true rfl) rfl (by omega) (by omega) ?_
  exact v_iret d_D_challenge_97 rfl (Nat.zero_le _) (Nat.zero_le _) rfl jA0_rfl
theorem t1_D_challenge (g : jG) (V : Nat → Nat → Nat) (L : Nat → Nat → Int64) (hI : jI V) (zf zk zs zm : Int32) (h : kps V zk zf = 0 ∨ zm < nI 1 ∨ ¬ zm ≤ nI (V (3 + 5 * zf.toNatClampNeg) 1)) : jT g Y_D_challenge (6, 86) [.ref (jb g + 0), .int (zf), .int (zk), .int (zs), .int (zm)] V L 1 (jB0 V L) := by
  refine jT_entry (by decide +kernel) rfl (Nat.le_of_ble_eq_true rfl) ?_
  show jJ (g, Y_D_challenge, (6, 86), 1, 6, jTQ g 1 (jB0 V L)) [(0, .ref (jb g + 0)), (1, .int (zf)), (2, .int (zk)), (3, .int (zs)), (4, .int (zm))] (jv (g, Y_D_challenge, (6, 86), 1, 6, jTQ g 1 (jB0 V L)) V L 0 0) 0 []
  refine j_aload_n d_D_challenge_0 rfl 0 rfl ?_
  refine j_iload_n d_D_challenge_1 rfl 2 rfl ?_
  refine j_iload_n d_D_challenge_2 rfl 1 rfl ?_
  refine v_callV d_D_challenge_3 mt_D_keeps ln_D_153 im_D_keeps se_D_keeps rfl (Nat.le_of_ble_eq_true rfl) rfl rfl ⟨Nat.le_of_ble_eq_true rfl, Nat.le_of_ble_eq_true rfl⟩ (Nat.le_of_ble_eq_true rfl) rfl (Nat.zero_le _) (Nat.zero_le _) (c_D_keeps g V L hI zk zf) rfl ?_
  rintro _ _ _ ⟨rfl, rfl, rfl⟩
  refine n_if_eq d_D_challenge_6 29 rfl (Nat.lt_of_le_of_lt (kps_le hI _ _) (by decide)) (fun h1 => ?_) (fun h1 => ?_)
  · exact v_throw (kd := 1) (tx := "the keeper has no such file, or m is not 1 to its rows") d_D_challenge_29 d_D_challenge_32 d_D_challenge_33 d_D_challenge_35 d_D_challenge_38 rfl rfl lc_D_75 it_IAE iz_IAE (by decide +kernel) (by decide +kernel) own1 ⟨Nat.le_of_ble_eq_true rfl, Nat.le_of_ble_eq_true rfl⟩ (Nat.le_of_ble_eq_true rfl) (Nat.le_of_ble_eq_true rfl) rfl ⟨rfl, rfl⟩
  · obtain ⟨k, f, hk, hf0, rfl, rfl, hd⟩ := kps_of hI h1
    have hf : f < 3 := Nat.lt_of_lt_of_le hf0 hI.F
    rw [nI_clamp (by omega)] at h
    refine j_iload d_D_challenge_9 4 rfl ?_
    refine n_iconst d_D_challenge_11 1 (by decide) ?_
    refine j_icmp_lt d_D_challenge_12 29 rfl (fun h2 => ?_) (fun h2 => ?_)
    · exact v_throw (kd := 1) (tx := "the keeper has no such file, or m is not 1 to its rows") d_D_challenge_29 d_D_challenge_32 d_D_challenge_33 d_D_challenge_35 d_D_challenge_38 rfl rfl lc_D_75 it_IAE iz_IAE (by decide +kernel) (by decide +kernel) own1 ⟨Nat.le_of_ble_eq_true rfl, Nat.le_of_ble_eq_true rfl⟩ (Nat.le_of_ble_eq_true rfl) (Nat.le_of_ble_eq_true rfl) rfl ⟨rfl, rfl⟩
    · refine j_iload d_D_challenge_15 4 rfl ?_
      refine j_aload_n d_D_challenge_17 rfl 0 rfl ?_
      refine v_getR d_D_challenge_18 lf_D_15 rfl (Nat.le_of_ble_eq_true rfl) rfl ?_
      refine j_iload_n d_D_challenge_21 rfl 1 rfl ?_
      refine v_ald d_D_challenge_22 rfl rfl (Nat.le_of_ble_eq_true rfl) rfl (dref f hf) (Nat.le_of_ble_eq_true rfl) ?_
      refine v_getI d_D_challenge_23 lf_D_114 (jshp_E f hf).1 (by omega) rfl ?_
      refine j_icmp_le d_D_challenge_26 39 rfl (fun h3 => ?_) (fun h3 => ?_)
      · exact (h.elim h1 (fun e => e.elim h2 (fun e => e h3))).elim
      · exact v_throw (kd := 1) (tx := "the keeper has no such file, or m is not 1 to its rows") d_D_challenge_29 d_D_challenge_32 d_D_challenge_33 d_D_challenge_35 d_D_challenge_38 rfl rfl lc_D_75 it_IAE iz_IAE (by decide +kernel) (by decide +kernel) own1 ⟨Nat.le_of_ble_eq_true rfl, Nat.le_of_ble_eq_true rfl⟩ (Nat.le_of_ble_eq_true rfl) (Nat.le_of_ble_eq_true rfl) rfl ⟨rfl, rfl⟩
theorem c0_D_asked (g : jG) (V : Nat → Nat → Nat) (L : Nat → Nat → Int64) (hI : jI V) (hp : V 75 0 = 1) (i : Nat) (hi : i < V 75 3) : jK g Y_D_asked (0, 0) [.ref (jb g + 0), .int (nI 0), .int (nI i)] V L (jA0 (some (.int (nI (V 76 i)))) V L) := by
  refine jK_entry (by decide +kernel) rfl (Nat.le_of_ble_eq_true rfl) ?_
  show jJ (g, Y_D_asked, (0, 0), 0, 0, jVQ g (jA0 (some (.int (nI (V 76 i)))) V L)) [(0, .ref (jb g + 0)), (1, .int (nI 0)), (2, .int (nI i))] (jv (g, Y_D_asked, (0, 0), 0, 0, jVQ g (jA0 (some (.int (nI (V 76 i)))) V L)) V L 0 0) 0 []
  have := hI.cm
  refine j_aload_n d_D_asked_0 rfl 0 rfl ?_
  refine v_getR d_D_asked_1 lf_D_30 rfl (Nat.le_of_ble_eq_true rfl) rfl ?_
  refine v_getI d_D_asked_4 lf_D_172 rfl (Nat.le_of_ble_eq_true rfl) rfl ?_
  rw [hp]
  refine n_if_eq d_D_asked_7 14 rfl (by omega) (fun h => absurd h (by omega)) (fun h => ?_)
  refine j_iload_n d_D_asked_10 rfl 2 rfl ?_
  refine n_ift_ge d_D_asked_11 16 rfl rfl (by omega) ?_
  refine j_iload_n d_D_asked_16 rfl 1 rfl ?_
  refine n_if_ne d_D_asked_17 41 rfl (by omega) (fun h => absurd h (by omega)) (fun h => ?_)
  refine j_iload_n d_D_asked_20 rfl 2 rfl ?_
  refine j_aload_n d_D_asked_21 rfl 0 rfl ?_
  refine v_getR d_D_asked_22 lf_D_30 rfl (Nat.le_of_ble_eq_true rfl) rfl ?_
  refine v_getI d_D_asked_25 lf_D_175 rfl (Nat.le_of_ble_eq_true rfl) rfl ?_
  refine n_icmp_ge d_D_asked_28 41 rfl (by omega) (by omega) (fun h => absurd h (by omega)) (fun h => ?_)
  refine j_aload_n d_D_asked_31 rfl 0 rfl ?_
  refine v_getR d_D_asked_32 lf_D_30 rfl (Nat.le_of_ble_eq_true rfl) rfl ?_
  refine v_getR d_D_asked_35 lf_D_170 rfl (Nat.le_of_ble_eq_true rfl) rfl ?_
  refine j_iload_n d_D_asked_38 rfl 2 rfl ?_
  refine v_ild d_D_asked_39 rfl rfl (Nat.le_of_ble_eq_true rfl) rfl (by omega) (by omega) ?_
  exact v_iret d_D_asked_40 rfl (Nat.zero_le _) (Nat.zero_le _) rfl jA0_rfl
theorem c1_D_asked (g : jG) (V : Nat → Nat → Nat) (L : Nat → Nat → Int64) (hI : jI V) (hp : V 75 0 = 1) (i : Nat) (hi : i < V 75 3) : jK g Y_D_asked (0, 0) [.ref (jb g + 0), .int (nI 1), .int (nI i)] V L (jA0 (some (.int (nI (V 77 i)))) V L) := by
  refine jK_entry (by decide +kernel) rfl (Nat.le_of_ble_eq_true rfl) ?_
  show jJ (g, Y_D_asked, (0, 0), 0, 0, jVQ g (jA0 (some (.int (nI (V 77 i)))) V L)) [(0, .ref (jb g + 0)), (1, .int (nI 1)), (2, .int (nI i))] (jv (g, Y_D_asked, (0, 0), 0, 0, jVQ g (jA0 (some (.int (nI (V 77 i)))) V L)) V L 0 0) 0 []
  have := hI.cm
  refine j_aload_n d_D_asked_0 rfl 0 rfl ?_
  refine v_getR d_D_asked_1 lf_D_30 rfl (Nat.le_of_ble_eq_true rfl) rfl ?_
  refine v_getI d_D_asked_4 lf_D_172 rfl (Nat.le_of_ble_eq_true rfl) rfl ?_
  rw [hp]
  refine n_if_eq d_D_asked_7 14 rfl (by omega) (fun h => absurd h (by omega)) (fun h => ?_)
  refine j_iload_n d_D_asked_10 rfl 2 rfl ?_
  refine n_ift_ge d_D_asked_11 16 rfl rfl (by omega) ?_
  refine j_iload_n d_D_asked_16 rfl 1 rfl ?_
  refine n_if_ne d_D_asked_17 41 rfl (by omega) (fun h => ?_) (fun h => absurd h (by omega))
  refine j_iload_n d_D_asked_41 rfl 1 rfl ?_
  refine n_iconst d_D_asked_42 1 (by decide) ?_
  refine n_icmp_ne d_D_asked_43 67 rfl (by omega) (by omega) (fun h => absurd h (by omega)) (fun h => ?_)
  refine j_iload_n d_D_asked_46 rfl 2 rfl ?_
  refine j_aload_n d_D_asked_47 rfl 0 rfl ?_
  refine v_getR d_D_asked_48 lf_D_30 rfl (Nat.le_of_ble_eq_true rfl) rfl ?_
  refine v_getI d_D_asked_51 lf_D_175 rfl (Nat.le_of_ble_eq_true rfl) rfl ?_
  refine n_icmp_ge d_D_asked_54 67 rfl (by omega) (by omega) (fun h => absurd h (by omega)) (fun h => ?_)
  refine j_aload_n d_D_asked_57 rfl 0 rfl ?_
  refine v_getR d_D_asked_58 lf_D_30 rfl (Nat.le_of_ble_eq_true rfl) rfl ?_
  refine v_getR d_D_asked_61 lf_D_178 rfl (Nat.le_of_ble_eq_true rfl) rfl ?_
  refine j_iload_n d_D_asked_64 rfl 2 rfl ?_
  refine v_ild d_D_asked_65 rfl rfl (Nat.le_of_ble_eq_true rfl) rfl (by omega) (by omega) ?_
  exact v_iret d_D_asked_66 rfl (Nat.zero_le _) (Nat.zero_le _) rfl jA0_rfl
theorem c2_D_asked (g : jG) (V : Nat → Nat → Nat) (L : Nat → Nat → Int64) (hp : V 75 0 = 1) (i : Nat) (hi : i < 5) : jK g Y_D_asked (0, 0) [.ref (jb g + 0), .int (nI 2), .int (nI i)] V L (jA0 (some (.int (nI (V 78 i)))) V L) := by
  refine jK_entry (by decide +kernel) rfl (Nat.le_of_ble_eq_true rfl) ?_
  show jJ (g, Y_D_asked, (0, 0), 0, 0, jVQ g (jA0 (some (.int (nI (V 78 i)))) V L)) [(0, .ref (jb g + 0)), (1, .int (nI 2)), (2, .int (nI i))] (jv (g, Y_D_asked, (0, 0), 0, 0, jVQ g (jA0 (some (.int (nI (V 78 i)))) V L)) V L 0 0) 0 []
  refine j_aload_n d_D_asked_0 rfl 0 rfl ?_
  refine v_getR d_D_asked_1 lf_D_30 rfl (Nat.le_of_ble_eq_true rfl) rfl ?_
  refine v_getI d_D_asked_4 lf_D_172 rfl (Nat.le_of_ble_eq_true rfl) rfl ?_
  rw [hp]
  refine n_if_eq d_D_asked_7 14 rfl (by omega) (fun h => absurd h (by omega)) (fun h => ?_)
  refine j_iload_n d_D_asked_10 rfl 2 rfl ?_
  refine n_ift_ge d_D_asked_11 16 rfl rfl (by omega) ?_
  refine j_iload_n d_D_asked_16 rfl 1 rfl ?_
  refine n_if_ne d_D_asked_17 41 rfl (by omega) (fun h => ?_) (fun h => absurd h (by omega))
  refine j_iload_n d_D_asked_41 rfl 1 rfl ?_
  refine n_iconst d_D_asked_42 1 (by decide) ?_
  refine n_icmp_ne d_D_asked_43 67 rfl (by omega) (by omega) (fun h => ?_) (fun h => absurd h (by omega))
  refine j_iload_n d_D_asked_67 rfl 1 rfl ?_
  refine n_iconst d_D_asked_68 2 (by decide) ?_
  refine n_icmp_ne d_D_asked_69 87 rfl (by omega) (by omega) (fun h => absurd h (by omega)) (fun h => ?_)
  refine j_iload_n d_D_asked_72 rfl 2 rfl ?_
  refine n_iconst d_D_asked_73 5 (by decide) ?_
  refine n_icmp_ge d_D_asked_74 87 rfl (by omega) (by omega) (fun h => absurd h (by omega)) (fun h => ?_)
  refine j_aload_n d_D_asked_77 rfl 0 rfl ?_
  refine v_getR d_D_asked_78 lf_D_30 rfl (Nat.le_of_ble_eq_true rfl) rfl ?_
  refine v_getR d_D_asked_81 lf_D_181 rfl (Nat.le_of_ble_eq_true rfl) rfl ?_
  refine j_iload_n d_D_asked_84 rfl 2 rfl ?_
  refine v_ild d_D_asked_85 rfl rfl (Nat.le_of_ble_eq_true rfl) rfl (by omega) (by omega) ?_
  exact v_iret d_D_asked_86 rfl (Nat.zero_le _) (Nat.zero_le _) rfl jA0_rfl
theorem n_D_asked (g : jG) (V : Nat → Nat → Nat) (L : Nat → Nat → Int64) (hI : jI V) (zw zi : Int32) (h : V 75 0 = 0 ∨ zi < 0 ∨ ((zw = 0 → nI (V 75 3) ≤ zi) ∧ (zw = nI 1 → nI (V 75 3) ≤ zi) ∧ (zw = nI 2 → nI 5 ≤ zi))) : jK g Y_D_asked (0, 0) [.ref (jb g + 0), .int (zw), .int (zi)] V L (jA0 (some (.int (-1))) V L) := by
  refine jK_entry (by decide +kernel) rfl (Nat.le_of_ble_eq_true rfl) ?_
  show jJ (g, Y_D_asked, (0, 0), 0, 0, jVQ g (jA0 (some (.int (-1))) V L)) [(0, .ref (jb g + 0)), (1, .int (zw)), (2, .int (zi))] (jv (g, Y_D_asked, (0, 0), 0, 0, jVQ g (jA0 (some (.int (-1))) V L)) V L 0 0) 0 []
  refine j_aload_n d_D_asked_0 rfl 0 rfl ?_
  refine v_getR d_D_asked_1 lf_D_30 rfl (Nat.le_of_ble_eq_true rfl) rfl ?_
  refine v_getI d_D_asked_4 lf_D_172 rfl (Nat.le_of_ble_eq_true rfl) rfl ?_
  refine n_if_eq d_D_asked_7 14 rfl (Nat.lt_of_le_of_lt (hI.ps) (by decide)) (fun h1 => ?_) (fun h1 => ?_)
  · refine j_iconst d_D_asked_14 (v := -1) rfl ?_
    exact v_iret d_D_asked_15 rfl (Nat.zero_le _) (Nat.zero_le _) rfl jA0_rfl
  · refine j_iload_n d_D_asked_10 rfl 2 rfl ?_
    refine j_if_ge d_D_asked_11 16 rfl (fun h2 => ?_) (fun h2 => ?_)
    · have h2 : ¬ zi < 0 := Int32.not_lt.mpr h2
      obtain ⟨ha, hb, hc⟩ := (h.resolve_left h1).resolve_left h2
      refine j_iload_n d_D_asked_16 rfl 1 rfl ?_
      refine j_if_ne d_D_asked_17 41 rfl (fun q1 => ?_) (fun q1 => ?_)
      · refine j_iload_n d_D_asked_41 rfl 1 rfl ?_
        refine n_iconst d_D_asked_42 1 (by decide) ?_
        refine j_icmp_ne d_D_asked_43 67 rfl (fun q3 => ?_) (fun q3 => ?_)
        · refine j_iload_n d_D_asked_67 rfl 1 rfl ?_
          refine n_iconst d_D_asked_68 2 (by decide) ?_
          refine j_icmp_ne d_D_asked_69 87 rfl (fun q5 => ?_) (fun q5 => ?_)
          · refine j_iconst d_D_asked_87 (v := -1) rfl ?_
            exact v_iret d_D_asked_88 rfl (Nat.zero_le _) (Nat.zero_le _) rfl jA0_rfl
          · refine j_iload_n d_D_asked_72 rfl 2 rfl ?_
            refine n_iconst d_D_asked_73 5 (by decide) ?_
            refine j_icmp_ge d_D_asked_74 87 rfl (fun q6 => ?_) (fun q6 => ?_)
            · refine j_iconst d_D_asked_87 (v := -1) rfl ?_
              exact v_iret d_D_asked_88 rfl (Nat.zero_le _) (Nat.zero_le _) rfl jA0_rfl
            · exact absurd (hc q5) q6
        · refine j_iload_n d_D_asked_46 rfl 2 rfl ?_
          refine j_aload_n d_D_asked_47 rfl 0 rfl ?_
          refine v_getR d_D_asked_48 lf_D_30 rfl (Nat.le_of_ble_eq_true rfl) rfl ?_
          refine v_getI d_D_asked_51 lf_D_175 rfl (Nat.le_of_ble_eq_true rfl) rfl ?_
          refine j_icmp_ge d_D_asked_54 67 rfl (fun q4 => ?_) (fun q4 => ?_)
          · refine j_iload_n d_D_asked_67 rfl 1 rfl ?_
            refine n_iconst d_D_asked_68 2 (by decide) ?_
            refine j_icmp_ne d_D_asked_69 87 rfl (fun q5 => ?_) (fun q5 => ?_)
            · refine j_iconst d_D_asked_87 (v := -1) rfl ?_
              exact v_iret d_D_asked_88 rfl (Nat.zero_le _) (Nat.zero_le _) rfl jA0_rfl
            · refine j_iload_n d_D_asked_72 rfl 2 rfl ?_
              refine n_iconst d_D_asked_73 5 (by decide) ?_
              refine j_icmp_ge d_D_asked_74 87 rfl (fun q6 => ?_) (fun q6 => ?_)
              · refine j_iconst d_D_asked_87 (v := -1) rfl ?_
                exact v_iret d_D_asked_88 rfl (Nat.zero_le _) (Nat.zero_le _) rfl jA0_rfl
              · exact absurd (hc q5) q6
          · exact absurd (hb q3) q4
      · refine j_iload_n d_D_asked_20 rfl 2 rfl ?_
        refine j_aload_n d_D_asked_21 rfl 0 rfl ?_
        refine v_getR d_D_asked_22 lf_D_30 rfl (Nat.le_of_ble_eq_true rfl) rfl ?_
        refine v_getI d_D_asked_25 lf_D_175 rfl (Nat.le_of_ble_eq_true rfl) rfl ?_
        refine j_icmp_ge d_D_asked_28 41 rfl (fun q2 => ?_) (fun q2 => ?_)
        · refine j_iload_n d_D_asked_41 rfl 1 rfl ?_
          refine n_iconst d_D_asked_42 1 (by decide) ?_
          refine j_icmp_ne d_D_asked_43 67 rfl (fun q3 => ?_) (fun q3 => ?_)
          · refine j_iload_n d_D_asked_67 rfl 1 rfl ?_
            refine n_iconst d_D_asked_68 2 (by decide) ?_
            refine j_icmp_ne d_D_asked_69 87 rfl (fun q5 => ?_) (fun q5 => ?_)
            · refine j_iconst d_D_asked_87 (v := -1) rfl ?_
              exact v_iret d_D_asked_88 rfl (Nat.zero_le _) (Nat.zero_le _) rfl jA0_rfl
            · refine j_iload_n d_D_asked_72 rfl 2 rfl ?_
              refine n_iconst d_D_asked_73 5 (by decide) ?_
              refine j_icmp_ge d_D_asked_74 87 rfl (fun q6 => ?_) (fun q6 => ?_)
              · refine j_iconst d_D_asked_87 (v := -1) rfl ?_
                exact v_iret d_D_asked_88 rfl (Nat.zero_le _) (Nat.zero_le _) rfl jA0_rfl
              · exact absurd (hc q5) q6
          · refine j_iload_n d_D_asked_46 rfl 2 rfl ?_
            refine j_aload_n d_D_asked_47 rfl 0 rfl ?_
            refine v_getR d_D_asked_48 lf_D_30 rfl (Nat.le_of_ble_eq_true rfl) rfl ?_
            refine v_getI d_D_asked_51 lf_D_175 rfl (Nat.le_of_ble_eq_true rfl) rfl ?_
            refine j_icmp_ge d_D_asked_54 67 rfl (fun q4 => ?_) (fun q4 => ?_)
            · refine j_iload_n d_D_asked_67 rfl 1 rfl ?_
              refine n_iconst d_D_asked_68 2 (by decide) ?_
              refine j_icmp_ne d_D_asked_69 87 rfl (fun q5 => ?_) (fun q5 => ?_)
              · refine j_iconst d_D_asked_87 (v := -1) rfl ?_
                exact v_iret d_D_asked_88 rfl (Nat.zero_le _) (Nat.zero_le _) rfl jA0_rfl
              · refine j_iload_n d_D_asked_72 rfl 2 rfl ?_
                refine n_iconst d_D_asked_73 5 (by decide) ?_
                refine j_icmp_ge d_D_asked_74 87 rfl (fun q6 => ?_) (fun q6 => ?_)
                · refine j_iconst d_D_asked_87 (v := -1) rfl ?_
                  exact v_iret d_D_asked_88 rfl (Nat.zero_le _) (Nat.zero_le _) rfl jA0_rfl
                · exact absurd (hc q5) q6
            · exact absurd (hb q3) q4
        · exact absurd (ha q1) q2
    · refine j_iconst d_D_asked_14 (v := -1) rfl ?_
      exact v_iret d_D_asked_15 rfl (Nat.zero_le _) (Nat.zero_le _) rfl jA0_rfl
theorem c_D_tamper (g : jG) (V : Nat → Nat → Nat) (L : Nat → Nat → Int64) (hI : jI V) (hp : V 75 0 = 1) (i : Nat) (hi : i < 5) (d : Nat) (hd : d < 2147483647) : jK g Y_D_tamper (1, 21) [.ref (jb g + 0), .int (nI i), .int (nI d)] V L (jA0 (some (.int (nI 1))) (vu V 78 i (fpl (V 78 i) d)) L) := by
  refine jK_entry (by decide +kernel) rfl (Nat.le_of_ble_eq_true rfl) ?_
  show jJ (g, Y_D_tamper, (1, 21), 0, 0, jVQ g (jA0 (some (.int (nI 1))) (vu V 78 i (fpl (V 78 i) d)) L)) [(0, .ref (jb g + 0)), (1, .int (nI i)), (2, .int (nI d))] (jv (g, Y_D_tamper, (1, 21), 0, 0, jVQ g (jA0 (some (.int (nI 1))) (vu V 78 i (fpl (V 78 i) d)) L)) V L 0 0) 0 []
  refine j_aload_n d_D_tamper_0 rfl 0 rfl ?_
  refine v_getR d_D_tamper_1 lf_D_30 rfl (Nat.le_of_ble_eq_true rfl) rfl ?_
  refine v_getI d_D_tamper_4 lf_D_172 rfl (Nat.le_of_ble_eq_true rfl) rfl ?_
  rw [hp]
  refine n_if_eq d_D_tamper_7 24 rfl (by omega) (fun h => absurd h (by omega)) (fun h => ?_)
  refine j_iload_n d_D_tamper_10 rfl 1 rfl ?_
  refine v_callS d_D_tamper_11 mt_D_isRowNumber ln_D_134 sm_D_isRowNumber ⟨Nat.le_of_ble_eq_true rfl, Nat.le_of_ble_eq_true rfl⟩ (Nat.le_of_ble_eq_true rfl) rfl (Nat.zero_le _) (Nat.zero_le _) (c_D_isRowNumber g V L (nI i)) rfl ?_
  rintro _ _ _ ⟨rfl, rfl, rfl⟩
  rw [isn_nI (by omega) hi]
  refine n_if_eq d_D_tamper_14 24 rfl (by omega) (fun h => absurd h (by omega)) (fun h => ?_)
  refine j_iload_n d_D_tamper_17 rfl 2 rfl ?_
  refine v_callS d_D_tamper_18 mt_F_has ln_D_69 sm_F_has ⟨Nat.le_of_ble_eq_true rfl, Nat.le_of_ble_eq_true rfl⟩ (Nat.le_of_ble_eq_true rfl) rfl (Nat.zero_le _) (Nat.zero_le _) (c_F_hs g V L (nI d)) rfl ?_
  rintro _ _ _ ⟨rfl, rfl, rfl⟩
  rw [hsn_nI hd]
  refine n_if_ne d_D_tamper_21 26 rfl (by omega) (fun h => ?_) (fun h => absurd h (by omega))
  refine j_aload_n d_D_tamper_26 rfl 0 rfl ?_
  refine v_getR d_D_tamper_27 lf_D_30 rfl (Nat.le_of_ble_eq_true rfl) rfl ?_
  refine v_getR d_D_tamper_30 lf_D_181 rfl (Nat.le_of_ble_eq_true rfl) rfl ?_
  refine j_iload_n d_D_tamper_33 rfl 1 rfl ?_
  refine j_aload_n d_D_tamper_34 rfl 0 rfl ?_
  refine v_getR d_D_tamper_35 lf_D_30 rfl (Nat.le_of_ble_eq_true rfl) rfl ?_
  refine v_getR d_D_tamper_38 lf_D_181 rfl (Nat.le_of_ble_eq_true rfl) rfl ?_
  refine j_iload_n d_D_tamper_41 rfl 1 rfl ?_
  refine v_ild d_D_tamper_42 rfl rfl (Nat.le_of_ble_eq_true rfl) rfl (by omega) (by omega) ?_
  refine j_iload_n d_D_tamper_43 rfl 2 rfl ?_
  refine v_callS d_D_tamper_44 mt_F_plus ln_D_146 sm_F_plus ⟨Nat.le_of_ble_eq_true rfl, Nat.le_of_ble_eq_true rfl⟩ (Nat.le_of_ble_eq_true rfl) rfl (Nat.zero_le _) (Nat.zero_le _) (c_F_pl g V L _ d (Nat.lt_of_lt_of_le (hI.ca _ (by omega)) (by decide)) (by omega)) rfl ?_
  rintro _ _ _ ⟨rfl, rfl, rfl⟩
  refine v_ist d_D_tamper_47 rfl rfl (Nat.le_of_ble_eq_true rfl) rfl (by omega) (by omega) ?_
  refine n_iconst d_D_tamper_48 1 (by decide) ?_
  exact v_zret d_D_tamper_49 rfl (by omega) (Nat.zero_le _) (Nat.zero_le _) rfl jA0_rfl
theorem n_D_tamper (g : jG) (V : Nat → Nat → Nat) (L : Nat → Nat → Int64) (hI : jI V) (zi zd : Int32) (h : V 75 0 = 0 ∨ isn 5 zi = 0 ∨ hsn zd = 0) : jK g Y_D_tamper (1, 21) [.ref (jb g + 0), .int (zi), .int (zd)] V L (jA0 (some (.int (nI 0))) V L) := by
  refine jK_entry (by decide +kernel) rfl (Nat.le_of_ble_eq_true rfl) ?_
  show jJ (g, Y_D_tamper, (1, 21), 0, 0, jVQ g (jA0 (some (.int (nI 0))) V L)) [(0, .ref (jb g + 0)), (1, .int (zi)), (2, .int (zd))] (jv (g, Y_D_tamper, (1, 21), 0, 0, jVQ g (jA0 (some (.int (nI 0))) V L)) V L 0 0) 0 []
  refine j_aload_n d_D_tamper_0 rfl 0 rfl ?_
  refine v_getR d_D_tamper_1 lf_D_30 rfl (Nat.le_of_ble_eq_true rfl) rfl ?_
  refine v_getI d_D_tamper_4 lf_D_172 rfl (Nat.le_of_ble_eq_true rfl) rfl ?_
  refine n_if_eq d_D_tamper_7 24 rfl (Nat.lt_of_le_of_lt (hI.ps) (by decide)) (fun h1 => ?_) (fun h1 => ?_)
  · refine n_iconst d_D_tamper_24 0 (by decide) ?_
    exact v_zret d_D_tamper_25 rfl (by omega) (Nat.zero_le _) (Nat.zero_le _) rfl jA0_rfl
  · refine j_iload_n d_D_tamper_10 rfl 1 rfl ?_
    refine v_callS d_D_tamper_11 mt_D_isRowNumber ln_D_134 sm_D_isRowNumber ⟨Nat.le_of_ble_eq_true rfl, Nat.le_of_ble_eq_true rfl⟩ (Nat.le_of_ble_eq_true rfl) rfl (Nat.zero_le _) (Nat.zero_le _) (c_D_isRowNumber g V L zi) rfl ?_
    rintro _ _ _ ⟨rfl, rfl, rfl⟩
    refine n_if_eq d_D_tamper_14 24 rfl (Nat.lt_of_le_of_lt (isn_le _ _) (by decide)) (fun h2 => ?_) (fun h2 => ?_)
    · refine n_iconst d_D_tamper_24 0 (by decide) ?_
      exact v_zret d_D_tamper_25 rfl (by omega) (Nat.zero_le _) (Nat.zero_le _) rfl jA0_rfl
    · refine j_iload_n d_D_tamper_17 rfl 2 rfl ?_
      refine v_callS d_D_tamper_18 mt_F_has ln_D_69 sm_F_has ⟨Nat.le_of_ble_eq_true rfl, Nat.le_of_ble_eq_true rfl⟩ (Nat.le_of_ble_eq_true rfl) rfl (Nat.zero_le _) (Nat.zero_le _) (c_F_hs g V L zd) rfl ?_
      rintro _ _ _ ⟨rfl, rfl, rfl⟩
      refine n_if_ne d_D_tamper_21 26 rfl (Nat.lt_of_le_of_lt (hsn_le _) (by decide)) (fun h3 => ?_) (fun h3 => ?_)
      · omega
      · refine n_iconst d_D_tamper_24 0 (by decide) ?_
        exact v_zret d_D_tamper_25 rfl (by omega) (Nat.zero_le _) (Nat.zero_le _) rfl jA0_rfl
/-- what judging leaves: one answer more that held, or that failed -/
def jdg (V : Nat → Nat → Nat) : Nat → Nat → Nat := if hld V (V 75 1) (V 75 3) = 0 then vu V (19 + 14 * V 75 2) 2 (V (19 + 14 * V 75 2) 2 + 1) else vu V (19 + 14 * V 75 2) 1 (V (19 + 14 * V 75 2) 1 + 1)
theorem c_D_judge (g : jG) (V : Nat → Nat → Nat) (L : Nat → Nat → Int64) (hI : jI V) (hp : V 75 0 = 1) : jK g Y_D_judge (6, 86) [.ref (jb g + 0)] V L (jA0 (some (.int (nI (hld V (V 75 1) (V 75 3))))) (jdg V) L) := by
  refine jK_entry (by decide +kernel) rfl (Nat.le_of_ble_eq_true rfl) ?_
  show jJ (g, Y_D_judge, (6, 86), 0, 0, jVQ g (jA0 (some (.int (nI (hld V (V 75 1) (V 75 3))))) (jdg V) L)) [(0, .ref (jb g + 0))] (jv (g, Y_D_judge, (6, 86), 0, 0, jVQ g (jA0 (some (.int (nI (hld V (V 75 1) (V 75 3))))) (jdg V) L)) V L 0 0) 0 []
  have hf := hI.cf
  have hk := hI.ck
  unfold jdg
  have hl := hld_le V (V 75 1) (V 75 3)
  refine j_aload_n d_D_judge_0 rfl 0 rfl ?_
  refine v_getR d_D_judge_1 lf_D_30 rfl (Nat.le_of_ble_eq_true rfl) rfl ?_
  refine v_getI d_D_judge_4 lf_D_172 rfl (Nat.le_of_ble_eq_true rfl) rfl ?_
  rw [hp]
  refine n_if_ne d_D_judge_7 20 rfl (by omega) (fun h => ?_) (fun h => absurd h (by omega))
  refine j_aload_n d_D_judge_20 rfl 0 rfl ?_
  refine v_getR d_D_judge_21 lf_D_30 rfl (Nat.le_of_ble_eq_true rfl) rfl ?_
  refine j_aload_n d_D_judge_24 rfl 0 rfl ?_
  refine v_getR d_D_judge_25 lf_D_15 rfl (Nat.le_of_ble_eq_true rfl) rfl ?_
  refine j_aload_n d_D_judge_28 rfl 0 rfl ?_
  refine v_getR d_D_judge_29 lf_D_30 rfl (Nat.le_of_ble_eq_true rfl) rfl ?_
  refine v_getI d_D_judge_32 lf_D_186 rfl (Nat.le_of_ble_eq_true rfl) rfl ?_
  refine v_ald d_D_judge_35 rfl rfl (Nat.le_of_ble_eq_true rfl) rfl (dref (V 75 1) hf) (Nat.le_of_ble_eq_true rfl) ?_
  refine v_callV d_D_judge_36 mt_C_holds ln_D_189 im_C_holds se_C_holds rfl (Nat.le_of_ble_eq_true rfl) rfl rfl ⟨Nat.le_of_ble_eq_true rfl, Nat.le_of_ble_eq_true rfl⟩ (Nat.le_of_ble_eq_true rfl) rfl (Nat.zero_le _) (Nat.zero_le _) (c_C_holds g V L (V 75 1) hf (V 75 3) hI.cm rfl hI.cr hI.cc (hI.al hf) (hI.ms hf) hI.ca) rfl ?_
  rintro _ _ _ ⟨rfl, rfl, rfl⟩
  refine j_istore_n d_D_judge_39 (i := 1) rfl (Nat.le_of_ble_eq_true rfl) (lv' := [_, _]) rfl ?_
  refine j_iload_n d_D_judge_40 rfl 0 rfl ?_
  refine n_if_eq d_D_judge_41 68 rfl (by omega) (fun h1 => ?_) (fun h1 => ?_)
  · rw [if_pos h1]
    refine j_aload_n d_D_judge_68 rfl 1 rfl ?_
    refine v_getR d_D_judge_69 lf_D_22 rfl (Nat.le_of_ble_eq_true rfl) rfl ?_
    refine j_aload_n d_D_judge_72 rfl 1 rfl ?_
    refine v_getR d_D_judge_73 lf_D_30 rfl (Nat.le_of_ble_eq_true rfl) rfl ?_
    refine v_getI d_D_judge_76 lf_D_193 rfl (Nat.le_of_ble_eq_true rfl) rfl ?_
    refine v_ald d_D_judge_79 rfl rfl (Nat.le_of_ble_eq_true rfl) rfl (kref (V 75 2) hk) (Nat.le_of_ble_eq_true rfl) ?_
    refine j_dup d_D_judge_80 rfl ?_
    refine v_getI d_D_judge_81 lf_D_199 (jshp_K (V 75 2) hk).1 (by omega) rfl ?_
    refine n_iconst d_D_judge_84 1 (by decide) ?_
    refine n_add d_D_judge_85 ?_
    refine v_putI d_D_judge_86 lf_D_199 (jshp_K (V 75 2) hk).1 (by omega) rfl rfl rfl rfl ?_
    refine j_iload_n d_D_judge_89 rfl 0 rfl ?_
    exact v_zret d_D_judge_90 rfl (by omega) (Nat.zero_le _) (Nat.zero_le _) rfl jA0_rfl
  · rw [if_neg h1]
    refine j_aload_n d_D_judge_44 rfl 1 rfl ?_
    refine v_getR d_D_judge_45 lf_D_22 rfl (Nat.le_of_ble_eq_true rfl) rfl ?_
    refine j_aload_n d_D_judge_48 rfl 1 rfl ?_
    refine v_getR d_D_judge_49 lf_D_30 rfl (Nat.le_of_ble_eq_true rfl) rfl ?_
    refine v_getI d_D_judge_52 lf_D_193 rfl (Nat.le_of_ble_eq_true rfl) rfl ?_
    refine v_ald d_D_judge_55 rfl rfl (Nat.le_of_ble_eq_true rfl) rfl (kref (V 75 2) hk) (Nat.le_of_ble_eq_true rfl) ?_
    refine j_dup d_D_judge_56 rfl ?_
    refine v_getI d_D_judge_57 lf_D_196 (jshp_K (V 75 2) hk).1 (by omega) rfl ?_
    refine n_iconst d_D_judge_60 1 (by decide) ?_
    refine n_add d_D_judge_61 ?_
    refine v_putI d_D_judge_62 lf_D_196 (jshp_K (V 75 2) hk).1 (by omega) rfl rfl rfl rfl ?_
    refine j_goto d_D_judge_65 89 rfl ?_
    refine j_iload_n d_D_judge_89 rfl 0 rfl ?_
    exact v_zret d_D_judge_90 rfl (by omega) (Nat.zero_le _) (Nat.zero_le _) rfl jA0_rfl
theorem t0_D_judge (g : jG) (V : Nat → Nat → Nat) (L : Nat → Nat → Int64) (hp : V 75 0 = 0) : jT g Y_D_judge (6, 86) [.ref (jb g + 0)] V L 0 (jB0 V L) := by
  refine jT_entry (by decide +kernel) rfl (Nat.le_of_ble_eq_true rfl) ?_
  show jJ (g, Y_D_judge, (6, 86), 1, 6, jTQ g 0 (jB0 V L)) [(0, .ref (jb g + 0))] (jv (g, Y_D_judge, (6, 86), 1, 6, jTQ g 0 (jB0 V L)) V L 0 0) 0 []
  refine j_aload_n d_D_judge_0 rfl 0 rfl ?_
  refine v_getR d_D_judge_1 lf_D_30 rfl (Nat.le_of_ble_eq_true rfl) rfl ?_
  refine v_getI d_D_judge_4 lf_D_172 rfl (Nat.le_of_ble_eq_true rfl) rfl ?_
  rw [hp]
  refine n_if_ne d_D_judge_7 20 rfl (by omega) (fun h => absurd h (by omega)) (fun h => ?_)
  exact v_throw (kd := 0) (tx := "no challenge") d_D_judge_10 d_D_judge_13 d_D_judge_14 d_D_judge_16 d_D_judge_19 rfl rfl lc_D_55 it_ISE iz_ISE (by decide +kernel) (by decide +kernel) own0 ⟨Nat.le_of_ble_eq_true rfl, Nat.le_of_ble_eq_true rfl⟩ (Nat.le_of_ble_eq_true rfl) (Nat.le_of_ble_eq_true rfl) rfl ⟨rfl, rfl⟩
