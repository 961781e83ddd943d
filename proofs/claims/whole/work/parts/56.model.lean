/-! AuditDeskModel: change, asked, tamper, found, fetched, made, kept, rota, score, locate -/
theorem vu_vu (V : Nat → Nat → Nat) (q j a b : Nat) : vu (vu V q j a) q j b = vu V q j b := by
  funext x i
  unfold vu
  by_cases h : x = q ∧ i = j
  · rw [if_pos h, if_pos h]
  · rw [if_neg h, if_neg h, if_neg h]
theorem c_M_change (g : jG) (V : Nat → Nat → Nat) (L : Nat → Nat → Int64) (hN : jN V) (k f : Nat) (hk : k < 4) (hf0 : f < V 85 4) (i : Nat) (hi : i < mrs V f) (hh : V 89 (3 * k + f) = 1) (hl : V 91 (72 * k + 24 * f + i) = 0) (j : Nat) (hj : j < 5) (d : Nat) (hd : d < 2147483647)  : jK g Y_M_change (3, 66) [.ref (jb g + 85), .int (nI k), .int (nI f), .int (nI i), .int (nI j), .int (nI d)] V L (jA0 (some (.int (nI (fpl (V 90 (360 * k + 5 * (24 * f + i) + j)) d)))) (vu (vu V 85 0 0) 90 (360 * k + 5 * (24 * f + i) + j) (fpl (V 90 (360 * k + 5 * (24 * f + i) + j)) d)) L) := by
  refine jK_entry (by decide +kernel) rfl (Nat.le_of_ble_eq_true rfl) ?_
  show jJ (g, Y_M_change, (3, 66), 0, 0, jVQ g (jA0 (some (.int (nI (fpl (V 90 (360 * k + 5 * (24 * f + i) + j)) d)))) (vu (vu V 85 0 0) 90 (360 * k + 5 * (24 * f + i) + j) (fpl (V 90 (360 * k + 5 * (24 * f + i) + j)) d)) L)) [(0, .ref (jb g + 85)), (1, .int (nI k)), (2, .int (nI f)), (3, .int (nI i)), (4, .int (nI j)), (5, .int (nI d))] (jv (g, Y_M_change, (3, 66), 0, 0, jVQ g (jA0 (some (.int (nI (fpl (V 90 (360 * k + 5 * (24 * f + i) + j)) d)))) (vu (vu V 85 0 0) 90 (360 * k + 5 * (24 * f + i) + j) (fpl (V 90 (360 * k + 5 * (24 * f + i) + j)) d)) L)) V L 0 0) 0 []
  have h3 := hN.F
  have hw := hN.w (show f < 3 by omega)
  have hm : mrs V f ≤ 24 := by unfold mrs; omega
  have h24 : i < 24 := by unfold mrs at hi; omega
  have hv := hN.kp (360 * k + 5 * (24 * f + i) + j) (by omega)
  refine j_aload_n d_M_change_0 rfl 0 rfl ?_
  refine j_aload_n d_M_change_1 rfl 0 rfl ?_
  refine j_iload_n d_M_change_2 rfl 1 rfl ?_
  refine j_iload_n d_M_change_3 rfl 2 rfl ?_
  refine j_iload_n d_M_change_4 rfl 3 rfl ?_
  refine v_callV d_M_change_5 mt_M_isRow ln_M_136 im_M_isRow se_M_isRow rfl (Nat.le_of_ble_eq_true rfl) rfl rfl ⟨Nat.le_of_ble_eq_true rfl, Nat.le_of_ble_eq_true rfl⟩ (Nat.le_of_ble_eq_true rfl) rfl (Nat.zero_le _) (Nat.zero_le _) (c_M_isRow g V L hN (nI k) (nI f) (nI i)) rfl ?_
  rintro _ _ _ ⟨rfl, rfl, rfl⟩
  rw [mrw_nI hN hk hf0 hh hi]
  refine n_if_eq d_M_change_8 34 rfl (by omega) (fun h => absurd h (by omega)) (fun h => ?_)
  refine j_iload d_M_change_11 4 rfl ?_
  refine n_iff_lt d_M_change_13 34 rfl rfl (by omega) ?_
  refine j_iload d_M_change_16 4 rfl ?_
  refine n_iconst d_M_change_18 5 (by decide) ?_
  refine n_icmp_ge d_M_change_19 34 rfl (by omega) (by omega) (fun h => absurd h (by omega)) (fun h => ?_)
  refine j_iload d_M_change_22 5 rfl ?_
  refine v_callS d_M_change_24 mt_M_isNumber ln_M_91 sm_M_isNumber ⟨Nat.le_of_ble_eq_true rfl, Nat.le_of_ble_eq_true rfl⟩ (Nat.le_of_ble_eq_true rfl) rfl (Nat.zero_le _) (Nat.zero_le _) (c_M_isNumber g V L (nI d)) rfl ?_
  rintro _ _ _ ⟨rfl, rfl, rfl⟩
  rw [hsn_nI hd]
  refine n_if_eq d_M_change_27 34 rfl (by omega) (fun h => absurd h (by omega)) (fun h => ?_)
  refine n_iconst d_M_change_30 0 (by decide) ?_
  refine j_goto d_M_change_31 35 rfl ?_
  refine v_putI d_M_change_35 lf_M_63 rfl (Nat.le_of_ble_eq_true rfl) rfl rfl rfl rfl ?_
  refine j_aload_n d_M_change_38 rfl 0 rfl ?_
  refine v_getI d_M_change_39 lf_M_63 rfl (Nat.le_of_ble_eq_true rfl) rfl ?_
  rw [vu_eq]
  refine n_ift_le d_M_change_42 47 rfl rfl (by decide) ?_
  refine j_aload_n d_M_change_47 rfl 0 rfl ?_
  refine j_aload_n d_M_change_48 rfl 0 rfl ?_
  refine v_getR d_M_change_49 lf_M_26 rfl (Nat.le_of_ble_eq_true rfl) rfl ?_
  refine j_iload_n d_M_change_52 rfl 1 rfl ?_
  refine j_iload_n d_M_change_53 rfl 2 rfl ?_
  refine j_iload_n d_M_change_54 rfl 3 rfl ?_
  refine v_callS d_M_change_55 mt_M_mark ln_M_129 sm_M_mark ⟨Nat.le_of_ble_eq_true rfl, Nat.le_of_ble_eq_true rfl⟩ (Nat.le_of_ble_eq_true rfl) rfl (Nat.zero_le _) (Nat.zero_le _) (c_M_mark g (vu V 85 0 0) L k f i) rfl ?_
  rintro _ _ _ ⟨rfl, rfl, rfl⟩
  refine v_zld d_M_change_58 rfl rfl (Nat.le_of_ble_eq_true rfl) rfl (by omega) (by omega) ?_
  rw [show vu V 85 0 0 91 (72 * k + 24 * f + i) = 0 from hl]
  refine n_if_eq d_M_change_59 66 rfl (by omega) (fun h => ?_) (fun h => absurd h (by omega))
  refine n_iconst d_M_change_66 0 (by decide) ?_
  refine v_putI d_M_change_67 lf_M_63 rfl (Nat.le_of_ble_eq_true rfl) rfl rfl rfl rfl ?_
  refine j_aload_n d_M_change_70 rfl 0 rfl ?_
  refine v_getI d_M_change_71 lf_M_63 rfl (Nat.le_of_ble_eq_true rfl) rfl ?_
  rw [vu_eq]
  refine n_ift_le d_M_change_74 79 rfl rfl (by decide) ?_
  rw [vu_vu]
  refine j_iload_n d_M_change_79 rfl 1 rfl ?_
  refine j_iload_n d_M_change_80 rfl 2 rfl ?_
  refine j_iload_n d_M_change_81 rfl 3 rfl ?_
  refine v_callS d_M_change_82 mt_M_spot ln_M_125 sm_M_spot ⟨Nat.le_of_ble_eq_true rfl, Nat.le_of_ble_eq_true rfl⟩ (Nat.le_of_ble_eq_true rfl) rfl (Nat.zero_le _) (Nat.zero_le _) (c_M_spot g (vu V 85 0 0) L k f i) rfl ?_
  rintro _ _ _ ⟨rfl, rfl, rfl⟩
  refine j_iload d_M_change_85 4 rfl ?_
  refine n_add d_M_change_87 ?_
  refine j_istore d_M_change_88 (i := 6) (Nat.le_of_ble_eq_true rfl) (lv' := [_, _, _, _, _, _, _]) rfl ?_
  refine j_aload_n d_M_change_90 rfl 1 rfl ?_
  refine v_getR d_M_change_91 lf_M_23 rfl (Nat.le_of_ble_eq_true rfl) rfl ?_
  refine j_iload d_M_change_94 0 rfl ?_
  refine j_aload_n d_M_change_96 rfl 1 rfl ?_
  refine v_getR d_M_change_97 lf_M_23 rfl (Nat.le_of_ble_eq_true rfl) rfl ?_
  refine j_iload d_M_change_100 0 rfl ?_
  refine v_ild d_M_change_102 rfl rfl (Nat.le_of_ble_eq_true rfl) rfl (by omega) (by omega) ?_
  rw [show vu V 85 0 0 90 (360 * k + 5 * (24 * f + i) + j) = V 90 (360 * k + 5 * (24 * f + i) + j) from rfl]
  refine n_i2l d_M_change_103 (by omega) ?_
  refine j_iload d_M_change_104 6 rfl ?_
  refine n_i2l d_M_change_106 (by omega) ?_
  refine n_ladd d_M_change_107 ?_
  refine j_ldc2 d_M_change_108 ct_M_67 ?_
  rw [show (2147483647 : Int64) = lN 2147483647 from by decide]
  refine n_lrem d_M_change_111 (by omega) (by omega) (by omega) ?_
  refine n_l2i d_M_change_112 ?_
  refine v_ist d_M_change_113 rfl rfl (Nat.le_of_ble_eq_true rfl) rfl (by omega) (by omega) ?_
  refine j_aload_n d_M_change_114 rfl 1 rfl ?_
  refine v_getR d_M_change_115 lf_M_23 rfl (Nat.le_of_ble_eq_true rfl) rfl ?_
  refine j_iload d_M_change_118 0 rfl ?_
  refine v_ild d_M_change_120 rfl rfl (Nat.le_of_ble_eq_true rfl) rfl (by omega) (by omega) ?_
  rw [vu_eq]
  exact v_iret d_M_change_121 rfl (Nat.zero_le _) (Nat.zero_le _) rfl jA0_rfl
theorem n2_M_change (g : jG) (V : Nat → Nat → Nat) (L : Nat → Nat → Int64) (hN : jN V) (k f : Nat) (hk : k < 4) (hf0 : f < V 85 4) (i : Nat) (hi : i < mrs V f) (hh : V 89 (3 * k + f) = 1) (hl : V 91 (72 * k + 24 * f + i) = 1) (j : Nat) (hj : j < 5) (d : Nat) (hd : d < 2147483647)  : jK g Y_M_change (3, 66) [.ref (jb g + 85), .int (nI k), .int (nI f), .int (nI i), .int (nI j), .int (nI d)] V L (jA0 (some (.int (nI 0))) (vu V 85 0 2) L) := by
  refine jK_entry (by decide +kernel) rfl (Nat.le_of_ble_eq_true rfl) ?_
  show jJ (g, Y_M_change, (3, 66), 0, 0, jVQ g (jA0 (some (.int (nI 0))) (vu V 85 0 2) L)) [(0, .ref (jb g + 85)), (1, .int (nI k)), (2, .int (nI f)), (3, .int (nI i)), (4, .int (nI j)), (5, .int (nI d))] (jv (g, Y_M_change, (3, 66), 0, 0, jVQ g (jA0 (some (.int (nI 0))) (vu V 85 0 2) L)) V L 0 0) 0 []
  have h3 := hN.F
  have hw := hN.w (show f < 3 by omega)
  have hm : mrs V f ≤ 24 := by unfold mrs; omega
  have h24 : i < 24 := by unfold mrs at hi; omega
  refine j_aload_n d_M_change_0 rfl 0 rfl ?_
  refine j_aload_n d_M_change_1 rfl 0 rfl ?_
  refine j_iload_n d_M_change_2 rfl 1 rfl ?_
  refine j_iload_n d_M_change_3 rfl 2 rfl ?_
  refine j_iload_n d_M_change_4 rfl 3 rfl ?_
  refine v_callV d_M_change_5 mt_M_isRow ln_M_136 im_M_isRow se_M_isRow rfl (Nat.le_of_ble_eq_true rfl) rfl rfl ⟨Nat.le_of_ble_eq_true rfl, Nat.le_of_ble_eq_true rfl⟩ (Nat.le_of_ble_eq_true rfl) rfl (Nat.zero_le _) (Nat.zero_le _) (c_M_isRow g V L hN (nI k) (nI f) (nI i)) rfl ?_
  rintro _ _ _ ⟨rfl, rfl, rfl⟩
  rw [mrw_nI hN hk hf0 hh hi]
  refine n_if_eq d_M_change_8 34 rfl (by omega) (fun h => absurd h (by omega)) (fun h => ?_)
  refine j_iload d_M_change_11 4 rfl ?_
  refine n_iff_lt d_M_change_13 34 rfl rfl (by omega) ?_
  refine j_iload d_M_change_16 4 rfl ?_
  refine n_iconst d_M_change_18 5 (by decide) ?_
  refine n_icmp_ge d_M_change_19 34 rfl (by omega) (by omega) (fun h => absurd h (by omega)) (fun h => ?_)
  refine j_iload d_M_change_22 5 rfl ?_
  refine v_callS d_M_change_24 mt_M_isNumber ln_M_91 sm_M_isNumber ⟨Nat.le_of_ble_eq_true rfl, Nat.le_of_ble_eq_true rfl⟩ (Nat.le_of_ble_eq_true rfl) rfl (Nat.zero_le _) (Nat.zero_le _) (c_M_isNumber g V L (nI d)) rfl ?_
  rintro _ _ _ ⟨rfl, rfl, rfl⟩
  rw [hsn_nI hd]
  refine n_if_eq d_M_change_27 34 rfl (by omega) (fun h => absurd h (by omega)) (fun h => ?_)
  refine n_iconst d_M_change_30 0 (by decide) ?_
  refine j_goto d_M_change_31 35 rfl ?_
  refine v_putI d_M_change_35 lf_M_63 rfl (Nat.le_of_ble_eq_true rfl) rfl rfl rfl rfl ?_
  refine j_aload_n d_M_change_38 rfl 0 rfl ?_
  refine v_getI d_M_change_39 lf_M_63 rfl (Nat.le_of_ble_eq_true rfl) rfl ?_
  rw [vu_eq]
  refine n_ift_le d_M_change_42 47 rfl rfl (by decide) ?_
  refine j_aload_n d_M_change_47 rfl 0 rfl ?_
  refine j_aload_n d_M_change_48 rfl 0 rfl ?_
  refine v_getR d_M_change_49 lf_M_26 rfl (Nat.le_of_ble_eq_true rfl) rfl ?_
  refine j_iload_n d_M_change_52 rfl 1 rfl ?_
  refine j_iload_n d_M_change_53 rfl 2 rfl ?_
  refine j_iload_n d_M_change_54 rfl 3 rfl ?_
  refine v_callS d_M_change_55 mt_M_mark ln_M_129 sm_M_mark ⟨Nat.le_of_ble_eq_true rfl, Nat.le_of_ble_eq_true rfl⟩ (Nat.le_of_ble_eq_true rfl) rfl (Nat.zero_le _) (Nat.zero_le _) (c_M_mark g (vu V 85 0 0) L k f i) rfl ?_
  rintro _ _ _ ⟨rfl, rfl, rfl⟩
  refine v_zld d_M_change_58 rfl rfl (Nat.le_of_ble_eq_true rfl) rfl (by omega) (by omega) ?_
  rw [show vu V 85 0 0 91 (72 * k + 24 * f + i) = 1 from hl]
  refine n_if_eq d_M_change_59 66 rfl (by omega) (fun h => absurd h (by omega)) (fun h => ?_)
  refine n_iconst d_M_change_62 2 (by decide) ?_
  refine j_goto d_M_change_63 67 rfl ?_
  refine v_putI d_M_change_67 lf_M_63 rfl (Nat.le_of_ble_eq_true rfl) rfl rfl rfl rfl ?_
  refine j_aload_n d_M_change_70 rfl 0 rfl ?_
  refine v_getI d_M_change_71 lf_M_63 rfl (Nat.le_of_ble_eq_true rfl) rfl ?_
  rw [vu_eq]
  refine n_iff_le d_M_change_74 79 rfl (by decide) (by decide) ?_
  rw [vu_vu]
  refine n_iconst d_M_change_77 0 (by decide) ?_
  exact v_iret d_M_change_78 rfl (Nat.zero_le _) (Nat.zero_le _) rfl jA0_rfl
theorem n1_M_change (g : jG) (V : Nat → Nat → Nat) (L : Nat → Nat → Int64) (hN : jN V) (zk zf zi zj zd : Int32) (h : mrw V zk zf zi = 0 ∨ isn 5 zj = 0 ∨ hsn zd = 0) : jK g Y_M_change (3, 66) [.ref (jb g + 85), .int (zk), .int (zf), .int (zi), .int (zj), .int (zd)] V L (jA0 (some (.int (nI 0))) (vu V 85 0 1) L) := by
  refine jK_entry (by decide +kernel) rfl (Nat.le_of_ble_eq_true rfl) ?_
  show jJ (g, Y_M_change, (3, 66), 0, 0, jVQ g (jA0 (some (.int (nI 0))) (vu V 85 0 1) L)) [(0, .ref (jb g + 85)), (1, .int (zk)), (2, .int (zf)), (3, .int (zi)), (4, .int (zj)), (5, .int (zd))] (jv (g, Y_M_change, (3, 66), 0, 0, jVQ g (jA0 (some (.int (nI 0))) (vu V 85 0 1) L)) V L 0 0) 0 []
  refine j_aload_n d_M_change_0 rfl 0 rfl ?_
  refine j_aload_n d_M_change_1 rfl 0 rfl ?_
  refine j_iload_n d_M_change_2 rfl 1 rfl ?_
  refine j_iload_n d_M_change_3 rfl 2 rfl ?_
  refine j_iload_n d_M_change_4 rfl 3 rfl ?_
  refine v_callV d_M_change_5 mt_M_isRow ln_M_136 im_M_isRow se_M_isRow rfl (Nat.le_of_ble_eq_true rfl) rfl rfl ⟨Nat.le_of_ble_eq_true rfl, Nat.le_of_ble_eq_true rfl⟩ (Nat.le_of_ble_eq_true rfl) rfl (Nat.zero_le _) (Nat.zero_le _) (c_M_isRow g V L hN zk zf zi) rfl ?_
  rintro _ _ _ ⟨rfl, rfl, rfl⟩
  refine n_if_eq d_M_change_8 34 rfl (Nat.lt_of_le_of_lt (mrw_le _ _ _) (by decide)) (fun h1 => ?_) (fun h1 => ?_)
  · refine n_iconst d_M_change_34 1 (by decide) ?_
    refine v_putI d_M_change_35 lf_M_63 rfl (Nat.le_of_ble_eq_true rfl) rfl rfl rfl rfl ?_
    refine j_aload_n d_M_change_38 rfl 0 rfl ?_
    refine v_getI d_M_change_39 lf_M_63 rfl (Nat.le_of_ble_eq_true rfl) rfl ?_
    rw [vu_eq]
    refine n_iff_le d_M_change_42 47 rfl (by decide) (by decide) ?_
    refine n_iconst d_M_change_45 0 (by decide) ?_
    exact v_iret d_M_change_46 rfl (Nat.zero_le _) (Nat.zero_le _) rfl jA0_rfl
  · refine j_iload d_M_change_11 4 rfl ?_
    refine j_if_lt d_M_change_13 34 rfl (fun h2 => ?_) (fun h2 => ?_)
    · refine n_iconst d_M_change_34 1 (by decide) ?_
      refine v_putI d_M_change_35 lf_M_63 rfl (Nat.le_of_ble_eq_true rfl) rfl rfl rfl rfl ?_
      refine j_aload_n d_M_change_38 rfl 0 rfl ?_
      refine v_getI d_M_change_39 lf_M_63 rfl (Nat.le_of_ble_eq_true rfl) rfl ?_
      rw [vu_eq]
      refine n_iff_le d_M_change_42 47 rfl (by decide) (by decide) ?_
      refine n_iconst d_M_change_45 0 (by decide) ?_
      exact v_iret d_M_change_46 rfl (Nat.zero_le _) (Nat.zero_le _) rfl jA0_rfl
    · refine j_iload d_M_change_16 4 rfl ?_
      refine n_iconst d_M_change_18 5 (by decide) ?_
      refine j_icmp_ge d_M_change_19 34 rfl (fun h3 => ?_) (fun h3 => ?_)
      · refine n_iconst d_M_change_34 1 (by decide) ?_
        refine v_putI d_M_change_35 lf_M_63 rfl (Nat.le_of_ble_eq_true rfl) rfl rfl rfl rfl ?_
        refine j_aload_n d_M_change_38 rfl 0 rfl ?_
        refine v_getI d_M_change_39 lf_M_63 rfl (Nat.le_of_ble_eq_true rfl) rfl ?_
        rw [vu_eq]
        refine n_iff_le d_M_change_42 47 rfl (by decide) (by decide) ?_
        refine n_iconst d_M_change_45 0 (by decide) ?_
        exact v_iret d_M_change_46 rfl (Nat.zero_le _) (Nat.zero_le _) rfl jA0_rfl
      · have h4 : isn 5 zj = 1 := if_pos ⟨h2, h3⟩
        refine j_iload d_M_change_22 5 rfl ?_
        refine v_callS d_M_change_24 mt_M_isNumber ln_M_91 sm_M_isNumber ⟨Nat.le_of_ble_eq_true rfl, Nat.le_of_ble_eq_true rfl⟩ (Nat.le_of_ble_eq_true rfl) rfl (Nat.zero_le _) (Nat.zero_le _) (c_M_isNumber g V L zd) rfl ?_
        rintro _ _ _ ⟨rfl, rfl, rfl⟩
        refine n_if_eq d_M_change_27 34 rfl (Nat.lt_of_le_of_lt (hsn_le _) (by decide)) (fun h5 => ?_) (fun h5 => ?_)
        · refine n_iconst d_M_change_34 1 (by decide) ?_
          refine v_putI d_M_change_35 lf_M_63 rfl (Nat.le_of_ble_eq_true rfl) rfl rfl rfl rfl ?_
          refine j_aload_n d_M_change_38 rfl 0 rfl ?_
          refine v_getI d_M_change_39 lf_M_63 rfl (Nat.le_of_ble_eq_true rfl) rfl ?_
          rw [vu_eq]
          refine n_iff_le d_M_change_42 47 rfl (by decide) (by decide) ?_
          refine n_iconst d_M_change_45 0 (by decide) ?_
          exact v_iret d_M_change_46 rfl (Nat.zero_le _) (Nat.zero_le _) rfl jA0_rfl
        · omega
theorem c0_M_asked (g : jG) (V : Nat → Nat → Nat) (L : Nat → Nat → Int64) (hN : jN V) (i : Nat) (hi : i < V 85 13) : jK g Y_M_asked (0, 0) [.ref (jb g + 85), .int (nI 0), .int (nI i)] V L (jA0 (some (.int (nI (V 95 i)))) (vu V 85 0 0) L) := by
  refine jK_entry (by decide +kernel) rfl (Nat.le_of_ble_eq_true rfl) ?_
  show jJ (g, Y_M_asked, (0, 0), 0, 0, jVQ g (jA0 (some (.int (nI (V 95 i)))) (vu V 85 0 0) L)) [(0, .ref (jb g + 85)), (1, .int (nI 0)), (2, .int (nI i))] (jv (g, Y_M_asked, (0, 0), 0, 0, jVQ g (jA0 (some (.int (nI (V 95 i)))) (vu V 85 0 0) L)) V L 0 0) 0 []
  have := hN.ak
  refine j_aload_n d_M_asked_0 rfl 0 rfl ?_
  refine n_iconst d_M_asked_1 0 (by decide) ?_
  refine v_putI d_M_asked_2 lf_M_63 rfl (Nat.le_of_ble_eq_true rfl) rfl rfl rfl rfl ?_
  refine j_aload_n d_M_asked_5 rfl 0 rfl ?_
  refine v_getI d_M_asked_6 lf_M_140 rfl (Nat.le_of_ble_eq_true rfl) rfl ?_
  rw [show vu V 85 0 0 85 13 = V 85 13 from rfl]
  refine n_if_eq d_M_asked_9 42 rfl (Nat.lt_of_le_of_lt hN.ak (by decide)) (fun h => absurd h (by omega)) (fun h => ?_)
  refine j_iload_n d_M_asked_12 rfl 1 rfl ?_
  refine n_iff_lt d_M_asked_13 42 rfl rfl (by omega) ?_
  refine j_iload_n d_M_asked_16 rfl 1 rfl ?_
  refine n_iconst d_M_asked_17 2 (by decide) ?_
  refine n_icmp_gt d_M_asked_18 42 rfl (by omega) (by omega) (fun h => absurd h (by omega)) (fun h => ?_)
  refine j_iload_n d_M_asked_21 rfl 2 rfl ?_
  refine n_iff_lt d_M_asked_22 42 rfl rfl (by omega) ?_
  refine j_iload_n d_M_asked_25 rfl 2 rfl ?_
  refine j_iload_n d_M_asked_26 rfl 1 rfl ?_
  refine n_iconst d_M_asked_27 2 (by decide) ?_
  refine n_icmp_ge d_M_asked_28 38 rfl (by omega) (by omega) (fun h => absurd h (by omega)) (fun h => ?_)
  refine j_aload_n d_M_asked_31 rfl 0 rfl ?_
  refine v_getI d_M_asked_32 lf_M_140 rfl (Nat.le_of_ble_eq_true rfl) rfl ?_
  refine j_goto d_M_asked_35 39 rfl ?_
  rw [show vu V 85 0 0 85 13 = V 85 13 from rfl]
  refine n_icmp_lt d_M_asked_39 44 rfl (by omega) (by omega) (fun h => ?_) (fun h => absurd h (by omega))
  refine j_iload_n d_M_asked_44 rfl 1 rfl ?_
  refine n_if_ne d_M_asked_45 57 rfl (by omega) (fun h => absurd h (by omega)) (fun h => ?_)
  refine j_aload_n d_M_asked_48 rfl 0 rfl ?_
  refine v_getR d_M_asked_49 lf_M_38 rfl (Nat.le_of_ble_eq_true rfl) rfl ?_
  refine j_iload_n d_M_asked_52 rfl 2 rfl ?_
  refine v_ild d_M_asked_53 rfl rfl (Nat.le_of_ble_eq_true rfl) rfl (by omega) (by omega) ?_
  refine j_goto d_M_asked_54 77 rfl ?_
  exact v_iret d_M_asked_77 rfl (Nat.zero_le _) (Nat.zero_le _) rfl jA0_rfl
theorem c1_M_asked (g : jG) (V : Nat → Nat → Nat) (L : Nat → Nat → Int64) (hN : jN V) (i : Nat) (hi : i < V 85 13) : jK g Y_M_asked (0, 0) [.ref (jb g + 85), .int (nI 1), .int (nI i)] V L (jA0 (some (.int (nI (V 96 i)))) (vu V 85 0 0) L) := by
  refine jK_entry (by decide +kernel) rfl (Nat.le_of_ble_eq_true rfl) ?_
  show jJ (g, Y_M_asked, (0, 0), 0, 0, jVQ g (jA0 (some (.int (nI (V 96 i)))) (vu V 85 0 0) L)) [(0, .ref (jb g + 85)), (1, .int (nI 1)), (2, .int (nI i))] (jv (g, Y_M_asked, (0, 0), 0, 0, jVQ g (jA0 (some (.int (nI (V 96 i)))) (vu V 85 0 0) L)) V L 0 0) 0 []
  have := hN.ak
  refine j_aload_n d_M_asked_0 rfl 0 rfl ?_
  refine n_iconst d_M_asked_1 0 (by decide) ?_
  refine v_putI d_M_asked_2 lf_M_63 rfl (Nat.le_of_ble_eq_true rfl) rfl rfl rfl rfl ?_
  refine j_aload_n d_M_asked_5 rfl 0 rfl ?_
  refine v_getI d_M_asked_6 lf_M_140 rfl (Nat.le_of_ble_eq_true rfl) rfl ?_
  rw [show vu V 85 0 0 85 13 = V 85 13 from rfl]
  refine n_if_eq d_M_asked_9 42 rfl (Nat.lt_of_le_of_lt hN.ak (by decide)) (fun h => absurd h (by omega)) (fun h => ?_)
  refine j_iload_n d_M_asked_12 rfl 1 rfl ?_
  refine n_iff_lt d_M_asked_13 42 rfl rfl (by omega) ?_
  refine j_iload_n d_M_asked_16 rfl 1 rfl ?_
  refine n_iconst d_M_asked_17 2 (by decide) ?_
  refine n_icmp_gt d_M_asked_18 42 rfl (by omega) (by omega) (fun h => absurd h (by omega)) (fun h => ?_)
  refine j_iload_n d_M_asked_21 rfl 2 rfl ?_
  refine n_iff_lt d_M_asked_22 42 rfl rfl (by omega) ?_
  refine j_iload_n d_M_asked_25 rfl 2 rfl ?_
  refine j_iload_n d_M_asked_26 rfl 1 rfl ?_
  refine n_iconst d_M_asked_27 2 (by decide) ?_
  refine n_icmp_ge d_M_asked_28 38 rfl (by omega) (by omega) (fun h => absurd h (by omega)) (fun h => ?_)
  refine j_aload_n d_M_asked_31 rfl 0 rfl ?_
  refine v_getI d_M_asked_32 lf_M_140 rfl (Nat.le_of_ble_eq_true rfl) rfl ?_
  refine j_goto d_M_asked_35 39 rfl ?_
  rw [show vu V 85 0 0 85 13 = V 85 13 from rfl]
  refine n_icmp_lt d_M_asked_39 44 rfl (by omega) (by omega) (fun h => ?_) (fun h => absurd h (by omega))
  refine j_iload_n d_M_asked_44 rfl 1 rfl ?_
  refine n_if_ne d_M_asked_45 57 rfl (by omega) (fun h => ?_) (fun h => absurd h (by omega))
  refine j_iload_n d_M_asked_57 rfl 1 rfl ?_
  refine n_iconst d_M_asked_58 1 (by decide) ?_
  refine n_icmp_ne d_M_asked_59 71 rfl (by omega) (by omega) (fun h => absurd h (by omega)) (fun h => ?_)
  refine j_aload_n d_M_asked_62 rfl 0 rfl ?_
  refine v_getR d_M_asked_63 lf_M_41 rfl (Nat.le_of_ble_eq_true rfl) rfl ?_
  refine j_iload_n d_M_asked_66 rfl 2 rfl ?_
  refine v_ild d_M_asked_67 rfl rfl (Nat.le_of_ble_eq_true rfl) rfl (by omega) (by omega) ?_
  refine j_goto d_M_asked_68 77 rfl ?_
  exact v_iret d_M_asked_77 rfl (Nat.zero_le _) (Nat.zero_le _) rfl jA0_rfl
theorem c2_M_asked (g : jG) (V : Nat → Nat → Nat) (L : Nat → Nat → Int64) (hN : jN V) (hp : ¬ V 85 13 = 0) (i : Nat) (hi : i < 5) : jK g Y_M_asked (0, 0) [.ref (jb g + 85), .int (nI 2), .int (nI i)] V L (jA0 (some (.int (nI (V 97 i)))) (vu V 85 0 0) L) := by
  refine jK_entry (by decide +kernel) rfl (Nat.le_of_ble_eq_true rfl) ?_
  show jJ (g, Y_M_asked, (0, 0), 0, 0, jVQ g (jA0 (some (.int (nI (V 97 i)))) (vu V 85 0 0) L)) [(0, .ref (jb g + 85)), (1, .int (nI 2)), (2, .int (nI i))] (jv (g, Y_M_asked, (0, 0), 0, 0, jVQ g (jA0 (some (.int (nI (V 97 i)))) (vu V 85 0 0) L)) V L 0 0) 0 []
  have := hN.ak
  refine j_aload_n d_M_asked_0 rfl 0 rfl ?_
  refine n_iconst d_M_asked_1 0 (by decide) ?_
  refine v_putI d_M_asked_2 lf_M_63 rfl (Nat.le_of_ble_eq_true rfl) rfl rfl rfl rfl ?_
  refine j_aload_n d_M_asked_5 rfl 0 rfl ?_
  refine v_getI d_M_asked_6 lf_M_140 rfl (Nat.le_of_ble_eq_true rfl) rfl ?_
  rw [show vu V 85 0 0 85 13 = V 85 13 from rfl]
  refine n_if_eq d_M_asked_9 42 rfl (Nat.lt_of_le_of_lt hN.ak (by decide)) (fun h => absurd h (by omega)) (fun h => ?_)
  refine j_iload_n d_M_asked_12 rfl 1 rfl ?_
  refine n_iff_lt d_M_asked_13 42 rfl rfl (by omega) ?_
  refine j_iload_n d_M_asked_16 rfl 1 rfl ?_
  refine n_iconst d_M_asked_17 2 (by decide) ?_
  refine n_icmp_gt d_M_asked_18 42 rfl (by omega) (by omega) (fun h => absurd h (by omega)) (fun h => ?_)
  refine j_iload_n d_M_asked_21 rfl 2 rfl ?_
  refine n_iff_lt d_M_asked_22 42 rfl rfl (by omega) ?_
  refine j_iload_n d_M_asked_25 rfl 2 rfl ?_
  refine j_iload_n d_M_asked_26 rfl 1 rfl ?_
  refine n_iconst d_M_asked_27 2 (by decide) ?_
  refine n_icmp_ge d_M_asked_28 38 rfl (by omega) (by omega) (fun h => ?_) (fun h => absurd h (by omega))
  refine n_iconst d_M_asked_38 5 (by decide) ?_
  refine n_icmp_lt d_M_asked_39 44 rfl (by omega) (by omega) (fun h => ?_) (fun h => absurd h (by omega))
  refine j_iload_n d_M_asked_44 rfl 1 rfl ?_
  refine n_if_ne d_M_asked_45 57 rfl (by omega) (fun h => ?_) (fun h => absurd h (by omega))
  refine j_iload_n d_M_asked_57 rfl 1 rfl ?_
  refine n_iconst d_M_asked_58 1 (by decide) ?_
  refine n_icmp_ne d_M_asked_59 71 rfl (by omega) (by omega) (fun h => ?_) (fun h => absurd h (by omega))
  refine j_aload_n d_M_asked_71 rfl 0 rfl ?_
  refine v_getR d_M_asked_72 lf_M_44 rfl (Nat.le_of_ble_eq_true rfl) rfl ?_
  refine j_iload_n d_M_asked_75 rfl 2 rfl ?_
  refine v_ild d_M_asked_76 rfl rfl (Nat.le_of_ble_eq_true rfl) rfl (by omega) (by omega) ?_
  exact v_iret d_M_asked_77 rfl (Nat.zero_le _) (Nat.zero_le _) rfl jA0_rfl
theorem n_M_asked (g : jG) (V : Nat → Nat → Nat) (L : Nat → Nat → Int64) (hN : jN V) (zw zi : Int32) (h : V 85 13 = 0 ∨ zi < 0 ∨ ((zw = 0 → nI (V 85 13) ≤ zi) ∧ (zw = nI 1 → nI (V 85 13) ≤ zi) ∧ (zw = nI 2 → nI 5 ≤ zi))) : jK g Y_M_asked (0, 0) [.ref (jb g + 85), .int (zw), .int (zi)] V L (jA0 (some (.int (-1))) (vu V 85 0 0) L) := by
  refine jK_entry (by decide +kernel) rfl (Nat.le_of_ble_eq_true rfl) ?_
  show jJ (g, Y_M_asked, (0, 0), 0, 0, jVQ g (jA0 (some (.int (-1))) (vu V 85 0 0) L)) [(0, .ref (jb g + 85)), (1, .int (zw)), (2, .int (zi))] (jv (g, Y_M_asked, (0, 0), 0, 0, jVQ g (jA0 (some (.int (-1))) (vu V 85 0 0) L)) V L 0 0) 0 []
  refine j_aload_n d_M_asked_0 rfl 0 rfl ?_
  refine n_iconst d_M_asked_1 0 (by decide) ?_
  refine v_putI d_M_asked_2 lf_M_63 rfl (Nat.le_of_ble_eq_true rfl) rfl rfl rfl rfl ?_
  refine j_aload_n d_M_asked_5 rfl 0 rfl ?_
  refine v_getI d_M_asked_6 lf_M_140 rfl (Nat.le_of_ble_eq_true rfl) rfl ?_
  rw [show vu V 85 0 0 85 13 = V 85 13 from rfl]
  refine n_if_eq d_M_asked_9 42 rfl (Nat.lt_of_le_of_lt hN.ak (by decide)) (fun h1 => ?_) (fun h1 => ?_)
  · refine j_iconst d_M_asked_42 (v := -1) rfl ?_
    exact v_iret d_M_asked_43 rfl (Nat.zero_le _) (Nat.zero_le _) rfl jA0_rfl
  · refine j_iload_n d_M_asked_12 rfl 1 rfl ?_
    refine j_if_lt d_M_asked_13 42 rfl (fun h2 => ?_) (fun h2 => ?_)
    · refine j_iconst d_M_asked_42 (v := -1) rfl ?_
      exact v_iret d_M_asked_43 rfl (Nat.zero_le _) (Nat.zero_le _) rfl jA0_rfl
    · refine j_iload_n d_M_asked_16 rfl 1 rfl ?_
      refine n_iconst d_M_asked_17 2 (by decide) ?_
      refine j_icmp_gt d_M_asked_18 42 rfl (fun h3 => ?_) (fun h3 => ?_)
      · refine j_iconst d_M_asked_42 (v := -1) rfl ?_
        exact v_iret d_M_asked_43 rfl (Nat.zero_le _) (Nat.zero_le _) rfl jA0_rfl
      · refine j_iload_n d_M_asked_21 rfl 2 rfl ?_
        refine j_if_lt d_M_asked_22 42 rfl (fun h4 => ?_) (fun h4 => ?_)
        · refine j_iconst d_M_asked_42 (v := -1) rfl ?_
          exact v_iret d_M_asked_43 rfl (Nat.zero_le _) (Nat.zero_le _) rfl jA0_rfl
        · obtain ⟨ha, hb, hc⟩ := (h.resolve_left h1).resolve_left h4
          obtain ⟨w, hw, rfl⟩ := le_of (by decide) h2 h3
          refine j_iload_n d_M_asked_25 rfl 2 rfl ?_
          refine j_iload_n d_M_asked_26 rfl 1 rfl ?_
          refine n_iconst d_M_asked_27 2 (by decide) ?_
          refine n_icmp_ge d_M_asked_28 38 rfl (by omega) (by omega) (fun h5 => ?_) (fun h5 => ?_)
          · obtain rfl : w = 2 := by omega
            refine n_iconst d_M_asked_38 5 (by decide) ?_
            refine j_icmp_lt d_M_asked_39 44 rfl (fun h6 => ?_) (fun h6 => ?_)
            · exact absurd (hc rfl) (Int32.not_le.mpr h6)
            · refine j_iconst d_M_asked_42 (v := -1) rfl ?_
              exact v_iret d_M_asked_43 rfl (Nat.zero_le _) (Nat.zero_le _) rfl jA0_rfl
          · have hd : nI (V 85 13) ≤ zi := by
              rcases (show w = 0 ∨ w = 1 by omega) with rfl | rfl
              · exact ha rfl
              · exact hb rfl
            refine j_aload_n d_M_asked_31 rfl 0 rfl ?_
            refine v_getI d_M_asked_32 lf_M_140 rfl (Nat.le_of_ble_eq_true rfl) rfl ?_
            refine j_goto d_M_asked_35 39 rfl ?_
            rw [show vu V 85 0 0 85 13 = V 85 13 from rfl]
            refine j_icmp_lt d_M_asked_39 44 rfl (fun h6 => ?_) (fun h6 => ?_)
            · exact absurd hd (Int32.not_le.mpr h6)
            · refine j_iconst d_M_asked_42 (v := -1) rfl ?_
              exact v_iret d_M_asked_43 rfl (Nat.zero_le _) (Nat.zero_le _) rfl jA0_rfl
theorem c_M_tamper (g : jG) (V : Nat → Nat → Nat) (L : Nat → Nat → Int64) (hN : jN V) (hp : ¬ V 85 13 = 0) (i : Nat) (hi : i < 5) (d : Nat) (hd : d < 2147483647) : jK g Y_M_tamper (1, 20) [.ref (jb g + 85), .int (nI i), .int (nI d)] V L (jA0 (some (.int (nI 1))) (vu (vu V 85 0 0) 97 i (fpl (V 97 i) d)) L) := by
  refine jK_entry (by decide +kernel) rfl (Nat.le_of_ble_eq_true rfl) ?_
  show jJ (g, Y_M_tamper, (1, 20), 0, 0, jVQ g (jA0 (some (.int (nI 1))) (vu (vu V 85 0 0) 97 i (fpl (V 97 i) d)) L)) [(0, .ref (jb g + 85)), (1, .int (nI i)), (2, .int (nI d))] (jv (g, Y_M_tamper, (1, 20), 0, 0, jVQ g (jA0 (some (.int (nI 1))) (vu (vu V 85 0 0) 97 i (fpl (V 97 i) d)) L)) V L 0 0) 0 []
  have hv := hN.an i hi
  refine j_aload_n d_M_tamper_0 rfl 0 rfl ?_
  refine n_iconst d_M_tamper_1 0 (by decide) ?_
  refine v_putI d_M_tamper_2 lf_M_63 rfl (Nat.le_of_ble_eq_true rfl) rfl rfl rfl rfl ?_
  refine j_aload_n d_M_tamper_5 rfl 0 rfl ?_
  refine v_getI d_M_tamper_6 lf_M_140 rfl (Nat.le_of_ble_eq_true rfl) rfl ?_
  rw [show vu V 85 0 0 85 13 = V 85 13 from rfl]
  refine n_if_eq d_M_tamper_9 28 rfl (Nat.lt_of_le_of_lt hN.ak (by decide)) (fun h => absurd h (by omega)) (fun h => ?_)
  refine j_iload_n d_M_tamper_12 rfl 1 rfl ?_
  refine n_iff_lt d_M_tamper_13 28 rfl rfl (by omega) ?_
  refine j_iload_n d_M_tamper_16 rfl 1 rfl ?_
  refine n_iconst d_M_tamper_17 4 (by decide) ?_
  refine n_icmp_gt d_M_tamper_18 28 rfl (by omega) (by omega) (fun h => absurd h (by omega)) (fun h => ?_)
  refine j_iload_n d_M_tamper_21 rfl 2 rfl ?_
  refine v_callS d_M_tamper_22 mt_M_isNumber ln_M_91 sm_M_isNumber ⟨Nat.le_of_ble_eq_true rfl, Nat.le_of_ble_eq_true rfl⟩ (Nat.le_of_ble_eq_true rfl) rfl (Nat.zero_le _) (Nat.zero_le _) (c_M_isNumber g (vu V 85 0 0) L (nI d)) rfl ?_
  rintro _ _ _ ⟨rfl, rfl, rfl⟩
  rw [hsn_nI hd]
  refine n_if_ne d_M_tamper_25 30 rfl (by omega) (fun h => ?_) (fun h => absurd h (by omega))
  refine j_aload_n d_M_tamper_30 rfl 0 rfl ?_
  refine v_getR d_M_tamper_31 lf_M_44 rfl (Nat.le_of_ble_eq_true rfl) rfl ?_
  refine j_iload_n d_M_tamper_34 rfl 1 rfl ?_
  refine j_aload_n d_M_tamper_35 rfl 0 rfl ?_
  refine v_getR d_M_tamper_36 lf_M_44 rfl (Nat.le_of_ble_eq_true rfl) rfl ?_
  refine j_iload_n d_M_tamper_39 rfl 1 rfl ?_
  refine v_ild d_M_tamper_40 rfl rfl (Nat.le_of_ble_eq_true rfl) rfl (by omega) (by omega) ?_
  rw [show vu V 85 0 0 97 i = V 97 i from rfl]
  refine n_i2l d_M_tamper_41 (by omega) ?_
  refine j_iload_n d_M_tamper_42 rfl 2 rfl ?_
  refine n_i2l d_M_tamper_43 (by omega) ?_
  refine n_ladd d_M_tamper_44 ?_
  refine j_ldc2 d_M_tamper_45 ct_M_67 ?_
  rw [show (2147483647 : Int64) = lN 2147483647 from by decide]
  refine n_lrem d_M_tamper_48 (by omega) (by omega) (by omega) ?_
  refine n_l2i d_M_tamper_49 ?_
  refine v_ist d_M_tamper_50 rfl rfl (Nat.le_of_ble_eq_true rfl) rfl (by omega) (by omega) ?_
  refine n_iconst d_M_tamper_51 1 (by decide) ?_
  exact v_zret d_M_tamper_52 rfl (by omega) (Nat.zero_le _) (Nat.zero_le _) rfl jA0_rfl
theorem n_M_tamper (g : jG) (V : Nat → Nat → Nat) (L : Nat → Nat → Int64) (hN : jN V) (zi zd : Int32) (h : V 85 13 = 0 ∨ isn 5 zi = 0 ∨ hsn zd = 0) : jK g Y_M_tamper (1, 20) [.ref (jb g + 85), .int (zi), .int (zd)] V L (jA0 (some (.int (nI 0))) (vu V 85 0 0) L) := by
  refine jK_entry (by decide +kernel) rfl (Nat.le_of_ble_eq_true rfl) ?_
  show jJ (g, Y_M_tamper, (1, 20), 0, 0, jVQ g (jA0 (some (.int (nI 0))) (vu V 85 0 0) L)) [(0, .ref (jb g + 85)), (1, .int (zi)), (2, .int (zd))] (jv (g, Y_M_tamper, (1, 20), 0, 0, jVQ g (jA0 (some (.int (nI 0))) (vu V 85 0 0) L)) V L 0 0) 0 []
  refine j_aload_n d_M_tamper_0 rfl 0 rfl ?_
  refine n_iconst d_M_tamper_1 0 (by decide) ?_
  refine v_putI d_M_tamper_2 lf_M_63 rfl (Nat.le_of_ble_eq_true rfl) rfl rfl rfl rfl ?_
  refine j_aload_n d_M_tamper_5 rfl 0 rfl ?_
  refine v_getI d_M_tamper_6 lf_M_140 rfl (Nat.le_of_ble_eq_true rfl) rfl ?_
  rw [show vu V 85 0 0 85 13 = V 85 13 from rfl]
  refine n_if_eq d_M_tamper_9 28 rfl (Nat.lt_of_le_of_lt hN.ak (by decide)) (fun h1 => ?_) (fun h1 => ?_)
  · refine n_iconst d_M_tamper_28 0 (by decide) ?_
    exact v_zret d_M_tamper_29 rfl (by omega) (Nat.zero_le _) (Nat.zero_le _) rfl jA0_rfl
  · refine j_iload_n d_M_tamper_12 rfl 1 rfl ?_
    refine j_if_lt d_M_tamper_13 28 rfl (fun h2 => ?_) (fun h2 => ?_)
    · refine n_iconst d_M_tamper_28 0 (by decide) ?_
      exact v_zret d_M_tamper_29 rfl (by omega) (Nat.zero_le _) (Nat.zero_le _) rfl jA0_rfl
    · refine j_iload_n d_M_tamper_16 rfl 1 rfl ?_
      refine n_iconst d_M_tamper_17 4 (by decide) ?_
      refine j_icmp_gt d_M_tamper_18 28 rfl (fun h3 => ?_) (fun h3 => ?_)
      · refine n_iconst d_M_tamper_28 0 (by decide) ?_
        exact v_zret d_M_tamper_29 rfl (by omega) (Nat.zero_le _) (Nat.zero_le _) rfl jA0_rfl
      · have h4 : isn 5 zi = 1 := by
          obtain ⟨i, hi, rfl⟩ := le_of (by decide) h2 h3
          exact isn_nI (by decide) (by omega)
        refine j_iload_n d_M_tamper_21 rfl 2 rfl ?_
        refine v_callS d_M_tamper_22 mt_M_isNumber ln_M_91 sm_M_isNumber ⟨Nat.le_of_ble_eq_true rfl, Nat.le_of_ble_eq_true rfl⟩ (Nat.le_of_ble_eq_true rfl) rfl (Nat.zero_le _) (Nat.zero_le _) (c_M_isNumber g (vu V 85 0 0) L zd) rfl ?_
        rintro _ _ _ ⟨rfl, rfl, rfl⟩
        refine n_if_ne d_M_tamper_25 30 rfl (Nat.lt_of_le_of_lt (hsn_le _) (by decide)) (fun h5 => ?_) (fun h5 => ?_)
        · omega
        · refine n_iconst d_M_tamper_28 0 (by decide) ?_
          exact v_zret d_M_tamper_29 rfl (by omega) (Nat.zero_le _) (Nat.zero_le _) rfl jA0_rfl
theorem c_M_found (g : jG) (V : Nat → Nat → Nat) (L : Nat → Nat → Int64) (hN : jN V) (i : Nat) (hi : i < V 85 19) : jK g Y_M_found (0, 0) [.ref (jb g + 85), .int (nI i)] V L (jA0 (some (.int (nI (V 98 i)))) (vu V 85 0 0) L) := by
  refine jK_entry (by decide +kernel) rfl (Nat.le_of_ble_eq_true rfl) ?_
  show jJ (g, Y_M_found, (0, 0), 0, 0, jVQ g (jA0 (some (.int (nI (V 98 i)))) (vu V 85 0 0) L)) [(0, .ref (jb g + 85)), (1, .int (nI i))] (jv (g, Y_M_found, (0, 0), 0, 0, jVQ g (jA0 (some (.int (nI (V 98 i)))) (vu V 85 0 0) L)) V L 0 0) 0 []
  have := hN.fo
  refine j_aload_n d_M_found_0 rfl 0 rfl ?_
  refine n_iconst d_M_found_1 0 (by decide) ?_
  refine v_putI d_M_found_2 lf_M_63 rfl (Nat.le_of_ble_eq_true rfl) rfl rfl rfl rfl ?_
  refine j_iload_n d_M_found_5 rfl 1 rfl ?_
  refine n_iff_lt d_M_found_6 17 rfl rfl (by omega) ?_
  refine j_iload_n d_M_found_9 rfl 1 rfl ?_
  refine j_aload_n d_M_found_10 rfl 0 rfl ?_
  refine v_getI d_M_found_11 lf_M_155 rfl (Nat.le_of_ble_eq_true rfl) rfl ?_
  rw [show vu V 85 0 0 85 19 = V 85 19 from rfl]
  refine n_icmp_lt d_M_found_14 21 rfl (by omega) (by omega) (fun h => ?_) (fun h => absurd h (by omega))
  refine j_aload_n d_M_found_21 rfl 0 rfl ?_
  refine v_getR d_M_found_22 lf_M_47 rfl (Nat.le_of_ble_eq_true rfl) rfl ?_
  refine j_iload_n d_M_found_25 rfl 1 rfl ?_
  refine v_ild d_M_found_26 rfl rfl (Nat.le_of_ble_eq_true rfl) rfl (by omega) (by omega) ?_
  exact v_iret d_M_found_27 rfl (Nat.zero_le _) (Nat.zero_le _) rfl jA0_rfl
theorem n_M_found (g : jG) (V : Nat → Nat → Nat) (L : Nat → Nat → Int64) (z : Int32) (h : isn (V 85 19) z = 0) : jK g Y_M_found (0, 0) [.ref (jb g + 85), .int (z)] V L (jA0 (some (.int (-1))) (vu V 85 0 0) L) := by
  refine jK_entry (by decide +kernel) rfl (Nat.le_of_ble_eq_true rfl) ?_
  show jJ (g, Y_M_found, (0, 0), 0, 0, jVQ g (jA0 (some (.int (-1))) (vu V 85 0 0) L)) [(0, .ref (jb g + 85)), (1, .int (z))] (jv (g, Y_M_found, (0, 0), 0, 0, jVQ g (jA0 (some (.int (-1))) (vu V 85 0 0) L)) V L 0 0) 0 []
  refine j_aload_n d_M_found_0 rfl 0 rfl ?_
  refine n_iconst d_M_found_1 0 (by decide) ?_
  refine v_putI d_M_found_2 lf_M_63 rfl (Nat.le_of_ble_eq_true rfl) rfl rfl rfl rfl ?_
  refine j_iload_n d_M_found_5 rfl 1 rfl ?_
  refine j_if_lt d_M_found_6 17 rfl (fun h1 => ?_) (fun h1 => ?_)
  · refine j_iconst d_M_found_17 (v := -1) rfl ?_
    refine j_goto d_M_found_18 27 rfl ?_
    exact v_iret d_M_found_27 rfl (Nat.zero_le _) (Nat.zero_le _) rfl jA0_rfl
  · refine j_iload_n d_M_found_9 rfl 1 rfl ?_
    refine j_aload_n d_M_found_10 rfl 0 rfl ?_
    refine v_getI d_M_found_11 lf_M_155 rfl (Nat.le_of_ble_eq_true rfl) rfl ?_
    rw [show vu V 85 0 0 85 19 = V 85 19 from rfl]
    refine j_icmp_lt d_M_found_14 21 rfl (fun h2 => ?_) (fun h2 => ?_)
    · exact absurd h (by unfold isn; rw [if_pos ⟨h1, Int32.not_le.mpr h2⟩]; decide)
    · refine j_iconst d_M_found_17 (v := -1) rfl ?_
      refine j_goto d_M_found_18 27 rfl ?_
      exact v_iret d_M_found_27 rfl (Nat.zero_le _) (Nat.zero_le _) rfl jA0_rfl
theorem c_M_fetched (g : jG) (V : Nat → Nat → Nat) (L : Nat → Nat → Int64) (hN : jN V) (i : Nat) (hi : i < V 85 21) : jK g Y_M_fetched (0, 0) [.ref (jb g + 85), .int (nI i)] V L (jA0 (some (.int (nI (V 99 i)))) (vu V 85 0 0) L) := by
  refine jK_entry (by decide +kernel) rfl (Nat.le_of_ble_eq_true rfl) ?_
  show jJ (g, Y_M_fetched, (0, 0), 0, 0, jVQ g (jA0 (some (.int (nI (V 99 i)))) (vu V 85 0 0) L)) [(0, .ref (jb g + 85)), (1, .int (nI i))] (jv (g, Y_M_fetched, (0, 0), 0, 0, jVQ g (jA0 (some (.int (nI (V 99 i)))) (vu V 85 0 0) L)) V L 0 0) 0 []
  have := hN.fe
  refine j_aload_n d_M_fetched_0 rfl 0 rfl ?_
  refine n_iconst d_M_fetched_1 0 (by decide) ?_
  refine v_putI d_M_fetched_2 lf_M_63 rfl (Nat.le_of_ble_eq_true rfl) rfl rfl rfl rfl ?_
  refine j_iload_n d_M_fetched_5 rfl 1 rfl ?_
  refine n_iff_lt d_M_fetched_6 17 rfl rfl (by omega) ?_
  refine j_iload_n d_M_fetched_9 rfl 1 rfl ?_
  refine j_aload_n d_M_fetched_10 rfl 0 rfl ?_
  refine v_getI d_M_fetched_11 lf_M_179 rfl (Nat.le_of_ble_eq_true rfl) rfl ?_
  rw [show vu V 85 0 0 85 21 = V 85 21 from rfl]
  refine n_icmp_lt d_M_fetched_14 21 rfl (by omega) (by omega) (fun h => ?_) (fun h => absurd h (by omega))
  refine j_aload_n d_M_fetched_21 rfl 0 rfl ?_
  refine v_getR d_M_fetched_22 lf_M_50 rfl (Nat.le_of_ble_eq_true rfl) rfl ?_
  refine j_iload_n d_M_fetched_25 rfl 1 rfl ?_
  refine v_ild d_M_fetched_26 rfl rfl (Nat.le_of_ble_eq_true rfl) rfl (by omega) (by omega) ?_
  exact v_iret d_M_fetched_27 rfl (Nat.zero_le _) (Nat.zero_le _) rfl jA0_rfl
theorem n_M_fetched (g : jG) (V : Nat → Nat → Nat) (L : Nat → Nat → Int64) (z : Int32) (h : isn (V 85 21) z = 0) : jK g Y_M_fetched (0, 0) [.ref (jb g + 85), .int (z)] V L (jA0 (some (.int (-1))) (vu V 85 0 0) L) := by
  refine jK_entry (by decide +kernel) rfl (Nat.le_of_ble_eq_true rfl) ?_
  show jJ (g, Y_M_fetched, (0, 0), 0, 0, jVQ g (jA0 (some (.int (-1))) (vu V 85 0 0) L)) [(0, .ref (jb g + 85)), (1, .int (z))] (jv (g, Y_M_fetched, (0, 0), 0, 0, jVQ g (jA0 (some (.int (-1))) (vu V 85 0 0) L)) V L 0 0) 0 []
  refine j_aload_n d_M_fetched_0 rfl 0 rfl ?_
  refine n_iconst d_M_fetched_1 0 (by decide) ?_
  refine v_putI d_M_fetched_2 lf_M_63 rfl (Nat.le_of_ble_eq_true rfl) rfl rfl rfl rfl ?_
  refine j_iload_n d_M_fetched_5 rfl 1 rfl ?_
  refine j_if_lt d_M_fetched_6 17 rfl (fun h1 => ?_) (fun h1 => ?_)
  · refine j_iconst d_M_fetched_17 (v := -1) rfl ?_
    refine j_goto d_M_fetched_18 27 rfl ?_
    exact v_iret d_M_fetched_27 rfl (Nat.zero_le _) (Nat.zero_le _) rfl jA0_rfl
  · refine j_iload_n d_M_fetched_9 rfl 1 rfl ?_
    refine j_aload_n d_M_fetched_10 rfl 0 rfl ?_
    refine v_getI d_M_fetched_11 lf_M_179 rfl (Nat.le_of_ble_eq_true rfl) rfl ?_
    rw [show vu V 85 0 0 85 21 = V 85 21 from rfl]
    refine j_icmp_lt d_M_fetched_14 21 rfl (fun h2 => ?_) (fun h2 => ?_)
    · exact absurd h (by unfold isn; rw [if_pos ⟨h1, Int32.not_le.mpr h2⟩]; decide)
    · refine j_iconst d_M_fetched_17 (v := -1) rfl ?_
      refine j_goto d_M_fetched_18 27 rfl ?_
      exact v_iret d_M_fetched_27 rfl (Nat.zero_le _) (Nat.zero_le _) rfl jA0_rfl
theorem c_M_made (g : jG) (V : Nat → Nat → Nat) (L : Nat → Nat → Int64) (hN : jN V) (f : Nat) (hf0 : f < V 85 4) (i : Nat) (hi : i < mrs V f) (j : Nat) (hj : j < 5) : jK g Y_M_made (1, 21) [.ref (jb g + 85), .int (nI f), .int (nI i), .int (nI j)] V L (jA0 (some (.int (nI (V 88 (5 * (24 * f + i) + j))))) (vu V 85 0 0) L) := by
  refine jK_entry (by decide +kernel) rfl (Nat.le_of_ble_eq_true rfl) ?_
  show jJ (g, Y_M_made, (1, 21), 0, 0, jVQ g (jA0 (some (.int (nI (V 88 (5 * (24 * f + i) + j))))) (vu V 85 0 0) L)) [(0, .ref (jb g + 85)), (1, .int (nI f)), (2, .int (nI i)), (3, .int (nI j))] (jv (g, Y_M_made, (1, 21), 0, 0, jVQ g (jA0 (some (.int (nI (V 88 (5 * (24 * f + i) + j))))) (vu V 85 0 0) L)) V L 0 0) 0 []
  have h3 := hN.F
  have hw := hN.w (show f < 3 by omega)
  have hm : mrs V f ≤ 24 := by unfold mrs; omega
  have h24 : i < 24 := by unfold mrs at hi; omega
  refine j_aload_n d_M_made_0 rfl 0 rfl ?_
  refine j_aload_n d_M_made_1 rfl 0 rfl ?_
  refine j_iload_n d_M_made_2 rfl 1 rfl ?_
  refine v_callV d_M_made_3 mt_M_isFile ln_M_118 im_M_isFile se_M_isFile rfl (Nat.le_of_ble_eq_true rfl) rfl rfl ⟨Nat.le_of_ble_eq_true rfl, Nat.le_of_ble_eq_true rfl⟩ (Nat.le_of_ble_eq_true rfl) rfl (Nat.zero_le _) (Nat.zero_le _) (c_M_isFile g V L (nI f)) rfl ?_
  rintro _ _ _ ⟨rfl, rfl, rfl⟩
  rw [isn_nI (by omega) hf0]
  refine n_if_eq d_M_made_6 22 rfl (by omega) (fun h => absurd h (by omega)) (fun h => ?_)
  refine j_iload_n d_M_made_9 rfl 3 rfl ?_
  refine n_iff_lt d_M_made_10 22 rfl rfl (by omega) ?_
  refine j_iload_n d_M_made_13 rfl 3 rfl ?_
  refine n_iconst d_M_made_14 5 (by decide) ?_
  refine n_icmp_ge d_M_made_15 22 rfl (by omega) (by omega) (fun h => absurd h (by omega)) (fun h => ?_)
  refine n_iconst d_M_made_18 0 (by decide) ?_
  refine j_goto d_M_made_19 23 rfl ?_
  refine v_putI d_M_made_23 lf_M_63 rfl (Nat.le_of_ble_eq_true rfl) rfl rfl rfl rfl ?_
  refine j_aload_n d_M_made_26 rfl 0 rfl ?_
  refine v_getI d_M_made_27 lf_M_63 rfl (Nat.le_of_ble_eq_true rfl) rfl ?_
  rw [vu_eq]
  refine n_ift_le d_M_made_30 35 rfl rfl (by decide) ?_
  refine j_aload_n d_M_made_35 rfl 0 rfl ?_
  refine j_iload_n d_M_made_36 rfl 2 rfl ?_
  refine n_iff_lt d_M_made_37 49 rfl rfl (by omega) ?_
  refine j_iload_n d_M_made_40 rfl 2 rfl ?_
  refine j_aload_n d_M_made_41 rfl 0 rfl ?_
  refine j_iload_n d_M_made_42 rfl 1 rfl ?_
  refine v_callV d_M_made_43 mt_M_rowsOf ln_M_99 im_M_rowsOf se_M_rowsOf rfl (Nat.le_of_ble_eq_true rfl) rfl rfl ⟨Nat.le_of_ble_eq_true rfl, Nat.le_of_ble_eq_true rfl⟩ (Nat.le_of_ble_eq_true rfl) rfl (Nat.zero_le _) (Nat.zero_le _) (c_M_rowsOf g (vu V 85 0 0) L f (by omega) hw) rfl ?_
  rintro _ _ _ ⟨rfl, rfl, rfl⟩
  rw [show mrs (vu V 85 0 0) f = mrs V f from rfl]
  refine n_icmp_lt d_M_made_46 53 rfl (by omega) (by omega) (fun h => ?_) (fun h => absurd h (by omega))
  refine n_iconst d_M_made_53 0 (by decide) ?_
  refine v_putI d_M_made_54 lf_M_63 rfl (Nat.le_of_ble_eq_true rfl) rfl rfl rfl rfl ?_
  refine j_aload_n d_M_made_57 rfl 0 rfl ?_
  refine v_getI d_M_made_58 lf_M_63 rfl (Nat.le_of_ble_eq_true rfl) rfl ?_
  rw [vu_eq]
  refine n_ift_le d_M_made_61 68 rfl rfl (by decide) ?_
  rw [vu_vu]
  refine j_aload_n d_M_made_68 rfl 0 rfl ?_
  refine v_getR d_M_made_69 lf_M_16 rfl (Nat.le_of_ble_eq_true rfl) rfl ?_
  refine n_iconst d_M_made_72 5 (by decide) ?_
  refine n_bipush d_M_made_73 24 (by decide) ?_
  refine j_iload_n d_M_made_75 rfl 1 rfl ?_
  refine n_mul d_M_made_76 ?_
  refine j_iload_n d_M_made_77 rfl 2 rfl ?_
  refine n_add d_M_made_78 ?_
  refine n_mul d_M_made_79 ?_
  refine j_iload_n d_M_made_80 rfl 3 rfl ?_
  refine n_add d_M_made_81 ?_
  refine v_ild d_M_made_82 rfl rfl (Nat.le_of_ble_eq_true rfl) rfl (by omega) (by omega) ?_
  exact v_iret d_M_made_83 rfl (Nat.zero_le _) (Nat.zero_le _) rfl jA0_rfl
theorem n_M_made (g : jG) (V : Nat → Nat → Nat) (L : Nat → Nat → Int64) (hN : jN V) (zf zr zj : Int32) (h : isn (V 85 4) zf = 0 ∨ isn (mrs V zf.toNatClampNeg) zr = 0 ∨ isn 5 zj = 0) : jK g Y_M_made (1, 21) [.ref (jb g + 85), .int (zf), .int (zr), .int (zj)] V L (jA0 (some (.int (nI 0))) (vu V 85 0 1) L) := by
  refine jK_entry (by decide +kernel) rfl (Nat.le_of_ble_eq_true rfl) ?_
  show jJ (g, Y_M_made, (1, 21), 0, 0, jVQ g (jA0 (some (.int (nI 0))) (vu V 85 0 1) L)) [(0, .ref (jb g + 85)), (1, .int (zf)), (2, .int (zr)), (3, .int (zj))] (jv (g, Y_M_made, (1, 21), 0, 0, jVQ g (jA0 (some (.int (nI 0))) (vu V 85 0 1) L)) V L 0 0) 0 []
  have h3 := hN.F
  refine j_aload_n d_M_made_0 rfl 0 rfl ?_
  refine j_aload_n d_M_made_1 rfl 0 rfl ?_
  refine j_iload_n d_M_made_2 rfl 1 rfl ?_
  refine v_callV d_M_made_3 mt_M_isFile ln_M_118 im_M_isFile se_M_isFile rfl (Nat.le_of_ble_eq_true rfl) rfl rfl ⟨Nat.le_of_ble_eq_true rfl, Nat.le_of_ble_eq_true rfl⟩ (Nat.le_of_ble_eq_true rfl) rfl (Nat.zero_le _) (Nat.zero_le _) (c_M_isFile g V L zf) rfl ?_
  rintro _ _ _ ⟨rfl, rfl, rfl⟩
  refine n_if_eq d_M_made_6 22 rfl (Nat.lt_of_le_of_lt (isn_le _ _) (by decide)) (fun h1 => ?_) (fun h1 => ?_)
  · refine n_iconst d_M_made_22 1 (by decide) ?_
    refine v_putI d_M_made_23 lf_M_63 rfl (Nat.le_of_ble_eq_true rfl) rfl rfl rfl rfl ?_
    refine j_aload_n d_M_made_26 rfl 0 rfl ?_
    refine v_getI d_M_made_27 lf_M_63 rfl (Nat.le_of_ble_eq_true rfl) rfl ?_
    rw [vu_eq]
    refine n_iff_le d_M_made_30 35 rfl (by decide) (by decide) ?_
    refine n_iconst d_M_made_33 0 (by decide) ?_
    exact v_iret d_M_made_34 rfl (Nat.zero_le _) (Nat.zero_le _) rfl jA0_rfl
  · refine j_iload_n d_M_made_9 rfl 3 rfl ?_
    refine j_if_lt d_M_made_10 22 rfl (fun h2 => ?_) (fun h2 => ?_)
    · refine n_iconst d_M_made_22 1 (by decide) ?_
      refine v_putI d_M_made_23 lf_M_63 rfl (Nat.le_of_ble_eq_true rfl) rfl rfl rfl rfl ?_
      refine j_aload_n d_M_made_26 rfl 0 rfl ?_
      refine v_getI d_M_made_27 lf_M_63 rfl (Nat.le_of_ble_eq_true rfl) rfl ?_
      rw [vu_eq]
      refine n_iff_le d_M_made_30 35 rfl (by decide) (by decide) ?_
      refine n_iconst d_M_made_33 0 (by decide) ?_
      exact v_iret d_M_made_34 rfl (Nat.zero_le _) (Nat.zero_le _) rfl jA0_rfl
    · refine j_iload_n d_M_made_13 rfl 3 rfl ?_
      refine n_iconst d_M_made_14 5 (by decide) ?_
      refine j_icmp_ge d_M_made_15 22 rfl (fun h3 => ?_) (fun h3 => ?_)
      · refine n_iconst d_M_made_22 1 (by decide) ?_
        refine v_putI d_M_made_23 lf_M_63 rfl (Nat.le_of_ble_eq_true rfl) rfl rfl rfl rfl ?_
        refine j_aload_n d_M_made_26 rfl 0 rfl ?_
        refine v_getI d_M_made_27 lf_M_63 rfl (Nat.le_of_ble_eq_true rfl) rfl ?_
        rw [vu_eq]
        refine n_iff_le d_M_made_30 35 rfl (by decide) (by decide) ?_
        refine n_iconst d_M_made_33 0 (by decide) ?_
        exact v_iret d_M_made_34 rfl (Nat.zero_le _) (Nat.zero_le _) rfl jA0_rfl
      · have h4 : isn 5 zj = 1 := if_pos ⟨h2, h3⟩
        obtain ⟨f, hf0, rfl⟩ := isn_of (by omega) h1
        rw [nI_clamp (by omega)] at h
        refine n_iconst d_M_made_18 0 (by decide) ?_
        refine j_goto d_M_made_19 23 rfl ?_
        refine v_putI d_M_made_23 lf_M_63 rfl (Nat.le_of_ble_eq_true rfl) rfl rfl rfl rfl ?_
        refine j_aload_n d_M_made_26 rfl 0 rfl ?_
        refine v_getI d_M_made_27 lf_M_63 rfl (Nat.le_of_ble_eq_true rfl) rfl ?_
        rw [vu_eq]
        refine n_ift_le d_M_made_30 35 rfl rfl (by decide) ?_
        refine j_aload_n d_M_made_35 rfl 0 rfl ?_
        refine j_iload_n d_M_made_36 rfl 2 rfl ?_
        refine j_if_lt d_M_made_37 49 rfl (fun h5 => ?_) (fun h5 => ?_)
        · refine n_iconst d_M_made_49 1 (by decide) ?_
          refine j_goto d_M_made_50 54 rfl ?_
          refine v_putI d_M_made_54 lf_M_63 rfl (Nat.le_of_ble_eq_true rfl) rfl rfl rfl rfl ?_
          refine j_aload_n d_M_made_57 rfl 0 rfl ?_
          refine v_getI d_M_made_58 lf_M_63 rfl (Nat.le_of_ble_eq_true rfl) rfl ?_
          rw [vu_eq]
          refine n_iff_le d_M_made_61 68 rfl (by decide) (by decide) ?_
          rw [vu_vu]
          refine n_iconst d_M_made_64 0 (by decide) ?_
          refine j_goto d_M_made_65 83 rfl ?_
          exact v_iret d_M_made_83 rfl (Nat.zero_le _) (Nat.zero_le _) rfl jA0_rfl
        · refine j_iload_n d_M_made_40 rfl 2 rfl ?_
          refine j_aload_n d_M_made_41 rfl 0 rfl ?_
          refine j_iload_n d_M_made_42 rfl 1 rfl ?_
          refine v_callV d_M_made_43 mt_M_rowsOf ln_M_99 im_M_rowsOf se_M_rowsOf rfl (Nat.le_of_ble_eq_true rfl) rfl rfl ⟨Nat.le_of_ble_eq_true rfl, Nat.le_of_ble_eq_true rfl⟩ (Nat.le_of_ble_eq_true rfl) rfl (Nat.zero_le _) (Nat.zero_le _) (c_M_rowsOf g (vu V 85 0 0) L f (by omega) (hN.w (by omega))) rfl ?_
          rintro _ _ _ ⟨rfl, rfl, rfl⟩
          rw [show mrs (vu V 85 0 0) f = mrs V f from rfl]
          refine j_icmp_lt d_M_made_46 53 rfl (fun h6 => ?_) (fun h6 => ?_)
          · have h7 : isn (mrs V f) zr = 1 := if_pos ⟨h5, Int32.not_le.mpr h6⟩
            omega
          · refine n_iconst d_M_made_49 1 (by decide) ?_
            refine j_goto d_M_made_50 54 rfl ?_
            refine v_putI d_M_made_54 lf_M_63 rfl (Nat.le_of_ble_eq_true rfl) rfl rfl rfl rfl ?_
            refine j_aload_n d_M_made_57 rfl 0 rfl ?_
            refine v_getI d_M_made_58 lf_M_63 rfl (Nat.le_of_ble_eq_true rfl) rfl ?_
            rw [vu_eq]
            refine n_iff_le d_M_made_61 68 rfl (by decide) (by decide) ?_
            rw [vu_vu]
            refine n_iconst d_M_made_64 0 (by decide) ?_
            refine j_goto d_M_made_65 83 rfl ?_
            exact v_iret d_M_made_83 rfl (Nat.zero_le _) (Nat.zero_le _) rfl jA0_rfl
theorem c_M_kept (g : jG) (V : Nat → Nat → Nat) (L : Nat → Nat → Int64) (hN : jN V) (k f : Nat) (hk : k < 4) (hf0 : f < V 85 4) (i : Nat) (hi : i < mrs V f) (hh : V 89 (3 * k + f) = 1) (j : Nat) (hj : j < 5) : jK g Y_M_kept (3, 66) [.ref (jb g + 85), .int (nI k), .int (nI f), .int (nI i), .int (nI j)] V L (jA0 (some (.int (nI (V 90 (360 * k + 5 * (24 * f + i) + j))))) (vu V 85 0 0) L) := by
  refine jK_entry (by decide +kernel) rfl (Nat.le_of_ble_eq_true rfl) ?_
  show jJ (g, Y_M_kept, (3, 66), 0, 0, jVQ g (jA0 (some (.int (nI (V 90 (360 * k + 5 * (24 * f + i) + j))))) (vu V 85 0 0) L)) [(0, .ref (jb g + 85)), (1, .int (nI k)), (2, .int (nI f)), (3, .int (nI i)), (4, .int (nI j))] (jv (g, Y_M_kept, (3, 66), 0, 0, jVQ g (jA0 (some (.int (nI (V 90 (360 * k + 5 * (24 * f + i) + j))))) (vu V 85 0 0) L)) V L 0 0) 0 []
  have h3 := hN.F
  have hw := hN.w (show f < 3 by omega)
  have hm : mrs V f ≤ 24 := by unfold mrs; omega
  have h24 : i < 24 := by unfold mrs at hi; omega
  refine j_aload_n d_M_kept_0 rfl 0 rfl ?_
  refine j_aload_n d_M_kept_1 rfl 0 rfl ?_
  refine j_iload_n d_M_kept_2 rfl 1 rfl ?_
  refine j_iload_n d_M_kept_3 rfl 2 rfl ?_
  refine j_iload_n d_M_kept_4 rfl 3 rfl ?_
  refine v_callV d_M_kept_5 mt_M_isRow ln_M_136 im_M_isRow se_M_isRow rfl (Nat.le_of_ble_eq_true rfl) rfl rfl ⟨Nat.le_of_ble_eq_true rfl, Nat.le_of_ble_eq_true rfl⟩ (Nat.le_of_ble_eq_true rfl) rfl (Nat.zero_le _) (Nat.zero_le _) (c_M_isRow g V L hN (nI k) (nI f) (nI i)) rfl ?_
  rintro _ _ _ ⟨rfl, rfl, rfl⟩
  rw [mrw_nI hN hk hf0 hh hi]
  refine n_if_eq d_M_kept_8 27 rfl (by omega) (fun h => absurd h (by omega)) (fun h => ?_)
  refine j_iload d_M_kept_11 4 rfl ?_
  refine n_iff_lt d_M_kept_13 27 rfl rfl (by omega) ?_
  refine j_iload d_M_kept_16 4 rfl ?_
  refine n_bipush d_M_kept_18 6 (by decide) ?_
  refine n_icmp_ge d_M_kept_20 27 rfl (by omega) (by omega) (fun h => absurd h (by omega)) (fun h => ?_)
  refine n_iconst d_M_kept_23 0 (by decide) ?_
  refine j_goto d_M_kept_24 28 rfl ?_
  refine v_putI d_M_kept_28 lf_M_63 rfl (Nat.le_of_ble_eq_true rfl) rfl rfl rfl rfl ?_
  refine j_aload_n d_M_kept_31 rfl 0 rfl ?_
  refine v_getI d_M_kept_32 lf_M_63 rfl (Nat.le_of_ble_eq_true rfl) rfl ?_
  rw [vu_eq]
  refine n_ift_le d_M_kept_35 40 rfl rfl (by decide) ?_
  refine j_iload d_M_kept_40 4 rfl ?_
  refine n_iconst d_M_kept_42 5 (by decide) ?_
  refine n_icmp_ne d_M_kept_43 68 rfl (by omega) (by omega) (fun h => ?_) (fun h => absurd h (by omega))
  refine j_aload_n d_M_kept_68 rfl 0 rfl ?_
  refine v_getR d_M_kept_69 lf_M_23 rfl (Nat.le_of_ble_eq_true rfl) rfl ?_
  refine j_iload_n d_M_kept_72 rfl 1 rfl ?_
  refine j_iload_n d_M_kept_73 rfl 2 rfl ?_
  refine j_iload_n d_M_kept_74 rfl 3 rfl ?_
  refine v_callS d_M_kept_75 mt_M_spot ln_M_125 sm_M_spot ⟨Nat.le_of_ble_eq_true rfl, Nat.le_of_ble_eq_true rfl⟩ (Nat.le_of_ble_eq_true rfl) rfl (Nat.zero_le _) (Nat.zero_le _) (c_M_spot g (vu V 85 0 0) L k f i) rfl ?_
  rintro _ _ _ ⟨rfl, rfl, rfl⟩
  refine j_iload d_M_kept_78 4 rfl ?_
  refine n_add d_M_kept_80 ?_
  refine v_ild d_M_kept_81 rfl rfl (Nat.le_of_ble_eq_true rfl) rfl (by omega) (by omega) ?_
  exact v_iret d_M_kept_82 rfl (Nat.zero_le _) (Nat.zero_le _) rfl jA0_rfl
theorem c5_M_kept (g : jG) (V : Nat → Nat → Nat) (L : Nat → Nat → Int64) (hN : jN V) (k f : Nat) (hk : k < 4) (hf0 : f < V 85 4) (i : Nat) (hi : i < mrs V f) (hh : V 89 (3 * k + f) = 1)  : jK g Y_M_kept (3, 66) [.ref (jb g + 85), .int (nI k), .int (nI f), .int (nI i), .int (nI 5)] V L (jA0 (some (.int (nI (V 91 (72 * k + 24 * f + i))))) (vu V 85 0 0) L) := by
  refine jK_entry (by decide +kernel) rfl (Nat.le_of_ble_eq_true rfl) ?_
  show jJ (g, Y_M_kept, (3, 66), 0, 0, jVQ g (jA0 (some (.int (nI (V 91 (72 * k + 24 * f + i))))) (vu V 85 0 0) L)) [(0, .ref (jb g + 85)), (1, .int (nI k)), (2, .int (nI f)), (3, .int (nI i)), (4, .int (nI 5))] (jv (g, Y_M_kept, (3, 66), 0, 0, jVQ g (jA0 (some (.int (nI (V 91 (72 * k + 24 * f + i))))) (vu V 85 0 0) L)) V L 0 0) 0 []
  have h3 := hN.F
  have hw := hN.w (show f < 3 by omega)
  have hm : mrs V f ≤ 24 := by unfold mrs; omega
  have h24 : i < 24 := by unfold mrs at hi; omega
  have hl := hN.ls (72 * k + 24 * f + i) (by omega)
  refine j_aload_n d_M_kept_0 rfl 0 rfl ?_
  refine j_aload_n d_M_kept_1 rfl 0 rfl ?_
  refine j_iload_n d_M_kept_2 rfl 1 rfl ?_
  refine j_iload_n d_M_kept_3 rfl 2 rfl ?_
  refine j_iload_n d_M_kept_4 rfl 3 rfl ?_
  refine v_callV d_M_kept_5 mt_M_isRow ln_M_136 im_M_isRow se_M_isRow rfl (Nat.le_of_ble_eq_true rfl) rfl rfl ⟨Nat.le_of_ble_eq_true rfl, Nat.le_of_ble_eq_true rfl⟩ (Nat.le_of_ble_eq_true rfl) rfl (Nat.zero_le _) (Nat.zero_le _) (c_M_isRow g V L hN (nI k) (nI f) (nI i)) rfl ?_
  rintro _ _ _ ⟨rfl, rfl, rfl⟩
  rw [mrw_nI hN hk hf0 hh hi]
  refine n_if_eq d_M_kept_8 27 rfl (by omega) (fun h => absurd h (by omega)) (fun h => ?_)
  refine j_iload d_M_kept_11 4 rfl ?_
  refine n_iff_lt d_M_kept_13 27 rfl rfl (by omega) ?_
  refine j_iload d_M_kept_16 4 rfl ?_
  refine n_bipush d_M_kept_18 6 (by decide) ?_
  refine n_icmp_ge d_M_kept_20 27 rfl (by omega) (by omega) (fun h => absurd h (by omega)) (fun h => ?_)
  refine n_iconst d_M_kept_23 0 (by decide) ?_
  refine j_goto d_M_kept_24 28 rfl ?_
  refine v_putI d_M_kept_28 lf_M_63 rfl (Nat.le_of_ble_eq_true rfl) rfl rfl rfl rfl ?_
  refine j_aload_n d_M_kept_31 rfl 0 rfl ?_
  refine v_getI d_M_kept_32 lf_M_63 rfl (Nat.le_of_ble_eq_true rfl) rfl ?_
  rw [vu_eq]
  refine n_ift_le d_M_kept_35 40 rfl rfl (by decide) ?_
  refine j_iload d_M_kept_40 4 rfl ?_
  refine n_iconst d_M_kept_42 5 (by decide) ?_
  refine n_icmp_ne d_M_kept_43 68 rfl (by omega) (by omega) (fun h => absurd h (by omega)) (fun h => ?_)
  refine j_aload_n d_M_kept_46 rfl 0 rfl ?_
  refine v_getR d_M_kept_47 lf_M_26 rfl (Nat.le_of_ble_eq_true rfl) rfl ?_
  refine j_iload_n d_M_kept_50 rfl 1 rfl ?_
  refine j_iload_n d_M_kept_51 rfl 2 rfl ?_
  refine j_iload_n d_M_kept_52 rfl 3 rfl ?_
  refine v_callS d_M_kept_53 mt_M_mark ln_M_129 sm_M_mark ⟨Nat.le_of_ble_eq_true rfl, Nat.le_of_ble_eq_true rfl⟩ (Nat.le_of_ble_eq_true rfl) rfl (Nat.zero_le _) (Nat.zero_le _) (c_M_mark g (vu V 85 0 0) L k f i) rfl ?_
  rintro _ _ _ ⟨rfl, rfl, rfl⟩
  refine v_zld d_M_kept_56 rfl rfl (Nat.le_of_ble_eq_true rfl) rfl (by omega) (by omega) ?_
  rw [show vu V 85 0 0 91 (72 * k + 24 * f + i) = V 91 (72 * k + 24 * f + i) from rfl]
  refine n_if_eq d_M_kept_57 64 rfl (by omega) (fun h1 => ?_) (fun h1 => ?_)
  · rw [h1]
    refine n_iconst d_M_kept_64 0 (by decide) ?_
    refine j_goto d_M_kept_65 82 rfl ?_
    exact v_iret d_M_kept_82 rfl (Nat.zero_le _) (Nat.zero_le _) rfl jA0_rfl
  · rw [show V 91 (72 * k + 24 * f + i) = 1 from by omega]
    refine n_iconst d_M_kept_60 1 (by decide) ?_
    refine j_goto d_M_kept_61 82 rfl ?_
    exact v_iret d_M_kept_82 rfl (Nat.zero_le _) (Nat.zero_le _) rfl jA0_rfl
theorem n_M_kept (g : jG) (V : Nat → Nat → Nat) (L : Nat → Nat → Int64) (hN : jN V) (zk zf zi zj : Int32) (h : mrw V zk zf zi = 0 ∨ (isn 5 zj = 0 ∧ ¬ zj = nI 5)) : jK g Y_M_kept (3, 66) [.ref (jb g + 85), .int (zk), .int (zf), .int (zi), .int (zj)] V L (jA0 (some (.int (nI 0))) (vu V 85 0 1) L) := by
  refine jK_entry (by decide +kernel) rfl (Nat.le_of_ble_eq_true rfl) ?_
  show jJ (g, Y_M_kept, (3, 66), 0, 0, jVQ g (jA0 (some (.int (nI 0))) (vu V 85 0 1) L)) [(0, .ref (jb g + 85)), (1, .int (zk)), (2, .int (zf)), (3, .int (zi)), (4, .int (zj))] (jv (g, Y_M_kept, (3, 66), 0, 0, jVQ g (jA0 (some (.int (nI 0))) (vu V 85 0 1) L)) V L 0 0) 0 []
  refine j_aload_n d_M_kept_0 rfl 0 rfl ?_
  refine j_aload_n d_M_kept_1 rfl 0 rfl ?_
  refine j_iload_n d_M_kept_2 rfl 1 rfl ?_
  refine j_iload_n d_M_kept_3 rfl 2 rfl ?_
  refine j_iload_n d_M_kept_4 rfl 3 rfl ?_
  refine v_callV d_M_kept_5 mt_M_isRow ln_M_136 im_M_isRow se_M_isRow rfl (Nat.le_of_ble_eq_true rfl) rfl rfl ⟨Nat.le_of_ble_eq_true rfl, Nat.le_of_ble_eq_true rfl⟩ (Nat.le_of_ble_eq_true rfl) rfl (Nat.zero_le _) (Nat.zero_le _) (c_M_isRow g V L hN zk zf zi) rfl ?_
  rintro _ _ _ ⟨rfl, rfl, rfl⟩
  refine n_if_eq d_M_kept_8 27 rfl (Nat.lt_of_le_of_lt (mrw_le _ _ _) (by decide)) (fun h1 => ?_) (fun h1 => ?_)
  · refine n_iconst d_M_kept_27 1 (by decide) ?_
    refine v_putI d_M_kept_28 lf_M_63 rfl (Nat.le_of_ble_eq_true rfl) rfl rfl rfl rfl ?_
    refine j_aload_n d_M_kept_31 rfl 0 rfl ?_
    refine v_getI d_M_kept_32 lf_M_63 rfl (Nat.le_of_ble_eq_true rfl) rfl ?_
    rw [vu_eq]
    refine n_iff_le d_M_kept_35 40 rfl (by decide) (by decide) ?_
    refine n_iconst d_M_kept_38 0 (by decide) ?_
    exact v_iret d_M_kept_39 rfl (Nat.zero_le _) (Nat.zero_le _) rfl jA0_rfl
  · refine j_iload d_M_kept_11 4 rfl ?_
    refine j_if_lt d_M_kept_13 27 rfl (fun h2 => ?_) (fun h2 => ?_)
    · refine n_iconst d_M_kept_27 1 (by decide) ?_
      refine v_putI d_M_kept_28 lf_M_63 rfl (Nat.le_of_ble_eq_true rfl) rfl rfl rfl rfl ?_
      refine j_aload_n d_M_kept_31 rfl 0 rfl ?_
      refine v_getI d_M_kept_32 lf_M_63 rfl (Nat.le_of_ble_eq_true rfl) rfl ?_
      rw [vu_eq]
      refine n_iff_le d_M_kept_35 40 rfl (by decide) (by decide) ?_
      refine n_iconst d_M_kept_38 0 (by decide) ?_
      exact v_iret d_M_kept_39 rfl (Nat.zero_le _) (Nat.zero_le _) rfl jA0_rfl
    · refine j_iload d_M_kept_16 4 rfl ?_
      refine n_bipush d_M_kept_18 6 (by decide) ?_
      refine j_icmp_ge d_M_kept_20 27 rfl (fun h3 => ?_) (fun h3 => ?_)
      · refine n_iconst d_M_kept_27 1 (by decide) ?_
        refine v_putI d_M_kept_28 lf_M_63 rfl (Nat.le_of_ble_eq_true rfl) rfl rfl rfl rfl ?_
        refine j_aload_n d_M_kept_31 rfl 0 rfl ?_
        refine v_getI d_M_kept_32 lf_M_63 rfl (Nat.le_of_ble_eq_true rfl) rfl ?_
        rw [vu_eq]
        refine n_iff_le d_M_kept_35 40 rfl (by decide) (by decide) ?_
        refine n_iconst d_M_kept_38 0 (by decide) ?_
        exact v_iret d_M_kept_39 rfl (Nat.zero_le _) (Nat.zero_le _) rfl jA0_rfl
      · obtain ⟨ha, hb⟩ := h.resolve_left h1
        obtain ⟨j, hj, rfl⟩ := isn_of (n := 6) (z := zj) (by decide) (by unfold isn; rw [if_pos ⟨h2, h3⟩]; decide)
        rcases Nat.lt_or_ge j 5 with h7 | h7
        · exact absurd (isn_nI (by decide) h7) (by omega)
        · exact absurd (by rw [show j = 5 from by omega]) hb
