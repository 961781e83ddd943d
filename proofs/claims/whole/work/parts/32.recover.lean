/-! recovery of two rows, of a group; the secret -/
def rtx (V : Nat → Nat → Nat) (r first lo hi j : Nat) : Nat := fti (rst V r first 0 j) ((4 - lo) * (4 - hi))
def rtb (V : Nat → Nat → Nat) (r first lo hi j : Nat) : Nat := fmi (fti (rst V r first 1 j) ((4 - lo + 1) * (4 - hi + 1))) (rtx V r first lo hi j)
def rth (V : Nat → Nat → Nat) (r first lo hi j : Nat) : Nat := fti (fmi (rtx V r first lo hi j) (fti (rtb V r first lo hi j) (4 - hi))) (jinvN (4 - lo - (4 - hi)))
def rtl (V : Nat → Nat → Nat) (r first lo hi j : Nat) : Nat := fmi (rtb V r first lo hi j) (rth V r first lo hi j)
def rc2 (V : Nat → Nat → Nat) (r first lo hi : Nat) : Nat → Nat → Nat := (vu (vu (vu (vu (vu (vu (vu (vu V (r + 1) ((first + lo) * 5 + 0) (rtl V r first lo hi 0)) (r + 1) ((first + hi) * 5 + 0) (rth V r first lo hi 0)) (r + 1) ((first + lo) * 5 + 1) (rtl V r first lo hi 1)) (r + 1) ((first + hi) * 5 + 1) (rth V r first lo hi 1)) (r + 1) ((first + lo) * 5 + 2) (rtl V r first lo hi 2)) (r + 1) ((first + hi) * 5 + 2) (rth V r first lo hi 2)) (r + 1) ((first + lo) * 5 + 3) (rtl V r first lo hi 3)) (r + 1) ((first + hi) * 5 + 3) (rth V r first lo hi 3))
theorem c_R_recoverTwo (g : jG) (V : Nat → Nat → Nat) (L : Nat → Nat → Int64) (r : Nat) (hr : jshp r = jo 5 [(r + 1) + 2]) (hn : jshp (r + 1) = .inl (0, 120)) (hlt : r + 1 < 104) (first lo hi : Nat) (hf : first + 6 ≤ 24) (hlo : lo < hi) (hhi : hi < 4) (hV : ∀ i, i < 120 → V (r + 1) i < 2147483647) : jK g Y_R_recoverTwo (3, 70) [.ref (jb g + r), .int (nI first), .int (nI lo), .int (nI hi)] V L (jA0 none (rc2 V r first lo hi) L) := by
  refine jK_entry (by decide +kernel) rfl (Nat.le_of_ble_eq_true rfl) ?_
  show jJ (g, Y_R_recoverTwo, (3, 70), 0, 0, jVQ g (jA0 none (rc2 V r first lo hi) L)) [(0, .ref (jb g + r)), (1, .int (nI first)), (2, .int (nI lo)), (3, .int (nI hi))] (jv (g, Y_R_recoverTwo, (3, 70), 0, 0, jVQ g (jA0 none (rc2 V r first lo hi) L)) V L 0 0) 0 []
  have hab : (4 - lo) * (4 - hi) ≤ 16 := Nat.le_trans (Nat.mul_le_mul (Nat.sub_le _ _) (Nat.sub_le _ _)) (by decide)
  have hab1 : (4 - lo + 1) * (4 - hi + 1) ≤ 25 := Nat.le_trans (Nat.mul_le_mul (show 4 - lo + 1 ≤ 5 by omega) (show 4 - hi + 1 ≤ 5 by omega)) (by decide)
  refine n_iconst d_R_recoverTwo_0 4 (by decide) ?_
  refine j_iload_n d_R_recoverTwo_1 rfl 2 rfl ?_
  refine n_sub d_R_recoverTwo_2 (by omega) ?_
  refine j_istore d_R_recoverTwo_3 (i := 4) (Nat.le_of_ble_eq_true rfl) (lv' := [_, _, _, _, _]) rfl ?_
  refine n_iconst d_R_recoverTwo_5 4 (by decide) ?_
  refine j_iload_n d_R_recoverTwo_6 rfl 4 rfl ?_
  refine n_sub d_R_recoverTwo_7 (by omega) ?_
  refine j_istore d_R_recoverTwo_8 (i := 5) (Nat.le_of_ble_eq_true rfl) (lv' := [_, _, _, _, _, _]) rfl ?_
  refine n_iconst d_R_recoverTwo_10 0 (by decide) ?_
  refine j_istore d_R_recoverTwo_11 (i := 6) (Nat.le_of_ble_eq_true rfl) (lv' := [_, _, _, _, _, _, _]) rfl ?_
  refine j_iload d_R_recoverTwo_13 0 rfl ?_
  refine n_iconst d_R_recoverTwo_15 4 (by decide) ?_
  refine n_icmp_ge d_R_recoverTwo_16 123 rfl (by omega) (by omega) (fun h => absurd h (by omega)) (fun h => ?_)
  refine j_aload_n d_R_recoverTwo_19 rfl 3 rfl ?_
  refine j_iload_n d_R_recoverTwo_20 rfl 4 rfl ?_
  refine n_iconst d_R_recoverTwo_21 0 (by decide) ?_
  refine j_iload d_R_recoverTwo_22 0 rfl ?_
  refine v_callV d_R_recoverTwo_24 mt_R_rest ln_R_58 im_R_rest se_R_rest hr (Nat.lt_of_succ_lt hlt) rfl rfl ⟨Nat.le_of_ble_eq_true rfl, Nat.le_of_ble_eq_true rfl⟩ (Nat.le_of_ble_eq_true rfl) rfl (Nat.zero_le _) (Nat.zero_le _) (c_R_rest g V L r hr hn hlt first 0 0 hf (by omega) (by omega) hV) rfl ?_
  rintro _ _ _ ⟨rfl, rfl, rfl⟩
  rw [show fmi (V (r + 1) ((first + 4 + 0) * 5 + 0)) (cwd (fun q => V (r + 1) ((first + q) * 5 + 0)) 0) = rst V r first 0 0 from rst_eq (fun i hi => rfl)]
  refine j_iload d_R_recoverTwo_27 2 rfl ?_
  refine j_iload d_R_recoverTwo_29 1 rfl ?_
  refine n_mul d_R_recoverTwo_31 ?_
  refine v_callS d_R_recoverTwo_32 mt_F_times ln_R_38 sm_F_times ⟨Nat.le_of_ble_eq_true rfl, Nat.le_of_ble_eq_true rfl⟩ (Nat.le_of_ble_eq_true rfl) rfl (Nat.zero_le _) (Nat.zero_le _) (c_F_ti g V L (rst V r first 0 0) ((4 - lo) * (4 - hi)) (Nat.lt_of_lt_of_le (fmi_lt _ _) (by decide)) (by omega)) rfl ?_
  rintro _ _ _ ⟨rfl, rfl, rfl⟩
  refine j_istore d_R_recoverTwo_35 (i := 7) (Nat.le_of_ble_eq_true rfl) (lv' := [_, _, _, _, _, _, _, _]) rfl ?_
  refine j_aload_n d_R_recoverTwo_37 rfl 4 rfl ?_
  refine j_iload_n d_R_recoverTwo_38 rfl 5 rfl ?_
  refine n_iconst d_R_recoverTwo_39 1 (by decide) ?_
  refine j_iload d_R_recoverTwo_40 1 rfl ?_
  refine v_callV d_R_recoverTwo_42 mt_R_rest ln_R_58 im_R_rest se_R_rest hr (Nat.lt_of_succ_lt hlt) rfl rfl ⟨Nat.le_of_ble_eq_true rfl, Nat.le_of_ble_eq_true rfl⟩ (Nat.le_of_ble_eq_true rfl) rfl (Nat.zero_le _) (Nat.zero_le _) (c_R_rest g V L r hr hn hlt first 1 0 hf (by omega) (by omega) hV) rfl ?_
  rintro _ _ _ ⟨rfl, rfl, rfl⟩
  rw [show fmi (V (r + 1) ((first + 4 + 1) * 5 + 0)) (cwd (fun q => V (r + 1) ((first + q) * 5 + 0)) 1) = rst V r first 1 0 from rst_eq (fun i hi => rfl)]
  refine j_iload d_R_recoverTwo_45 3 rfl ?_
  refine n_iconst d_R_recoverTwo_47 1 (by decide) ?_
  refine n_add d_R_recoverTwo_48 ?_
  refine j_iload d_R_recoverTwo_49 2 rfl ?_
  refine n_iconst d_R_recoverTwo_51 1 (by decide) ?_
  refine n_add d_R_recoverTwo_52 ?_
  refine n_mul d_R_recoverTwo_53 ?_
  refine v_callS d_R_recoverTwo_54 mt_F_times ln_R_38 sm_F_times ⟨Nat.le_of_ble_eq_true rfl, Nat.le_of_ble_eq_true rfl⟩ (Nat.le_of_ble_eq_true rfl) rfl (Nat.zero_le _) (Nat.zero_le _) (c_F_ti g V L (rst V r first 1 0) ((4 - lo + 1) * (4 - hi + 1)) (Nat.lt_of_lt_of_le (fmi_lt _ _) (by decide)) (by omega)) rfl ?_
  rintro _ _ _ ⟨rfl, rfl, rfl⟩
  refine j_iload d_R_recoverTwo_57 0 rfl ?_
  refine v_callS d_R_recoverTwo_59 mt_F_minus ln_R_61 sm_F_minus ⟨Nat.le_of_ble_eq_true rfl, Nat.le_of_ble_eq_true rfl⟩ (Nat.le_of_ble_eq_true rfl) rfl (Nat.zero_le _) (Nat.zero_le _) (c_F_mi g V L (fti (rst V r first 1 0) ((4 - lo + 1) * (4 - hi + 1))) (rtx V r first lo hi 0) (fti_lt _ _) (fti_lt _ _)) rfl ?_
  rintro _ _ _ ⟨rfl, rfl, rfl⟩
  refine j_istore d_R_recoverTwo_62 (i := 8) (Nat.le_of_ble_eq_true rfl) (lv' := [_, _, _, _, _, _, _, _, _]) rfl ?_
  refine j_iload d_R_recoverTwo_64 1 rfl ?_
  refine j_iload d_R_recoverTwo_66 0 rfl ?_
  refine j_iload d_R_recoverTwo_68 3 rfl ?_
  refine v_callS d_R_recoverTwo_70 mt_F_times ln_R_38 sm_F_times ⟨Nat.le_of_ble_eq_true rfl, Nat.le_of_ble_eq_true rfl⟩ (Nat.le_of_ble_eq_true rfl) rfl (Nat.zero_le _) (Nat.zero_le _) (c_F_ti g V L (rtb V r first lo hi 0) (4 - hi) (Nat.lt_of_lt_of_le (fmi_lt _ _) (by decide)) (by omega)) rfl ?_
  rintro _ _ _ ⟨rfl, rfl, rfl⟩
  refine v_callS d_R_recoverTwo_73 mt_F_minus ln_R_61 sm_F_minus ⟨Nat.le_of_ble_eq_true rfl, Nat.le_of_ble_eq_true rfl⟩ (Nat.le_of_ble_eq_true rfl) rfl (Nat.zero_le _) (Nat.zero_le _) (c_F_mi g V L (rtx V r first lo hi 0) (fti (rtb V r first lo hi 0) (4 - hi)) (fti_lt _ _) (fti_lt _ _)) rfl ?_
  rintro _ _ _ ⟨rfl, rfl, rfl⟩
  refine j_gets d_R_recoverTwo_76 li_R_33 ?_
  refine j_iload d_R_recoverTwo_79 4 rfl ?_
  refine j_iload d_R_recoverTwo_81 3 rfl ?_
  refine n_sub d_R_recoverTwo_83 (by omega) ?_
  refine v_inv d_R_recoverTwo_84 rfl (by omega) ?_
  refine v_callS d_R_recoverTwo_85 mt_F_times ln_R_38 sm_F_times ⟨Nat.le_of_ble_eq_true rfl, Nat.le_of_ble_eq_true rfl⟩ (Nat.le_of_ble_eq_true rfl) rfl (Nat.zero_le _) (Nat.zero_le _) (c_F_ti g V L (fmi (rtx V r first lo hi 0) (fti (rtb V r first lo hi 0) (4 - hi))) (jinvN (4 - lo - (4 - hi))) (Nat.lt_of_lt_of_le (fmi_lt _ _) (by decide)) (Nat.lt_of_lt_of_le (jinvN_lt _) (by decide))) rfl ?_
  rintro _ _ _ ⟨rfl, rfl, rfl⟩
  refine j_istore d_R_recoverTwo_88 (i := 9) (Nat.le_of_ble_eq_true rfl) (lv' := [_, _, _, _, _, _, _, _, _, _]) rfl ?_
  refine j_aload_n d_R_recoverTwo_90 rfl 6 rfl ?_
  refine j_iload_n d_R_recoverTwo_91 rfl 7 rfl ?_
  refine j_iload_n d_R_recoverTwo_92 rfl 8 rfl ?_
  refine n_add d_R_recoverTwo_93 ?_
  refine j_iload d_R_recoverTwo_94 3 rfl ?_
  refine j_iload d_R_recoverTwo_96 1 rfl ?_
  refine j_iload d_R_recoverTwo_98 0 rfl ?_
  refine v_callS d_R_recoverTwo_100 mt_F_minus ln_R_61 sm_F_minus ⟨Nat.le_of_ble_eq_true rfl, Nat.le_of_ble_eq_true rfl⟩ (Nat.le_of_ble_eq_true rfl) rfl (Nat.zero_le _) (Nat.zero_le _) (c_F_mi g V L (rtb V r first lo hi 0) (rth V r first lo hi 0) (fmi_lt _ _) (fti_lt _ _)) rfl ?_
  rintro _ _ _ ⟨rfl, rfl, rfl⟩
  refine v_callV d_R_recoverTwo_103 mt_R_set ln_R_21 im_R_set se_R_set hr (Nat.lt_of_succ_lt hlt) rfl rfl ⟨Nat.le_of_ble_eq_true rfl, Nat.le_of_ble_eq_true rfl⟩ (Nat.le_of_ble_eq_true rfl) rfl (Nat.zero_le _) (Nat.zero_le _) (c_R_set g V L r hr hn hlt (first + lo) 0 (by omega) (by omega) (rtl V r first lo hi 0)) rfl ?_
  rintro _ _ _ ⟨rfl, rfl, rfl⟩
  refine j_aload_n d_R_recoverTwo_106 rfl 6 rfl ?_
  refine j_iload_n d_R_recoverTwo_107 rfl 7 rfl ?_
  refine j_iload_n d_R_recoverTwo_108 rfl 9 rfl ?_
  refine n_add d_R_recoverTwo_109 ?_
  refine j_iload d_R_recoverTwo_110 3 rfl ?_
  refine j_iload d_R_recoverTwo_112 0 rfl ?_
  refine v_callV d_R_recoverTwo_114 mt_R_set ln_R_21 im_R_set se_R_set hr (Nat.lt_of_succ_lt hlt) rfl rfl ⟨Nat.le_of_ble_eq_true rfl, Nat.le_of_ble_eq_true rfl⟩ (Nat.le_of_ble_eq_true rfl) rfl (Nat.zero_le _) (Nat.zero_le _) (c_R_set g (vu V (r + 1) ((first + lo) * 5 + 0) (rtl V r first lo hi 0)) L r hr hn hlt (first + hi) 0 (by omega) (by omega) (rth V r first lo hi 0)) rfl ?_
  rintro _ _ _ ⟨rfl, rfl, rfl⟩
  refine j_lv [6, 7, 8, 9, 5, 4, 3] rfl ?_
  refine n_iinc d_R_recoverTwo_117 1 (by decide) 6 rfl (Nat.le_of_ble_eq_true rfl) (lv' := [(6, .int (nI 1)), _, _, _, _, _, _]) rfl ?_
  refine j_goto d_R_recoverTwo_120 13 rfl ?_
  have hv0 : ∀ i, i < 120 → (vu (vu V (r + 1) ((first + lo) * 5 + 0) (rtl V r first lo hi 0)) (r + 1) ((first + hi) * 5 + 0) (rth V r first lo hi 0)) (r + 1) i < 2147483647 := fun i hi => by
    unfold vu
    repeat' split
    all_goals first | exact fmi_lt _ _ | exact fti_lt _ _ | exact hV i hi
  refine j_iload d_R_recoverTwo_13 0 rfl ?_
  refine n_iconst d_R_recoverTwo_15 4 (by decide) ?_
  refine n_icmp_ge d_R_recoverTwo_16 123 rfl (by omega) (by omega) (fun h => absurd h (by omega)) (fun h => ?_)
  refine j_aload_n d_R_recoverTwo_19 rfl 1 rfl ?_
  refine j_iload_n d_R_recoverTwo_20 rfl 2 rfl ?_
  refine n_iconst d_R_recoverTwo_21 0 (by decide) ?_
  refine j_iload d_R_recoverTwo_22 0 rfl ?_
  refine v_callV d_R_recoverTwo_24 mt_R_rest ln_R_58 im_R_rest se_R_rest hr (Nat.lt_of_succ_lt hlt) rfl rfl ⟨Nat.le_of_ble_eq_true rfl, Nat.le_of_ble_eq_true rfl⟩ (Nat.le_of_ble_eq_true rfl) rfl (Nat.zero_le _) (Nat.zero_le _) (c_R_rest g (vu (vu V (r + 1) ((first + lo) * 5 + 0) (rtl V r first lo hi 0)) (r + 1) ((first + hi) * 5 + 0) (rth V r first lo hi 0)) L r hr hn hlt first 0 1 hf (by omega) (by omega) hv0) rfl ?_
  rintro _ _ _ ⟨rfl, rfl, rfl⟩
  rw [show fmi ((vu (vu V (r + 1) ((first + lo) * 5 + 0) (rtl V r first lo hi 0)) (r + 1) ((first + hi) * 5 + 0) (rth V r first lo hi 0)) (r + 1) ((first + 4 + 0) * 5 + 1)) (cwd (fun q => (vu (vu V (r + 1) ((first + lo) * 5 + 0) (rtl V r first lo hi 0)) (r + 1) ((first + hi) * 5 + 0) (rth V r first lo hi 0)) (r + 1) ((first + q) * 5 + 1)) 0) = rst V r first 0 1 from rst_eq (fun i hi => by rw [vu_ne _ _ (by omega), vu_ne _ _ (by omega)])]
  refine j_iload d_R_recoverTwo_27 5 rfl ?_
  refine j_iload d_R_recoverTwo_29 6 rfl ?_
  refine n_mul d_R_recoverTwo_31 ?_
  refine v_callS d_R_recoverTwo_32 mt_F_times ln_R_38 sm_F_times ⟨Nat.le_of_ble_eq_true rfl, Nat.le_of_ble_eq_true rfl⟩ (Nat.le_of_ble_eq_true rfl) rfl (Nat.zero_le _) (Nat.zero_le _) (c_F_ti g (vu (vu V (r + 1) ((first + lo) * 5 + 0) (rtl V r first lo hi 0)) (r + 1) ((first + hi) * 5 + 0) (rth V r first lo hi 0)) L (rst V r first 0 1) ((4 - lo) * (4 - hi)) (Nat.lt_of_lt_of_le (fmi_lt _ _) (by decide)) (by omega)) rfl ?_
  rintro _ _ _ ⟨rfl, rfl, rfl⟩
  refine j_istore d_R_recoverTwo_35 (i := 7) (Nat.le_of_ble_eq_true rfl) (lv' := [_, _, _, _, _, _, _, _]) rfl ?_
  refine j_aload_n d_R_recoverTwo_37 rfl 2 rfl ?_
  refine j_iload_n d_R_recoverTwo_38 rfl 3 rfl ?_
  refine n_iconst d_R_recoverTwo_39 1 (by decide) ?_
  refine j_iload d_R_recoverTwo_40 1 rfl ?_
  refine v_callV d_R_recoverTwo_42 mt_R_rest ln_R_58 im_R_rest se_R_rest hr (Nat.lt_of_succ_lt hlt) rfl rfl ⟨Nat.le_of_ble_eq_true rfl, Nat.le_of_ble_eq_true rfl⟩ (Nat.le_of_ble_eq_true rfl) rfl (Nat.zero_le _) (Nat.zero_le _) (c_R_rest g (vu (vu V (r + 1) ((first + lo) * 5 + 0) (rtl V r first lo hi 0)) (r + 1) ((first + hi) * 5 + 0) (rth V r first lo hi 0)) L r hr hn hlt first 1 1 hf (by omega) (by omega) hv0) rfl ?_
  rintro _ _ _ ⟨rfl, rfl, rfl⟩
  rw [show fmi ((vu (vu V (r + 1) ((first + lo) * 5 + 0) (rtl V r first lo hi 0)) (r + 1) ((first + hi) * 5 + 0) (rth V r first lo hi 0)) (r + 1) ((first + 4 + 1) * 5 + 1)) (cwd (fun q => (vu (vu V (r + 1) ((first + lo) * 5 + 0) (rtl V r first lo hi 0)) (r + 1) ((first + hi) * 5 + 0) (rth V r first lo hi 0)) (r + 1) ((first + q) * 5 + 1)) 1) = rst V r first 1 1 from rst_eq (fun i hi => by rw [vu_ne _ _ (by omega), vu_ne _ _ (by omega)])]
  refine j_iload d_R_recoverTwo_45 6 rfl ?_
  refine n_iconst d_R_recoverTwo_47 1 (by decide) ?_
  refine n_add d_R_recoverTwo_48 ?_
  refine j_iload d_R_recoverTwo_49 7 rfl ?_
  refine n_iconst d_R_recoverTwo_51 1 (by decide) ?_
  refine n_add d_R_recoverTwo_52 ?_
  refine n_mul d_R_recoverTwo_53 ?_
  refine v_callS d_R_recoverTwo_54 mt_F_times ln_R_38 sm_F_times ⟨Nat.le_of_ble_eq_true rfl, Nat.le_of_ble_eq_true rfl⟩ (Nat.le_of_ble_eq_true rfl) rfl (Nat.zero_le _) (Nat.zero_le _) (c_F_ti g (vu (vu V (r + 1) ((first + lo) * 5 + 0) (rtl V r first lo hi 0)) (r + 1) ((first + hi) * 5 + 0) (rth V r first lo hi 0)) L (rst V r first 1 1) ((4 - lo + 1) * (4 - hi + 1)) (Nat.lt_of_lt_of_le (fmi_lt _ _) (by decide)) (by omega)) rfl ?_
  rintro _ _ _ ⟨rfl, rfl, rfl⟩
  refine j_iload d_R_recoverTwo_57 0 rfl ?_
  refine v_callS d_R_recoverTwo_59 mt_F_minus ln_R_61 sm_F_minus ⟨Nat.le_of_ble_eq_true rfl, Nat.le_of_ble_eq_true rfl⟩ (Nat.le_of_ble_eq_true rfl) rfl (Nat.zero_le _) (Nat.zero_le _) (c_F_mi g (vu (vu V (r + 1) ((first + lo) * 5 + 0) (rtl V r first lo hi 0)) (r + 1) ((first + hi) * 5 + 0) (rth V r first lo hi 0)) L (fti (rst V r first 1 1) ((4 - lo + 1) * (4 - hi + 1))) (rtx V r first lo hi 1) (fti_lt _ _) (fti_lt _ _)) rfl ?_
  rintro _ _ _ ⟨rfl, rfl, rfl⟩
  refine j_istore d_R_recoverTwo_62 (i := 8) (Nat.le_of_ble_eq_true rfl) (lv' := [_, _, _, _, _, _, _, _, _]) rfl ?_
  refine j_iload d_R_recoverTwo_64 1 rfl ?_
  refine j_iload d_R_recoverTwo_66 0 rfl ?_
  refine j_iload d_R_recoverTwo_68 8 rfl ?_
  refine v_callS d_R_recoverTwo_70 mt_F_times ln_R_38 sm_F_times ⟨Nat.le_of_ble_eq_true rfl, Nat.le_of_ble_eq_true rfl⟩ (Nat.le_of_ble_eq_true rfl) rfl (Nat.zero_le _) (Nat.zero_le _) (c_F_ti g (vu (vu V (r + 1) ((first + lo) * 5 + 0) (rtl V r first lo hi 0)) (r + 1) ((first + hi) * 5 + 0) (rth V r first lo hi 0)) L (rtb V r first lo hi 1) (4 - hi) (Nat.lt_of_lt_of_le (fmi_lt _ _) (by decide)) (by omega)) rfl ?_
  rintro _ _ _ ⟨rfl, rfl, rfl⟩
  refine v_callS d_R_recoverTwo_73 mt_F_minus ln_R_61 sm_F_minus ⟨Nat.le_of_ble_eq_true rfl, Nat.le_of_ble_eq_true rfl⟩ (Nat.le_of_ble_eq_true rfl) rfl (Nat.zero_le _) (Nat.zero_le _) (c_F_mi g (vu (vu V (r + 1) ((first + lo) * 5 + 0) (rtl V r first lo hi 0)) (r + 1) ((first + hi) * 5 + 0) (rth V r first lo hi 0)) L (rtx V r first lo hi 1) (fti (rtb V r first lo hi 1) (4 - hi)) (fti_lt _ _) (fti_lt _ _)) rfl ?_
  rintro _ _ _ ⟨rfl, rfl, rfl⟩
  refine j_gets d_R_recoverTwo_76 li_R_33 ?_
  refine j_iload d_R_recoverTwo_79 7 rfl ?_
  refine j_iload d_R_recoverTwo_81 8 rfl ?_
  refine n_sub d_R_recoverTwo_83 (by omega) ?_
  refine v_inv d_R_recoverTwo_84 rfl (by omega) ?_
  refine v_callS d_R_recoverTwo_85 mt_F_times ln_R_38 sm_F_times ⟨Nat.le_of_ble_eq_true rfl, Nat.le_of_ble_eq_true rfl⟩ (Nat.le_of_ble_eq_true rfl) rfl (Nat.zero_le _) (Nat.zero_le _) (c_F_ti g (vu (vu V (r + 1) ((first + lo) * 5 + 0) (rtl V r first lo hi 0)) (r + 1) ((first + hi) * 5 + 0) (rth V r first lo hi 0)) L (fmi (rtx V r first lo hi 1) (fti (rtb V r first lo hi 1) (4 - hi))) (jinvN (4 - lo - (4 - hi))) (Nat.lt_of_lt_of_le (fmi_lt _ _) (by decide)) (Nat.lt_of_lt_of_le (jinvN_lt _) (by decide))) rfl ?_
  rintro _ _ _ ⟨rfl, rfl, rfl⟩
  refine j_istore d_R_recoverTwo_88 (i := 9) (Nat.le_of_ble_eq_true rfl) (lv' := [_, _, _, _, _, _, _, _, _, _]) rfl ?_
  refine j_aload_n d_R_recoverTwo_90 rfl 4 rfl ?_
  refine j_iload_n d_R_recoverTwo_91 rfl 5 rfl ?_
  refine j_iload_n d_R_recoverTwo_92 rfl 6 rfl ?_
  refine n_add d_R_recoverTwo_93 ?_
  refine j_iload d_R_recoverTwo_94 3 rfl ?_
  refine j_iload d_R_recoverTwo_96 1 rfl ?_
  refine j_iload d_R_recoverTwo_98 0 rfl ?_
  refine v_callS d_R_recoverTwo_100 mt_F_minus ln_R_61 sm_F_minus ⟨Nat.le_of_ble_eq_true rfl, Nat.le_of_ble_eq_true rfl⟩ (Nat.le_of_ble_eq_true rfl) rfl (Nat.zero_le _) (Nat.zero_le _) (c_F_mi g (vu (vu V (r + 1) ((first + lo) * 5 + 0) (rtl V r first lo hi 0)) (r + 1) ((first + hi) * 5 + 0) (rth V r first lo hi 0)) L (rtb V r first lo hi 1) (rth V r first lo hi 1) (fmi_lt _ _) (fti_lt _ _)) rfl ?_
  rintro _ _ _ ⟨rfl, rfl, rfl⟩
  refine v_callV d_R_recoverTwo_103 mt_R_set ln_R_21 im_R_set se_R_set hr (Nat.lt_of_succ_lt hlt) rfl rfl ⟨Nat.le_of_ble_eq_true rfl, Nat.le_of_ble_eq_true rfl⟩ (Nat.le_of_ble_eq_true rfl) rfl (Nat.zero_le _) (Nat.zero_le _) (c_R_set g (vu (vu V (r + 1) ((first + lo) * 5 + 0) (rtl V r first lo hi 0)) (r + 1) ((first + hi) * 5 + 0) (rth V r first lo hi 0)) L r hr hn hlt (first + lo) 1 (by omega) (by omega) (rtl V r first lo hi 1)) rfl ?_
  rintro _ _ _ ⟨rfl, rfl, rfl⟩
  refine j_aload_n d_R_recoverTwo_106 rfl 4 rfl ?_
  refine j_iload_n d_R_recoverTwo_107 rfl 5 rfl ?_
  refine j_iload_n d_R_recoverTwo_108 rfl 7 rfl ?_
  refine n_add d_R_recoverTwo_109 ?_
  refine j_iload d_R_recoverTwo_110 3 rfl ?_
  refine j_iload d_R_recoverTwo_112 0 rfl ?_
  refine v_callV d_R_recoverTwo_114 mt_R_set ln_R_21 im_R_set se_R_set hr (Nat.lt_of_succ_lt hlt) rfl rfl ⟨Nat.le_of_ble_eq_true rfl, Nat.le_of_ble_eq_true rfl⟩ (Nat.le_of_ble_eq_true rfl) rfl (Nat.zero_le _) (Nat.zero_le _) (c_R_set g (vu (vu (vu V (r + 1) ((first + lo) * 5 + 0) (rtl V r first lo hi 0)) (r + 1) ((first + hi) * 5 + 0) (rth V r first lo hi 0)) (r + 1) ((first + lo) * 5 + 1) (rtl V r first lo hi 1)) L r hr hn hlt (first + hi) 1 (by omega) (by omega) (rth V r first lo hi 1)) rfl ?_
  rintro _ _ _ ⟨rfl, rfl, rfl⟩
  refine j_lv [4, 5, 6, 7, 8, 9, 3] rfl ?_
  refine n_iinc d_R_recoverTwo_117 1 (by decide) 6 rfl (Nat.le_of_ble_eq_true rfl) (lv' := [(6, .int (nI 2)), _, _, _, _, _, _]) rfl ?_
  refine j_goto d_R_recoverTwo_120 13 rfl ?_
  have hv1 : ∀ i, i < 120 → (vu (vu (vu (vu V (r + 1) ((first + lo) * 5 + 0) (rtl V r first lo hi 0)) (r + 1) ((first + hi) * 5 + 0) (rth V r first lo hi 0)) (r + 1) ((first + lo) * 5 + 1) (rtl V r first lo hi 1)) (r + 1) ((first + hi) * 5 + 1) (rth V r first lo hi 1)) (r + 1) i < 2147483647 := fun i hi => by
    unfold vu
    repeat' split
    all_goals first | exact fmi_lt _ _ | exact fti_lt _ _ | exact hV i hi
  refine j_iload d_R_recoverTwo_13 0 rfl ?_
  refine n_iconst d_R_recoverTwo_15 4 (by decide) ?_
  refine n_icmp_ge d_R_recoverTwo_16 123 rfl (by omega) (by omega) (fun h => absurd h (by omega)) (fun h => ?_)
  refine j_aload_n d_R_recoverTwo_19 rfl 1 rfl ?_
  refine j_iload_n d_R_recoverTwo_20 rfl 2 rfl ?_
  refine n_iconst d_R_recoverTwo_21 0 (by decide) ?_
  refine j_iload d_R_recoverTwo_22 0 rfl ?_
  refine v_callV d_R_recoverTwo_24 mt_R_rest ln_R_58 im_R_rest se_R_rest hr (Nat.lt_of_succ_lt hlt) rfl rfl ⟨Nat.le_of_ble_eq_true rfl, Nat.le_of_ble_eq_true rfl⟩ (Nat.le_of_ble_eq_true rfl) rfl (Nat.zero_le _) (Nat.zero_le _) (c_R_rest g (vu (vu (vu (vu V (r + 1) ((first + lo) * 5 + 0) (rtl V r first lo hi 0)) (r + 1) ((first + hi) * 5 + 0) (rth V r first lo hi 0)) (r + 1) ((first + lo) * 5 + 1) (rtl V r first lo hi 1)) (r + 1) ((first + hi) * 5 + 1) (rth V r first lo hi 1)) L r hr hn hlt first 0 2 hf (by omega) (by omega) hv1) rfl ?_
  rintro _ _ _ ⟨rfl, rfl, rfl⟩
  rw [show fmi ((vu (vu (vu (vu V (r + 1) ((first + lo) * 5 + 0) (rtl V r first lo hi 0)) (r + 1) ((first + hi) * 5 + 0) (rth V r first lo hi 0)) (r + 1) ((first + lo) * 5 + 1) (rtl V r first lo hi 1)) (r + 1) ((first + hi) * 5 + 1) (rth V r first lo hi 1)) (r + 1) ((first + 4 + 0) * 5 + 2)) (cwd (fun q => (vu (vu (vu (vu V (r + 1) ((first + lo) * 5 + 0) (rtl V r first lo hi 0)) (r + 1) ((first + hi) * 5 + 0) (rth V r first lo hi 0)) (r + 1) ((first + lo) * 5 + 1) (rtl V r first lo hi 1)) (r + 1) ((first + hi) * 5 + 1) (rth V r first lo hi 1)) (r + 1) ((first + q) * 5 + 2)) 0) = rst V r first 0 2 from rst_eq (fun i hi => by rw [vu_ne _ _ (by omega), vu_ne _ _ (by omega), vu_ne _ _ (by omega), vu_ne _ _ (by omega)])]
  refine j_iload d_R_recoverTwo_27 5 rfl ?_
  refine j_iload d_R_recoverTwo_29 6 rfl ?_
  refine n_mul d_R_recoverTwo_31 ?_
  refine v_callS d_R_recoverTwo_32 mt_F_times ln_R_38 sm_F_times ⟨Nat.le_of_ble_eq_true rfl, Nat.le_of_ble_eq_true rfl⟩ (Nat.le_of_ble_eq_true rfl) rfl (Nat.zero_le _) (Nat.zero_le _) (c_F_ti g (vu (vu (vu (vu V (r + 1) ((first + lo) * 5 + 0) (rtl V r first lo hi 0)) (r + 1) ((first + hi) * 5 + 0) (rth V r first lo hi 0)) (r + 1) ((first + lo) * 5 + 1) (rtl V r first lo hi 1)) (r + 1) ((first + hi) * 5 + 1) (rth V r first lo hi 1)) L (rst V r first 0 2) ((4 - lo) * (4 - hi)) (Nat.lt_of_lt_of_le (fmi_lt _ _) (by decide)) (by omega)) rfl ?_
  rintro _ _ _ ⟨rfl, rfl, rfl⟩
  refine j_istore d_R_recoverTwo_35 (i := 7) (Nat.le_of_ble_eq_true rfl) (lv' := [_, _, _, _, _, _, _, _]) rfl ?_
  refine j_aload_n d_R_recoverTwo_37 rfl 2 rfl ?_
  refine j_iload_n d_R_recoverTwo_38 rfl 3 rfl ?_
  refine n_iconst d_R_recoverTwo_39 1 (by decide) ?_
  refine j_iload d_R_recoverTwo_40 1 rfl ?_
  refine v_callV d_R_recoverTwo_42 mt_R_rest ln_R_58 im_R_rest se_R_rest hr (Nat.lt_of_succ_lt hlt) rfl rfl ⟨Nat.le_of_ble_eq_true rfl, Nat.le_of_ble_eq_true rfl⟩ (Nat.le_of_ble_eq_true rfl) rfl (Nat.zero_le _) (Nat.zero_le _) (c_R_rest g (vu (vu (vu (vu V (r + 1) ((first + lo) * 5 + 0) (rtl V r first lo hi 0)) (r + 1) ((first + hi) * 5 + 0) (rth V r first lo hi 0)) (r + 1) ((first + lo) * 5 + 1) (rtl V r first lo hi 1)) (r + 1) ((first + hi) * 5 + 1) (rth V r first lo hi 1)) L r hr hn hlt first 1 2 hf (by omega) (by omega) hv1) rfl ?_
  rintro _ _ _ ⟨rfl, rfl, rfl⟩
  rw [show fmi ((vu (vu (vu (vu V (r + 1) ((first + lo) * 5 + 0) (rtl V r first lo hi 0)) (r + 1) ((first + hi) * 5 + 0) (rth V r first lo hi 0)) (r + 1) ((first + lo) * 5 + 1) (rtl V r first lo hi 1)) (r + 1) ((first + hi) * 5 + 1) (rth V r first lo hi 1)) (r + 1) ((first + 4 + 1) * 5 + 2)) (cwd (fun q => (vu (vu (vu (vu V (r + 1) ((first + lo) * 5 + 0) (rtl V r first lo hi 0)) (r + 1) ((first + hi) * 5 + 0) (rth V r first lo hi 0)) (r + 1) ((first + lo) * 5 + 1) (rtl V r first lo hi 1)) (r + 1) ((first + hi) * 5 + 1) (rth V r first lo hi 1)) (r + 1) ((first + q) * 5 + 2)) 1) = rst V r first 1 2 from rst_eq (fun i hi => by rw [vu_ne _ _ (by omega), vu_ne _ _ (by omega), vu_ne _ _ (by omega), vu_ne _ _ (by omega)])]
  refine j_iload d_R_recoverTwo_45 6 rfl ?_
  refine n_iconst d_R_recoverTwo_47 1 (by decide) ?_
  refine n_add d_R_recoverTwo_48 ?_
  refine j_iload d_R_recoverTwo_49 7 rfl ?_
  refine n_iconst d_R_recoverTwo_51 1 (by decide) ?_
  refine n_add d_R_recoverTwo_52 ?_
  refine n_mul d_R_recoverTwo_53 ?_
  refine v_callS d_R_recoverTwo_54 mt_F_times ln_R_38 sm_F_times ⟨Nat.le_of_ble_eq_true rfl, Nat.le_of_ble_eq_true rfl⟩ (Nat.le_of_ble_eq_true rfl) rfl (Nat.zero_le _) (Nat.zero_le _) (c_F_ti g (vu (vu (vu (vu V (r + 1) ((first + lo) * 5 + 0) (rtl V r first lo hi 0)) (r + 1) ((first + hi) * 5 + 0) (rth V r first lo hi 0)) (r + 1) ((first + lo) * 5 + 1) (rtl V r first lo hi 1)) (r + 1) ((first + hi) * 5 + 1) (rth V r first lo hi 1)) L (rst V r first 1 2) ((4 - lo + 1) * (4 - hi + 1)) (Nat.lt_of_lt_of_le (fmi_lt _ _) (by decide)) (by omega)) rfl ?_
  rintro _ _ _ ⟨rfl, rfl, rfl⟩
  refine j_iload d_R_recoverTwo_57 0 rfl ?_
  refine v_callS d_R_recoverTwo_59 mt_F_minus ln_R_61 sm_F_minus ⟨Nat.le_of_ble_eq_true rfl, Nat.le_of_ble_eq_true rfl⟩ (Nat.le_of_ble_eq_true rfl) rfl (Nat.zero_le _) (Nat.zero_le _) (c_F_mi g (vu (vu (vu (vu V (r + 1) ((first + lo) * 5 + 0) (rtl V r first lo hi 0)) (r + 1) ((first + hi) * 5 + 0) (rth V r first lo hi 0)) (r + 1) ((first + lo) * 5 + 1) (rtl V r first lo hi 1)) (r + 1) ((first + hi) * 5 + 1) (rth V r first lo hi 1)) L (fti (rst V r first 1 2) ((4 - lo + 1) * (4 - hi + 1))) (rtx V r first lo hi 2) (fti_lt _ _) (fti_lt _ _)) rfl ?_
  rintro _ _ _ ⟨rfl, rfl, rfl⟩
  refine j_istore d_R_recoverTwo_62 (i := 8) (Nat.le_of_ble_eq_true rfl) (lv' := [_, _, _, _, _, _, _, _, _]) rfl ?_
  refine j_iload d_R_recoverTwo_64 1 rfl ?_
  refine j_iload d_R_recoverTwo_66 0 rfl ?_
  refine j_iload d_R_recoverTwo_68 8 rfl ?_
  refine v_callS d_R_recoverTwo_70 mt_F_times ln_R_38 sm_F_times ⟨Nat.le_of_ble_eq_true rfl, Nat.le_of_ble_eq_true rfl⟩ (Nat.le_of_ble_eq_true rfl) rfl (Nat.zero_le _) (Nat.zero_le _) (c_F_ti g (vu (vu (vu (vu V (r + 1) ((first + lo) * 5 + 0) (rtl V r first lo hi 0)) (r + 1) ((first + hi) * 5 + 0) (rth V r first lo hi 0)) (r + 1) ((first + lo) * 5 + 1) (rtl V r first lo hi 1)) (r + 1) ((first + hi) * 5 + 1) (rth V r first lo hi 1)) L (rtb V r first lo hi 2) (4 - hi) (Nat.lt_of_lt_of_le (fmi_lt _ _) (by decide)) (by omega)) rfl ?_
  rintro _ _ _ ⟨rfl, rfl, rfl⟩
  refine v_callS d_R_recoverTwo_73 mt_F_minus ln_R_61 sm_F_minus ⟨Nat.le_of_ble_eq_true rfl, Nat.le_of_ble_eq_true rfl⟩ (Nat.le_of_ble_eq_true rfl) rfl (Nat.zero_le _) (Nat.zero_le _) (c_F_mi g (vu (vu (vu (vu V (r + 1) ((first + lo) * 5 + 0) (rtl V r first lo hi 0)) (r + 1) ((first + hi) * 5 + 0) (rth V r first lo hi 0)) (r + 1) ((first + lo) * 5 + 1) (rtl V r first lo hi 1)) (r + 1) ((first + hi) * 5 + 1) (rth V r first lo hi 1)) L (rtx V r first lo hi 2) (fti (rtb V r first lo hi 2) (4 - hi)) (fti_lt _ _) (fti_lt _ _)) rfl ?_
  rintro _ _ _ ⟨rfl, rfl, rfl⟩
  refine j_gets d_R_recoverTwo_76 li_R_33 ?_
  refine j_iload d_R_recoverTwo_79 7 rfl ?_
  refine j_iload d_R_recoverTwo_81 8 rfl ?_
  refine n_sub d_R_recoverTwo_83 (by omega) ?_
  refine v_inv d_R_recoverTwo_84 rfl (by omega) ?_
  refine v_callS d_R_recoverTwo_85 mt_F_times ln_R_38 sm_F_times ⟨Nat.le_of_ble_eq_true rfl, Nat.le_of_ble_eq_true rfl⟩ (Nat.le_of_ble_eq_true rfl) rfl (Nat.zero_le _) (Nat.zero_le _) (c_F_ti g (vu (vu (vu (vu V (r + 1) ((first + lo) * 5 + 0) (rtl V r first lo hi 0)) (r + 1) ((first + hi) * 5 + 0) (rth V r first lo hi 0)) (r + 1) ((first + lo) * 5 + 1) (rtl V r first lo hi 1)) (r + 1) ((first + hi) * 5 + 1) (rth V r first lo hi 1)) L (fmi (rtx V r first lo hi 2) (fti (rtb V r first lo hi 2) (4 - hi))) (jinvN (4 - lo - (4 - hi))) (Nat.lt_of_lt_of_le (fmi_lt _ _) (by decide)) (Nat.lt_of_lt_of_le (jinvN_lt _) (by decide))) rfl ?_
  rintro _ _ _ ⟨rfl, rfl, rfl⟩
  refine j_istore d_R_recoverTwo_88 (i := 9) (Nat.le_of_ble_eq_true rfl) (lv' := [_, _, _, _, _, _, _, _, _, _]) rfl ?_
  refine j_aload_n d_R_recoverTwo_90 rfl 4 rfl ?_
  refine j_iload_n d_R_recoverTwo_91 rfl 5 rfl ?_
  refine j_iload_n d_R_recoverTwo_92 rfl 6 rfl ?_
  refine n_add d_R_recoverTwo_93 ?_
  refine j_iload d_R_recoverTwo_94 3 rfl ?_
  refine j_iload d_R_recoverTwo_96 1 rfl ?_
  refine j_iload d_R_recoverTwo_98 0 rfl ?_
  refine v_callS d_R_recoverTwo_100 mt_F_minus ln_R_61 sm_F_minus ⟨Nat.le_of_ble_eq_true rfl, Nat.le_of_ble_eq_true rfl⟩ (Nat.le_of_ble_eq_true rfl) rfl (Nat.zero_le _) (Nat.zero_le _) (c_F_mi g (vu (vu (vu (vu V (r + 1) ((first + lo) * 5 + 0) (rtl V r first lo hi 0)) (r + 1) ((first + hi) * 5 + 0) (rth V r first lo hi 0)) (r + 1) ((first + lo) * 5 + 1) (rtl V r first lo hi 1)) (r + 1) ((first + hi) * 5 + 1) (rth V r first lo hi 1)) L (rtb V r first lo hi 2) (rth V r first lo hi 2) (fmi_lt _ _) (fti_lt _ _)) rfl ?_
  rintro _ _ _ ⟨rfl, rfl, rfl⟩
  refine v_callV d_R_recoverTwo_103 mt_R_set ln_R_21 im_R_set se_R_set hr (Nat.lt_of_succ_lt hlt) rfl rfl ⟨Nat.le_of_ble_eq_true rfl, Nat.le_of_ble_eq_true rfl⟩ (Nat.le_of_ble_eq_true rfl) rfl (Nat.zero_le _) (Nat.zero_le _) (c_R_set g (vu (vu (vu (vu V (r + 1) ((first + lo) * 5 + 0) (rtl V r first lo hi 0)) (r + 1) ((first + hi) * 5 + 0) (rth V r first lo hi 0)) (r + 1) ((first + lo) * 5 + 1) (rtl V r first lo hi 1)) (r + 1) ((first + hi) * 5 + 1) (rth V r first lo hi 1)) L r hr hn hlt (first + lo) 2 (by omega) (by omega) (rtl V r first lo hi 2)) rfl ?_
  rintro _ _ _ ⟨rfl, rfl, rfl⟩
  refine j_aload_n d_R_recoverTwo_106 rfl 4 rfl ?_
  refine j_iload_n d_R_recoverTwo_107 rfl 5 rfl ?_
  refine j_iload_n d_R_recoverTwo_108 rfl 7 rfl ?_
  refine n_add d_R_recoverTwo_109 ?_
  refine j_iload d_R_recoverTwo_110 3 rfl ?_
  refine j_iload d_R_recoverTwo_112 0 rfl ?_
  refine v_callV d_R_recoverTwo_114 mt_R_set ln_R_21 im_R_set se_R_set hr (Nat.lt_of_succ_lt hlt) rfl rfl ⟨Nat.le_of_ble_eq_true rfl, Nat.le_of_ble_eq_true rfl⟩ (Nat.le_of_ble_eq_true rfl) rfl (Nat.zero_le _) (Nat.zero_le _) (c_R_set g (vu (vu (vu (vu (vu V (r + 1) ((first + lo) * 5 + 0) (rtl V r first lo hi 0)) (r + 1) ((first + hi) * 5 + 0) (rth V r first lo hi 0)) (r + 1) ((first + lo) * 5 + 1) (rtl V r first lo hi 1)) (r + 1) ((first + hi) * 5 + 1) (rth V r first lo hi 1)) (r + 1) ((first + lo) * 5 + 2) (rtl V r first lo hi 2)) L r hr hn hlt (first + hi) 2 (by omega) (by omega) (rth V r first lo hi 2)) rfl ?_
  rintro _ _ _ ⟨rfl, rfl, rfl⟩
  refine j_lv [4, 5, 6, 7, 8, 9, 3] rfl ?_
  refine n_iinc d_R_recoverTwo_117 1 (by decide) 6 rfl (Nat.le_of_ble_eq_true rfl) (lv' := [(6, .int (nI 3)), _, _, _, _, _, _]) rfl ?_
  refine j_goto d_R_recoverTwo_120 13 rfl ?_
  have hv2 : ∀ i, i < 120 → (vu (vu (vu (vu (vu (vu V (r + 1) ((first + lo) * 5 + 0) (rtl V r first lo hi 0)) (r + 1) ((first + hi) * 5 + 0) (rth V r first lo hi 0)) (r + 1) ((first + lo) * 5 + 1) (rtl V r first lo hi 1)) (r + 1) ((first + hi) * 5 + 1) (rth V r first lo hi 1)) (r + 1) ((first + lo) * 5 + 2) (rtl V r first lo hi 2)) (r + 1) ((first + hi) * 5 + 2) (rth V r first lo hi 2)) (r + 1) i < 2147483647 := fun i hi => by
    unfold vu
    repeat' split
    all_goals first | exact fmi_lt _ _ | exact fti_lt _ _ | exact hV i hi
  refine j_iload d_R_recoverTwo_13 0 rfl ?_
  refine n_iconst d_R_recoverTwo_15 4 (by decide) ?_
  refine n_icmp_ge d_R_recoverTwo_16 123 rfl (by omega) (by omega) (fun h => absurd h (by omega)) (fun h => ?_)
  refine j_aload_n d_R_recoverTwo_19 rfl 1 rfl ?_
  refine j_iload_n d_R_recoverTwo_20 rfl 2 rfl ?_
  refine n_iconst d_R_recoverTwo_21 0 (by decide) ?_
  refine j_iload d_R_recoverTwo_22 0 rfl ?_
  refine v_callV d_R_recoverTwo_24 mt_R_rest ln_R_58 im_R_rest se_R_rest hr (Nat.lt_of_succ_lt hlt) rfl rfl ⟨Nat.le_of_ble_eq_true rfl, Nat.le_of_ble_eq_true rfl⟩ (Nat.le_of_ble_eq_true rfl) rfl (Nat.zero_le _) (Nat.zero_le _) (c_R_rest g (vu (vu (vu (vu (vu (vu V (r + 1) ((first + lo) * 5 + 0) (rtl V r first lo hi 0)) (r + 1) ((first + hi) * 5 + 0) (rth V r first lo hi 0)) (r + 1) ((first + lo) * 5 + 1) (rtl V r first lo hi 1)) (r + 1) ((first + hi) * 5 + 1) (rth V r first lo hi 1)) (r + 1) ((first + lo) * 5 + 2) (rtl V r first lo hi 2)) (r + 1) ((first + hi) * 5 + 2) (rth V r first lo hi 2)) L r hr hn hlt first 0 3 hf (by omega) (by omega) hv2) rfl ?_
  rintro _ _ _ ⟨rfl, rfl, rfl⟩
  rw [show fmi ((vu (vu (vu (vu (vu (vu V (r + 1) ((first + lo) * 5 + 0) (rtl V r first lo hi 0)) (r + 1) ((first + hi) * 5 + 0) (rth V r first lo hi 0)) (r + 1) ((first + lo) * 5 + 1) (rtl V r first lo hi 1)) (r + 1) ((first + hi) * 5 + 1) (rth V r first lo hi 1)) (r + 1) ((first + lo) * 5 + 2) (rtl V r first lo hi 2)) (r + 1) ((first + hi) * 5 + 2) (rth V r first lo hi 2)) (r + 1) ((first + 4 + 0) * 5 + 3)) (cwd (fun q => (vu (vu (vu (vu (vu (vu V (r + 1) ((first + lo) * 5 + 0) (rtl V r first lo hi 0)) (r + 1) ((first + hi) * 5 + 0) (rth V r first lo hi 0)) (r + 1) ((first + lo) * 5 + 1) (rtl V r first lo hi 1)) (r + 1) ((first + hi) * 5 + 1) (rth V r first lo hi 1)) (r + 1) ((first + lo) * 5 + 2) (rtl V r first lo hi 2)) (r + 1) ((first + hi) * 5 + 2) (rth V r first lo hi 2)) (r + 1) ((first + q) * 5 + 3)) 0) = rst V r first 0 3 from rst_eq (fun i hi => by rw [vu_ne _ _ (by omega), vu_ne _ _ (by omega), vu_ne _ _ (by omega), vu_ne _ _ (by omega), vu_ne _ _ (by omega), vu_ne _ _ (by omega)])]
  refine j_iload d_R_recoverTwo_27 5 rfl ?_
  refine j_iload d_R_recoverTwo_29 6 rfl ?_
  refine n_mul d_R_recoverTwo_31 ?_
  refine v_callS d_R_recoverTwo_32 mt_F_times ln_R_38 sm_F_times ⟨Nat.le_of_ble_eq_true rfl, Nat.le_of_ble_eq_true rfl⟩ (Nat.le_of_ble_eq_true rfl) rfl (Nat.zero_le _) (Nat.zero_le _) (c_F_ti g (vu (vu (vu (vu (vu (vu V (r + 1) ((first + lo) * 5 + 0) (rtl V r first lo hi 0)) (r + 1) ((first + hi) * 5 + 0) (rth V r first lo hi 0)) (r + 1) ((first + lo) * 5 + 1) (rtl V r first lo hi 1)) (r + 1) ((first + hi) * 5 + 1) (rth V r first lo hi 1)) (r + 1) ((first + lo) * 5 + 2) (rtl V r first lo hi 2)) (r + 1) ((first + hi) * 5 + 2) (rth V r first lo hi 2)) L (rst V r first 0 3) ((4 - lo) * (4 - hi)) (Nat.lt_of_lt_of_le (fmi_lt _ _) (by decide)) (by omega)) rfl ?_
  rintro _ _ _ ⟨rfl, rfl, rfl⟩
  refine j_istore d_R_recoverTwo_35 (i := 7) (Nat.le_of_ble_eq_true rfl) (lv' := [_, _, _, _, _, _, _, _]) rfl ?_
  refine j_aload_n d_R_recoverTwo_37 rfl 2 rfl ?_
  refine j_iload_n d_R_recoverTwo_38 rfl 3 rfl ?_
  refine n_iconst d_R_recoverTwo_39 1 (by decide) ?_
  refine j_iload d_R_recoverTwo_40 1 rfl ?_
  refine v_callV d_R_recoverTwo_42 mt_R_rest ln_R_58 im_R_rest se_R_rest hr (Nat.lt_of_succ_lt hlt) rfl rfl ⟨Nat.le_of_ble_eq_true rfl, Nat.le_of_ble_eq_true rfl⟩ (Nat.le_of_ble_eq_true rfl) rfl (Nat.zero_le _) (Nat.zero_le _) (c_R_rest g (vu (vu (vu (vu (vu (vu V (r + 1) ((first + lo) * 5 + 0) (rtl V r first lo hi 0)) (r + 1) ((first + hi) * 5 + 0) (rth V r first lo hi 0)) (r + 1) ((first + lo) * 5 + 1) (rtl V r first lo hi 1)) (r + 1) ((first + hi) * 5 + 1) (rth V r first lo hi 1)) (r + 1) ((first + lo) * 5 + 2) (rtl V r first lo hi 2)) (r + 1) ((first + hi) * 5 + 2) (rth V r first lo hi 2)) L r hr hn hlt first 1 3 hf (by omega) (by omega) hv2) rfl ?_
  rintro _ _ _ ⟨rfl, rfl, rfl⟩
  rw [show fmi ((vu (vu (vu (vu (vu (vu V (r + 1) ((first + lo) * 5 + 0) (rtl V r first lo hi 0)) (r + 1) ((first + hi) * 5 + 0) (rth V r first lo hi 0)) (r + 1) ((first + lo) * 5 + 1) (rtl V r first lo hi 1)) (r + 1) ((first + hi) * 5 + 1) (rth V r first lo hi 1)) (r + 1) ((first + lo) * 5 + 2) (rtl V r first lo hi 2)) (r + 1) ((first + hi) * 5 + 2) (rth V r first lo hi 2)) (r + 1) ((first + 4 + 1) * 5 + 3)) (cwd (fun q => (vu (vu (vu (vu (vu (vu V (r + 1) ((first + lo) * 5 + 0) (rtl V r first lo hi 0)) (r + 1) ((first + hi) * 5 + 0) (rth V r first lo hi 0)) (r + 1) ((first + lo) * 5 + 1) (rtl V r first lo hi 1)) (r + 1) ((first + hi) * 5 + 1) (rth V r first lo hi 1)) (r + 1) ((first + lo) * 5 + 2) (rtl V r first lo hi 2)) (r + 1) ((first + hi) * 5 + 2) (rth V r first lo hi 2)) (r + 1) ((first + q) * 5 + 3)) 1) = rst V r first 1 3 from rst_eq (fun i hi => by rw [vu_ne _ _ (by omega), vu_ne _ _ (by omega), vu_ne _ _ (by omega), vu_ne _ _ (by omega), vu_ne _ _ (by omega), vu_ne _ _ (by omega)])]
  refine j_iload d_R_recoverTwo_45 6 rfl ?_
  refine n_iconst d_R_recoverTwo_47 1 (by decide) ?_
  refine n_add d_R_recoverTwo_48 ?_
  refine j_iload d_R_recoverTwo_49 7 rfl ?_
  refine n_iconst d_R_recoverTwo_51 1 (by decide) ?_
  refine n_add d_R_recoverTwo_52 ?_
  refine n_mul d_R_recoverTwo_53 ?_
  refine v_callS d_R_recoverTwo_54 mt_F_times ln_R_38 sm_F_times ⟨Nat.le_of_ble_eq_true rfl, Nat.le_of_ble_eq_true rfl⟩ (Nat.le_of_ble_eq_true rfl) rfl (Nat.zero_le _) (Nat.zero_le _) (c_F_ti g (vu (vu (vu (vu (vu (vu V (r + 1) ((first + lo) * 5 + 0) (rtl V r first lo hi 0)) (r + 1) ((first + hi) * 5 + 0) (rth V r first lo hi 0)) (r + 1) ((first + lo) * 5 + 1) (rtl V r first lo hi 1)) (r + 1) ((first + hi) * 5 + 1) (rth V r first lo hi 1)) (r + 1) ((first + lo) * 5 + 2) (rtl V r first lo hi 2)) (r + 1) ((first + hi) * 5 + 2) (rth V r first lo hi 2)) L (rst V r first 1 3) ((4 - lo + 1) * (4 - hi + 1)) (Nat.lt_of_lt_of_le (fmi_lt _ _) (by decide)) (by omega)) rfl ?_
  rintro _ _ _ ⟨rfl, rfl, rfl⟩
  refine j_iload d_R_recoverTwo_57 0 rfl ?_
  refine v_callS d_R_recoverTwo_59 mt_F_minus ln_R_61 sm_F_minus ⟨Nat.le_of_ble_eq_true rfl, Nat.le_of_ble_eq_true rfl⟩ (Nat.le_of_ble_eq_true rfl) rfl (Nat.zero_le _) (Nat.zero_le _) (c_F_mi g (vu (vu (vu (vu (vu (vu V (r + 1) ((first + lo) * 5 + 0) (rtl V r first lo hi 0)) (r + 1) ((first + hi) * 5 + 0) (rth V r first lo hi 0)) (r + 1) ((first + lo) * 5 + 1) (rtl V r first lo hi 1)) (r + 1) ((first + hi) * 5 + 1) (rth V r first lo hi 1)) (r + 1) ((first + lo) * 5 + 2) (rtl V r first lo hi 2)) (r + 1) ((first + hi) * 5 + 2) (rth V r first lo hi 2)) L (fti (rst V r first 1 3) ((4 - lo + 1) * (4 - hi + 1))) (rtx V r first lo hi 3) (fti_lt _ _) (fti_lt _ _)) rfl ?_
  rintro _ _ _ ⟨rfl, rfl, rfl⟩
  refine j_istore d_R_recoverTwo_62 (i := 8) (Nat.le_of_ble_eq_true rfl) (lv' := [_, _, _, _, _, _, _, _, _]) rfl ?_
  refine j_iload d_R_recoverTwo_64 1 rfl ?_
  refine j_iload d_R_recoverTwo_66 0 rfl ?_
  refine j_iload d_R_recoverTwo_68 8 rfl ?_
  refine v_callS d_R_recoverTwo_70 mt_F_times ln_R_38 sm_F_times ⟨Nat.le_of_ble_eq_true rfl, Nat.le_of_ble_eq_true rfl⟩ (Nat.le_of_ble_eq_true rfl) rfl (Nat.zero_le _) (Nat.zero_le _) (c_F_ti g (vu (vu (vu (vu (vu (vu V (r + 1) ((first + lo) * 5 + 0) (rtl V r first lo hi 0)) (r + 1) ((first + hi) * 5 + 0) (rth V r first lo hi 0)) (r + 1) ((first + lo) * 5 + 1) (rtl V r first lo hi 1)) (r + 1) ((first + hi) * 5 + 1) (rth V r first lo hi 1)) (r + 1) ((first + lo) * 5 + 2) (rtl V r first lo hi 2)) (r + 1) ((first + hi) * 5 + 2) (rth V r first lo hi 2)) L (rtb V r first lo hi 3) (4 - hi) (Nat.lt_of_lt_of_le (fmi_lt _ _) (by decide)) (by omega)) rfl ?_
  rintro _ _ _ ⟨rfl, rfl, rfl⟩
  refine v_callS d_R_recoverTwo_73 mt_F_minus ln_R_61 sm_F_minus ⟨Nat.le_of_ble_eq_true rfl, Nat.le_of_ble_eq_true rfl⟩ (Nat.le_of_ble_eq_true rfl) rfl (Nat.zero_le _) (Nat.zero_le _) (c_F_mi g (vu (vu (vu (vu (vu (vu V (r + 1) ((first + lo) * 5 + 0) (rtl V r first lo hi 0)) (r + 1) ((first + hi) * 5 + 0) (rth V r first lo hi 0)) (r + 1) ((first + lo) * 5 + 1) (rtl V r first lo hi 1)) (r + 1) ((first + hi) * 5 + 1) (rth V r first lo hi 1)) (r + 1) ((first + lo) * 5 + 2) (rtl V r first lo hi 2)) (r + 1) ((first + hi) * 5 + 2) (rth V r first lo hi 2)) L (rtx V r first lo hi 3) (fti (rtb V r first lo hi 3) (4 - hi)) (fti_lt _ _) (fti_lt _ _)) rfl ?_
  rintro _ _ _ ⟨rfl, rfl, rfl⟩
  refine j_gets d_R_recoverTwo_76 li_R_33 ?_
  refine j_iload d_R_recoverTwo_79 7 rfl ?_
  refine j_iload d_R_recoverTwo_81 8 rfl ?_
  refine n_sub d_R_recoverTwo_83 (by omega) ?_
  refine v_inv d_R_recoverTwo_84 rfl (by omega) ?_
  refine v_callS d_R_recoverTwo_85 mt_F_times ln_R_38 sm_F_times ⟨Nat.le_of_ble_eq_true rfl, Nat.le_of_ble_eq_true rfl⟩ (Nat.le_of_ble_eq_true rfl) rfl (Nat.zero_le _) (Nat.zero_le _) (c_F_ti g (vu (vu (vu (vu (vu (vu V (r + 1) ((first + lo) * 5 + 0) (rtl V r first lo hi 0)) (r + 1) ((first + hi) * 5 + 0) (rth V r first lo hi 0)) (r + 1) ((first + lo) * 5 + 1) (rtl V r first lo hi 1)) (r + 1) ((first + hi) * 5 + 1) (rth V r first lo hi 1)) (r + 1) ((first + lo) * 5 + 2) (rtl V r first lo hi 2)) (r + 1) ((first + hi) * 5 + 2) (rth V r first lo hi 2)) L (fmi (rtx V r first lo hi 3) (fti (rtb V r first lo hi 3) (4 - hi))) (jinvN (4 - lo - (4 - hi))) (Nat.lt_of_lt_of_le (fmi_lt _ _) (by decide)) (Nat.lt_of_lt_of_le (jinvN_lt _) (by decide))) rfl ?_
  rintro _ _ _ ⟨rfl, rfl, rfl⟩
  refine j_istore d_R_recoverTwo_88 (i := 9) (Nat.le_of_ble_eq_true rfl) (lv' := [_, _, _, _, _, _, _, _, _, _]) rfl ?_
  refine j_aload_n d_R_recoverTwo_90 rfl 4 rfl ?_
  refine j_iload_n d_R_recoverTwo_91 rfl 5 rfl ?_
  refine j_iload_n d_R_recoverTwo_92 rfl 6 rfl ?_
  refine n_add d_R_recoverTwo_93 ?_
  refine j_iload d_R_recoverTwo_94 3 rfl ?_
  refine j_iload d_R_recoverTwo_96 1 rfl ?_
  refine j_iload d_R_recoverTwo_98 0 rfl ?_
  refine v_callS d_R_recoverTwo_100 mt_F_minus ln_R_61 sm_F_minus ⟨Nat.le_of_ble_eq_true rfl, Nat.le_of_ble_eq_true rfl⟩ (Nat.le_of_ble_eq_true rfl) rfl (Nat.zero_le _) (Nat.zero_le _) (c_F_mi g (vu (vu (vu (vu (vu (vu V (r + 1) ((first + lo) * 5 + 0) (rtl V r first lo hi 0)) (r + 1) ((first + hi) * 5 + 0) (rth V r first lo hi 0)) (r + 1) ((first + lo) * 5 + 1) (rtl V r first lo hi 1)) (r + 1) ((first + hi) * 5 + 1) (rth V r first lo hi 1)) (r + 1) ((first + lo) * 5 + 2) (rtl V r first lo hi 2)) (r + 1) ((first + hi) * 5 + 2) (rth V r first lo hi 2)) L (rtb V r first lo hi 3) (rth V r first lo hi 3) (fmi_lt _ _) (fti_lt _ _)) rfl ?_
  rintro _ _ _ ⟨rfl, rfl, rfl⟩
  refine v_callV d_R_recoverTwo_103 mt_R_set ln_R_21 im_R_set se_R_set hr (Nat.lt_of_succ_lt hlt) rfl rfl ⟨Nat.le_of_ble_eq_true rfl, Nat.le_of_ble_eq_true rfl⟩ (Nat.le_of_ble_eq_true rfl) rfl (Nat.zero_le _) (Nat.zero_le _) (c_R_set g (vu (vu (vu (vu (vu (vu V (r + 1) ((first + lo) * 5 + 0) (rtl V r first lo hi 0)) (r + 1) ((first + hi) * 5 + 0) (rth V r first lo hi 0)) (r + 1) ((first + lo) * 5 + 1) (rtl V r first lo hi 1)) (r + 1) ((first + hi) * 5 + 1) (rth V r first lo hi 1)) (r + 1) ((first + lo) * 5 + 2) (rtl V r first lo hi 2)) (r + 1) ((first + hi) * 5 + 2) (rth V r first lo hi 2)) L r hr hn hlt (first + lo) 3 (by omega) (by omega) (rtl V r first lo hi 3)) rfl ?_
  rintro _ _ _ ⟨rfl, rfl, rfl⟩
  refine j_aload_n d_R_recoverTwo_106 rfl 4 rfl ?_
  refine j_iload_n d_R_recoverTwo_107 rfl 5 rfl ?_
  refine j_iload_n d_R_recoverTwo_108 rfl 7 rfl ?_
  refine n_add d_R_recoverTwo_109 ?_
  refine j_iload d_R_recoverTwo_110 3 rfl ?_
  refine j_iload d_R_recoverTwo_112 0 rfl ?_
  refine v_callV d_R_recoverTwo_114 mt_R_set ln_R_21 im_R_set se_R_set hr (Nat.lt_of_succ_lt hlt) rfl rfl ⟨Nat.le_of_ble_eq_true rfl, Nat.le_of_ble_eq_true rfl⟩ (Nat.le_of_ble_eq_true rfl) rfl (Nat.zero_le _) (Nat.zero_le _) (c_R_set g (vu (vu (vu (vu (vu (vu (vu V (r + 1) ((first + lo) * 5 + 0) (rtl V r first lo hi 0)) (r + 1) ((first + hi) * 5 + 0) (rth V r first lo hi 0)) (r + 1) ((first + lo) * 5 + 1) (rtl V r first lo hi 1)) (r + 1) ((first + hi) * 5 + 1) (rth V r first lo hi 1)) (r + 1) ((first + lo) * 5 + 2) (rtl V r first lo hi 2)) (r + 1) ((first + hi) * 5 + 2) (rth V r first lo hi 2)) (r + 1) ((first + lo) * 5 + 3) (rtl V r first lo hi 3)) L r hr hn hlt (first + hi) 3 (by omega) (by omega) (rth V r first lo hi 3)) rfl ?_
  rintro _ _ _ ⟨rfl, rfl, rfl⟩
  refine j_lv [4, 5, 6, 7, 8, 9, 3] rfl ?_
  refine n_iinc d_R_recoverTwo_117 1 (by decide) 6 rfl (Nat.le_of_ble_eq_true rfl) (lv' := [(6, .int (nI 4)), _, _, _, _, _, _]) rfl ?_
  refine j_goto d_R_recoverTwo_120 13 rfl ?_
  refine j_iload d_R_recoverTwo_13 0 rfl ?_
  refine n_iconst d_R_recoverTwo_15 4 (by decide) ?_
  refine n_icmp_ge d_R_recoverTwo_16 123 rfl (by omega) (by omega) (fun h => ?_) (fun h => absurd h (by omega))
  exact v_vret d_R_recoverTwo_123 rfl (Nat.zero_le _) (Nat.zero_le _) rfl jA0_rfl
def clr (V : Nat → Nat → Nat) (r row : Nat) : Nat → Nat → Nat := fun a i => if a = r + 1 ∧ row * 5 ≤ i ∧ i < row * 5 + 5 then 0 else V a i
theorem clr_lt {V : Nat → Nat → Nat} {r row : Nat} (hV : ∀ i, i < 120 → V (r + 1) i < 2147483647) : ∀ i, i < 120 → clr V r row (r + 1) i < 2147483647 := by
  intro i hi
  unfold clr
  split
  · omega
  · exact hV i hi
theorem nms_le (V : Nat → Nat → Nat) (fr : Nat) : nms V fr ≤ 4 := by
  unfold nms
  repeat' split
  all_goals omega
theorem nms_ge (V : Nat → Nat → Nat) {fr : Nat} (h : fr ≤ 4) : fr ≤ nms V fr := by
  unfold nms
  repeat' split
  all_goals omega
/-- a group made whole -/
def rcv (V : Nat → Nat → Nat) (first : Nat) : Nat → Nat → Nat :=
  if nms V 0 = 4 then V else if nms V (nms V 0 + 1) = 4 then rc1 (clr V 82 (first + nms V 0)) 82 first (nms V 0) (if V 84 4 = 0 then 1 else 0)
  else rc2 (clr (clr V 82 (first + nms V 0)) 82 (first + nms V (nms V 0 + 1))) 82 first (nms V 0) (nms V (nms V 0 + 1))
theorem c_R_recover (g : jG) (V : Nat → Nat → Nat) (L : Nat → Nat → Int64) (first : Nat) (hf : first + 6 ≤ 24) (hV : ∀ i, i < 120 → V 83 i < 2147483647) (hp : ∀ i, i < 6 → V 84 i ≤ 1) : jK g Y_R_recover (4, 99) [.ref (jb g + 82), .int (nI first), .ref (jb g + 84)] V L (jA0 none (rcv V first) L) := by
  refine jK_entry (by decide +kernel) rfl (Nat.le_of_ble_eq_true rfl) ?_
  show jJ (g, Y_R_recover, (4, 99), 0, 0, jVQ g (jA0 none (rcv V first) L)) [(0, .ref (jb g + 82)), (1, .int (nI first)), (2, .ref (jb g + 84))] (jv (g, Y_R_recover, (4, 99), 0, 0, jVQ g (jA0 none (rcv V first) L)) V L 0 0) 0 []
  have b0 := nms_le V 0
  have b1 := nms_le V (nms V 0 + 1)
  have b2 : nms V 0 < 4 → nms V 0 + 1 ≤ nms V (nms V 0 + 1) := fun h => nms_ge V (by omega)
  refine j_aload_n d_R_recover_0 rfl 2 rfl ?_
  refine n_iconst d_R_recover_1 0 (by decide) ?_
  refine v_callS d_R_recover_2 mt_R_nextMissing ln_R_44 sm_R_nextMissing ⟨Nat.le_of_ble_eq_true rfl, Nat.le_of_ble_eq_true rfl⟩ (Nat.le_of_ble_eq_true rfl) rfl (Nat.zero_le _) (Nat.zero_le _) (c_R_nextMissing g V L 0 (by omega) hp) rfl ?_
  rintro _ _ _ ⟨rfl, rfl, rfl⟩
  refine j_istore_n d_R_recover_5 (i := 3) rfl (Nat.le_of_ble_eq_true rfl) (lv' := [_, _, _, _]) rfl ?_
  refine j_iload_n d_R_recover_6 rfl 0 rfl ?_
  refine n_iconst d_R_recover_7 4 (by decide) ?_
  refine n_icmp_ne d_R_recover_8 12 rfl (by omega) (by omega) (fun h4 => ?_) (fun h4 => ?_)
  · refine j_aload_n d_R_recover_12 rfl 1 rfl ?_
    refine j_iload_n d_R_recover_13 rfl 2 rfl ?_
    refine j_iload_n d_R_recover_14 rfl 0 rfl ?_
    refine n_add d_R_recover_15 ?_
    refine v_callV d_R_recover_16 mt_R_clearRow ln_R_48 im_R_clearRow se_R_clearRow rfl (Nat.le_of_ble_eq_true rfl) rfl rfl ⟨Nat.le_of_ble_eq_true rfl, Nat.le_of_ble_eq_true rfl⟩ (Nat.le_of_ble_eq_true rfl) rfl (Nat.zero_le _) (Nat.zero_le _) (c_R_clearRow g V L 82 rfl rfl (by decide) (first + nms V 0) (by omega)) rfl ?_
    rintro _ _ _ ⟨rfl, rfl, rfl⟩
    show jJ _ _ (jv _ (clr V 82 (first + nms V 0)) L 0 0) _ _
    refine j_aload_n d_R_recover_19 rfl 3 rfl ?_
    refine j_iload_n d_R_recover_20 rfl 0 rfl ?_
    refine n_iconst d_R_recover_21 1 (by decide) ?_
    refine n_add d_R_recover_22 ?_
    refine v_callS d_R_recover_23 mt_R_nextMissing ln_R_44 sm_R_nextMissing ⟨Nat.le_of_ble_eq_true rfl, Nat.le_of_ble_eq_true rfl⟩ (Nat.le_of_ble_eq_true rfl) rfl (Nat.zero_le _) (Nat.zero_le _) (c_R_nextMissing g (clr V 82 (first + nms V 0)) L (nms V 0 + 1) (by omega) hp) rfl ?_
    rintro _ _ _ ⟨rfl, rfl, rfl⟩
    rw [show nms (clr V 82 (first + nms V 0)) (nms V 0 + 1) = nms V (nms V 0 + 1) from rfl]
    refine j_istore d_R_recover_26 (i := 4) (Nat.le_of_ble_eq_true rfl) (lv' := [_, _, _, _, _]) rfl ?_
    refine j_iload d_R_recover_28 0 rfl ?_
    refine n_iconst d_R_recover_30 4 (by decide) ?_
    refine n_icmp_ne d_R_recover_31 54 rfl (by omega) (by omega) (fun h5 => ?_) (fun h5 => ?_)
    · refine j_aload_n d_R_recover_54 rfl 2 rfl ?_
      refine j_iload_n d_R_recover_55 rfl 3 rfl ?_
      refine j_iload d_R_recover_56 0 rfl ?_
      refine n_add d_R_recover_58 ?_
      refine v_callV d_R_recover_59 mt_R_clearRow ln_R_48 im_R_clearRow se_R_clearRow rfl (Nat.le_of_ble_eq_true rfl) rfl rfl ⟨Nat.le_of_ble_eq_true rfl, Nat.le_of_ble_eq_true rfl⟩ (Nat.le_of_ble_eq_true rfl) rfl (Nat.zero_le _) (Nat.zero_le _) (c_R_clearRow g (clr V 82 (first + nms V 0)) L 82 rfl rfl (by decide) (first + nms V (nms V 0 + 1)) (by omega)) rfl ?_
      rintro _ _ _ ⟨rfl, rfl, rfl⟩
      show jJ _ _ (jv _ (clr (clr V 82 (first + nms V 0)) 82 (first + nms V (nms V 0 + 1))) L 0 0) _ _
      refine j_aload_n d_R_recover_62 rfl 2 rfl ?_
      refine j_iload_n d_R_recover_63 rfl 3 rfl ?_
      refine j_iload_n d_R_recover_64 rfl 1 rfl ?_
      refine j_iload d_R_recover_65 0 rfl ?_
      rw [show rcv V first = rc2 (clr (clr V 82 (first + nms V 0)) 82 (first + nms V (nms V 0 + 1))) 82 first (nms V 0) (nms V (nms V 0 + 1)) from by unfold rcv; rw [if_neg h4, if_neg h5]]
      refine v_callV d_R_recover_67 mt_R_recoverTwo ln_R_55 im_R_recoverTwo se_R_recoverTwo rfl (Nat.le_of_ble_eq_true rfl) rfl rfl ⟨Nat.le_of_ble_eq_true rfl, Nat.le_of_ble_eq_true rfl⟩ (Nat.le_of_ble_eq_true rfl) rfl (Nat.zero_le _) (Nat.zero_le _) (c_R_recoverTwo g (clr (clr V 82 (first + nms V 0)) 82 (first + nms V (nms V 0 + 1))) L 82 rfl rfl (by decide) first (nms V 0) (nms V (nms V 0 + 1)) hf (by omega) (by omega) (clr_lt (clr_lt hV))) rfl ?_
      rintro _ _ _ ⟨rfl, rfl, rfl⟩
      exact v_vret d_R_recover_70 rfl (Nat.zero_le _) (Nat.zero_le _) rfl jA0_rfl
    · refine j_aload_n d_R_recover_34 rfl 2 rfl ?_
      refine j_iload_n d_R_recover_35 rfl 3 rfl ?_
      refine j_iload_n d_R_recover_36 rfl 1 rfl ?_
      refine j_aload_n d_R_recover_37 rfl 4 rfl ?_
      refine n_iconst d_R_recover_38 4 (by decide) ?_
      refine v_zld d_R_recover_39 rfl rfl (Nat.le_of_ble_eq_true rfl) rfl (by omega) (by omega) ?_
      refine n_if_eq d_R_recover_40 47 rfl (Nat.lt_of_le_of_lt (hp 4 (by omega)) (by decide)) (fun h6 => ?_) (fun h6 => ?_)
      · refine n_iconst d_R_recover_47 1 (by decide) ?_
        have h7 : V 84 4 = 0 := h6
        have e7 : rcv V first = rc1 (clr V 82 (first + nms V 0)) 82 first (nms V 0) 1 := by
          unfold rcv
          rw [if_neg h4, if_pos h5, if_pos h7]
        rw [e7]
        refine v_callV d_R_recover_48 mt_R_recoverOne ln_R_52 im_R_recoverOne se_R_recoverOne rfl (Nat.le_of_ble_eq_true rfl) rfl rfl ⟨Nat.le_of_ble_eq_true rfl, Nat.le_of_ble_eq_true rfl⟩ (Nat.le_of_ble_eq_true rfl) rfl (Nat.zero_le _) (Nat.zero_le _) (c_R_recoverOne g (clr V 82 (first + nms V 0)) L 82 rfl rfl (by decide) first (nms V 0) 1 hf (by omega) (by omega) (clr_lt hV)) rfl ?_
        rintro _ _ _ ⟨rfl, rfl, rfl⟩
        refine j_goto d_R_recover_51 70 rfl ?_
        exact v_vret d_R_recover_70 rfl (Nat.zero_le _) (Nat.zero_le _) rfl jA0_rfl
      · refine n_iconst d_R_recover_43 0 (by decide) ?_
        refine j_goto d_R_recover_44 48 rfl ?_
        have h7 : ¬ V 84 4 = 0 := h6
        have e7 : rcv V first = rc1 (clr V 82 (first + nms V 0)) 82 first (nms V 0) 0 := by
          unfold rcv
          rw [if_neg h4, if_pos h5, if_neg h7]
        rw [e7]
        refine v_callV d_R_recover_48 mt_R_recoverOne ln_R_52 im_R_recoverOne se_R_recoverOne rfl (Nat.le_of_ble_eq_true rfl) rfl rfl ⟨Nat.le_of_ble_eq_true rfl, Nat.le_of_ble_eq_true rfl⟩ (Nat.le_of_ble_eq_true rfl) rfl (Nat.zero_le _) (Nat.zero_le _) (c_R_recoverOne g (clr V 82 (first + nms V 0)) L 82 rfl rfl (by decide) first (nms V 0) 0 hf (by omega) (by omega) (clr_lt hV)) rfl ?_
        rintro _ _ _ ⟨rfl, rfl, rfl⟩
        refine j_goto d_R_recover_51 70 rfl ?_
        exact v_vret d_R_recover_70 rfl (Nat.zero_le _) (Nat.zero_le _) rfl jA0_rfl
  · rw [show rcv V first = V from if_pos h4]
    exact v_vret d_R_recover_11 rfl (Nat.zero_le _) (Nat.zero_le _) rfl jA0_rfl
theorem wb_tb (n : Nat) : (lN n).toBitVec = BitVec.ofNat 64 n := rfl
theorem wb_inj {a b : Int64} (h : a.toBitVec = b.toBitVec) : a = b := Int64.toBitVec_inj.mp h
theorem wb_tn {n : Nat} (h : n < 2 ^ 64) : (lN n).toBitVec.toNat = n := by rw [wb_tb, BitVec.toNat_ofNat, Nat.mod_eq_of_lt h]
theorem wb_of (x : Int64) : ∃ n, n < 2 ^ 64 ∧ x = lN n := ⟨x.toBitVec.toNat, x.toBitVec.isLt, wb_inj (by rw [wb_tb]; simp)⟩
theorem wb_of32 (x : Int32) : ∃ n, n < 2 ^ 32 ∧ x = nI n := ⟨x.toBitVec.toNat, x.toBitVec.isLt, Int32.toBitVec_inj.mp (by show _ = BitVec.ofNat 32 _; simp)⟩
theorem wb_c : ∀ k, k < 64 → ((nI k).toInt64 &&& 63) = lN k := by decide +kernel
theorem wb_cu : ∀ k, k < 64 → ((nI k).toInt64.toUInt64 &&& Int64.toUInt64 63) = UInt64.ofNat k := by decide +kernel
theorem wb_sm : ∀ k, k < 64 → (BitVec.ofNat 64 k).smod 64 = BitVec.ofNat 64 k := by decide +kernel
theorem wb_pw {a b : Nat} (h : a ≤ b) : 2 ^ b = 2 ^ a * 2 ^ (b - a) := by rw [← Nat.pow_add]; congr 1; omega
theorem wb_lt2 {a b : Nat} (h : a < b) : 2 ^ a < 2 ^ b := Nat.pow_lt_pow_right (by decide) h
theorem wb_mod (n : Nat) : lN n = lN (n % 2 ^ 64) := wb_inj (by rw [wb_tb, wb_tb]; apply BitVec.eq_of_toNat_eq; rw [BitVec.toNat_ofNat, BitVec.toNat_ofNat, Nat.mod_mod])
theorem wb_shr {n k : Nat} (hn : n < 2 ^ 64) (hk : k < 64) : ((lN n).toUInt64 >>> ((nI k).toInt64.toUInt64 &&& Int64.toUInt64 63)).toInt64 = lN (n / 2 ^ k) := by
  rw [wb_cu k hk]
  apply wb_inj
  apply BitVec.eq_of_toNat_eq
  show ((lN n).toUInt64 >>> UInt64.ofNat k).toNat = (BitVec.ofNat 64 _).toNat
  have h1 : (UInt64.ofNat k).toNat = k := by
    show (BitVec.ofNat 64 k).toNat = k
    rw [BitVec.toNat_ofNat, Nat.mod_eq_of_lt (by omega)]
  have h2 : (lN n).toUInt64.toNat = n := wb_tn hn
  rw [UInt64.toNat_shiftRight, h1, h2, Nat.mod_eq_of_lt hk, Nat.shiftRight_eq_div_pow, BitVec.toNat_ofNat, Nat.mod_eq_of_lt (Nat.lt_of_le_of_lt (Nat.div_le_self _ _) hn)]
def hsh (x : Int64) (k : Nat) : Int64 := x ^^^ (x.toUInt64 >>> ((nI k).toInt64.toUInt64 &&& Int64.toUInt64 63)).toInt64
def hrd (b x : Int64) : Int64 := hsh (hsh (hsh x 30 * (-4658895280553007687)) 27 * (-7723592293110705685)) 31 + b
def hsx (a b : Int64) (n : Nat) : Int64 := hrd b (hrd b (hrd b (hrd b (a + lN n * (-7046029254386353131)))))
/-- the secret of number n under the keys a, b -/
def sN (a b : Int64) (n : Nat) : Nat := (hsx a b n).toBitVec.toNat / 2 ^ 33 % 2147483647
theorem sN_lt (a b : Int64) (n : Nat) : sN a b n < 2147483647 := Nat.mod_lt _ (by omega)
theorem hs33 (x : Int64) : (x.toUInt64 >>> ((nI 33).toInt64.toUInt64 &&& Int64.toUInt64 63)).toInt64 = lN (x.toBitVec.toNat / 2 ^ 33) := by
  obtain ⟨n, hn, rfl⟩ := wb_of x
  rw [wb_shr hn (by omega), wb_tn hn]
theorem hs33_lt (x : Int64) : x.toBitVec.toNat / 2 ^ 33 < 2 ^ 31 := by
  have := x.toBitVec.isLt
  omega
theorem c_F_secret (g : jG) (V : Nat → Nat → Nat) (L : Nat → Nat → Int64) (a b : Int64) (n : Nat) (hn : n < 2147483648) : jK g Y_F_secret (0, 0) [.long a, .long b, .int (nI n)] V L (jA0 (some (.int (nI (sN a b n)))) V L) := by
  refine jK_entry (by decide +kernel) rfl (Nat.le_of_ble_eq_true rfl) ?_
  show jJ (g, Y_F_secret, (0, 0), 0, 0, jVQ g (jA0 (some (.int (nI (sN a b n)))) V L)) [(0, .long a), (2, .long b), (4, .int (nI n))] (jv (g, Y_F_secret, (0, 0), 0, 0, jVQ g (jA0 (some (.int (nI (sN a b n)))) V L)) V L 0 0) 0 []
  refine j_lload_n d_F_secret_0 rfl 0 rfl ?_
  refine j_iload d_F_secret_1 2 rfl ?_
  refine n_i2l d_F_secret_3 (by omega) ?_
  refine j_ldc2 d_F_secret_4 ct_F_12 ?_
  refine j_lmul d_F_secret_7 ?_
  refine j_ladd d_F_secret_8 ?_
  refine j_lstore d_F_secret_9 (i := 5) (Nat.le_of_ble_eq_true rfl) (lv' := [_, _, _, _]) rfl ?_
  refine n_iconst d_F_secret_11 0 (by decide) ?_
  refine j_istore d_F_secret_12 (i := 7) (Nat.le_of_ble_eq_true rfl) (lv' := [_, _, _, _, _]) rfl ?_
  refine j_iload d_F_secret_14 0 rfl ?_
  refine n_iconst d_F_secret_16 4 (by decide) ?_
  refine n_icmp_ge d_F_secret_17 66 rfl (by omega) (by omega) (fun h => absurd h (by omega)) (fun h => ?_)
  refine j_lload d_F_secret_20 1 rfl ?_
  refine j_lload d_F_secret_22 1 rfl ?_
  refine n_bipush d_F_secret_24 30 (by decide) ?_
  refine j_lushr d_F_secret_26 rfl ?_
  refine j_lxor d_F_secret_27 ?_
  refine j_ldc2 d_F_secret_28 ct_F_14 ?_
  refine j_lmul d_F_secret_31 ?_
  refine j_lstore d_F_secret_32 (i := 5) (Nat.le_of_ble_eq_true rfl) (lv' := [_, _, _, _, _]) rfl ?_
  refine j_lload d_F_secret_34 0 rfl ?_
  refine j_lload d_F_secret_36 0 rfl ?_
  refine n_bipush d_F_secret_38 27 (by decide) ?_
  refine j_lushr d_F_secret_40 rfl ?_
  refine j_lxor d_F_secret_41 ?_
  refine j_ldc2 d_F_secret_42 ct_F_16 ?_
  refine j_lmul d_F_secret_45 ?_
  refine j_lstore d_F_secret_46 (i := 5) (Nat.le_of_ble_eq_true rfl) (lv' := [_, _, _, _, _]) rfl ?_
  refine j_lload d_F_secret_48 0 rfl ?_
  refine j_lload d_F_secret_50 0 rfl ?_
  refine n_bipush d_F_secret_52 31 (by decide) ?_
  refine j_lushr d_F_secret_54 rfl ?_
  refine j_lxor d_F_secret_55 ?_
  refine j_lload_n d_F_secret_56 rfl 3 rfl ?_
  refine j_ladd d_F_secret_57 ?_
  refine j_lstore d_F_secret_58 (i := 5) (Nat.le_of_ble_eq_true rfl) (lv' := [_, _, _, _, _]) rfl ?_
  refine n_iinc d_F_secret_60 1 (by decide) 1 rfl (Nat.le_of_ble_eq_true rfl) (lv' := [(7, .int (nI 1)), _, _, _, _]) rfl ?_
  refine j_goto d_F_secret_63 14 rfl ?_
  refine j_iload d_F_secret_14 0 rfl ?_
  refine n_iconst d_F_secret_16 4 (by decide) ?_
  refine n_icmp_ge d_F_secret_17 66 rfl (by omega) (by omega) (fun h => absurd h (by omega)) (fun h => ?_)
  refine j_lload d_F_secret_20 1 rfl ?_
  refine j_lload d_F_secret_22 1 rfl ?_
  refine n_bipush d_F_secret_24 30 (by decide) ?_
  refine j_lushr d_F_secret_26 rfl ?_
  refine j_lxor d_F_secret_27 ?_
  refine j_ldc2 d_F_secret_28 ct_F_14 ?_
  refine j_lmul d_F_secret_31 ?_
  refine j_lstore d_F_secret_32 (i := 5) (Nat.le_of_ble_eq_true rfl) (lv' := [_, _, _, _, _]) rfl ?_
  refine j_lload d_F_secret_34 0 rfl ?_
  refine j_lload d_F_secret_36 0 rfl ?_
  refine n_bipush d_F_secret_38 27 (by decide) ?_
  refine j_lushr d_F_secret_40 rfl ?_
  refine j_lxor d_F_secret_41 ?_
  refine j_ldc2 d_F_secret_42 ct_F_16 ?_
  refine j_lmul d_F_secret_45 ?_
  refine j_lstore d_F_secret_46 (i := 5) (Nat.le_of_ble_eq_true rfl) (lv' := [_, _, _, _, _]) rfl ?_
  refine j_lload d_F_secret_48 0 rfl ?_
  refine j_lload d_F_secret_50 0 rfl ?_
  refine n_bipush d_F_secret_52 31 (by decide) ?_
  refine j_lushr d_F_secret_54 rfl ?_
  refine j_lxor d_F_secret_55 ?_
  refine j_lload_n d_F_secret_56 rfl 3 rfl ?_
  refine j_ladd d_F_secret_57 ?_
  refine j_lstore d_F_secret_58 (i := 5) (Nat.le_of_ble_eq_true rfl) (lv' := [_, _, _, _, _]) rfl ?_
  refine n_iinc d_F_secret_60 1 (by decide) 1 rfl (Nat.le_of_ble_eq_true rfl) (lv' := [(7, .int (nI 2)), _, _, _, _]) rfl ?_
  refine j_goto d_F_secret_63 14 rfl ?_
  refine j_iload d_F_secret_14 0 rfl ?_
  refine n_iconst d_F_secret_16 4 (by decide) ?_
  refine n_icmp_ge d_F_secret_17 66 rfl (by omega) (by omega) (fun h => absurd h (by omega)) (fun h => ?_)
  refine j_lload d_F_secret_20 1 rfl ?_
  refine j_lload d_F_secret_22 1 rfl ?_
  refine n_bipush d_F_secret_24 30 (by decide) ?_
  refine j_lushr d_F_secret_26 rfl ?_
  refine j_lxor d_F_secret_27 ?_
  refine j_ldc2 d_F_secret_28 ct_F_14 ?_
  refine j_lmul d_F_secret_31 ?_
  refine j_lstore d_F_secret_32 (i := 5) (Nat.le_of_ble_eq_true rfl) (lv' := [_, _, _, _, _]) rfl ?_
  refine j_lload d_F_secret_34 0 rfl ?_
  refine j_lload d_F_secret_36 0 rfl ?_
  refine n_bipush d_F_secret_38 27 (by decide) ?_
  refine j_lushr d_F_secret_40 rfl ?_
  refine j_lxor d_F_secret_41 ?_
  refine j_ldc2 d_F_secret_42 ct_F_16 ?_
  refine j_lmul d_F_secret_45 ?_
  refine j_lstore d_F_secret_46 (i := 5) (Nat.le_of_ble_eq_true rfl) (lv' := [_, _, _, _, _]) rfl ?_
  refine j_lload d_F_secret_48 0 rfl ?_
  refine j_lload d_F_secret_50 0 rfl ?_
  refine n_bipush d_F_secret_52 31 (by decide) ?_
  refine j_lushr d_F_secret_54 rfl ?_
  refine j_lxor d_F_secret_55 ?_
  refine j_lload_n d_F_secret_56 rfl 3 rfl ?_
  refine j_ladd d_F_secret_57 ?_
  refine j_lstore d_F_secret_58 (i := 5) (Nat.le_of_ble_eq_true rfl) (lv' := [_, _, _, _, _]) rfl ?_
  refine n_iinc d_F_secret_60 1 (by decide) 1 rfl (Nat.le_of_ble_eq_true rfl) (lv' := [(7, .int (nI 3)), _, _, _, _]) rfl ?_
  refine j_goto d_F_secret_63 14 rfl ?_
  refine j_iload d_F_secret_14 0 rfl ?_
  refine n_iconst d_F_secret_16 4 (by decide) ?_
  refine n_icmp_ge d_F_secret_17 66 rfl (by omega) (by omega) (fun h => absurd h (by omega)) (fun h => ?_)
  refine j_lload d_F_secret_20 1 rfl ?_
  refine j_lload d_F_secret_22 1 rfl ?_
  refine n_bipush d_F_secret_24 30 (by decide) ?_
  refine j_lushr d_F_secret_26 rfl ?_
  refine j_lxor d_F_secret_27 ?_
  refine j_ldc2 d_F_secret_28 ct_F_14 ?_
  refine j_lmul d_F_secret_31 ?_
  refine j_lstore d_F_secret_32 (i := 5) (Nat.le_of_ble_eq_true rfl) (lv' := [_, _, _, _, _]) rfl ?_
  refine j_lload d_F_secret_34 0 rfl ?_
  refine j_lload d_F_secret_36 0 rfl ?_
  refine n_bipush d_F_secret_38 27 (by decide) ?_
  refine j_lushr d_F_secret_40 rfl ?_
  refine j_lxor d_F_secret_41 ?_
  refine j_ldc2 d_F_secret_42 ct_F_16 ?_
  refine j_lmul d_F_secret_45 ?_
  refine j_lstore d_F_secret_46 (i := 5) (Nat.le_of_ble_eq_true rfl) (lv' := [_, _, _, _, _]) rfl ?_
  refine j_lload d_F_secret_48 0 rfl ?_
  refine j_lload d_F_secret_50 0 rfl ?_
  refine n_bipush d_F_secret_52 31 (by decide) ?_
  refine j_lushr d_F_secret_54 rfl ?_
  refine j_lxor d_F_secret_55 ?_
  refine j_lload_n d_F_secret_56 rfl 3 rfl ?_
  refine j_ladd d_F_secret_57 ?_
  refine j_lstore d_F_secret_58 (i := 5) (Nat.le_of_ble_eq_true rfl) (lv' := [_, _, _, _, _]) rfl ?_
  refine n_iinc d_F_secret_60 1 (by decide) 1 rfl (Nat.le_of_ble_eq_true rfl) (lv' := [(7, .int (nI 4)), _, _, _, _]) rfl ?_
  refine j_goto d_F_secret_63 14 rfl ?_
  refine j_iload d_F_secret_14 0 rfl ?_
  refine n_iconst d_F_secret_16 4 (by decide) ?_
  refine n_icmp_ge d_F_secret_17 66 rfl (by omega) (by omega) (fun h => ?_) (fun h => absurd h (by omega))
  refine j_lload d_F_secret_66 1 rfl ?_
  refine n_bipush d_F_secret_68 33 (by decide) ?_
  refine j_lushr d_F_secret_70 rfl ?_
  rw [hs33]
  refine j_ldc2 d_F_secret_71 ct_F_10 ?_
  rw [show (2147483647 : Int64) = lN 2147483647 from by decide]
  refine n_lrem d_F_secret_74 (Nat.lt_trans (hs33_lt _) (by decide)) (by omega) (by omega) ?_
  refine n_l2i d_F_secret_75 ?_
  exact v_iret d_F_secret_76 rfl (Nat.zero_le _) (Nat.zero_le _) rfl jA0_rfl
