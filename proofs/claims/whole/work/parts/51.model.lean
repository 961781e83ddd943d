/-! AuditDeskModel: its private methods, on -/
theorem fpf (m a x : Nat) : (m + a * x) % 2147483647 = fpl m (fti a x) := by
  unfold fpl fti
  rw [Nat.add_mod_mod]
def mrs (V : Nat → Nat → Nat) (f : Nat) : Nat := 6 * ((V 87 f + 15) / 16)
theorem c_M_rowsOf (g : jG) (V : Nat → Nat → Nat) (L : Nat → Nat → Int64) (f : Nat) (hf : f < 3) (hw : V 87 f ≤ 64) : jK g Y_M_rowsOf (0, 0) [.ref (jb g + 85), .int (nI f)] V L (jA0 (some (.int (nI (mrs V f)))) V L) := by
  refine jK_entry (by decide +kernel) rfl (Nat.le_of_ble_eq_true rfl) ?_
  show jJ (g, Y_M_rowsOf, (0, 0), 0, 0, jVQ g (jA0 (some (.int (nI (mrs V f)))) V L)) [(0, .ref (jb g + 85)), (1, .int (nI f))] (jv (g, Y_M_rowsOf, (0, 0), 0, 0, jVQ g (jA0 (some (.int (nI (mrs V f)))) V L)) V L 0 0) 0 []
  refine n_bipush d_M_rowsOf_0 6 (by decide) ?_
  refine j_aload_n d_M_rowsOf_2 rfl 0 rfl ?_
  refine v_getR d_M_rowsOf_3 lf_M_13 rfl (Nat.le_of_ble_eq_true rfl) rfl ?_
  refine j_iload_n d_M_rowsOf_6 rfl 1 rfl ?_
  refine v_ild d_M_rowsOf_7 rfl rfl (Nat.le_of_ble_eq_true rfl) rfl (by omega) (by omega) ?_
  refine n_bipush d_M_rowsOf_8 15 (by decide) ?_
  refine n_add d_M_rowsOf_10 ?_
  refine n_bipush d_M_rowsOf_11 16 (by decide) ?_
  refine n_div d_M_rowsOf_13 (by omega) (by omega) (by omega) ?_
  refine n_mul d_M_rowsOf_14 ?_
  exact v_iret d_M_rowsOf_15 rfl (Nat.zero_le _) (Nat.zero_le _) rfl jA0_rfl
theorem c_M_thrown (g : jG) (V : Nat → Nat → Nat) (L : Nat → Nat → Int64)  : jK g Y_M_thrown (0, 0) [.ref (jb g + 85)] V L (jA0 (some (.int (nI (V 85 0)))) V L) := by
  refine jK_entry (by decide +kernel) rfl (Nat.le_of_ble_eq_true rfl) ?_
  show jJ (g, Y_M_thrown, (0, 0), 0, 0, jVQ g (jA0 (some (.int (nI (V 85 0)))) V L)) [(0, .ref (jb g + 85))] (jv (g, Y_M_thrown, (0, 0), 0, 0, jVQ g (jA0 (some (.int (nI (V 85 0)))) V L)) V L 0 0) 0 []
  refine j_aload_n d_M_thrown_0 rfl 0 rfl ?_
  refine v_getI d_M_thrown_1 lf_M_63 rfl (Nat.le_of_ble_eq_true rfl) rfl ?_
  exact v_iret d_M_thrown_4 rfl (Nat.zero_le _) (Nat.zero_le _) rfl jA0_rfl
theorem c_M_spot (g : jG) (V : Nat → Nat → Nat) (L : Nat → Nat → Int64) (k f i : Nat) : jK g Y_M_spot (0, 0) [.int (nI k), .int (nI f), .int (nI i)] V L (jA0 (some (.int (nI (360 * k + 5 * (24 * f + i))))) V L) := by
  refine jK_entry (by decide +kernel) rfl (Nat.le_of_ble_eq_true rfl) ?_
  show jJ (g, Y_M_spot, (0, 0), 0, 0, jVQ g (jA0 (some (.int (nI (360 * k + 5 * (24 * f + i))))) V L)) [(0, .int (nI k)), (1, .int (nI f)), (2, .int (nI i))] (jv (g, Y_M_spot, (0, 0), 0, 0, jVQ g (jA0 (some (.int (nI (360 * k + 5 * (24 * f + i))))) V L)) V L 0 0) 0 []
  refine n_sipush d_M_spot_0 360 (by decide) ?_
  refine j_iload_n d_M_spot_3 rfl 0 rfl ?_
  refine n_mul d_M_spot_4 ?_
  refine n_iconst d_M_spot_5 5 (by decide) ?_
  refine n_bipush d_M_spot_6 24 (by decide) ?_
  refine j_iload_n d_M_spot_8 rfl 1 rfl ?_
  refine n_mul d_M_spot_9 ?_
  refine j_iload_n d_M_spot_10 rfl 2 rfl ?_
  refine n_add d_M_spot_11 ?_
  refine n_mul d_M_spot_12 ?_
  refine n_add d_M_spot_13 ?_
  exact v_iret d_M_spot_14 rfl (Nat.zero_le _) (Nat.zero_le _) rfl jA0_rfl
theorem c_M_mark (g : jG) (V : Nat → Nat → Nat) (L : Nat → Nat → Int64) (k f i : Nat) : jK g Y_M_mark (0, 0) [.int (nI k), .int (nI f), .int (nI i)] V L (jA0 (some (.int (nI (72 * k + 24 * f + i)))) V L) := by
  refine jK_entry (by decide +kernel) rfl (Nat.le_of_ble_eq_true rfl) ?_
  show jJ (g, Y_M_mark, (0, 0), 0, 0, jVQ g (jA0 (some (.int (nI (72 * k + 24 * f + i)))) V L)) [(0, .int (nI k)), (1, .int (nI f)), (2, .int (nI i))] (jv (g, Y_M_mark, (0, 0), 0, 0, jVQ g (jA0 (some (.int (nI (72 * k + 24 * f + i)))) V L)) V L 0 0) 0 []
  refine n_bipush d_M_mark_0 72 (by decide) ?_
  refine j_iload_n d_M_mark_2 rfl 0 rfl ?_
  refine n_mul d_M_mark_3 ?_
  refine n_bipush d_M_mark_4 24 (by decide) ?_
  refine j_iload_n d_M_mark_6 rfl 1 rfl ?_
  refine n_mul d_M_mark_7 ?_
  refine n_add d_M_mark_8 ?_
  refine j_iload_n d_M_mark_9 rfl 2 rfl ?_
  refine n_add d_M_mark_10 ?_
  exact v_iret d_M_mark_11 rfl (Nat.zero_le _) (Nat.zero_le _) rfl jA0_rfl
theorem c_M_tag (g : jG) (V : Nat → Nat → Nat) (L : Nat → Nat → Int64) (f i q na p : Nat) (hf : f < 3) (hi : i < 24) (hq : jshp q = .inl (0, na)) (hq2 : q < 104) (hna : na < 2 ^ 31) (hp : p + 4 ≤ na) (hv : ∀ x, x < na → V q x < 2147483647) : jK g Y_M_tag (1, 24) [.ref (jb g + 85), .int (nI f), .int (nI i), .ref (jb g + q), .int (nI p)] V L (jA0 (some (.long (lN (tgd (sN (L 85 1) (L 85 2) (64 * f + 8 + i)) (fun j => sN (L 85 1) (L 85 2) (64 * f + j)) (fun j => V q (p + j)))))) V L) := by
  refine jK_entry (by decide +kernel) rfl (Nat.le_of_ble_eq_true rfl) ?_
  show jJ (g, Y_M_tag, (1, 24), 0, 0, jVQ g (jA0 (some (.long (lN (tgd (sN (L 85 1) (L 85 2) (64 * f + 8 + i)) (fun j => sN (L 85 1) (L 85 2) (64 * f + j)) (fun j => V q (p + j)))))) V L)) [(0, .ref (jb g + 85)), (1, .int (nI f)), (2, .int (nI i)), (3, .ref (jb g + q)), (4, .int (nI p))] (jv (g, Y_M_tag, (1, 24), 0, 0, jVQ g (jA0 (some (.long (lN (tgd (sN (L 85 1) (L 85 2) (64 * f + 8 + i)) (fun j => sN (L 85 1) (L 85 2) (64 * f + j)) (fun j => V q (p + j)))))) V L)) V L 0 0) 0 []
  refine j_aload_n d_M_tag_0 rfl 0 rfl ?_
  refine n_bipush d_M_tag_1 64 (by decide) ?_
  refine j_iload_n d_M_tag_3 rfl 1 rfl ?_
  refine n_mul d_M_tag_4 ?_
  refine n_bipush d_M_tag_5 8 (by decide) ?_
  refine n_add d_M_tag_7 ?_
  refine j_iload_n d_M_tag_8 rfl 2 rfl ?_
  refine n_add d_M_tag_9 ?_
  refine v_callV d_M_tag_10 mt_M_secret ln_M_95 im_M_secret se_M_secret rfl (Nat.le_of_ble_eq_true rfl) rfl rfl ⟨Nat.le_of_ble_eq_true rfl, Nat.le_of_ble_eq_true rfl⟩ (Nat.le_of_ble_eq_true rfl) rfl (Nat.zero_le _) (Nat.zero_le _) (c_M_secret g V L (64 * f + 8 + i) (by omega)) rfl ?_
  rintro _ _ _ ⟨rfl, rfl, rfl⟩
  refine j_lstore d_M_tag_13 (i := 5) (Nat.le_of_ble_eq_true rfl) (lv' := [_, _, _, _, _, _]) rfl ?_
  refine n_iconst d_M_tag_15 0 (by decide) ?_
  refine j_istore d_M_tag_16 (i := 7) (Nat.le_of_ble_eq_true rfl) (lv' := [_, _, _, _, _, _, _]) rfl ?_
  refine j_iload d_M_tag_18 0 rfl ?_
  refine n_iconst d_M_tag_20 4 (by decide) ?_
  refine n_icmp_ge d_M_tag_21 59 rfl (by omega) (by omega) (fun h => absurd h (by omega)) (fun h => ?_)
  refine j_lload d_M_tag_24 1 rfl ?_
  refine j_aload_n d_M_tag_26 rfl 2 rfl ?_
  refine n_bipush d_M_tag_27 64 (by decide) ?_
  refine j_iload_n d_M_tag_29 rfl 3 rfl ?_
  refine n_mul d_M_tag_30 ?_
  refine j_iload d_M_tag_31 0 rfl ?_
  refine n_add d_M_tag_33 ?_
  refine v_callV d_M_tag_34 mt_M_secret ln_M_95 im_M_secret se_M_secret rfl (Nat.le_of_ble_eq_true rfl) rfl rfl ⟨Nat.le_of_ble_eq_true rfl, Nat.le_of_ble_eq_true rfl⟩ (Nat.le_of_ble_eq_true rfl) rfl (Nat.zero_le _) (Nat.zero_le _) (c_M_secret g V L (64 * f + 0) (by omega)) rfl ?_
  rintro _ _ _ ⟨rfl, rfl, rfl⟩
  refine j_aload_n d_M_tag_37 rfl 5 rfl ?_
  refine j_iload d_M_tag_38 6 rfl ?_
  refine j_iload d_M_tag_40 0 rfl ?_
  refine n_add d_M_tag_42 ?_
  refine v_ild d_M_tag_43 hq rfl hq2 rfl (by omega) (by omega) ?_
  have m0 := mP (sN_lt (L 85 1) (L 85 2) (64 * f + 0)) (hv (p + 0) (by omega))
  have v0 := hv (p + 0) (by omega)
  refine n_i2l d_M_tag_44 (by omega) ?_
  refine n_lmul d_M_tag_45 ?_
  refine n_ladd d_M_tag_46 ?_
  refine j_ldc2 d_M_tag_47 ct_M_67 ?_
  rw [show (2147483647 : Int64) = lN 2147483647 from by decide]
  refine n_lrem d_M_tag_50 (Nat.lt_of_lt_of_le (Nat.add_lt_add (sN_lt (L 85 1) (L 85 2) (64 * f + 8 + i)) m0) (by decide)) (by decide) (by decide) ?_
  rw [fpf]
  refine j_lstore d_M_tag_51 (i := 5) (Nat.le_of_ble_eq_true rfl) (lv' := [_, _, _, _, _, _, _]) rfl ?_
  refine n_iinc d_M_tag_53 1 (by decide) 1 rfl (Nat.le_of_ble_eq_true rfl) (lv' := [(7, .int (nI 1)), _, _, _, _, _, _]) rfl ?_
  refine j_goto d_M_tag_56 18 rfl ?_
  refine j_iload d_M_tag_18 0 rfl ?_
  refine n_iconst d_M_tag_20 4 (by decide) ?_
  refine n_icmp_ge d_M_tag_21 59 rfl (by omega) (by omega) (fun h => absurd h (by omega)) (fun h => ?_)
  refine j_lload d_M_tag_24 1 rfl ?_
  refine j_aload_n d_M_tag_26 rfl 2 rfl ?_
  refine n_bipush d_M_tag_27 64 (by decide) ?_
  refine j_iload_n d_M_tag_29 rfl 3 rfl ?_
  refine n_mul d_M_tag_30 ?_
  refine j_iload d_M_tag_31 0 rfl ?_
  refine n_add d_M_tag_33 ?_
  refine v_callV d_M_tag_34 mt_M_secret ln_M_95 im_M_secret se_M_secret rfl (Nat.le_of_ble_eq_true rfl) rfl rfl ⟨Nat.le_of_ble_eq_true rfl, Nat.le_of_ble_eq_true rfl⟩ (Nat.le_of_ble_eq_true rfl) rfl (Nat.zero_le _) (Nat.zero_le _) (c_M_secret g V L (64 * f + 1) (by omega)) rfl ?_
  rintro _ _ _ ⟨rfl, rfl, rfl⟩
  refine j_aload_n d_M_tag_37 rfl 5 rfl ?_
  refine j_iload d_M_tag_38 6 rfl ?_
  refine j_iload d_M_tag_40 0 rfl ?_
  refine n_add d_M_tag_42 ?_
  refine v_ild d_M_tag_43 hq rfl hq2 rfl (by omega) (by omega) ?_
  have m1 := mP (sN_lt (L 85 1) (L 85 2) (64 * f + 1)) (hv (p + 1) (by omega))
  have v1 := hv (p + 1) (by omega)
  refine n_i2l d_M_tag_44 (by omega) ?_
  refine n_lmul d_M_tag_45 ?_
  refine n_ladd d_M_tag_46 ?_
  refine j_ldc2 d_M_tag_47 ct_M_67 ?_
  rw [show (2147483647 : Int64) = lN 2147483647 from by decide]
  refine n_lrem d_M_tag_50 (Nat.lt_of_lt_of_le (Nat.add_lt_add (fpl_lt _ _) m1) (by decide)) (by decide) (by decide) ?_
  rw [fpf]
  refine j_lstore d_M_tag_51 (i := 5) (Nat.le_of_ble_eq_true rfl) (lv' := [_, _, _, _, _, _, _]) rfl ?_
  refine n_iinc d_M_tag_53 1 (by decide) 1 rfl (Nat.le_of_ble_eq_true rfl) (lv' := [(7, .int (nI 2)), _, _, _, _, _, _]) rfl ?_
  refine j_goto d_M_tag_56 18 rfl ?_
  refine j_iload d_M_tag_18 0 rfl ?_
  refine n_iconst d_M_tag_20 4 (by decide) ?_
  refine n_icmp_ge d_M_tag_21 59 rfl (by omega) (by omega) (fun h => absurd h (by omega)) (fun h => ?_)
  refine j_lload d_M_tag_24 1 rfl ?_
  refine j_aload_n d_M_tag_26 rfl 2 rfl ?_
  refine n_bipush d_M_tag_27 64 (by decide) ?_
  refine j_iload_n d_M_tag_29 rfl 3 rfl ?_
  refine n_mul d_M_tag_30 ?_
  refine j_iload d_M_tag_31 0 rfl ?_
  refine n_add d_M_tag_33 ?_
  refine v_callV d_M_tag_34 mt_M_secret ln_M_95 im_M_secret se_M_secret rfl (Nat.le_of_ble_eq_true rfl) rfl rfl ⟨Nat.le_of_ble_eq_true rfl, Nat.le_of_ble_eq_true rfl⟩ (Nat.le_of_ble_eq_true rfl) rfl (Nat.zero_le _) (Nat.zero_le _) (c_M_secret g V L (64 * f + 2) (by omega)) rfl ?_
  rintro _ _ _ ⟨rfl, rfl, rfl⟩
  refine j_aload_n d_M_tag_37 rfl 5 rfl ?_
  refine j_iload d_M_tag_38 6 rfl ?_
  refine j_iload d_M_tag_40 0 rfl ?_
  refine n_add d_M_tag_42 ?_
  refine v_ild d_M_tag_43 hq rfl hq2 rfl (by omega) (by omega) ?_
  have m2 := mP (sN_lt (L 85 1) (L 85 2) (64 * f + 2)) (hv (p + 2) (by omega))
  have v2 := hv (p + 2) (by omega)
  refine n_i2l d_M_tag_44 (by omega) ?_
  refine n_lmul d_M_tag_45 ?_
  refine n_ladd d_M_tag_46 ?_
  refine j_ldc2 d_M_tag_47 ct_M_67 ?_
  rw [show (2147483647 : Int64) = lN 2147483647 from by decide]
  refine n_lrem d_M_tag_50 (Nat.lt_of_lt_of_le (Nat.add_lt_add (fpl_lt _ _) m2) (by decide)) (by decide) (by decide) ?_
  rw [fpf]
  refine j_lstore d_M_tag_51 (i := 5) (Nat.le_of_ble_eq_true rfl) (lv' := [_, _, _, _, _, _, _]) rfl ?_
  refine n_iinc d_M_tag_53 1 (by decide) 1 rfl (Nat.le_of_ble_eq_true rfl) (lv' := [(7, .int (nI 3)), _, _, _, _, _, _]) rfl ?_
  refine j_goto d_M_tag_56 18 rfl ?_
  refine j_iload d_M_tag_18 0 rfl ?_
  refine n_iconst d_M_tag_20 4 (by decide) ?_
  refine n_icmp_ge d_M_tag_21 59 rfl (by omega) (by omega) (fun h => absurd h (by omega)) (fun h => ?_)
  refine j_lload d_M_tag_24 1 rfl ?_
  refine j_aload_n d_M_tag_26 rfl 2 rfl ?_
  refine n_bipush d_M_tag_27 64 (by decide) ?_
  refine j_iload_n d_M_tag_29 rfl 3 rfl ?_
  refine n_mul d_M_tag_30 ?_
  refine j_iload d_M_tag_31 0 rfl ?_
  refine n_add d_M_tag_33 ?_
  refine v_callV d_M_tag_34 mt_M_secret ln_M_95 im_M_secret se_M_secret rfl (Nat.le_of_ble_eq_true rfl) rfl rfl ⟨Nat.le_of_ble_eq_true rfl, Nat.le_of_ble_eq_true rfl⟩ (Nat.le_of_ble_eq_true rfl) rfl (Nat.zero_le _) (Nat.zero_le _) (c_M_secret g V L (64 * f + 3) (by omega)) rfl ?_
  rintro _ _ _ ⟨rfl, rfl, rfl⟩
  refine j_aload_n d_M_tag_37 rfl 5 rfl ?_
  refine j_iload d_M_tag_38 6 rfl ?_
  refine j_iload d_M_tag_40 0 rfl ?_
  refine n_add d_M_tag_42 ?_
  refine v_ild d_M_tag_43 hq rfl hq2 rfl (by omega) (by omega) ?_
  have m3 := mP (sN_lt (L 85 1) (L 85 2) (64 * f + 3)) (hv (p + 3) (by omega))
  have v3 := hv (p + 3) (by omega)
  refine n_i2l d_M_tag_44 (by omega) ?_
  refine n_lmul d_M_tag_45 ?_
  refine n_ladd d_M_tag_46 ?_
  refine j_ldc2 d_M_tag_47 ct_M_67 ?_
  rw [show (2147483647 : Int64) = lN 2147483647 from by decide]
  refine n_lrem d_M_tag_50 (Nat.lt_of_lt_of_le (Nat.add_lt_add (fpl_lt _ _) m3) (by decide)) (by decide) (by decide) ?_
  rw [fpf]
  refine j_lstore d_M_tag_51 (i := 5) (Nat.le_of_ble_eq_true rfl) (lv' := [_, _, _, _, _, _, _]) rfl ?_
  refine n_iinc d_M_tag_53 1 (by decide) 1 rfl (Nat.le_of_ble_eq_true rfl) (lv' := [(7, .int (nI 4)), _, _, _, _, _, _]) rfl ?_
  refine j_goto d_M_tag_56 18 rfl ?_
  refine j_iload d_M_tag_18 0 rfl ?_
  refine n_iconst d_M_tag_20 4 (by decide) ?_
  refine n_icmp_ge d_M_tag_21 59 rfl (by omega) (by omega) (fun h => ?_) (fun h => absurd h (by omega))
  refine j_lload d_M_tag_59 1 rfl ?_
  exact v_lret d_M_tag_61 rfl (Nat.zero_le _) (Nat.zero_le _) rfl jA0_rfl
theorem c_M_isFile (g : jG) (V : Nat → Nat → Nat) (L : Nat → Nat → Int64) (z : Int32) : jK g Y_M_isFile (0, 0) [.ref (jb g + 85), .int (z)] V L (jA0 (some (.int (nI (isn (V 85 4) z)))) V L) := by
  refine jK_entry (by decide +kernel) rfl (Nat.le_of_ble_eq_true rfl) ?_
  show jJ (g, Y_M_isFile, (0, 0), 0, 0, jVQ g (jA0 (some (.int (nI (isn (V 85 4) z)))) V L)) [(0, .ref (jb g + 85)), (1, .int (z))] (jv (g, Y_M_isFile, (0, 0), 0, 0, jVQ g (jA0 (some (.int (nI (isn (V 85 4) z)))) V L)) V L 0 0) 0 []
  refine j_iload_n d_M_isFile_0 rfl 1 rfl ?_
  refine j_if_lt d_M_isFile_1 16 rfl (fun h => ?_) (fun h => ?_)
  · rw [show isn (V 85 4) z = 0 from if_neg (fun q => q.1 h)]
    refine n_iconst d_M_isFile_16 0 (by decide) ?_
    exact v_zret d_M_isFile_17 rfl (by omega) (Nat.zero_le _) (Nat.zero_le _) rfl jA0_rfl
  · refine j_iload_n d_M_isFile_4 rfl 1 rfl ?_
    refine j_aload_n d_M_isFile_5 rfl 0 rfl ?_
    refine v_getI d_M_isFile_6 lf_M_88 rfl (Nat.le_of_ble_eq_true rfl) rfl ?_
    refine j_icmp_ge d_M_isFile_9 16 rfl (fun h2 => ?_) (fun h2 => ?_)
    · rw [show isn (V 85 4) z = 0 from if_neg (fun q => q.2 h2)]
      refine n_iconst d_M_isFile_16 0 (by decide) ?_
      exact v_zret d_M_isFile_17 rfl (by omega) (Nat.zero_le _) (Nat.zero_le _) rfl jA0_rfl
    · rw [show isn (V 85 4) z = 1 from if_pos ⟨h, h2⟩]
      refine n_iconst d_M_isFile_12 1 (by decide) ?_
      refine j_goto d_M_isFile_13 17 rfl ?_
      exact v_zret d_M_isFile_17 rfl (by omega) (Nat.zero_le _) (Nat.zero_le _) rfl jA0_rfl
theorem c_M_isKeeper (g : jG) (V : Nat → Nat → Nat) (L : Nat → Nat → Int64) (z : Int32) : jK g Y_M_isKeeper (0, 0) [.int (z)] V L (jA0 (some (.int (nI (isn 4 z)))) V L) := by
  refine jK_entry (by decide +kernel) rfl (Nat.le_of_ble_eq_true rfl) ?_
  show jJ (g, Y_M_isKeeper, (0, 0), 0, 0, jVQ g (jA0 (some (.int (nI (isn 4 z)))) V L)) [(0, .int (z))] (jv (g, Y_M_isKeeper, (0, 0), 0, 0, jVQ g (jA0 (some (.int (nI (isn 4 z)))) V L)) V L 0 0) 0 []
  refine j_iload_n d_M_isKeeper_0 rfl 0 rfl ?_
  refine j_if_lt d_M_isKeeper_1 13 rfl (fun h => ?_) (fun h => ?_)
  · rw [show isn 4 z = 0 from if_neg (fun q => q.1 h)]
    refine n_iconst d_M_isKeeper_13 0 (by decide) ?_
    exact v_zret d_M_isKeeper_14 rfl (by omega) (Nat.zero_le _) (Nat.zero_le _) rfl jA0_rfl
  · refine j_iload_n d_M_isKeeper_4 rfl 0 rfl ?_
    refine n_iconst d_M_isKeeper_5 4 (by decide) ?_
    refine j_icmp_ge d_M_isKeeper_6 13 rfl (fun h2 => ?_) (fun h2 => ?_)
    · rw [show isn 4 z = 0 from if_neg (fun q => q.2 h2)]
      refine n_iconst d_M_isKeeper_13 0 (by decide) ?_
      exact v_zret d_M_isKeeper_14 rfl (by omega) (Nat.zero_le _) (Nat.zero_le _) rfl jA0_rfl
    · rw [show isn 4 z = 1 from if_pos ⟨h, h2⟩]
      refine n_iconst d_M_isKeeper_9 1 (by decide) ?_
      refine j_goto d_M_isKeeper_10 14 rfl ?_
      exact v_zret d_M_isKeeper_14 rfl (by omega) (Nat.zero_le _) (Nat.zero_le _) rfl jA0_rfl
/-- what holds of the model's cells -/
def jN (V : Nat → Nat → Nat) : Prop := V 85 4 ≤ 3 ∧ (∀ f, f < 3 → V 87 f ≤ 64) ∧ (∀ i, i < 360 → V 88 i < 2147483647) ∧ (∀ i, i < 12 → V 89 i ≤ 1) ∧ (∀ i, i < 1440 → V 90 i < 2147483647) ∧ (∀ i, i < 288 → V 91 i ≤ 1) ∧
  (V 85 13 ≤ 24 ∧ V 85 14 < 3 ∧ V 85 15 < 4 ∧ (∀ i, i < V 85 13 → V 95 i < 24) ∧ (∀ i, i < V 85 13 → V 96 i < 2147483647) ∧ (∀ i, i < 5 → V 97 i < 2147483647)) ∧ V 85 19 ≤ 24 ∧ V 85 21 ≤ 64
section JN
variable {V : Nat → Nat → Nat}
theorem jN.F (h : jN V) : V 85 4 ≤ 3 := h.1
theorem jN.w (h : jN V) {f : Nat} (hf : f < 3) : V 87 f ≤ 64 := h.2.1 f hf
theorem jN.md (h : jN V) : ∀ i, i < 360 → V 88 i < 2147483647 := h.2.2.1
theorem jN.hs (h : jN V) : ∀ i, i < 12 → V 89 i ≤ 1 := h.2.2.2.1
theorem jN.kp (h : jN V) : ∀ i, i < 1440 → V 90 i < 2147483647 := h.2.2.2.2.1
theorem jN.ls (h : jN V) : ∀ i, i < 288 → V 91 i ≤ 1 := h.2.2.2.2.2.1
theorem jN.ak (h : jN V) : V 85 13 ≤ 24 := h.2.2.2.2.2.2.1.1
theorem jN.af (h : jN V) : V 85 14 < 3 := h.2.2.2.2.2.2.1.2.1
theorem jN.aq (h : jN V) : V 85 15 < 4 := h.2.2.2.2.2.2.1.2.2.1
theorem jN.rw (h : jN V) : ∀ i, i < V 85 13 → V 95 i < 24 := h.2.2.2.2.2.2.1.2.2.2.1
theorem jN.co (h : jN V) : ∀ i, i < V 85 13 → V 96 i < 2147483647 := h.2.2.2.2.2.2.1.2.2.2.2.1
theorem jN.an (h : jN V) : ∀ i, i < 5 → V 97 i < 2147483647 := h.2.2.2.2.2.2.1.2.2.2.2.2
theorem jN.fo (h : jN V) : V 85 19 ≤ 24 := h.2.2.2.2.2.2.2.1
theorem jN.fe (h : jN V) : V 85 21 ≤ 64 := h.2.2.2.2.2.2.2.2
end JN
def mhl (V : Nat → Nat → Nat) (zk zf : Int32) : Nat := if isn 4 zk = 0 then 0 else if isn (V 85 4) zf = 0 then 0 else V 89 (3 * zk.toNatClampNeg + zf.toNatClampNeg)
theorem mhl_nI {V : Nat → Nat → Nat} {k f : Nat} (h3 : V 85 4 ≤ 3) (hk : k < 4) (hf : f < V 85 4) : mhl V (nI k) (nI f) = V 89 (3 * k + f) := by
  unfold mhl
  rw [isn_nI (by omega) hk, if_neg (by omega), isn_nI (by omega) hf, if_neg (by omega), nI_clamp (by omega), nI_clamp (by omega)]
theorem mhl_of {V : Nat → Nat → Nat} {zk zf : Int32} (h : jN V) (h0 : ¬ mhl V zk zf = 0) : ∃ k f, k < 4 ∧ f < V 85 4 ∧ zk = nI k ∧ zf = nI f ∧ V 89 (3 * k + f) = 1 := by
  by_cases h1 : isn 4 zk = 0
  · exact absurd (if_pos h1) h0
  · by_cases h2 : isn (V 85 4) zf = 0
    · exact absurd (by unfold mhl; rw [if_neg h1, if_pos h2]) h0
    · have h3 := h.F
      obtain ⟨k, hk, rfl⟩ := isn_of (by omega) h1
      obtain ⟨f, hf, rfl⟩ := isn_of (by omega) h2
      rw [mhl_nI h3 hk hf] at h0
      have h4 := h.hs (3 * k + f) (by omega)
      exact ⟨k, f, hk, hf, rfl, rfl, by omega⟩
theorem mhl_le {V : Nat → Nat → Nat} (h : jN V) (zk zf : Int32) : mhl V zk zf ≤ 1 := by
  by_cases h0 : mhl V zk zf = 0
  · omega
  · obtain ⟨k, f, hk, hf, rfl, rfl, h1⟩ := mhl_of h h0
    rw [mhl_nI h.F hk hf, h1]
    exact Nat.le_refl _
theorem c_M_holds (g : jG) (V : Nat → Nat → Nat) (L : Nat → Nat → Int64) (hN : jN V) (zk zf : Int32) : jK g Y_M_holds (1, 21) [.ref (jb g + 85), .int (zk), .int (zf)] V L (jA0 (some (.int (nI (mhl V zk zf)))) V L) := by
  refine jK_entry (by decide +kernel) rfl (Nat.le_of_ble_eq_true rfl) ?_
  show jJ (g, Y_M_holds, (1, 21), 0, 0, jVQ g (jA0 (some (.int (nI (mhl V zk zf)))) V L)) [(0, .ref (jb g + 85)), (1, .int (zk)), (2, .int (zf))] (jv (g, Y_M_holds, (1, 21), 0, 0, jVQ g (jA0 (some (.int (nI (mhl V zk zf)))) V L)) V L 0 0) 0 []
  have h3 := hN.F
  refine j_iload_n d_M_holds_0 rfl 1 rfl ?_
  refine v_callS d_M_holds_1 mt_M_isKeeper ln_M_115 sm_M_isKeeper ⟨Nat.le_of_ble_eq_true rfl, Nat.le_of_ble_eq_true rfl⟩ (Nat.le_of_ble_eq_true rfl) rfl (Nat.zero_le _) (Nat.zero_le _) (c_M_isKeeper g V L zk) rfl ?_
  rintro _ _ _ ⟨rfl, rfl, rfl⟩
  refine n_if_eq d_M_holds_4 51 rfl (Nat.lt_of_le_of_lt (isn_le _ _) (by decide)) (fun h1 => ?_) (fun h1 => ?_)
  · rw [show mhl V zk zf = 0 from if_pos h1]
    refine n_iconst d_M_holds_51 0 (by decide) ?_
    exact v_zret d_M_holds_52 rfl (by omega) (Nat.zero_le _) (Nat.zero_le _) rfl jA0_rfl
  · refine j_aload_n d_M_holds_7 rfl 0 rfl ?_
    refine j_iload_n d_M_holds_8 rfl 2 rfl ?_
    refine v_callV d_M_holds_9 mt_M_isFile ln_M_118 im_M_isFile se_M_isFile rfl (Nat.le_of_ble_eq_true rfl) rfl rfl ⟨Nat.le_of_ble_eq_true rfl, Nat.le_of_ble_eq_true rfl⟩ (Nat.le_of_ble_eq_true rfl) rfl (Nat.zero_le _) (Nat.zero_le _) (c_M_isFile g V L zf) rfl ?_
    rintro _ _ _ ⟨rfl, rfl, rfl⟩
    refine n_if_eq d_M_holds_12 51 rfl (Nat.lt_of_le_of_lt (isn_le _ _) (by decide)) (fun h2 => ?_) (fun h2 => ?_)
    · rw [show mhl V zk zf = 0 from by unfold mhl; rw [if_neg h1, if_pos h2]]
      refine n_iconst d_M_holds_51 0 (by decide) ?_
      exact v_zret d_M_holds_52 rfl (by omega) (Nat.zero_le _) (Nat.zero_le _) rfl jA0_rfl
    · obtain ⟨k, hk, rfl⟩ := isn_of (by omega) h1
      obtain ⟨f, hf0, rfl⟩ := isn_of (by omega) h2
      have hd := hN.hs (3 * k + f) (by omega)
      rw [mhl_nI h3 hk hf0]
      refine j_aload_n d_M_holds_15 rfl 0 rfl ?_
      refine v_getR d_M_holds_16 lf_M_19 rfl (Nat.le_of_ble_eq_true rfl) rfl ?_
      refine j_iload_n d_M_holds_19 rfl 1 rfl ?_
      refine v_callS d_M_holds_20 mt_M_isKeeper ln_M_115 sm_M_isKeeper ⟨Nat.le_of_ble_eq_true rfl, Nat.le_of_ble_eq_true rfl⟩ (Nat.le_of_ble_eq_true rfl) rfl (Nat.zero_le _) (Nat.zero_le _) (c_M_isKeeper g V L (nI k)) rfl ?_
      rintro _ _ _ ⟨rfl, rfl, rfl⟩
      rw [isn_nI (by omega) hk]
      refine n_if_eq d_M_holds_23 42 rfl (by omega) (fun h => absurd h (by omega)) (fun h => ?_)
      refine j_aload_n d_M_holds_26 rfl 0 rfl ?_
      refine j_iload_n d_M_holds_27 rfl 2 rfl ?_
      refine v_callV d_M_holds_28 mt_M_isFile ln_M_118 im_M_isFile se_M_isFile rfl (Nat.le_of_ble_eq_true rfl) rfl rfl ⟨Nat.le_of_ble_eq_true rfl, Nat.le_of_ble_eq_true rfl⟩ (Nat.le_of_ble_eq_true rfl) rfl (Nat.zero_le _) (Nat.zero_le _) (c_M_isFile g V L (nI f)) rfl ?_
      rintro _ _ _ ⟨rfl, rfl, rfl⟩
      rw [isn_nI (by omega) hf0]
      refine n_if_eq d_M_holds_31 42 rfl (by omega) (fun h => absurd h (by omega)) (fun h => ?_)
      refine n_iconst d_M_holds_34 3 (by decide) ?_
      refine j_iload_n d_M_holds_35 rfl 1 rfl ?_
      refine n_mul d_M_holds_36 ?_
      refine j_iload_n d_M_holds_37 rfl 2 rfl ?_
      refine n_add d_M_holds_38 ?_
      refine j_goto d_M_holds_39 43 rfl ?_
      refine v_zld d_M_holds_43 rfl rfl (Nat.le_of_ble_eq_true rfl) rfl (by omega) (by omega) ?_
      refine n_if_eq d_M_holds_44 51 rfl (by omega) (fun h4 => ?_) (fun h4 => ?_)
      · rw [h4]
        refine n_iconst d_M_holds_51 0 (by decide) ?_
        exact v_zret d_M_holds_52 rfl (by omega) (Nat.zero_le _) (Nat.zero_le _) rfl jA0_rfl
      · rw [show V 89 (3 * k + f) = 1 from by omega]
        refine n_iconst d_M_holds_47 1 (by decide) ?_
        refine j_goto d_M_holds_48 52 rfl ?_
        exact v_zret d_M_holds_52 rfl (by omega) (Nat.zero_le _) (Nat.zero_le _) rfl jA0_rfl
def mrw (V : Nat → Nat → Nat) (zk zf zi : Int32) : Nat := if mhl V zk zf = 0 then 0 else isn (mrs V zf.toNatClampNeg) zi
theorem mrw_le {V : Nat → Nat → Nat} (zk zf zi : Int32) : mrw V zk zf zi ≤ 1 := by
  unfold mrw
  split
  · omega
  · exact isn_le _ _
theorem c_M_isRow (g : jG) (V : Nat → Nat → Nat) (L : Nat → Nat → Int64) (hN : jN V) (zk zf zi : Int32) : jK g Y_M_isRow (2, 43) [.ref (jb g + 85), .int (zk), .int (zf), .int (zi)] V L (jA0 (some (.int (nI (mrw V zk zf zi)))) V L) := by
  refine jK_entry (by decide +kernel) rfl (Nat.le_of_ble_eq_true rfl) ?_
  show jJ (g, Y_M_isRow, (2, 43), 0, 0, jVQ g (jA0 (some (.int (nI (mrw V zk zf zi)))) V L)) [(0, .ref (jb g + 85)), (1, .int (zk)), (2, .int (zf)), (3, .int (zi))] (jv (g, Y_M_isRow, (2, 43), 0, 0, jVQ g (jA0 (some (.int (nI (mrw V zk zf zi)))) V L)) V L 0 0) 0 []
  refine j_aload_n d_M_isRow_0 rfl 0 rfl ?_
  refine j_iload_n d_M_isRow_1 rfl 1 rfl ?_
  refine j_iload_n d_M_isRow_2 rfl 2 rfl ?_
  refine v_callV d_M_isRow_3 mt_M_holds ln_M_132 im_M_holds se_M_holds rfl (Nat.le_of_ble_eq_true rfl) rfl rfl ⟨Nat.le_of_ble_eq_true rfl, Nat.le_of_ble_eq_true rfl⟩ (Nat.le_of_ble_eq_true rfl) rfl (Nat.zero_le _) (Nat.zero_le _) (c_M_holds g V L hN zk zf) rfl ?_
  rintro _ _ _ ⟨rfl, rfl, rfl⟩
  refine n_if_eq d_M_isRow_6 38 rfl (Nat.lt_of_le_of_lt (mhl_le hN _ _) (by decide)) (fun h1 => ?_) (fun h1 => ?_)
  · rw [show mrw V zk zf zi = 0 from if_pos h1]
    refine n_iconst d_M_isRow_38 0 (by decide) ?_
    exact v_zret d_M_isRow_39 rfl (by omega) (Nat.zero_le _) (Nat.zero_le _) rfl jA0_rfl
  · have e0 : mrw V zk zf zi = isn (mrs V zf.toNatClampNeg) zi := if_neg h1
    have h3 := hN.F
    obtain ⟨k, f, hk, hf0, rfl, rfl, hd⟩ := mhl_of hN h1
    rw [e0, nI_clamp (by omega)]
    refine j_iload_n d_M_isRow_9 rfl 3 rfl ?_
    refine j_if_lt d_M_isRow_10 38 rfl (fun h2 => ?_) (fun h2 => ?_)
    · rw [show isn (mrs V f) zi = 0 from if_neg (fun q => q.1 h2)]
      refine n_iconst d_M_isRow_38 0 (by decide) ?_
      exact v_zret d_M_isRow_39 rfl (by omega) (Nat.zero_le _) (Nat.zero_le _) rfl jA0_rfl
    · refine j_iload_n d_M_isRow_13 rfl 3 rfl ?_
      refine j_aload_n d_M_isRow_14 rfl 0 rfl ?_
      refine j_aload_n d_M_isRow_15 rfl 0 rfl ?_
      refine j_iload_n d_M_isRow_16 rfl 2 rfl ?_
      refine v_callV d_M_isRow_17 mt_M_isFile ln_M_118 im_M_isFile se_M_isFile rfl (Nat.le_of_ble_eq_true rfl) rfl rfl ⟨Nat.le_of_ble_eq_true rfl, Nat.le_of_ble_eq_true rfl⟩ (Nat.le_of_ble_eq_true rfl) rfl (Nat.zero_le _) (Nat.zero_le _) (c_M_isFile g V L (nI f)) rfl ?_
      rintro _ _ _ ⟨rfl, rfl, rfl⟩
      rw [isn_nI (by omega) hf0]
      refine n_if_eq d_M_isRow_20 27 rfl (by omega) (fun h => absurd h (by omega)) (fun h => ?_)
      refine j_iload_n d_M_isRow_23 rfl 2 rfl ?_
      refine j_goto d_M_isRow_24 28 rfl ?_
      refine v_callV d_M_isRow_28 mt_M_rowsOf ln_M_99 im_M_rowsOf se_M_rowsOf rfl (Nat.le_of_ble_eq_true rfl) rfl rfl ⟨Nat.le_of_ble_eq_true rfl, Nat.le_of_ble_eq_true rfl⟩ (Nat.le_of_ble_eq_true rfl) rfl (Nat.zero_le _) (Nat.zero_le _) (c_M_rowsOf g V L f (by omega) (hN.w (by omega))) rfl ?_
      rintro _ _ _ ⟨rfl, rfl, rfl⟩
      refine j_icmp_ge d_M_isRow_31 38 rfl (fun h4 => ?_) (fun h4 => ?_)
      · rw [show isn (mrs V f) zi = 0 from if_neg (fun q => q.2 h4)]
        refine n_iconst d_M_isRow_38 0 (by decide) ?_
        exact v_zret d_M_isRow_39 rfl (by omega) (Nat.zero_le _) (Nat.zero_le _) rfl jA0_rfl
      · rw [show isn (mrs V f) zi = 1 from if_pos ⟨h2, h4⟩]
        refine n_iconst d_M_isRow_34 1 (by decide) ?_
        refine j_goto d_M_isRow_35 39 rfl ?_
        exact v_zret d_M_isRow_39 rfl (by omega) (Nat.zero_le _) (Nat.zero_le _) rfl jA0_rfl
def mgd (V : Nat → Nat → Nat) (L : Nat → Nat → Int64) (k f i : Nat) : Nat := if V 89 (3 * k + f) = 0 then 0 else if V 91 (72 * k + 24 * f + i) = 0 then (if tgd (sN (L 85 1) (L 85 2) (64 * f + 8 + i)) (fun j => sN (L 85 1) (L 85 2) (64 * f + j)) (fun j => V 90 (360 * k + 5 * (24 * f + i) + j)) = V 90 (360 * k + 5 * (24 * f + i) + 4) then 1 else 0) else 0
theorem mgd_le (V : Nat → Nat → Nat) (L : Nat → Nat → Int64) (k f i : Nat) : mgd V L k f i ≤ 1 := by
  unfold mgd
  repeat' split
  all_goals omega
theorem c_M_isGood (g : jG) (V : Nat → Nat → Nat) (L : Nat → Nat → Int64) (hN : jN V) (k f i : Nat) (hk : k < 4) (hf0 : f < V 85 4) (hi : i < 24) : jK g Y_M_isGood (2, 51) [.ref (jb g + 85), .int (nI k), .int (nI f), .int (nI i)] V L (jA0 (some (.int (nI (mgd V L k f i)))) V L) := by
  refine jK_entry (by decide +kernel) rfl (Nat.le_of_ble_eq_true rfl) ?_
  show jJ (g, Y_M_isGood, (2, 51), 0, 0, jVQ g (jA0 (some (.int (nI (mgd V L k f i)))) V L)) [(0, .ref (jb g + 85)), (1, .int (nI k)), (2, .int (nI f)), (3, .int (nI i))] (jv (g, Y_M_isGood, (2, 51), 0, 0, jVQ g (jA0 (some (.int (nI (mgd V L k f i)))) V L)) V L 0 0) 0 []
  have h3 := hN.F
  have hd := hN.hs (3 * k + f) (by omega)
  have hl := hN.ls (72 * k + 24 * f + i) (by omega)
  refine j_iload_n d_M_isGood_0 rfl 1 rfl ?_
  refine j_iload_n d_M_isGood_1 rfl 2 rfl ?_
  refine j_iload_n d_M_isGood_2 rfl 3 rfl ?_
  refine v_callS d_M_isGood_3 mt_M_spot ln_M_125 sm_M_spot ⟨Nat.le_of_ble_eq_true rfl, Nat.le_of_ble_eq_true rfl⟩ (Nat.le_of_ble_eq_true rfl) rfl (Nat.zero_le _) (Nat.zero_le _) (c_M_spot g V L k f i) rfl ?_
  rintro _ _ _ ⟨rfl, rfl, rfl⟩
  refine j_istore d_M_isGood_6 (i := 4) (Nat.le_of_ble_eq_true rfl) (lv' := [_, _, _, _, _]) rfl ?_
  refine j_aload_n d_M_isGood_8 rfl 1 rfl ?_
  refine j_iload_n d_M_isGood_9 rfl 2 rfl ?_
  refine j_iload_n d_M_isGood_10 rfl 3 rfl ?_
  refine v_callV d_M_isGood_11 mt_M_holds ln_M_132 im_M_holds se_M_holds rfl (Nat.le_of_ble_eq_true rfl) rfl rfl ⟨Nat.le_of_ble_eq_true rfl, Nat.le_of_ble_eq_true rfl⟩ (Nat.le_of_ble_eq_true rfl) rfl (Nat.zero_le _) (Nat.zero_le _) (c_M_holds g V L hN (nI k) (nI f)) rfl ?_
  rintro _ _ _ ⟨rfl, rfl, rfl⟩
  rw [mhl_nI h3 hk hf0]
  refine n_if_eq d_M_isGood_14 61 rfl (by omega) (fun h1 => ?_) (fun h1 => ?_)
  · rw [show mgd V L k f i = 0 from if_pos h1]
    refine n_iconst d_M_isGood_61 0 (by decide) ?_
    exact v_zret d_M_isGood_62 rfl (by omega) (Nat.zero_le _) (Nat.zero_le _) rfl jA0_rfl
  · refine j_aload_n d_M_isGood_17 rfl 1 rfl ?_
    refine v_getR d_M_isGood_18 lf_M_26 rfl (Nat.le_of_ble_eq_true rfl) rfl ?_
    refine j_iload_n d_M_isGood_21 rfl 2 rfl ?_
    refine j_iload_n d_M_isGood_22 rfl 3 rfl ?_
    refine j_iload_n d_M_isGood_23 rfl 4 rfl ?_
    refine v_callS d_M_isGood_24 mt_M_mark ln_M_129 sm_M_mark ⟨Nat.le_of_ble_eq_true rfl, Nat.le_of_ble_eq_true rfl⟩ (Nat.le_of_ble_eq_true rfl) rfl (Nat.zero_le _) (Nat.zero_le _) (c_M_mark g V L k f i) rfl ?_
    rintro _ _ _ ⟨rfl, rfl, rfl⟩
    refine v_zld d_M_isGood_27 rfl rfl (Nat.le_of_ble_eq_true rfl) rfl (by omega) (by omega) ?_
    refine n_if_ne d_M_isGood_28 61 rfl (by omega) (fun h2 => ?_) (fun h2 => ?_)
    · rw [show mgd V L k f i = 0 from by unfold mgd; rw [if_neg h1, if_neg h2]]
      refine n_iconst d_M_isGood_61 0 (by decide) ?_
      exact v_zret d_M_isGood_62 rfl (by omega) (Nat.zero_le _) (Nat.zero_le _) rfl jA0_rfl
    · refine j_aload_n d_M_isGood_31 rfl 1 rfl ?_
      refine j_iload_n d_M_isGood_32 rfl 3 rfl ?_
      refine j_iload_n d_M_isGood_33 rfl 4 rfl ?_
      refine j_aload_n d_M_isGood_34 rfl 1 rfl ?_
      refine v_getR d_M_isGood_35 lf_M_23 rfl (Nat.le_of_ble_eq_true rfl) rfl ?_
      refine j_iload d_M_isGood_38 0 rfl ?_
      refine v_callV d_M_isGood_40 mt_M_tag ln_M_107 im_M_tag se_M_tag rfl (Nat.le_of_ble_eq_true rfl) rfl rfl ⟨Nat.le_of_ble_eq_true rfl, Nat.le_of_ble_eq_true rfl⟩ (Nat.le_of_ble_eq_true rfl) rfl (Nat.zero_le _) (Nat.zero_le _) (c_M_tag g V L f i 90 1440 (360 * k + 5 * (24 * f + i)) (by omega) hi rfl (by decide) (by decide) (by omega) hN.kp) rfl ?_
      rintro _ _ _ ⟨rfl, rfl, rfl⟩
      have h4 := hN.kp (360 * k + 5 * (24 * f + i) + 4) (by omega)
      refine j_aload_n d_M_isGood_43 rfl 1 rfl ?_
      refine v_getR d_M_isGood_44 lf_M_23 rfl (Nat.le_of_ble_eq_true rfl) rfl ?_
      refine j_iload d_M_isGood_47 0 rfl ?_
      refine n_iconst d_M_isGood_49 4 (by decide) ?_
      refine n_add d_M_isGood_50 ?_
      refine v_ild d_M_isGood_51 rfl rfl (Nat.le_of_ble_eq_true rfl) rfl (by omega) (by omega) ?_
      refine n_i2l d_M_isGood_52 (by omega) ?_
      refine j_lcmp d_M_isGood_53 ?_
      refine n_lc_ne d_M_isGood_54 61 rfl (Nat.lt_of_lt_of_le (tgd_lt _ _ _) (by decide)) (by omega) (fun h5 => ?_) (fun h5 => ?_)
      · rw [show mgd V L k f i = 0 from by unfold mgd; rw [if_neg h1, if_pos h2, if_neg h5]]
        refine n_iconst d_M_isGood_61 0 (by decide) ?_
        exact v_zret d_M_isGood_62 rfl (by omega) (Nat.zero_le _) (Nat.zero_le _) rfl jA0_rfl
      · rw [show mgd V L k f i = 1 from by unfold mgd; rw [if_neg h1, if_pos h2, if_pos h5]]
        refine n_iconst d_M_isGood_57 1 (by decide) ?_
        refine j_goto d_M_isGood_58 62 rfl ?_
        exact v_zret d_M_isGood_62 rfl (by omega) (Nat.zero_le _) (Nat.zero_le _) rfl jA0_rfl
def mkk (V : Nat → Nat → Nat) (L : Nat → Nat → Int64) (f i : Nat) : Nat := if mgd V L 0 f i = 0 then (if mgd V L 1 f i = 0 then (if mgd V L 2 f i = 0 then (if mgd V L 3 f i = 0 then 4 else 3) else 2) else 1) else 0
theorem c_M_keeperOf (g : jG) (V : Nat → Nat → Nat) (L : Nat → Nat → Int64) (hN : jN V) (f i : Nat) (hf0 : f < V 85 4) (hi : i < 24) : jK g Y_M_keeperOf (3, 75) [.ref (jb g + 85), .int (nI f), .int (nI i)] V L (jA0 (some (.int (lgi (mkk V L f i)))) V L) := by
  refine jK_entry (by decide +kernel) rfl (Nat.le_of_ble_eq_true rfl) ?_
  show jJ (g, Y_M_keeperOf, (3, 75), 0, 0, jVQ g (jA0 (some (.int (lgi (mkk V L f i)))) V L)) [(0, .ref (jb g + 85)), (1, .int (nI f)), (2, .int (nI i))] (jv (g, Y_M_keeperOf, (3, 75), 0, 0, jVQ g (jA0 (some (.int (lgi (mkk V L f i)))) V L)) V L 0 0) 0 []
  refine n_iconst d_M_keeperOf_0 0 (by decide) ?_
  refine j_istore_n d_M_keeperOf_1 (i := 3) rfl (Nat.le_of_ble_eq_true rfl) (lv' := [_, _, _, _]) rfl ?_
  refine j_iload_n d_M_keeperOf_2 rfl 0 rfl ?_
  refine n_iconst d_M_keeperOf_3 4 (by decide) ?_
  refine n_icmp_ge d_M_keeperOf_4 25 rfl (by omega) (by omega) (fun h => absurd h (by omega)) (fun h => ?_)
  refine j_aload_n d_M_keeperOf_7 rfl 1 rfl ?_
  refine j_iload_n d_M_keeperOf_8 rfl 0 rfl ?_
  refine j_iload_n d_M_keeperOf_9 rfl 2 rfl ?_
  refine j_iload_n d_M_keeperOf_10 rfl 3 rfl ?_
  refine v_callV d_M_keeperOf_11 mt_M_isGood ln_M_158 im_M_isGood se_M_isGood rfl (Nat.le_of_ble_eq_true rfl) rfl rfl ⟨Nat.le_of_ble_eq_true rfl, Nat.le_of_ble_eq_true rfl⟩ (Nat.le_of_ble_eq_true rfl) rfl (Nat.zero_le _) (Nat.zero_le _) (c_M_isGood g V L hN 0 f i (by omega) hf0 hi) rfl ?_
  rintro _ _ _ ⟨rfl, rfl, rfl⟩
  refine n_if_eq d_M_keeperOf_14 19 rfl (Nat.lt_of_le_of_lt (mgd_le _ _ _ _ _) (by decide)) (fun h0 => ?_) (fun h0 => ?_)
  · refine n_iinc d_M_keeperOf_19 1 (by decide) 0 rfl (Nat.le_of_ble_eq_true rfl) (lv' := [(3, .int (nI 1)), _, _, _]) rfl ?_
    refine j_goto d_M_keeperOf_22 2 rfl ?_
    refine j_iload_n d_M_keeperOf_2 rfl 0 rfl ?_
    refine n_iconst d_M_keeperOf_3 4 (by decide) ?_
    refine n_icmp_ge d_M_keeperOf_4 25 rfl (by omega) (by omega) (fun h => absurd h (by omega)) (fun h => ?_)
    refine j_aload_n d_M_keeperOf_7 rfl 1 rfl ?_
    refine j_iload_n d_M_keeperOf_8 rfl 0 rfl ?_
    refine j_iload_n d_M_keeperOf_9 rfl 2 rfl ?_
    refine j_iload_n d_M_keeperOf_10 rfl 3 rfl ?_
    refine v_callV d_M_keeperOf_11 mt_M_isGood ln_M_158 im_M_isGood se_M_isGood rfl (Nat.le_of_ble_eq_true rfl) rfl rfl ⟨Nat.le_of_ble_eq_true rfl, Nat.le_of_ble_eq_true rfl⟩ (Nat.le_of_ble_eq_true rfl) rfl (Nat.zero_le _) (Nat.zero_le _) (c_M_isGood g V L hN 1 f i (by omega) hf0 hi) rfl ?_
    rintro _ _ _ ⟨rfl, rfl, rfl⟩
    refine n_if_eq d_M_keeperOf_14 19 rfl (Nat.lt_of_le_of_lt (mgd_le _ _ _ _ _) (by decide)) (fun h1 => ?_) (fun h1 => ?_)
    · refine n_iinc d_M_keeperOf_19 1 (by decide) 0 rfl (Nat.le_of_ble_eq_true rfl) (lv' := [(3, .int (nI 2)), _, _, _]) rfl ?_
      refine j_goto d_M_keeperOf_22 2 rfl ?_
      refine j_iload_n d_M_keeperOf_2 rfl 0 rfl ?_
      refine n_iconst d_M_keeperOf_3 4 (by decide) ?_
      refine n_icmp_ge d_M_keeperOf_4 25 rfl (by omega) (by omega) (fun h => absurd h (by omega)) (fun h => ?_)
      refine j_aload_n d_M_keeperOf_7 rfl 1 rfl ?_
      refine j_iload_n d_M_keeperOf_8 rfl 0 rfl ?_
      refine j_iload_n d_M_keeperOf_9 rfl 2 rfl ?_
      refine j_iload_n d_M_keeperOf_10 rfl 3 rfl ?_
      refine v_callV d_M_keeperOf_11 mt_M_isGood ln_M_158 im_M_isGood se_M_isGood rfl (Nat.le_of_ble_eq_true rfl) rfl rfl ⟨Nat.le_of_ble_eq_true rfl, Nat.le_of_ble_eq_true rfl⟩ (Nat.le_of_ble_eq_true rfl) rfl (Nat.zero_le _) (Nat.zero_le _) (c_M_isGood g V L hN 2 f i (by omega) hf0 hi) rfl ?_
      rintro _ _ _ ⟨rfl, rfl, rfl⟩
      refine n_if_eq d_M_keeperOf_14 19 rfl (Nat.lt_of_le_of_lt (mgd_le _ _ _ _ _) (by decide)) (fun h2 => ?_) (fun h2 => ?_)
      · refine n_iinc d_M_keeperOf_19 1 (by decide) 0 rfl (Nat.le_of_ble_eq_true rfl) (lv' := [(3, .int (nI 3)), _, _, _]) rfl ?_
        refine j_goto d_M_keeperOf_22 2 rfl ?_
        refine j_iload_n d_M_keeperOf_2 rfl 0 rfl ?_
        refine n_iconst d_M_keeperOf_3 4 (by decide) ?_
        refine n_icmp_ge d_M_keeperOf_4 25 rfl (by omega) (by omega) (fun h => absurd h (by omega)) (fun h => ?_)
        refine j_aload_n d_M_keeperOf_7 rfl 1 rfl ?_
        refine j_iload_n d_M_keeperOf_8 rfl 0 rfl ?_
        refine j_iload_n d_M_keeperOf_9 rfl 2 rfl ?_
        refine j_iload_n d_M_keeperOf_10 rfl 3 rfl ?_
        refine v_callV d_M_keeperOf_11 mt_M_isGood ln_M_158 im_M_isGood se_M_isGood rfl (Nat.le_of_ble_eq_true rfl) rfl rfl ⟨Nat.le_of_ble_eq_true rfl, Nat.le_of_ble_eq_true rfl⟩ (Nat.le_of_ble_eq_true rfl) rfl (Nat.zero_le _) (Nat.zero_le _) (c_M_isGood g V L hN 3 f i (by omega) hf0 hi) rfl ?_
        rintro _ _ _ ⟨rfl, rfl, rfl⟩
        refine n_if_eq d_M_keeperOf_14 19 rfl (Nat.lt_of_le_of_lt (mgd_le _ _ _ _ _) (by decide)) (fun h3 => ?_) (fun h3 => ?_)
        · refine n_iinc d_M_keeperOf_19 1 (by decide) 0 rfl (Nat.le_of_ble_eq_true rfl) (lv' := [(3, .int (nI 4)), _, _, _]) rfl ?_
          refine j_goto d_M_keeperOf_22 2 rfl ?_
          refine j_iload_n d_M_keeperOf_2 rfl 0 rfl ?_
          refine n_iconst d_M_keeperOf_3 4 (by decide) ?_
          refine n_icmp_ge d_M_keeperOf_4 25 rfl (by omega) (by omega) (fun h => ?_) (fun h => absurd h (by omega))
          rw [show mkk V L f i = 4 from by unfold mkk; rw [if_pos h0, if_pos h1, if_pos h2, if_pos h3], show lgi 4 = -1 from rfl]
          refine j_iconst d_M_keeperOf_25 (v := -1) rfl ?_
          exact v_iret d_M_keeperOf_26 rfl (Nat.zero_le _) (Nat.zero_le _) rfl jA0_rfl
        · rw [show mkk V L f i = 3 from by unfold mkk; rw [if_pos h0, if_pos h1, if_pos h2, if_neg h3], show lgi 3 = nI 3 from rfl]
          refine j_iload_n d_M_keeperOf_17 rfl 0 rfl ?_
          exact v_iret d_M_keeperOf_18 rfl (Nat.zero_le _) (Nat.zero_le _) rfl jA0_rfl
      · rw [show mkk V L f i = 2 from by unfold mkk; rw [if_pos h0, if_pos h1, if_neg h2], show lgi 2 = nI 2 from rfl]
        refine j_iload_n d_M_keeperOf_17 rfl 0 rfl ?_
        exact v_iret d_M_keeperOf_18 rfl (Nat.zero_le _) (Nat.zero_le _) rfl jA0_rfl
    · rw [show mkk V L f i = 1 from by unfold mkk; rw [if_pos h0, if_neg h1], show lgi 1 = nI 1 from rfl]
      refine j_iload_n d_M_keeperOf_17 rfl 0 rfl ?_
      exact v_iret d_M_keeperOf_18 rfl (Nat.zero_le _) (Nat.zero_le _) rfl jA0_rfl
  · rw [show mkk V L f i = 0 from by unfold mkk; rw [if_neg h0], show lgi 0 = nI 0 from rfl]
    refine j_iload_n d_M_keeperOf_17 rfl 0 rfl ?_
    exact v_iret d_M_keeperOf_18 rfl (Nat.zero_le _) (Nat.zero_le _) rfl jA0_rfl
def mia (V : Nat → Nat → Nat) (r : Nat) : Nat → Nat
  | 0 => 0
  | n + 1 => if mia V r n = 0 then (if V 95 n = r then 1 else 0) else 1
theorem mia_le (V : Nat → Nat → Nat) (r : Nat) : ∀ n, mia V r n ≤ 1
  | 0 => by show 0 ≤ 1; omega
  | n + 1 => by
    unfold mia
    repeat' split
    all_goals omega
theorem c_M_isAsked (g : jG) (V : Nat → Nat → Nat) (L : Nat → Nat → Int64) (r n : Nat) (hr : r < 2 ^ 31) (hn : n ≤ 24) (h95 : ∀ i, i < n → V 95 i < 2147483647) : jK g Y_M_isAsked (0, 0) [.ref (jb g + 85), .int (nI r), .int (nI n)] V L (jA0 (some (.int (nI (mia V r n)))) V L) := by
  refine jK_entry (by decide +kernel) rfl (Nat.le_of_ble_eq_true rfl) ?_
  show jJ (g, Y_M_isAsked, (0, 0), 0, 0, jVQ g (jA0 (some (.int (nI (mia V r n)))) V L)) [(0, .ref (jb g + 85)), (1, .int (nI r)), (2, .int (nI n))] (jv (g, Y_M_isAsked, (0, 0), 0, 0, jVQ g (jA0 (some (.int (nI (mia V r n)))) V L)) V L 0 0) 0 []
  generalize hφ : jA0 (some (.int (nI (mia V r n)))) V L = φ
  have loop : ∀ (m i : Nat), i + m = n → jJ (g, Y_M_isAsked, (0, 0), 0, 0, jVQ g φ) [(0, .ref (jb g + 85)), (1, .int (nI r)), (2, .int (nI n)), (3, .int (nI (mia V r i))), (4, .int (nI i))] (jv (g, Y_M_isAsked, (0, 0), 0, 0, jVQ g φ) V L 0 0) 5 [] := by
    intro m
    induction m with
    | zero =>
      intro i hi
      obtain rfl : i = n := by omega
      have hl := mia_le V r i
      refine j_iload d_M_isAsked_5 4 rfl ?_
      refine j_iload_n d_M_isAsked_7 rfl 2 rfl ?_
      refine n_icmp_ge d_M_isAsked_8 38 rfl (by omega) (by omega) (fun h => ?_) (fun h => absurd h (by omega))
      subst hφ
      refine j_iload_n d_M_isAsked_38 rfl 3 rfl ?_
      exact v_zret d_M_isAsked_39 rfl (by omega) (Nat.zero_le _) (Nat.zero_le _) rfl jA0_rfl
    | succ m ih =>
      intro i hi
      have ih' := ih (i + 1) (by omega)
      have hl := mia_le V r i
      unfold mia at ih'
      have h5 := h95 i (by omega)
      refine j_iload d_M_isAsked_5 4 rfl ?_
      refine j_iload_n d_M_isAsked_7 rfl 2 rfl ?_
      refine n_icmp_ge d_M_isAsked_8 38 rfl (by omega) (by omega) (fun h => absurd h (by omega)) (fun h => ?_)
      refine j_iload_n d_M_isAsked_11 rfl 3 rfl ?_
      refine n_if_ne d_M_isAsked_12 26 rfl (by omega) (fun h1 => ?_) (fun h1 => ?_)
      · rw [if_neg h1] at ih'
        refine n_iconst d_M_isAsked_26 1 (by decide) ?_
        refine j_goto d_M_isAsked_27 31 rfl ?_
        refine j_istore_n d_M_isAsked_31 (i := 3) rfl (Nat.le_of_ble_eq_true rfl) (lv' := [_, _, _, _, _]) rfl ?_
        refine n_iinc d_M_isAsked_32 1 (by decide) 4 rfl (Nat.le_of_ble_eq_true rfl) (lv' := [_, _, _, _, _]) rfl ?_
        refine j_goto d_M_isAsked_35 5 rfl ?_
        refine j_lv [2, 3, 4, 1, 0] rfl ?_
        exact ih'
      · refine j_aload_n d_M_isAsked_15 rfl 0 rfl ?_
        refine v_getR d_M_isAsked_16 lf_M_38 rfl (Nat.le_of_ble_eq_true rfl) rfl ?_
        refine j_iload d_M_isAsked_19 4 rfl ?_
        refine v_ild d_M_isAsked_21 rfl rfl (Nat.le_of_ble_eq_true rfl) rfl (by omega) (by omega) ?_
        refine j_iload_n d_M_isAsked_22 rfl 1 rfl ?_
        refine n_icmp_ne d_M_isAsked_23 30 rfl (by omega) (by omega) (fun h2 => ?_) (fun h2 => ?_)
        · rw [if_pos h1, if_neg h2] at ih'
          refine n_iconst d_M_isAsked_30 0 (by decide) ?_
          refine j_istore_n d_M_isAsked_31 (i := 3) rfl (Nat.le_of_ble_eq_true rfl) (lv' := [_, _, _, _, _]) rfl ?_
          refine n_iinc d_M_isAsked_32 1 (by decide) 4 rfl (Nat.le_of_ble_eq_true rfl) (lv' := [_, _, _, _, _]) rfl ?_
          refine j_goto d_M_isAsked_35 5 rfl ?_
          refine j_lv [2, 3, 4, 1, 0] rfl ?_
          exact ih'
        · rw [if_pos h1, if_pos h2] at ih'
          refine n_iconst d_M_isAsked_26 1 (by decide) ?_
          refine j_goto d_M_isAsked_27 31 rfl ?_
          refine j_istore_n d_M_isAsked_31 (i := 3) rfl (Nat.le_of_ble_eq_true rfl) (lv' := [_, _, _, _, _]) rfl ?_
          refine n_iinc d_M_isAsked_32 1 (by decide) 4 rfl (Nat.le_of_ble_eq_true rfl) (lv' := [_, _, _, _, _]) rfl ?_
          refine j_goto d_M_isAsked_35 5 rfl ?_
          refine j_lv [2, 3, 4, 1, 0] rfl ?_
          exact ih'
  refine n_iconst d_M_isAsked_0 0 (by decide) ?_
  refine j_istore_n d_M_isAsked_1 (i := 3) rfl (Nat.le_of_ble_eq_true rfl) (lv' := [_, _, _, _]) rfl ?_
  refine n_iconst d_M_isAsked_2 0 (by decide) ?_
  refine j_istore d_M_isAsked_3 (i := 4) (Nat.le_of_ble_eq_true rfl) (lv' := [_, _, _, _, _]) rfl ?_
  refine j_lv [2, 3, 4, 1, 0] rfl ?_
  exact loop n 0 (by omega)
def mdo (V : Nat → Nat → Nat) (k f i p : Nat) : Nat → Nat
  | 0 => if V 89 (3 * k + f) = 0 then 1 else if V 91 (72 * k + 24 * f + i) = 0 then 0 else 1
  | j + 1 => if mdo V k f i p j = 0 then (if V 90 (360 * k + 5 * (24 * f + i) + j) = V 88 (p + j) then 0 else 1) else 1
theorem mdo_le (V : Nat → Nat → Nat) (k f i p : Nat) : ∀ n, mdo V k f i p n ≤ 1
  | 0 => by
    unfold mdo
    repeat' split
    all_goals omega
  | n + 1 => by
    unfold mdo
    repeat' split
    all_goals omega
theorem c_M_differs (g : jG) (V : Nat → Nat → Nat) (L : Nat → Nat → Int64) (hN : jN V) (k f i : Nat) (hk : k < 4) (hf0 : f < V 85 4) (hi : i < 24) (p : Nat) (hp : p + 5 ≤ 360) : jK g Y_M_differs (2, 43) [.ref (jb g + 85), .int (nI k), .int (nI f), .int (nI i), .int (nI p)] V L (jA0 (some (.int (nI (mdo V k f i p 5)))) V L) := by
  refine jK_entry (by decide +kernel) rfl (Nat.le_of_ble_eq_true rfl) ?_
  show jJ (g, Y_M_differs, (2, 43), 0, 0, jVQ g (jA0 (some (.int (nI (mdo V k f i p 5)))) V L)) [(0, .ref (jb g + 85)), (1, .int (nI k)), (2, .int (nI f)), (3, .int (nI i)), (4, .int (nI p))] (jv (g, Y_M_differs, (2, 43), 0, 0, jVQ g (jA0 (some (.int (nI (mdo V k f i p 5)))) V L)) V L 0 0) 0 []
  have h3 := hN.F
  have hd := hN.hs (3 * k + f) (by omega)
  have hl := hN.ls (72 * k + 24 * f + i) (by omega)
  generalize hφ : jA0 (some (.int (nI (mdo V k f i p 5)))) V L = φ
  have loop : ∀ (m j : Nat), j + m = 5 → jJ (g, Y_M_differs, (2, 43), 0, 0, jVQ g φ) [(0, .ref (jb g + 85)), (1, .int (nI k)), (2, .int (nI f)), (3, .int (nI i)), (4, .int (nI p)), (5, .int (nI (mdo V k f i p j))), (6, .int (nI j))] (jv (g, Y_M_differs, (2, 43), 0, 0, jVQ g φ) V L 0 0) 33 [] := by
    intro m
    induction m with
    | zero =>
      intro j hj
      obtain rfl : j = 5 := by omega
      have hl := mdo_le V k f i p 5
      refine j_iload d_M_differs_33 6 rfl ?_
      refine n_iconst d_M_differs_35 5 (by decide) ?_
      refine n_icmp_ge d_M_differs_36 84 rfl (by omega) (by omega) (fun h => ?_) (fun h => absurd h (by omega))
      subst hφ
      refine j_iload d_M_differs_84 5 rfl ?_
      exact v_zret d_M_differs_86 rfl (by omega) (Nat.zero_le _) (Nat.zero_le _) rfl jA0_rfl
    | succ m ih =>
      intro j hj
      have ih' := ih (j + 1) (by omega)
      have hl := mdo_le V k f i p j
      rw [mdo] at ih'
      have h5 := hN.kp (360 * k + 5 * (24 * f + i) + j) (by omega)
      have h6 := hN.md (p + j) (by omega)
      refine j_iload d_M_differs_33 6 rfl ?_
      refine n_iconst d_M_differs_35 5 (by decide) ?_
      refine n_icmp_ge d_M_differs_36 84 rfl (by omega) (by omega) (fun h => absurd h (by omega)) (fun h => ?_)
      refine j_iload d_M_differs_39 5 rfl ?_
      refine n_if_ne d_M_differs_41 71 rfl (by omega) (fun h1 => ?_) (fun h1 => ?_)
      · rw [if_neg h1] at ih'
        refine n_iconst d_M_differs_71 1 (by decide) ?_
        refine j_goto d_M_differs_72 76 rfl ?_
        refine j_istore d_M_differs_76 (i := 5) (Nat.le_of_ble_eq_true rfl) (lv' := [_, _, _, _, _, _, _]) rfl ?_
        refine n_iinc d_M_differs_78 1 (by decide) 6 rfl (Nat.le_of_ble_eq_true rfl) (lv' := [_, _, _, _, _, _, _]) rfl ?_
        refine j_goto d_M_differs_81 33 rfl ?_
        refine j_lv [2, 3, 4, 5, 6, 1, 0] rfl ?_
        exact ih'
      · refine j_aload_n d_M_differs_44 rfl 0 rfl ?_
        refine v_getR d_M_differs_45 lf_M_23 rfl (Nat.le_of_ble_eq_true rfl) rfl ?_
        refine j_iload_n d_M_differs_48 rfl 1 rfl ?_
        refine j_iload_n d_M_differs_49 rfl 2 rfl ?_
        refine j_iload_n d_M_differs_50 rfl 3 rfl ?_
        refine v_callS d_M_differs_51 mt_M_spot ln_M_125 sm_M_spot ⟨Nat.le_of_ble_eq_true rfl, Nat.le_of_ble_eq_true rfl⟩ (Nat.le_of_ble_eq_true rfl) rfl (Nat.zero_le _) (Nat.zero_le _) (c_M_spot g V L k f i) rfl ?_
        rintro _ _ _ ⟨rfl, rfl, rfl⟩
        refine j_iload d_M_differs_54 6 rfl ?_
        refine n_add d_M_differs_56 ?_
        refine v_ild d_M_differs_57 rfl rfl (Nat.le_of_ble_eq_true rfl) rfl (by omega) (by omega) ?_
        refine j_aload_n d_M_differs_58 rfl 0 rfl ?_
        refine v_getR d_M_differs_59 lf_M_16 rfl (Nat.le_of_ble_eq_true rfl) rfl ?_
        refine j_iload d_M_differs_62 4 rfl ?_
        refine j_iload d_M_differs_64 6 rfl ?_
        refine n_add d_M_differs_66 ?_
        refine v_ild d_M_differs_67 rfl rfl (Nat.le_of_ble_eq_true rfl) rfl (by omega) (by omega) ?_
        refine n_icmp_eq d_M_differs_68 75 rfl (by omega) (by omega) (fun h2 => ?_) (fun h2 => ?_)
        · rw [if_pos h1, if_pos h2] at ih'
          refine n_iconst d_M_differs_75 0 (by decide) ?_
          refine j_istore d_M_differs_76 (i := 5) (Nat.le_of_ble_eq_true rfl) (lv' := [_, _, _, _, _, _, _]) rfl ?_
          refine n_iinc d_M_differs_78 1 (by decide) 6 rfl (Nat.le_of_ble_eq_true rfl) (lv' := [_, _, _, _, _, _, _]) rfl ?_
          refine j_goto d_M_differs_81 33 rfl ?_
          refine j_lv [2, 3, 4, 5, 6, 1, 0] rfl ?_
          exact ih'
        · rw [if_pos h1, if_neg h2] at ih'
          refine n_iconst d_M_differs_71 1 (by decide) ?_
          refine j_goto d_M_differs_72 76 rfl ?_
          refine j_istore d_M_differs_76 (i := 5) (Nat.le_of_ble_eq_true rfl) (lv' := [_, _, _, _, _, _, _]) rfl ?_
          refine n_iinc d_M_differs_78 1 (by decide) 6 rfl (Nat.le_of_ble_eq_true rfl) (lv' := [_, _, _, _, _, _, _]) rfl ?_
          refine j_goto d_M_differs_81 33 rfl ?_
          refine j_lv [2, 3, 4, 5, 6, 1, 0] rfl ?_
          exact ih'
  have go := loop 5 0 (by omega)
  rw [mdo] at go
  refine j_aload_n d_M_differs_0 rfl 0 rfl ?_
  refine j_iload_n d_M_differs_1 rfl 1 rfl ?_
  refine j_iload_n d_M_differs_2 rfl 2 rfl ?_
  refine v_callV d_M_differs_3 mt_M_holds ln_M_132 im_M_holds se_M_holds rfl (Nat.le_of_ble_eq_true rfl) rfl rfl ⟨Nat.le_of_ble_eq_true rfl, Nat.le_of_ble_eq_true rfl⟩ (Nat.le_of_ble_eq_true rfl) rfl (Nat.zero_le _) (Nat.zero_le _) (c_M_holds g V L hN (nI k) (nI f)) rfl ?_
  rintro _ _ _ ⟨rfl, rfl, rfl⟩
  rw [mhl_nI h3 hk hf0]
  refine n_if_eq d_M_differs_6 23 rfl (by omega) (fun h1 => ?_) (fun h1 => ?_)
  · rw [if_pos h1] at go
    refine n_iconst d_M_differs_23 1 (by decide) ?_
    refine j_goto d_M_differs_24 28 rfl ?_
    refine j_istore d_M_differs_28 (i := 5) (Nat.le_of_ble_eq_true rfl) (lv' := [_, _, _, _, _, _]) rfl ?_
    refine n_iconst d_M_differs_30 0 (by decide) ?_
    refine j_istore d_M_differs_31 (i := 6) (Nat.le_of_ble_eq_true rfl) (lv' := [_, _, _, _, _, _, _]) rfl ?_
    refine j_lv [2, 3, 4, 5, 6, 1, 0] rfl ?_
    exact go
  · refine j_aload_n d_M_differs_9 rfl 0 rfl ?_
    refine v_getR d_M_differs_10 lf_M_26 rfl (Nat.le_of_ble_eq_true rfl) rfl ?_
    refine j_iload_n d_M_differs_13 rfl 1 rfl ?_
    refine j_iload_n d_M_differs_14 rfl 2 rfl ?_
    refine j_iload_n d_M_differs_15 rfl 3 rfl ?_
    refine v_callS d_M_differs_16 mt_M_mark ln_M_129 sm_M_mark ⟨Nat.le_of_ble_eq_true rfl, Nat.le_of_ble_eq_true rfl⟩ (Nat.le_of_ble_eq_true rfl) rfl (Nat.zero_le _) (Nat.zero_le _) (c_M_mark g V L k f i) rfl ?_
    rintro _ _ _ ⟨rfl, rfl, rfl⟩
    refine v_zld d_M_differs_19 rfl rfl (Nat.le_of_ble_eq_true rfl) rfl (by omega) (by omega) ?_
    refine n_if_eq d_M_differs_20 27 rfl (by omega) (fun h2 => ?_) (fun h2 => ?_)
    · rw [if_neg h1, if_pos h2] at go
      refine n_iconst d_M_differs_27 0 (by decide) ?_
      refine j_istore d_M_differs_28 (i := 5) (Nat.le_of_ble_eq_true rfl) (lv' := [_, _, _, _, _, _]) rfl ?_
      refine n_iconst d_M_differs_30 0 (by decide) ?_
      refine j_istore d_M_differs_31 (i := 6) (Nat.le_of_ble_eq_true rfl) (lv' := [_, _, _, _, _, _, _]) rfl ?_
      refine j_lv [2, 3, 4, 5, 6, 1, 0] rfl ?_
      exact go
    · rw [if_neg h1, if_neg h2] at go
      refine n_iconst d_M_differs_23 1 (by decide) ?_
      refine j_goto d_M_differs_24 28 rfl ?_
      refine j_istore d_M_differs_28 (i := 5) (Nat.le_of_ble_eq_true rfl) (lv' := [_, _, _, _, _, _]) rfl ?_
      refine n_iconst d_M_differs_30 0 (by decide) ?_
      refine j_istore d_M_differs_31 (i := 6) (Nat.le_of_ble_eq_true rfl) (lv' := [_, _, _, _, _, _, _]) rfl ?_
      refine j_lv [2, 3, 4, 5, 6, 1, 0] rfl ?_
      exact go
/-- row i of file f laid at keeper k as it is made -/
def mpt (V : Nat → Nat → Nat) (k f i : Nat) : Nat → Nat → Nat := fun a x => if a = 90 ∧ 360 * k + 5 * (24 * f + i) ≤ x ∧ x < 360 * k + 5 * (24 * f + i) + 5 then V 88 (x - 360 * k) else if a = 91 ∧ x = 72 * k + 24 * f + i then 0 else V a x
def mp5 (V : Nat → Nat → Nat) (k f i : Nat) : Nat → Nat → Nat → Nat
  | 0 => V
  | j + 1 => vu (mp5 V k f i j) 90 (360 * k + 5 * (24 * f + i) + j) (mp5 V k f i j 88 (5 * (24 * f + i) + j))
theorem mp5_eq (V : Nat → Nat → Nat) (k f i : Nat) : ∀ j, mp5 V k f i j = fun a x => if a = 90 ∧ 360 * k + 5 * (24 * f + i) ≤ x ∧ x < 360 * k + 5 * (24 * f + i) + j then V 88 (x - 360 * k) else V a x
  | 0 => by
    funext a x
    rw [if_neg (by omega)]
    rfl
  | j + 1 => by
    unfold mp5
    rw [mp5_eq V k f i j]
    funext a x
    unfold vu
    by_cases h : a = 90 ∧ x = 360 * k + 5 * (24 * f + i) + j
    · rw [if_pos h, if_pos (by omega)]
      show (if _ then _ else _) = _
      rw [if_neg (by omega), h.2]
      congr 1
      omega
    · rw [if_neg h]
      show (if _ then _ else _) = _
      by_cases h2 : a = 90 ∧ 360 * k + 5 * (24 * f + i) ≤ x ∧ x < 360 * k + 5 * (24 * f + i) + j
      · rw [if_pos h2, if_pos (by omega)]
      · rw [if_neg h2, if_neg (by omega)]
theorem mpt_eq (V : Nat → Nat → Nat) (k f i : Nat) : vu (mp5 V k f i 5) 91 (72 * k + 24 * f + i) 0 = mpt V k f i := by
  rw [mp5_eq]
  funext a x
  unfold vu mpt
  by_cases h : a = 91 ∧ x = 72 * k + 24 * f + i
  · rw [if_pos h, if_neg (by omega), if_pos h]
  · rw [if_neg h, if_neg h]
theorem c_M_put (g : jG) (V : Nat → Nat → Nat) (L : Nat → Nat → Int64) (k f i : Nat) (hk : k < 4) (hf : f < 3) (hi : i < 24) : jK g Y_M_put (1, 22) [.ref (jb g + 85), .int (nI k), .int (nI f), .int (nI i)] V L (jA0 none (mpt V k f i) L) := by
  refine jK_entry (by decide +kernel) rfl (Nat.le_of_ble_eq_true rfl) ?_
  show jJ (g, Y_M_put, (1, 22), 0, 0, jVQ g (jA0 none (mpt V k f i) L)) [(0, .ref (jb g + 85)), (1, .int (nI k)), (2, .int (nI f)), (3, .int (nI i))] (jv (g, Y_M_put, (1, 22), 0, 0, jVQ g (jA0 none (mpt V k f i) L)) V L 0 0) 0 []
  rw [← mpt_eq]
  show jJ _ _ (jv _ (mp5 V k f i 0) L 0 0) _ _
  refine n_iconst d_M_put_0 0 (by decide) ?_
  refine j_istore d_M_put_1 (i := 4) (Nat.le_of_ble_eq_true rfl) (lv' := [_, _, _, _, _]) rfl ?_
  refine j_iload d_M_put_3 0 rfl ?_
  refine n_iconst d_M_put_5 5 (by decide) ?_
  refine n_icmp_ge d_M_put_6 45 rfl (by omega) (by omega) (fun h => absurd h (by omega)) (fun h => ?_)
  refine j_aload_n d_M_put_9 rfl 1 rfl ?_
  refine v_getR d_M_put_10 lf_M_23 rfl (Nat.le_of_ble_eq_true rfl) rfl ?_
  refine j_iload_n d_M_put_13 rfl 2 rfl ?_
  refine j_iload_n d_M_put_14 rfl 3 rfl ?_
  refine j_iload_n d_M_put_15 rfl 4 rfl ?_
  refine v_callS d_M_put_16 mt_M_spot ln_M_125 sm_M_spot ⟨Nat.le_of_ble_eq_true rfl, Nat.le_of_ble_eq_true rfl⟩ (Nat.le_of_ble_eq_true rfl) rfl (Nat.zero_le _) (Nat.zero_le _) (c_M_spot g (mp5 V k f i 0) L k f i) rfl ?_
  rintro _ _ _ ⟨rfl, rfl, rfl⟩
  refine j_iload d_M_put_19 0 rfl ?_
  refine n_add d_M_put_21 ?_
  refine j_aload_n d_M_put_22 rfl 1 rfl ?_
  refine v_getR d_M_put_23 lf_M_16 rfl (Nat.le_of_ble_eq_true rfl) rfl ?_
  refine n_iconst d_M_put_26 5 (by decide) ?_
  refine n_bipush d_M_put_27 24 (by decide) ?_
  refine j_iload_n d_M_put_29 rfl 3 rfl ?_
  refine n_mul d_M_put_30 ?_
  refine j_iload_n d_M_put_31 rfl 4 rfl ?_
  refine n_add d_M_put_32 ?_
  refine n_mul d_M_put_33 ?_
  refine j_iload d_M_put_34 0 rfl ?_
  refine n_add d_M_put_36 ?_
  refine v_ild d_M_put_37 rfl rfl (Nat.le_of_ble_eq_true rfl) rfl (by omega) (by omega) ?_
  refine v_ist d_M_put_38 rfl rfl (Nat.le_of_ble_eq_true rfl) rfl (by omega) (by omega) ?_
  show jJ _ _ (jv _ (mp5 V k f i 1) L 0 0) _ _
  refine n_iinc d_M_put_39 1 (by decide) 0 rfl (Nat.le_of_ble_eq_true rfl) (lv' := [(4, .int (nI 1)), _, _, _, _]) rfl ?_
  refine j_goto d_M_put_42 3 rfl ?_
  refine j_iload d_M_put_3 0 rfl ?_
  refine n_iconst d_M_put_5 5 (by decide) ?_
  refine n_icmp_ge d_M_put_6 45 rfl (by omega) (by omega) (fun h => absurd h (by omega)) (fun h => ?_)
  refine j_aload_n d_M_put_9 rfl 1 rfl ?_
  refine v_getR d_M_put_10 lf_M_23 rfl (Nat.le_of_ble_eq_true rfl) rfl ?_
  refine j_iload_n d_M_put_13 rfl 2 rfl ?_
  refine j_iload_n d_M_put_14 rfl 3 rfl ?_
  refine j_iload_n d_M_put_15 rfl 4 rfl ?_
  refine v_callS d_M_put_16 mt_M_spot ln_M_125 sm_M_spot ⟨Nat.le_of_ble_eq_true rfl, Nat.le_of_ble_eq_true rfl⟩ (Nat.le_of_ble_eq_true rfl) rfl (Nat.zero_le _) (Nat.zero_le _) (c_M_spot g (mp5 V k f i 1) L k f i) rfl ?_
  rintro _ _ _ ⟨rfl, rfl, rfl⟩
  refine j_iload d_M_put_19 0 rfl ?_
  refine n_add d_M_put_21 ?_
  refine j_aload_n d_M_put_22 rfl 1 rfl ?_
  refine v_getR d_M_put_23 lf_M_16 rfl (Nat.le_of_ble_eq_true rfl) rfl ?_
  refine n_iconst d_M_put_26 5 (by decide) ?_
  refine n_bipush d_M_put_27 24 (by decide) ?_
  refine j_iload_n d_M_put_29 rfl 3 rfl ?_
  refine n_mul d_M_put_30 ?_
  refine j_iload_n d_M_put_31 rfl 4 rfl ?_
  refine n_add d_M_put_32 ?_
  refine n_mul d_M_put_33 ?_
  refine j_iload d_M_put_34 0 rfl ?_
  refine n_add d_M_put_36 ?_
  refine v_ild d_M_put_37 rfl rfl (Nat.le_of_ble_eq_true rfl) rfl (by omega) (by omega) ?_
  refine v_ist d_M_put_38 rfl rfl (Nat.le_of_ble_eq_true rfl) rfl (by omega) (by omega) ?_
  show jJ _ _ (jv _ (mp5 V k f i 2) L 0 0) _ _
  refine n_iinc d_M_put_39 1 (by decide) 0 rfl (Nat.le_of_ble_eq_true rfl) (lv' := [(4, .int (nI 2)), _, _, _, _]) rfl ?_
  refine j_goto d_M_put_42 3 rfl ?_
  refine j_iload d_M_put_3 0 rfl ?_
  refine n_iconst d_M_put_5 5 (by decide) ?_
  refine n_icmp_ge d_M_put_6 45 rfl (by omega) (by omega) (fun h => absurd h (by omega)) (fun h => ?_)
  refine j_aload_n d_M_put_9 rfl 1 rfl ?_
  refine v_getR d_M_put_10 lf_M_23 rfl (Nat.le_of_ble_eq_true rfl) rfl ?_
  refine j_iload_n d_M_put_13 rfl 2 rfl ?_
  refine j_iload_n d_M_put_14 rfl 3 rfl ?_
  refine j_iload_n d_M_put_15 rfl 4 rfl ?_
  refine v_callS d_M_put_16 mt_M_spot ln_M_125 sm_M_spot ⟨Nat.le_of_ble_eq_true rfl, Nat.le_of_ble_eq_true rfl⟩ (Nat.le_of_ble_eq_true rfl) rfl (Nat.zero_le _) (Nat.zero_le _) (c_M_spot g (mp5 V k f i 2) L k f i) rfl ?_
  rintro _ _ _ ⟨rfl, rfl, rfl⟩
  refine j_iload d_M_put_19 0 rfl ?_
  refine n_add d_M_put_21 ?_
  refine j_aload_n d_M_put_22 rfl 1 rfl ?_
  refine v_getR d_M_put_23 lf_M_16 rfl (Nat.le_of_ble_eq_true rfl) rfl ?_
  refine n_iconst d_M_put_26 5 (by decide) ?_
  refine n_bipush d_M_put_27 24 (by decide) ?_
  refine j_iload_n d_M_put_29 rfl 3 rfl ?_
  refine n_mul d_M_put_30 ?_
  refine j_iload_n d_M_put_31 rfl 4 rfl ?_
  refine n_add d_M_put_32 ?_
  refine n_mul d_M_put_33 ?_
  refine j_iload d_M_put_34 0 rfl ?_
  refine n_add d_M_put_36 ?_
  refine v_ild d_M_put_37 rfl rfl (Nat.le_of_ble_eq_true rfl) rfl (by omega) (by omega) ?_
  refine v_ist d_M_put_38 rfl rfl (Nat.le_of_ble_eq_true rfl) rfl (by omega) (by omega) ?_
  show jJ _ _ (jv _ (mp5 V k f i 3) L 0 0) _ _
  refine n_iinc d_M_put_39 1 (by decide) 0 rfl (Nat.le_of_ble_eq_true rfl) (lv' := [(4, .int (nI 3)), _, _, _, _]) rfl ?_
  refine j_goto d_M_put_42 3 rfl ?_
  refine j_iload d_M_put_3 0 rfl ?_
  refine n_iconst d_M_put_5 5 (by decide) ?_
  refine n_icmp_ge d_M_put_6 45 rfl (by omega) (by omega) (fun h => absurd h (by omega)) (fun h => ?_)
  refine j_aload_n d_M_put_9 rfl 1 rfl ?_
  refine v_getR d_M_put_10 lf_M_23 rfl (Nat.le_of_ble_eq_true rfl) rfl ?_
  refine j_iload_n d_M_put_13 rfl 2 rfl ?_
  refine j_iload_n d_M_put_14 rfl 3 rfl ?_
  refine j_iload_n d_M_put_15 rfl 4 rfl ?_
  refine v_callS d_M_put_16 mt_M_spot ln_M_125 sm_M_spot ⟨Nat.le_of_ble_eq_true rfl, Nat.le_of_ble_eq_true rfl⟩ (Nat.le_of_ble_eq_true rfl) rfl (Nat.zero_le _) (Nat.zero_le _) (c_M_spot g (mp5 V k f i 3) L k f i) rfl ?_
  rintro _ _ _ ⟨rfl, rfl, rfl⟩
  refine j_iload d_M_put_19 0 rfl ?_
  refine n_add d_M_put_21 ?_
  refine j_aload_n d_M_put_22 rfl 1 rfl ?_
  refine v_getR d_M_put_23 lf_M_16 rfl (Nat.le_of_ble_eq_true rfl) rfl ?_
  refine n_iconst d_M_put_26 5 (by decide) ?_
  refine n_bipush d_M_put_27 24 (by decide) ?_
  refine j_iload_n d_M_put_29 rfl 3 rfl ?_
  refine n_mul d_M_put_30 ?_
  refine j_iload_n d_M_put_31 rfl 4 rfl ?_
  refine n_add d_M_put_32 ?_
  refine n_mul d_M_put_33 ?_
  refine j_iload d_M_put_34 0 rfl ?_
  refine n_add d_M_put_36 ?_
  refine v_ild d_M_put_37 rfl rfl (Nat.le_of_ble_eq_true rfl) rfl (by omega) (by omega) ?_
  refine v_ist d_M_put_38 rfl rfl (Nat.le_of_ble_eq_true rfl) rfl (by omega) (by omega) ?_
  show jJ _ _ (jv _ (mp5 V k f i 4) L 0 0) _ _
  refine n_iinc d_M_put_39 1 (by decide) 0 rfl (Nat.le_of_ble_eq_true rfl) (lv' := [(4, .int (nI 4)), _, _, _, _]) rfl ?_
  refine j_goto d_M_put_42 3 rfl ?_
  refine j_iload d_M_put_3 0 rfl ?_
  refine n_iconst d_M_put_5 5 (by decide) ?_
  refine n_icmp_ge d_M_put_6 45 rfl (by omega) (by omega) (fun h => absurd h (by omega)) (fun h => ?_)
  refine j_aload_n d_M_put_9 rfl 1 rfl ?_
  refine v_getR d_M_put_10 lf_M_23 rfl (Nat.le_of_ble_eq_true rfl) rfl ?_
  refine j_iload_n d_M_put_13 rfl 2 rfl ?_
  refine j_iload_n d_M_put_14 rfl 3 rfl ?_
  refine j_iload_n d_M_put_15 rfl 4 rfl ?_
  refine v_callS d_M_put_16 mt_M_spot ln_M_125 sm_M_spot ⟨Nat.le_of_ble_eq_true rfl, Nat.le_of_ble_eq_true rfl⟩ (Nat.le_of_ble_eq_true rfl) rfl (Nat.zero_le _) (Nat.zero_le _) (c_M_spot g (mp5 V k f i 4) L k f i) rfl ?_
  rintro _ _ _ ⟨rfl, rfl, rfl⟩
  refine j_iload d_M_put_19 0 rfl ?_
  refine n_add d_M_put_21 ?_
  refine j_aload_n d_M_put_22 rfl 1 rfl ?_
  refine v_getR d_M_put_23 lf_M_16 rfl (Nat.le_of_ble_eq_true rfl) rfl ?_
  refine n_iconst d_M_put_26 5 (by decide) ?_
  refine n_bipush d_M_put_27 24 (by decide) ?_
  refine j_iload_n d_M_put_29 rfl 3 rfl ?_
  refine n_mul d_M_put_30 ?_
  refine j_iload_n d_M_put_31 rfl 4 rfl ?_
  refine n_add d_M_put_32 ?_
  refine n_mul d_M_put_33 ?_
  refine j_iload d_M_put_34 0 rfl ?_
  refine n_add d_M_put_36 ?_
  refine v_ild d_M_put_37 rfl rfl (Nat.le_of_ble_eq_true rfl) rfl (by omega) (by omega) ?_
  refine v_ist d_M_put_38 rfl rfl (Nat.le_of_ble_eq_true rfl) rfl (by omega) (by omega) ?_
  show jJ _ _ (jv _ (mp5 V k f i 5) L 0 0) _ _
  refine n_iinc d_M_put_39 1 (by decide) 0 rfl (Nat.le_of_ble_eq_true rfl) (lv' := [(4, .int (nI 5)), _, _, _, _]) rfl ?_
  refine j_goto d_M_put_42 3 rfl ?_
  refine j_iload d_M_put_3 0 rfl ?_
  refine n_iconst d_M_put_5 5 (by decide) ?_
  refine n_icmp_ge d_M_put_6 45 rfl (by omega) (by omega) (fun h => ?_) (fun h => absurd h (by omega))
  refine j_aload_n d_M_put_45 rfl 1 rfl ?_
  refine v_getR d_M_put_46 lf_M_26 rfl (Nat.le_of_ble_eq_true rfl) rfl ?_
  refine j_iload_n d_M_put_49 rfl 2 rfl ?_
  refine j_iload_n d_M_put_50 rfl 3 rfl ?_
  refine j_iload_n d_M_put_51 rfl 4 rfl ?_
  refine v_callS d_M_put_52 mt_M_mark ln_M_129 sm_M_mark ⟨Nat.le_of_ble_eq_true rfl, Nat.le_of_ble_eq_true rfl⟩ (Nat.le_of_ble_eq_true rfl) rfl (Nat.zero_le _) (Nat.zero_le _) (c_M_mark g (mp5 V k f i 5) L k f i) rfl ?_
  rintro _ _ _ ⟨rfl, rfl, rfl⟩
  refine n_iconst d_M_put_55 0 (by decide) ?_
  refine v_zst d_M_put_56 rfl rfl (Nat.le_of_ble_eq_true rfl) rfl (by omega) (by omega) (by omega) ?_
  exact v_vret d_M_put_57 rfl (Nat.zero_le _) (Nat.zero_le _) rfl jA0_rfl
