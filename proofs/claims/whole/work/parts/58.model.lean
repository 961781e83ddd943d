/-! AuditDeskModel: judge, challenge -/
def mjs (V : Nat → Nat → Nat) (L : Nat → Nat → Int64) : Nat → Nat
  | 0 => 0
  | i + 1 => fpl (mjs V L i) (fti (V 96 i) (sN (L 85 1) (L 85 2) (64 * V 85 14 + 8 + V 95 i)))
theorem mjs_lt (V : Nat → Nat → Nat) (L : Nat → Nat → Int64) : ∀ i, mjs V L i < 2147483647
  | 0 => by show 0 < _; omega
  | i + 1 => fpl_lt _ _
def mjh (V : Nat → Nat → Nat) (L : Nat → Nat → Int64) : Nat := if tgd (mjs V L (V 85 13)) (fun j => sN (L 85 1) (L 85 2) (64 * V 85 14 + j)) (V 97) = V 97 4 then 1 else 0
theorem mjh_le (V : Nat → Nat → Nat) (L : Nat → Nat → Int64) : mjh V L ≤ 1 := by
  unfold mjh
  split <;> omega
def mjd (V : Nat → Nat → Nat) (L : Nat → Nat → Int64) : Nat → Nat → Nat := vu (vu (vu V 85 0 0) 92 (V 85 15) (V 92 (V 85 15) + mjh V L)) 93 (V 85 15) (V 93 (V 85 15) + (1 - mjh V L))
theorem c_M_judge (g : jG) (V : Nat → Nat → Nat) (L : Nat → Nat → Int64) (hN : jN V) (hp : ¬ V 85 13 = 0) : jK g Y_M_judge (1, 24) [.ref (jb g + 85)] V L (jA0 (some (.int (nI (mjh V L)))) (mjd V L) L) := by
  refine jK_entry (by decide +kernel) rfl (Nat.le_of_ble_eq_true rfl) ?_
  show jJ (g, Y_M_judge, (1, 24), 0, 0, jVQ g (jA0 (some (.int (nI (mjh V L)))) (mjd V L) L)) [(0, .ref (jb g + 85))] (jv (g, Y_M_judge, (1, 24), 0, 0, jVQ g (jA0 (some (.int (nI (mjh V L)))) (mjd V L) L)) V L 0 0) 0 []
  have h13 := hN.ak
  have h14 := hN.af
  have h15 := hN.aq
  generalize hφ : jA0 (some (.int (nI (mjh V L)))) (mjd V L) L = φ
  have fin :  jJ (g, Y_M_judge, (1, 24), 0, 0, jVQ g φ) [(0, .ref (jb g + 85)), (1, .long (lN (tgd (mjs V L (V 85 13)) (fun j => sN (L 85 1) (L 85 2) (64 * V 85 14 + j)) (V 97))))] (jv (g, Y_M_judge, (1, 24), 0, 0, jVQ g φ) (vu V 85 0 0) L 0 0) 120 [] := by
    have a4 := hN.an 4 (by omega)
    refine j_lload_n d_M_judge_120 rfl 1 rfl ?_
    refine j_aload_n d_M_judge_121 rfl 0 rfl ?_
    refine v_getR d_M_judge_122 lf_M_44 rfl (Nat.le_of_ble_eq_true rfl) rfl ?_
    refine n_iconst d_M_judge_125 4 (by decide) ?_
    refine v_ild d_M_judge_126 rfl rfl (Nat.le_of_ble_eq_true rfl) rfl (by omega) (by omega) ?_
    rw [show vu V 85 0 0 97 4 = V 97 4 from rfl]
    refine n_i2l d_M_judge_127 (by omega) ?_
    refine j_lcmp d_M_judge_128 ?_
    refine n_lc_ne d_M_judge_129 136 rfl (Nat.lt_of_lt_of_le (tgd_lt _ _ _) (by decide)) (by omega) (fun h1 => ?_) (fun h1 => ?_)
    · have hj : mjh V L = 0 := if_neg h1
      unfold mjd at hφ
      rw [hj] at hφ
      refine n_iconst d_M_judge_136 0 (by decide) ?_
      refine j_istore_n d_M_judge_137 (i := 3) rfl (Nat.le_of_ble_eq_true rfl) (lv' := [_, _, _]) rfl ?_
      refine j_aload_n d_M_judge_138 rfl 1 rfl ?_
      refine v_getR d_M_judge_139 lf_M_29 rfl (Nat.le_of_ble_eq_true rfl) rfl ?_
      refine j_aload_n d_M_judge_142 rfl 1 rfl ?_
      refine v_getI d_M_judge_143 lf_M_146 rfl (Nat.le_of_ble_eq_true rfl) rfl ?_
      rw [show vu V 85 0 0 85 15 = V 85 15 from rfl]
      refine j_dup2 d_M_judge_146 rfl rfl ?_
      refine v_ild d_M_judge_147 rfl rfl (Nat.le_of_ble_eq_true rfl) rfl (by omega) (by omega) ?_
      rw [show vu V 85 0 0 92 (V 85 15) = V 92 (V 85 15) from rfl]
      refine j_iload_n d_M_judge_148 rfl 0 rfl ?_
      refine n_if_eq d_M_judge_149 156 rfl (by omega) (fun h => ?_) (fun h => absurd h (by omega))
      refine n_iconst d_M_judge_156 0 (by decide) ?_
      refine n_add d_M_judge_157 ?_
      refine v_ist d_M_judge_158 rfl rfl (Nat.le_of_ble_eq_true rfl) rfl (by omega) (by omega) ?_
      refine j_aload_n d_M_judge_159 rfl 1 rfl ?_
      refine v_getR d_M_judge_160 lf_M_32 rfl (Nat.le_of_ble_eq_true rfl) rfl ?_
      refine j_aload_n d_M_judge_163 rfl 1 rfl ?_
      refine v_getI d_M_judge_164 lf_M_146 rfl (Nat.le_of_ble_eq_true rfl) rfl ?_
      rw [show vu (vu V 85 0 0) 92 (V 85 15) (V 92 (V 85 15) + 0) 85 15 = V 85 15 from rfl]
      refine j_dup2 d_M_judge_167 rfl rfl ?_
      refine v_ild d_M_judge_168 rfl rfl (Nat.le_of_ble_eq_true rfl) rfl (by omega) (by omega) ?_
      rw [show vu (vu V 85 0 0) 92 (V 85 15) (V 92 (V 85 15) + 0) 93 (V 85 15) = V 93 (V 85 15) from rfl]
      refine j_iload_n d_M_judge_169 rfl 0 rfl ?_
      refine n_if_eq d_M_judge_170 177 rfl (by omega) (fun h => ?_) (fun h => absurd h (by omega))
      refine n_iconst d_M_judge_177 1 (by decide) ?_
      refine n_add d_M_judge_178 ?_
      refine v_ist d_M_judge_179 rfl rfl (Nat.le_of_ble_eq_true rfl) rfl (by omega) (by omega) ?_
      refine j_iload_n d_M_judge_180 rfl 0 rfl ?_
      subst hφ
      exact v_zret d_M_judge_181 rfl (by omega) (Nat.zero_le _) (Nat.zero_le _) rfl jA0_rfl
    · have hj : mjh V L = 1 := if_pos h1
      unfold mjd at hφ
      rw [hj] at hφ
      refine n_iconst d_M_judge_132 1 (by decide) ?_
      refine j_goto d_M_judge_133 137 rfl ?_
      refine j_istore_n d_M_judge_137 (i := 3) rfl (Nat.le_of_ble_eq_true rfl) (lv' := [_, _, _]) rfl ?_
      refine j_aload_n d_M_judge_138 rfl 1 rfl ?_
      refine v_getR d_M_judge_139 lf_M_29 rfl (Nat.le_of_ble_eq_true rfl) rfl ?_
      refine j_aload_n d_M_judge_142 rfl 1 rfl ?_
      refine v_getI d_M_judge_143 lf_M_146 rfl (Nat.le_of_ble_eq_true rfl) rfl ?_
      rw [show vu V 85 0 0 85 15 = V 85 15 from rfl]
      refine j_dup2 d_M_judge_146 rfl rfl ?_
      refine v_ild d_M_judge_147 rfl rfl (Nat.le_of_ble_eq_true rfl) rfl (by omega) (by omega) ?_
      rw [show vu V 85 0 0 92 (V 85 15) = V 92 (V 85 15) from rfl]
      refine j_iload_n d_M_judge_148 rfl 0 rfl ?_
      refine n_if_eq d_M_judge_149 156 rfl (by omega) (fun h => absurd h (by omega)) (fun h => ?_)
      refine n_iconst d_M_judge_152 1 (by decide) ?_
      refine j_goto d_M_judge_153 157 rfl ?_
      refine n_add d_M_judge_157 ?_
      refine v_ist d_M_judge_158 rfl rfl (Nat.le_of_ble_eq_true rfl) rfl (by omega) (by omega) ?_
      refine j_aload_n d_M_judge_159 rfl 1 rfl ?_
      refine v_getR d_M_judge_160 lf_M_32 rfl (Nat.le_of_ble_eq_true rfl) rfl ?_
      refine j_aload_n d_M_judge_163 rfl 1 rfl ?_
      refine v_getI d_M_judge_164 lf_M_146 rfl (Nat.le_of_ble_eq_true rfl) rfl ?_
      rw [show vu (vu V 85 0 0) 92 (V 85 15) (V 92 (V 85 15) + 1) 85 15 = V 85 15 from rfl]
      refine j_dup2 d_M_judge_167 rfl rfl ?_
      refine v_ild d_M_judge_168 rfl rfl (Nat.le_of_ble_eq_true rfl) rfl (by omega) (by omega) ?_
      rw [show vu (vu V 85 0 0) 92 (V 85 15) (V 92 (V 85 15) + 1) 93 (V 85 15) = V 93 (V 85 15) from rfl]
      refine j_iload_n d_M_judge_169 rfl 0 rfl ?_
      refine n_if_eq d_M_judge_170 177 rfl (by omega) (fun h => absurd h (by omega)) (fun h => ?_)
      refine n_iconst d_M_judge_173 0 (by decide) ?_
      refine j_goto d_M_judge_174 178 rfl ?_
      refine n_add d_M_judge_178 ?_
      refine v_ist d_M_judge_179 rfl rfl (Nat.le_of_ble_eq_true rfl) rfl (by omega) (by omega) ?_
      refine j_iload_n d_M_judge_180 rfl 0 rfl ?_
      subst hφ
      exact v_zret d_M_judge_181 rfl (by omega) (Nat.zero_le _) (Nat.zero_le _) rfl jA0_rfl
  have loop : ∀ (m i : Nat), i + m = V 85 13 → jJ (g, Y_M_judge, (1, 24), 0, 0, jVQ g φ) [(0, .ref (jb g + 85)), (1, .long (lN (mjs V L i))), (3, .int (nI i))] (jv (g, Y_M_judge, (1, 24), 0, 0, jVQ g φ) (vu V 85 0 0) L 0 0) 29 [] := by
    intro m
    induction m with
    | zero =>
      intro i hi
      obtain rfl : i = V 85 13 := by omega
      refine j_iload_n d_M_judge_29 rfl 2 rfl ?_
      refine j_aload_n d_M_judge_30 rfl 0 rfl ?_
      refine v_getI d_M_judge_31 lf_M_140 rfl (Nat.le_of_ble_eq_true rfl) rfl ?_
      rw [show vu V 85 0 0 85 13 = V 85 13 from rfl]
      refine n_icmp_ge d_M_judge_34 79 rfl (by omega) (by omega) (fun h => ?_) (fun h => absurd h (by omega))
      refine n_iconst d_M_judge_79 0 (by decide) ?_
      refine j_istore_n d_M_judge_80 (i := 3) rfl (Nat.le_of_ble_eq_true rfl) (lv' := [_, _, _]) rfl ?_
      refine j_iload_n d_M_judge_81 rfl 0 rfl ?_
      refine n_iconst d_M_judge_82 4 (by decide) ?_
      refine n_icmp_ge d_M_judge_83 120 rfl (by omega) (by omega) (fun h => absurd h (by omega)) (fun h => ?_)
      refine j_lload_n d_M_judge_86 rfl 2 rfl ?_
      refine j_aload_n d_M_judge_87 rfl 1 rfl ?_
      refine n_bipush d_M_judge_88 64 (by decide) ?_
      refine j_aload_n d_M_judge_90 rfl 1 rfl ?_
      refine v_getI d_M_judge_91 lf_M_143 rfl (Nat.le_of_ble_eq_true rfl) rfl ?_
      rw [show vu V 85 0 0 85 14 = V 85 14 from rfl]
      refine n_mul d_M_judge_94 ?_
      refine j_iload_n d_M_judge_95 rfl 0 rfl ?_
      refine n_add d_M_judge_96 ?_
      refine v_callV d_M_judge_97 mt_M_secret ln_M_95 im_M_secret se_M_secret rfl (Nat.le_of_ble_eq_true rfl) rfl rfl ⟨Nat.le_of_ble_eq_true rfl, Nat.le_of_ble_eq_true rfl⟩ (Nat.le_of_ble_eq_true rfl) rfl (Nat.zero_le _) (Nat.zero_le _) (c_M_secret g (vu V 85 0 0) L (64 * V 85 14 + 0) (by omega)) rfl ?_
      rintro _ _ _ ⟨rfl, rfl, rfl⟩
      refine j_aload_n d_M_judge_100 rfl 1 rfl ?_
      refine v_getR d_M_judge_101 lf_M_44 rfl (Nat.le_of_ble_eq_true rfl) rfl ?_
      refine j_iload_n d_M_judge_104 rfl 0 rfl ?_
      refine v_ild d_M_judge_105 rfl rfl (Nat.le_of_ble_eq_true rfl) rfl (by omega) (by omega) ?_
      rw [show vu V 85 0 0 97 0 = V 97 0 from rfl]
      have v0 := hN.an 0 (by omega)
      have m0 := mP (sN_lt (L 85 1) (L 85 2) (64 * V 85 14 + 0)) v0
      refine n_i2l d_M_judge_106 (by omega) ?_
      refine n_lmul d_M_judge_107 ?_
      refine n_ladd d_M_judge_108 ?_
      refine j_ldc2 d_M_judge_109 ct_M_67 ?_
      rw [show (2147483647 : Int64) = lN 2147483647 from by decide]
      refine n_lrem d_M_judge_112 (Nat.lt_of_lt_of_le (Nat.add_lt_add (mjs_lt _ _ _) m0) (by decide)) (by decide) (by decide) ?_
      rw [fpf]
      refine j_lstore_n d_M_judge_113 (i := 1) rfl (Nat.le_of_ble_eq_true rfl) (lv' := [_, _, _]) rfl ?_
      refine n_iinc d_M_judge_114 1 (by decide) 1 rfl (Nat.le_of_ble_eq_true rfl) (lv' := [(3, .int (nI 1)), _, _]) rfl ?_
      refine j_goto d_M_judge_117 81 rfl ?_
      refine j_iload_n d_M_judge_81 rfl 0 rfl ?_
      refine n_iconst d_M_judge_82 4 (by decide) ?_
      refine n_icmp_ge d_M_judge_83 120 rfl (by omega) (by omega) (fun h => absurd h (by omega)) (fun h => ?_)
      refine j_lload_n d_M_judge_86 rfl 1 rfl ?_
      refine j_aload_n d_M_judge_87 rfl 2 rfl ?_
      refine n_bipush d_M_judge_88 64 (by decide) ?_
      refine j_aload_n d_M_judge_90 rfl 2 rfl ?_
      refine v_getI d_M_judge_91 lf_M_143 rfl (Nat.le_of_ble_eq_true rfl) rfl ?_
      rw [show vu V 85 0 0 85 14 = V 85 14 from rfl]
      refine n_mul d_M_judge_94 ?_
      refine j_iload_n d_M_judge_95 rfl 0 rfl ?_
      refine n_add d_M_judge_96 ?_
      refine v_callV d_M_judge_97 mt_M_secret ln_M_95 im_M_secret se_M_secret rfl (Nat.le_of_ble_eq_true rfl) rfl rfl ⟨Nat.le_of_ble_eq_true rfl, Nat.le_of_ble_eq_true rfl⟩ (Nat.le_of_ble_eq_true rfl) rfl (Nat.zero_le _) (Nat.zero_le _) (c_M_secret g (vu V 85 0 0) L (64 * V 85 14 + 1) (by omega)) rfl ?_
      rintro _ _ _ ⟨rfl, rfl, rfl⟩
      refine j_aload_n d_M_judge_100 rfl 2 rfl ?_
      refine v_getR d_M_judge_101 lf_M_44 rfl (Nat.le_of_ble_eq_true rfl) rfl ?_
      refine j_iload_n d_M_judge_104 rfl 0 rfl ?_
      refine v_ild d_M_judge_105 rfl rfl (Nat.le_of_ble_eq_true rfl) rfl (by omega) (by omega) ?_
      rw [show vu V 85 0 0 97 1 = V 97 1 from rfl]
      have v1 := hN.an 1 (by omega)
      have m1 := mP (sN_lt (L 85 1) (L 85 2) (64 * V 85 14 + 1)) v1
      refine n_i2l d_M_judge_106 (by omega) ?_
      refine n_lmul d_M_judge_107 ?_
      refine n_ladd d_M_judge_108 ?_
      refine j_ldc2 d_M_judge_109 ct_M_67 ?_
      rw [show (2147483647 : Int64) = lN 2147483647 from by decide]
      refine n_lrem d_M_judge_112 (Nat.lt_of_lt_of_le (Nat.add_lt_add (fpl_lt _ _) m1) (by decide)) (by decide) (by decide) ?_
      rw [fpf]
      refine j_lstore_n d_M_judge_113 (i := 1) rfl (Nat.le_of_ble_eq_true rfl) (lv' := [_, _, _]) rfl ?_
      refine n_iinc d_M_judge_114 1 (by decide) 1 rfl (Nat.le_of_ble_eq_true rfl) (lv' := [(3, .int (nI 2)), _, _]) rfl ?_
      refine j_goto d_M_judge_117 81 rfl ?_
      refine j_iload_n d_M_judge_81 rfl 0 rfl ?_
      refine n_iconst d_M_judge_82 4 (by decide) ?_
      refine n_icmp_ge d_M_judge_83 120 rfl (by omega) (by omega) (fun h => absurd h (by omega)) (fun h => ?_)
      refine j_lload_n d_M_judge_86 rfl 1 rfl ?_
      refine j_aload_n d_M_judge_87 rfl 2 rfl ?_
      refine n_bipush d_M_judge_88 64 (by decide) ?_
      refine j_aload_n d_M_judge_90 rfl 2 rfl ?_
      refine v_getI d_M_judge_91 lf_M_143 rfl (Nat.le_of_ble_eq_true rfl) rfl ?_
      rw [show vu V 85 0 0 85 14 = V 85 14 from rfl]
      refine n_mul d_M_judge_94 ?_
      refine j_iload_n d_M_judge_95 rfl 0 rfl ?_
      refine n_add d_M_judge_96 ?_
      refine v_callV d_M_judge_97 mt_M_secret ln_M_95 im_M_secret se_M_secret rfl (Nat.le_of_ble_eq_true rfl) rfl rfl ⟨Nat.le_of_ble_eq_true rfl, Nat.le_of_ble_eq_true rfl⟩ (Nat.le_of_ble_eq_true rfl) rfl (Nat.zero_le _) (Nat.zero_le _) (c_M_secret g (vu V 85 0 0) L (64 * V 85 14 + 2) (by omega)) rfl ?_
      rintro _ _ _ ⟨rfl, rfl, rfl⟩
      refine j_aload_n d_M_judge_100 rfl 2 rfl ?_
      refine v_getR d_M_judge_101 lf_M_44 rfl (Nat.le_of_ble_eq_true rfl) rfl ?_
      refine j_iload_n d_M_judge_104 rfl 0 rfl ?_
      refine v_ild d_M_judge_105 rfl rfl (Nat.le_of_ble_eq_true rfl) rfl (by omega) (by omega) ?_
      rw [show vu V 85 0 0 97 2 = V 97 2 from rfl]
      have v2 := hN.an 2 (by omega)
      have m2 := mP (sN_lt (L 85 1) (L 85 2) (64 * V 85 14 + 2)) v2
      refine n_i2l d_M_judge_106 (by omega) ?_
      refine n_lmul d_M_judge_107 ?_
      refine n_ladd d_M_judge_108 ?_
      refine j_ldc2 d_M_judge_109 ct_M_67 ?_
      rw [show (2147483647 : Int64) = lN 2147483647 from by decide]
      refine n_lrem d_M_judge_112 (Nat.lt_of_lt_of_le (Nat.add_lt_add (fpl_lt _ _) m2) (by decide)) (by decide) (by decide) ?_
      rw [fpf]
      refine j_lstore_n d_M_judge_113 (i := 1) rfl (Nat.le_of_ble_eq_true rfl) (lv' := [_, _, _]) rfl ?_
      refine n_iinc d_M_judge_114 1 (by decide) 1 rfl (Nat.le_of_ble_eq_true rfl) (lv' := [(3, .int (nI 3)), _, _]) rfl ?_
      refine j_goto d_M_judge_117 81 rfl ?_
      refine j_iload_n d_M_judge_81 rfl 0 rfl ?_
      refine n_iconst d_M_judge_82 4 (by decide) ?_
      refine n_icmp_ge d_M_judge_83 120 rfl (by omega) (by omega) (fun h => absurd h (by omega)) (fun h => ?_)
      refine j_lload_n d_M_judge_86 rfl 1 rfl ?_
      refine j_aload_n d_M_judge_87 rfl 2 rfl ?_
      refine n_bipush d_M_judge_88 64 (by decide) ?_
      refine j_aload_n d_M_judge_90 rfl 2 rfl ?_
      refine v_getI d_M_judge_91 lf_M_143 rfl (Nat.le_of_ble_eq_true rfl) rfl ?_
      rw [show vu V 85 0 0 85 14 = V 85 14 from rfl]
      refine n_mul d_M_judge_94 ?_
      refine j_iload_n d_M_judge_95 rfl 0 rfl ?_
      refine n_add d_M_judge_96 ?_
      refine v_callV d_M_judge_97 mt_M_secret ln_M_95 im_M_secret se_M_secret rfl (Nat.le_of_ble_eq_true rfl) rfl rfl ⟨Nat.le_of_ble_eq_true rfl, Nat.le_of_ble_eq_true rfl⟩ (Nat.le_of_ble_eq_true rfl) rfl (Nat.zero_le _) (Nat.zero_le _) (c_M_secret g (vu V 85 0 0) L (64 * V 85 14 + 3) (by omega)) rfl ?_
      rintro _ _ _ ⟨rfl, rfl, rfl⟩
      refine j_aload_n d_M_judge_100 rfl 2 rfl ?_
      refine v_getR d_M_judge_101 lf_M_44 rfl (Nat.le_of_ble_eq_true rfl) rfl ?_
      refine j_iload_n d_M_judge_104 rfl 0 rfl ?_
      refine v_ild d_M_judge_105 rfl rfl (Nat.le_of_ble_eq_true rfl) rfl (by omega) (by omega) ?_
      rw [show vu V 85 0 0 97 3 = V 97 3 from rfl]
      have v3 := hN.an 3 (by omega)
      have m3 := mP (sN_lt (L 85 1) (L 85 2) (64 * V 85 14 + 3)) v3
      refine n_i2l d_M_judge_106 (by omega) ?_
      refine n_lmul d_M_judge_107 ?_
      refine n_ladd d_M_judge_108 ?_
      refine j_ldc2 d_M_judge_109 ct_M_67 ?_
      rw [show (2147483647 : Int64) = lN 2147483647 from by decide]
      refine n_lrem d_M_judge_112 (Nat.lt_of_lt_of_le (Nat.add_lt_add (fpl_lt _ _) m3) (by decide)) (by decide) (by decide) ?_
      rw [fpf]
      refine j_lstore_n d_M_judge_113 (i := 1) rfl (Nat.le_of_ble_eq_true rfl) (lv' := [_, _, _]) rfl ?_
      refine n_iinc d_M_judge_114 1 (by decide) 1 rfl (Nat.le_of_ble_eq_true rfl) (lv' := [(3, .int (nI 4)), _, _]) rfl ?_
      refine j_goto d_M_judge_117 81 rfl ?_
      refine j_iload_n d_M_judge_81 rfl 0 rfl ?_
      refine n_iconst d_M_judge_82 4 (by decide) ?_
      refine n_icmp_ge d_M_judge_83 120 rfl (by omega) (by omega) (fun h => ?_) (fun h => absurd h (by omega))
      refine j_lv [2, 1] rfl ?_
      exact fin
    | succ m ih =>
      intro i hi
      have ih' := ih (i + 1) (by omega)
      rw [mjs] at ih'
      have c1 := hN.co i (by omega)
      have c2 := hN.rw i (by omega)
      have m1 := mP c1 (sN_lt (L 85 1) (L 85 2) (64 * V 85 14 + 8 + V 95 i))
      refine j_iload_n d_M_judge_29 rfl 2 rfl ?_
      refine j_aload_n d_M_judge_30 rfl 0 rfl ?_
      refine v_getI d_M_judge_31 lf_M_140 rfl (Nat.le_of_ble_eq_true rfl) rfl ?_
      rw [show vu V 85 0 0 85 13 = V 85 13 from rfl]
      refine n_icmp_ge d_M_judge_34 79 rfl (by omega) (by omega) (fun h => absurd h (by omega)) (fun h => ?_)
      refine j_lload_n d_M_judge_37 rfl 1 rfl ?_
      refine j_aload_n d_M_judge_38 rfl 0 rfl ?_
      refine v_getR d_M_judge_39 lf_M_41 rfl (Nat.le_of_ble_eq_true rfl) rfl ?_
      refine j_iload_n d_M_judge_42 rfl 2 rfl ?_
      refine v_ild d_M_judge_43 rfl rfl (Nat.le_of_ble_eq_true rfl) rfl (by omega) (by omega) ?_
      rw [show vu V 85 0 0 96 i = V 96 i from rfl]
      refine n_i2l d_M_judge_44 (by omega) ?_
      refine j_aload_n d_M_judge_45 rfl 0 rfl ?_
      refine n_bipush d_M_judge_46 64 (by decide) ?_
      refine j_aload_n d_M_judge_48 rfl 0 rfl ?_
      refine v_getI d_M_judge_49 lf_M_143 rfl (Nat.le_of_ble_eq_true rfl) rfl ?_
      rw [show vu V 85 0 0 85 14 = V 85 14 from rfl]
      refine n_mul d_M_judge_52 ?_
      refine n_bipush d_M_judge_53 8 (by decide) ?_
      refine n_add d_M_judge_55 ?_
      refine j_aload_n d_M_judge_56 rfl 0 rfl ?_
      refine v_getR d_M_judge_57 lf_M_38 rfl (Nat.le_of_ble_eq_true rfl) rfl ?_
      refine j_iload_n d_M_judge_60 rfl 2 rfl ?_
      refine v_ild d_M_judge_61 rfl rfl (Nat.le_of_ble_eq_true rfl) rfl (by omega) (by omega) ?_
      rw [show vu V 85 0 0 95 i = V 95 i from rfl]
      refine n_add d_M_judge_62 ?_
      refine v_callV d_M_judge_63 mt_M_secret ln_M_95 im_M_secret se_M_secret rfl (Nat.le_of_ble_eq_true rfl) rfl rfl ⟨Nat.le_of_ble_eq_true rfl, Nat.le_of_ble_eq_true rfl⟩ (Nat.le_of_ble_eq_true rfl) rfl (Nat.zero_le _) (Nat.zero_le _) (c_M_secret g (vu V 85 0 0) L (64 * V 85 14 + 8 + V 95 i) (by omega)) rfl ?_
      rintro _ _ _ ⟨rfl, rfl, rfl⟩
      refine n_lmul d_M_judge_66 ?_
      refine n_ladd d_M_judge_67 ?_
      refine j_ldc2 d_M_judge_68 ct_M_67 ?_
      rw [show (2147483647 : Int64) = lN 2147483647 from by decide]
      refine n_lrem d_M_judge_71 (Nat.lt_of_lt_of_le (Nat.add_lt_add (mjs_lt _ _ _) m1) (by decide)) (by decide) (by decide) ?_
      rw [fpf]
      refine j_lstore_n d_M_judge_72 (i := 1) rfl (Nat.le_of_ble_eq_true rfl) (lv' := [_, _, _]) rfl ?_
      refine n_iinc d_M_judge_73 1 (by decide) 2 rfl (Nat.le_of_ble_eq_true rfl) (lv' := [_, _, _]) rfl ?_
      refine j_goto d_M_judge_76 29 rfl ?_
      refine j_lv [2, 1, 0] rfl ?_
      exact ih'
  refine j_aload_n d_M_judge_0 rfl 0 rfl ?_
  refine j_aload_n d_M_judge_1 rfl 0 rfl ?_
  refine v_getI d_M_judge_2 lf_M_140 rfl (Nat.le_of_ble_eq_true rfl) rfl ?_
  refine n_if_ne d_M_judge_5 12 rfl (Nat.lt_of_le_of_lt h13 (by decide)) (fun h => ?_) (fun h => absurd h (by omega))
  refine n_iconst d_M_judge_12 0 (by decide) ?_
  refine v_putI d_M_judge_13 lf_M_63 rfl (Nat.le_of_ble_eq_true rfl) rfl rfl rfl rfl ?_
  refine j_aload_n d_M_judge_16 rfl 0 rfl ?_
  refine v_getI d_M_judge_17 lf_M_63 rfl (Nat.le_of_ble_eq_true rfl) rfl ?_
  rw [vu_eq]
  refine n_ift_le d_M_judge_20 25 rfl rfl (by decide) ?_
  refine j_lconst d_M_judge_25 (v := lN 0) (by decide) ?_
  refine j_lstore_n d_M_judge_26 (i := 1) rfl (Nat.le_of_ble_eq_true rfl) (lv' := [_, _]) rfl ?_
  refine n_iconst d_M_judge_27 0 (by decide) ?_
  refine j_istore_n d_M_judge_28 (i := 3) rfl (Nat.le_of_ble_eq_true rfl) (lv' := [_, _, _]) rfl ?_
  refine j_lv [2, 1, 0] rfl ?_
  exact loop (V 85 13) 0 (by omega)
theorem n_M_judge (g : jG) (V : Nat → Nat → Nat) (L : Nat → Nat → Int64) (hp : V 85 13 = 0) : jK g Y_M_judge (1, 24) [.ref (jb g + 85)] V L (jA0 (some (.int (nI 0))) (vu V 85 0 1) L) := by
  refine jK_entry (by decide +kernel) rfl (Nat.le_of_ble_eq_true rfl) ?_
  show jJ (g, Y_M_judge, (1, 24), 0, 0, jVQ g (jA0 (some (.int (nI 0))) (vu V 85 0 1) L)) [(0, .ref (jb g + 85))] (jv (g, Y_M_judge, (1, 24), 0, 0, jVQ g (jA0 (some (.int (nI 0))) (vu V 85 0 1) L)) V L 0 0) 0 []
  refine j_aload_n d_M_judge_0 rfl 0 rfl ?_
  refine j_aload_n d_M_judge_1 rfl 0 rfl ?_
  refine v_getI d_M_judge_2 lf_M_140 rfl (Nat.le_of_ble_eq_true rfl) rfl ?_
  rw [hp]
  refine n_if_ne d_M_judge_5 12 rfl (by omega) (fun h => absurd h (by omega)) (fun h => ?_)
  refine n_iconst d_M_judge_8 1 (by decide) ?_
  refine j_goto d_M_judge_9 13 rfl ?_
  refine v_putI d_M_judge_13 lf_M_63 rfl (Nat.le_of_ble_eq_true rfl) rfl rfl rfl rfl ?_
  refine j_aload_n d_M_judge_16 rfl 0 rfl ?_
  refine v_getI d_M_judge_17 lf_M_63 rfl (Nat.le_of_ble_eq_true rfl) rfl ?_
  rw [vu_eq]
  refine n_iff_le d_M_judge_20 25 rfl (by decide) (by decide) ?_
  refine n_iconst d_M_judge_23 0 (by decide) ?_
  exact v_zret d_M_judge_24 rfl (by omega) (Nat.zero_le _) (Nat.zero_le _) rfl jA0_rfl
def mca (X : Nat → Nat → Nat) (t : Nat) : Nat → Nat → Nat := fun a x => if a = 97 ∧ x < t then 0 else X a x
theorem mca_0 (V : Nat → Nat → Nat) : mca V 0 = V := by
  funext a x
  exact if_neg (by omega)
theorem mca_nq {V : Nat → Nat → Nat} {t a : Nat} (h : a ≠ 97) : mca V t a = V a := by
  funext x
  exact if_neg (fun z => h z.1)
theorem mca_s (V : Nat → Nat → Nat) (t : Nat) : vu (mca V t) 97 t 0 = mca V (t + 1) := by
  funext a x
  unfold vu mca
  by_cases h : a = 97 ∧ x = t
  · rw [if_pos h, if_pos (by omega)]
  · rw [if_neg h]
    by_cases h2 : a = 97 ∧ x < t
    · rw [if_pos h2, if_pos (by omega)]
    · rw [if_neg h2, if_neg (by omega)]
def mc1 (V : Nat → Nat → Nat) (f k m : Nat) : Nat → Nat → Nat := vu (vu (vu (vu V 85 0 0) 85 13 m) 85 14 f) 85 15 k
/-- one more row weighed into the answer -/
def man (W : Nat → Nat → Nat) (k f r i : Nat) : Nat → Nat → Nat → Nat
  | 0 => W
  | j + 1 => vu (man W k f r i j) 97 j (fpl (man W k f r i j 97 j) (fti (man W k f r i j 96 i) (man W k f r i j 90 (360 * k + 5 * (24 * f + r) + j))))
theorem man_nq {W : Nat → Nat → Nat} {k f r i a : Nat} (h : a ≠ 97) : ∀ j, man W k f r i j a = W a
  | 0 => rfl
  | j + 1 => (vu_nq _ _ _ h).trans (man_nq h j)
theorem man_lt {W : Nat → Nat → Nat} {k f r i : Nat} (h : ∀ x, x < 5 → W 97 x < 2147483647) : ∀ j x, x < 5 → man W k f r i j 97 x < 2147483647
  | 0 => h
  | j + 1 => fun x hx => by
    unfold man vu
    split
    · exact fpl_lt _ _
    · exact man_lt h j x hx
def mcr (W : Nat → Nat → Nat) (s rc i : Nat) : Nat := nxu (fun r => mia W r i) rc rc (stp (sdn s i) / 2 ^ 16 % rc)
def mcs (V : Nat → Nat → Nat) (f k s m rc : Nat) : Nat → Nat → Nat → Nat
  | 0 => mca (mc1 V f k m) 5
  | i + 1 => man (vu (vu (mcs V f k s m rc i) 95 i (mcr (mcs V f k s m rc i) s rc i)) 96 i (drc s i)) k f (mcr (mcs V f k s m rc i) s rc i) i 5
theorem mcs_nq {V : Nat → Nat → Nat} {f k s m rc a : Nat} (h5 : a ≠ 95) (h6 : a ≠ 96) (h7 : a ≠ 97) : ∀ i, mcs V f k s m rc i a = mc1 V f k m a
  | 0 => mca_nq h7
  | i + 1 => by
    show man _ _ _ _ _ _ a = _
    rw [man_nq h7, vu_nq _ _ _ h6, vu_nq _ _ _ h5, mcs_nq h5 h6 h7 i]
theorem mcr_lt {W : Nat → Nat → Nat} {s rc i : Nat} (h : 0 < rc) : mcr W s rc i < rc := nxu_lt _ _ (Nat.mod_lt _ h)
theorem drc_lt (s i : Nat) : drc s i < 2147483647 := by
  have : stp (stp (sdn s i)) / 2 ^ 1 % 2147483646 < 2147483646 := Nat.mod_lt _ (by decide)
  unfold drc
  omega
theorem mcs_95 {V : Nat → Nat → Nat} {f k s m rc : Nat} (h0 : 0 < rc) : ∀ i x, x < i → mcs V f k s m rc i 95 x < rc
  | 0, _, h => absurd h (Nat.not_lt_zero _)
  | i + 1, x, h => by
    show man _ _ _ _ _ _ 95 x < rc
    rw [man_nq (by decide), vu_nq _ _ _ (by decide)]
    unfold vu
    split
    · exact mcr_lt h0
    · exact mcs_95 h0 i x (by omega)
theorem mcs_97 {V : Nat → Nat → Nat} {f k s m rc : Nat} : ∀ i x, x < 5 → mcs V f k s m rc i 97 x < 2147483647
  | 0, x, h => by
    show (if 97 = 97 ∧ x < 5 then 0 else _) < _
    rw [if_pos ⟨rfl, h⟩]
    omega
  | i + 1, x, h => by
    refine man_lt (fun y hy => ?_) 5 x h
    rw [vu_nq _ _ _ (by decide), vu_nq _ _ _ (by decide)]
    exact mcs_97 i y hy
theorem c_M_challenge (g : jG) (V : Nat → Nat → Nat) (L : Nat → Nat → Int64) (hN : jN V) (k f : Nat) (hk : k < 4) (hf0 : f < V 85 4) (hh : V 89 (3 * k + f) = 1) (s : Nat) (hs : s < 2 ^ 32) (m : Nat) (h1 : 1 ≤ m) (hm : m ≤ mrs V f) (hfr : ∀ i, i < m → mia (mcs V f k s m (mrs V f) i) (mcr (mcs V f k s m (mrs V f) i) s (mrs V f) i) i = 0) : jK g Y_M_challenge (2, 43) [.ref (jb g + 85), .int (nI f), .int (nI k), .int (nI s), .int (nI m)] V L (jA0 (some (.int (nI (mcs V f k s m (mrs V f) m 95 0)))) (mcs V f k s m (mrs V f) m) L) := by
  refine jK_entry (by decide +kernel) rfl (Nat.le_of_ble_eq_true rfl) ?_
  show jJ (g, Y_M_challenge, (2, 43), 0, 0, jVQ g (jA0 (some (.int (nI (mcs V f k s m (mrs V f) m 95 0)))) (mcs V f k s m (mrs V f) m) L)) [(0, .ref (jb g + 85)), (1, .int (nI f)), (2, .int (nI k)), (3, .int (nI s)), (4, .int (nI m))] (jv (g, Y_M_challenge, (2, 43), 0, 0, jVQ g (jA0 (some (.int (nI (mcs V f k s m (mrs V f) m 95 0)))) (mcs V f k s m (mrs V f) m) L)) V L 0 0) 0 []
  have h3 := hN.F
  have hw := hN.w (show f < 3 by omega)
  have hr24 : mrs V f ≤ 24 := by unfold mrs; omega
  refine j_aload_n d_M_challenge_0 rfl 0 rfl ?_
  refine j_aload_n d_M_challenge_1 rfl 0 rfl ?_
  refine j_iload_n d_M_challenge_2 rfl 2 rfl ?_
  refine j_iload_n d_M_challenge_3 rfl 1 rfl ?_
  refine v_callV d_M_challenge_4 mt_M_holds ln_M_132 im_M_holds se_M_holds rfl (Nat.le_of_ble_eq_true rfl) rfl rfl ⟨Nat.le_of_ble_eq_true rfl, Nat.le_of_ble_eq_true rfl⟩ (Nat.le_of_ble_eq_true rfl) rfl (Nat.zero_le _) (Nat.zero_le _) (c_M_holds g V L hN (nI k) (nI f)) rfl ?_
  rintro _ _ _ ⟨rfl, rfl, rfl⟩
  rw [mhl_nI h3 hk hf0, hh]
  refine n_if_eq d_M_challenge_7 42 rfl (by omega) (fun h => absurd h (by omega)) (fun h => ?_)
  refine j_iload d_M_challenge_10 4 rfl ?_
  refine n_iconst d_M_challenge_12 1 (by decide) ?_
  refine n_icmp_lt d_M_challenge_13 42 rfl (by omega) (by omega) (fun h => absurd h (by omega)) (fun h => ?_)
  refine j_iload d_M_challenge_16 4 rfl ?_
  refine j_aload_n d_M_challenge_18 rfl 0 rfl ?_
  refine j_aload_n d_M_challenge_19 rfl 0 rfl ?_
  refine j_iload_n d_M_challenge_20 rfl 1 rfl ?_
  refine v_callV d_M_challenge_21 mt_M_isFile ln_M_118 im_M_isFile se_M_isFile rfl (Nat.le_of_ble_eq_true rfl) rfl rfl ⟨Nat.le_of_ble_eq_true rfl, Nat.le_of_ble_eq_true rfl⟩ (Nat.le_of_ble_eq_true rfl) rfl (Nat.zero_le _) (Nat.zero_le _) (c_M_isFile g V L (nI f)) rfl ?_
  rintro _ _ _ ⟨rfl, rfl, rfl⟩
  rw [isn_nI (by omega) hf0]
  refine n_if_eq d_M_challenge_24 31 rfl (by omega) (fun h => absurd h (by omega)) (fun h => ?_)
  refine j_iload_n d_M_challenge_27 rfl 1 rfl ?_
  refine j_goto d_M_challenge_28 32 rfl ?_
  refine v_callV d_M_challenge_32 mt_M_rowsOf ln_M_99 im_M_rowsOf se_M_rowsOf rfl (Nat.le_of_ble_eq_true rfl) rfl rfl ⟨Nat.le_of_ble_eq_true rfl, Nat.le_of_ble_eq_true rfl⟩ (Nat.le_of_ble_eq_true rfl) rfl (Nat.zero_le _) (Nat.zero_le _) (c_M_rowsOf g V L f (by omega) hw) rfl ?_
  rintro _ _ _ ⟨rfl, rfl, rfl⟩
  refine n_icmp_gt d_M_challenge_35 42 rfl (by omega) (by omega) (fun h => absurd h (by omega)) (fun h => ?_)
  refine n_iconst d_M_challenge_38 0 (by decide) ?_
  refine j_goto d_M_challenge_39 43 rfl ?_
  refine v_putI d_M_challenge_43 lf_M_63 rfl (Nat.le_of_ble_eq_true rfl) rfl rfl rfl rfl ?_
  refine j_aload_n d_M_challenge_46 rfl 0 rfl ?_
  refine v_getI d_M_challenge_47 lf_M_63 rfl (Nat.le_of_ble_eq_true rfl) rfl ?_
  rw [vu_eq]
  refine n_ift_le d_M_challenge_50 55 rfl rfl (by decide) ?_
  refine j_aload_n d_M_challenge_55 rfl 0 rfl ?_
  refine j_iload d_M_challenge_56 4 rfl ?_
  refine v_putI d_M_challenge_58 lf_M_140 rfl (Nat.le_of_ble_eq_true rfl) rfl rfl rfl rfl ?_
  refine j_aload_n d_M_challenge_61 rfl 0 rfl ?_
  refine j_iload_n d_M_challenge_62 rfl 1 rfl ?_
  refine v_putI d_M_challenge_63 lf_M_143 rfl (Nat.le_of_ble_eq_true rfl) rfl rfl rfl rfl ?_
  refine j_aload_n d_M_challenge_66 rfl 0 rfl ?_
  refine j_iload_n d_M_challenge_67 rfl 2 rfl ?_
  refine v_putI d_M_challenge_68 lf_M_146 rfl (Nat.le_of_ble_eq_true rfl) rfl rfl rfl rfl ?_
  refine j_iload_n d_M_challenge_71 rfl 3 rfl ?_
  refine j_istore d_M_challenge_72 (i := 5) (Nat.le_of_ble_eq_true rfl) (lv' := [_, _, _, _, _, _]) rfl ?_
  refine j_aload_n d_M_challenge_74 rfl 1 rfl ?_
  refine j_iload_n d_M_challenge_75 rfl 2 rfl ?_
  show jJ _ _ (jv _ (mc1 V f k m) L 0 0) _ _
  refine v_callV d_M_challenge_76 mt_M_rowsOf ln_M_99 im_M_rowsOf se_M_rowsOf rfl (Nat.le_of_ble_eq_true rfl) rfl rfl ⟨Nat.le_of_ble_eq_true rfl, Nat.le_of_ble_eq_true rfl⟩ (Nat.le_of_ble_eq_true rfl) rfl (Nat.zero_le _) (Nat.zero_le _) (c_M_rowsOf g (mc1 V f k m) L f (by omega) hw) rfl ?_
  rintro _ _ _ ⟨rfl, rfl, rfl⟩
  rw [show mrs (mc1 V f k m) f = mrs V f from rfl]
  refine j_istore d_M_challenge_79 (i := 6) (Nat.le_of_ble_eq_true rfl) (lv' := [_, _, _, _, _, _, _]) rfl ?_
  refine n_iconst d_M_challenge_81 0 (by decide) ?_
  refine j_istore d_M_challenge_82 (i := 7) (Nat.le_of_ble_eq_true rfl) (lv' := [_, _, _, _, _, _, _, _]) rfl ?_
  refine j_iload d_M_challenge_84 0 rfl ?_
  refine n_iconst d_M_challenge_86 5 (by decide) ?_
  have z0 : mc1 V f k m = mca (mc1 V f k m) 0 := (mca_0 _).symm
  rw [show jv (g, Y_M_challenge, (2, 43), 0, 0, jVQ g (jA0 (some (.int (nI (mcs V f k s m (mrs V f) m 95 0)))) (mcs V f k s m (mrs V f) m) L)) (mc1 V f k m) L 0 0 = jv (g, Y_M_challenge, (2, 43), 0, 0, jVQ g (jA0 (some (.int (nI (mcs V f k s m (mrs V f) m 95 0)))) (mcs V f k s m (mrs V f) m) L)) (mca (mc1 V f k m) 0) L 0 0 from congrArg (fun X => jv _ X L 0 0) z0]
  refine n_icmp_ge d_M_challenge_87 104 rfl (by omega) (by omega) (fun h => absurd h (by omega)) (fun h => ?_)
  refine j_aload_n d_M_challenge_90 rfl 3 rfl ?_
  refine v_getR d_M_challenge_91 lf_M_44 rfl (Nat.le_of_ble_eq_true rfl) rfl ?_
  refine j_iload d_M_challenge_94 0 rfl ?_
  refine n_iconst d_M_challenge_96 0 (by decide) ?_
  refine v_ist d_M_challenge_97 rfl rfl (Nat.le_of_ble_eq_true rfl) rfl (by omega) (by omega) ?_
  rw [mca_s]
  refine n_iinc d_M_challenge_98 1 (by decide) 0 rfl (Nat.le_of_ble_eq_true rfl) (lv' := [(7, .int (nI 1)), _, _, _, _, _, _, _]) rfl ?_
  refine j_goto d_M_challenge_101 84 rfl ?_
  refine j_iload d_M_challenge_84 0 rfl ?_
  refine n_iconst d_M_challenge_86 5 (by decide) ?_
  refine n_icmp_ge d_M_challenge_87 104 rfl (by omega) (by omega) (fun h => absurd h (by omega)) (fun h => ?_)
  refine j_aload_n d_M_challenge_90 rfl 3 rfl ?_
  refine v_getR d_M_challenge_91 lf_M_44 rfl (Nat.le_of_ble_eq_true rfl) rfl ?_
  refine j_iload d_M_challenge_94 0 rfl ?_
  refine n_iconst d_M_challenge_96 0 (by decide) ?_
  refine v_ist d_M_challenge_97 rfl rfl (Nat.le_of_ble_eq_true rfl) rfl (by omega) (by omega) ?_
  rw [mca_s]
  refine n_iinc d_M_challenge_98 1 (by decide) 0 rfl (Nat.le_of_ble_eq_true rfl) (lv' := [(7, .int (nI 2)), _, _, _, _, _, _, _]) rfl ?_
  refine j_goto d_M_challenge_101 84 rfl ?_
  refine j_iload d_M_challenge_84 0 rfl ?_
  refine n_iconst d_M_challenge_86 5 (by decide) ?_
  refine n_icmp_ge d_M_challenge_87 104 rfl (by omega) (by omega) (fun h => absurd h (by omega)) (fun h => ?_)
  refine j_aload_n d_M_challenge_90 rfl 3 rfl ?_
  refine v_getR d_M_challenge_91 lf_M_44 rfl (Nat.le_of_ble_eq_true rfl) rfl ?_
  refine j_iload d_M_challenge_94 0 rfl ?_
  refine n_iconst d_M_challenge_96 0 (by decide) ?_
  refine v_ist d_M_challenge_97 rfl rfl (Nat.le_of_ble_eq_true rfl) rfl (by omega) (by omega) ?_
  rw [mca_s]
  refine n_iinc d_M_challenge_98 1 (by decide) 0 rfl (Nat.le_of_ble_eq_true rfl) (lv' := [(7, .int (nI 3)), _, _, _, _, _, _, _]) rfl ?_
  refine j_goto d_M_challenge_101 84 rfl ?_
  refine j_iload d_M_challenge_84 0 rfl ?_
  refine n_iconst d_M_challenge_86 5 (by decide) ?_
  refine n_icmp_ge d_M_challenge_87 104 rfl (by omega) (by omega) (fun h => absurd h (by omega)) (fun h => ?_)
  refine j_aload_n d_M_challenge_90 rfl 3 rfl ?_
  refine v_getR d_M_challenge_91 lf_M_44 rfl (Nat.le_of_ble_eq_true rfl) rfl ?_
  refine j_iload d_M_challenge_94 0 rfl ?_
  refine n_iconst d_M_challenge_96 0 (by decide) ?_
  refine v_ist d_M_challenge_97 rfl rfl (Nat.le_of_ble_eq_true rfl) rfl (by omega) (by omega) ?_
  rw [mca_s]
  refine n_iinc d_M_challenge_98 1 (by decide) 0 rfl (Nat.le_of_ble_eq_true rfl) (lv' := [(7, .int (nI 4)), _, _, _, _, _, _, _]) rfl ?_
  refine j_goto d_M_challenge_101 84 rfl ?_
  refine j_iload d_M_challenge_84 0 rfl ?_
  refine n_iconst d_M_challenge_86 5 (by decide) ?_
  refine n_icmp_ge d_M_challenge_87 104 rfl (by omega) (by omega) (fun h => absurd h (by omega)) (fun h => ?_)
  refine j_aload_n d_M_challenge_90 rfl 3 rfl ?_
  refine v_getR d_M_challenge_91 lf_M_44 rfl (Nat.le_of_ble_eq_true rfl) rfl ?_
  refine j_iload d_M_challenge_94 0 rfl ?_
  refine n_iconst d_M_challenge_96 0 (by decide) ?_
  refine v_ist d_M_challenge_97 rfl rfl (Nat.le_of_ble_eq_true rfl) rfl (by omega) (by omega) ?_
  rw [mca_s]
  refine n_iinc d_M_challenge_98 1 (by decide) 0 rfl (Nat.le_of_ble_eq_true rfl) (lv' := [(7, .int (nI 5)), _, _, _, _, _, _, _]) rfl ?_
  refine j_goto d_M_challenge_101 84 rfl ?_
  refine j_iload d_M_challenge_84 0 rfl ?_
  refine n_iconst d_M_challenge_86 5 (by decide) ?_
  refine n_icmp_ge d_M_challenge_87 104 rfl (by omega) (by omega) (fun h => ?_) (fun h => absurd h (by omega))
  refine n_iconst d_M_challenge_104 0 (by decide) ?_
  refine j_istore d_M_challenge_105 (i := 7) (Nat.le_of_ble_eq_true rfl) (lv' := [_, _, _, _, _, _, _, _]) rfl ?_
  refine j_lv [3, 4, 5, 6, 7, 2, 1, 0] rfl ?_
  show jJ _ _ (jv _ (mcs V f k s m (mrs V f) 0) L 0 0) _ _
  have h90 : ∀ i, mcs V f k s m (mrs V f) i 90 = V 90 := fun i => mcs_nq (by decide) (by decide) (by decide) i
  generalize hφ : jA0 (some (.int (nI (mcs V f k s m (mrs V f) m 95 0)))) (mcs V f k s m (mrs V f) m) L = φ
  generalize hrc : mrs V f = rc at *
  have loop : ∀ (n i : Nat), i + n = m → jJ (g, Y_M_challenge, (2, 43), 0, 0, jVQ g φ) [(0, .ref (jb g + 85)), (1, .int (nI f)), (2, .int (nI k)), (3, .int (nI s)), (4, .int (nI m)), (5, .int (nI (sdn s i))), (6, .int (nI rc)), (7, .int (nI i))] (jv (g, Y_M_challenge, (2, 43), 0, 0, jVQ g φ) (mcs V f k s m rc i) L 0 0) 107 [] := by
    intro n
    induction n with
    | zero =>
      intro i hi
      obtain rfl : i = m := by omega
      refine j_iload d_M_challenge_107 7 rfl ?_
      refine j_iload d_M_challenge_109 4 rfl ?_
      refine n_icmp_ge d_M_challenge_111 274 rfl (by omega) (by omega) (fun h => ?_) (fun h => absurd h (by omega))
      subst hφ
      refine j_aload_n d_M_challenge_274 rfl 0 rfl ?_
      refine v_getR d_M_challenge_275 lf_M_38 rfl (Nat.le_of_ble_eq_true rfl) rfl ?_
      refine n_iconst d_M_challenge_278 0 (by decide) ?_
      refine v_ild d_M_challenge_279 rfl rfl (Nat.le_of_ble_eq_true rfl) rfl (by omega) (by omega) ?_
      exact v_iret d_M_challenge_280 rfl (Nat.zero_le _) (Nat.zero_le _) rfl jA0_rfl
    | succ n ih =>
      intro i hi
      have ih' := ih (i + 1) (by omega)
      clear ih
      change jJ _ _ (jv _ (man (vu (vu (mcs V f k s m rc i) 95 i (mcr (mcs V f k s m rc i) s rc i)) 96 i (drc s i)) k f (mcr (mcs V f k s m rc i) s rc i) i 5) L 0 0) _ _ at ih'
      have g90 := h90 i
      have g95 := mcs_95 (V := V) (f := f) (k := k) (s := s) (m := m) (rc := rc) (by omega) i
      have g97 := mcs_97 (V := V) (f := f) (k := k) (s := s) (m := m) (rc := rc) i
      have hfi := hfr i (by omega)
      revert ih' g90 g95 g97 hfi
      generalize mcs V f k s m rc i = W
      intro ih' g90 g95 g97 hfi
      have hR := mcr_lt (W := W) (s := s) (rc := rc) (i := i) (by omega)
      have hq : stp (sdn s i) / 2 ^ 16 < 2 ^ 16 := by have := stp_lt (sdn s i); omega
      have hq1 : stp (stp (sdn s i)) / 2 ^ 1 < 2 ^ 31 := by have := stp_lt (stp (sdn s i)); omega
      have aft : jJ (g, Y_M_challenge, (2, 43), 0, 0, jVQ g φ) [(0, .ref (jb g + 85)), (1, .int (nI f)), (2, .int (nI k)), (3, .int (nI s)), (4, .int (nI m)), (5, .int (nI (stp (sdn s i)))), (6, .int (nI rc)), (7, .int (nI i)), (8, .int (nI (mcr W s rc i)))] (jv (g, Y_M_challenge, (2, 43), 0, 0, jVQ g φ) W L 0 0) 168 [] := by
        revert ih' hR hfi
        generalize mcr W s rc i = R
        intro ih' hR hfi
        refine j_aload_n d_M_challenge_168 rfl 0 rfl ?_
        refine v_getR d_M_challenge_169 lf_M_38 rfl (Nat.le_of_ble_eq_true rfl) rfl ?_
        refine j_iload d_M_challenge_172 7 rfl ?_
        refine j_iload d_M_challenge_174 8 rfl ?_
        refine v_ist d_M_challenge_176 rfl rfl (Nat.le_of_ble_eq_true rfl) rfl (by omega) (by omega) ?_
        refine j_iload d_M_challenge_177 5 rfl ?_
        refine j_ldc d_M_challenge_179 ct_M_149 ?_
        rw [show (1103515245 : Int32) = nI 1103515245 from by decide]
        refine n_mul d_M_challenge_181 ?_
        refine n_sipush d_M_challenge_182 12345 (by decide) ?_
        refine n_add d_M_challenge_185 ?_
        rw [show nI (stp (sdn s i) * 1103515245 + 12345) = nI (stp (stp (sdn s i))) from nI_md (stp (sdn s i) * 1103515245 + 12345)]
        refine j_istore d_M_challenge_186 (i := 5) (Nat.le_of_ble_eq_true rfl) (lv' := [_, _, _, _, _, _, _, _, _]) rfl ?_
        refine j_aload_n d_M_challenge_188 rfl 1 rfl ?_
        refine v_getR d_M_challenge_189 lf_M_41 rfl (Nat.le_of_ble_eq_true rfl) rfl ?_
        refine j_iload d_M_challenge_192 7 rfl ?_
        refine j_lconst d_M_challenge_194 (v := lN 1) (by decide) ?_
        refine j_iload d_M_challenge_195 0 rfl ?_
        refine n_iconst d_M_challenge_197 1 (by decide) ?_
        refine j_iushr d_M_challenge_198 rfl ?_
        rw [us1 (stp_lt _)]
        refine n_i2l d_M_challenge_199 (by omega) ?_
        refine j_ldc2 d_M_challenge_200 ct_M_153 ?_
        rw [show (2147483646 : Int64) = lN 2147483646 from by decide]
        refine n_lrem d_M_challenge_203 (by omega) (by omega) (by omega) ?_
        refine n_ladd d_M_challenge_204 ?_
        refine n_l2i d_M_challenge_205 ?_
        refine v_ist d_M_challenge_206 rfl rfl (Nat.le_of_ble_eq_true rfl) rfl (by omega) (by omega) ?_
        refine n_iconst d_M_challenge_207 0 (by decide) ?_
        refine j_istore d_M_challenge_208 (i := 9) (Nat.le_of_ble_eq_true rfl) (lv' := [_, _, _, _, _, _, _, _, _, _]) rfl ?_
        show jJ _ _ (jv _ (vu (vu W 95 i R) 96 i (drc s i)) L 0 0) _ _
        refine j_lv [2, 3, 4, 5, 6, 1, 7, 8, 9, 0] rfl ?_
        have e96 : vu (vu W 95 i R) 96 i (drc s i) 96 i < 2147483647 := by rw [vu_eq]; exact drc_lt s i
        have e90 : vu (vu W 95 i R) 96 i (drc s i) 90 = V 90 := by rw [vu_nq _ _ _ (by decide), vu_nq _ _ _ (by decide), g90]
        have e97 : ∀ x, x < 5 → vu (vu W 95 i R) 96 i (drc s i) 97 x < 2147483647 := by rw [vu_nq _ _ _ (by decide), vu_nq _ _ _ (by decide)]; exact g97
        revert ih' e96 e90 e97
        generalize vu (vu W 95 i R) 96 i (drc s i) = X
        intro ih' e96 e90 e97
        have lj : ∀ (u j : Nat), j + u = 5 → jJ (g, Y_M_challenge, (2, 43), 0, 0, jVQ g φ) [(0, .ref (jb g + 85)), (1, .int (nI f)), (2, .int (nI k)), (3, .int (nI s)), (4, .int (nI m)), (5, .int (nI (stp (stp (sdn s i))))), (6, .int (nI rc)), (7, .int (nI i)), (8, .int (nI R)), (9, .int (nI j))] (jv (g, Y_M_challenge, (2, 43), 0, 0, jVQ g φ) (man X k f R i j) L 0 0) 210 [] := by
          intro u
          induction u with
          | zero =>
            intro j hj
            obtain rfl : j = 5 := by omega
            refine j_iload d_M_challenge_210 9 rfl ?_
            refine n_iconst d_M_challenge_212 5 (by decide) ?_
            refine n_icmp_ge d_M_challenge_213 268 rfl (by omega) (by omega) (fun h => ?_) (fun h => absurd h (by omega))
            refine n_iinc d_M_challenge_268 1 (by decide) 7 rfl (Nat.le_of_ble_eq_true rfl) (lv' := [_, _, _, _, _, _, _, _, _, _]) rfl ?_
            refine j_goto d_M_challenge_271 107 rfl ?_
            refine j_lv [1, 2, 3, 4, 5, 6, 7, 0] rfl ?_
            exact ih'
          | succ u ihj =>
            intro j hj
            have ihj' := ihj (j + 1) (by omega)
            rw [man] at ihj'
            have a1 := man_lt (k := k) (f := f) (r := R) (i := i) e97 j j (by omega)
            have a2 : man X k f R i j 96 i < 2147483647 := by rw [man_nq (by decide)]; exact e96
            have a3 : man X k f R i j 90 (360 * k + 5 * (24 * f + R) + j) < 2147483647 := by rw [man_nq (by decide), e90]; exact hN.kp _ (by omega)
            have a4 := mP a2 a3
            refine j_iload d_M_challenge_210 9 rfl ?_
            refine n_iconst d_M_challenge_212 5 (by decide) ?_
            refine n_icmp_ge d_M_challenge_213 268 rfl (by omega) (by omega) (fun h => absurd h (by omega)) (fun h => ?_)
            refine j_aload_n d_M_challenge_216 rfl 0 rfl ?_
            refine v_getR d_M_challenge_217 lf_M_44 rfl (Nat.le_of_ble_eq_true rfl) rfl ?_
            refine j_iload d_M_challenge_220 9 rfl ?_
            refine j_aload_n d_M_challenge_222 rfl 0 rfl ?_
            refine v_getR d_M_challenge_223 lf_M_44 rfl (Nat.le_of_ble_eq_true rfl) rfl ?_
            refine j_iload d_M_challenge_226 9 rfl ?_
            refine v_ild d_M_challenge_228 rfl rfl (Nat.le_of_ble_eq_true rfl) rfl (by omega) (by omega) ?_
            refine n_i2l d_M_challenge_229 (by omega) ?_
            refine j_aload_n d_M_challenge_230 rfl 0 rfl ?_
            refine v_getR d_M_challenge_231 lf_M_41 rfl (Nat.le_of_ble_eq_true rfl) rfl ?_
            refine j_iload d_M_challenge_234 7 rfl ?_
            refine v_ild d_M_challenge_236 rfl rfl (Nat.le_of_ble_eq_true rfl) rfl (by omega) (by omega) ?_
            refine n_i2l d_M_challenge_237 (by omega) ?_
            refine j_aload_n d_M_challenge_238 rfl 0 rfl ?_
            refine v_getR d_M_challenge_239 lf_M_23 rfl (Nat.le_of_ble_eq_true rfl) rfl ?_
            refine j_iload_n d_M_challenge_242 rfl 2 rfl ?_
            refine j_iload_n d_M_challenge_243 rfl 1 rfl ?_
            refine j_iload d_M_challenge_244 8 rfl ?_
            refine v_callS d_M_challenge_246 mt_M_spot ln_M_125 sm_M_spot ⟨Nat.le_of_ble_eq_true rfl, Nat.le_of_ble_eq_true rfl⟩ (Nat.le_of_ble_eq_true rfl) rfl (Nat.zero_le _) (Nat.zero_le _) (c_M_spot g (man X k f R i j) L k f R) rfl ?_
            rintro _ _ _ ⟨rfl, rfl, rfl⟩
            refine j_iload d_M_challenge_249 9 rfl ?_
            refine n_add d_M_challenge_251 ?_
            refine v_ild d_M_challenge_252 rfl rfl (Nat.le_of_ble_eq_true rfl) rfl (by omega) (by omega) ?_
            refine n_i2l d_M_challenge_253 (by omega) ?_
            refine n_lmul d_M_challenge_254 ?_
            refine n_ladd d_M_challenge_255 ?_
            refine j_ldc2 d_M_challenge_256 ct_M_67 ?_
            rw [show (2147483647 : Int64) = lN 2147483647 from by decide]
            refine n_lrem d_M_challenge_259 (Nat.lt_of_lt_of_le (Nat.add_lt_add a1 a4) (by decide)) (by decide) (by decide) ?_
            rw [fpf]
            refine n_l2i d_M_challenge_260 ?_
            refine v_ist d_M_challenge_261 rfl rfl (Nat.le_of_ble_eq_true rfl) rfl (by omega) (by omega) ?_
            refine n_iinc d_M_challenge_262 1 (by decide) 9 rfl (Nat.le_of_ble_eq_true rfl) (lv' := [_, _, _, _, _, _, _, _, _, _]) rfl ?_
            refine j_goto d_M_challenge_265 210 rfl ?_
            refine j_lv [1, 2, 3, 4, 5, 6, 7, 8, 9, 0] rfl ?_
            exact ihj'
        exact lj 5 0 (by omega)
      have srch : ∀ (u r : Nat), r < rc → nxu (fun r => mia W r i) rc u r = mcr W s rc i → jJ (g, Y_M_challenge, (2, 43), 0, 0, jVQ g φ) [(0, .ref (jb g + 85)), (1, .int (nI f)), (2, .int (nI k)), (3, .int (nI s)), (4, .int (nI m)), (5, .int (nI (stp (sdn s i)))), (6, .int (nI rc)), (7, .int (nI i)), (8, .int (nI r))] (jv (g, Y_M_challenge, (2, 43), 0, 0, jVQ g φ) W L 0 0) 135 [] := by
        intro u
        induction u with
        | zero =>
          intro r hr he
          have he : r = mcr W s rc i := he
          subst he
          refine j_aload_n d_M_challenge_135 rfl 0 rfl ?_
          refine j_iload d_M_challenge_136 8 rfl ?_
          refine j_iload d_M_challenge_138 7 rfl ?_
          refine v_callV d_M_challenge_140 mt_M_isAsked ln_M_150 im_M_isAsked se_M_isAsked rfl (Nat.le_of_ble_eq_true rfl) rfl rfl ⟨Nat.le_of_ble_eq_true rfl, Nat.le_of_ble_eq_true rfl⟩ (Nat.le_of_ble_eq_true rfl) rfl (Nat.zero_le _) (Nat.zero_le _) (c_M_isAsked g W L (mcr W s rc i) i (by omega) (by omega) (fun x hx => Nat.lt_of_lt_of_le (g95 x hx) (by omega))) rfl ?_
          rintro _ _ _ ⟨rfl, rfl, rfl⟩
          rw [hfi]
          refine n_if_eq d_M_challenge_143 168 rfl (by omega) (fun h => ?_) (fun h => absurd h (by omega))
          exact aft
        | succ u ihu =>
          intro r hr he
          have hl := mia_le W r i
          rw [nxu] at he
          refine j_aload_n d_M_challenge_135 rfl 0 rfl ?_
          refine j_iload d_M_challenge_136 8 rfl ?_
          refine j_iload d_M_challenge_138 7 rfl ?_
          refine v_callV d_M_challenge_140 mt_M_isAsked ln_M_150 im_M_isAsked se_M_isAsked rfl (Nat.le_of_ble_eq_true rfl) rfl rfl ⟨Nat.le_of_ble_eq_true rfl, Nat.le_of_ble_eq_true rfl⟩ (Nat.le_of_ble_eq_true rfl) rfl (Nat.zero_le _) (Nat.zero_le _) (c_M_isAsked g W L r i (by omega) (by omega) (fun x hx => Nat.lt_of_lt_of_le (g95 x hx) (by omega))) rfl ?_
          rintro _ _ _ ⟨rfl, rfl, rfl⟩
          refine n_if_eq d_M_challenge_143 168 rfl (by omega) (fun b1 => ?_) (fun b1 => ?_)
          · rw [if_pos b1] at he
            rw [he]
            exact aft
          · rw [if_neg b1] at he
            refine j_iload d_M_challenge_146 8 rfl ?_
            refine n_iconst d_M_challenge_148 1 (by decide) ?_
            refine n_add d_M_challenge_149 ?_
            refine j_iload d_M_challenge_150 6 rfl ?_
            refine n_icmp_ne d_M_challenge_152 159 rfl (by omega) (by omega) (fun b2 => ?_) (fun b2 => ?_)
            · rw [if_pos (by omega)] at he
              refine j_iload d_M_challenge_159 8 rfl ?_
              refine n_iconst d_M_challenge_161 1 (by decide) ?_
              refine n_add d_M_challenge_162 ?_
              refine j_istore d_M_challenge_163 (i := 8) (Nat.le_of_ble_eq_true rfl) (lv' := [_, _, _, _, _, _, _, _, _]) rfl ?_
              refine j_goto d_M_challenge_165 135 rfl ?_
              refine j_lv [1, 2, 3, 4, 5, 6, 7, 8, 0] rfl ?_
              exact ihu (r + 1) (by omega) he
            · rw [if_neg (by omega)] at he
              refine n_iconst d_M_challenge_155 0 (by decide) ?_
              refine j_goto d_M_challenge_156 163 rfl ?_
              refine j_istore d_M_challenge_163 (i := 8) (Nat.le_of_ble_eq_true rfl) (lv' := [_, _, _, _, _, _, _, _, _]) rfl ?_
              refine j_goto d_M_challenge_165 135 rfl ?_
              refine j_lv [1, 2, 3, 4, 5, 6, 7, 8, 0] rfl ?_
              exact ihu 0 (by omega) he
      refine j_iload d_M_challenge_107 7 rfl ?_
      refine j_iload d_M_challenge_109 4 rfl ?_
      refine n_icmp_ge d_M_challenge_111 274 rfl (by omega) (by omega) (fun h => absurd h (by omega)) (fun h => ?_)
      refine j_iload d_M_challenge_114 5 rfl ?_
      refine j_ldc d_M_challenge_116 ct_M_149 ?_
      rw [show (1103515245 : Int32) = nI 1103515245 from by decide]
      refine n_mul d_M_challenge_118 ?_
      refine n_sipush d_M_challenge_119 12345 (by decide) ?_
      refine n_add d_M_challenge_122 ?_
      rw [show nI (sdn s i * 1103515245 + 12345) = nI (stp (sdn s i)) from nI_md (sdn s i * 1103515245 + 12345)]
      refine j_istore d_M_challenge_123 (i := 5) (Nat.le_of_ble_eq_true rfl) (lv' := [_, _, _, _, _, _, _, _]) rfl ?_
      refine j_iload d_M_challenge_125 0 rfl ?_
      refine n_bipush d_M_challenge_127 16 (by decide) ?_
      refine j_iushr d_M_challenge_129 rfl ?_
      rw [us16 (stp_lt _)]
      refine j_iload d_M_challenge_130 6 rfl ?_
      refine n_rem d_M_challenge_132 (by omega) (by omega) (by omega) ?_
      refine j_istore d_M_challenge_133 (i := 8) (Nat.le_of_ble_eq_true rfl) (lv' := [_, _, _, _, _, _, _, _, _]) rfl ?_
      refine j_lv [2, 3, 4, 5, 6, 1, 7, 8, 0] rfl ?_
      exact srch rc _ (Nat.mod_lt _ (by omega)) rfl
  exact loop m 0 (by omega)
theorem n_M_challenge (g : jG) (V : Nat → Nat → Nat) (L : Nat → Nat → Int64) (hN : jN V) (zf zk zs zm : Int32) (h : mhl V zk zf = 0 ∨ zm < nI 1 ∨ ¬ zm ≤ nI (mrs V zf.toNatClampNeg)) : jK g Y_M_challenge (2, 43) [.ref (jb g + 85), .int (zf), .int (zk), .int (zs), .int (zm)] V L (jA0 (some (.int (nI 0))) (vu V 85 0 1) L) := by
  refine jK_entry (by decide +kernel) rfl (Nat.le_of_ble_eq_true rfl) ?_
  show jJ (g, Y_M_challenge, (2, 43), 0, 0, jVQ g (jA0 (some (.int (nI 0))) (vu V 85 0 1) L)) [(0, .ref (jb g + 85)), (1, .int (zf)), (2, .int (zk)), (3, .int (zs)), (4, .int (zm))] (jv (g, Y_M_challenge, (2, 43), 0, 0, jVQ g (jA0 (some (.int (nI 0))) (vu V 85 0 1) L)) V L 0 0) 0 []
  have h3 := hN.F
  refine j_aload_n d_M_challenge_0 rfl 0 rfl ?_
  refine j_aload_n d_M_challenge_1 rfl 0 rfl ?_
  refine j_iload_n d_M_challenge_2 rfl 2 rfl ?_
  refine j_iload_n d_M_challenge_3 rfl 1 rfl ?_
  refine v_callV d_M_challenge_4 mt_M_holds ln_M_132 im_M_holds se_M_holds rfl (Nat.le_of_ble_eq_true rfl) rfl rfl ⟨Nat.le_of_ble_eq_true rfl, Nat.le_of_ble_eq_true rfl⟩ (Nat.le_of_ble_eq_true rfl) rfl (Nat.zero_le _) (Nat.zero_le _) (c_M_holds g V L hN zk zf) rfl ?_
  rintro _ _ _ ⟨rfl, rfl, rfl⟩
  refine n_if_eq d_M_challenge_7 42 rfl (Nat.lt_of_le_of_lt (mhl_le hN _ _) (by decide)) (fun h1 => ?_) (fun h1 => ?_)
  · refine n_iconst d_M_challenge_42 1 (by decide) ?_
    refine v_putI d_M_challenge_43 lf_M_63 rfl (Nat.le_of_ble_eq_true rfl) rfl rfl rfl rfl ?_
    refine j_aload_n d_M_challenge_46 rfl 0 rfl ?_
    refine v_getI d_M_challenge_47 lf_M_63 rfl (Nat.le_of_ble_eq_true rfl) rfl ?_
    rw [vu_eq]
    refine n_iff_le d_M_challenge_50 55 rfl (by decide) (by decide) ?_
    refine n_iconst d_M_challenge_53 0 (by decide) ?_
    exact v_iret d_M_challenge_54 rfl (Nat.zero_le _) (Nat.zero_le _) rfl jA0_rfl
  · obtain ⟨k, f, hk, hf0, rfl, rfl, hd⟩ := mhl_of hN h1
    rw [nI_clamp (by omega)] at h
    refine j_iload d_M_challenge_10 4 rfl ?_
    refine n_iconst d_M_challenge_12 1 (by decide) ?_
    refine j_icmp_lt d_M_challenge_13 42 rfl (fun h2 => ?_) (fun h2 => ?_)
    · refine n_iconst d_M_challenge_42 1 (by decide) ?_
      refine v_putI d_M_challenge_43 lf_M_63 rfl (Nat.le_of_ble_eq_true rfl) rfl rfl rfl rfl ?_
      refine j_aload_n d_M_challenge_46 rfl 0 rfl ?_
      refine v_getI d_M_challenge_47 lf_M_63 rfl (Nat.le_of_ble_eq_true rfl) rfl ?_
      rw [vu_eq]
      refine n_iff_le d_M_challenge_50 55 rfl (by decide) (by decide) ?_
      refine n_iconst d_M_challenge_53 0 (by decide) ?_
      exact v_iret d_M_challenge_54 rfl (Nat.zero_le _) (Nat.zero_le _) rfl jA0_rfl
    · refine j_iload d_M_challenge_16 4 rfl ?_
      refine j_aload_n d_M_challenge_18 rfl 0 rfl ?_
      refine j_aload_n d_M_challenge_19 rfl 0 rfl ?_
      refine j_iload_n d_M_challenge_20 rfl 1 rfl ?_
      refine v_callV d_M_challenge_21 mt_M_isFile ln_M_118 im_M_isFile se_M_isFile rfl (Nat.le_of_ble_eq_true rfl) rfl rfl ⟨Nat.le_of_ble_eq_true rfl, Nat.le_of_ble_eq_true rfl⟩ (Nat.le_of_ble_eq_true rfl) rfl (Nat.zero_le _) (Nat.zero_le _) (c_M_isFile g V L (nI f)) rfl ?_
      rintro _ _ _ ⟨rfl, rfl, rfl⟩
      rw [isn_nI (by omega) hf0]
      refine n_if_eq d_M_challenge_24 31 rfl (by omega) (fun h => absurd h (by omega)) (fun _ => ?_)
      refine j_iload_n d_M_challenge_27 rfl 1 rfl ?_
      refine j_goto d_M_challenge_28 32 rfl ?_
      refine v_callV d_M_challenge_32 mt_M_rowsOf ln_M_99 im_M_rowsOf se_M_rowsOf rfl (Nat.le_of_ble_eq_true rfl) rfl rfl ⟨Nat.le_of_ble_eq_true rfl, Nat.le_of_ble_eq_true rfl⟩ (Nat.le_of_ble_eq_true rfl) rfl (Nat.zero_le _) (Nat.zero_le _) (c_M_rowsOf g V L f (by omega) (hN.w (by omega))) rfl ?_
      rintro _ _ _ ⟨rfl, rfl, rfl⟩
      refine j_icmp_gt d_M_challenge_35 42 rfl (fun h4 => ?_) (fun h4 => ?_)
      · refine n_iconst d_M_challenge_42 1 (by decide) ?_
        refine v_putI d_M_challenge_43 lf_M_63 rfl (Nat.le_of_ble_eq_true rfl) rfl rfl rfl rfl ?_
        refine j_aload_n d_M_challenge_46 rfl 0 rfl ?_
        refine v_getI d_M_challenge_47 lf_M_63 rfl (Nat.le_of_ble_eq_true rfl) rfl ?_
        rw [vu_eq]
        refine n_iff_le d_M_challenge_50 55 rfl (by decide) (by decide) ?_
        refine n_iconst d_M_challenge_53 0 (by decide) ?_
        exact v_iret d_M_challenge_54 rfl (Nat.zero_le _) (Nat.zero_le _) rfl jA0_rfl
      · exact (h.elim h1 (fun e => e.elim h2 (fun e => e (Int32.not_lt.mp h4)))).elim
