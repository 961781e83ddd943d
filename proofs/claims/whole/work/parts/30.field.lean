/-! AuditDesk.Field and the plain rows -/
def jPr : Nat := 2147483647
theorem c_F_has (g : jG) (I : Nat → Nat → Int32) (L : Nat → Nat → Int64) (v : Int32) : jC g Y_F_has (0, 0) [.int v] I L (jR (some (.int (if 0 ≤ v ∧ v < 2147483647 then 1 else 0))) I L) := by
  refine j_entry (by decide +kernel) rfl (Nat.le_of_ble_eq_true rfl) ?_
  show jJ _ [(0, .int v)] (jw (g, Y_F_has, (0, 0), 0, 0, jCQ g (jR (some (.int (if 0 ≤ v ∧ v < 2147483647 then 1 else 0))) I L)) I L 0 0) 0 []
  refine j_iload_n d_F_has_0 rfl 0 rfl ?_
  refine j_if_lt d_F_has_1 14 rfl (fun h => ?_) (fun h => ?_)
  · rw [if_neg (fun q => absurd h (Int32.not_lt.mpr q.1))]
    refine n_iconst d_F_has_14 0 (by decide) ?_
    exact m_zret d_F_has_15 rfl rfl (Nat.zero_le _) (Nat.zero_le _) rfl jR_rfl
  · refine j_iload_n d_F_has_4 rfl 0 rfl ?_
    refine j_ldc d_F_has_5 ct_F_9 ?_
    refine j_icmp_ge d_F_has_7 14 rfl (fun h2 => ?_) (fun h2 => ?_)
    · rw [if_neg (fun q => absurd q.2 (Int32.not_lt.mpr h2))]
      refine n_iconst d_F_has_14 0 (by decide) ?_
      exact m_zret d_F_has_15 rfl rfl (Nat.zero_le _) (Nat.zero_le _) rfl jR_rfl
    · rw [if_pos ⟨Int32.not_lt.mp h, Int32.not_le.mp h2⟩]
      refine n_iconst d_F_has_10 1 (by decide) ?_
      refine j_goto d_F_has_11 15 rfl ?_
      exact m_zret d_F_has_15 rfl rfl (Nat.zero_le _) (Nat.zero_le _) rfl jR_rfl
theorem c_F_plus (g : jG) (I : Nat → Nat → Int32) (L : Nat → Nat → Int64) (a b : Nat) (ha : a < 2147483648) (hb : b < 2147483648) : jC g Y_F_plus (0, 0) [.int (nI a), .int (nI b)] I L (jR (some (.int (nI ((a + b) % 2147483647)))) I L) := by
  refine j_entry (by decide +kernel) rfl (Nat.le_of_ble_eq_true rfl) ?_
  show jJ _ [(0, .int (nI a)), (1, .int (nI b))] (jw (g, Y_F_plus, (0, 0), 0, 0, jCQ g (jR (some (.int (nI ((a + b) % 2147483647)))) I L)) I L 0 0) 0 []
  refine j_iload_n d_F_plus_0 rfl 0 rfl ?_
  refine n_i2l d_F_plus_1 (by omega) ?_
  refine j_iload_n d_F_plus_2 rfl 1 rfl ?_
  refine n_i2l d_F_plus_3 (by omega) ?_
  refine n_ladd d_F_plus_4 ?_
  refine j_ldc2 d_F_plus_5 ct_F_10 ?_
  rw [show (2147483647 : Int64) = lN 2147483647 from by decide]
  refine n_lrem d_F_plus_8 (by omega) (by omega) (by omega) ?_
  refine n_l2i d_F_plus_9 ?_
  exact m_iret d_F_plus_10 rfl (Nat.zero_le _) (Nat.zero_le _) rfl jR_rfl
theorem c_F_times (g : jG) (I : Nat → Nat → Int32) (L : Nat → Nat → Int64) (a b : Nat) (ha : a < 2147483648) (hb : b < 2147483648) : jC g Y_F_times (0, 0) [.int (nI a), .int (nI b)] I L (jR (some (.int (nI (a * b % 2147483647)))) I L) := by
  refine j_entry (by decide +kernel) rfl (Nat.le_of_ble_eq_true rfl) ?_
  show jJ _ [(0, .int (nI a)), (1, .int (nI b))] (jw (g, Y_F_times, (0, 0), 0, 0, jCQ g (jR (some (.int (nI (a * b % 2147483647)))) I L)) I L 0 0) 0 []
  have hab : a * b < 2 ^ 63 := Nat.lt_of_le_of_lt (Nat.mul_le_mul (Nat.le_of_lt ha) (Nat.le_of_lt hb)) (by decide)
  refine j_iload_n d_F_times_0 rfl 0 rfl ?_
  refine n_i2l d_F_times_1 (by omega) ?_
  refine j_iload_n d_F_times_2 rfl 1 rfl ?_
  refine n_i2l d_F_times_3 (by omega) ?_
  refine n_lmul d_F_times_4 ?_
  refine j_ldc2 d_F_times_5 ct_F_10 ?_
  rw [show (2147483647 : Int64) = lN 2147483647 from by decide]
  refine n_lrem d_F_times_8 hab (by omega) (by omega) ?_
  refine n_l2i d_F_times_9 ?_
  exact m_iret d_F_times_10 rfl (Nat.zero_le _) (Nat.zero_le _) rfl jR_rfl
theorem c_R_rowOfWord (g : jG) (I : Nat → Nat → Int32) (L : Nat → Nat → Int64) (i : Nat) (hi : i < 64) : jC g Y_R_rowOfWord (0, 0) [.int (nI i)] I L (jR (some (.int (nI (i / 16 * 6 + i % 16 / 4)))) I L) := by
  refine j_entry (by decide +kernel) rfl (Nat.le_of_ble_eq_true rfl) ?_
  show jJ _ [(0, .int (nI i))] (jw (g, Y_R_rowOfWord, (0, 0), 0, 0, jCQ g (jR (some (.int (nI (i / 16 * 6 + i % 16 / 4)))) I L)) I L 0 0) 0 []
  refine j_iload_n d_R_rowOfWord_0 rfl 0 rfl ?_
  refine n_bipush d_R_rowOfWord_1 16 (by decide) ?_
  refine n_div d_R_rowOfWord_3 (by omega) (by omega) (by omega) ?_
  refine n_bipush d_R_rowOfWord_4 6 (by decide) ?_
  refine n_mul d_R_rowOfWord_6 ?_
  refine j_iload_n d_R_rowOfWord_7 rfl 0 rfl ?_
  refine n_bipush d_R_rowOfWord_8 16 (by decide) ?_
  refine n_rem d_R_rowOfWord_10 (by omega) (by omega) (by omega) ?_
  refine n_iconst d_R_rowOfWord_11 4 (by decide) ?_
  refine n_div d_R_rowOfWord_12 (by omega) (by omega) (by omega) ?_
  refine n_add d_R_rowOfWord_13 ?_
  exact m_iret d_R_rowOfWord_14 rfl (Nat.zero_le _) (Nat.zero_le _) rfl jR_rfl
theorem c_R_get (g : jG) (I : Nat → Nat → Int32) (L : Nat → Nat → Int64) (r : Nat) (hr : jshp r = jo 5 [(r + 1) + 2]) (hn : jshp (r + 1) = .inl (0, 120)) (hlt : r + 1 < 104) (row j : Nat) (hrow : row < 24) (hj : j < 5) : jC g Y_R_get (0, 0) [.ref (jb g + r), .int (nI row), .int (nI j)] I L (jR (some (.int (I (r + 1) (row * 5 + j)))) I L) := by
  refine j_entry (by decide +kernel) rfl (Nat.le_of_ble_eq_true rfl) ?_
  show jJ _ [(0, .ref (jb g + r)), (1, .int (nI row)), (2, .int (nI j))] (jw (g, Y_R_get, (0, 0), 0, 0, jCQ g (jR (some (.int (I (r + 1) (row * 5 + j)))) I L)) I L 0 0) 0 []
  refine j_aload_n d_R_get_0 rfl 0 rfl ?_
  refine m_getR d_R_get_1 lf_R_9 hr (Nat.lt_of_succ_lt hlt) rfl ?_
  refine j_iload_n d_R_get_4 rfl 1 rfl ?_
  refine n_iconst d_R_get_5 5 (by decide) ?_
  refine n_mul d_R_get_6 ?_
  refine j_iload_n d_R_get_7 rfl 2 rfl ?_
  refine n_add d_R_get_8 ?_
  refine m_ild d_R_get_9 hn rfl hlt rfl (by omega) (by omega) ?_
  exact m_iret d_R_get_10 rfl (Nat.zero_le _) (Nat.zero_le _) rfl jR_rfl
theorem c_R_set (g : jG) (I : Nat → Nat → Int32) (L : Nat → Nat → Int64) (r : Nat) (hr : jshp r = jo 5 [(r + 1) + 2]) (hn : jshp (r + 1) = .inl (0, 120)) (hlt : r + 1 < 104) (row j : Nat) (hrow : row < 24) (hj : j < 5) (v : Int32) : jC g Y_R_set (0, 0) [.ref (jb g + r), .int (nI row), .int (nI j), .int v] I L (jR none (jup I (r + 1) (row * 5 + j) v) L) := by
  refine j_entry (by decide +kernel) rfl (Nat.le_of_ble_eq_true rfl) ?_
  show jJ _ [(0, .ref (jb g + r)), (1, .int (nI row)), (2, .int (nI j)), (3, .int v)] (jw (g, Y_R_set, (0, 0), 0, 0, jCQ g (jR none (jup I (r + 1) (row * 5 + j) v) L)) I L 0 0) 0 []
  refine j_aload_n d_R_set_0 rfl 0 rfl ?_
  refine m_getR d_R_set_1 lf_R_9 hr (Nat.lt_of_succ_lt hlt) rfl ?_
  refine j_iload_n d_R_set_4 rfl 1 rfl ?_
  refine n_iconst d_R_set_5 5 (by decide) ?_
  refine n_mul d_R_set_6 ?_
  refine j_iload_n d_R_set_7 rfl 2 rfl ?_
  refine n_add d_R_set_8 ?_
  refine j_iload_n d_R_set_9 rfl 3 rfl ?_
  refine m_ist d_R_set_10 hn rfl hlt rfl (by omega) (by omega) ?_
  exact m_vret d_R_set_11 rfl (Nat.zero_le _) (Nat.zero_le _) rfl jR_rfl
