/-! AuditDesk.Field and the plain rows -/
def jPr : Nat := 2147483647
theorem c_F_has (g : jG) (V : Nat → Nat → Nat) (L : Nat → Nat → Int64) (v : Int32) : jK g Y_F_has (0, 0) [.int v] V L (jA0 (some (.int (nI (if 0 ≤ v ∧ v < 2147483647 then 1 else 0)))) V L) := by
  refine jK_entry (by decide +kernel) rfl (Nat.le_of_ble_eq_true rfl) ?_
  show jJ (g, Y_F_has, (0, 0), 0, 0, jVQ g (jA0 (some (.int (nI (if 0 ≤ v ∧ v < 2147483647 then 1 else 0)))) V L)) [(0, .int v)] (jv (g, Y_F_has, (0, 0), 0, 0, jVQ g (jA0 (some (.int (nI (if 0 ≤ v ∧ v < 2147483647 then 1 else 0)))) V L)) V L 0 0) 0 []
  refine j_iload_n d_F_has_0 rfl 0 rfl ?_
  refine j_if_lt d_F_has_1 14 rfl (fun h => ?_) (fun h => ?_)
  · rw [if_neg (fun q => absurd h (Int32.not_lt.mpr q.1))]
    refine n_iconst d_F_has_14 0 (by decide) ?_
    exact v_zret d_F_has_15 rfl (by omega) (Nat.zero_le _) (Nat.zero_le _) rfl jA0_rfl
  · refine j_iload_n d_F_has_4 rfl 0 rfl ?_
    refine j_ldc d_F_has_5 ct_F_9 ?_
    refine j_icmp_ge d_F_has_7 14 rfl (fun h2 => ?_) (fun h2 => ?_)
    · rw [if_neg (fun q => absurd q.2 (Int32.not_lt.mpr h2))]
      refine n_iconst d_F_has_14 0 (by decide) ?_
      exact v_zret d_F_has_15 rfl (by omega) (Nat.zero_le _) (Nat.zero_le _) rfl jA0_rfl
    · rw [if_pos ⟨Int32.not_lt.mp h, Int32.not_le.mp h2⟩]
      refine n_iconst d_F_has_10 1 (by decide) ?_
      refine j_goto d_F_has_11 15 rfl ?_
      exact v_zret d_F_has_15 rfl (by omega) (Nat.zero_le _) (Nat.zero_le _) rfl jA0_rfl
theorem c_F_plus (g : jG) (V : Nat → Nat → Nat) (L : Nat → Nat → Int64) (a b : Nat) (ha : a < 2147483648) (hb : b < 2147483648) : jK g Y_F_plus (0, 0) [.int (nI a), .int (nI b)] V L (jA0 (some (.int (nI ((a + b) % 2147483647)))) V L) := by
  refine jK_entry (by decide +kernel) rfl (Nat.le_of_ble_eq_true rfl) ?_
  show jJ (g, Y_F_plus, (0, 0), 0, 0, jVQ g (jA0 (some (.int (nI ((a + b) % 2147483647)))) V L)) [(0, .int (nI a)), (1, .int (nI b))] (jv (g, Y_F_plus, (0, 0), 0, 0, jVQ g (jA0 (some (.int (nI ((a + b) % 2147483647)))) V L)) V L 0 0) 0 []
  refine j_iload_n d_F_plus_0 rfl 0 rfl ?_
  refine n_i2l d_F_plus_1 (by omega) ?_
  refine j_iload_n d_F_plus_2 rfl 1 rfl ?_
  refine n_i2l d_F_plus_3 (by omega) ?_
  refine n_ladd d_F_plus_4 ?_
  refine j_ldc2 d_F_plus_5 ct_F_10 ?_
  rw [show (2147483647 : Int64) = lN 2147483647 from by decide]
  refine n_lrem d_F_plus_8 (by omega) (by omega) (by omega) ?_
  refine n_l2i d_F_plus_9 ?_
  exact v_iret d_F_plus_10 rfl (Nat.zero_le _) (Nat.zero_le _) rfl jA0_rfl
theorem c_F_times (g : jG) (V : Nat → Nat → Nat) (L : Nat → Nat → Int64) (a b : Nat) (ha : a < 2147483648) (hb : b < 2147483648) : jK g Y_F_times (0, 0) [.int (nI a), .int (nI b)] V L (jA0 (some (.int (nI (a * b % 2147483647)))) V L) := by
  refine jK_entry (by decide +kernel) rfl (Nat.le_of_ble_eq_true rfl) ?_
  show jJ (g, Y_F_times, (0, 0), 0, 0, jVQ g (jA0 (some (.int (nI (a * b % 2147483647)))) V L)) [(0, .int (nI a)), (1, .int (nI b))] (jv (g, Y_F_times, (0, 0), 0, 0, jVQ g (jA0 (some (.int (nI (a * b % 2147483647)))) V L)) V L 0 0) 0 []
  have hab : a * b < 2 ^ 63 := Nat.lt_of_le_of_lt (Nat.mul_le_mul (Nat.le_of_lt ha) (Nat.le_of_lt hb)) (by decide)
  refine j_iload_n d_F_times_0 rfl 0 rfl ?_
  refine n_i2l d_F_times_1 (by omega) ?_
  refine j_iload_n d_F_times_2 rfl 1 rfl ?_
  refine n_i2l d_F_times_3 (by omega) ?_
  refine n_lmul d_F_times_4 ?_
  refine j_ldc2 d_F_times_5 ct_F_10 ?_
  rw [show (2147483647 : Int64) = lN 2147483647 from by decide]
  refine n_lrem d_F_times_8 hab (by omega) (by omega) ?_
  refine n_l2i d_F_times_9 ?_
  exact v_iret d_F_times_10 rfl (Nat.zero_le _) (Nat.zero_le _) rfl jA0_rfl
theorem c_R_rowOfWord (g : jG) (V : Nat → Nat → Nat) (L : Nat → Nat → Int64) (i : Nat) (hi : i < 64) : jK g Y_R_rowOfWord (0, 0) [.int (nI i)] V L (jA0 (some (.int (nI (i / 16 * 6 + i % 16 / 4)))) V L) := by
  refine jK_entry (by decide +kernel) rfl (Nat.le_of_ble_eq_true rfl) ?_
  show jJ (g, Y_R_rowOfWord, (0, 0), 0, 0, jVQ g (jA0 (some (.int (nI (i / 16 * 6 + i % 16 / 4)))) V L)) [(0, .int (nI i))] (jv (g, Y_R_rowOfWord, (0, 0), 0, 0, jVQ g (jA0 (some (.int (nI (i / 16 * 6 + i % 16 / 4)))) V L)) V L 0 0) 0 []
  refine j_iload_n d_R_rowOfWord_0 rfl 0 rfl ?_
  refine n_bipush d_R_rowOfWord_1 16 (by decide) ?_
  refine n_div d_R_rowOfWord_3 (by omega) (by omega) (by omega) ?_
  refine n_bipush d_R_rowOfWord_4 6 (by decide) ?_
  refine n_mul d_R_rowOfWord_6 ?_
  refine j_iload_n d_R_rowOfWord_7 rfl 0 rfl ?_
  refine n_bipush d_R_rowOfWord_8 16 (by decide) ?_
  refine n_rem d_R_rowOfWord_10 (by omega) (by omega) (by omega) ?_
  refine n_iconst d_R_rowOfWord_11 4 (by decide) ?_
  refine n_div d_R_rowOfWord_12 (by omega) (by omega) (by omega) ?_
  refine n_add d_R_rowOfWord_13 ?_
  exact v_iret d_R_rowOfWord_14 rfl (Nat.zero_le _) (Nat.zero_le _) rfl jA0_rfl
theorem c_R_get (g : jG) (V : Nat → Nat → Nat) (L : Nat → Nat → Int64) (r : Nat) (hr : jshp r = jo 5 [(r + 1) + 2]) (hn : jshp (r + 1) = .inl (0, 120)) (hlt : r + 1 < 104) (row j : Nat) (hrow : row < 24) (hj : j < 5) : jK g Y_R_get (0, 0) [.ref (jb g + r), .int (nI row), .int (nI j)] V L (jA0 (some (.int (nI (V (r + 1) (row * 5 + j))))) V L) := by
  refine jK_entry (by decide +kernel) rfl (Nat.le_of_ble_eq_true rfl) ?_
  show jJ (g, Y_R_get, (0, 0), 0, 0, jVQ g (jA0 (some (.int (nI (V (r + 1) (row * 5 + j))))) V L)) [(0, .ref (jb g + r)), (1, .int (nI row)), (2, .int (nI j))] (jv (g, Y_R_get, (0, 0), 0, 0, jVQ g (jA0 (some (.int (nI (V (r + 1) (row * 5 + j))))) V L)) V L 0 0) 0 []
  refine j_aload_n d_R_get_0 rfl 0 rfl ?_
  refine v_getR d_R_get_1 lf_R_9 hr (Nat.lt_of_succ_lt hlt) rfl ?_
  refine j_iload_n d_R_get_4 rfl 1 rfl ?_
  refine n_iconst d_R_get_5 5 (by decide) ?_
  refine n_mul d_R_get_6 ?_
  refine j_iload_n d_R_get_7 rfl 2 rfl ?_
  refine n_add d_R_get_8 ?_
  refine v_ild d_R_get_9 hn rfl hlt rfl (by omega) (by omega) ?_
  exact v_iret d_R_get_10 rfl (Nat.zero_le _) (Nat.zero_le _) rfl jA0_rfl
theorem c_R_set (g : jG) (V : Nat → Nat → Nat) (L : Nat → Nat → Int64) (r : Nat) (hr : jshp r = jo 5 [(r + 1) + 2]) (hn : jshp (r + 1) = .inl (0, 120)) (hlt : r + 1 < 104) (row j : Nat) (hrow : row < 24) (hj : j < 5) (v : Nat) : jK g Y_R_set (0, 0) [.ref (jb g + r), .int (nI row), .int (nI j), .int (nI v)] V L (jA0 none (vu V (r + 1) (row * 5 + j) v) L) := by
  refine jK_entry (by decide +kernel) rfl (Nat.le_of_ble_eq_true rfl) ?_
  show jJ (g, Y_R_set, (0, 0), 0, 0, jVQ g (jA0 none (vu V (r + 1) (row * 5 + j) v) L)) [(0, .ref (jb g + r)), (1, .int (nI row)), (2, .int (nI j)), (3, .int (nI v))] (jv (g, Y_R_set, (0, 0), 0, 0, jVQ g (jA0 none (vu V (r + 1) (row * 5 + j) v) L)) V L 0 0) 0 []
  refine j_aload_n d_R_set_0 rfl 0 rfl ?_
  refine v_getR d_R_set_1 lf_R_9 hr (Nat.lt_of_succ_lt hlt) rfl ?_
  refine j_iload_n d_R_set_4 rfl 1 rfl ?_
  refine n_iconst d_R_set_5 5 (by decide) ?_
  refine n_mul d_R_set_6 ?_
  refine j_iload_n d_R_set_7 rfl 2 rfl ?_
  refine n_add d_R_set_8 ?_
  refine j_iload_n d_R_set_9 rfl 3 rfl ?_
  refine v_ist d_R_set_10 hn rfl hlt rfl (by omega) (by omega) ?_
  exact v_vret d_R_set_11 rfl (Nat.zero_le _) (Nat.zero_le _) rfl jA0_rfl
theorem c_F_minus (g : jG) (V : Nat → Nat → Nat) (L : Nat → Nat → Int64) (a b : Nat) (ha : a < 2147483647) (hb : b < 2147483647) : jK g Y_F_minus (0, 0) [.int (nI a), .int (nI b)] V L (jA0 (some (.int (nI ((a + 2147483647 - b) % 2147483647)))) V L) := by
  refine jK_entry (by decide +kernel) rfl (Nat.le_of_ble_eq_true rfl) ?_
  show jJ (g, Y_F_minus, (0, 0), 0, 0, jVQ g (jA0 (some (.int (nI ((a + 2147483647 - b) % 2147483647)))) V L)) [(0, .int (nI a)), (1, .int (nI b))] (jv (g, Y_F_minus, (0, 0), 0, 0, jVQ g (jA0 (some (.int (nI ((a + 2147483647 - b) % 2147483647)))) V L)) V L 0 0) 0 []
  refine j_iload_n d_F_minus_0 rfl 0 rfl ?_
  refine n_i2l d_F_minus_1 (by omega) ?_
  refine j_iload_n d_F_minus_2 rfl 1 rfl ?_
  refine n_i2l d_F_minus_3 (by omega) ?_
  refine j_lsub d_F_minus_4 ?_
  refine j_ldc2 d_F_minus_5 ct_F_10 ?_
  rw [show (2147483647 : Int64) = lN 2147483647 from by decide]
  refine j_ladd d_F_minus_8 ?_
  rw [show lN a - lN b + lN 2147483647 = lN (a + 2147483647 - b) from by rw [← lN_sub (show b ≤ a + 2147483647 by omega), ← lN_add, Int64.sub_eq_add_neg, Int64.sub_eq_add_neg, Int64.add_assoc, Int64.add_comm (-lN b), ← Int64.add_assoc]]
  refine j_ldc2 d_F_minus_9 ct_F_10 ?_
  rw [show (2147483647 : Int64) = lN 2147483647 from by decide]
  refine n_lrem d_F_minus_12 (by omega) (by omega) (by omega) ?_
  refine n_l2i d_F_minus_13 ?_
  exact v_iret d_F_minus_14 rfl (Nat.zero_le _) (Nat.zero_le _) rfl jA0_rfl
theorem c_R_takeRow (g : jG) (V : Nat → Nat → Nat) (L : Nat → Nat → Int64) (r : Nat) (hr : jshp r = jo 5 [(r + 1) + 2]) (hn : jshp (r + 1) = .inl (0, 120)) (hlt : r + 1 < 104) (r2 : Nat) (hr2 : jshp r2 = jo 5 [(r2 + 1) + 2]) (hn2 : jshp (r2 + 1) = .inl (0, 120)) (hlt2 : r2 + 1 < 104) (row : Nat) (hrow : row < 24) : jK g Y_R_takeRow (1, 48) [.ref (jb g + r), .ref (jb g + r2), .int (nI row)] V L (jA0 none (fun a i => if a = r + 1 ∧ row * 5 ≤ i ∧ i < row * 5 + 5 then V (r2 + 1) i else V a i) L) := by
  refine jK_entry (by decide +kernel) rfl (Nat.le_of_ble_eq_true rfl) ?_
  show jJ (g, Y_R_takeRow, (1, 48), 0, 0, jVQ g (jA0 none (fun a i => if a = r + 1 ∧ row * 5 ≤ i ∧ i < row * 5 + 5 then V (r2 + 1) i else V a i) L)) [(0, .ref (jb g + r)), (1, .ref (jb g + r2)), (2, .int (nI row))] (jv (g, Y_R_takeRow, (1, 48), 0, 0, jVQ g (jA0 none (fun a i => if a = r + 1 ∧ row * 5 ≤ i ∧ i < row * 5 + 5 then V (r2 + 1) i else V a i) L)) V L 0 0) 0 []
  refine j_aload_n d_R_takeRow_0 rfl 1 rfl ?_
  refine v_getR d_R_takeRow_1 lf_R_9 hr2 (Nat.lt_of_succ_lt hlt2) rfl ?_
  refine j_iload_n d_R_takeRow_4 rfl 2 rfl ?_
  refine n_iconst d_R_takeRow_5 5 (by decide) ?_
  refine n_mul d_R_takeRow_6 ?_
  refine j_aload_n d_R_takeRow_7 rfl 0 rfl ?_
  refine v_getR d_R_takeRow_8 lf_R_9 hr (Nat.lt_of_succ_lt hlt) rfl ?_
  refine j_iload_n d_R_takeRow_11 rfl 2 rfl ?_
  refine n_iconst d_R_takeRow_12 5 (by decide) ?_
  refine n_mul d_R_takeRow_13 ?_
  refine n_iconst d_R_takeRow_14 5 (by decide) ?_
  refine v_copy d_R_takeRow_15 lcp_R_15 nt_acp sm_acp iz_Sys hn2 hlt2 hn hlt rfl rfl rfl (by omega) (by omega) (by omega) (by omega) ⟨Nat.le_of_ble_eq_true rfl, Nat.le_of_ble_eq_true rfl⟩ (Nat.le_of_ble_eq_true rfl) ?_
  rw [show (fun a i => if a = r + 1 ∧ row * 5 ≤ i ∧ i < row * 5 + 5 then V (r2 + 1) (row * 5 + (i - row * 5)) else V a i) = (fun a i => if a = r + 1 ∧ row * 5 ≤ i ∧ i < row * 5 + 5 then V (r2 + 1) i else V a i) from by
    funext a i
    by_cases h : a = r + 1 ∧ row * 5 ≤ i ∧ i < row * 5 + 5
    · rw [if_pos h, if_pos h, show row * 5 + (i - row * 5) = i by omega]
    · rw [if_neg h, if_neg h]]
  exact v_vret d_R_takeRow_18 rfl (Nat.zero_le _) (Nat.zero_le _) rfl jA0_rfl
theorem c_R_clearRow (g : jG) (V : Nat → Nat → Nat) (L : Nat → Nat → Int64) (r : Nat) (hr : jshp r = jo 5 [(r + 1) + 2]) (hn : jshp (r + 1) = .inl (0, 120)) (hlt : r + 1 < 104) (row : Nat) (hrow : row < 24) : jK g Y_R_clearRow (1, 23) [.ref (jb g + r), .int (nI row)] V L (jA0 none (fun a i => if a = r + 1 ∧ row * 5 ≤ i ∧ i < row * 5 + 5 then 0 else V a i) L) := by
  refine jK_entry (by decide +kernel) rfl (Nat.le_of_ble_eq_true rfl) ?_
  show jJ (g, Y_R_clearRow, (1, 23), 0, 0, jVQ g (jA0 none (fun a i => if a = r + 1 ∧ row * 5 ≤ i ∧ i < row * 5 + 5 then 0 else V a i) L)) [(0, .ref (jb g + r)), (1, .int (nI row))] (jv (g, Y_R_clearRow, (1, 23), 0, 0, jVQ g (jA0 none (fun a i => if a = r + 1 ∧ row * 5 ≤ i ∧ i < row * 5 + 5 then 0 else V a i) L)) V L 0 0) 0 []
  refine n_iconst d_R_clearRow_0 0 (by decide) ?_
  refine j_istore_n d_R_clearRow_1 (i := 2) rfl (Nat.le_of_ble_eq_true rfl) (lv' := [_, _, _]) rfl ?_
  refine j_lv [1, 2, 0] rfl ?_
  generalize hφ : jA0 none (fun a i => if a = r + 1 ∧ row * 5 ≤ i ∧ i < row * 5 + 5 then 0 else V a i) L = φ
  have loop : ∀ (m j : Nat), j + m = 5 → jJ (g, Y_R_clearRow, (1, 23), 0, 0, jVQ g φ) [(0, .ref (jb g + r)), (1, .int (nI row)), (2, .int (nI j))] (jv (g, Y_R_clearRow, (1, 23), 0, 0, jVQ g φ) (fun a i => if a = r + 1 ∧ row * 5 ≤ i ∧ i < row * 5 + j then 0 else V a i) L 0 0) 2 [] := by
    intro m
    induction m with
    | zero =>
      intro j hj
      obtain rfl : j = 5 := by omega
      refine j_iload_n d_R_clearRow_2 rfl 2 rfl ?_
      refine n_iconst d_R_clearRow_3 5 (by decide) ?_
      refine n_icmp_ge d_R_clearRow_4 20 rfl (by omega) (by omega) (fun h => ?_) (fun h => ?_)
      · subst hφ
        exact v_vret d_R_clearRow_20 rfl (Nat.zero_le _) (Nat.zero_le _) rfl jA0_rfl
      · exact absurd h (by omega)
    | succ m ih =>
      intro j hj
      refine j_iload_n d_R_clearRow_2 rfl 2 rfl ?_
      refine n_iconst d_R_clearRow_3 5 (by decide) ?_
      refine n_icmp_ge d_R_clearRow_4 20 rfl (by omega) (by omega) (fun h => ?_) (fun h => ?_)
      · exact absurd h (by omega)
      · refine j_aload_n d_R_clearRow_7 rfl 0 rfl ?_
        refine j_iload_n d_R_clearRow_8 rfl 1 rfl ?_
        refine j_iload_n d_R_clearRow_9 rfl 2 rfl ?_
        refine n_iconst d_R_clearRow_10 0 (by decide) ?_
        refine v_callV d_R_clearRow_11 mt_R_set ln_R_21 im_R_set se_R_set hr (Nat.lt_of_succ_lt hlt) rfl rfl ⟨Nat.le_of_ble_eq_true rfl, Nat.le_of_ble_eq_true rfl⟩ (Nat.le_of_ble_eq_true rfl) rfl (Nat.zero_le _) (Nat.zero_le _) (c_R_set g _ L r hr hn hlt row j hrow (by omega) 0) rfl ?_
        rintro _ _ _ ⟨rfl, rfl, rfl⟩
        refine n_iinc d_R_clearRow_14 1 (by decide) 2 rfl (Nat.le_of_ble_eq_true rfl) (lv' := [_, _, _]) rfl ?_
        refine j_goto d_R_clearRow_17 2 rfl ?_
        refine j_lv [1, 2, 0] rfl ?_
        rw [show vu (fun a i => if a = r + 1 ∧ row * 5 ≤ i ∧ i < row * 5 + j then 0 else V a i) (r + 1) (row * 5 + j) 0 = (fun a i => if a = r + 1 ∧ row * 5 ≤ i ∧ i < row * 5 + (j + 1) then 0 else V a i) from by
          funext a i
          simp only [vu]
          by_cases h1 : a = r + 1 ∧ i = row * 5 + j
          · rw [if_pos h1, if_pos (by omega)]
          · rw [if_neg h1]
            by_cases h2 : a = r + 1 ∧ row * 5 ≤ i ∧ i < row * 5 + j
            · rw [if_pos h2, if_pos (by omega)]
            · rw [if_neg h2, if_neg (by omega)]]
        exact ih (j + 1) (by omega)
  have h0 := loop 5 0 (by omega)
  rw [show (fun a i => if a = r + 1 ∧ row * 5 ≤ i ∧ i < row * 5 + 0 then 0 else V a i) = V from by
    funext a i
    rw [if_neg (by omega)]] at h0
  exact h0
