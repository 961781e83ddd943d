/-! AuditDesk.Rows: the coded words and their rests; loops of four and five are laid out -/
def jinvN (j : Nat) : Nat := match j with
  | 0 => 0
  | 1 => 1
  | 2 => 1073741824
  | 3 => 1431655765
  | 4 => 536870912
  | _ => 858993459
theorem jinv_N (j : Nat) : jinv j = nI (jinvN j) := by
  match j with
  | 0 => decide
  | 1 => decide
  | 2 => decide
  | 3 => decide
  | 4 => decide
  | n + 5 =>
    show (858993459 : Int32) = nI 858993459
    decide
theorem jinvN_lt (j : Nat) : jinvN j < 2147483647 := by
  unfold jinvN
  split <;> omega
theorem v_inv {f : jF} {lv : List (Nat × Value)} {w : jS} {pc : Nat} {st : List Value} {i : Nat} {z : Int32} (hd : decode (jyc f.2.1) pc = .ok (.iaload, 1)) (hz' : z = nI i) (hi : i < 6) (kk : jJ f lv w (pc + 1) (.int (nI (jinvN i)) :: st)) : jJ f lv w pc (.int z :: .ref (jaI f.1) :: st) :=
  j_inv hd hz' hi (by rw [jinv_N]; exact kk)
def fpl (a b : Nat) : Nat := (a + b) % 2147483647
def fti (a b : Nat) : Nat := a * b % 2147483647
def fmi (a b : Nat) : Nat := (a + 2147483647 - b) % 2147483647
theorem fpl_lt (a b : Nat) : fpl a b < 2147483647 := Nat.mod_lt _ (by omega)
theorem fti_lt (a b : Nat) : fti a b < 2147483647 := Nat.mod_lt _ (by omega)
theorem fmi_lt (a b : Nat) : fmi a b < 2147483647 := Nat.mod_lt _ (by omega)
/-- the coded word c of four words -/
def cwd (x : Nat → Nat) (c : Nat) : Nat := fpl (fpl (fpl (fpl 0 (fti (x 0) (jinvN (4 + c - 0)))) (fti (x 1) (jinvN (4 + c - 1)))) (fti (x 2) (jinvN (4 + c - 2)))) (fti (x 3) (jinvN (4 + c - 3)))
theorem cwd_eq {x y : Nat → Nat} (c : Nat) (h : ∀ q, q < 4 → x q = y q) : cwd x c = cwd y c := by
  unfold cwd
  rw [h 0 (by omega), h 1 (by omega), h 2 (by omega), h 3 (by omega)]
theorem cwd_lt (x : Nat → Nat) (c : Nat) : cwd x c < 2147483647 := fpl_lt _ _
theorem c_F_pl (g : jG) (V : Nat → Nat → Nat) (L : Nat → Nat → Int64) (a b : Nat) (ha : a < 2147483648) (hb : b < 2147483648) : jK g Y_F_plus (0, 0) [.int (nI a), .int (nI b)] V L (jA0 (some (.int (nI (fpl a b)))) V L) := c_F_plus g V L a b ha hb
theorem c_F_ti (g : jG) (V : Nat → Nat → Nat) (L : Nat → Nat → Int64) (a b : Nat) (ha : a < 2147483648) (hb : b < 2147483648) : jK g Y_F_times (0, 0) [.int (nI a), .int (nI b)] V L (jA0 (some (.int (nI (fti a b)))) V L) := c_F_times g V L a b ha hb
theorem c_F_mi (g : jG) (V : Nat → Nat → Nat) (L : Nat → Nat → Int64) (a b : Nat) (ha : a < 2147483647) (hb : b < 2147483647) : jK g Y_F_minus (0, 0) [.int (nI a), .int (nI b)] V L (jA0 (some (.int (nI (fmi a b)))) V L) := c_F_minus g V L a b ha hb
theorem c_R_codedWord (g : jG) (V : Nat → Nat → Nat) (L : Nat → Nat → Int64) (r : Nat) (hr : jshp r = jo 5 [(r + 1) + 2]) (hn : jshp (r + 1) = .inl (0, 120)) (hlt : r + 1 < 104) (first c j : Nat) (hf : first + 6 ≤ 24) (hc : c < 2) (hj : j < 4) (hV : ∀ i, i < 120 → V (r + 1) i < 2147483647) : jK g Y_R_codedWord (1, 22) [.ref (jb g + r), .int (nI first), .int (nI c), .int (nI j)] V L (jA0 (some (.int (nI (cwd (fun q => V (r + 1) ((first + q) * 5 + j)) c)))) V L) := by
  refine jK_entry (by decide +kernel) rfl (Nat.le_of_ble_eq_true rfl) ?_
  show jJ (g, Y_R_codedWord, (1, 22), 0, 0, jVQ g (jA0 (some (.int (nI (cwd (fun q => V (r + 1) ((first + q) * 5 + j)) c)))) V L)) [(0, .ref (jb g + r)), (1, .int (nI first)), (2, .int (nI c)), (3, .int (nI j))] (jv (g, Y_R_codedWord, (1, 22), 0, 0, jVQ g (jA0 (some (.int (nI (cwd (fun q => V (r + 1) ((first + q) * 5 + j)) c)))) V L)) V L 0 0) 0 []
  refine n_iconst d_R_codedWord_0 0 (by decide) ?_
  refine j_istore d_R_codedWord_1 (i := 4) (Nat.le_of_ble_eq_true rfl) (lv' := [_, _, _, _, _]) rfl ?_
  refine n_iconst d_R_codedWord_3 0 (by decide) ?_
  refine j_istore d_R_codedWord_4 (i := 5) (Nat.le_of_ble_eq_true rfl) (lv' := [_, _, _, _, _, _]) rfl ?_
  refine j_iload d_R_codedWord_6 0 rfl ?_
  refine n_iconst d_R_codedWord_8 4 (by decide) ?_
  refine n_icmp_ge d_R_codedWord_9 47 rfl (by omega) (by omega) (fun h => absurd h (by omega)) (fun h => ?_)
  refine j_iload d_R_codedWord_12 1 rfl ?_
  refine j_aload_n d_R_codedWord_14 rfl 2 rfl ?_
  refine j_iload_n d_R_codedWord_15 rfl 3 rfl ?_
  refine j_iload d_R_codedWord_16 0 rfl ?_
  refine n_add d_R_codedWord_18 ?_
  refine j_iload_n d_R_codedWord_19 rfl 5 rfl ?_
  refine v_callV d_R_codedWord_20 mt_R_get ln_R_25 im_R_get se_R_get hr (Nat.lt_of_succ_lt hlt) rfl rfl ⟨Nat.le_of_ble_eq_true rfl, Nat.le_of_ble_eq_true rfl⟩ (Nat.le_of_ble_eq_true rfl) rfl (Nat.zero_le _) (Nat.zero_le _) (c_R_get g V L r hr hn hlt (first + 0) j (by omega) (by omega)) rfl ?_
  rintro _ _ _ ⟨rfl, rfl, rfl⟩
  refine j_gets d_R_codedWord_23 li_R_33 ?_
  refine n_iconst d_R_codedWord_26 4 (by decide) ?_
  refine j_iload_n d_R_codedWord_27 rfl 4 rfl ?_
  refine n_add d_R_codedWord_28 ?_
  refine j_iload d_R_codedWord_29 0 rfl ?_
  refine n_sub d_R_codedWord_31 (by omega) ?_
  refine v_inv d_R_codedWord_32 rfl (by omega) ?_
  refine v_callS d_R_codedWord_33 mt_F_times ln_R_38 sm_F_times ⟨Nat.le_of_ble_eq_true rfl, Nat.le_of_ble_eq_true rfl⟩ (Nat.le_of_ble_eq_true rfl) rfl (Nat.zero_le _) (Nat.zero_le _) (c_F_ti g V L (V (r + 1) ((first + 0) * 5 + j)) (jinvN (4 + c - 0)) (Nat.lt_of_lt_of_le (hV _ (by omega)) (by decide)) (Nat.lt_of_lt_of_le (jinvN_lt _) (by decide))) rfl ?_
  rintro _ _ _ ⟨rfl, rfl, rfl⟩
  refine v_callS d_R_codedWord_36 mt_F_plus ln_R_41 sm_F_plus ⟨Nat.le_of_ble_eq_true rfl, Nat.le_of_ble_eq_true rfl⟩ (Nat.le_of_ble_eq_true rfl) rfl (Nat.zero_le _) (Nat.zero_le _) (c_F_pl g V L 0 (fti (V (r + 1) ((first + 0) * 5 + j)) (jinvN (4 + c - 0))) (by decide) (Nat.lt_of_lt_of_le (fti_lt _ _) (by decide))) rfl ?_
  rintro _ _ _ ⟨rfl, rfl, rfl⟩
  refine j_istore d_R_codedWord_39 (i := 4) (Nat.le_of_ble_eq_true rfl) (lv' := [_, _, _, _, _, _]) rfl ?_
  refine n_iinc d_R_codedWord_41 1 (by decide) 1 rfl (Nat.le_of_ble_eq_true rfl) (lv' := [(5, .int (nI 1)), _, _, _, _, _]) rfl ?_
  refine j_goto d_R_codedWord_44 6 rfl ?_
  refine j_iload d_R_codedWord_6 0 rfl ?_
  refine n_iconst d_R_codedWord_8 4 (by decide) ?_
  refine n_icmp_ge d_R_codedWord_9 47 rfl (by omega) (by omega) (fun h => absurd h (by omega)) (fun h => ?_)
  refine j_iload d_R_codedWord_12 1 rfl ?_
  refine j_aload_n d_R_codedWord_14 rfl 2 rfl ?_
  refine j_iload_n d_R_codedWord_15 rfl 3 rfl ?_
  refine j_iload d_R_codedWord_16 0 rfl ?_
  refine n_add d_R_codedWord_18 ?_
  refine j_iload_n d_R_codedWord_19 rfl 5 rfl ?_
  refine v_callV d_R_codedWord_20 mt_R_get ln_R_25 im_R_get se_R_get hr (Nat.lt_of_succ_lt hlt) rfl rfl ⟨Nat.le_of_ble_eq_true rfl, Nat.le_of_ble_eq_true rfl⟩ (Nat.le_of_ble_eq_true rfl) rfl (Nat.zero_le _) (Nat.zero_le _) (c_R_get g V L r hr hn hlt (first + 1) j (by omega) (by omega)) rfl ?_
  rintro _ _ _ ⟨rfl, rfl, rfl⟩
  refine j_gets d_R_codedWord_23 li_R_33 ?_
  refine n_iconst d_R_codedWord_26 4 (by decide) ?_
  refine j_iload_n d_R_codedWord_27 rfl 4 rfl ?_
  refine n_add d_R_codedWord_28 ?_
  refine j_iload d_R_codedWord_29 0 rfl ?_
  refine n_sub d_R_codedWord_31 (by omega) ?_
  refine v_inv d_R_codedWord_32 rfl (by omega) ?_
  refine v_callS d_R_codedWord_33 mt_F_times ln_R_38 sm_F_times ⟨Nat.le_of_ble_eq_true rfl, Nat.le_of_ble_eq_true rfl⟩ (Nat.le_of_ble_eq_true rfl) rfl (Nat.zero_le _) (Nat.zero_le _) (c_F_ti g V L (V (r + 1) ((first + 1) * 5 + j)) (jinvN (4 + c - 1)) (Nat.lt_of_lt_of_le (hV _ (by omega)) (by decide)) (Nat.lt_of_lt_of_le (jinvN_lt _) (by decide))) rfl ?_
  rintro _ _ _ ⟨rfl, rfl, rfl⟩
  refine v_callS d_R_codedWord_36 mt_F_plus ln_R_41 sm_F_plus ⟨Nat.le_of_ble_eq_true rfl, Nat.le_of_ble_eq_true rfl⟩ (Nat.le_of_ble_eq_true rfl) rfl (Nat.zero_le _) (Nat.zero_le _) (c_F_pl g V L (fpl 0 (fti (V (r + 1) ((first + 0) * 5 + j)) (jinvN (4 + c - 0)))) (fti (V (r + 1) ((first + 1) * 5 + j)) (jinvN (4 + c - 1))) (Nat.lt_of_lt_of_le (fpl_lt _ _) (by decide)) (Nat.lt_of_lt_of_le (fti_lt _ _) (by decide))) rfl ?_
  rintro _ _ _ ⟨rfl, rfl, rfl⟩
  refine j_istore d_R_codedWord_39 (i := 4) (Nat.le_of_ble_eq_true rfl) (lv' := [_, _, _, _, _, _]) rfl ?_
  refine n_iinc d_R_codedWord_41 1 (by decide) 1 rfl (Nat.le_of_ble_eq_true rfl) (lv' := [(5, .int (nI 2)), _, _, _, _, _]) rfl ?_
  refine j_goto d_R_codedWord_44 6 rfl ?_
  refine j_iload d_R_codedWord_6 0 rfl ?_
  refine n_iconst d_R_codedWord_8 4 (by decide) ?_
  refine n_icmp_ge d_R_codedWord_9 47 rfl (by omega) (by omega) (fun h => absurd h (by omega)) (fun h => ?_)
  refine j_iload d_R_codedWord_12 1 rfl ?_
  refine j_aload_n d_R_codedWord_14 rfl 2 rfl ?_
  refine j_iload_n d_R_codedWord_15 rfl 3 rfl ?_
  refine j_iload d_R_codedWord_16 0 rfl ?_
  refine n_add d_R_codedWord_18 ?_
  refine j_iload_n d_R_codedWord_19 rfl 5 rfl ?_
  refine v_callV d_R_codedWord_20 mt_R_get ln_R_25 im_R_get se_R_get hr (Nat.lt_of_succ_lt hlt) rfl rfl ⟨Nat.le_of_ble_eq_true rfl, Nat.le_of_ble_eq_true rfl⟩ (Nat.le_of_ble_eq_true rfl) rfl (Nat.zero_le _) (Nat.zero_le _) (c_R_get g V L r hr hn hlt (first + 2) j (by omega) (by omega)) rfl ?_
  rintro _ _ _ ⟨rfl, rfl, rfl⟩
  refine j_gets d_R_codedWord_23 li_R_33 ?_
  refine n_iconst d_R_codedWord_26 4 (by decide) ?_
  refine j_iload_n d_R_codedWord_27 rfl 4 rfl ?_
  refine n_add d_R_codedWord_28 ?_
  refine j_iload d_R_codedWord_29 0 rfl ?_
  refine n_sub d_R_codedWord_31 (by omega) ?_
  refine v_inv d_R_codedWord_32 rfl (by omega) ?_
  refine v_callS d_R_codedWord_33 mt_F_times ln_R_38 sm_F_times ⟨Nat.le_of_ble_eq_true rfl, Nat.le_of_ble_eq_true rfl⟩ (Nat.le_of_ble_eq_true rfl) rfl (Nat.zero_le _) (Nat.zero_le _) (c_F_ti g V L (V (r + 1) ((first + 2) * 5 + j)) (jinvN (4 + c - 2)) (Nat.lt_of_lt_of_le (hV _ (by omega)) (by decide)) (Nat.lt_of_lt_of_le (jinvN_lt _) (by decide))) rfl ?_
  rintro _ _ _ ⟨rfl, rfl, rfl⟩
  refine v_callS d_R_codedWord_36 mt_F_plus ln_R_41 sm_F_plus ⟨Nat.le_of_ble_eq_true rfl, Nat.le_of_ble_eq_true rfl⟩ (Nat.le_of_ble_eq_true rfl) rfl (Nat.zero_le _) (Nat.zero_le _) (c_F_pl g V L (fpl (fpl 0 (fti (V (r + 1) ((first + 0) * 5 + j)) (jinvN (4 + c - 0)))) (fti (V (r + 1) ((first + 1) * 5 + j)) (jinvN (4 + c - 1)))) (fti (V (r + 1) ((first + 2) * 5 + j)) (jinvN (4 + c - 2))) (Nat.lt_of_lt_of_le (fpl_lt _ _) (by decide)) (Nat.lt_of_lt_of_le (fti_lt _ _) (by decide))) rfl ?_
  rintro _ _ _ ⟨rfl, rfl, rfl⟩
  refine j_istore d_R_codedWord_39 (i := 4) (Nat.le_of_ble_eq_true rfl) (lv' := [_, _, _, _, _, _]) rfl ?_
  refine n_iinc d_R_codedWord_41 1 (by decide) 1 rfl (Nat.le_of_ble_eq_true rfl) (lv' := [(5, .int (nI 3)), _, _, _, _, _]) rfl ?_
  refine j_goto d_R_codedWord_44 6 rfl ?_
  refine j_iload d_R_codedWord_6 0 rfl ?_
  refine n_iconst d_R_codedWord_8 4 (by decide) ?_
  refine n_icmp_ge d_R_codedWord_9 47 rfl (by omega) (by omega) (fun h => absurd h (by omega)) (fun h => ?_)
  refine j_iload d_R_codedWord_12 1 rfl ?_
  refine j_aload_n d_R_codedWord_14 rfl 2 rfl ?_
  refine j_iload_n d_R_codedWord_15 rfl 3 rfl ?_
  refine j_iload d_R_codedWord_16 0 rfl ?_
  refine n_add d_R_codedWord_18 ?_
  refine j_iload_n d_R_codedWord_19 rfl 5 rfl ?_
  refine v_callV d_R_codedWord_20 mt_R_get ln_R_25 im_R_get se_R_get hr (Nat.lt_of_succ_lt hlt) rfl rfl ⟨Nat.le_of_ble_eq_true rfl, Nat.le_of_ble_eq_true rfl⟩ (Nat.le_of_ble_eq_true rfl) rfl (Nat.zero_le _) (Nat.zero_le _) (c_R_get g V L r hr hn hlt (first + 3) j (by omega) (by omega)) rfl ?_
  rintro _ _ _ ⟨rfl, rfl, rfl⟩
  refine j_gets d_R_codedWord_23 li_R_33 ?_
  refine n_iconst d_R_codedWord_26 4 (by decide) ?_
  refine j_iload_n d_R_codedWord_27 rfl 4 rfl ?_
  refine n_add d_R_codedWord_28 ?_
  refine j_iload d_R_codedWord_29 0 rfl ?_
  refine n_sub d_R_codedWord_31 (by omega) ?_
  refine v_inv d_R_codedWord_32 rfl (by omega) ?_
  refine v_callS d_R_codedWord_33 mt_F_times ln_R_38 sm_F_times ⟨Nat.le_of_ble_eq_true rfl, Nat.le_of_ble_eq_true rfl⟩ (Nat.le_of_ble_eq_true rfl) rfl (Nat.zero_le _) (Nat.zero_le _) (c_F_ti g V L (V (r + 1) ((first + 3) * 5 + j)) (jinvN (4 + c - 3)) (Nat.lt_of_lt_of_le (hV _ (by omega)) (by decide)) (Nat.lt_of_lt_of_le (jinvN_lt _) (by decide))) rfl ?_
  rintro _ _ _ ⟨rfl, rfl, rfl⟩
  refine v_callS d_R_codedWord_36 mt_F_plus ln_R_41 sm_F_plus ⟨Nat.le_of_ble_eq_true rfl, Nat.le_of_ble_eq_true rfl⟩ (Nat.le_of_ble_eq_true rfl) rfl (Nat.zero_le _) (Nat.zero_le _) (c_F_pl g V L (fpl (fpl (fpl 0 (fti (V (r + 1) ((first + 0) * 5 + j)) (jinvN (4 + c - 0)))) (fti (V (r + 1) ((first + 1) * 5 + j)) (jinvN (4 + c - 1)))) (fti (V (r + 1) ((first + 2) * 5 + j)) (jinvN (4 + c - 2)))) (fti (V (r + 1) ((first + 3) * 5 + j)) (jinvN (4 + c - 3))) (Nat.lt_of_lt_of_le (fpl_lt _ _) (by decide)) (Nat.lt_of_lt_of_le (fti_lt _ _) (by decide))) rfl ?_
  rintro _ _ _ ⟨rfl, rfl, rfl⟩
  refine j_istore d_R_codedWord_39 (i := 4) (Nat.le_of_ble_eq_true rfl) (lv' := [_, _, _, _, _, _]) rfl ?_
  refine n_iinc d_R_codedWord_41 1 (by decide) 1 rfl (Nat.le_of_ble_eq_true rfl) (lv' := [(5, .int (nI 4)), _, _, _, _, _]) rfl ?_
  refine j_goto d_R_codedWord_44 6 rfl ?_
  refine j_iload d_R_codedWord_6 0 rfl ?_
  refine n_iconst d_R_codedWord_8 4 (by decide) ?_
  refine n_icmp_ge d_R_codedWord_9 47 rfl (by omega) (by omega) (fun h => ?_) (fun h => absurd h (by omega))
  refine j_iload d_R_codedWord_47 1 rfl ?_
  exact v_iret d_R_codedWord_49 rfl (Nat.zero_le _) (Nat.zero_le _) rfl jA0_rfl
theorem c_R_rest (g : jG) (V : Nat → Nat → Nat) (L : Nat → Nat → Int64) (r : Nat) (hr : jshp r = jo 5 [(r + 1) + 2]) (hn : jshp (r + 1) = .inl (0, 120)) (hlt : r + 1 < 104) (first c j : Nat) (hf : first + 6 ≤ 24) (hc : c < 2) (hj : j < 4) (hV : ∀ i, i < 120 → V (r + 1) i < 2147483647) : jK g Y_R_rest (2, 47) [.ref (jb g + r), .int (nI first), .int (nI c), .int (nI j)] V L (jA0 (some (.int (nI (fmi (V (r + 1) ((first + 4 + c) * 5 + j)) (cwd (fun q => V (r + 1) ((first + q) * 5 + j)) c))))) V L) := by
  refine jK_entry (by decide +kernel) rfl (Nat.le_of_ble_eq_true rfl) ?_
  show jJ (g, Y_R_rest, (2, 47), 0, 0, jVQ g (jA0 (some (.int (nI (fmi (V (r + 1) ((first + 4 + c) * 5 + j)) (cwd (fun q => V (r + 1) ((first + q) * 5 + j)) c))))) V L)) [(0, .ref (jb g + r)), (1, .int (nI first)), (2, .int (nI c)), (3, .int (nI j))] (jv (g, Y_R_rest, (2, 47), 0, 0, jVQ g (jA0 (some (.int (nI (fmi (V (r + 1) ((first + 4 + c) * 5 + j)) (cwd (fun q => V (r + 1) ((first + q) * 5 + j)) c))))) V L)) V L 0 0) 0 []
  refine j_aload_n d_R_rest_0 rfl 0 rfl ?_
  refine j_iload_n d_R_rest_1 rfl 1 rfl ?_
  refine n_iconst d_R_rest_2 4 (by decide) ?_
  refine n_add d_R_rest_3 ?_
  refine j_iload_n d_R_rest_4 rfl 2 rfl ?_
  refine n_add d_R_rest_5 ?_
  refine j_iload_n d_R_rest_6 rfl 3 rfl ?_
  refine v_callV d_R_rest_7 mt_R_get ln_R_25 im_R_get se_R_get hr (Nat.lt_of_succ_lt hlt) rfl rfl ⟨Nat.le_of_ble_eq_true rfl, Nat.le_of_ble_eq_true rfl⟩ (Nat.le_of_ble_eq_true rfl) rfl (Nat.zero_le _) (Nat.zero_le _) (c_R_get g V L r hr hn hlt (first + 4 + c) j (by omega) (by omega)) rfl ?_
  rintro _ _ _ ⟨rfl, rfl, rfl⟩
  refine j_aload_n d_R_rest_10 rfl 0 rfl ?_
  refine j_iload_n d_R_rest_11 rfl 1 rfl ?_
  refine j_iload_n d_R_rest_12 rfl 2 rfl ?_
  refine j_iload_n d_R_rest_13 rfl 3 rfl ?_
  refine v_callV d_R_rest_14 mt_R_codedWord ln_R_29 im_R_codedWord se_R_codedWord hr (Nat.lt_of_succ_lt hlt) rfl rfl ⟨Nat.le_of_ble_eq_true rfl, Nat.le_of_ble_eq_true rfl⟩ (Nat.le_of_ble_eq_true rfl) rfl (Nat.zero_le _) (Nat.zero_le _) (c_R_codedWord g V L r hr hn hlt first c j hf hc hj hV) rfl ?_
  rintro _ _ _ ⟨rfl, rfl, rfl⟩
  refine v_callS d_R_rest_17 mt_F_minus ln_R_61 sm_F_minus ⟨Nat.le_of_ble_eq_true rfl, Nat.le_of_ble_eq_true rfl⟩ (Nat.le_of_ble_eq_true rfl) rfl (Nat.zero_le _) (Nat.zero_le _) (c_F_mi g V L _ _ (hV _ (by omega)) (cwd_lt _ _)) rfl ?_
  rintro _ _ _ ⟨rfl, rfl, rfl⟩
  exact v_iret d_R_rest_20 rfl (Nat.zero_le _) (Nat.zero_le _) rfl jA0_rfl
theorem c_R_sameRow (g : jG) (V : Nat → Nat → Nat) (L : Nat → Nat → Int64) (r : Nat) (hr : jshp r = jo 5 [(r + 1) + 2]) (hn : jshp (r + 1) = .inl (0, 120)) (hlt : r + 1 < 104) (r2 : Nat) (hr2 : jshp r2 = jo 5 [(r2 + 1) + 2]) (hn2 : jshp (r2 + 1) = .inl (0, 120)) (hlt2 : r2 + 1 < 104) (row : Nat) (hrow : row < 24) (hV : ∀ i, i < 120 → V (r + 1) i < 2147483648) (hV2 : ∀ i, i < 120 → V (r2 + 1) i < 2147483648) : jK g Y_R_sameRow (1, 22) [.ref (jb g + r), .ref (jb g + r2), .int (nI row)] V L (jA0 (some (.int (nI (if V (r + 1) (row * 5 + 0) = V (r2 + 1) (row * 5 + 0) ∧ V (r + 1) (row * 5 + 1) = V (r2 + 1) (row * 5 + 1) ∧ V (r + 1) (row * 5 + 2) = V (r2 + 1) (row * 5 + 2) ∧ V (r + 1) (row * 5 + 3) = V (r2 + 1) (row * 5 + 3) ∧ V (r + 1) (row * 5 + 4) = V (r2 + 1) (row * 5 + 4) then 1 else 0)))) V L) := by
  refine jK_entry (by decide +kernel) rfl (Nat.le_of_ble_eq_true rfl) ?_
  show jJ (g, Y_R_sameRow, (1, 22), 0, 0, jVQ g (jA0 (some (.int (nI (if V (r + 1) (row * 5 + 0) = V (r2 + 1) (row * 5 + 0) ∧ V (r + 1) (row * 5 + 1) = V (r2 + 1) (row * 5 + 1) ∧ V (r + 1) (row * 5 + 2) = V (r2 + 1) (row * 5 + 2) ∧ V (r + 1) (row * 5 + 3) = V (r2 + 1) (row * 5 + 3) ∧ V (r + 1) (row * 5 + 4) = V (r2 + 1) (row * 5 + 4) then 1 else 0)))) V L)) [(0, .ref (jb g + r)), (1, .ref (jb g + r2)), (2, .int (nI row))] (jv (g, Y_R_sameRow, (1, 22), 0, 0, jVQ g (jA0 (some (.int (nI (if V (r + 1) (row * 5 + 0) = V (r2 + 1) (row * 5 + 0) ∧ V (r + 1) (row * 5 + 1) = V (r2 + 1) (row * 5 + 1) ∧ V (r + 1) (row * 5 + 2) = V (r2 + 1) (row * 5 + 2) ∧ V (r + 1) (row * 5 + 3) = V (r2 + 1) (row * 5 + 3) ∧ V (r + 1) (row * 5 + 4) = V (r2 + 1) (row * 5 + 4) then 1 else 0)))) V L)) V L 0 0) 0 []
  refine n_iconst d_R_sameRow_0 0 (by decide) ?_
  refine j_istore_n d_R_sameRow_1 (i := 3) rfl (Nat.le_of_ble_eq_true rfl) (lv' := [_, _, _, _]) rfl ?_
  refine j_iload_n d_R_sameRow_2 rfl 0 rfl ?_
  refine n_iconst d_R_sameRow_3 5 (by decide) ?_
  refine n_icmp_ge d_R_sameRow_4 30 rfl (by omega) (by omega) (fun h => absurd h (by omega)) (fun h => ?_)
  refine j_aload_n d_R_sameRow_7 rfl 1 rfl ?_
  refine j_iload_n d_R_sameRow_8 rfl 3 rfl ?_
  refine j_iload_n d_R_sameRow_9 rfl 0 rfl ?_
  refine v_callV d_R_sameRow_10 mt_R_get ln_R_25 im_R_get se_R_get hr (Nat.lt_of_succ_lt hlt) rfl rfl ⟨Nat.le_of_ble_eq_true rfl, Nat.le_of_ble_eq_true rfl⟩ (Nat.le_of_ble_eq_true rfl) rfl (Nat.zero_le _) (Nat.zero_le _) (c_R_get g V L r hr hn hlt row 0 hrow (by omega)) rfl ?_
  rintro _ _ _ ⟨rfl, rfl, rfl⟩
  refine j_aload_n d_R_sameRow_13 rfl 2 rfl ?_
  refine j_iload_n d_R_sameRow_14 rfl 3 rfl ?_
  refine j_iload_n d_R_sameRow_15 rfl 0 rfl ?_
  refine v_callV d_R_sameRow_16 mt_R_get ln_R_25 im_R_get se_R_get hr2 (Nat.lt_of_succ_lt hlt2) rfl rfl ⟨Nat.le_of_ble_eq_true rfl, Nat.le_of_ble_eq_true rfl⟩ (Nat.le_of_ble_eq_true rfl) rfl (Nat.zero_le _) (Nat.zero_le _) (c_R_get g V L r2 hr2 hn2 hlt2 row 0 hrow (by omega)) rfl ?_
  rintro _ _ _ ⟨rfl, rfl, rfl⟩
  refine n_icmp_eq d_R_sameRow_19 24 rfl (hV _ (by omega)) (hV2 _ (by omega)) (fun h0 => ?_) (fun h0 => ?_)
  · refine n_iinc d_R_sameRow_24 1 (by decide) 0 rfl (Nat.le_of_ble_eq_true rfl) (lv' := [(3, .int (nI 1)), _, _, _]) rfl ?_
    refine j_goto d_R_sameRow_27 2 rfl ?_
    refine j_iload_n d_R_sameRow_2 rfl 0 rfl ?_
    refine n_iconst d_R_sameRow_3 5 (by decide) ?_
    refine n_icmp_ge d_R_sameRow_4 30 rfl (by omega) (by omega) (fun h => absurd h (by omega)) (fun h => ?_)
    refine j_aload_n d_R_sameRow_7 rfl 1 rfl ?_
    refine j_iload_n d_R_sameRow_8 rfl 3 rfl ?_
    refine j_iload_n d_R_sameRow_9 rfl 0 rfl ?_
    refine v_callV d_R_sameRow_10 mt_R_get ln_R_25 im_R_get se_R_get hr (Nat.lt_of_succ_lt hlt) rfl rfl ⟨Nat.le_of_ble_eq_true rfl, Nat.le_of_ble_eq_true rfl⟩ (Nat.le_of_ble_eq_true rfl) rfl (Nat.zero_le _) (Nat.zero_le _) (c_R_get g V L r hr hn hlt row 1 hrow (by omega)) rfl ?_
    rintro _ _ _ ⟨rfl, rfl, rfl⟩
    refine j_aload_n d_R_sameRow_13 rfl 2 rfl ?_
    refine j_iload_n d_R_sameRow_14 rfl 3 rfl ?_
    refine j_iload_n d_R_sameRow_15 rfl 0 rfl ?_
    refine v_callV d_R_sameRow_16 mt_R_get ln_R_25 im_R_get se_R_get hr2 (Nat.lt_of_succ_lt hlt2) rfl rfl ⟨Nat.le_of_ble_eq_true rfl, Nat.le_of_ble_eq_true rfl⟩ (Nat.le_of_ble_eq_true rfl) rfl (Nat.zero_le _) (Nat.zero_le _) (c_R_get g V L r2 hr2 hn2 hlt2 row 1 hrow (by omega)) rfl ?_
    rintro _ _ _ ⟨rfl, rfl, rfl⟩
    refine n_icmp_eq d_R_sameRow_19 24 rfl (hV _ (by omega)) (hV2 _ (by omega)) (fun h1 => ?_) (fun h1 => ?_)
    · refine n_iinc d_R_sameRow_24 1 (by decide) 0 rfl (Nat.le_of_ble_eq_true rfl) (lv' := [(3, .int (nI 2)), _, _, _]) rfl ?_
      refine j_goto d_R_sameRow_27 2 rfl ?_
      refine j_iload_n d_R_sameRow_2 rfl 0 rfl ?_
      refine n_iconst d_R_sameRow_3 5 (by decide) ?_
      refine n_icmp_ge d_R_sameRow_4 30 rfl (by omega) (by omega) (fun h => absurd h (by omega)) (fun h => ?_)
      refine j_aload_n d_R_sameRow_7 rfl 1 rfl ?_
      refine j_iload_n d_R_sameRow_8 rfl 3 rfl ?_
      refine j_iload_n d_R_sameRow_9 rfl 0 rfl ?_
      refine v_callV d_R_sameRow_10 mt_R_get ln_R_25 im_R_get se_R_get hr (Nat.lt_of_succ_lt hlt) rfl rfl ⟨Nat.le_of_ble_eq_true rfl, Nat.le_of_ble_eq_true rfl⟩ (Nat.le_of_ble_eq_true rfl) rfl (Nat.zero_le _) (Nat.zero_le _) (c_R_get g V L r hr hn hlt row 2 hrow (by omega)) rfl ?_
      rintro _ _ _ ⟨rfl, rfl, rfl⟩
      refine j_aload_n d_R_sameRow_13 rfl 2 rfl ?_
      refine j_iload_n d_R_sameRow_14 rfl 3 rfl ?_
      refine j_iload_n d_R_sameRow_15 rfl 0 rfl ?_
      refine v_callV d_R_sameRow_16 mt_R_get ln_R_25 im_R_get se_R_get hr2 (Nat.lt_of_succ_lt hlt2) rfl rfl ⟨Nat.le_of_ble_eq_true rfl, Nat.le_of_ble_eq_true rfl⟩ (Nat.le_of_ble_eq_true rfl) rfl (Nat.zero_le _) (Nat.zero_le _) (c_R_get g V L r2 hr2 hn2 hlt2 row 2 hrow (by omega)) rfl ?_
      rintro _ _ _ ⟨rfl, rfl, rfl⟩
      refine n_icmp_eq d_R_sameRow_19 24 rfl (hV _ (by omega)) (hV2 _ (by omega)) (fun h2 => ?_) (fun h2 => ?_)
      · refine n_iinc d_R_sameRow_24 1 (by decide) 0 rfl (Nat.le_of_ble_eq_true rfl) (lv' := [(3, .int (nI 3)), _, _, _]) rfl ?_
        refine j_goto d_R_sameRow_27 2 rfl ?_
        refine j_iload_n d_R_sameRow_2 rfl 0 rfl ?_
        refine n_iconst d_R_sameRow_3 5 (by decide) ?_
        refine n_icmp_ge d_R_sameRow_4 30 rfl (by omega) (by omega) (fun h => absurd h (by omega)) (fun h => ?_)
        refine j_aload_n d_R_sameRow_7 rfl 1 rfl ?_
        refine j_iload_n d_R_sameRow_8 rfl 3 rfl ?_
        refine j_iload_n d_R_sameRow_9 rfl 0 rfl ?_
        refine v_callV d_R_sameRow_10 mt_R_get ln_R_25 im_R_get se_R_get hr (Nat.lt_of_succ_lt hlt) rfl rfl ⟨Nat.le_of_ble_eq_true rfl, Nat.le_of_ble_eq_true rfl⟩ (Nat.le_of_ble_eq_true rfl) rfl (Nat.zero_le _) (Nat.zero_le _) (c_R_get g V L r hr hn hlt row 3 hrow (by omega)) rfl ?_
        rintro _ _ _ ⟨rfl, rfl, rfl⟩
        refine j_aload_n d_R_sameRow_13 rfl 2 rfl ?_
        refine j_iload_n d_R_sameRow_14 rfl 3 rfl ?_
        refine j_iload_n d_R_sameRow_15 rfl 0 rfl ?_
        refine v_callV d_R_sameRow_16 mt_R_get ln_R_25 im_R_get se_R_get hr2 (Nat.lt_of_succ_lt hlt2) rfl rfl ⟨Nat.le_of_ble_eq_true rfl, Nat.le_of_ble_eq_true rfl⟩ (Nat.le_of_ble_eq_true rfl) rfl (Nat.zero_le _) (Nat.zero_le _) (c_R_get g V L r2 hr2 hn2 hlt2 row 3 hrow (by omega)) rfl ?_
        rintro _ _ _ ⟨rfl, rfl, rfl⟩
        refine n_icmp_eq d_R_sameRow_19 24 rfl (hV _ (by omega)) (hV2 _ (by omega)) (fun h3 => ?_) (fun h3 => ?_)
        · refine n_iinc d_R_sameRow_24 1 (by decide) 0 rfl (Nat.le_of_ble_eq_true rfl) (lv' := [(3, .int (nI 4)), _, _, _]) rfl ?_
          refine j_goto d_R_sameRow_27 2 rfl ?_
          refine j_iload_n d_R_sameRow_2 rfl 0 rfl ?_
          refine n_iconst d_R_sameRow_3 5 (by decide) ?_
          refine n_icmp_ge d_R_sameRow_4 30 rfl (by omega) (by omega) (fun h => absurd h (by omega)) (fun h => ?_)
          refine j_aload_n d_R_sameRow_7 rfl 1 rfl ?_
          refine j_iload_n d_R_sameRow_8 rfl 3 rfl ?_
          refine j_iload_n d_R_sameRow_9 rfl 0 rfl ?_
          refine v_callV d_R_sameRow_10 mt_R_get ln_R_25 im_R_get se_R_get hr (Nat.lt_of_succ_lt hlt) rfl rfl ⟨Nat.le_of_ble_eq_true rfl, Nat.le_of_ble_eq_true rfl⟩ (Nat.le_of_ble_eq_true rfl) rfl (Nat.zero_le _) (Nat.zero_le _) (c_R_get g V L r hr hn hlt row 4 hrow (by omega)) rfl ?_
          rintro _ _ _ ⟨rfl, rfl, rfl⟩
          refine j_aload_n d_R_sameRow_13 rfl 2 rfl ?_
          refine j_iload_n d_R_sameRow_14 rfl 3 rfl ?_
          refine j_iload_n d_R_sameRow_15 rfl 0 rfl ?_
          refine v_callV d_R_sameRow_16 mt_R_get ln_R_25 im_R_get se_R_get hr2 (Nat.lt_of_succ_lt hlt2) rfl rfl ⟨Nat.le_of_ble_eq_true rfl, Nat.le_of_ble_eq_true rfl⟩ (Nat.le_of_ble_eq_true rfl) rfl (Nat.zero_le _) (Nat.zero_le _) (c_R_get g V L r2 hr2 hn2 hlt2 row 4 hrow (by omega)) rfl ?_
          rintro _ _ _ ⟨rfl, rfl, rfl⟩
          refine n_icmp_eq d_R_sameRow_19 24 rfl (hV _ (by omega)) (hV2 _ (by omega)) (fun h4 => ?_) (fun h4 => ?_)
          · refine n_iinc d_R_sameRow_24 1 (by decide) 0 rfl (Nat.le_of_ble_eq_true rfl) (lv' := [(3, .int (nI 5)), _, _, _]) rfl ?_
            refine j_goto d_R_sameRow_27 2 rfl ?_
            refine j_iload_n d_R_sameRow_2 rfl 0 rfl ?_
            refine n_iconst d_R_sameRow_3 5 (by decide) ?_
            refine n_icmp_ge d_R_sameRow_4 30 rfl (by omega) (by omega) (fun h => ?_) (fun h => absurd h (by omega))
            rw [if_pos ⟨h0, h1, h2, h3, h4⟩]
            refine n_iconst d_R_sameRow_30 1 (by decide) ?_
            exact v_zret d_R_sameRow_31 rfl (by omega) (Nat.zero_le _) (Nat.zero_le _) rfl jA0_rfl
          · rw [if_neg (fun z => h4 z.2.2.2.2)]
            refine n_iconst d_R_sameRow_22 0 (by decide) ?_
            exact v_zret d_R_sameRow_23 rfl (by omega) (Nat.zero_le _) (Nat.zero_le _) rfl jA0_rfl
        · rw [if_neg (fun z => h3 z.2.2.2.1)]
          refine n_iconst d_R_sameRow_22 0 (by decide) ?_
          exact v_zret d_R_sameRow_23 rfl (by omega) (Nat.zero_le _) (Nat.zero_le _) rfl jA0_rfl
      · rw [if_neg (fun z => h2 z.2.2.1)]
        refine n_iconst d_R_sameRow_22 0 (by decide) ?_
        exact v_zret d_R_sameRow_23 rfl (by omega) (Nat.zero_le _) (Nat.zero_le _) rfl jA0_rfl
    · rw [if_neg (fun z => h1 z.2.1)]
      refine n_iconst d_R_sameRow_22 0 (by decide) ?_
      exact v_zret d_R_sameRow_23 rfl (by omega) (Nat.zero_le _) (Nat.zero_le _) rfl jA0_rfl
  · rw [if_neg (fun z => h0 z.1)]
    refine n_iconst d_R_sameRow_22 0 (by decide) ?_
    exact v_zret d_R_sameRow_23 rfl (by omega) (Nat.zero_le _) (Nat.zero_le _) rfl jA0_rfl
/-- the coded rows of a group laid -/
def spd (V : Nat → Nat → Nat) (r first : Nat) : Nat → Nat → Nat := (vu (vu (vu (vu (vu (vu (vu (vu V (r + 1) ((first + 4 + 0) * 5 + 0) (cwd (fun q => V (r + 1) ((first + q) * 5 + 0)) 0)) (r + 1) ((first + 4 + 0) * 5 + 1) (cwd (fun q => V (r + 1) ((first + q) * 5 + 1)) 0)) (r + 1) ((first + 4 + 0) * 5 + 2) (cwd (fun q => V (r + 1) ((first + q) * 5 + 2)) 0)) (r + 1) ((first + 4 + 0) * 5 + 3) (cwd (fun q => V (r + 1) ((first + q) * 5 + 3)) 0)) (r + 1) ((first + 4 + 1) * 5 + 0) (cwd (fun q => V (r + 1) ((first + q) * 5 + 0)) 1)) (r + 1) ((first + 4 + 1) * 5 + 1) (cwd (fun q => V (r + 1) ((first + q) * 5 + 1)) 1)) (r + 1) ((first + 4 + 1) * 5 + 2) (cwd (fun q => V (r + 1) ((first + q) * 5 + 2)) 1)) (r + 1) ((first + 4 + 1) * 5 + 3) (cwd (fun q => V (r + 1) ((first + q) * 5 + 3)) 1))
theorem spd_lt {V : Nat → Nat → Nat} {r first : Nat} (hV : ∀ i, i < 120 → V (r + 1) i < 2147483647) : ∀ i, i < 120 → spd V r first (r + 1) i < 2147483647 := by
  intro i hi
  unfold spd vu
  repeat' split
  all_goals first | exact cwd_lt _ _ | exact hV i hi
theorem c_R_spread (g : jG) (V : Nat → Nat → Nat) (L : Nat → Nat → Int64) (r : Nat) (hr : jshp r = jo 5 [(r + 1) + 2]) (hn : jshp (r + 1) = .inl (0, 120)) (hlt : r + 1 < 104) (first : Nat) (hf : first + 6 ≤ 24) (hV : ∀ i, i < 120 → V (r + 1) i < 2147483647) : jK g Y_R_spread (2, 47) [.ref (jb g + r), .int (nI first)] V L (jA0 none (spd V r first) L) := by
  refine jK_entry (by decide +kernel) rfl (Nat.le_of_ble_eq_true rfl) ?_
  show jJ (g, Y_R_spread, (2, 47), 0, 0, jVQ g (jA0 none (spd V r first) L)) [(0, .ref (jb g + r)), (1, .int (nI first))] (jv (g, Y_R_spread, (2, 47), 0, 0, jVQ g (jA0 none (spd V r first) L)) V L 0 0) 0 []
  refine n_iconst d_R_spread_0 0 (by decide) ?_
  refine j_istore_n d_R_spread_1 (i := 2) rfl (Nat.le_of_ble_eq_true rfl) (lv' := [_, _, _]) rfl ?_
  refine j_iload_n d_R_spread_2 rfl 0 rfl ?_
  refine n_iconst d_R_spread_3 2 (by decide) ?_
  refine n_icmp_ge d_R_spread_4 43 rfl (by omega) (by omega) (fun h => absurd h (by omega)) (fun h => ?_)
  refine n_iconst d_R_spread_7 0 (by decide) ?_
  refine j_istore_n d_R_spread_8 (i := 3) rfl (Nat.le_of_ble_eq_true rfl) (lv' := [_, _, _, _]) rfl ?_
  refine j_iload_n d_R_spread_9 rfl 0 rfl ?_
  refine n_iconst d_R_spread_10 4 (by decide) ?_
  refine n_icmp_ge d_R_spread_11 37 rfl (by omega) (by omega) (fun h => absurd h (by omega)) (fun h => ?_)
  refine j_aload_n d_R_spread_14 rfl 2 rfl ?_
  refine j_iload_n d_R_spread_15 rfl 3 rfl ?_
  refine n_iconst d_R_spread_16 4 (by decide) ?_
  refine n_add d_R_spread_17 ?_
  refine j_iload_n d_R_spread_18 rfl 1 rfl ?_
  refine n_add d_R_spread_19 ?_
  refine j_iload_n d_R_spread_20 rfl 0 rfl ?_
  refine j_aload_n d_R_spread_21 rfl 2 rfl ?_
  refine j_iload_n d_R_spread_22 rfl 3 rfl ?_
  refine j_iload_n d_R_spread_23 rfl 1 rfl ?_
  refine j_iload_n d_R_spread_24 rfl 0 rfl ?_
  refine v_callV d_R_spread_25 mt_R_codedWord ln_R_29 im_R_codedWord se_R_codedWord hr (Nat.lt_of_succ_lt hlt) rfl rfl ⟨Nat.le_of_ble_eq_true rfl, Nat.le_of_ble_eq_true rfl⟩ (Nat.le_of_ble_eq_true rfl) rfl (Nat.zero_le _) (Nat.zero_le _) (c_R_codedWord g V L r hr hn hlt first 0 0 hf (by omega) (by omega) hV) rfl ?_
  rintro _ _ _ ⟨rfl, rfl, rfl⟩
  refine v_callV d_R_spread_28 mt_R_set ln_R_21 im_R_set se_R_set hr (Nat.lt_of_succ_lt hlt) rfl rfl ⟨Nat.le_of_ble_eq_true rfl, Nat.le_of_ble_eq_true rfl⟩ (Nat.le_of_ble_eq_true rfl) rfl (Nat.zero_le _) (Nat.zero_le _) (c_R_set g V L r hr hn hlt (first + 4 + 0) 0 (by omega) (by omega) _) rfl ?_
  rintro _ _ _ ⟨rfl, rfl, rfl⟩
  refine n_iinc d_R_spread_31 1 (by decide) 0 rfl (Nat.le_of_ble_eq_true rfl) (lv' := [(3, .int (nI 1)), _, _, _]) rfl ?_
  refine j_goto d_R_spread_34 9 rfl ?_
  have hv1 : ∀ i, i < 120 → (vu V (r + 1) ((first + 4 + 0) * 5 + 0) (cwd (fun q => V (r + 1) ((first + q) * 5 + 0)) 0)) (r + 1) i < 2147483647 := fun i hi => by
    unfold vu
    repeat' split
    all_goals first | exact cwd_lt _ _ | exact hV i hi
  have hx1 : ∀ j q, j < 4 → q < 4 → (vu V (r + 1) ((first + 4 + 0) * 5 + 0) (cwd (fun q => V (r + 1) ((first + q) * 5 + 0)) 0)) (r + 1) ((first + q) * 5 + j) = V (r + 1) ((first + q) * 5 + j) := fun j q hj hq => by rw [vu_ne _ _ (by omega)]
  refine j_iload_n d_R_spread_9 rfl 0 rfl ?_
  refine n_iconst d_R_spread_10 4 (by decide) ?_
  refine n_icmp_ge d_R_spread_11 37 rfl (by omega) (by omega) (fun h => absurd h (by omega)) (fun h => ?_)
  refine j_aload_n d_R_spread_14 rfl 2 rfl ?_
  refine j_iload_n d_R_spread_15 rfl 3 rfl ?_
  refine n_iconst d_R_spread_16 4 (by decide) ?_
  refine n_add d_R_spread_17 ?_
  refine j_iload_n d_R_spread_18 rfl 1 rfl ?_
  refine n_add d_R_spread_19 ?_
  refine j_iload_n d_R_spread_20 rfl 0 rfl ?_
  refine j_aload_n d_R_spread_21 rfl 2 rfl ?_
  refine j_iload_n d_R_spread_22 rfl 3 rfl ?_
  refine j_iload_n d_R_spread_23 rfl 1 rfl ?_
  refine j_iload_n d_R_spread_24 rfl 0 rfl ?_
  refine v_callV d_R_spread_25 mt_R_codedWord ln_R_29 im_R_codedWord se_R_codedWord hr (Nat.lt_of_succ_lt hlt) rfl rfl ⟨Nat.le_of_ble_eq_true rfl, Nat.le_of_ble_eq_true rfl⟩ (Nat.le_of_ble_eq_true rfl) rfl (Nat.zero_le _) (Nat.zero_le _) (c_R_codedWord g (vu V (r + 1) ((first + 4 + 0) * 5 + 0) (cwd (fun q => V (r + 1) ((first + q) * 5 + 0)) 0)) L r hr hn hlt first 0 1 hf (by omega) (by omega) hv1) rfl ?_
  rintro _ _ _ ⟨rfl, rfl, rfl⟩
  rw [show cwd (fun q => (vu V (r + 1) ((first + 4 + 0) * 5 + 0) (cwd (fun q => V (r + 1) ((first + q) * 5 + 0)) 0)) (r + 1) ((first + q) * 5 + 1)) 0 = cwd (fun q => V (r + 1) ((first + q) * 5 + 1)) 0 from cwd_eq 0 (fun q hq => hx1 1 q (by omega) hq)]
  refine v_callV d_R_spread_28 mt_R_set ln_R_21 im_R_set se_R_set hr (Nat.lt_of_succ_lt hlt) rfl rfl ⟨Nat.le_of_ble_eq_true rfl, Nat.le_of_ble_eq_true rfl⟩ (Nat.le_of_ble_eq_true rfl) rfl (Nat.zero_le _) (Nat.zero_le _) (c_R_set g (vu V (r + 1) ((first + 4 + 0) * 5 + 0) (cwd (fun q => V (r + 1) ((first + q) * 5 + 0)) 0)) L r hr hn hlt (first + 4 + 0) 1 (by omega) (by omega) _) rfl ?_
  rintro _ _ _ ⟨rfl, rfl, rfl⟩
  refine n_iinc d_R_spread_31 1 (by decide) 0 rfl (Nat.le_of_ble_eq_true rfl) (lv' := [(3, .int (nI 2)), _, _, _]) rfl ?_
  refine j_goto d_R_spread_34 9 rfl ?_
  have hv2 : ∀ i, i < 120 → (vu (vu V (r + 1) ((first + 4 + 0) * 5 + 0) (cwd (fun q => V (r + 1) ((first + q) * 5 + 0)) 0)) (r + 1) ((first + 4 + 0) * 5 + 1) (cwd (fun q => V (r + 1) ((first + q) * 5 + 1)) 0)) (r + 1) i < 2147483647 := fun i hi => by
    unfold vu
    repeat' split
    all_goals first | exact cwd_lt _ _ | exact hV i hi
  have hx2 : ∀ j q, j < 4 → q < 4 → (vu (vu V (r + 1) ((first + 4 + 0) * 5 + 0) (cwd (fun q => V (r + 1) ((first + q) * 5 + 0)) 0)) (r + 1) ((first + 4 + 0) * 5 + 1) (cwd (fun q => V (r + 1) ((first + q) * 5 + 1)) 0)) (r + 1) ((first + q) * 5 + j) = V (r + 1) ((first + q) * 5 + j) := fun j q hj hq => by rw [vu_ne _ _ (by omega), vu_ne _ _ (by omega)]
  refine j_iload_n d_R_spread_9 rfl 0 rfl ?_
  refine n_iconst d_R_spread_10 4 (by decide) ?_
  refine n_icmp_ge d_R_spread_11 37 rfl (by omega) (by omega) (fun h => absurd h (by omega)) (fun h => ?_)
  refine j_aload_n d_R_spread_14 rfl 2 rfl ?_
  refine j_iload_n d_R_spread_15 rfl 3 rfl ?_
  refine n_iconst d_R_spread_16 4 (by decide) ?_
  refine n_add d_R_spread_17 ?_
  refine j_iload_n d_R_spread_18 rfl 1 rfl ?_
  refine n_add d_R_spread_19 ?_
  refine j_iload_n d_R_spread_20 rfl 0 rfl ?_
  refine j_aload_n d_R_spread_21 rfl 2 rfl ?_
  refine j_iload_n d_R_spread_22 rfl 3 rfl ?_
  refine j_iload_n d_R_spread_23 rfl 1 rfl ?_
  refine j_iload_n d_R_spread_24 rfl 0 rfl ?_
  refine v_callV d_R_spread_25 mt_R_codedWord ln_R_29 im_R_codedWord se_R_codedWord hr (Nat.lt_of_succ_lt hlt) rfl rfl ⟨Nat.le_of_ble_eq_true rfl, Nat.le_of_ble_eq_true rfl⟩ (Nat.le_of_ble_eq_true rfl) rfl (Nat.zero_le _) (Nat.zero_le _) (c_R_codedWord g (vu (vu V (r + 1) ((first + 4 + 0) * 5 + 0) (cwd (fun q => V (r + 1) ((first + q) * 5 + 0)) 0)) (r + 1) ((first + 4 + 0) * 5 + 1) (cwd (fun q => V (r + 1) ((first + q) * 5 + 1)) 0)) L r hr hn hlt first 0 2 hf (by omega) (by omega) hv2) rfl ?_
  rintro _ _ _ ⟨rfl, rfl, rfl⟩
  rw [show cwd (fun q => (vu (vu V (r + 1) ((first + 4 + 0) * 5 + 0) (cwd (fun q => V (r + 1) ((first + q) * 5 + 0)) 0)) (r + 1) ((first + 4 + 0) * 5 + 1) (cwd (fun q => V (r + 1) ((first + q) * 5 + 1)) 0)) (r + 1) ((first + q) * 5 + 2)) 0 = cwd (fun q => V (r + 1) ((first + q) * 5 + 2)) 0 from cwd_eq 0 (fun q hq => hx2 2 q (by omega) hq)]
  refine v_callV d_R_spread_28 mt_R_set ln_R_21 im_R_set se_R_set hr (Nat.lt_of_succ_lt hlt) rfl rfl ⟨Nat.le_of_ble_eq_true rfl, Nat.le_of_ble_eq_true rfl⟩ (Nat.le_of_ble_eq_true rfl) rfl (Nat.zero_le _) (Nat.zero_le _) (c_R_set g (vu (vu V (r + 1) ((first + 4 + 0) * 5 + 0) (cwd (fun q => V (r + 1) ((first + q) * 5 + 0)) 0)) (r + 1) ((first + 4 + 0) * 5 + 1) (cwd (fun q => V (r + 1) ((first + q) * 5 + 1)) 0)) L r hr hn hlt (first + 4 + 0) 2 (by omega) (by omega) _) rfl ?_
  rintro _ _ _ ⟨rfl, rfl, rfl⟩
  refine n_iinc d_R_spread_31 1 (by decide) 0 rfl (Nat.le_of_ble_eq_true rfl) (lv' := [(3, .int (nI 3)), _, _, _]) rfl ?_
  refine j_goto d_R_spread_34 9 rfl ?_
  have hv3 : ∀ i, i < 120 → (vu (vu (vu V (r + 1) ((first + 4 + 0) * 5 + 0) (cwd (fun q => V (r + 1) ((first + q) * 5 + 0)) 0)) (r + 1) ((first + 4 + 0) * 5 + 1) (cwd (fun q => V (r + 1) ((first + q) * 5 + 1)) 0)) (r + 1) ((first + 4 + 0) * 5 + 2) (cwd (fun q => V (r + 1) ((first + q) * 5 + 2)) 0)) (r + 1) i < 2147483647 := fun i hi => by
    unfold vu
    repeat' split
    all_goals first | exact cwd_lt _ _ | exact hV i hi
  have hx3 : ∀ j q, j < 4 → q < 4 → (vu (vu (vu V (r + 1) ((first + 4 + 0) * 5 + 0) (cwd (fun q => V (r + 1) ((first + q) * 5 + 0)) 0)) (r + 1) ((first + 4 + 0) * 5 + 1) (cwd (fun q => V (r + 1) ((first + q) * 5 + 1)) 0)) (r + 1) ((first + 4 + 0) * 5 + 2) (cwd (fun q => V (r + 1) ((first + q) * 5 + 2)) 0)) (r + 1) ((first + q) * 5 + j) = V (r + 1) ((first + q) * 5 + j) := fun j q hj hq => by rw [vu_ne _ _ (by omega), vu_ne _ _ (by omega), vu_ne _ _ (by omega)]
  refine j_iload_n d_R_spread_9 rfl 0 rfl ?_
  refine n_iconst d_R_spread_10 4 (by decide) ?_
  refine n_icmp_ge d_R_spread_11 37 rfl (by omega) (by omega) (fun h => absurd h (by omega)) (fun h => ?_)
  refine j_aload_n d_R_spread_14 rfl 2 rfl ?_
  refine j_iload_n d_R_spread_15 rfl 3 rfl ?_
  refine n_iconst d_R_spread_16 4 (by decide) ?_
  refine n_add d_R_spread_17 ?_
  refine j_iload_n d_R_spread_18 rfl 1 rfl ?_
  refine n_add d_R_spread_19 ?_
  refine j_iload_n d_R_spread_20 rfl 0 rfl ?_
  refine j_aload_n d_R_spread_21 rfl 2 rfl ?_
  refine j_iload_n d_R_spread_22 rfl 3 rfl ?_
  refine j_iload_n d_R_spread_23 rfl 1 rfl ?_
  refine j_iload_n d_R_spread_24 rfl 0 rfl ?_
  refine v_callV d_R_spread_25 mt_R_codedWord ln_R_29 im_R_codedWord se_R_codedWord hr (Nat.lt_of_succ_lt hlt) rfl rfl ⟨Nat.le_of_ble_eq_true rfl, Nat.le_of_ble_eq_true rfl⟩ (Nat.le_of_ble_eq_true rfl) rfl (Nat.zero_le _) (Nat.zero_le _) (c_R_codedWord g (vu (vu (vu V (r + 1) ((first + 4 + 0) * 5 + 0) (cwd (fun q => V (r + 1) ((first + q) * 5 + 0)) 0)) (r + 1) ((first + 4 + 0) * 5 + 1) (cwd (fun q => V (r + 1) ((first + q) * 5 + 1)) 0)) (r + 1) ((first + 4 + 0) * 5 + 2) (cwd (fun q => V (r + 1) ((first + q) * 5 + 2)) 0)) L r hr hn hlt first 0 3 hf (by omega) (by omega) hv3) rfl ?_
  rintro _ _ _ ⟨rfl, rfl, rfl⟩
  rw [show cwd (fun q => (vu (vu (vu V (r + 1) ((first + 4 + 0) * 5 + 0) (cwd (fun q => V (r + 1) ((first + q) * 5 + 0)) 0)) (r + 1) ((first + 4 + 0) * 5 + 1) (cwd (fun q => V (r + 1) ((first + q) * 5 + 1)) 0)) (r + 1) ((first + 4 + 0) * 5 + 2) (cwd (fun q => V (r + 1) ((first + q) * 5 + 2)) 0)) (r + 1) ((first + q) * 5 + 3)) 0 = cwd (fun q => V (r + 1) ((first + q) * 5 + 3)) 0 from cwd_eq 0 (fun q hq => hx3 3 q (by omega) hq)]
  refine v_callV d_R_spread_28 mt_R_set ln_R_21 im_R_set se_R_set hr (Nat.lt_of_succ_lt hlt) rfl rfl ⟨Nat.le_of_ble_eq_true rfl, Nat.le_of_ble_eq_true rfl⟩ (Nat.le_of_ble_eq_true rfl) rfl (Nat.zero_le _) (Nat.zero_le _) (c_R_set g (vu (vu (vu V (r + 1) ((first + 4 + 0) * 5 + 0) (cwd (fun q => V (r + 1) ((first + q) * 5 + 0)) 0)) (r + 1) ((first + 4 + 0) * 5 + 1) (cwd (fun q => V (r + 1) ((first + q) * 5 + 1)) 0)) (r + 1) ((first + 4 + 0) * 5 + 2) (cwd (fun q => V (r + 1) ((first + q) * 5 + 2)) 0)) L r hr hn hlt (first + 4 + 0) 3 (by omega) (by omega) _) rfl ?_
  rintro _ _ _ ⟨rfl, rfl, rfl⟩
  refine n_iinc d_R_spread_31 1 (by decide) 0 rfl (Nat.le_of_ble_eq_true rfl) (lv' := [(3, .int (nI 4)), _, _, _]) rfl ?_
  refine j_goto d_R_spread_34 9 rfl ?_
  have hv4 : ∀ i, i < 120 → (vu (vu (vu (vu V (r + 1) ((first + 4 + 0) * 5 + 0) (cwd (fun q => V (r + 1) ((first + q) * 5 + 0)) 0)) (r + 1) ((first + 4 + 0) * 5 + 1) (cwd (fun q => V (r + 1) ((first + q) * 5 + 1)) 0)) (r + 1) ((first + 4 + 0) * 5 + 2) (cwd (fun q => V (r + 1) ((first + q) * 5 + 2)) 0)) (r + 1) ((first + 4 + 0) * 5 + 3) (cwd (fun q => V (r + 1) ((first + q) * 5 + 3)) 0)) (r + 1) i < 2147483647 := fun i hi => by
    unfold vu
    repeat' split
    all_goals first | exact cwd_lt _ _ | exact hV i hi
  have hx4 : ∀ j q, j < 4 → q < 4 → (vu (vu (vu (vu V (r + 1) ((first + 4 + 0) * 5 + 0) (cwd (fun q => V (r + 1) ((first + q) * 5 + 0)) 0)) (r + 1) ((first + 4 + 0) * 5 + 1) (cwd (fun q => V (r + 1) ((first + q) * 5 + 1)) 0)) (r + 1) ((first + 4 + 0) * 5 + 2) (cwd (fun q => V (r + 1) ((first + q) * 5 + 2)) 0)) (r + 1) ((first + 4 + 0) * 5 + 3) (cwd (fun q => V (r + 1) ((first + q) * 5 + 3)) 0)) (r + 1) ((first + q) * 5 + j) = V (r + 1) ((first + q) * 5 + j) := fun j q hj hq => by rw [vu_ne _ _ (by omega), vu_ne _ _ (by omega), vu_ne _ _ (by omega), vu_ne _ _ (by omega)]
  refine j_iload_n d_R_spread_9 rfl 0 rfl ?_
  refine n_iconst d_R_spread_10 4 (by decide) ?_
  refine n_icmp_ge d_R_spread_11 37 rfl (by omega) (by omega) (fun h => ?_) (fun h => absurd h (by omega))
  refine n_iinc d_R_spread_37 1 (by decide) 1 rfl (Nat.le_of_ble_eq_true rfl) (lv' := [(2, .int (nI 1)), _, _, _]) rfl ?_
  refine j_goto d_R_spread_40 2 rfl ?_
  refine j_iload_n d_R_spread_2 rfl 0 rfl ?_
  refine n_iconst d_R_spread_3 2 (by decide) ?_
  refine n_icmp_ge d_R_spread_4 43 rfl (by omega) (by omega) (fun h => absurd h (by omega)) (fun h => ?_)
  refine n_iconst d_R_spread_7 0 (by decide) ?_
  refine j_istore_n d_R_spread_8 (i := 3) rfl (Nat.le_of_ble_eq_true rfl) (lv' := [_, _, _, _]) rfl ?_
  refine j_iload_n d_R_spread_9 rfl 0 rfl ?_
  refine n_iconst d_R_spread_10 4 (by decide) ?_
  refine n_icmp_ge d_R_spread_11 37 rfl (by omega) (by omega) (fun h => absurd h (by omega)) (fun h => ?_)
  refine j_aload_n d_R_spread_14 rfl 2 rfl ?_
  refine j_iload_n d_R_spread_15 rfl 3 rfl ?_
  refine n_iconst d_R_spread_16 4 (by decide) ?_
  refine n_add d_R_spread_17 ?_
  refine j_iload_n d_R_spread_18 rfl 1 rfl ?_
  refine n_add d_R_spread_19 ?_
  refine j_iload_n d_R_spread_20 rfl 0 rfl ?_
  refine j_aload_n d_R_spread_21 rfl 2 rfl ?_
  refine j_iload_n d_R_spread_22 rfl 3 rfl ?_
  refine j_iload_n d_R_spread_23 rfl 1 rfl ?_
  refine j_iload_n d_R_spread_24 rfl 0 rfl ?_
  refine v_callV d_R_spread_25 mt_R_codedWord ln_R_29 im_R_codedWord se_R_codedWord hr (Nat.lt_of_succ_lt hlt) rfl rfl ⟨Nat.le_of_ble_eq_true rfl, Nat.le_of_ble_eq_true rfl⟩ (Nat.le_of_ble_eq_true rfl) rfl (Nat.zero_le _) (Nat.zero_le _) (c_R_codedWord g (vu (vu (vu (vu V (r + 1) ((first + 4 + 0) * 5 + 0) (cwd (fun q => V (r + 1) ((first + q) * 5 + 0)) 0)) (r + 1) ((first + 4 + 0) * 5 + 1) (cwd (fun q => V (r + 1) ((first + q) * 5 + 1)) 0)) (r + 1) ((first + 4 + 0) * 5 + 2) (cwd (fun q => V (r + 1) ((first + q) * 5 + 2)) 0)) (r + 1) ((first + 4 + 0) * 5 + 3) (cwd (fun q => V (r + 1) ((first + q) * 5 + 3)) 0)) L r hr hn hlt first 1 0 hf (by omega) (by omega) hv4) rfl ?_
  rintro _ _ _ ⟨rfl, rfl, rfl⟩
  rw [show cwd (fun q => (vu (vu (vu (vu V (r + 1) ((first + 4 + 0) * 5 + 0) (cwd (fun q => V (r + 1) ((first + q) * 5 + 0)) 0)) (r + 1) ((first + 4 + 0) * 5 + 1) (cwd (fun q => V (r + 1) ((first + q) * 5 + 1)) 0)) (r + 1) ((first + 4 + 0) * 5 + 2) (cwd (fun q => V (r + 1) ((first + q) * 5 + 2)) 0)) (r + 1) ((first + 4 + 0) * 5 + 3) (cwd (fun q => V (r + 1) ((first + q) * 5 + 3)) 0)) (r + 1) ((first + q) * 5 + 0)) 1 = cwd (fun q => V (r + 1) ((first + q) * 5 + 0)) 1 from cwd_eq 1 (fun q hq => hx4 0 q (by omega) hq)]
  refine v_callV d_R_spread_28 mt_R_set ln_R_21 im_R_set se_R_set hr (Nat.lt_of_succ_lt hlt) rfl rfl ⟨Nat.le_of_ble_eq_true rfl, Nat.le_of_ble_eq_true rfl⟩ (Nat.le_of_ble_eq_true rfl) rfl (Nat.zero_le _) (Nat.zero_le _) (c_R_set g (vu (vu (vu (vu V (r + 1) ((first + 4 + 0) * 5 + 0) (cwd (fun q => V (r + 1) ((first + q) * 5 + 0)) 0)) (r + 1) ((first + 4 + 0) * 5 + 1) (cwd (fun q => V (r + 1) ((first + q) * 5 + 1)) 0)) (r + 1) ((first + 4 + 0) * 5 + 2) (cwd (fun q => V (r + 1) ((first + q) * 5 + 2)) 0)) (r + 1) ((first + 4 + 0) * 5 + 3) (cwd (fun q => V (r + 1) ((first + q) * 5 + 3)) 0)) L r hr hn hlt (first + 4 + 1) 0 (by omega) (by omega) _) rfl ?_
  rintro _ _ _ ⟨rfl, rfl, rfl⟩
  refine n_iinc d_R_spread_31 1 (by decide) 0 rfl (Nat.le_of_ble_eq_true rfl) (lv' := [(3, .int (nI 1)), _, _, _]) rfl ?_
  refine j_goto d_R_spread_34 9 rfl ?_
  have hv5 : ∀ i, i < 120 → (vu (vu (vu (vu (vu V (r + 1) ((first + 4 + 0) * 5 + 0) (cwd (fun q => V (r + 1) ((first + q) * 5 + 0)) 0)) (r + 1) ((first + 4 + 0) * 5 + 1) (cwd (fun q => V (r + 1) ((first + q) * 5 + 1)) 0)) (r + 1) ((first + 4 + 0) * 5 + 2) (cwd (fun q => V (r + 1) ((first + q) * 5 + 2)) 0)) (r + 1) ((first + 4 + 0) * 5 + 3) (cwd (fun q => V (r + 1) ((first + q) * 5 + 3)) 0)) (r + 1) ((first + 4 + 1) * 5 + 0) (cwd (fun q => V (r + 1) ((first + q) * 5 + 0)) 1)) (r + 1) i < 2147483647 := fun i hi => by
    unfold vu
    repeat' split
    all_goals first | exact cwd_lt _ _ | exact hV i hi
  have hx5 : ∀ j q, j < 4 → q < 4 → (vu (vu (vu (vu (vu V (r + 1) ((first + 4 + 0) * 5 + 0) (cwd (fun q => V (r + 1) ((first + q) * 5 + 0)) 0)) (r + 1) ((first + 4 + 0) * 5 + 1) (cwd (fun q => V (r + 1) ((first + q) * 5 + 1)) 0)) (r + 1) ((first + 4 + 0) * 5 + 2) (cwd (fun q => V (r + 1) ((first + q) * 5 + 2)) 0)) (r + 1) ((first + 4 + 0) * 5 + 3) (cwd (fun q => V (r + 1) ((first + q) * 5 + 3)) 0)) (r + 1) ((first + 4 + 1) * 5 + 0) (cwd (fun q => V (r + 1) ((first + q) * 5 + 0)) 1)) (r + 1) ((first + q) * 5 + j) = V (r + 1) ((first + q) * 5 + j) := fun j q hj hq => by rw [vu_ne _ _ (by omega), vu_ne _ _ (by omega), vu_ne _ _ (by omega), vu_ne _ _ (by omega), vu_ne _ _ (by omega)]
  refine j_iload_n d_R_spread_9 rfl 0 rfl ?_
  refine n_iconst d_R_spread_10 4 (by decide) ?_
  refine n_icmp_ge d_R_spread_11 37 rfl (by omega) (by omega) (fun h => absurd h (by omega)) (fun h => ?_)
  refine j_aload_n d_R_spread_14 rfl 2 rfl ?_
  refine j_iload_n d_R_spread_15 rfl 3 rfl ?_
  refine n_iconst d_R_spread_16 4 (by decide) ?_
  refine n_add d_R_spread_17 ?_
  refine j_iload_n d_R_spread_18 rfl 1 rfl ?_
  refine n_add d_R_spread_19 ?_
  refine j_iload_n d_R_spread_20 rfl 0 rfl ?_
  refine j_aload_n d_R_spread_21 rfl 2 rfl ?_
  refine j_iload_n d_R_spread_22 rfl 3 rfl ?_
  refine j_iload_n d_R_spread_23 rfl 1 rfl ?_
  refine j_iload_n d_R_spread_24 rfl 0 rfl ?_
  refine v_callV d_R_spread_25 mt_R_codedWord ln_R_29 im_R_codedWord se_R_codedWord hr (Nat.lt_of_succ_lt hlt) rfl rfl ⟨Nat.le_of_ble_eq_true rfl, Nat.le_of_ble_eq_true rfl⟩ (Nat.le_of_ble_eq_true rfl) rfl (Nat.zero_le _) (Nat.zero_le _) (c_R_codedWord g (vu (vu (vu (vu (vu V (r + 1) ((first + 4 + 0) * 5 + 0) (cwd (fun q => V (r + 1) ((first + q) * 5 + 0)) 0)) (r + 1) ((first + 4 + 0) * 5 + 1) (cwd (fun q => V (r + 1) ((first + q) * 5 + 1)) 0)) (r + 1) ((first + 4 + 0) * 5 + 2) (cwd (fun q => V (r + 1) ((first + q) * 5 + 2)) 0)) (r + 1) ((first + 4 + 0) * 5 + 3) (cwd (fun q => V (r + 1) ((first + q) * 5 + 3)) 0)) (r + 1) ((first + 4 + 1) * 5 + 0) (cwd (fun q => V (r + 1) ((first + q) * 5 + 0)) 1)) L r hr hn hlt first 1 1 hf (by omega) (by omega) hv5) rfl ?_
  rintro _ _ _ ⟨rfl, rfl, rfl⟩
  rw [show cwd (fun q => (vu (vu (vu (vu (vu V (r + 1) ((first + 4 + 0) * 5 + 0) (cwd (fun q => V (r + 1) ((first + q) * 5 + 0)) 0)) (r + 1) ((first + 4 + 0) * 5 + 1) (cwd (fun q => V (r + 1) ((first + q) * 5 + 1)) 0)) (r + 1) ((first + 4 + 0) * 5 + 2) (cwd (fun q => V (r + 1) ((first + q) * 5 + 2)) 0)) (r + 1) ((first + 4 + 0) * 5 + 3) (cwd (fun q => V (r + 1) ((first + q) * 5 + 3)) 0)) (r + 1) ((first + 4 + 1) * 5 + 0) (cwd (fun q => V (r + 1) ((first + q) * 5 + 0)) 1)) (r + 1) ((first + q) * 5 + 1)) 1 = cwd (fun q => V (r + 1) ((first + q) * 5 + 1)) 1 from cwd_eq 1 (fun q hq => hx5 1 q (by omega) hq)]
  refine v_callV d_R_spread_28 mt_R_set ln_R_21 im_R_set se_R_set hr (Nat.lt_of_succ_lt hlt) rfl rfl ⟨Nat.le_of_ble_eq_true rfl, Nat.le_of_ble_eq_true rfl⟩ (Nat.le_of_ble_eq_true rfl) rfl (Nat.zero_le _) (Nat.zero_le _) (c_R_set g (vu (vu (vu (vu (vu V (r + 1) ((first + 4 + 0) * 5 + 0) (cwd (fun q => V (r + 1) ((first + q) * 5 + 0)) 0)) (r + 1) ((first + 4 + 0) * 5 + 1) (cwd (fun q => V (r + 1) ((first + q) * 5 + 1)) 0)) (r + 1) ((first + 4 + 0) * 5 + 2) (cwd (fun q => V (r + 1) ((first + q) * 5 + 2)) 0)) (r + 1) ((first + 4 + 0) * 5 + 3) (cwd (fun q => V (r + 1) ((first + q) * 5 + 3)) 0)) (r + 1) ((first + 4 + 1) * 5 + 0) (cwd (fun q => V (r + 1) ((first + q) * 5 + 0)) 1)) L r hr hn hlt (first + 4 + 1) 1 (by omega) (by omega) _) rfl ?_
  rintro _ _ _ ⟨rfl, rfl, rfl⟩
  refine n_iinc d_R_spread_31 1 (by decide) 0 rfl (Nat.le_of_ble_eq_true rfl) (lv' := [(3, .int (nI 2)), _, _, _]) rfl ?_
  refine j_goto d_R_spread_34 9 rfl ?_
  have hv6 : ∀ i, i < 120 → (vu (vu (vu (vu (vu (vu V (r + 1) ((first + 4 + 0) * 5 + 0) (cwd (fun q => V (r + 1) ((first + q) * 5 + 0)) 0)) (r + 1) ((first + 4 + 0) * 5 + 1) (cwd (fun q => V (r + 1) ((first + q) * 5 + 1)) 0)) (r + 1) ((first + 4 + 0) * 5 + 2) (cwd (fun q => V (r + 1) ((first + q) * 5 + 2)) 0)) (r + 1) ((first + 4 + 0) * 5 + 3) (cwd (fun q => V (r + 1) ((first + q) * 5 + 3)) 0)) (r + 1) ((first + 4 + 1) * 5 + 0) (cwd (fun q => V (r + 1) ((first + q) * 5 + 0)) 1)) (r + 1) ((first + 4 + 1) * 5 + 1) (cwd (fun q => V (r + 1) ((first + q) * 5 + 1)) 1)) (r + 1) i < 2147483647 := fun i hi => by
    unfold vu
    repeat' split
    all_goals first | exact cwd_lt _ _ | exact hV i hi
  have hx6 : ∀ j q, j < 4 → q < 4 → (vu (vu (vu (vu (vu (vu V (r + 1) ((first + 4 + 0) * 5 + 0) (cwd (fun q => V (r + 1) ((first + q) * 5 + 0)) 0)) (r + 1) ((first + 4 + 0) * 5 + 1) (cwd (fun q => V (r + 1) ((first + q) * 5 + 1)) 0)) (r + 1) ((first + 4 + 0) * 5 + 2) (cwd (fun q => V (r + 1) ((first + q) * 5 + 2)) 0)) (r + 1) ((first + 4 + 0) * 5 + 3) (cwd (fun q => V (r + 1) ((first + q) * 5 + 3)) 0)) (r + 1) ((first + 4 + 1) * 5 + 0) (cwd (fun q => V (r + 1) ((first + q) * 5 + 0)) 1)) (r + 1) ((first + 4 + 1) * 5 + 1) (cwd (fun q => V (r + 1) ((first + q) * 5 + 1)) 1)) (r + 1) ((first + q) * 5 + j) = V (r + 1) ((first + q) * 5 + j) := fun j q hj hq => by rw [vu_ne _ _ (by omega), vu_ne _ _ (by omega), vu_ne _ _ (by omega), vu_ne _ _ (by omega), vu_ne _ _ (by omega), vu_ne _ _ (by omega)]
  refine j_iload_n d_R_spread_9 rfl 0 rfl ?_
  refine n_iconst d_R_spread_10 4 (by decide) ?_
  refine n_icmp_ge d_R_spread_11 37 rfl (by omega) (by omega) (fun h => absurd h (by omega)) (fun h => ?_)
  refine j_aload_n d_R_spread_14 rfl 2 rfl ?_
  refine j_iload_n d_R_spread_15 rfl 3 rfl ?_
  refine n_iconst d_R_spread_16 4 (by decide) ?_
  refine n_add d_R_spread_17 ?_
  refine j_iload_n d_R_spread_18 rfl 1 rfl ?_
  refine n_add d_R_spread_19 ?_
  refine j_iload_n d_R_spread_20 rfl 0 rfl ?_
  refine j_aload_n d_R_spread_21 rfl 2 rfl ?_
  refine j_iload_n d_R_spread_22 rfl 3 rfl ?_
  refine j_iload_n d_R_spread_23 rfl 1 rfl ?_
  refine j_iload_n d_R_spread_24 rfl 0 rfl ?_
  refine v_callV d_R_spread_25 mt_R_codedWord ln_R_29 im_R_codedWord se_R_codedWord hr (Nat.lt_of_succ_lt hlt) rfl rfl ⟨Nat.le_of_ble_eq_true rfl, Nat.le_of_ble_eq_true rfl⟩ (Nat.le_of_ble_eq_true rfl) rfl (Nat.zero_le _) (Nat.zero_le _) (c_R_codedWord g (vu (vu (vu (vu (vu (vu V (r + 1) ((first + 4 + 0) * 5 + 0) (cwd (fun q => V (r + 1) ((first + q) * 5 + 0)) 0)) (r + 1) ((first + 4 + 0) * 5 + 1) (cwd (fun q => V (r + 1) ((first + q) * 5 + 1)) 0)) (r + 1) ((first + 4 + 0) * 5 + 2) (cwd (fun q => V (r + 1) ((first + q) * 5 + 2)) 0)) (r + 1) ((first + 4 + 0) * 5 + 3) (cwd (fun q => V (r + 1) ((first + q) * 5 + 3)) 0)) (r + 1) ((first + 4 + 1) * 5 + 0) (cwd (fun q => V (r + 1) ((first + q) * 5 + 0)) 1)) (r + 1) ((first + 4 + 1) * 5 + 1) (cwd (fun q => V (r + 1) ((first + q) * 5 + 1)) 1)) L r hr hn hlt first 1 2 hf (by omega) (by omega) hv6) rfl ?_
  rintro _ _ _ ⟨rfl, rfl, rfl⟩
  rw [show cwd (fun q => (vu (vu (vu (vu (vu (vu V (r + 1) ((first + 4 + 0) * 5 + 0) (cwd (fun q => V (r + 1) ((first + q) * 5 + 0)) 0)) (r + 1) ((first + 4 + 0) * 5 + 1) (cwd (fun q => V (r + 1) ((first + q) * 5 + 1)) 0)) (r + 1) ((first + 4 + 0) * 5 + 2) (cwd (fun q => V (r + 1) ((first + q) * 5 + 2)) 0)) (r + 1) ((first + 4 + 0) * 5 + 3) (cwd (fun q => V (r + 1) ((first + q) * 5 + 3)) 0)) (r + 1) ((first + 4 + 1) * 5 + 0) (cwd (fun q => V (r + 1) ((first + q) * 5 + 0)) 1)) (r + 1) ((first + 4 + 1) * 5 + 1) (cwd (fun q => V (r + 1) ((first + q) * 5 + 1)) 1)) (r + 1) ((first + q) * 5 + 2)) 1 = cwd (fun q => V (r + 1) ((first + q) * 5 + 2)) 1 from cwd_eq 1 (fun q hq => hx6 2 q (by omega) hq)]
  refine v_callV d_R_spread_28 mt_R_set ln_R_21 im_R_set se_R_set hr (Nat.lt_of_succ_lt hlt) rfl rfl ⟨Nat.le_of_ble_eq_true rfl, Nat.le_of_ble_eq_true rfl⟩ (Nat.le_of_ble_eq_true rfl) rfl (Nat.zero_le _) (Nat.zero_le _) (c_R_set g (vu (vu (vu (vu (vu (vu V (r + 1) ((first + 4 + 0) * 5 + 0) (cwd (fun q => V (r + 1) ((first + q) * 5 + 0)) 0)) (r + 1) ((first + 4 + 0) * 5 + 1) (cwd (fun q => V (r + 1) ((first + q) * 5 + 1)) 0)) (r + 1) ((first + 4 + 0) * 5 + 2) (cwd (fun q => V (r + 1) ((first + q) * 5 + 2)) 0)) (r + 1) ((first + 4 + 0) * 5 + 3) (cwd (fun q => V (r + 1) ((first + q) * 5 + 3)) 0)) (r + 1) ((first + 4 + 1) * 5 + 0) (cwd (fun q => V (r + 1) ((first + q) * 5 + 0)) 1)) (r + 1) ((first + 4 + 1) * 5 + 1) (cwd (fun q => V (r + 1) ((first + q) * 5 + 1)) 1)) L r hr hn hlt (first + 4 + 1) 2 (by omega) (by omega) _) rfl ?_
  rintro _ _ _ ⟨rfl, rfl, rfl⟩
  refine n_iinc d_R_spread_31 1 (by decide) 0 rfl (Nat.le_of_ble_eq_true rfl) (lv' := [(3, .int (nI 3)), _, _, _]) rfl ?_
  refine j_goto d_R_spread_34 9 rfl ?_
  have hv7 : ∀ i, i < 120 → (vu (vu (vu (vu (vu (vu (vu V (r + 1) ((first + 4 + 0) * 5 + 0) (cwd (fun q => V (r + 1) ((first + q) * 5 + 0)) 0)) (r + 1) ((first + 4 + 0) * 5 + 1) (cwd (fun q => V (r + 1) ((first + q) * 5 + 1)) 0)) (r + 1) ((first + 4 + 0) * 5 + 2) (cwd (fun q => V (r + 1) ((first + q) * 5 + 2)) 0)) (r + 1) ((first + 4 + 0) * 5 + 3) (cwd (fun q => V (r + 1) ((first + q) * 5 + 3)) 0)) (r + 1) ((first + 4 + 1) * 5 + 0) (cwd (fun q => V (r + 1) ((first + q) * 5 + 0)) 1)) (r + 1) ((first + 4 + 1) * 5 + 1) (cwd (fun q => V (r + 1) ((first + q) * 5 + 1)) 1)) (r + 1) ((first + 4 + 1) * 5 + 2) (cwd (fun q => V (r + 1) ((first + q) * 5 + 2)) 1)) (r + 1) i < 2147483647 := fun i hi => by
    unfold vu
    repeat' split
    all_goals first | exact cwd_lt _ _ | exact hV i hi
  have hx7 : ∀ j q, j < 4 → q < 4 → (vu (vu (vu (vu (vu (vu (vu V (r + 1) ((first + 4 + 0) * 5 + 0) (cwd (fun q => V (r + 1) ((first + q) * 5 + 0)) 0)) (r + 1) ((first + 4 + 0) * 5 + 1) (cwd (fun q => V (r + 1) ((first + q) * 5 + 1)) 0)) (r + 1) ((first + 4 + 0) * 5 + 2) (cwd (fun q => V (r + 1) ((first + q) * 5 + 2)) 0)) (r + 1) ((first + 4 + 0) * 5 + 3) (cwd (fun q => V (r + 1) ((first + q) * 5 + 3)) 0)) (r + 1) ((first + 4 + 1) * 5 + 0) (cwd (fun q => V (r + 1) ((first + q) * 5 + 0)) 1)) (r + 1) ((first + 4 + 1) * 5 + 1) (cwd (fun q => V (r + 1) ((first + q) * 5 + 1)) 1)) (r + 1) ((first + 4 + 1) * 5 + 2) (cwd (fun q => V (r + 1) ((first + q) * 5 + 2)) 1)) (r + 1) ((first + q) * 5 + j) = V (r + 1) ((first + q) * 5 + j) := fun j q hj hq => by rw [vu_ne _ _ (by omega), vu_ne _ _ (by omega), vu_ne _ _ (by omega), vu_ne _ _ (by omega), vu_ne _ _ (by omega), vu_ne _ _ (by omega), vu_ne _ _ (by omega)]
  refine j_iload_n d_R_spread_9 rfl 0 rfl ?_
  refine n_iconst d_R_spread_10 4 (by decide) ?_
  refine n_icmp_ge d_R_spread_11 37 rfl (by omega) (by omega) (fun h => absurd h (by omega)) (fun h => ?_)
  refine j_aload_n d_R_spread_14 rfl 2 rfl ?_
  refine j_iload_n d_R_spread_15 rfl 3 rfl ?_
  refine n_iconst d_R_spread_16 4 (by decide) ?_
  refine n_add d_R_spread_17 ?_
  refine j_iload_n d_R_spread_18 rfl 1 rfl ?_
  refine n_add d_R_spread_19 ?_
  refine j_iload_n d_R_spread_20 rfl 0 rfl ?_
  refine j_aload_n d_R_spread_21 rfl 2 rfl ?_
  refine j_iload_n d_R_spread_22 rfl 3 rfl ?_
  refine j_iload_n d_R_spread_23 rfl 1 rfl ?_
  refine j_iload_n d_R_spread_24 rfl 0 rfl ?_
  refine v_callV d_R_spread_25 mt_R_codedWord ln_R_29 im_R_codedWord se_R_codedWord hr (Nat.lt_of_succ_lt hlt) rfl rfl ⟨Nat.le_of_ble_eq_true rfl, Nat.le_of_ble_eq_true rfl⟩ (Nat.le_of_ble_eq_true rfl) rfl (Nat.zero_le _) (Nat.zero_le _) (c_R_codedWord g (vu (vu (vu (vu (vu (vu (vu V (r + 1) ((first + 4 + 0) * 5 + 0) (cwd (fun q => V (r + 1) ((first + q) * 5 + 0)) 0)) (r + 1) ((first + 4 + 0) * 5 + 1) (cwd (fun q => V (r + 1) ((first + q) * 5 + 1)) 0)) (r + 1) ((first + 4 + 0) * 5 + 2) (cwd (fun q => V (r + 1) ((first + q) * 5 + 2)) 0)) (r + 1) ((first + 4 + 0) * 5 + 3) (cwd (fun q => V (r + 1) ((first + q) * 5 + 3)) 0)) (r + 1) ((first + 4 + 1) * 5 + 0) (cwd (fun q => V (r + 1) ((first + q) * 5 + 0)) 1)) (r + 1) ((first + 4 + 1) * 5 + 1) (cwd (fun q => V (r + 1) ((first + q) * 5 + 1)) 1)) (r + 1) ((first + 4 + 1) * 5 + 2) (cwd (fun q => V (r + 1) ((first + q) * 5 + 2)) 1)) L r hr hn hlt first 1 3 hf (by omega) (by omega) hv7) rfl ?_
  rintro _ _ _ ⟨rfl, rfl, rfl⟩
  rw [show cwd (fun q => (vu (vu (vu (vu (vu (vu (vu V (r + 1) ((first + 4 + 0) * 5 + 0) (cwd (fun q => V (r + 1) ((first + q) * 5 + 0)) 0)) (r + 1) ((first + 4 + 0) * 5 + 1) (cwd (fun q => V (r + 1) ((first + q) * 5 + 1)) 0)) (r + 1) ((first + 4 + 0) * 5 + 2) (cwd (fun q => V (r + 1) ((first + q) * 5 + 2)) 0)) (r + 1) ((first + 4 + 0) * 5 + 3) (cwd (fun q => V (r + 1) ((first + q) * 5 + 3)) 0)) (r + 1) ((first + 4 + 1) * 5 + 0) (cwd (fun q => V (r + 1) ((first + q) * 5 + 0)) 1)) (r + 1) ((first + 4 + 1) * 5 + 1) (cwd (fun q => V (r + 1) ((first + q) * 5 + 1)) 1)) (r + 1) ((first + 4 + 1) * 5 + 2) (cwd (fun q => V (r + 1) ((first + q) * 5 + 2)) 1)) (r + 1) ((first + q) * 5 + 3)) 1 = cwd (fun q => V (r + 1) ((first + q) * 5 + 3)) 1 from cwd_eq 1 (fun q hq => hx7 3 q (by omega) hq)]
  refine v_callV d_R_spread_28 mt_R_set ln_R_21 im_R_set se_R_set hr (Nat.lt_of_succ_lt hlt) rfl rfl ⟨Nat.le_of_ble_eq_true rfl, Nat.le_of_ble_eq_true rfl⟩ (Nat.le_of_ble_eq_true rfl) rfl (Nat.zero_le _) (Nat.zero_le _) (c_R_set g (vu (vu (vu (vu (vu (vu (vu V (r + 1) ((first + 4 + 0) * 5 + 0) (cwd (fun q => V (r + 1) ((first + q) * 5 + 0)) 0)) (r + 1) ((first + 4 + 0) * 5 + 1) (cwd (fun q => V (r + 1) ((first + q) * 5 + 1)) 0)) (r + 1) ((first + 4 + 0) * 5 + 2) (cwd (fun q => V (r + 1) ((first + q) * 5 + 2)) 0)) (r + 1) ((first + 4 + 0) * 5 + 3) (cwd (fun q => V (r + 1) ((first + q) * 5 + 3)) 0)) (r + 1) ((first + 4 + 1) * 5 + 0) (cwd (fun q => V (r + 1) ((first + q) * 5 + 0)) 1)) (r + 1) ((first + 4 + 1) * 5 + 1) (cwd (fun q => V (r + 1) ((first + q) * 5 + 1)) 1)) (r + 1) ((first + 4 + 1) * 5 + 2) (cwd (fun q => V (r + 1) ((first + q) * 5 + 2)) 1)) L r hr hn hlt (first + 4 + 1) 3 (by omega) (by omega) _) rfl ?_
  rintro _ _ _ ⟨rfl, rfl, rfl⟩
  refine n_iinc d_R_spread_31 1 (by decide) 0 rfl (Nat.le_of_ble_eq_true rfl) (lv' := [(3, .int (nI 4)), _, _, _]) rfl ?_
  refine j_goto d_R_spread_34 9 rfl ?_
  refine j_iload_n d_R_spread_9 rfl 0 rfl ?_
  refine n_iconst d_R_spread_10 4 (by decide) ?_
  refine n_icmp_ge d_R_spread_11 37 rfl (by omega) (by omega) (fun h => ?_) (fun h => absurd h (by omega))
  refine n_iinc d_R_spread_37 1 (by decide) 1 rfl (Nat.le_of_ble_eq_true rfl) (lv' := [(2, .int (nI 2)), _, _, _]) rfl ?_
  refine j_goto d_R_spread_40 2 rfl ?_
  refine j_iload_n d_R_spread_2 rfl 0 rfl ?_
  refine n_iconst d_R_spread_3 2 (by decide) ?_
  refine n_icmp_ge d_R_spread_4 43 rfl (by omega) (by omega) (fun h => ?_) (fun h => absurd h (by omega))
  exact v_vret d_R_spread_43 rfl (Nat.zero_le _) (Nat.zero_le _) rfl jA0_rfl
def nms (V : Nat → Nat → Nat) (fr : Nat) : Nat := (if fr < 1 ∧ V 84 0 = 0 then 0 else if fr < 2 ∧ V 84 1 = 0 then 1 else if fr < 3 ∧ V 84 2 = 0 then 2 else if fr < 4 ∧ V 84 3 = 0 then 3 else 4)
theorem c_R_nextMissing (g : jG) (V : Nat → Nat → Nat) (L : Nat → Nat → Int64) (fr : Nat) (hfr : fr ≤ 4) (hV : ∀ i, i < 6 → V 84 i ≤ 1) : jK g Y_R_nextMissing (0, 0) [.ref (jb g + 84), .int (nI fr)] V L (jA0 (some (.int (nI (nms V fr)))) V L) := by
  refine jK_entry (by decide +kernel) rfl (Nat.le_of_ble_eq_true rfl) ?_
  show jJ (g, Y_R_nextMissing, (0, 0), 0, 0, jVQ g (jA0 (some (.int (nI (nms V fr)))) V L)) [(0, .ref (jb g + 84)), (1, .int (nI fr))] (jv (g, Y_R_nextMissing, (0, 0), 0, 0, jVQ g (jA0 (some (.int (nI (nms V fr)))) V L)) V L 0 0) 0 []
  refine j_iload_n d_R_nextMissing_0 rfl 1 rfl ?_
  refine j_istore_n d_R_nextMissing_1 (i := 2) rfl (Nat.le_of_ble_eq_true rfl) (lv' := [_, _, _]) rfl ?_
  refine j_lv [1, 0] rfl ?_
  generalize hφ : jA0 (some (.int (nI (nms V fr)))) V L = φ
  have loop : ∀ (m q : Nat), q + m = 4 → fr ≤ q → (∀ i, fr ≤ i → i < q → ¬ V 84 i = 0) → jJ (g, Y_R_nextMissing, (0, 0), 0, 0, jVQ g φ) [(0, .ref (jb g + 84)), (2, .int (nI q))] (jv (g, Y_R_nextMissing, (0, 0), 0, 0, jVQ g φ) V L 0 0) 2 [] := by
    intro m
    induction m with
    | zero =>
      intro q hq h1 h2
      refine j_iload_n d_R_nextMissing_2 rfl 1 rfl ?_
      refine n_iconst d_R_nextMissing_3 4 (by decide) ?_
      refine n_icmp_ge d_R_nextMissing_4 21 rfl (by omega) (by omega) (fun h => ?_) (fun h => absurd h (by omega))
      subst hφ
      have e : nms V fr = 4 := by
        unfold nms
        have a0 := h2 0
        have a1 := h2 1
        have a2 := h2 2
        have a3 := h2 3
        repeat' split
        all_goals omega
      rw [e]
      refine n_iconst d_R_nextMissing_21 4 (by decide) ?_
      exact v_iret d_R_nextMissing_22 rfl (Nat.zero_le _) (Nat.zero_le _) rfl jA0_rfl
    | succ m ih =>
      intro q hq h1 h2
      refine j_iload_n d_R_nextMissing_2 rfl 1 rfl ?_
      refine n_iconst d_R_nextMissing_3 4 (by decide) ?_
      refine n_icmp_ge d_R_nextMissing_4 21 rfl (by omega) (by omega) (fun h => absurd h (by omega)) (fun h => ?_)
      refine j_aload_n d_R_nextMissing_7 rfl 0 rfl ?_
      refine j_iload_n d_R_nextMissing_8 rfl 1 rfl ?_
      refine v_zld d_R_nextMissing_9 rfl rfl (Nat.le_of_ble_eq_true rfl) rfl (by omega) (by omega) ?_
      refine n_if_ne d_R_nextMissing_10 15 rfl (Nat.lt_of_le_of_lt (hV q (by omega)) (by decide)) (fun h3 => ?_) (fun h3 => ?_)
      · refine n_iinc d_R_nextMissing_15 1 (by decide) 1 rfl (Nat.le_of_ble_eq_true rfl) (lv' := [_, _]) rfl ?_
        refine j_goto d_R_nextMissing_18 2 rfl ?_
        refine j_lv [1, 0] rfl ?_
        refine ih (q + 1) (by omega) (by omega) (fun i hi h5 => ?_)
        by_cases h6 : i = q
        · rw [h6]; exact h3
        · exact h2 i hi (by omega)
      · subst hφ
        have e9 : V 84 q = 0 := h3
        have e : nms V fr = q := by
          unfold nms
          have a0 := h2 0
          have a1 := h2 1
          have a2 := h2 2
          have a3 := h2 3
          rcases (by omega : q = 0 ∨ q = 1 ∨ q = 2 ∨ q = 3) with rfl | rfl | rfl | rfl
          all_goals (repeat' split)
          all_goals omega
        rw [e]
        refine j_iload_n d_R_nextMissing_13 rfl 1 rfl ?_
        exact v_iret d_R_nextMissing_14 rfl (Nat.zero_le _) (Nat.zero_le _) rfl jA0_rfl
  exact loop (4 - fr) fr (by omega) (Nat.le_refl _) (fun i h1 h2 => absurd h1 (by omega))
def rst (V : Nat → Nat → Nat) (r first c j : Nat) : Nat := fmi (V (r + 1) ((first + 4 + c) * 5 + j)) (cwd (fun q => V (r + 1) ((first + q) * 5 + j)) c)
theorem rst_eq {V W : Nat → Nat → Nat} {r first c j : Nat} (h : ∀ i, (first ≤ i ∧ i < first + 4) ∨ i = first + 4 + c → W (r + 1) (i * 5 + j) = V (r + 1) (i * 5 + j)) : rst W r first c j = rst V r first c j := by
  unfold rst
  rw [h (first + 4 + c) (Or.inr rfl), cwd_eq c (fun q hq => h (first + q) (Or.inl ⟨by omega, by omega⟩))]
def rc1 (V : Nat → Nat → Nat) (r first ms c : Nat) : Nat → Nat → Nat := (vu (vu (vu (vu V (r + 1) ((first + ms) * 5 + 0) (fti (rst V r first c 0) (4 + c - ms))) (r + 1) ((first + ms) * 5 + 1) (fti (rst V r first c 1) (4 + c - ms))) (r + 1) ((first + ms) * 5 + 2) (fti (rst V r first c 2) (4 + c - ms))) (r + 1) ((first + ms) * 5 + 3) (fti (rst V r first c 3) (4 + c - ms)))
theorem c_R_recoverOne (g : jG) (V : Nat → Nat → Nat) (L : Nat → Nat → Int64) (r : Nat) (hr : jshp r = jo 5 [(r + 1) + 2]) (hn : jshp (r + 1) = .inl (0, 120)) (hlt : r + 1 < 104) (first ms c : Nat) (hf : first + 6 ≤ 24) (hm : ms < 4) (hc : c < 2) (hV : ∀ i, i < 120 → V (r + 1) i < 2147483647) : jK g Y_R_recoverOne (3, 70) [.ref (jb g + r), .int (nI first), .int (nI ms), .int (nI c)] V L (jA0 none (rc1 V r first ms c) L) := by
  refine jK_entry (by decide +kernel) rfl (Nat.le_of_ble_eq_true rfl) ?_
  show jJ (g, Y_R_recoverOne, (3, 70), 0, 0, jVQ g (jA0 none (rc1 V r first ms c) L)) [(0, .ref (jb g + r)), (1, .int (nI first)), (2, .int (nI ms)), (3, .int (nI c))] (jv (g, Y_R_recoverOne, (3, 70), 0, 0, jVQ g (jA0 none (rc1 V r first ms c) L)) V L 0 0) 0 []
  refine n_iconst d_R_recoverOne_0 0 (by decide) ?_
  refine j_istore d_R_recoverOne_1 (i := 4) (Nat.le_of_ble_eq_true rfl) (lv' := [_, _, _, _, _]) rfl ?_
  refine j_iload d_R_recoverOne_3 0 rfl ?_
  refine n_iconst d_R_recoverOne_5 4 (by decide) ?_
  refine n_icmp_ge d_R_recoverOne_6 40 rfl (by omega) (by omega) (fun h => absurd h (by omega)) (fun h => ?_)
  refine j_aload_n d_R_recoverOne_9 rfl 1 rfl ?_
  refine j_iload_n d_R_recoverOne_10 rfl 2 rfl ?_
  refine j_iload_n d_R_recoverOne_11 rfl 3 rfl ?_
  refine n_add d_R_recoverOne_12 ?_
  refine j_iload d_R_recoverOne_13 0 rfl ?_
  refine j_aload_n d_R_recoverOne_15 rfl 1 rfl ?_
  refine j_iload_n d_R_recoverOne_16 rfl 2 rfl ?_
  refine j_iload_n d_R_recoverOne_17 rfl 4 rfl ?_
  refine j_iload d_R_recoverOne_18 0 rfl ?_
  refine v_callV d_R_recoverOne_20 mt_R_rest ln_R_58 im_R_rest se_R_rest hr (Nat.lt_of_succ_lt hlt) rfl rfl ⟨Nat.le_of_ble_eq_true rfl, Nat.le_of_ble_eq_true rfl⟩ (Nat.le_of_ble_eq_true rfl) rfl (Nat.zero_le _) (Nat.zero_le _) (c_R_rest g V L r hr hn hlt first c 0 hf hc (by omega) hV) rfl ?_
  rintro _ _ _ ⟨rfl, rfl, rfl⟩
  rw [show fmi (V (r + 1) ((first + 4 + c) * 5 + 0)) (cwd (fun q => V (r + 1) ((first + q) * 5 + 0)) c) = rst V r first c 0 from rst_eq (fun i hi => rfl)]
  refine n_iconst d_R_recoverOne_23 4 (by decide) ?_
  refine j_iload_n d_R_recoverOne_24 rfl 4 rfl ?_
  refine n_add d_R_recoverOne_25 ?_
  refine j_iload_n d_R_recoverOne_26 rfl 3 rfl ?_
  refine n_sub d_R_recoverOne_27 (by omega) ?_
  refine v_callS d_R_recoverOne_28 mt_F_times ln_R_38 sm_F_times ⟨Nat.le_of_ble_eq_true rfl, Nat.le_of_ble_eq_true rfl⟩ (Nat.le_of_ble_eq_true rfl) rfl (Nat.zero_le _) (Nat.zero_le _) (c_F_ti g V L (rst V r first c 0) (4 + c - ms) (Nat.lt_of_lt_of_le (fmi_lt _ _) (by decide)) (by omega)) rfl ?_
  rintro _ _ _ ⟨rfl, rfl, rfl⟩
  refine v_callV d_R_recoverOne_31 mt_R_set ln_R_21 im_R_set se_R_set hr (Nat.lt_of_succ_lt hlt) rfl rfl ⟨Nat.le_of_ble_eq_true rfl, Nat.le_of_ble_eq_true rfl⟩ (Nat.le_of_ble_eq_true rfl) rfl (Nat.zero_le _) (Nat.zero_le _) (c_R_set g V L r hr hn hlt (first + ms) 0 (by omega) (by omega) _) rfl ?_
  rintro _ _ _ ⟨rfl, rfl, rfl⟩
  refine n_iinc d_R_recoverOne_34 1 (by decide) 0 rfl (Nat.le_of_ble_eq_true rfl) (lv' := [(4, .int (nI 1)), _, _, _, _]) rfl ?_
  refine j_goto d_R_recoverOne_37 3 rfl ?_
  have hv0 : ∀ i, i < 120 → (vu V (r + 1) ((first + ms) * 5 + 0) (fti (rst V r first c 0) (4 + c - ms))) (r + 1) i < 2147483647 := fun i hi => by
    unfold vu
    repeat' split
    all_goals first | exact fti_lt _ _ | exact hV i hi
  refine j_iload d_R_recoverOne_3 0 rfl ?_
  refine n_iconst d_R_recoverOne_5 4 (by decide) ?_
  refine n_icmp_ge d_R_recoverOne_6 40 rfl (by omega) (by omega) (fun h => absurd h (by omega)) (fun h => ?_)
  refine j_aload_n d_R_recoverOne_9 rfl 1 rfl ?_
  refine j_iload_n d_R_recoverOne_10 rfl 2 rfl ?_
  refine j_iload_n d_R_recoverOne_11 rfl 3 rfl ?_
  refine n_add d_R_recoverOne_12 ?_
  refine j_iload d_R_recoverOne_13 0 rfl ?_
  refine j_aload_n d_R_recoverOne_15 rfl 1 rfl ?_
  refine j_iload_n d_R_recoverOne_16 rfl 2 rfl ?_
  refine j_iload_n d_R_recoverOne_17 rfl 4 rfl ?_
  refine j_iload d_R_recoverOne_18 0 rfl ?_
  refine v_callV d_R_recoverOne_20 mt_R_rest ln_R_58 im_R_rest se_R_rest hr (Nat.lt_of_succ_lt hlt) rfl rfl ⟨Nat.le_of_ble_eq_true rfl, Nat.le_of_ble_eq_true rfl⟩ (Nat.le_of_ble_eq_true rfl) rfl (Nat.zero_le _) (Nat.zero_le _) (c_R_rest g (vu V (r + 1) ((first + ms) * 5 + 0) (fti (rst V r first c 0) (4 + c - ms))) L r hr hn hlt first c 1 hf hc (by omega) hv0) rfl ?_
  rintro _ _ _ ⟨rfl, rfl, rfl⟩
  rw [show fmi ((vu V (r + 1) ((first + ms) * 5 + 0) (fti (rst V r first c 0) (4 + c - ms))) (r + 1) ((first + 4 + c) * 5 + 1)) (cwd (fun q => (vu V (r + 1) ((first + ms) * 5 + 0) (fti (rst V r first c 0) (4 + c - ms))) (r + 1) ((first + q) * 5 + 1)) c) = rst V r first c 1 from rst_eq (fun i hi => by rw [vu_ne _ _ (by omega)])]
  refine n_iconst d_R_recoverOne_23 4 (by decide) ?_
  refine j_iload_n d_R_recoverOne_24 rfl 4 rfl ?_
  refine n_add d_R_recoverOne_25 ?_
  refine j_iload_n d_R_recoverOne_26 rfl 3 rfl ?_
  refine n_sub d_R_recoverOne_27 (by omega) ?_
  refine v_callS d_R_recoverOne_28 mt_F_times ln_R_38 sm_F_times ⟨Nat.le_of_ble_eq_true rfl, Nat.le_of_ble_eq_true rfl⟩ (Nat.le_of_ble_eq_true rfl) rfl (Nat.zero_le _) (Nat.zero_le _) (c_F_ti g (vu V (r + 1) ((first + ms) * 5 + 0) (fti (rst V r first c 0) (4 + c - ms))) L (rst V r first c 1) (4 + c - ms) (Nat.lt_of_lt_of_le (fmi_lt _ _) (by decide)) (by omega)) rfl ?_
  rintro _ _ _ ⟨rfl, rfl, rfl⟩
  refine v_callV d_R_recoverOne_31 mt_R_set ln_R_21 im_R_set se_R_set hr (Nat.lt_of_succ_lt hlt) rfl rfl ⟨Nat.le_of_ble_eq_true rfl, Nat.le_of_ble_eq_true rfl⟩ (Nat.le_of_ble_eq_true rfl) rfl (Nat.zero_le _) (Nat.zero_le _) (c_R_set g (vu V (r + 1) ((first + ms) * 5 + 0) (fti (rst V r first c 0) (4 + c - ms))) L r hr hn hlt (first + ms) 1 (by omega) (by omega) _) rfl ?_
  rintro _ _ _ ⟨rfl, rfl, rfl⟩
  refine n_iinc d_R_recoverOne_34 1 (by decide) 0 rfl (Nat.le_of_ble_eq_true rfl) (lv' := [(4, .int (nI 2)), _, _, _, _]) rfl ?_
  refine j_goto d_R_recoverOne_37 3 rfl ?_
  have hv1 : ∀ i, i < 120 → (vu (vu V (r + 1) ((first + ms) * 5 + 0) (fti (rst V r first c 0) (4 + c - ms))) (r + 1) ((first + ms) * 5 + 1) (fti (rst V r first c 1) (4 + c - ms))) (r + 1) i < 2147483647 := fun i hi => by
    unfold vu
    repeat' split
    all_goals first | exact fti_lt _ _ | exact hV i hi
  refine j_iload d_R_recoverOne_3 0 rfl ?_
  refine n_iconst d_R_recoverOne_5 4 (by decide) ?_
  refine n_icmp_ge d_R_recoverOne_6 40 rfl (by omega) (by omega) (fun h => absurd h (by omega)) (fun h => ?_)
  refine j_aload_n d_R_recoverOne_9 rfl 1 rfl ?_
  refine j_iload_n d_R_recoverOne_10 rfl 2 rfl ?_
  refine j_iload_n d_R_recoverOne_11 rfl 3 rfl ?_
  refine n_add d_R_recoverOne_12 ?_
  refine j_iload d_R_recoverOne_13 0 rfl ?_
  refine j_aload_n d_R_recoverOne_15 rfl 1 rfl ?_
  refine j_iload_n d_R_recoverOne_16 rfl 2 rfl ?_
  refine j_iload_n d_R_recoverOne_17 rfl 4 rfl ?_
  refine j_iload d_R_recoverOne_18 0 rfl ?_
  refine v_callV d_R_recoverOne_20 mt_R_rest ln_R_58 im_R_rest se_R_rest hr (Nat.lt_of_succ_lt hlt) rfl rfl ⟨Nat.le_of_ble_eq_true rfl, Nat.le_of_ble_eq_true rfl⟩ (Nat.le_of_ble_eq_true rfl) rfl (Nat.zero_le _) (Nat.zero_le _) (c_R_rest g (vu (vu V (r + 1) ((first + ms) * 5 + 0) (fti (rst V r first c 0) (4 + c - ms))) (r + 1) ((first + ms) * 5 + 1) (fti (rst V r first c 1) (4 + c - ms))) L r hr hn hlt first c 2 hf hc (by omega) hv1) rfl ?_
  rintro _ _ _ ⟨rfl, rfl, rfl⟩
  rw [show fmi ((vu (vu V (r + 1) ((first + ms) * 5 + 0) (fti (rst V r first c 0) (4 + c - ms))) (r + 1) ((first + ms) * 5 + 1) (fti (rst V r first c 1) (4 + c - ms))) (r + 1) ((first + 4 + c) * 5 + 2)) (cwd (fun q => (vu (vu V (r + 1) ((first + ms) * 5 + 0) (fti (rst V r first c 0) (4 + c - ms))) (r + 1) ((first + ms) * 5 + 1) (fti (rst V r first c 1) (4 + c - ms))) (r + 1) ((first + q) * 5 + 2)) c) = rst V r first c 2 from rst_eq (fun i hi => by rw [vu_ne _ _ (by omega), vu_ne _ _ (by omega)])]
  refine n_iconst d_R_recoverOne_23 4 (by decide) ?_
  refine j_iload_n d_R_recoverOne_24 rfl 4 rfl ?_
  refine n_add d_R_recoverOne_25 ?_
  refine j_iload_n d_R_recoverOne_26 rfl 3 rfl ?_
  refine n_sub d_R_recoverOne_27 (by omega) ?_
  refine v_callS d_R_recoverOne_28 mt_F_times ln_R_38 sm_F_times ⟨Nat.le_of_ble_eq_true rfl, Nat.le_of_ble_eq_true rfl⟩ (Nat.le_of_ble_eq_true rfl) rfl (Nat.zero_le _) (Nat.zero_le _) (c_F_ti g (vu (vu V (r + 1) ((first + ms) * 5 + 0) (fti (rst V r first c 0) (4 + c - ms))) (r + 1) ((first + ms) * 5 + 1) (fti (rst V r first c 1) (4 + c - ms))) L (rst V r first c 2) (4 + c - ms) (Nat.lt_of_lt_of_le (fmi_lt _ _) (by decide)) (by omega)) rfl ?_
  rintro _ _ _ ⟨rfl, rfl, rfl⟩
  refine v_callV d_R_recoverOne_31 mt_R_set ln_R_21 im_R_set se_R_set hr (Nat.lt_of_succ_lt hlt) rfl rfl ⟨Nat.le_of_ble_eq_true rfl, Nat.le_of_ble_eq_true rfl⟩ (Nat.le_of_ble_eq_true rfl) rfl (Nat.zero_le _) (Nat.zero_le _) (c_R_set g (vu (vu V (r + 1) ((first + ms) * 5 + 0) (fti (rst V r first c 0) (4 + c - ms))) (r + 1) ((first + ms) * 5 + 1) (fti (rst V r first c 1) (4 + c - ms))) L r hr hn hlt (first + ms) 2 (by omega) (by omega) _) rfl ?_
  rintro _ _ _ ⟨rfl, rfl, rfl⟩
  refine n_iinc d_R_recoverOne_34 1 (by decide) 0 rfl (Nat.le_of_ble_eq_true rfl) (lv' := [(4, .int (nI 3)), _, _, _, _]) rfl ?_
  refine j_goto d_R_recoverOne_37 3 rfl ?_
  have hv2 : ∀ i, i < 120 → (vu (vu (vu V (r + 1) ((first + ms) * 5 + 0) (fti (rst V r first c 0) (4 + c - ms))) (r + 1) ((first + ms) * 5 + 1) (fti (rst V r first c 1) (4 + c - ms))) (r + 1) ((first + ms) * 5 + 2) (fti (rst V r first c 2) (4 + c - ms))) (r + 1) i < 2147483647 := fun i hi => by
    unfold vu
    repeat' split
    all_goals first | exact fti_lt _ _ | exact hV i hi
  refine j_iload d_R_recoverOne_3 0 rfl ?_
  refine n_iconst d_R_recoverOne_5 4 (by decide) ?_
  refine n_icmp_ge d_R_recoverOne_6 40 rfl (by omega) (by omega) (fun h => absurd h (by omega)) (fun h => ?_)
  refine j_aload_n d_R_recoverOne_9 rfl 1 rfl ?_
  refine j_iload_n d_R_recoverOne_10 rfl 2 rfl ?_
  refine j_iload_n d_R_recoverOne_11 rfl 3 rfl ?_
  refine n_add d_R_recoverOne_12 ?_
  refine j_iload d_R_recoverOne_13 0 rfl ?_
  refine j_aload_n d_R_recoverOne_15 rfl 1 rfl ?_
  refine j_iload_n d_R_recoverOne_16 rfl 2 rfl ?_
  refine j_iload_n d_R_recoverOne_17 rfl 4 rfl ?_
  refine j_iload d_R_recoverOne_18 0 rfl ?_
  refine v_callV d_R_recoverOne_20 mt_R_rest ln_R_58 im_R_rest se_R_rest hr (Nat.lt_of_succ_lt hlt) rfl rfl ⟨Nat.le_of_ble_eq_true rfl, Nat.le_of_ble_eq_true rfl⟩ (Nat.le_of_ble_eq_true rfl) rfl (Nat.zero_le _) (Nat.zero_le _) (c_R_rest g (vu (vu (vu V (r + 1) ((first + ms) * 5 + 0) (fti (rst V r first c 0) (4 + c - ms))) (r + 1) ((first + ms) * 5 + 1) (fti (rst V r first c 1) (4 + c - ms))) (r + 1) ((first + ms) * 5 + 2) (fti (rst V r first c 2) (4 + c - ms))) L r hr hn hlt first c 3 hf hc (by omega) hv2) rfl ?_
  rintro _ _ _ ⟨rfl, rfl, rfl⟩
  rw [show fmi ((vu (vu (vu V (r + 1) ((first + ms) * 5 + 0) (fti (rst V r first c 0) (4 + c - ms))) (r + 1) ((first + ms) * 5 + 1) (fti (rst V r first c 1) (4 + c - ms))) (r + 1) ((first + ms) * 5 + 2) (fti (rst V r first c 2) (4 + c - ms))) (r + 1) ((first + 4 + c) * 5 + 3)) (cwd (fun q => (vu (vu (vu V (r + 1) ((first + ms) * 5 + 0) (fti (rst V r first c 0) (4 + c - ms))) (r + 1) ((first + ms) * 5 + 1) (fti (rst V r first c 1) (4 + c - ms))) (r + 1) ((first + ms) * 5 + 2) (fti (rst V r first c 2) (4 + c - ms))) (r + 1) ((first + q) * 5 + 3)) c) = rst V r first c 3 from rst_eq (fun i hi => by rw [vu_ne _ _ (by omega), vu_ne _ _ (by omega), vu_ne _ _ (by omega)])]
  refine n_iconst d_R_recoverOne_23 4 (by decide) ?_
  refine j_iload_n d_R_recoverOne_24 rfl 4 rfl ?_
  refine n_add d_R_recoverOne_25 ?_
  refine j_iload_n d_R_recoverOne_26 rfl 3 rfl ?_
  refine n_sub d_R_recoverOne_27 (by omega) ?_
  refine v_callS d_R_recoverOne_28 mt_F_times ln_R_38 sm_F_times ⟨Nat.le_of_ble_eq_true rfl, Nat.le_of_ble_eq_true rfl⟩ (Nat.le_of_ble_eq_true rfl) rfl (Nat.zero_le _) (Nat.zero_le _) (c_F_ti g (vu (vu (vu V (r + 1) ((first + ms) * 5 + 0) (fti (rst V r first c 0) (4 + c - ms))) (r + 1) ((first + ms) * 5 + 1) (fti (rst V r first c 1) (4 + c - ms))) (r + 1) ((first + ms) * 5 + 2) (fti (rst V r first c 2) (4 + c - ms))) L (rst V r first c 3) (4 + c - ms) (Nat.lt_of_lt_of_le (fmi_lt _ _) (by decide)) (by omega)) rfl ?_
  rintro _ _ _ ⟨rfl, rfl, rfl⟩
  refine v_callV d_R_recoverOne_31 mt_R_set ln_R_21 im_R_set se_R_set hr (Nat.lt_of_succ_lt hlt) rfl rfl ⟨Nat.le_of_ble_eq_true rfl, Nat.le_of_ble_eq_true rfl⟩ (Nat.le_of_ble_eq_true rfl) rfl (Nat.zero_le _) (Nat.zero_le _) (c_R_set g (vu (vu (vu V (r + 1) ((first + ms) * 5 + 0) (fti (rst V r first c 0) (4 + c - ms))) (r + 1) ((first + ms) * 5 + 1) (fti (rst V r first c 1) (4 + c - ms))) (r + 1) ((first + ms) * 5 + 2) (fti (rst V r first c 2) (4 + c - ms))) L r hr hn hlt (first + ms) 3 (by omega) (by omega) _) rfl ?_
  rintro _ _ _ ⟨rfl, rfl, rfl⟩
  refine n_iinc d_R_recoverOne_34 1 (by decide) 0 rfl (Nat.le_of_ble_eq_true rfl) (lv' := [(4, .int (nI 4)), _, _, _, _]) rfl ?_
  refine j_goto d_R_recoverOne_37 3 rfl ?_
  refine j_iload d_R_recoverOne_3 0 rfl ?_
  refine n_iconst d_R_recoverOne_5 4 (by decide) ?_
  refine n_icmp_ge d_R_recoverOne_6 40 rfl (by omega) (by omega) (fun h => ?_) (fun h => absurd h (by omega))
  exact v_vret d_R_recoverOne_40 rfl (Nat.zero_le _) (Nat.zero_le _) rfl jA0_rfl
