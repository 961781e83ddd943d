theorem jshp_ER : ∀ f, f < 3 → jshp (6 + 5 * f) = jo 5 [(6 + 5 * f + 1) + 2] ∧ jshp (6 + 5 * f + 1) = .inl (0, 120) := by
  intro f hf
  match f, hf with
  | 0, _ => exact ⟨rfl, rfl⟩
  | 1, _ => exact ⟨rfl, rfl⟩
  | 2, _ => exact ⟨rfl, rfl⟩
theorem jshp_YR : ∀ k, k < 4 → ∀ f, f < 3 → jshp (22 + 14 * k + 4 * f) = jo 5 [(22 + 14 * k + 4 * f + 1) + 2] ∧ jshp (22 + 14 * k + 4 * f + 1) = .inl (0, 120) := by
  intro k hk f hf
  match k, hk, f, hf with
  | 0, _, 0, _ => exact ⟨rfl, rfl⟩
  | 0, _, 1, _ => exact ⟨rfl, rfl⟩
  | 0, _, 2, _ => exact ⟨rfl, rfl⟩
  | 1, _, 0, _ => exact ⟨rfl, rfl⟩
  | 1, _, 1, _ => exact ⟨rfl, rfl⟩
  | 1, _, 2, _ => exact ⟨rfl, rfl⟩
  | 2, _, 0, _ => exact ⟨rfl, rfl⟩
  | 2, _, 1, _ => exact ⟨rfl, rfl⟩
  | 2, _, 2, _ => exact ⟨rfl, rfl⟩
  | 3, _, 0, _ => exact ⟨rfl, rfl⟩
  | 3, _, 1, _ => exact ⟨rfl, rfl⟩
  | 3, _, 2, _ => exact ⟨rfl, rfl⟩
/-! AuditDesk.Deposit: tags, completion, secrets, making -/
def tgd (m : Nat) (al x : Nat → Nat) : Nat := fpl (fpl (fpl (fpl m (fti (al 0) (x 0))) (fti (al 1) (x 1))) (fti (al 2) (x 2))) (fti (al 3) (x 3))
theorem tgd_lt (m : Nat) (al x : Nat → Nat) : tgd m al x < 2147483647 := fpl_lt _ _
theorem tgd_eq {m m' : Nat} {al al' x x' : Nat → Nat} (hm : m = m') (ha : ∀ j, j < 4 → al j = al' j) (hx : ∀ j, j < 4 → x j = x' j) : tgd m al x = tgd m' al' x' := by
  unfold tgd
  rw [hm, ha 0 (by omega), ha 1 (by omega), ha 2 (by omega), ha 3 (by omega), hx 0 (by omega), hx 1 (by omega), hx 2 (by omega), hx 3 (by omega)]
theorem inl_ne {q q' t n t' n' : Nat} (h : jshp q = .inl (t, n)) (h' : jshp q' = .inl (t', n')) (hne : n ≠ n') : q ≠ q' := fun e => by
  rw [e, h'] at h
  cases h
  exact hne rfl
theorem inl_no {q q' t n ci : Nat} {fl : List Nat} (h : jshp q = .inl (t, n)) (h' : jshp q' = jo ci fl) : q ≠ q' := fun e => by
  rw [e, h'] at h
  cases h
theorem c_E_tagOf (g : jG) (V : Nat → Nat → Nat) (L : Nat → Nat → Int64) (f : Nat) (hf : f < 3) (r : Nat) (hr : jshp r = jo 5 [(r + 1) + 2]) (hn : jshp (r + 1) = .inl (0, 120)) (hlt : r + 1 < 104) (row : Nat) (hrow : row < 24) (hV : ∀ i, i < 120 → V (r + 1) i < 2147483647) (hal : ∀ i, i < 4 → V (4 + 5 * f) i < 2147483647) (hms : ∀ i, i < 24 → V (5 + 5 * f) i < 2147483647) : jK g Y_E_tagOf (1, 22) [.ref (jb g + (3 + 5 * f)), .ref (jb g + r), .int (nI row)] V L (jA0 (some (.int (nI (tgd (V (5 + 5 * f) row) (V (4 + 5 * f)) (fun j => V (r + 1) (row * 5 + j)))))) V L) := by
  refine jK_entry (by decide +kernel) rfl (Nat.le_of_ble_eq_true rfl) ?_
  show jJ (g, Y_E_tagOf, (1, 22), 0, 0, jVQ g (jA0 (some (.int (nI (tgd (V (5 + 5 * f) row) (V (4 + 5 * f)) (fun j => V (r + 1) (row * 5 + j)))))) V L)) [(0, .ref (jb g + (3 + 5 * f))), (1, .ref (jb g + r)), (2, .int (nI row))] (jv (g, Y_E_tagOf, (1, 22), 0, 0, jVQ g (jA0 (some (.int (nI (tgd (V (5 + 5 * f) row) (V (4 + 5 * f)) (fun j => V (r + 1) (row * 5 + j)))))) V L)) V L 0 0) 0 []
  refine j_aload_n d_E_tagOf_0 rfl 0 rfl ?_
  refine v_getR d_E_tagOf_1 lf_E_15 (jshp_E f hf).1 (by omega) rfl ?_
  refine j_iload_n d_E_tagOf_4 rfl 2 rfl ?_
  refine v_ild d_E_tagOf_5 (jshp_E f hf).2.2.1 rfl (by omega) rfl (by omega) (by omega) ?_
  refine j_istore_n d_E_tagOf_6 (i := 3) rfl (Nat.le_of_ble_eq_true rfl) (lv' := [_, _, _, _]) rfl ?_
  refine n_iconst d_E_tagOf_7 0 (by decide) ?_
  refine j_istore d_E_tagOf_8 (i := 4) (Nat.le_of_ble_eq_true rfl) (lv' := [_, _, _, _, _]) rfl ?_
  refine j_iload d_E_tagOf_10 0 rfl ?_
  refine n_iconst d_E_tagOf_12 4 (by decide) ?_
  refine n_icmp_ge d_E_tagOf_13 44 rfl (by omega) (by omega) (fun h => absurd h (by omega)) (fun h => ?_)
  refine j_iload_n d_E_tagOf_16 rfl 1 rfl ?_
  refine j_aload_n d_E_tagOf_17 rfl 2 rfl ?_
  refine v_getR d_E_tagOf_18 lf_E_9 (jshp_E f hf).1 (by omega) rfl ?_
  refine j_iload d_E_tagOf_21 0 rfl ?_
  refine v_ild d_E_tagOf_23 (jshp_E f hf).2.1 rfl (by omega) rfl (by omega) (by omega) ?_
  refine j_aload_n d_E_tagOf_24 rfl 3 rfl ?_
  refine j_iload_n d_E_tagOf_25 rfl 4 rfl ?_
  refine j_iload d_E_tagOf_26 0 rfl ?_
  refine v_callV d_E_tagOf_28 mt_R_get ln_E_58 im_R_get se_R_get hr (Nat.lt_of_succ_lt hlt) rfl rfl ⟨Nat.le_of_ble_eq_true rfl, Nat.le_of_ble_eq_true rfl⟩ (Nat.le_of_ble_eq_true rfl) rfl (Nat.zero_le _) (Nat.zero_le _) (c_R_get g V L r hr hn hlt row 0 hrow (by omega)) rfl ?_
  rintro _ _ _ ⟨rfl, rfl, rfl⟩
  refine v_callS d_E_tagOf_31 mt_F_times ln_E_62 sm_F_times ⟨Nat.le_of_ble_eq_true rfl, Nat.le_of_ble_eq_true rfl⟩ (Nat.le_of_ble_eq_true rfl) rfl (Nat.zero_le _) (Nat.zero_le _) (c_F_ti g V L (V (4 + 5 * f) 0) (V (r + 1) (row * 5 + 0)) (Nat.lt_of_lt_of_le (hal _ (by omega)) (by decide)) (Nat.lt_of_lt_of_le (hV _ (by omega)) (by decide))) rfl ?_
  rintro _ _ _ ⟨rfl, rfl, rfl⟩
  refine v_callS d_E_tagOf_34 mt_F_plus ln_E_65 sm_F_plus ⟨Nat.le_of_ble_eq_true rfl, Nat.le_of_ble_eq_true rfl⟩ (Nat.le_of_ble_eq_true rfl) rfl (Nat.zero_le _) (Nat.zero_le _) (c_F_pl g V L (V (5 + 5 * f) row) (fti (V (4 + 5 * f) 0) (V (r + 1) (row * 5 + 0))) (Nat.lt_of_lt_of_le (hms _ hrow) (by decide)) (Nat.lt_of_lt_of_le (fti_lt _ _) (by decide))) rfl ?_
  rintro _ _ _ ⟨rfl, rfl, rfl⟩
  refine j_istore_n d_E_tagOf_37 (i := 3) rfl (Nat.le_of_ble_eq_true rfl) (lv' := [_, _, _, _, _]) rfl ?_
  refine j_lv [2, 3, 4, 0, 1] rfl ?_
  refine n_iinc d_E_tagOf_38 1 (by decide) 4 rfl (Nat.le_of_ble_eq_true rfl) (lv' := [(4, .int (nI 1)), _, _, _, _]) rfl ?_
  refine j_goto d_E_tagOf_41 10 rfl ?_
  refine j_iload d_E_tagOf_10 0 rfl ?_
  refine n_iconst d_E_tagOf_12 4 (by decide) ?_
  refine n_icmp_ge d_E_tagOf_13 44 rfl (by omega) (by omega) (fun h => absurd h (by omega)) (fun h => ?_)
  refine j_iload_n d_E_tagOf_16 rfl 4 rfl ?_
  refine j_aload_n d_E_tagOf_17 rfl 1 rfl ?_
  refine v_getR d_E_tagOf_18 lf_E_9 (jshp_E f hf).1 (by omega) rfl ?_
  refine j_iload d_E_tagOf_21 0 rfl ?_
  refine v_ild d_E_tagOf_23 (jshp_E f hf).2.1 rfl (by omega) rfl (by omega) (by omega) ?_
  refine j_aload_n d_E_tagOf_24 rfl 2 rfl ?_
  refine j_iload_n d_E_tagOf_25 rfl 3 rfl ?_
  refine j_iload d_E_tagOf_26 0 rfl ?_
  refine v_callV d_E_tagOf_28 mt_R_get ln_E_58 im_R_get se_R_get hr (Nat.lt_of_succ_lt hlt) rfl rfl ⟨Nat.le_of_ble_eq_true rfl, Nat.le_of_ble_eq_true rfl⟩ (Nat.le_of_ble_eq_true rfl) rfl (Nat.zero_le _) (Nat.zero_le _) (c_R_get g V L r hr hn hlt row 1 hrow (by omega)) rfl ?_
  rintro _ _ _ ⟨rfl, rfl, rfl⟩
  refine v_callS d_E_tagOf_31 mt_F_times ln_E_62 sm_F_times ⟨Nat.le_of_ble_eq_true rfl, Nat.le_of_ble_eq_true rfl⟩ (Nat.le_of_ble_eq_true rfl) rfl (Nat.zero_le _) (Nat.zero_le _) (c_F_ti g V L (V (4 + 5 * f) 1) (V (r + 1) (row * 5 + 1)) (Nat.lt_of_lt_of_le (hal _ (by omega)) (by decide)) (Nat.lt_of_lt_of_le (hV _ (by omega)) (by decide))) rfl ?_
  rintro _ _ _ ⟨rfl, rfl, rfl⟩
  refine v_callS d_E_tagOf_34 mt_F_plus ln_E_65 sm_F_plus ⟨Nat.le_of_ble_eq_true rfl, Nat.le_of_ble_eq_true rfl⟩ (Nat.le_of_ble_eq_true rfl) rfl (Nat.zero_le _) (Nat.zero_le _) (c_F_pl g V L (fpl (V (5 + 5 * f) row) (fti (V (4 + 5 * f) 0) (V (r + 1) (row * 5 + 0)))) (fti (V (4 + 5 * f) 1) (V (r + 1) (row * 5 + 1))) (Nat.lt_of_lt_of_le (fpl_lt _ _) (by decide)) (Nat.lt_of_lt_of_le (fti_lt _ _) (by decide))) rfl ?_
  rintro _ _ _ ⟨rfl, rfl, rfl⟩
  refine j_istore_n d_E_tagOf_37 (i := 3) rfl (Nat.le_of_ble_eq_true rfl) (lv' := [_, _, _, _, _]) rfl ?_
  refine j_lv [2, 3, 4, 0, 1] rfl ?_
  refine n_iinc d_E_tagOf_38 1 (by decide) 4 rfl (Nat.le_of_ble_eq_true rfl) (lv' := [(4, .int (nI 2)), _, _, _, _]) rfl ?_
  refine j_goto d_E_tagOf_41 10 rfl ?_
  refine j_iload d_E_tagOf_10 0 rfl ?_
  refine n_iconst d_E_tagOf_12 4 (by decide) ?_
  refine n_icmp_ge d_E_tagOf_13 44 rfl (by omega) (by omega) (fun h => absurd h (by omega)) (fun h => ?_)
  refine j_iload_n d_E_tagOf_16 rfl 4 rfl ?_
  refine j_aload_n d_E_tagOf_17 rfl 1 rfl ?_
  refine v_getR d_E_tagOf_18 lf_E_9 (jshp_E f hf).1 (by omega) rfl ?_
  refine j_iload d_E_tagOf_21 0 rfl ?_
  refine v_ild d_E_tagOf_23 (jshp_E f hf).2.1 rfl (by omega) rfl (by omega) (by omega) ?_
  refine j_aload_n d_E_tagOf_24 rfl 2 rfl ?_
  refine j_iload_n d_E_tagOf_25 rfl 3 rfl ?_
  refine j_iload d_E_tagOf_26 0 rfl ?_
  refine v_callV d_E_tagOf_28 mt_R_get ln_E_58 im_R_get se_R_get hr (Nat.lt_of_succ_lt hlt) rfl rfl ⟨Nat.le_of_ble_eq_true rfl, Nat.le_of_ble_eq_true rfl⟩ (Nat.le_of_ble_eq_true rfl) rfl (Nat.zero_le _) (Nat.zero_le _) (c_R_get g V L r hr hn hlt row 2 hrow (by omega)) rfl ?_
  rintro _ _ _ ⟨rfl, rfl, rfl⟩
  refine v_callS d_E_tagOf_31 mt_F_times ln_E_62 sm_F_times ⟨Nat.le_of_ble_eq_true rfl, Nat.le_of_ble_eq_true rfl⟩ (Nat.le_of_ble_eq_true rfl) rfl (Nat.zero_le _) (Nat.zero_le _) (c_F_ti g V L (V (4 + 5 * f) 2) (V (r + 1) (row * 5 + 2)) (Nat.lt_of_lt_of_le (hal _ (by omega)) (by decide)) (Nat.lt_of_lt_of_le (hV _ (by omega)) (by decide))) rfl ?_
  rintro _ _ _ ⟨rfl, rfl, rfl⟩
  refine v_callS d_E_tagOf_34 mt_F_plus ln_E_65 sm_F_plus ⟨Nat.le_of_ble_eq_true rfl, Nat.le_of_ble_eq_true rfl⟩ (Nat.le_of_ble_eq_true rfl) rfl (Nat.zero_le _) (Nat.zero_le _) (c_F_pl g V L (fpl (fpl (V (5 + 5 * f) row) (fti (V (4 + 5 * f) 0) (V (r + 1) (row * 5 + 0)))) (fti (V (4 + 5 * f) 1) (V (r + 1) (row * 5 + 1)))) (fti (V (4 + 5 * f) 2) (V (r + 1) (row * 5 + 2))) (Nat.lt_of_lt_of_le (fpl_lt _ _) (by decide)) (Nat.lt_of_lt_of_le (fti_lt _ _) (by decide))) rfl ?_
  rintro _ _ _ ⟨rfl, rfl, rfl⟩
  refine j_istore_n d_E_tagOf_37 (i := 3) rfl (Nat.le_of_ble_eq_true rfl) (lv' := [_, _, _, _, _]) rfl ?_
  refine j_lv [2, 3, 4, 0, 1] rfl ?_
  refine n_iinc d_E_tagOf_38 1 (by decide) 4 rfl (Nat.le_of_ble_eq_true rfl) (lv' := [(4, .int (nI 3)), _, _, _, _]) rfl ?_
  refine j_goto d_E_tagOf_41 10 rfl ?_
  refine j_iload d_E_tagOf_10 0 rfl ?_
  refine n_iconst d_E_tagOf_12 4 (by decide) ?_
  refine n_icmp_ge d_E_tagOf_13 44 rfl (by omega) (by omega) (fun h => absurd h (by omega)) (fun h => ?_)
  refine j_iload_n d_E_tagOf_16 rfl 4 rfl ?_
  refine j_aload_n d_E_tagOf_17 rfl 1 rfl ?_
  refine v_getR d_E_tagOf_18 lf_E_9 (jshp_E f hf).1 (by omega) rfl ?_
  refine j_iload d_E_tagOf_21 0 rfl ?_
  refine v_ild d_E_tagOf_23 (jshp_E f hf).2.1 rfl (by omega) rfl (by omega) (by omega) ?_
  refine j_aload_n d_E_tagOf_24 rfl 2 rfl ?_
  refine j_iload_n d_E_tagOf_25 rfl 3 rfl ?_
  refine j_iload d_E_tagOf_26 0 rfl ?_
  refine v_callV d_E_tagOf_28 mt_R_get ln_E_58 im_R_get se_R_get hr (Nat.lt_of_succ_lt hlt) rfl rfl ⟨Nat.le_of_ble_eq_true rfl, Nat.le_of_ble_eq_true rfl⟩ (Nat.le_of_ble_eq_true rfl) rfl (Nat.zero_le _) (Nat.zero_le _) (c_R_get g V L r hr hn hlt row 3 hrow (by omega)) rfl ?_
  rintro _ _ _ ⟨rfl, rfl, rfl⟩
  refine v_callS d_E_tagOf_31 mt_F_times ln_E_62 sm_F_times ⟨Nat.le_of_ble_eq_true rfl, Nat.le_of_ble_eq_true rfl⟩ (Nat.le_of_ble_eq_true rfl) rfl (Nat.zero_le _) (Nat.zero_le _) (c_F_ti g V L (V (4 + 5 * f) 3) (V (r + 1) (row * 5 + 3)) (Nat.lt_of_lt_of_le (hal _ (by omega)) (by decide)) (Nat.lt_of_lt_of_le (hV _ (by omega)) (by decide))) rfl ?_
  rintro _ _ _ ⟨rfl, rfl, rfl⟩
  refine v_callS d_E_tagOf_34 mt_F_plus ln_E_65 sm_F_plus ⟨Nat.le_of_ble_eq_true rfl, Nat.le_of_ble_eq_true rfl⟩ (Nat.le_of_ble_eq_true rfl) rfl (Nat.zero_le _) (Nat.zero_le _) (c_F_pl g V L (fpl (fpl (fpl (V (5 + 5 * f) row) (fti (V (4 + 5 * f) 0) (V (r + 1) (row * 5 + 0)))) (fti (V (4 + 5 * f) 1) (V (r + 1) (row * 5 + 1)))) (fti (V (4 + 5 * f) 2) (V (r + 1) (row * 5 + 2)))) (fti (V (4 + 5 * f) 3) (V (r + 1) (row * 5 + 3))) (Nat.lt_of_lt_of_le (fpl_lt _ _) (by decide)) (Nat.lt_of_lt_of_le (fti_lt _ _) (by decide))) rfl ?_
  rintro _ _ _ ⟨rfl, rfl, rfl⟩
  refine j_istore_n d_E_tagOf_37 (i := 3) rfl (Nat.le_of_ble_eq_true rfl) (lv' := [_, _, _, _, _]) rfl ?_
  refine j_lv [2, 3, 4, 0, 1] rfl ?_
  refine n_iinc d_E_tagOf_38 1 (by decide) 4 rfl (Nat.le_of_ble_eq_true rfl) (lv' := [(4, .int (nI 4)), _, _, _, _]) rfl ?_
  refine j_goto d_E_tagOf_41 10 rfl ?_
  refine j_iload d_E_tagOf_10 0 rfl ?_
  refine n_iconst d_E_tagOf_12 4 (by decide) ?_
  refine n_icmp_ge d_E_tagOf_13 44 rfl (by omega) (by omega) (fun h => ?_) (fun h => absurd h (by omega))
  refine j_iload_n d_E_tagOf_44 rfl 4 rfl ?_
  exact v_iret d_E_tagOf_45 rfl (Nat.zero_le _) (Nat.zero_le _) rfl jA0_rfl
def drs (V : Nat → Nat → Nat) (a b : Int64) (f : Nat) : Nat → Nat → Nat := fun q i => if q = 4 + 5 * f ∧ i < 4 then sN a b (64 * f + i) else if q = 5 + 5 * f ∧ i < 24 then sN a b (64 * f + 8 + i) else V q i
theorem c_E_drawSecrets (g : jG) (V : Nat → Nat → Nat) (L : Nat → Nat → Int64) (f : Nat) (hf : f < 3) (a b : Int64) : jK g Y_E_drawSecrets (1, 27) [.ref (jb g + (3 + 5 * f)), .long a, .long b, .int (nI f)] V L (jA0 none (drs V a b f) L) := by
  refine jK_entry (by decide +kernel) rfl (Nat.le_of_ble_eq_true rfl) ?_
  show jJ (g, Y_E_drawSecrets, (1, 27), 0, 0, jVQ g (jA0 none (drs V a b f) L)) [(0, .ref (jb g + (3 + 5 * f))), (1, .long a), (3, .long b), (5, .int (nI f))] (jv (g, Y_E_drawSecrets, (1, 27), 0, 0, jVQ g (jA0 none (drs V a b f) L)) V L 0 0) 0 []
  refine n_iconst d_E_drawSecrets_0 0 (by decide) ?_
  refine j_istore d_E_drawSecrets_1 (i := 6) (Nat.le_of_ble_eq_true rfl) (lv' := [_, _, _, _, _]) rfl ?_
  refine j_iload d_E_drawSecrets_3 0 rfl ?_
  refine n_iconst d_E_drawSecrets_5 4 (by decide) ?_
  refine n_icmp_ge d_E_drawSecrets_6 35 rfl (by omega) (by omega) (fun h => absurd h (by omega)) (fun h => ?_)
  refine j_aload_n d_E_drawSecrets_9 rfl 1 rfl ?_
  refine v_getR d_E_drawSecrets_10 lf_E_9 (jshp_E f hf).1 (by omega) rfl ?_
  refine j_iload d_E_drawSecrets_13 0 rfl ?_
  refine j_lload_n d_E_drawSecrets_15 rfl 2 rfl ?_
  refine j_lload_n d_E_drawSecrets_16 rfl 3 rfl ?_
  refine n_bipush d_E_drawSecrets_17 64 (by decide) ?_
  refine j_iload d_E_drawSecrets_19 4 rfl ?_
  refine n_mul d_E_drawSecrets_21 ?_
  refine j_iload d_E_drawSecrets_22 0 rfl ?_
  refine n_add d_E_drawSecrets_24 ?_
  refine v_callS d_E_drawSecrets_25 mt_F_secret ln_E_25 sm_F_secret ⟨Nat.le_of_ble_eq_true rfl, Nat.le_of_ble_eq_true rfl⟩ (Nat.le_of_ble_eq_true rfl) rfl (Nat.zero_le _) (Nat.zero_le _) (c_F_secret g V L a b (64 * f + 0) (by omega)) rfl ?_
  rintro _ _ _ ⟨rfl, rfl, rfl⟩
  refine v_ist d_E_drawSecrets_28 (jshp_E f hf).2.1 rfl (by omega) rfl (by omega) (by omega) ?_
  refine n_iinc d_E_drawSecrets_29 1 (by decide) 0 rfl (Nat.le_of_ble_eq_true rfl) (lv' := [(6, .int (nI 1)), _, _, _, _]) rfl ?_
  refine j_goto d_E_drawSecrets_32 3 rfl ?_
  refine j_iload d_E_drawSecrets_3 0 rfl ?_
  refine n_iconst d_E_drawSecrets_5 4 (by decide) ?_
  refine n_icmp_ge d_E_drawSecrets_6 35 rfl (by omega) (by omega) (fun h => absurd h (by omega)) (fun h => ?_)
  refine j_aload_n d_E_drawSecrets_9 rfl 1 rfl ?_
  refine v_getR d_E_drawSecrets_10 lf_E_9 (jshp_E f hf).1 (by omega) rfl ?_
  refine j_iload d_E_drawSecrets_13 0 rfl ?_
  refine j_lload_n d_E_drawSecrets_15 rfl 2 rfl ?_
  refine j_lload_n d_E_drawSecrets_16 rfl 3 rfl ?_
  refine n_bipush d_E_drawSecrets_17 64 (by decide) ?_
  refine j_iload d_E_drawSecrets_19 4 rfl ?_
  refine n_mul d_E_drawSecrets_21 ?_
  refine j_iload d_E_drawSecrets_22 0 rfl ?_
  refine n_add d_E_drawSecrets_24 ?_
  refine v_callS d_E_drawSecrets_25 mt_F_secret ln_E_25 sm_F_secret ⟨Nat.le_of_ble_eq_true rfl, Nat.le_of_ble_eq_true rfl⟩ (Nat.le_of_ble_eq_true rfl) rfl (Nat.zero_le _) (Nat.zero_le _) (c_F_secret g (vu V (4 + 5 * f) 0 (sN a b (64 * f + 0))) L a b (64 * f + 1) (by omega)) rfl ?_
  rintro _ _ _ ⟨rfl, rfl, rfl⟩
  refine v_ist d_E_drawSecrets_28 (jshp_E f hf).2.1 rfl (by omega) rfl (by omega) (by omega) ?_
  refine n_iinc d_E_drawSecrets_29 1 (by decide) 0 rfl (Nat.le_of_ble_eq_true rfl) (lv' := [(6, .int (nI 2)), _, _, _, _]) rfl ?_
  refine j_goto d_E_drawSecrets_32 3 rfl ?_
  refine j_iload d_E_drawSecrets_3 0 rfl ?_
  refine n_iconst d_E_drawSecrets_5 4 (by decide) ?_
  refine n_icmp_ge d_E_drawSecrets_6 35 rfl (by omega) (by omega) (fun h => absurd h (by omega)) (fun h => ?_)
  refine j_aload_n d_E_drawSecrets_9 rfl 1 rfl ?_
  refine v_getR d_E_drawSecrets_10 lf_E_9 (jshp_E f hf).1 (by omega) rfl ?_
  refine j_iload d_E_drawSecrets_13 0 rfl ?_
  refine j_lload_n d_E_drawSecrets_15 rfl 2 rfl ?_
  refine j_lload_n d_E_drawSecrets_16 rfl 3 rfl ?_
  refine n_bipush d_E_drawSecrets_17 64 (by decide) ?_
  refine j_iload d_E_drawSecrets_19 4 rfl ?_
  refine n_mul d_E_drawSecrets_21 ?_
  refine j_iload d_E_drawSecrets_22 0 rfl ?_
  refine n_add d_E_drawSecrets_24 ?_
  refine v_callS d_E_drawSecrets_25 mt_F_secret ln_E_25 sm_F_secret ⟨Nat.le_of_ble_eq_true rfl, Nat.le_of_ble_eq_true rfl⟩ (Nat.le_of_ble_eq_true rfl) rfl (Nat.zero_le _) (Nat.zero_le _) (c_F_secret g (vu (vu V (4 + 5 * f) 0 (sN a b (64 * f + 0))) (4 + 5 * f) 1 (sN a b (64 * f + 1))) L a b (64 * f + 2) (by omega)) rfl ?_
  rintro _ _ _ ⟨rfl, rfl, rfl⟩
  refine v_ist d_E_drawSecrets_28 (jshp_E f hf).2.1 rfl (by omega) rfl (by omega) (by omega) ?_
  refine n_iinc d_E_drawSecrets_29 1 (by decide) 0 rfl (Nat.le_of_ble_eq_true rfl) (lv' := [(6, .int (nI 3)), _, _, _, _]) rfl ?_
  refine j_goto d_E_drawSecrets_32 3 rfl ?_
  refine j_iload d_E_drawSecrets_3 0 rfl ?_
  refine n_iconst d_E_drawSecrets_5 4 (by decide) ?_
  refine n_icmp_ge d_E_drawSecrets_6 35 rfl (by omega) (by omega) (fun h => absurd h (by omega)) (fun h => ?_)
  refine j_aload_n d_E_drawSecrets_9 rfl 1 rfl ?_
  refine v_getR d_E_drawSecrets_10 lf_E_9 (jshp_E f hf).1 (by omega) rfl ?_
  refine j_iload d_E_drawSecrets_13 0 rfl ?_
  refine j_lload_n d_E_drawSecrets_15 rfl 2 rfl ?_
  refine j_lload_n d_E_drawSecrets_16 rfl 3 rfl ?_
  refine n_bipush d_E_drawSecrets_17 64 (by decide) ?_
  refine j_iload d_E_drawSecrets_19 4 rfl ?_
  refine n_mul d_E_drawSecrets_21 ?_
  refine j_iload d_E_drawSecrets_22 0 rfl ?_
  refine n_add d_E_drawSecrets_24 ?_
  refine v_callS d_E_drawSecrets_25 mt_F_secret ln_E_25 sm_F_secret ⟨Nat.le_of_ble_eq_true rfl, Nat.le_of_ble_eq_true rfl⟩ (Nat.le_of_ble_eq_true rfl) rfl (Nat.zero_le _) (Nat.zero_le _) (c_F_secret g (vu (vu (vu V (4 + 5 * f) 0 (sN a b (64 * f + 0))) (4 + 5 * f) 1 (sN a b (64 * f + 1))) (4 + 5 * f) 2 (sN a b (64 * f + 2))) L a b (64 * f + 3) (by omega)) rfl ?_
  rintro _ _ _ ⟨rfl, rfl, rfl⟩
  refine v_ist d_E_drawSecrets_28 (jshp_E f hf).2.1 rfl (by omega) rfl (by omega) (by omega) ?_
  refine n_iinc d_E_drawSecrets_29 1 (by decide) 0 rfl (Nat.le_of_ble_eq_true rfl) (lv' := [(6, .int (nI 4)), _, _, _, _]) rfl ?_
  refine j_goto d_E_drawSecrets_32 3 rfl ?_
  refine j_iload d_E_drawSecrets_3 0 rfl ?_
  refine n_iconst d_E_drawSecrets_5 4 (by decide) ?_
  refine n_icmp_ge d_E_drawSecrets_6 35 rfl (by omega) (by omega) (fun h => ?_) (fun h => absurd h (by omega))
  refine n_iconst d_E_drawSecrets_35 0 (by decide) ?_
  refine j_istore d_E_drawSecrets_36 (i := 6) (Nat.le_of_ble_eq_true rfl) (lv' := [_, _, _, _, _]) rfl ?_
  refine j_lv [1, 2, 3, 4, 0] rfl ?_
  generalize hφ : jA0 none (drs V a b f) L = φ
  have loop : ∀ (m x : Nat), x + m = 24 → jJ (g, Y_E_drawSecrets, (1, 27), 0, 0, jVQ g φ) [(0, .ref (jb g + (3 + 5 * f))), (1, .long a), (3, .long b), (5, .int (nI f)), (6, .int (nI x))] (jv (g, Y_E_drawSecrets, (1, 27), 0, 0, jVQ g φ) (fun q i => if q = 4 + 5 * f ∧ i < 4 then sN a b (64 * f + i) else if q = 5 + 5 * f ∧ i < x then sN a b (64 * f + 8 + i) else V q i) L 0 0) 38 [] := by
    intro m
    induction m with
    | zero =>
      intro x hx
      obtain rfl : x = 24 := by omega
      refine j_iload d_E_drawSecrets_38 4 rfl ?_
      refine n_bipush d_E_drawSecrets_40 24 (by decide) ?_
      refine n_icmp_ge d_E_drawSecrets_42 74 rfl (by omega) (by omega) (fun h => ?_) (fun h => absurd h (by omega))
      subst hφ
      exact v_vret d_E_drawSecrets_74 rfl (Nat.zero_le _) (Nat.zero_le _) rfl jA0_rfl
    | succ m ih =>
      intro x hx
      refine j_iload d_E_drawSecrets_38 4 rfl ?_
      refine n_bipush d_E_drawSecrets_40 24 (by decide) ?_
      refine n_icmp_ge d_E_drawSecrets_42 74 rfl (by omega) (by omega) (fun h => absurd h (by omega)) (fun h => ?_)
      refine j_aload_n d_E_drawSecrets_45 rfl 0 rfl ?_
      refine v_getR d_E_drawSecrets_46 lf_E_15 (jshp_E f hf).1 (by omega) rfl ?_
      refine j_iload d_E_drawSecrets_49 4 rfl ?_
      refine j_lload_n d_E_drawSecrets_51 rfl 1 rfl ?_
      refine j_lload_n d_E_drawSecrets_52 rfl 2 rfl ?_
      refine n_bipush d_E_drawSecrets_53 64 (by decide) ?_
      refine j_iload d_E_drawSecrets_55 3 rfl ?_
      refine n_mul d_E_drawSecrets_57 ?_
      refine n_bipush d_E_drawSecrets_58 8 (by decide) ?_
      refine n_add d_E_drawSecrets_60 ?_
      refine j_iload d_E_drawSecrets_61 4 rfl ?_
      refine n_add d_E_drawSecrets_63 ?_
      refine v_callS d_E_drawSecrets_64 mt_F_secret ln_E_25 sm_F_secret ⟨Nat.le_of_ble_eq_true rfl, Nat.le_of_ble_eq_true rfl⟩ (Nat.le_of_ble_eq_true rfl) rfl (Nat.zero_le _) (Nat.zero_le _) (c_F_secret g (fun q i => if q = 4 + 5 * f ∧ i < 4 then sN a b (64 * f + i) else if q = 5 + 5 * f ∧ i < x then sN a b (64 * f + 8 + i) else V q i) L a b (64 * f + 8 + x) (by omega)) rfl ?_
      rintro _ _ _ ⟨rfl, rfl, rfl⟩
      refine v_ist d_E_drawSecrets_67 (jshp_E f hf).2.2.1 rfl (by omega) rfl (by omega) (by omega) ?_
      refine n_iinc d_E_drawSecrets_68 1 (by decide) 4 rfl (Nat.le_of_ble_eq_true rfl) (lv' := [_, _, _, _, _]) rfl ?_
      refine j_goto d_E_drawSecrets_71 38 rfl ?_
      refine j_lv [1, 2, 3, 4, 0] rfl ?_
      rw [show vu (fun q i => if q = 4 + 5 * f ∧ i < 4 then sN a b (64 * f + i) else if q = 5 + 5 * f ∧ i < x then sN a b (64 * f + 8 + i) else V q i) (5 + 5 * f) x (sN a b (64 * f + 8 + x)) = (fun q i => if q = 4 + 5 * f ∧ i < 4 then sN a b (64 * f + i) else if q = 5 + 5 * f ∧ i < (x + 1) then sN a b (64 * f + 8 + i) else V q i) from by
        funext q i
        simp only [vu]
        repeat' split
        all_goals first | with_reducible rfl | (exfalso; omega) | (congr 1; omega)]
      exact ih (x + 1) (by omega)
  rw [show (vu (vu (vu (vu V (4 + 5 * f) 0 (sN a b (64 * f + 0))) (4 + 5 * f) 1 (sN a b (64 * f + 1))) (4 + 5 * f) 2 (sN a b (64 * f + 2))) (4 + 5 * f) 3 (sN a b (64 * f + 3))) = (fun q i => if q = 4 + 5 * f ∧ i < 4 then sN a b (64 * f + i) else if q = 5 + 5 * f ∧ i < 0 then sN a b (64 * f + 8 + i) else V q i) from by
    funext q i
    simp only [vu]
    repeat' split
    all_goals first | with_reducible rfl | (exfalso; omega) | (congr 1; omega)]
  exact loop 24 0 (by omega)
