/-! AuditDesk.Challenge: answers and when they hold -/
/-- the sum of the first i asked rows' numbers j, weighed -/
def asm (V : Nat → Nat → Nat) (r j : Nat) : Nat → Nat
  | 0 => 0
  | i + 1 => fpl (asm V r j i) (fti (V 77 i) (V (r + 1) (V 76 i * 5 + j)))
theorem asm_lt (V : Nat → Nat → Nat) (r j : Nat) : ∀ i, asm V r j i < 2147483647
  | 0 => by show 0 < _; omega
  | i + 1 => fpl_lt _ _
def anv (V : Nat → Nat → Nat) (r m : Nat) : Nat → Nat → Nat → Nat
  | 0 => V
  | j + 1 => vu (anv V r m j) 78 j (asm (anv V r m j) r j m)
theorem anv_nq {V : Nat → Nat → Nat} {r m a : Nat} (h : a ≠ 78) : ∀ j, anv V r m j a = V a
  | 0 => rfl
  | j + 1 => (vu_nq _ _ _ h).trans (anv_nq h j)
theorem c_C_answerFrom (g : jG) (V : Nat → Nat → Nat) (L : Nat → Nat → Int64) (r : Nat) (hr : jshp r = jo 5 [(r + 1) + 2]) (hn : jshp (r + 1) = .inl (0, 120)) (hlt : r + 1 < 104) (m : Nat) (hm : m ≤ 24) (hcn : V 75 3 = m) (h76 : ∀ i, i < m → V 76 i < 24) (h77 : ∀ i, i < m → V 77 i < 2147483647) (hV : ∀ i, i < 120 → V (r + 1) i < 2147483647) : jK g Y_C_answerFrom (1, 22) [.ref (jb g + 75), .ref (jb g + r)] V L (jA0 none (anv V r m 5) L) := by
  refine jK_entry (by decide +kernel) rfl (Nat.le_of_ble_eq_true rfl) ?_
  show jJ (g, Y_C_answerFrom, (1, 22), 0, 0, jVQ g (jA0 none (anv V r m 5) L)) [(0, .ref (jb g + 75)), (1, .ref (jb g + r))] (jv (g, Y_C_answerFrom, (1, 22), 0, 0, jVQ g (jA0 none (anv V r m 5) L)) V L 0 0) 0 []
  have n78 : r + 1 ≠ 78 := inl_ne hn (show jshp 78 = .inl (0, 5) from rfl) (by decide)
  generalize hφ : jA0 none (anv V r m 5) L = φ
  have loop1 : ∀ (n j : Nat), j + n = 5 → jJ (g, Y_C_answerFrom, (1, 22), 0, 0, jVQ g φ) [(0, .ref (jb g + 75)), (1, .ref (jb g + r)), (2, .int (nI j))] (jv (g, Y_C_answerFrom, (1, 22), 0, 0, jVQ g φ) (anv V r m j) L 0 0) 2 [] := by
    intro n
    induction n with
    | zero =>
      intro j hj
      obtain rfl : j = 5 := by omega
      refine j_iload_n d_C_answerFrom_2 rfl 2 rfl ?_
      refine n_iconst d_C_answerFrom_3 5 (by decide) ?_
      refine n_icmp_ge d_C_answerFrom_4 67 rfl (by omega) (by omega) (fun h => ?_) (fun h => absurd h (by omega))
      subst hφ
      exact v_vret d_C_answerFrom_67 rfl (Nat.zero_le _) (Nat.zero_le _) rfl jA0_rfl
    | succ n ih =>
      intro j hj
      have inner : ∀ (n i : Nat), i + n = m → jJ (g, Y_C_answerFrom, (1, 22), 0, 0, jVQ g φ) [(0, .ref (jb g + 75)), (1, .ref (jb g + r)), (2, .int (nI j)), (3, .int (nI (asm (anv V r m j) r j i))), (4, .int (nI i))] (jv (g, Y_C_answerFrom, (1, 22), 0, 0, jVQ g φ) (anv V r m j) L 0 0) 12 [] := by
        intro n
        induction n with
        | zero =>
          intro i hi
          obtain rfl : i = m := by omega
          refine j_iload d_C_answerFrom_12 4 rfl ?_
          refine j_aload_n d_C_answerFrom_14 rfl 0 rfl ?_
          refine v_getI d_C_answerFrom_15 lf_C_36 rfl (Nat.le_of_ble_eq_true rfl) rfl ?_
          rw [show anv V r i j 75 3 = i from by rw [anv_nq (by decide), hcn]]
          refine n_icmp_ge d_C_answerFrom_18 54 rfl (by omega) (by omega) (fun h => ?_) (fun h => absurd h (by omega))
          refine j_aload_n d_C_answerFrom_54 rfl 0 rfl ?_
          refine v_getR d_C_answerFrom_55 lf_C_18 rfl (Nat.le_of_ble_eq_true rfl) rfl ?_
          refine j_iload_n d_C_answerFrom_58 rfl 2 rfl ?_
          refine j_iload_n d_C_answerFrom_59 rfl 3 rfl ?_
          refine v_ist d_C_answerFrom_60 rfl rfl (Nat.le_of_ble_eq_true rfl) rfl (by omega) (by omega) ?_
          refine j_lv [0, 1, 2] rfl ?_
          refine n_iinc d_C_answerFrom_61 1 (by decide) 2 rfl (Nat.le_of_ble_eq_true rfl) (lv' := [_, _, _]) rfl ?_
          refine j_goto d_C_answerFrom_64 2 rfl ?_
          refine j_lv [1, 2, 0] rfl ?_
          exact ih (j + 1) (by omega)
        | succ n ihn =>
          intro i hi
          refine j_iload d_C_answerFrom_12 4 rfl ?_
          refine j_aload_n d_C_answerFrom_14 rfl 0 rfl ?_
          refine v_getI d_C_answerFrom_15 lf_C_36 rfl (Nat.le_of_ble_eq_true rfl) rfl ?_
          rw [show anv V r m j 75 3 = m from by rw [anv_nq (by decide), hcn]]
          refine n_icmp_ge d_C_answerFrom_18 54 rfl (by omega) (by omega) (fun h => absurd h (by omega)) (fun h => ?_)
          refine j_iload_n d_C_answerFrom_21 rfl 3 rfl ?_
          refine j_aload_n d_C_answerFrom_22 rfl 0 rfl ?_
          refine v_getR d_C_answerFrom_23 lf_C_15 rfl (Nat.le_of_ble_eq_true rfl) rfl ?_
          refine j_iload d_C_answerFrom_26 4 rfl ?_
          refine v_ild d_C_answerFrom_28 rfl rfl (Nat.le_of_ble_eq_true rfl) rfl (by omega) (by omega) ?_
          refine j_aload_n d_C_answerFrom_29 rfl 1 rfl ?_
          refine j_aload_n d_C_answerFrom_30 rfl 0 rfl ?_
          refine v_getR d_C_answerFrom_31 lf_C_9 rfl (Nat.le_of_ble_eq_true rfl) rfl ?_
          refine j_iload d_C_answerFrom_34 4 rfl ?_
          refine v_ild d_C_answerFrom_36 rfl rfl (Nat.le_of_ble_eq_true rfl) rfl (by omega) (by omega) ?_
          refine j_iload_n d_C_answerFrom_37 rfl 2 rfl ?_
          refine v_callV d_C_answerFrom_38 mt_R_get ln_C_51 im_R_get se_R_get hr (Nat.lt_of_succ_lt hlt) rfl rfl ⟨Nat.le_of_ble_eq_true rfl, Nat.le_of_ble_eq_true rfl⟩ (Nat.le_of_ble_eq_true rfl) rfl (Nat.zero_le _) (Nat.zero_le _) (c_R_get g (anv V r m j) L r hr hn hlt (anv V r m j 76 i) j (by rw [anv_nq (by decide)]; exact h76 i (by omega)) (by omega)) rfl ?_
          rintro _ _ _ ⟨rfl, rfl, rfl⟩
          refine v_callS d_C_answerFrom_41 mt_F_times ln_C_56 sm_F_times ⟨Nat.le_of_ble_eq_true rfl, Nat.le_of_ble_eq_true rfl⟩ (Nat.le_of_ble_eq_true rfl) rfl (Nat.zero_le _) (Nat.zero_le _) (c_F_ti g (anv V r m j) L (anv V r m j 77 i) (anv V r m j (r + 1) (anv V r m j 76 i * 5 + j)) (by rw [anv_nq (by decide)]; exact Nat.lt_trans (h77 i (by omega)) (by decide)) (by rw [anv_nq n78, anv_nq (by decide)]; exact Nat.lt_trans (hV _ (by have := h76 i (by omega); omega)) (by decide))) rfl ?_
          rintro _ _ _ ⟨rfl, rfl, rfl⟩
          refine v_callS d_C_answerFrom_44 mt_F_plus ln_C_59 sm_F_plus ⟨Nat.le_of_ble_eq_true rfl, Nat.le_of_ble_eq_true rfl⟩ (Nat.le_of_ble_eq_true rfl) rfl (Nat.zero_le _) (Nat.zero_le _) (c_F_pl g (anv V r m j) L (asm (anv V r m j) r j i) _ (Nat.lt_of_lt_of_le (asm_lt _ _ _ _) (by decide)) (Nat.lt_of_lt_of_le (fti_lt _ _) (by decide))) rfl ?_
          rintro _ _ _ ⟨rfl, rfl, rfl⟩
          refine j_istore_n d_C_answerFrom_47 (i := 3) rfl (Nat.le_of_ble_eq_true rfl) (lv' := [_, _, _, _, _]) rfl ?_
          refine n_iinc d_C_answerFrom_48 1 (by decide) 4 rfl (Nat.le_of_ble_eq_true rfl) (lv' := [_, _, _, _, _]) rfl ?_
          refine j_goto d_C_answerFrom_51 12 rfl ?_
          refine j_lv [2, 3, 4, 1, 0] rfl ?_
          exact ihn (i + 1) (by omega)
      refine j_iload_n d_C_answerFrom_2 rfl 2 rfl ?_
      refine n_iconst d_C_answerFrom_3 5 (by decide) ?_
      refine n_icmp_ge d_C_answerFrom_4 67 rfl (by omega) (by omega) (fun h => absurd h (by omega)) (fun h => ?_)
      refine n_iconst d_C_answerFrom_7 0 (by decide) ?_
      refine j_istore_n d_C_answerFrom_8 (i := 3) rfl (Nat.le_of_ble_eq_true rfl) (lv' := [_, _, _, _]) rfl ?_
      refine n_iconst d_C_answerFrom_9 0 (by decide) ?_
      refine j_istore d_C_answerFrom_10 (i := 4) (Nat.le_of_ble_eq_true rfl) (lv' := [_, _, _, _, _]) rfl ?_
      refine j_lv [2, 3, 4, 1, 0] rfl ?_
      exact inner m 0 (by omega)
  refine n_iconst d_C_answerFrom_0 0 (by decide) ?_
  refine j_istore_n d_C_answerFrom_1 (i := 2) rfl (Nat.le_of_ble_eq_true rfl) (lv' := [_, _, _]) rfl ?_
  refine j_lv [1, 2, 0] rfl ?_
  exact loop1 5 0 (by omega)
def hdm (V : Nat → Nat → Nat) (f : Nat) : Nat → Nat
  | 0 => 0
  | i + 1 => fpl (hdm V f i) (fti (V 77 i) (V (5 + 5 * f) (V 76 i)))
theorem hdm_lt (V : Nat → Nat → Nat) (f : Nat) : ∀ i, hdm V f i < 2147483647
  | 0 => by show 0 < _; omega
  | i + 1 => fpl_lt _ _
def hld (V : Nat → Nat → Nat) (f m : Nat) : Nat := if V 78 4 = tgd (hdm V f m) (V (4 + 5 * f)) (V 78) then 1 else 0
theorem hld_le (V : Nat → Nat → Nat) (f m : Nat) : hld V f m ≤ 1 := by
  unfold hld
  split <;> omega
theorem c_C_holds (g : jG) (V : Nat → Nat → Nat) (L : Nat → Nat → Int64) (f : Nat) (hf : f < 3) (m : Nat) (hm : m ≤ 24) (hcn : V 75 3 = m) (h76 : ∀ i, i < m → V 76 i < 24) (h77 : ∀ i, i < m → V 77 i < 2147483647) (hal : ∀ i, i < 4 → V (4 + 5 * f) i < 2147483647) (hms : ∀ i, i < 24 → V (5 + 5 * f) i < 2147483647) (han : ∀ i, i < 5 → V 78 i < 2147483647) : jK g Y_C_holds (1, 21) [.ref (jb g + 75), .ref (jb g + (3 + 5 * f))] V L (jA0 (some (.int (nI (hld V f m)))) V L) := by
  refine jK_entry (by decide +kernel) rfl (Nat.le_of_ble_eq_true rfl) ?_
  show jJ (g, Y_C_holds, (1, 21), 0, 0, jVQ g (jA0 (some (.int (nI (hld V f m)))) V L)) [(0, .ref (jb g + 75)), (1, .ref (jb g + (3 + 5 * f)))] (jv (g, Y_C_holds, (1, 21), 0, 0, jVQ g (jA0 (some (.int (nI (hld V f m)))) V L)) V L 0 0) 0 []
  generalize hφ : jA0 (some (.int (nI (hld V f m)))) V L = φ
  have loop : ∀ (n i : Nat), i + n = m → jJ (g, Y_C_holds, (1, 21), 0, 0, jVQ g φ) [(0, .ref (jb g + 75)), (1, .ref (jb g + (3 + 5 * f))), (2, .int (nI (hdm V f i))), (3, .int (nI i))] (jv (g, Y_C_holds, (1, 21), 0, 0, jVQ g φ) V L 0 0) 4 [] := by
    intro n
    induction n with
    | zero =>
      intro i hi
      obtain rfl : i = m := by omega
      refine j_iload_n d_C_holds_4 rfl 3 rfl ?_
      refine j_aload_n d_C_holds_5 rfl 0 rfl ?_
      refine v_getI d_C_holds_6 lf_C_36 rfl (Nat.le_of_ble_eq_true rfl) rfl ?_
      rw [hcn]
      refine n_icmp_ge d_C_holds_9 43 rfl (by omega) (by omega) (fun h => ?_) (fun h => absurd h (by omega))
      refine n_iconst d_C_holds_43 0 (by decide) ?_
      refine j_istore_n d_C_holds_44 (i := 3) rfl (Nat.le_of_ble_eq_true rfl) (lv' := [_, _, _, _]) rfl ?_
      refine j_iload_n d_C_holds_45 rfl 0 rfl ?_
      refine n_iconst d_C_holds_46 4 (by decide) ?_
      refine n_icmp_ge d_C_holds_47 76 rfl (by omega) (by omega) (fun h => absurd h (by omega)) (fun h => ?_)
      refine j_iload_n d_C_holds_50 rfl 3 rfl ?_
      refine j_aload_n d_C_holds_51 rfl 2 rfl ?_
      refine v_getR d_C_holds_52 lf_C_67 (jshp_E f hf).1 (by omega) rfl ?_
      refine j_iload_n d_C_holds_55 rfl 0 rfl ?_
      refine v_ild d_C_holds_56 (jshp_E f hf).2.1 rfl (by omega) rfl (by omega) (by omega) ?_
      refine j_aload_n d_C_holds_57 rfl 1 rfl ?_
      refine v_getR d_C_holds_58 lf_C_18 rfl (Nat.le_of_ble_eq_true rfl) rfl ?_
      refine j_iload_n d_C_holds_61 rfl 0 rfl ?_
      refine v_ild d_C_holds_62 rfl rfl (Nat.le_of_ble_eq_true rfl) rfl (by omega) (by omega) ?_
      refine v_callS d_C_holds_63 mt_F_times ln_C_56 sm_F_times ⟨Nat.le_of_ble_eq_true rfl, Nat.le_of_ble_eq_true rfl⟩ (Nat.le_of_ble_eq_true rfl) rfl (Nat.zero_le _) (Nat.zero_le _) (c_F_ti g V L (V (4 + 5 * f) 0) (V 78 0) (Nat.lt_of_lt_of_le (hal _ (by omega)) (by decide)) (Nat.lt_of_lt_of_le (han _ (by omega)) (by decide))) rfl ?_
      rintro _ _ _ ⟨rfl, rfl, rfl⟩
      refine v_callS d_C_holds_66 mt_F_plus ln_C_59 sm_F_plus ⟨Nat.le_of_ble_eq_true rfl, Nat.le_of_ble_eq_true rfl⟩ (Nat.le_of_ble_eq_true rfl) rfl (Nat.zero_le _) (Nat.zero_le _) (c_F_pl g V L (hdm V f i) (fti (V (4 + 5 * f) 0) (V 78 0)) (Nat.lt_of_lt_of_le (hdm_lt _ _ _) (by decide)) (Nat.lt_of_lt_of_le (fti_lt _ _) (by decide))) rfl ?_
      rintro _ _ _ ⟨rfl, rfl, rfl⟩
      refine j_istore_n d_C_holds_69 (i := 2) rfl (Nat.le_of_ble_eq_true rfl) (lv' := [_, _, _, _]) rfl ?_
      refine j_lv [2, 3, 0, 1] rfl ?_
      refine n_iinc d_C_holds_70 1 (by decide) 3 rfl (Nat.le_of_ble_eq_true rfl) (lv' := [(3, .int (nI 1)), _, _, _]) rfl ?_
      refine j_goto d_C_holds_73 45 rfl ?_
      refine j_iload_n d_C_holds_45 rfl 0 rfl ?_
      refine n_iconst d_C_holds_46 4 (by decide) ?_
      refine n_icmp_ge d_C_holds_47 76 rfl (by omega) (by omega) (fun h => absurd h (by omega)) (fun h => ?_)
      refine j_iload_n d_C_holds_50 rfl 3 rfl ?_
      refine j_aload_n d_C_holds_51 rfl 2 rfl ?_
      refine v_getR d_C_holds_52 lf_C_67 (jshp_E f hf).1 (by omega) rfl ?_
      refine j_iload_n d_C_holds_55 rfl 0 rfl ?_
      refine v_ild d_C_holds_56 (jshp_E f hf).2.1 rfl (by omega) rfl (by omega) (by omega) ?_
      refine j_aload_n d_C_holds_57 rfl 1 rfl ?_
      refine v_getR d_C_holds_58 lf_C_18 rfl (Nat.le_of_ble_eq_true rfl) rfl ?_
      refine j_iload_n d_C_holds_61 rfl 0 rfl ?_
      refine v_ild d_C_holds_62 rfl rfl (Nat.le_of_ble_eq_true rfl) rfl (by omega) (by omega) ?_
      refine v_callS d_C_holds_63 mt_F_times ln_C_56 sm_F_times ⟨Nat.le_of_ble_eq_true rfl, Nat.le_of_ble_eq_true rfl⟩ (Nat.le_of_ble_eq_true rfl) rfl (Nat.zero_le _) (Nat.zero_le _) (c_F_ti g V L (V (4 + 5 * f) 1) (V 78 1) (Nat.lt_of_lt_of_le (hal _ (by omega)) (by decide)) (Nat.lt_of_lt_of_le (han _ (by omega)) (by decide))) rfl ?_
      rintro _ _ _ ⟨rfl, rfl, rfl⟩
      refine v_callS d_C_holds_66 mt_F_plus ln_C_59 sm_F_plus ⟨Nat.le_of_ble_eq_true rfl, Nat.le_of_ble_eq_true rfl⟩ (Nat.le_of_ble_eq_true rfl) rfl (Nat.zero_le _) (Nat.zero_le _) (c_F_pl g V L (fpl (hdm V f i) (fti (V (4 + 5 * f) 0) (V 78 0))) (fti (V (4 + 5 * f) 1) (V 78 1)) (Nat.lt_of_lt_of_le (fpl_lt _ _) (by decide)) (Nat.lt_of_lt_of_le (fti_lt _ _) (by decide))) rfl ?_
      rintro _ _ _ ⟨rfl, rfl, rfl⟩
      refine j_istore_n d_C_holds_69 (i := 2) rfl (Nat.le_of_ble_eq_true rfl) (lv' := [_, _, _, _]) rfl ?_
      refine j_lv [2, 3, 0, 1] rfl ?_
      refine n_iinc d_C_holds_70 1 (by decide) 3 rfl (Nat.le_of_ble_eq_true rfl) (lv' := [(3, .int (nI 2)), _, _, _]) rfl ?_
      refine j_goto d_C_holds_73 45 rfl ?_
      refine j_iload_n d_C_holds_45 rfl 0 rfl ?_
      refine n_iconst d_C_holds_46 4 (by decide) ?_
      refine n_icmp_ge d_C_holds_47 76 rfl (by omega) (by omega) (fun h => absurd h (by omega)) (fun h => ?_)
      refine j_iload_n d_C_holds_50 rfl 3 rfl ?_
      refine j_aload_n d_C_holds_51 rfl 2 rfl ?_
      refine v_getR d_C_holds_52 lf_C_67 (jshp_E f hf).1 (by omega) rfl ?_
      refine j_iload_n d_C_holds_55 rfl 0 rfl ?_
      refine v_ild d_C_holds_56 (jshp_E f hf).2.1 rfl (by omega) rfl (by omega) (by omega) ?_
      refine j_aload_n d_C_holds_57 rfl 1 rfl ?_
      refine v_getR d_C_holds_58 lf_C_18 rfl (Nat.le_of_ble_eq_true rfl) rfl ?_
      refine j_iload_n d_C_holds_61 rfl 0 rfl ?_
      refine v_ild d_C_holds_62 rfl rfl (Nat.le_of_ble_eq_true rfl) rfl (by omega) (by omega) ?_
      refine v_callS d_C_holds_63 mt_F_times ln_C_56 sm_F_times ⟨Nat.le_of_ble_eq_true rfl, Nat.le_of_ble_eq_true rfl⟩ (Nat.le_of_ble_eq_true rfl) rfl (Nat.zero_le _) (Nat.zero_le _) (c_F_ti g V L (V (4 + 5 * f) 2) (V 78 2) (Nat.lt_of_lt_of_le (hal _ (by omega)) (by decide)) (Nat.lt_of_lt_of_le (han _ (by omega)) (by decide))) rfl ?_
      rintro _ _ _ ⟨rfl, rfl, rfl⟩
      refine v_callS d_C_holds_66 mt_F_plus ln_C_59 sm_F_plus ⟨Nat.le_of_ble_eq_true rfl, Nat.le_of_ble_eq_true rfl⟩ (Nat.le_of_ble_eq_true rfl) rfl (Nat.zero_le _) (Nat.zero_le _) (c_F_pl g V L (fpl (fpl (hdm V f i) (fti (V (4 + 5 * f) 0) (V 78 0))) (fti (V (4 + 5 * f) 1) (V 78 1))) (fti (V (4 + 5 * f) 2) (V 78 2)) (Nat.lt_of_lt_of_le (fpl_lt _ _) (by decide)) (Nat.lt_of_lt_of_le (fti_lt _ _) (by decide))) rfl ?_
      rintro _ _ _ ⟨rfl, rfl, rfl⟩
      refine j_istore_n d_C_holds_69 (i := 2) rfl (Nat.le_of_ble_eq_true rfl) (lv' := [_, _, _, _]) rfl ?_
      refine j_lv [2, 3, 0, 1] rfl ?_
      refine n_iinc d_C_holds_70 1 (by decide) 3 rfl (Nat.le_of_ble_eq_true rfl) (lv' := [(3, .int (nI 3)), _, _, _]) rfl ?_
      refine j_goto d_C_holds_73 45 rfl ?_
      refine j_iload_n d_C_holds_45 rfl 0 rfl ?_
      refine n_iconst d_C_holds_46 4 (by decide) ?_
      refine n_icmp_ge d_C_holds_47 76 rfl (by omega) (by omega) (fun h => absurd h (by omega)) (fun h => ?_)
      refine j_iload_n d_C_holds_50 rfl 3 rfl ?_
      refine j_aload_n d_C_holds_51 rfl 2 rfl ?_
      refine v_getR d_C_holds_52 lf_C_67 (jshp_E f hf).1 (by omega) rfl ?_
      refine j_iload_n d_C_holds_55 rfl 0 rfl ?_
      refine v_ild d_C_holds_56 (jshp_E f hf).2.1 rfl (by omega) rfl (by omega) (by omega) ?_
      refine j_aload_n d_C_holds_57 rfl 1 rfl ?_
      refine v_getR d_C_holds_58 lf_C_18 rfl (Nat.le_of_ble_eq_true rfl) rfl ?_
      refine j_iload_n d_C_holds_61 rfl 0 rfl ?_
      refine v_ild d_C_holds_62 rfl rfl (Nat.le_of_ble_eq_true rfl) rfl (by omega) (by omega) ?_
      refine v_callS d_C_holds_63 mt_F_times ln_C_56 sm_F_times ⟨Nat.le_of_ble_eq_true rfl, Nat.le_of_ble_eq_true rfl⟩ (Nat.le_of_ble_eq_true rfl) rfl (Nat.zero_le _) (Nat.zero_le _) (c_F_ti g V L (V (4 + 5 * f) 3) (V 78 3) (Nat.lt_of_lt_of_le (hal _ (by omega)) (by decide)) (Nat.lt_of_lt_of_le (han _ (by omega)) (by decide))) rfl ?_
      rintro _ _ _ ⟨rfl, rfl, rfl⟩
      refine v_callS d_C_holds_66 mt_F_plus ln_C_59 sm_F_plus ⟨Nat.le_of_ble_eq_true rfl, Nat.le_of_ble_eq_true rfl⟩ (Nat.le_of_ble_eq_true rfl) rfl (Nat.zero_le _) (Nat.zero_le _) (c_F_pl g V L (fpl (fpl (fpl (hdm V f i) (fti (V (4 + 5 * f) 0) (V 78 0))) (fti (V (4 + 5 * f) 1) (V 78 1))) (fti (V (4 + 5 * f) 2) (V 78 2))) (fti (V (4 + 5 * f) 3) (V 78 3)) (Nat.lt_of_lt_of_le (fpl_lt _ _) (by decide)) (Nat.lt_of_lt_of_le (fti_lt _ _) (by decide))) rfl ?_
      rintro _ _ _ ⟨rfl, rfl, rfl⟩
      refine j_istore_n d_C_holds_69 (i := 2) rfl (Nat.le_of_ble_eq_true rfl) (lv' := [_, _, _, _]) rfl ?_
      refine j_lv [2, 3, 0, 1] rfl ?_
      refine n_iinc d_C_holds_70 1 (by decide) 3 rfl (Nat.le_of_ble_eq_true rfl) (lv' := [(3, .int (nI 4)), _, _, _]) rfl ?_
      refine j_goto d_C_holds_73 45 rfl ?_
      refine j_iload_n d_C_holds_45 rfl 0 rfl ?_
      refine n_iconst d_C_holds_46 4 (by decide) ?_
      refine n_icmp_ge d_C_holds_47 76 rfl (by omega) (by omega) (fun h => ?_) (fun h => absurd h (by omega))
      refine j_aload_n d_C_holds_76 rfl 1 rfl ?_
      refine v_getR d_C_holds_77 lf_C_18 rfl (Nat.le_of_ble_eq_true rfl) rfl ?_
      refine n_iconst d_C_holds_80 4 (by decide) ?_
      refine v_ild d_C_holds_81 rfl rfl (Nat.le_of_ble_eq_true rfl) rfl (by omega) (by omega) ?_
      refine j_iload_n d_C_holds_82 rfl 3 rfl ?_
      refine n_icmp_ne d_C_holds_83 90 rfl (Nat.lt_of_lt_of_le (han _ (by omega)) (by decide)) (Nat.lt_of_lt_of_le (fpl_lt _ _) (by decide)) (fun a1 => ?_) (fun a1 => ?_)
      · subst hφ
        rw [show hld V f i = 0 from if_neg a1]
        refine n_iconst d_C_holds_90 0 (by decide) ?_
        exact v_zret d_C_holds_91 rfl (by omega) (Nat.zero_le _) (Nat.zero_le _) rfl jA0_rfl
      · subst hφ
        rw [show hld V f i = 1 from if_pos a1]
        refine n_iconst d_C_holds_86 1 (by decide) ?_
        refine j_goto d_C_holds_87 91 rfl ?_
        exact v_zret d_C_holds_91 rfl (by omega) (Nat.zero_le _) (Nat.zero_le _) rfl jA0_rfl
    | succ n ih =>
      intro i hi
      refine j_iload_n d_C_holds_4 rfl 3 rfl ?_
      refine j_aload_n d_C_holds_5 rfl 0 rfl ?_
      refine v_getI d_C_holds_6 lf_C_36 rfl (Nat.le_of_ble_eq_true rfl) rfl ?_
      rw [hcn]
      refine n_icmp_ge d_C_holds_9 43 rfl (by omega) (by omega) (fun h => absurd h (by omega)) (fun h => ?_)
      refine j_iload_n d_C_holds_12 rfl 2 rfl ?_
      refine j_aload_n d_C_holds_13 rfl 0 rfl ?_
      refine v_getR d_C_holds_14 lf_C_15 rfl (Nat.le_of_ble_eq_true rfl) rfl ?_
      refine j_iload_n d_C_holds_17 rfl 3 rfl ?_
      refine v_ild d_C_holds_18 rfl rfl (Nat.le_of_ble_eq_true rfl) rfl (by omega) (by omega) ?_
      refine j_aload_n d_C_holds_19 rfl 1 rfl ?_
      refine v_getR d_C_holds_20 lf_C_62 (jshp_E f hf).1 (by omega) rfl ?_
      refine j_aload_n d_C_holds_23 rfl 0 rfl ?_
      refine v_getR d_C_holds_24 lf_C_9 rfl (Nat.le_of_ble_eq_true rfl) rfl ?_
      refine j_iload_n d_C_holds_27 rfl 3 rfl ?_
      refine v_ild d_C_holds_28 rfl rfl (Nat.le_of_ble_eq_true rfl) rfl (by omega) (by omega) ?_
      refine v_ild d_C_holds_29 (jshp_E f hf).2.2.1 rfl (by omega) rfl (h76 i (by omega)) (by omega) ?_
      refine v_callS d_C_holds_30 mt_F_times ln_C_56 sm_F_times ⟨Nat.le_of_ble_eq_true rfl, Nat.le_of_ble_eq_true rfl⟩ (Nat.le_of_ble_eq_true rfl) rfl (Nat.zero_le _) (Nat.zero_le _) (c_F_ti g V L (V 77 i) (V (5 + 5 * f) (V 76 i)) (Nat.lt_of_lt_of_le (h77 i (by omega)) (by decide)) (Nat.lt_of_lt_of_le (hms _ (h76 i (by omega))) (by decide))) rfl ?_
      rintro _ _ _ ⟨rfl, rfl, rfl⟩
      refine v_callS d_C_holds_33 mt_F_plus ln_C_59 sm_F_plus ⟨Nat.le_of_ble_eq_true rfl, Nat.le_of_ble_eq_true rfl⟩ (Nat.le_of_ble_eq_true rfl) rfl (Nat.zero_le _) (Nat.zero_le _) (c_F_pl g V L (hdm V f i) _ (Nat.lt_of_lt_of_le (hdm_lt _ _ _) (by decide)) (Nat.lt_of_lt_of_le (fti_lt _ _) (by decide))) rfl ?_
      rintro _ _ _ ⟨rfl, rfl, rfl⟩
      refine j_istore_n d_C_holds_36 (i := 2) rfl (Nat.le_of_ble_eq_true rfl) (lv' := [_, _, _, _]) rfl ?_
      refine n_iinc d_C_holds_37 1 (by decide) 3 rfl (Nat.le_of_ble_eq_true rfl) (lv' := [_, _, _, _]) rfl ?_
      refine j_goto d_C_holds_40 4 rfl ?_
      refine j_lv [2, 3, 1, 0] rfl ?_
      exact ih (i + 1) (by omega)
  refine n_iconst d_C_holds_0 0 (by decide) ?_
  refine j_istore_n d_C_holds_1 (i := 2) rfl (Nat.le_of_ble_eq_true rfl) (lv' := [_, _, _]) rfl ?_
  refine n_iconst d_C_holds_2 0 (by decide) ?_
  refine j_istore_n d_C_holds_3 (i := 3) rfl (Nat.le_of_ble_eq_true rfl) (lv' := [_, _, _, _]) rfl ?_
  refine j_lv [2, 3, 1, 0] rfl ?_
  exact loop m 0 (by omega)
