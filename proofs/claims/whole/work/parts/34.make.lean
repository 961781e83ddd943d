/-! Deposit.complete, Deposit.make; Copy; Keeper.tally -/
/-- the coded rows of the first t groups laid -/
def spall (V : Nat → Nat → Nat) (r : Nat) : Nat → Nat → Nat → Nat
  | 0 => V
  | t + 1 => spd (spall V r t) r (6 * t)
theorem spd_nq {V : Nat → Nat → Nat} {r first a : Nat} (h : a ≠ r + 1) : spd V r first a = V a := by
  unfold spd
  rw [vu_nq _ _ _ h, vu_nq _ _ _ h, vu_nq _ _ _ h, vu_nq _ _ _ h, vu_nq _ _ _ h, vu_nq _ _ _ h, vu_nq _ _ _ h, vu_nq _ _ _ h]
theorem spall_nq {V : Nat → Nat → Nat} {r a : Nat} (h : a ≠ r + 1) : ∀ t, spall V r t a = V a
  | 0 => rfl
  | t + 1 => (spd_nq h).trans (spall_nq h t)
theorem spall_lt {V : Nat → Nat → Nat} {r : Nat} (hV : ∀ i, i < 120 → V (r + 1) i < 2147483647) : ∀ t i, i < 120 → spall V r t (r + 1) i < 2147483647
  | 0 => hV
  | t + 1 => spd_lt (spall_lt hV t)
/-- the tags of the first n rows laid -/
def tall (V : Nat → Nat → Nat) (f r : Nat) : Nat → Nat → Nat → Nat
  | 0 => V
  | n + 1 => vu (tall V f r n) (r + 1) (n * 5 + 4) (tgd (tall V f r n (5 + 5 * f) n) (tall V f r n (4 + 5 * f)) (fun j => tall V f r n (r + 1) (n * 5 + j)))
theorem tall_nq {V : Nat → Nat → Nat} {f r a : Nat} (h : a ≠ r + 1) : ∀ n, tall V f r n a = V a
  | 0 => rfl
  | n + 1 => (vu_nq _ _ _ h).trans (tall_nq h n)
theorem tall_lt {V : Nat → Nat → Nat} {f r : Nat} (hV : ∀ i, i < 120 → V (r + 1) i < 2147483647) : ∀ n i, i < 120 → tall V f r n (r + 1) i < 2147483647
  | 0 => hV
  | n + 1 => fun i hi => by
    unfold tall vu
    split
    · exact tgd_lt _ _ _
    · exact tall_lt hV n i hi
def cmpl (V : Nat → Nat → Nat) (f r G : Nat) : Nat → Nat → Nat := tall (spall V r G) f r (6 * G)
theorem c_E_complete (g : jG) (V : Nat → Nat → Nat) (L : Nat → Nat → Int64) (f : Nat) (hf : f < 3) (r : Nat) (hr : jshp r = jo 5 [(r + 1) + 2]) (hn : jshp (r + 1) = .inl (0, 120)) (hlt : r + 1 < 104) (G : Nat) (hG : G ≤ 4) (hrc : V (3 + 5 * f) 1 = 6 * G) (hV : ∀ i, i < 120 → V (r + 1) i < 2147483647) (hal : ∀ i, i < 4 → V (4 + 5 * f) i < 2147483647) (hms : ∀ i, i < 24 → V (5 + 5 * f) i < 2147483647) : jK g Y_E_complete (3, 70) [.ref (jb g + (3 + 5 * f)), .ref (jb g + r)] V L (jA0 none (cmpl V f r G) L) := by
  refine jK_entry (by decide +kernel) rfl (Nat.le_of_ble_eq_true rfl) ?_
  show jJ (g, Y_E_complete, (3, 70), 0, 0, jVQ g (jA0 none (cmpl V f r G) L)) [(0, .ref (jb g + (3 + 5 * f))), (1, .ref (jb g + r))] (jv (g, Y_E_complete, (3, 70), 0, 0, jVQ g (jA0 none (cmpl V f r G) L)) V L 0 0) 0 []
  have n3 : 3 + 5 * f ≠ r + 1 := (inl_no hn (jshp_E f hf).1).symm
  have n4 : 4 + 5 * f ≠ r + 1 := (inl_ne hn (jshp_E f hf).2.1 (by decide)).symm
  have n5 : 5 + 5 * f ≠ r + 1 := (inl_ne hn (jshp_E f hf).2.2.1 (by decide)).symm
  generalize hφ : jA0 none (cmpl V f r G) L = φ
  have loop2 : ∀ (m x : Nat), x + m = 6 * G → jJ (g, Y_E_complete, (3, 70), 0, 0, jVQ g φ) [(0, .ref (jb g + (3 + 5 * f))), (1, .ref (jb g + r)), (2, .int (nI x))] (jv (g, Y_E_complete, (3, 70), 0, 0, jVQ g φ) (tall (spall V r G) f r x) L 0 0) 23 [] := by
    intro m
    induction m with
    | zero =>
      intro x hx
      obtain rfl : x = 6 * G := by omega
      refine j_iload_n d_E_complete_23 rfl 2 rfl ?_
      refine j_aload_n d_E_complete_24 rfl 0 rfl ?_
      refine v_getI d_E_complete_25 lf_E_35 (jshp_E f hf).1 (by omega) rfl ?_
      rw [(show tall (spall V r G) f r (6 * G) (3 + 5 * f) 1 = 6 * G from by rw [tall_nq n3, spall_nq n3, hrc])]
      refine n_icmp_ge d_E_complete_28 49 rfl (by omega) (by omega) (fun h => ?_) (fun h => absurd h (by omega))
      subst hφ
      exact v_vret d_E_complete_49 rfl (Nat.zero_le _) (Nat.zero_le _) rfl jA0_rfl
    | succ m ih =>
      intro x hx
      refine j_iload_n d_E_complete_23 rfl 2 rfl ?_
      refine j_aload_n d_E_complete_24 rfl 0 rfl ?_
      refine v_getI d_E_complete_25 lf_E_35 (jshp_E f hf).1 (by omega) rfl ?_
      rw [(show tall (spall V r G) f r x (3 + 5 * f) 1 = 6 * G from by rw [tall_nq n3, spall_nq n3, hrc])]
      refine n_icmp_ge d_E_complete_28 49 rfl (by omega) (by omega) (fun h => absurd h (by omega)) (fun h => ?_)
      refine j_aload_n d_E_complete_31 rfl 1 rfl ?_
      refine j_iload_n d_E_complete_32 rfl 2 rfl ?_
      refine n_iconst d_E_complete_33 4 (by decide) ?_
      refine j_aload_n d_E_complete_34 rfl 0 rfl ?_
      refine j_aload_n d_E_complete_35 rfl 1 rfl ?_
      refine j_iload_n d_E_complete_36 rfl 2 rfl ?_
      refine v_callV d_E_complete_37 mt_E_tagOf ln_E_54 im_E_tagOf se_E_tagOf (jshp_E f hf).1 (by omega) rfl rfl ⟨Nat.le_of_ble_eq_true rfl, Nat.le_of_ble_eq_true rfl⟩ (Nat.le_of_ble_eq_true rfl) rfl (Nat.zero_le _) (Nat.zero_le _) (c_E_tagOf g (tall (spall V r G) f r x) L f hf r hr hn hlt x (by omega) (tall_lt (spall_lt hV G) x) (by rw [tall_nq n4, spall_nq n4]; exact hal) (by rw [tall_nq n5, spall_nq n5]; exact hms)) rfl ?_
      rintro _ _ _ ⟨rfl, rfl, rfl⟩
      refine v_callV d_E_complete_40 mt_R_set ln_E_42 im_R_set se_R_set hr (Nat.lt_of_succ_lt hlt) rfl rfl ⟨Nat.le_of_ble_eq_true rfl, Nat.le_of_ble_eq_true rfl⟩ (Nat.le_of_ble_eq_true rfl) rfl (Nat.zero_le _) (Nat.zero_le _) (c_R_set g (tall (spall V r G) f r x) L r hr hn hlt x 4 (by omega) (by omega) _) rfl ?_
      rintro _ _ _ ⟨rfl, rfl, rfl⟩
      refine n_iinc d_E_complete_43 1 (by decide) 2 rfl (Nat.le_of_ble_eq_true rfl) (lv' := [_, _, _]) rfl ?_
      refine j_goto d_E_complete_46 23 rfl ?_
      refine j_lv [1, 2, 0] rfl ?_
      exact ih (x + 1) (by omega)
  have loop1 : ∀ (m t : Nat), t + m = G → jJ (g, Y_E_complete, (3, 70), 0, 0, jVQ g φ) [(0, .ref (jb g + (3 + 5 * f))), (1, .ref (jb g + r)), (2, .int (nI (6 * t)))] (jv (g, Y_E_complete, (3, 70), 0, 0, jVQ g φ) (spall V r t) L 0 0) 2 [] := by
    intro m
    induction m with
    | zero =>
      intro t ht
      obtain rfl : t = G := by omega
      refine j_iload_n d_E_complete_2 rfl 2 rfl ?_
      refine j_aload_n d_E_complete_3 rfl 0 rfl ?_
      refine v_getI d_E_complete_4 lf_E_35 (jshp_E f hf).1 (by omega) rfl ?_
      rw [show spall V r t (3 + 5 * f) 1 = 6 * t from by rw [spall_nq n3, hrc]]
      refine n_icmp_ge d_E_complete_7 21 rfl (by omega) (by omega) (fun h => ?_) (fun h => absurd h (by omega))
      refine n_iconst d_E_complete_21 0 (by decide) ?_
      refine j_istore_n d_E_complete_22 (i := 2) rfl (Nat.le_of_ble_eq_true rfl) (lv' := [_, _, _]) rfl ?_
      refine j_lv [1, 2, 0] rfl ?_
      exact loop2 (6 * t) 0 (by omega)
    | succ m ih =>
      intro t ht
      refine j_iload_n d_E_complete_2 rfl 2 rfl ?_
      refine j_aload_n d_E_complete_3 rfl 0 rfl ?_
      refine v_getI d_E_complete_4 lf_E_35 (jshp_E f hf).1 (by omega) rfl ?_
      rw [(show spall V r t (3 + 5 * f) 1 = 6 * G from by rw [spall_nq n3, hrc])]
      refine n_icmp_ge d_E_complete_7 21 rfl (by omega) (by omega) (fun h => absurd h (by omega)) (fun h => ?_)
      refine j_aload_n d_E_complete_10 rfl 1 rfl ?_
      refine j_iload_n d_E_complete_11 rfl 2 rfl ?_
      refine v_callV d_E_complete_12 mt_R_spread ln_E_50 im_R_spread se_R_spread hr (Nat.lt_of_succ_lt hlt) rfl rfl ⟨Nat.le_of_ble_eq_true rfl, Nat.le_of_ble_eq_true rfl⟩ (Nat.le_of_ble_eq_true rfl) rfl (Nat.zero_le _) (Nat.zero_le _) (c_R_spread g (spall V r t) L r hr hn hlt (6 * t) (by omega) (spall_lt hV t)) rfl ?_
      rintro _ _ _ ⟨rfl, rfl, rfl⟩
      refine n_iinc d_E_complete_15 6 (by decide) 2 rfl (Nat.le_of_ble_eq_true rfl) (lv' := [_, _, _]) rfl ?_
      refine j_goto d_E_complete_18 2 rfl ?_
      refine j_lv [1, 2, 0] rfl ?_
      exact ih (t + 1) (by omega)
  refine n_iconst d_E_complete_0 0 (by decide) ?_
  refine j_istore_n d_E_complete_1 (i := 2) rfl (Nat.le_of_ble_eq_true rfl) (lv' := [_, _, _]) rfl ?_
  refine j_lv [1, 2, 0] rfl ?_
  exact loop1 G 0 (by omega)
/-- the first t words laid into the plain rows of file f -/
def mkw (V : Nat → Nat → Nat) (f : Nat) : Nat → Nat → Nat → Nat
  | 0 => V
  | t + 1 => vu (mkw V f t) (6 + 5 * f + 1) ((t / 16 * 6 + t % 16 / 4) * 5 + t % 4) (mkw V f t 1 t)
theorem mkw_nq {V : Nat → Nat → Nat} {f a : Nat} (h : a ≠ 6 + 5 * f + 1) : ∀ t, mkw V f t a = V a
  | 0 => rfl
  | t + 1 => (vu_nq _ _ _ h).trans (mkw_nq h t)
theorem mkw_lt {V : Nat → Nat → Nat} {f : Nat} (hV : ∀ i, i < 120 → V (6 + 5 * f + 1) i < 2147483647) (hB : ∀ i, i < 64 → V 1 i < 2147483647) : ∀ t, t ≤ 64 → ∀ i, i < 120 → mkw V f t (6 + 5 * f + 1) i < 2147483647
  | 0 => fun _ => hV
  | t + 1 => fun ht i hi => by
    unfold mkw vu
    split
    · rw [mkw_nq (by omega)]
      exact hB t (by omega)
    · exact mkw_lt hV hB t (by omega) i hi
def mkv (V : Nat → Nat → Nat) (f n : Nat) : Nat → Nat → Nat := cmpl (mkw (vu (vu V (3 + 5 * f) 0 n) (3 + 5 * f) 1 ((n + 16 - 1) / 16 * 6)) f n) f (6 + 5 * f) ((n + 15) / 16)
theorem c_E_make (g : jG) (V : Nat → Nat → Nat) (L : Nat → Nat → Int64) (f : Nat) (hf : f < 3) (n : Nat) (h1 : 1 ≤ n) (h64 : n ≤ 64) (hV : ∀ i, i < 120 → V (6 + 5 * f + 1) i < 2147483647) (hB : ∀ i, i < 64 → V 1 i < 2147483647) (hal : ∀ i, i < 4 → V (4 + 5 * f) i < 2147483647) (hms : ∀ i, i < 24 → V (5 + 5 * f) i < 2147483647) : jK g Y_E_make (4, 92) [.ref (jb g + (3 + 5 * f)), .ref (jb g + 1), .int (nI n)] V L (jA0 none (mkv V f n) L) := by
  refine jK_entry (by decide +kernel) rfl (Nat.le_of_ble_eq_true rfl) ?_
  show jJ (g, Y_E_make, (4, 92), 0, 0, jVQ g (jA0 none (mkv V f n) L)) [(0, .ref (jb g + (3 + 5 * f))), (1, .ref (jb g + 1)), (2, .int (nI n))] (jv (g, Y_E_make, (4, 92), 0, 0, jVQ g (jA0 none (mkv V f n) L)) V L 0 0) 0 []
  generalize hφ : jA0 none (mkv V f n) L = φ
  have hV0 : ∀ i, i < 120 → (vu (vu V (3 + 5 * f) 0 n) (3 + 5 * f) 1 ((n + 16 - 1) / 16 * 6)) (6 + 5 * f + 1) i < 2147483647 := by rw [vu_nq _ _ _ (by omega), vu_nq _ _ _ (by omega)]; exact hV
  have hB0 : ∀ i, i < 64 → (vu (vu V (3 + 5 * f) 0 n) (3 + 5 * f) 1 ((n + 16 - 1) / 16 * 6)) 1 i < 2147483647 := by rw [vu_nq _ _ _ (by omega), vu_nq _ _ _ (by omega)]; exact hB
  have loop : ∀ (m t : Nat), t + m = n → jJ (g, Y_E_make, (4, 92), 0, 0, jVQ g φ) [(0, .ref (jb g + (3 + 5 * f))), (1, .ref (jb g + 1)), (2, .int (nI n)), (3, .int (nI t))] (jv (g, Y_E_make, (4, 92), 0, 0, jVQ g φ) (mkw (vu (vu V (3 + 5 * f) 0 n) (3 + 5 * f) 1 ((n + 16 - 1) / 16 * 6)) f t) L 0 0) 23 [] := by
    intro m
    induction m with
    | zero =>
      intro t ht
      obtain rfl : t = n := by omega
      refine j_iload_n d_E_make_23 rfl 3 rfl ?_
      refine j_iload_n d_E_make_24 rfl 2 rfl ?_
      refine n_icmp_ge d_E_make_25 51 rfl (by omega) (by omega) (fun h => ?_) (fun h => absurd h (by omega))
      refine j_aload_n d_E_make_51 rfl 0 rfl ?_
      refine j_aload_n d_E_make_52 rfl 0 rfl ?_
      refine v_getR d_E_make_53 lf_E_21 (jshp_E f hf).1 (by omega) rfl ?_
      refine v_callV d_E_make_56 mt_E_complete ln_E_46 im_E_complete se_E_complete (jshp_E f hf).1 (by omega) rfl rfl ⟨Nat.le_of_ble_eq_true rfl, Nat.le_of_ble_eq_true rfl⟩ (Nat.le_of_ble_eq_true rfl) rfl (Nat.zero_le _) (Nat.zero_le _) (c_E_complete g (mkw (vu (vu V (3 + 5 * f) 0 t) (3 + 5 * f) 1 ((t + 16 - 1) / 16 * 6)) f t) L f hf (6 + 5 * f) (jshp_ER f hf).1 (jshp_ER f hf).2 (by omega) ((t + 15) / 16) (by omega) (by rw [mkw_nq (by omega), vu_eq]; omega) (mkw_lt hV0 hB0 t (by omega)) (by rw [mkw_nq (by omega), vu_nq _ _ _ (by omega), vu_nq _ _ _ (by omega)]; exact hal) (by rw [mkw_nq (by omega), vu_nq _ _ _ (by omega), vu_nq _ _ _ (by omega)]; exact hms)) rfl ?_
      rintro _ _ _ ⟨rfl, rfl, rfl⟩
      subst hφ
      exact v_vret d_E_make_59 rfl (Nat.zero_le _) (Nat.zero_le _) rfl jA0_rfl
    | succ m ih =>
      intro t ht
      refine j_iload_n d_E_make_23 rfl 3 rfl ?_
      refine j_iload_n d_E_make_24 rfl 2 rfl ?_
      refine n_icmp_ge d_E_make_25 51 rfl (by omega) (by omega) (fun h => absurd h (by omega)) (fun h => ?_)
      refine j_aload_n d_E_make_28 rfl 0 rfl ?_
      refine v_getR d_E_make_29 lf_E_21 (jshp_E f hf).1 (by omega) rfl ?_
      refine j_iload_n d_E_make_32 rfl 3 rfl ?_
      refine v_callS d_E_make_33 mt_R_rowOfWord ln_E_38 sm_R_rowOfWord ⟨Nat.le_of_ble_eq_true rfl, Nat.le_of_ble_eq_true rfl⟩ (Nat.le_of_ble_eq_true rfl) rfl (Nat.zero_le _) (Nat.zero_le _) (c_R_rowOfWord g (mkw (vu (vu V (3 + 5 * f) 0 n) (3 + 5 * f) 1 ((n + 16 - 1) / 16 * 6)) f t) L t (by omega)) rfl ?_
      rintro _ _ _ ⟨rfl, rfl, rfl⟩
      refine j_iload_n d_E_make_36 rfl 3 rfl ?_
      refine n_iconst d_E_make_37 4 (by decide) ?_
      refine n_rem d_E_make_38 (by omega) (by omega) (by omega) ?_
      refine j_aload_n d_E_make_39 rfl 1 rfl ?_
      refine j_iload_n d_E_make_40 rfl 3 rfl ?_
      refine v_ild d_E_make_41 rfl rfl (Nat.le_of_ble_eq_true rfl) rfl (by omega) (by omega) ?_
      refine v_callV d_E_make_42 mt_R_set ln_E_42 im_R_set se_R_set (jshp_ER f hf).1 (by omega) rfl rfl ⟨Nat.le_of_ble_eq_true rfl, Nat.le_of_ble_eq_true rfl⟩ (Nat.le_of_ble_eq_true rfl) rfl (Nat.zero_le _) (Nat.zero_le _) (c_R_set g (mkw (vu (vu V (3 + 5 * f) 0 n) (3 + 5 * f) 1 ((n + 16 - 1) / 16 * 6)) f t) L (6 + 5 * f) (jshp_ER f hf).1 (jshp_ER f hf).2 (by omega) (t / 16 * 6 + t % 16 / 4) (t % 4) (by omega) (by omega) _) rfl ?_
      rintro _ _ _ ⟨rfl, rfl, rfl⟩
      refine n_iinc d_E_make_45 1 (by decide) 3 rfl (Nat.le_of_ble_eq_true rfl) (lv' := [_, _, _, _]) rfl ?_
      refine j_goto d_E_make_48 23 rfl ?_
      refine j_lv [1, 2, 3, 0] rfl ?_
      exact ih (t + 1) (by omega)
  refine j_aload_n d_E_make_0 rfl 0 rfl ?_
  refine j_iload_n d_E_make_1 rfl 2 rfl ?_
  refine v_putI d_E_make_2 lf_E_31 (jshp_E f hf).1 (by omega) rfl rfl rfl rfl ?_
  refine j_aload_n d_E_make_5 rfl 0 rfl ?_
  refine j_iload_n d_E_make_6 rfl 2 rfl ?_
  refine n_bipush d_E_make_7 16 (by decide) ?_
  refine n_add d_E_make_9 ?_
  refine n_iconst d_E_make_10 1 (by decide) ?_
  refine n_sub d_E_make_11 (by omega) ?_
  refine n_bipush d_E_make_12 16 (by decide) ?_
  refine n_div d_E_make_14 (by omega) (by omega) (by omega) ?_
  refine n_bipush d_E_make_15 6 (by decide) ?_
  refine n_mul d_E_make_17 ?_
  refine v_putI d_E_make_18 lf_E_35 (jshp_E f hf).1 (by omega) rfl rfl rfl rfl ?_
  refine n_iconst d_E_make_21 0 (by decide) ?_
  refine j_istore_n d_E_make_22 (i := 3) rfl (Nat.le_of_ble_eq_true rfl) (lv' := [_, _, _, _]) rfl ?_
  refine j_lv [1, 2, 3, 0] rfl ?_
  exact loop n 0 (by omega)
