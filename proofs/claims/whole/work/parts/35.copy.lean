/-! AuditDesk.Copy, Keeper.tally, Challenge -/
theorem c_Y_drop (g : jG) (V : Nat → Nat → Nat) (L : Nat → Nat → Int64) (k : Nat) (hk : k < 4) (f : Nat) (hf : f < 3) (row : Nat) (hrow : row < 24) : jK g Y_Y_drop (2, 45) [.ref (jb g + (21 + 14 * k + 4 * f)), .int (nI row)] V L (jA0 none (clr (vu V (24 + 14 * k + 4 * f) row 1) (22 + 14 * k + 4 * f) row) L) := by
  refine jK_entry (by decide +kernel) rfl (Nat.le_of_ble_eq_true rfl) ?_
  show jJ (g, Y_Y_drop, (2, 45), 0, 0, jVQ g (jA0 none (clr (vu V (24 + 14 * k + 4 * f) row 1) (22 + 14 * k + 4 * f) row) L)) [(0, .ref (jb g + (21 + 14 * k + 4 * f))), (1, .int (nI row))] (jv (g, Y_Y_drop, (2, 45), 0, 0, jVQ g (jA0 none (clr (vu V (24 + 14 * k + 4 * f) row 1) (22 + 14 * k + 4 * f) row) L)) V L 0 0) 0 []
  refine j_aload_n d_Y_drop_0 rfl 0 rfl ?_
  refine v_getR d_Y_drop_1 lf_Y_18 (jshp_Y k hk f hf).1 (by omega) rfl ?_
  refine j_iload_n d_Y_drop_4 rfl 1 rfl ?_
  refine n_iconst d_Y_drop_5 1 (by decide) ?_
  refine v_zst d_Y_drop_6 (jshp_Y k hk f hf).2.2.2 rfl (by omega) rfl (by omega) (by omega) (by omega) ?_
  refine j_aload_n d_Y_drop_7 rfl 0 rfl ?_
  refine v_getR d_Y_drop_8 lf_Y_12 (jshp_Y k hk f hf).1 (by omega) rfl ?_
  refine j_iload_n d_Y_drop_11 rfl 1 rfl ?_
  refine v_callV d_Y_drop_12 mt_R_clearRow ln_Y_22 im_R_clearRow se_R_clearRow (jshp_YR k hk f hf).1 (by omega) rfl rfl ⟨Nat.le_of_ble_eq_true rfl, Nat.le_of_ble_eq_true rfl⟩ (Nat.le_of_ble_eq_true rfl) rfl (Nat.zero_le _) (Nat.zero_le _) (c_R_clearRow g (vu V (24 + 14 * k + 4 * f) row 1) L (22 + 14 * k + 4 * f) (jshp_YR k hk f hf).1 (jshp_YR k hk f hf).2 (by omega) row hrow) rfl ?_
  rintro _ _ _ ⟨rfl, rfl, rfl⟩
  exact v_vret d_Y_drop_15 rfl (Nat.zero_le _) (Nat.zero_le _) rfl jA0_rfl
def tak (V : Nat → Nat → Nat) (r r2 row : Nat) : Nat → Nat → Nat := fun a i => if a = r + 1 ∧ row * 5 ≤ i ∧ i < row * 5 + 5 then V (r2 + 1) i else V a i
def sam (V : Nat → Nat → Nat) (r r2 row : Nat) : Nat := (if V (r + 1) (row * 5 + 0) = V (r2 + 1) (row * 5 + 0) ∧ V (r + 1) (row * 5 + 1) = V (r2 + 1) (row * 5 + 1) ∧ V (r + 1) (row * 5 + 2) = V (r2 + 1) (row * 5 + 2) ∧ V (r + 1) (row * 5 + 3) = V (r2 + 1) (row * 5 + 3) ∧ V (r + 1) (row * 5 + 4) = V (r2 + 1) (row * 5 + 4) then 1 else 0)
theorem sam_le (V : Nat → Nat → Nat) (r r2 row : Nat) : sam V r r2 row ≤ 1 := by
  unfold sam
  split <;> omega
/-- the first t rows of keeper k's copy of f taken from r2 -/
def bcm (V : Nat → Nat → Nat) (k f r2 : Nat) : Nat → Nat → Nat → Nat
  | 0 => V
  | t + 1 => tak (vu (bcm V k f r2 t) (24 + 14 * k + 4 * f) t 0) (22 + 14 * k + 4 * f) r2 t
/-- how many of them were other, or lost, or not there -/
def bco (V : Nat → Nat → Nat) (k f r2 : Nat) : Nat → Nat
  | 0 => 0
  | t + 1 => bco V k f r2 t + (if bcm V k f r2 t (21 + 14 * k + 4 * f) 0 = 0 then 1 else if bcm V k f r2 t (24 + 14 * k + 4 * f) t = 0 then (if sam (bcm V k f r2 t) (22 + 14 * k + 4 * f) r2 t = 0 then 1 else 0) else 1)
theorem bco_s (V : Nat → Nat → Nat) (k f r2 t : Nat) : bco V k f r2 (t + 1) = bco V k f r2 t + (if bcm V k f r2 t (21 + 14 * k + 4 * f) 0 = 0 then 1 else if bcm V k f r2 t (24 + 14 * k + 4 * f) t = 0 then (if sam (bcm V k f r2 t) (22 + 14 * k + 4 * f) r2 t = 0 then 1 else 0) else 1) := rfl
theorem bco_le (V : Nat → Nat → Nat) (k f r2 : Nat) : ∀ t, bco V k f r2 t ≤ t
  | 0 => Nat.le_refl _
  | t + 1 => by
    have := bco_le V k f r2 t
    unfold bco
    repeat' split
    all_goals omega
theorem bcm_nq {V : Nat → Nat → Nat} {k f r2 a : Nat} (h1 : a ≠ 24 + 14 * k + 4 * f) (h2 : a ≠ 22 + 14 * k + 4 * f + 1) : ∀ t, bcm V k f r2 t a = V a
  | 0 => rfl
  | t + 1 => by
    funext i
    show tak _ _ _ _ a i = _
    unfold tak
    rw [if_neg (fun z => h2 z.1), vu_nq _ _ _ h1, bcm_nq h1 h2 t]
theorem bcm_lost {V : Nat → Nat → Nat} {k f r2 i : Nat} (hV : V (24 + 14 * k + 4 * f) i ≤ 1) : ∀ t, bcm V k f r2 t (24 + 14 * k + 4 * f) i ≤ 1
  | 0 => hV
  | t + 1 => by
    show tak _ _ _ _ _ _ ≤ 1
    unfold tak
    rw [if_neg (by omega)]
    unfold vu
    split
    · omega
    · exact bcm_lost hV t
theorem bcm_lt {V : Nat → Nat → Nat} {k f r2 : Nat} (h1 : r2 + 1 ≠ 24 + 14 * k + 4 * f) (h2 : r2 + 1 ≠ 22 + 14 * k + 4 * f + 1) (hV : ∀ i, i < 120 → V (22 + 14 * k + 4 * f + 1) i < 2147483647) (hV2 : ∀ i, i < 120 → V (r2 + 1) i < 2147483647) : ∀ t i, i < 120 → bcm V k f r2 t (22 + 14 * k + 4 * f + 1) i < 2147483647
  | 0 => hV
  | t + 1 => fun i hi => by
    show tak _ _ _ _ _ _ < _
    unfold tak
    split
    · rw [vu_nq _ _ _ h1, bcm_nq h1 h2]
      exact hV2 i hi
    · rw [vu_nq _ _ _ (by omega)]
      exact bcm_lt h1 h2 hV hV2 t i hi
theorem c_Y_become (g : jG) (V : Nat → Nat → Nat) (L : Nat → Nat → Int64) (k : Nat) (hk : k < 4) (f : Nat) (hf : f < 3) (r2 : Nat) (hr2 : jshp r2 = jo 5 [(r2 + 1) + 2]) (hn2 : jshp (r2 + 1) = .inl (0, 120)) (hlt2 : r2 + 1 < 104) (h2 : r2 + 1 ≠ 22 + 14 * k + 4 * f + 1) (rc : Nat) (hrc : rc ≤ 24) (hh : V (21 + 14 * k + 4 * f) 0 ≤ 1) (hls : ∀ i, i < 24 → V (24 + 14 * k + 4 * f) i ≤ 1) (hV : ∀ i, i < 120 → V (22 + 14 * k + 4 * f + 1) i < 2147483647) (hV2 : ∀ i, i < 120 → V (r2 + 1) i < 2147483647) : jK g Y_Y_become (2, 70) [.ref (jb g + (21 + 14 * k + 4 * f)), .ref (jb g + r2), .int (nI rc)] V L (jA0 (some (.int (nI (bco V k f r2 rc)))) (vu (bcm V k f r2 rc) (21 + 14 * k + 4 * f) 0 1) L) := by
  refine jK_entry (by decide +kernel) rfl (Nat.le_of_ble_eq_true rfl) ?_
  show jJ (g, Y_Y_become, (2, 70), 0, 0, jVQ g (jA0 (some (.int (nI (bco V k f r2 rc)))) (vu (bcm V k f r2 rc) (21 + 14 * k + 4 * f) 0 1) L)) [(0, .ref (jb g + (21 + 14 * k + 4 * f))), (1, .ref (jb g + r2)), (2, .int (nI rc))] (jv (g, Y_Y_become, (2, 70), 0, 0, jVQ g (jA0 (some (.int (nI (bco V k f r2 rc)))) (vu (bcm V k f r2 rc) (21 + 14 * k + 4 * f) 0 1) L)) V L 0 0) 0 []
  have h1 : r2 + 1 ≠ 24 + 14 * k + 4 * f := inl_ne hn2 (jshp_Y k hk f hf).2.2.2 (by decide)
  generalize hφ : jA0 (some (.int (nI (bco V k f r2 rc)))) (vu (bcm V k f r2 rc) (21 + 14 * k + 4 * f) 0 1) L = φ
  have loop : ∀ (m t : Nat), t + m = rc → jJ (g, Y_Y_become, (2, 70), 0, 0, jVQ g φ) [(0, .ref (jb g + (21 + 14 * k + 4 * f))), (1, .ref (jb g + r2)), (2, .int (nI rc)), (3, .int (nI (bco V k f r2 t))), (4, .int (nI t))] (jv (g, Y_Y_become, (2, 70), 0, 0, jVQ g φ) (bcm V k f r2 t) L 0 0) 5 [] := by
    intro m
    induction m with
    | zero =>
      intro t ht
      obtain rfl : t = rc := by omega
      refine j_iload d_Y_become_5 4 rfl ?_
      refine j_iload_n d_Y_become_7 rfl 2 rfl ?_
      refine n_icmp_ge d_Y_become_8 68 rfl (by omega) (by omega) (fun h => ?_) (fun h => absurd h (by omega))
      refine j_aload_n d_Y_become_68 rfl 0 rfl ?_
      refine n_iconst d_Y_become_69 1 (by decide) ?_
      refine v_putI d_Y_become_70 lf_Y_26 (jshp_Y k hk f hf).1 (by omega) rfl rfl (nar_b (by omega)) (fit_b (by omega)) ?_
      subst hφ
      refine j_iload_n d_Y_become_73 rfl 3 rfl ?_
      exact v_iret d_Y_become_74 rfl (Nat.zero_le _) (Nat.zero_le _) rfl jA0_rfl
    | succ m ih =>
      intro t ht
      have hb := bco_le V k f r2 t
      have tail : ∀ o, o = bco V k f r2 (t + 1) → jJ (g, Y_Y_become, (2, 70), 0, 0, jVQ g φ) [(0, .ref (jb g + (21 + 14 * k + 4 * f))), (1, .ref (jb g + r2)), (2, .int (nI rc)), (3, .int (nI o)), (4, .int (nI t))] (jv (g, Y_Y_become, (2, 70), 0, 0, jVQ g φ) (bcm V k f r2 t) L 0 0) 44 [] := by
        intro o ho
        refine j_aload_n d_Y_become_44 rfl 0 rfl ?_
        refine v_getR d_Y_become_45 lf_Y_18 (jshp_Y k hk f hf).1 (by omega) rfl ?_
        refine j_iload d_Y_become_48 4 rfl ?_
        refine n_iconst d_Y_become_50 0 (by decide) ?_
        refine v_zst d_Y_become_51 (jshp_Y k hk f hf).2.2.2 rfl (by omega) rfl (by omega) (by omega) (by omega) ?_
        refine j_aload_n d_Y_become_52 rfl 0 rfl ?_
        refine v_getR d_Y_become_53 lf_Y_12 (jshp_Y k hk f hf).1 (by omega) rfl ?_
        refine j_aload_n d_Y_become_56 rfl 1 rfl ?_
        refine j_iload d_Y_become_57 4 rfl ?_
        refine v_callV d_Y_become_59 mt_R_takeRow ln_Y_34 im_R_takeRow se_R_takeRow (jshp_YR k hk f hf).1 (by omega) rfl rfl ⟨Nat.le_of_ble_eq_true rfl, Nat.le_of_ble_eq_true rfl⟩ (Nat.le_of_ble_eq_true rfl) rfl (Nat.zero_le _) (Nat.zero_le _) (c_R_takeRow g (vu (bcm V k f r2 t) (24 + 14 * k + 4 * f) t 0) L (22 + 14 * k + 4 * f) (jshp_YR k hk f hf).1 (jshp_YR k hk f hf).2 (by omega) r2 hr2 hn2 hlt2 t (by omega)) rfl ?_
        rintro _ _ _ ⟨rfl, rfl, rfl⟩
        refine n_iinc d_Y_become_62 1 (by decide) 4 rfl (Nat.le_of_ble_eq_true rfl) (lv' := [_, _, _, _, _]) rfl ?_
        refine j_goto d_Y_become_65 5 rfl ?_
        refine j_lv [1, 2, 3, 4, 0] rfl ?_
        rw [ho]
        exact ih (t + 1) (by omega)
      refine j_iload d_Y_become_5 4 rfl ?_
      refine j_iload_n d_Y_become_7 rfl 2 rfl ?_
      refine n_icmp_ge d_Y_become_8 68 rfl (by omega) (by omega) (fun h => absurd h (by omega)) (fun h => ?_)
      refine j_aload_n d_Y_become_11 rfl 0 rfl ?_
      refine v_getI d_Y_become_12 lf_Y_26 (jshp_Y k hk f hf).1 (by omega) rfl ?_
      refine n_if_eq d_Y_become_15 41 rfl (Nat.lt_of_le_of_lt (show bcm V k f r2 t (21 + 14 * k + 4 * f) 0 ≤ 1 from by rw [bcm_nq (by omega) (by omega)]; exact hh) (by decide)) (fun a1 => ?_) (fun a1 => ?_)
      · refine n_iinc d_Y_become_41 1 (by decide) 3 rfl (Nat.le_of_ble_eq_true rfl) (lv' := [_, _, _, _, _]) rfl ?_
        refine j_lv [1, 2, 3, 0, 4] rfl ?_
        exact tail _ (by rw [bco_s, if_pos a1])
      · refine j_aload_n d_Y_become_18 rfl 0 rfl ?_
        refine v_getR d_Y_become_19 lf_Y_18 (jshp_Y k hk f hf).1 (by omega) rfl ?_
        refine j_iload d_Y_become_22 4 rfl ?_
        refine v_zld d_Y_become_24 (jshp_Y k hk f hf).2.2.2 rfl (by omega) rfl (by omega) (by omega) ?_
        refine n_if_ne d_Y_become_25 41 rfl (Nat.lt_of_le_of_lt (bcm_lost (hls t (by omega)) t) (by decide)) (fun a2 => ?_) (fun a2 => ?_)
        · refine n_iinc d_Y_become_41 1 (by decide) 3 rfl (Nat.le_of_ble_eq_true rfl) (lv' := [_, _, _, _, _]) rfl ?_
          refine j_lv [1, 2, 3, 0, 4] rfl ?_
          exact tail _ (by rw [bco_s, if_neg a1, if_neg a2])
        · refine j_aload_n d_Y_become_28 rfl 0 rfl ?_
          refine v_getR d_Y_become_29 lf_Y_12 (jshp_Y k hk f hf).1 (by omega) rfl ?_
          refine j_aload_n d_Y_become_32 rfl 1 rfl ?_
          refine j_iload d_Y_become_33 4 rfl ?_
          refine v_callV d_Y_become_35 mt_R_sameRow ln_Y_30 im_R_sameRow se_R_sameRow (jshp_YR k hk f hf).1 (by omega) rfl rfl ⟨Nat.le_of_ble_eq_true rfl, Nat.le_of_ble_eq_true rfl⟩ (Nat.le_of_ble_eq_true rfl) rfl (Nat.zero_le _) (Nat.zero_le _) (c_R_sameRow g (bcm V k f r2 t) L (22 + 14 * k + 4 * f) (jshp_YR k hk f hf).1 (jshp_YR k hk f hf).2 (by omega) r2 hr2 hn2 hlt2 t (by omega) (fun i hi => Nat.lt_trans (bcm_lt h1 h2 hV hV2 t i hi) (by decide)) (fun i hi => by rw [bcm_nq h1 h2]; exact Nat.lt_trans (hV2 i hi) (by decide))) rfl ?_
          rintro _ _ _ ⟨rfl, rfl, rfl⟩
          refine n_if_ne d_Y_become_38 44 rfl (Nat.lt_of_le_of_lt (sam_le (bcm V k f r2 t) _ r2 t) (by decide)) (fun a3 => ?_) (fun a3 => ?_)
          · have a4 : ¬ sam (bcm V k f r2 t) (22 + 14 * k + 4 * f) r2 t = 0 := a3
            exact tail _ (by rw [bco_s, if_neg a1, if_pos a2, if_neg a4, Nat.add_zero])
          · have a4 : sam (bcm V k f r2 t) (22 + 14 * k + 4 * f) r2 t = 0 := a3
            refine n_iinc d_Y_become_41 1 (by decide) 3 rfl (Nat.le_of_ble_eq_true rfl) (lv' := [_, _, _, _, _]) rfl ?_
            refine j_lv [1, 2, 3, 0, 4] rfl ?_
            exact tail _ (by rw [bco_s, if_neg a1, if_pos a2, if_pos a4])
  refine n_iconst d_Y_become_0 0 (by decide) ?_
  refine j_istore_n d_Y_become_1 (i := 3) rfl (Nat.le_of_ble_eq_true rfl) (lv' := [_, _, _, _]) rfl ?_
  refine n_iconst d_Y_become_2 0 (by decide) ?_
  refine j_istore d_Y_become_3 (i := 4) (Nat.le_of_ble_eq_true rfl) (lv' := [_, _, _, _, _]) rfl ?_
  refine j_lv [2, 3, 4, 1, 0] rfl ?_
  exact loop rc 0 (by omega)
theorem i32_3 {x : Int32} (h0 : ¬ x = 0) (h1 : ¬ x = 1) (h2 : ¬ x = 2) : x.toInt < 0 ∨ 2 < x.toInt := by
  by_cases h : x.toInt < 0 ∨ 2 < x.toInt
  · exact h
  · exfalso
    rcases (by omega : x.toInt = 0 ∨ x.toInt = 1 ∨ x.toInt = 2) with e | e | e
    · exact h0 (Int32.toInt_inj.mp e)
    · exact h1 (Int32.toInt_inj.mp e)
    · exact h2 (Int32.toInt_inj.mp e)
theorem c_K_tally (g : jG) (V : Nat → Nat → Nat) (L : Nat → Nat → Int64) (k : Nat) (hk : k < 4) (z : Int32) : jK g Y_K_tally (0, 0) [.ref (jb g + (19 + 14 * k)), .int z] V L (jA0 (some (.int (if z = 0 then nI (V (19 + 14 * k) 1) else if z = 1 then nI (V (19 + 14 * k) 2) else if z = 2 then nI (V (19 + 14 * k) 3) else -1))) V L) := by
  refine jK_entry (by decide +kernel) rfl (Nat.le_of_ble_eq_true rfl) ?_
  show jJ (g, Y_K_tally, (0, 0), 0, 0, jVQ g (jA0 (some (.int (if z = 0 then nI (V (19 + 14 * k) 1) else if z = 1 then nI (V (19 + 14 * k) 2) else if z = 2 then nI (V (19 + 14 * k) 3) else -1))) V L)) [(0, .ref (jb g + (19 + 14 * k))), (1, .int z)] (jv (g, Y_K_tally, (0, 0), 0, 0, jVQ g (jA0 (some (.int (if z = 0 then nI (V (19 + 14 * k) 1) else if z = 1 then nI (V (19 + 14 * k) 2) else if z = 2 then nI (V (19 + 14 * k) 3) else -1))) V L)) V L 0 0) 0 []
  refine j_iload_n d_K_tally_0 rfl 1 rfl ?_
  by_cases z0 : z = 0
  · subst z0
    refine j_tableIn d_K_tally_1 (by decide) (by decide) (off := 27) (by decide) 28 rfl ?_
    rw [if_pos rfl]
    refine j_aload_n d_K_tally_28 rfl 0 rfl ?_
    refine v_getI d_K_tally_29 lf_K_18 (jshp_K k hk).1 (by omega) rfl ?_
    exact v_iret d_K_tally_32 rfl (Nat.zero_le _) (Nat.zero_le _) rfl jA0_rfl
  by_cases z1 : z = 1
  · subst z1
    refine j_tableIn d_K_tally_1 (by decide) (by decide) (off := 32) (by decide) 33 rfl ?_
    rw [if_neg (by decide), if_pos rfl]
    refine j_aload_n d_K_tally_33 rfl 0 rfl ?_
    refine v_getI d_K_tally_34 lf_K_22 (jshp_K k hk).1 (by omega) rfl ?_
    exact v_iret d_K_tally_37 rfl (Nat.zero_le _) (Nat.zero_le _) rfl jA0_rfl
  by_cases z2 : z = 2
  · subst z2
    refine j_tableIn d_K_tally_1 (by decide) (by decide) (off := 37) (by decide) 38 rfl ?_
    rw [if_neg (by decide), if_neg (by decide), if_pos rfl]
    refine j_aload_n d_K_tally_38 rfl 0 rfl ?_
    refine v_getI d_K_tally_39 lf_K_25 (jshp_K k hk).1 (by omega) rfl ?_
    exact v_iret d_K_tally_42 rfl (Nat.zero_le _) (Nat.zero_le _) rfl jA0_rfl
  refine j_tableOut d_K_tally_1 (i32_3 z0 z1 z2) 43 rfl ?_
  rw [if_neg z0, if_neg z1, if_neg z2]
  refine j_iconst d_K_tally_43 (v := -1) rfl ?_
  exact v_iret d_K_tally_44 rfl (Nat.zero_le _) (Nat.zero_le _) rfl jA0_rfl
theorem c_C_pose (g : jG) (V : Nat → Nat → Nat) (L : Nat → Nat → Int64) (f k : Nat) : jK g Y_C_pose (0, 0) [.ref (jb g + 75), .int (nI f), .int (nI k)] V L (jA0 none (vu (vu (vu V 75 0 1) 75 1 f) 75 2 k) L) := by
  refine jK_entry (by decide +kernel) rfl (Nat.le_of_ble_eq_true rfl) ?_
  show jJ (g, Y_C_pose, (0, 0), 0, 0, jVQ g (jA0 none (vu (vu (vu V 75 0 1) 75 1 f) 75 2 k) L)) [(0, .ref (jb g + 75)), (1, .int (nI f)), (2, .int (nI k))] (jv (g, Y_C_pose, (0, 0), 0, 0, jVQ g (jA0 none (vu (vu (vu V 75 0 1) 75 1 f) 75 2 k) L)) V L 0 0) 0 []
  refine j_aload_n d_C_pose_0 rfl 0 rfl ?_
  refine n_iconst d_C_pose_1 1 (by decide) ?_
  refine v_putI d_C_pose_2 lf_C_25 rfl (Nat.le_of_ble_eq_true rfl) rfl rfl (nar_b (by omega)) (fit_b (by omega)) ?_
  refine j_aload_n d_C_pose_5 rfl 0 rfl ?_
  refine j_iload_n d_C_pose_6 rfl 1 rfl ?_
  refine v_putI d_C_pose_7 lf_C_29 rfl (Nat.le_of_ble_eq_true rfl) rfl rfl rfl rfl ?_
  refine j_aload_n d_C_pose_10 rfl 0 rfl ?_
  refine j_iload_n d_C_pose_11 rfl 2 rfl ?_
  refine v_putI d_C_pose_12 lf_C_33 rfl (Nat.le_of_ble_eq_true rfl) rfl rfl rfl rfl ?_
  exact v_vret d_C_pose_15 rfl (Nat.zero_le _) (Nat.zero_le _) rfl jA0_rfl
