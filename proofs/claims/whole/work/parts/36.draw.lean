/-! AuditDesk.Challenge: drawing, answering, holding -/
theorem nI_md (n : Nat) : nI n = nI (n % 2 ^ 32) := by
  unfold nI
  apply Int32.toBitVec_inj.mp
  show BitVec.ofNat 32 n = BitVec.ofNat 32 (n % 2 ^ 32)
  apply BitVec.eq_of_toNat_eq
  rw [BitVec.toNat_ofNat, BitVec.toNat_ofNat, Nat.mod_mod]
/-- the next number of the drawing -/
def stp (s : Nat) : Nat := (s * 1103515245 + 12345) % 2 ^ 32
theorem stp_lt (s : Nat) : stp s < 2 ^ 32 := Nat.mod_lt _ (by omega)
theorem us16 {n : Nat} (h : n < 2 ^ 32) : ((nI n).toUInt32 >>> ((nI 16).toUInt32 &&& Int32.toUInt32 31)).toInt32 = nI (n / 2 ^ 16) := pk_ushrN h (nI 16) 16 (by decide)
theorem us1 {n : Nat} (h : n < 2 ^ 32) : ((nI n).toUInt32 >>> ((nI 1).toUInt32 &&& Int32.toUInt32 31)).toInt32 = nI (n / 2 ^ 1) := pk_ushrN h (nI 1) 1 (by decide)
theorem c_C_step (g : jG) (V : Nat → Nat → Nat) (L : Nat → Nat → Int64) (s : Nat) : jK g Y_C_step (0, 0) [.int (nI s)] V L (jA0 (some (.int (nI (stp s)))) V L) := by
  refine jK_entry (by decide +kernel) rfl (Nat.le_of_ble_eq_true rfl) ?_
  show jJ (g, Y_C_step, (0, 0), 0, 0, jVQ g (jA0 (some (.int (nI (stp s)))) V L)) [(0, .int (nI s))] (jv (g, Y_C_step, (0, 0), 0, 0, jVQ g (jA0 (some (.int (nI (stp s)))) V L)) V L 0 0) 0 []
  refine j_iload_n d_C_step_0 rfl 0 rfl ?_
  refine j_ldc d_C_step_1 ct_C_50 ?_
  rw [show (1103515245 : Int32) = nI 1103515245 from by decide]
  refine n_mul d_C_step_3 ?_
  refine n_sipush d_C_step_4 12345 (by decide) ?_
  refine n_add d_C_step_7 ?_
  rw [show nI (s * 1103515245 + 12345) = nI (stp s) from nI_md (s * 1103515245 + 12345)]
  exact v_iret d_C_step_8 rfl (Nat.zero_le _) (Nat.zero_le _) rfl jA0_rfl
/-- from a row on, the first that is not drawn -/
def nxu (d : Nat → Nat) (rc : Nat) : Nat → Nat → Nat
  | 0, row => row
  | n + 1, row => if d row = 0 then row else nxu d rc n (if row + 1 < rc then row + 1 else 0)
theorem nxu_lt {d : Nat → Nat} {rc : Nat} : ∀ (n row : Nat), row < rc → nxu d rc n row < rc
  | 0, row, h => h
  | n + 1, row, h => by
    unfold nxu
    split
    · exact h
    · apply nxu_lt n
      split <;> omega
theorem c_C_nextUndrawn (g : jG) (V : Nat → Nat → Nat) (L : Nat → Nat → Int64) (fr rc : Nat) (hfr : fr < rc) (hrc : rc ≤ 24) (hd : ∀ i, i < 24 → V 79 i ≤ 1) : jK g Y_C_nextUndrawn (0, 0) [.ref (jb g + 75), .int (nI fr), .int (nI rc)] V L (jA0 (some (.int (nI (nxu (V 79) rc rc fr)))) V L) := by
  refine jK_entry (by decide +kernel) rfl (Nat.le_of_ble_eq_true rfl) ?_
  show jJ (g, Y_C_nextUndrawn, (0, 0), 0, 0, jVQ g (jA0 (some (.int (nI (nxu (V 79) rc rc fr)))) V L)) [(0, .ref (jb g + 75)), (1, .int (nI fr)), (2, .int (nI rc))] (jv (g, Y_C_nextUndrawn, (0, 0), 0, 0, jVQ g (jA0 (some (.int (nI (nxu (V 79) rc rc fr)))) V L)) V L 0 0) 0 []
  generalize hφ : jA0 (some (.int (nI (nxu (V 79) rc rc fr)))) V L = φ
  have loop : ∀ (m t row : Nat), t + m = rc → row < rc → nxu (V 79) rc m row = nxu (V 79) rc rc fr → jJ (g, Y_C_nextUndrawn, (0, 0), 0, 0, jVQ g φ) [(0, .ref (jb g + 75)), (1, .int (nI fr)), (2, .int (nI rc)), (3, .int (nI row)), (4, .int (nI t))] (jv (g, Y_C_nextUndrawn, (0, 0), 0, 0, jVQ g φ) V L 0 0) 5 [] := by
    intro m
    induction m with
    | zero =>
      intro t row ht hr he
      refine j_iload d_C_nextUndrawn_5 4 rfl ?_
      refine j_iload_n d_C_nextUndrawn_7 rfl 2 rfl ?_
      refine n_icmp_ge d_C_nextUndrawn_8 41 rfl (by omega) (by omega) (fun h => ?_) (fun h => absurd h (by omega))
      subst hφ
      rw [← he]
      refine j_iload_n d_C_nextUndrawn_41 rfl 3 rfl ?_
      exact v_iret d_C_nextUndrawn_42 rfl (Nat.zero_le _) (Nat.zero_le _) rfl jA0_rfl
    | succ m ih =>
      intro t row ht hr he
      refine j_iload d_C_nextUndrawn_5 4 rfl ?_
      refine j_iload_n d_C_nextUndrawn_7 rfl 2 rfl ?_
      refine n_icmp_ge d_C_nextUndrawn_8 41 rfl (by omega) (by omega) (fun h => absurd h (by omega)) (fun h => ?_)
      refine j_aload_n d_C_nextUndrawn_11 rfl 0 rfl ?_
      refine v_getR d_C_nextUndrawn_12 lf_C_21 rfl (Nat.le_of_ble_eq_true rfl) rfl ?_
      refine j_iload_n d_C_nextUndrawn_15 rfl 3 rfl ?_
      refine v_zld d_C_nextUndrawn_16 rfl rfl (Nat.le_of_ble_eq_true rfl) rfl (by omega) (by omega) ?_
      refine n_if_eq d_C_nextUndrawn_17 41 rfl (Nat.lt_of_le_of_lt (hd row (by omega)) (by decide)) (fun a1 => ?_) (fun a1 => ?_)
      · subst hφ
        rw [← he, show nxu (V 79) rc (m + 1) row = row from if_pos a1]
        refine j_iload_n d_C_nextUndrawn_41 rfl 3 rfl ?_
        exact v_iret d_C_nextUndrawn_42 rfl (Nat.zero_le _) (Nat.zero_le _) rfl jA0_rfl
      · refine j_iload_n d_C_nextUndrawn_20 rfl 3 rfl ?_
        refine n_iconst d_C_nextUndrawn_21 1 (by decide) ?_
        refine n_add d_C_nextUndrawn_22 ?_
        refine j_iload_n d_C_nextUndrawn_23 rfl 2 rfl ?_
        refine n_icmp_ge d_C_nextUndrawn_24 33 rfl (by omega) (by omega) (fun a2 => ?_) (fun a2 => ?_)
        · refine n_iconst d_C_nextUndrawn_33 0 (by decide) ?_
          refine j_istore_n d_C_nextUndrawn_34 (i := 3) rfl (Nat.le_of_ble_eq_true rfl) (lv' := [_, _, _, _, _]) rfl ?_
          refine n_iinc d_C_nextUndrawn_35 1 (by decide) 4 rfl (Nat.le_of_ble_eq_true rfl) (lv' := [_, _, _, _, _]) rfl ?_
          refine j_goto d_C_nextUndrawn_38 5 rfl ?_
          refine j_lv [2, 3, 4, 1, 0] rfl ?_
          exact ih (t + 1) 0 (by omega) (by omega) (by rw [← he, show nxu (V 79) rc (m + 1) row = nxu (V 79) rc m (if row + 1 < rc then row + 1 else 0) from if_neg a1, if_neg (by omega)])
        · refine j_iload_n d_C_nextUndrawn_27 rfl 3 rfl ?_
          refine n_iconst d_C_nextUndrawn_28 1 (by decide) ?_
          refine n_add d_C_nextUndrawn_29 ?_
          refine j_goto d_C_nextUndrawn_30 34 rfl ?_
          refine j_istore_n d_C_nextUndrawn_34 (i := 3) rfl (Nat.le_of_ble_eq_true rfl) (lv' := [_, _, _, _, _]) rfl ?_
          refine n_iinc d_C_nextUndrawn_35 1 (by decide) 4 rfl (Nat.le_of_ble_eq_true rfl) (lv' := [_, _, _, _, _]) rfl ?_
          refine j_goto d_C_nextUndrawn_38 5 rfl ?_
          refine j_lv [2, 3, 4, 1, 0] rfl ?_
          exact ih (t + 1) (row + 1) (by omega) (by omega) (by rw [← he, show nxu (V 79) rc (m + 1) row = nxu (V 79) rc m (if row + 1 < rc then row + 1 else 0) from if_neg a1, if_pos a2])
  refine j_iload_n d_C_nextUndrawn_0 rfl 1 rfl ?_
  refine j_istore_n d_C_nextUndrawn_1 (i := 3) rfl (Nat.le_of_ble_eq_true rfl) (lv' := [_, _, _, _]) rfl ?_
  refine n_iconst d_C_nextUndrawn_2 0 (by decide) ?_
  refine j_istore d_C_nextUndrawn_3 (i := 4) (Nat.le_of_ble_eq_true rfl) (lv' := [_, _, _, _, _]) rfl ?_
  refine j_lv [2, 3, 4, 1, 0] rfl ?_
  exact loop rc 0 fr (by omega) hfr rfl
def sdn (s : Nat) : Nat → Nat
  | 0 => s
  | i + 1 => stp (stp (sdn s i))
theorem sdn_lt {s : Nat} (h : s < 2 ^ 32) : ∀ i, sdn s i < 2 ^ 32
  | 0 => h
  | i + 1 => stp_lt _
def dr0 (V : Nat → Nat → Nat) : Nat → Nat → Nat → Nat
  | 0 => V
  | t + 1 => vu (dr0 V t) 79 t 0
/-- the row that is drawn as the i-th, and its coefficient -/
def drr (V : Nat → Nat → Nat) (s rc i : Nat) : Nat := nxu (V 79) rc rc (stp (sdn s i) / 2 ^ 16 % rc)
def drc (s i : Nat) : Nat := 1 + stp (stp (sdn s i)) / 2 ^ 1 % 2147483646
def drw (V : Nat → Nat → Nat) (s rc : Nat) : Nat → Nat → Nat → Nat
  | 0 => V
  | i + 1 => vu (vu (vu (drw V s rc i) 76 i (drr (drw V s rc i) s rc i)) 79 (drr (drw V s rc i) s rc i) 1) 77 i (drc s i)
theorem drr_lt {V : Nat → Nat → Nat} {s rc i : Nat} (h : 0 < rc) : drr V s rc i < rc := nxu_lt _ _ (Nat.mod_lt _ h)
theorem dr0_nq {V : Nat → Nat → Nat} {a : Nat} (h : a ≠ 79) : ∀ t, dr0 V t a = V a
  | 0 => rfl
  | t + 1 => (vu_nq _ _ _ h).trans (dr0_nq h t)
theorem dr0_le {V : Nat → Nat → Nat} (hd : ∀ i, i < 24 → V 79 i ≤ 1) : ∀ t i, i < 24 → dr0 V t 79 i ≤ 1
  | 0 => hd
  | t + 1 => fun i hi => by
    unfold dr0 vu
    split
    · omega
    · exact dr0_le hd t i hi
theorem drw_nq {V : Nat → Nat → Nat} {s rc a : Nat} (h1 : a ≠ 76) (h2 : a ≠ 77) (h3 : a ≠ 79) : ∀ i, drw V s rc i a = V a
  | 0 => rfl
  | i + 1 => by
    show vu _ _ _ _ a = _
    rw [vu_nq _ _ _ h2, vu_nq _ _ _ h3, vu_nq _ _ _ h1, drw_nq h1 h2 h3 i]
theorem drw_le {V : Nat → Nat → Nat} {s rc : Nat} (hd : ∀ i, i < 24 → V 79 i ≤ 1) : ∀ t i, i < 24 → drw V s rc t 79 i ≤ 1
  | 0 => hd
  | t + 1 => fun i hi => by
    show vu _ _ _ _ 79 i ≤ 1
    rw [vu_nq _ _ _ (by decide)]
    unfold vu
    split
    · omega
    · rw [if_neg (by omega)]
      exact drw_le hd t i hi
def drv (V : Nat → Nat → Nat) (s m rc : Nat) : Nat → Nat → Nat := drw (vu (dr0 V rc) 75 3 m) s rc m
theorem c_C_draw (g : jG) (V : Nat → Nat → Nat) (L : Nat → Nat → Int64) (s m rc : Nat) (hs : s < 2 ^ 32) (hm : m ≤ rc) (h0 : 0 < rc) (hrc : rc ≤ 24) (hd : ∀ i, i < 24 → V 79 i ≤ 1) : jK g Y_C_draw (1, 24) [.ref (jb g + 75), .int (nI s), .int (nI m), .int (nI rc)] V L (jA0 none (drv V s m rc) L) := by
  refine jK_entry (by decide +kernel) rfl (Nat.le_of_ble_eq_true rfl) ?_
  show jJ (g, Y_C_draw, (1, 24), 0, 0, jVQ g (jA0 none (drv V s m rc) L)) [(0, .ref (jb g + 75)), (1, .int (nI s)), (2, .int (nI m)), (3, .int (nI rc))] (jv (g, Y_C_draw, (1, 24), 0, 0, jVQ g (jA0 none (drv V s m rc) L)) V L 0 0) 0 []
  generalize hφ : jA0 none (drv V s m rc) L = φ
  have hd0 : ∀ i, i < 24 → vu (dr0 V rc) 75 3 m 79 i ≤ 1 := by rw [vu_nq _ _ _ (by decide)]; exact dr0_le hd rc
  have loop2 : ∀ (n i : Nat), i + n = m → jJ (g, Y_C_draw, (1, 24), 0, 0, jVQ g φ) [(0, .ref (jb g + 75)), (1, .int (nI s)), (2, .int (nI m)), (3, .int (nI rc)), (4, .int (nI (sdn s i))), (5, .int (nI i))] (jv (g, Y_C_draw, (1, 24), 0, 0, jVQ g φ) (drw (vu (dr0 V rc) 75 3 m) s rc i) L 0 0) 34 [] := by
    intro n
    induction n with
    | zero =>
      intro i hi
      obtain rfl : i = m := by omega
      refine j_iload d_C_draw_34 5 rfl ?_
      refine j_iload_n d_C_draw_36 rfl 2 rfl ?_
      refine n_icmp_ge d_C_draw_37 108 rfl (by omega) (by omega) (fun h => ?_) (fun h => absurd h (by omega))
      subst hφ
      exact v_vret d_C_draw_108 rfl (Nat.zero_le _) (Nat.zero_le _) rfl jA0_rfl
    | succ n ih =>
      intro i hi
      have hw : drr (drw (vu (dr0 V rc) 75 3 m) s rc i) s rc i < rc := drr_lt h0
      have hq : stp (sdn s i) / 2 ^ 16 < 2 ^ 16 := by have := stp_lt (sdn s i); omega
      have hq1 : stp (stp (sdn s i)) / 2 ^ 1 < 2 ^ 31 := by have := stp_lt (stp (sdn s i)); omega
      refine j_iload d_C_draw_34 5 rfl ?_
      refine j_iload_n d_C_draw_36 rfl 2 rfl ?_
      refine n_icmp_ge d_C_draw_37 108 rfl (by omega) (by omega) (fun h => absurd h (by omega)) (fun h => ?_)
      refine j_iload d_C_draw_40 4 rfl ?_
      refine v_callS d_C_draw_42 mt_C_step ln_C_39 sm_C_step ⟨Nat.le_of_ble_eq_true rfl, Nat.le_of_ble_eq_true rfl⟩ (Nat.le_of_ble_eq_true rfl) rfl (Nat.zero_le _) (Nat.zero_le _) (c_C_step g (drw (vu (dr0 V rc) 75 3 m) s rc i) L (sdn s i)) rfl ?_
      rintro _ _ _ ⟨rfl, rfl, rfl⟩
      refine j_istore d_C_draw_45 (i := 4) (Nat.le_of_ble_eq_true rfl) (lv' := [_, _, _, _, _, _]) rfl ?_
      refine j_aload_n d_C_draw_47 rfl 1 rfl ?_
      refine v_getR d_C_draw_48 lf_C_9 rfl (Nat.le_of_ble_eq_true rfl) rfl ?_
      refine j_iload d_C_draw_51 5 rfl ?_
      refine j_aload_n d_C_draw_53 rfl 1 rfl ?_
      refine j_iload d_C_draw_54 0 rfl ?_
      refine n_bipush d_C_draw_56 16 (by decide) ?_
      refine j_iushr d_C_draw_58 rfl ?_
      rw [us16 (stp_lt _)]
      refine j_iload_n d_C_draw_59 rfl 4 rfl ?_
      refine n_rem d_C_draw_60 (by omega) (by omega) (by omega) ?_
      refine j_iload_n d_C_draw_61 rfl 4 rfl ?_
      refine v_callV d_C_draw_62 mt_C_nextUndrawn ln_C_43 im_C_nextUndrawn se_C_nextUndrawn rfl (Nat.le_of_ble_eq_true rfl) rfl rfl ⟨Nat.le_of_ble_eq_true rfl, Nat.le_of_ble_eq_true rfl⟩ (Nat.le_of_ble_eq_true rfl) rfl (Nat.zero_le _) (Nat.zero_le _) (c_C_nextUndrawn g (drw (vu (dr0 V rc) 75 3 m) s rc i) L (stp (sdn s i) / 2 ^ 16 % rc) rc (Nat.mod_lt _ h0) hrc (drw_le hd0 i)) rfl ?_
      rintro _ _ _ ⟨rfl, rfl, rfl⟩
      refine v_ist d_C_draw_65 rfl rfl (Nat.le_of_ble_eq_true rfl) rfl (by omega) (by omega) ?_
      refine j_aload_n d_C_draw_66 rfl 1 rfl ?_
      refine v_getR d_C_draw_67 lf_C_21 rfl (Nat.le_of_ble_eq_true rfl) rfl ?_
      refine j_aload_n d_C_draw_70 rfl 1 rfl ?_
      refine v_getR d_C_draw_71 lf_C_9 rfl (Nat.le_of_ble_eq_true rfl) rfl ?_
      refine j_iload d_C_draw_74 5 rfl ?_
      refine v_ild d_C_draw_76 rfl rfl (Nat.le_of_ble_eq_true rfl) rfl (by omega) (by omega) ?_
      rw [show vu (drw (vu (dr0 V rc) 75 3 m) s rc i) 76 i (nxu ((drw (vu (dr0 V rc) 75 3 m) s rc i) 79) rc rc (stp (sdn s i) / 2 ^ 16 % rc)) 76 i = drr (drw (vu (dr0 V rc) 75 3 m) s rc i) s rc i from vu_eq _ _ _ _]
      refine n_iconst d_C_draw_77 1 (by decide) ?_
      refine v_zst d_C_draw_78 rfl rfl (Nat.le_of_ble_eq_true rfl) rfl (by omega) (by omega) (by omega) ?_
      refine j_iload d_C_draw_79 0 rfl ?_
      refine v_callS d_C_draw_81 mt_C_step ln_C_39 sm_C_step ⟨Nat.le_of_ble_eq_true rfl, Nat.le_of_ble_eq_true rfl⟩ (Nat.le_of_ble_eq_true rfl) rfl (Nat.zero_le _) (Nat.zero_le _) (c_C_step g (vu (vu (drw (vu (dr0 V rc) 75 3 m) s rc i) 76 i (drr (drw (vu (dr0 V rc) 75 3 m) s rc i) s rc i)) 79 (drr (drw (vu (dr0 V rc) 75 3 m) s rc i) s rc i) 1) L (stp (sdn s i))) rfl ?_
      rintro _ _ _ ⟨rfl, rfl, rfl⟩
      refine j_istore d_C_draw_84 (i := 4) (Nat.le_of_ble_eq_true rfl) (lv' := [_, _, _, _, _, _]) rfl ?_
      refine j_aload_n d_C_draw_86 rfl 1 rfl ?_
      refine v_getR d_C_draw_87 lf_C_15 rfl (Nat.le_of_ble_eq_true rfl) rfl ?_
      refine j_iload d_C_draw_90 5 rfl ?_
      refine n_iconst d_C_draw_92 1 (by decide) ?_
      refine j_iload d_C_draw_93 0 rfl ?_
      refine n_iconst d_C_draw_95 1 (by decide) ?_
      refine j_iushr d_C_draw_96 rfl ?_
      rw [us1 (stp_lt _)]
      refine j_ldc d_C_draw_97 ct_C_49 ?_
      rw [show (2147483646 : Int32) = nI 2147483646 from by decide]
      refine n_rem d_C_draw_99 (by omega) (by omega) (by omega) ?_
      refine n_add d_C_draw_100 ?_
      refine v_ist d_C_draw_101 rfl rfl (Nat.le_of_ble_eq_true rfl) rfl (by omega) (by omega) ?_
      refine n_iinc d_C_draw_102 1 (by decide) 5 rfl (Nat.le_of_ble_eq_true rfl) (lv' := [_, _, _, _, _, _]) rfl ?_
      refine j_goto d_C_draw_105 34 rfl ?_
      refine j_lv [2, 3, 4, 5, 1, 0] rfl ?_
      exact ih (i + 1) (by omega)
  have loop1 : ∀ (n t : Nat), t + n = rc → jJ (g, Y_C_draw, (1, 24), 0, 0, jVQ g φ) [(0, .ref (jb g + 75)), (1, .int (nI s)), (2, .int (nI m)), (3, .int (nI rc)), (4, .int (nI t))] (jv (g, Y_C_draw, (1, 24), 0, 0, jVQ g φ) (dr0 V t) L 0 0) 3 [] := by
    intro n
    induction n with
    | zero =>
      intro t ht
      obtain rfl : t = rc := by omega
      refine j_iload d_C_draw_3 4 rfl ?_
      refine j_iload_n d_C_draw_5 rfl 3 rfl ?_
      refine n_icmp_ge d_C_draw_6 23 rfl (by omega) (by omega) (fun h => ?_) (fun h => absurd h (by omega))
      refine j_aload_n d_C_draw_23 rfl 0 rfl ?_
      refine j_iload_n d_C_draw_24 rfl 2 rfl ?_
      refine v_putI d_C_draw_25 lf_C_36 rfl (Nat.le_of_ble_eq_true rfl) rfl rfl rfl rfl ?_
      refine j_iload_n d_C_draw_28 rfl 1 rfl ?_
      refine j_istore d_C_draw_29 (i := 4) (Nat.le_of_ble_eq_true rfl) (lv' := [_, _, _, _, _]) rfl ?_
      refine n_iconst d_C_draw_31 0 (by decide) ?_
      refine j_istore d_C_draw_32 (i := 5) (Nat.le_of_ble_eq_true rfl) (lv' := [_, _, _, _, _, _]) rfl ?_
      refine j_lv [2, 3, 4, 5, 1, 0] rfl ?_
      exact loop2 m 0 (by omega)
    | succ n ih =>
      intro t ht
      refine j_iload d_C_draw_3 4 rfl ?_
      refine j_iload_n d_C_draw_5 rfl 3 rfl ?_
      refine n_icmp_ge d_C_draw_6 23 rfl (by omega) (by omega) (fun h => absurd h (by omega)) (fun h => ?_)
      refine j_aload_n d_C_draw_9 rfl 0 rfl ?_
      refine v_getR d_C_draw_10 lf_C_21 rfl (Nat.le_of_ble_eq_true rfl) rfl ?_
      refine j_iload d_C_draw_13 4 rfl ?_
      refine n_iconst d_C_draw_15 0 (by decide) ?_
      refine v_zst d_C_draw_16 rfl rfl (Nat.le_of_ble_eq_true rfl) rfl (by omega) (by omega) (by omega) ?_
      refine n_iinc d_C_draw_17 1 (by decide) 4 rfl (Nat.le_of_ble_eq_true rfl) (lv' := [_, _, _, _, _]) rfl ?_
      refine j_goto d_C_draw_20 3 rfl ?_
      refine j_lv [1, 2, 3, 4, 0] rfl ?_
      exact ih (t + 1) (by omega)
  refine n_iconst d_C_draw_0 0 (by decide) ?_
  refine j_istore d_C_draw_1 (i := 4) (Nat.le_of_ble_eq_true rfl) (lv' := [_, _, _, _, _]) rfl ?_
  refine j_lv [1, 2, 3, 4, 0] rfl ?_
  exact loop1 rc 0 (by omega)
