/-! AuditDeskModel: encode, sum -/
theorem ovr_inv : ∀ n, n < 6 → 1 ≤ n → ovr n = jinvN n := by decide +kernel
/-- word j of row r of group g of the words that are gathered -/
def mew (V : Nat → Nat → Nat) (g r j : Nat) : Nat := if r < 4 then V 100 (16 * g + 4 * r + j) else cwd (fun q => V 100 (16 * g + 4 * q + j)) (r - 4)
def en4 (V : Nat → Nat → Nat) (f i : Nat) : Nat → Nat → Nat → Nat
  | 0 => V
  | j + 1 => vu (en4 V f i j) 88 (5 * (24 * f + i) + j) (mew V (i / 6) (i % 6) j)
theorem en4_nq {V : Nat → Nat → Nat} {f i a : Nat} (h : a ≠ 88) : ∀ j, en4 V f i j a = V a
  | 0 => rfl
  | j + 1 => (vu_nq _ _ _ h).trans (en4_nq h j)
theorem mew_lt {V : Nat → Nat → Nat} {g r j : Nat} (h : ∀ i, i < 64 → V 100 i < 2147483647) (hg : g < 4) (hj : j < 4) : mew V g r j < 2147483647 := by
  unfold mew
  split
  · exact h _ (by omega)
  · exact cwd_lt _ _
theorem en4_lt {V : Nat → Nat → Nat} {f i : Nat} (h : ∀ i, i < 64 → V 100 i < 2147483647) (hi : i < 24) (h8 : ∀ i, i < 360 → V 88 i < 2147483647) : ∀ j, j ≤ 4 → ∀ x, x < 360 → en4 V f i j 88 x < 2147483647
  | 0, _ => h8
  | j + 1, hj => fun x hx => by
    unfold en4 vu
    split
    · exact mew_lt h (by omega) (by omega)
    · exact en4_lt h hi h8 j (by omega) x hx
/-- row i of file f made -/
def enr (V : Nat → Nat → Nat) (L : Nat → Nat → Int64) (f i : Nat) : Nat → Nat → Nat := vu (en4 V f i 4) 88 (5 * (24 * f + i) + 4) (tgd (sN (L 85 1) (L 85 2) (64 * f + 8 + i)) (fun j => sN (L 85 1) (L 85 2) (64 * f + j)) (fun j => en4 V f i 4 88 (5 * (24 * f + i) + j)))
def enc (V : Nat → Nat → Nat) (L : Nat → Nat → Int64) (f : Nat) : Nat → Nat → Nat → Nat
  | 0 => V
  | i + 1 => enr (enc V L f i) L f i
theorem enr_nq {V : Nat → Nat → Nat} {L : Nat → Nat → Int64} {f i a : Nat} (h : a ≠ 88) : enr V L f i a = V a := (vu_nq _ _ _ h).trans (en4_nq h 4)
theorem enc_nq {V : Nat → Nat → Nat} {L : Nat → Nat → Int64} {f a : Nat} (h : a ≠ 88) : ∀ i, enc V L f i a = V a
  | 0 => rfl
  | i + 1 => (enr_nq h).trans (enc_nq h i)
theorem enc_lt {V : Nat → Nat → Nat} {L : Nat → Nat → Int64} {f : Nat} (h : ∀ i, i < 64 → V 100 i < 2147483647) (h8 : ∀ i, i < 360 → V 88 i < 2147483647) : ∀ i, i ≤ 24 → ∀ x, x < 360 → enc V L f i 88 x < 2147483647
  | 0, _ => h8
  | i + 1, hi => fun x hx => by
    have hc : ∀ i', i' < 64 → enc V L f i 100 i' < 2147483647 := by rw [enc_nq (by decide)]; exact h
    show vu _ _ _ _ 88 x < _
    unfold vu
    split
    · exact tgd_lt _ _ _
    · exact en4_lt hc (by omega) (enc_lt h h8 i (by omega)) 4 (by omega) x hx
theorem mew_hi {V : Nat → Nat → Nat} {g r j : Nat} (h : ¬ r < 4) (h6 : r < 6) : mew V g r j = fpl (fpl (fpl (fpl 0 (fti (V 100 (16 * g + 4 * 0 + j)) (ovr (r - 0)))) (fti (V 100 (16 * g + 4 * 1 + j)) (ovr (r - 1)))) (fti (V 100 (16 * g + 4 * 2 + j)) (ovr (r - 2)))) (fti (V 100 (16 * g + 4 * 3 + j)) (ovr (r - 3))) := by
  unfold mew
  rw [if_neg h]
  unfold cwd
  rw [ovr_inv (r - 0) (by omega) (by omega), ovr_inv (r - 1) (by omega) (by omega), ovr_inv (r - 2) (by omega) (by omega), ovr_inv (r - 3) (by omega) (by omega), show 4 + (r - 4) - 0 = r - 0 from by omega, show 4 + (r - 4) - 1 = r - 1 from by omega, show 4 + (r - 4) - 2 = r - 2 from by omega, show 4 + (r - 4) - 3 = r - 3 from by omega]
theorem c_M_encode (g : jG) (V : Nat → Nat → Nat) (L : Nat → Nat → Int64) (f : Nat) (hf : f < 3) (hw : V 87 f ≤ 64) (h100 : ∀ i, i < 64 → V 100 i < 2147483647) (h88 : ∀ i, i < 360 → V 88 i < 2147483647) : jK g Y_M_encode (2, 51) [.ref (jb g + 85), .int (nI f), .ref (jb g + 100)] V L (jA0 none (enc V L f (mrs V f)) L) := by
  refine jK_entry (by decide +kernel) rfl (Nat.le_of_ble_eq_true rfl) ?_
  show jJ (g, Y_M_encode, (2, 51), 0, 0, jVQ g (jA0 none (enc V L f (mrs V f)) L)) [(0, .ref (jb g + 85)), (1, .int (nI f)), (2, .ref (jb g + 100))] (jv (g, Y_M_encode, (2, 51), 0, 0, jVQ g (jA0 none (enc V L f (mrs V f)) L)) V L 0 0) 0 []
  generalize hφ : jA0 none (enc V L f (mrs V f)) L = φ
  have hm : mrs V f ≤ 24 := by unfold mrs; omega
  have loop : ∀ (m i : Nat), i + m = mrs V f → jJ (g, Y_M_encode, (2, 51), 0, 0, jVQ g φ) [(0, .ref (jb g + 85)), (1, .int (nI f)), (2, .ref (jb g + 100)), (3, .int (nI i))] (jv (g, Y_M_encode, (2, 51), 0, 0, jVQ g φ) (enc V L f i) L 0 0) 2 [] := by
    intro m
    induction m with
    | zero =>
      intro i hi
      refine j_iload_n d_M_encode_2 rfl 3 rfl ?_
      refine j_aload_n d_M_encode_3 rfl 0 rfl ?_
      refine j_iload_n d_M_encode_4 rfl 1 rfl ?_
      refine v_callV d_M_encode_5 mt_M_rowsOf ln_M_99 im_M_rowsOf se_M_rowsOf rfl (Nat.le_of_ble_eq_true rfl) rfl rfl ⟨Nat.le_of_ble_eq_true rfl, Nat.le_of_ble_eq_true rfl⟩ (Nat.le_of_ble_eq_true rfl) rfl (Nat.zero_le _) (Nat.zero_le _) (c_M_rowsOf g (enc V L f i) L f hf (by rw [enc_nq (by decide)]; exact hw)) rfl ?_
      rintro _ _ _ ⟨rfl, rfl, rfl⟩
      rw [show mrs (enc V L f i) f = mrs V f from by unfold mrs; rw [enc_nq (by decide)]]
      refine n_icmp_ge d_M_encode_8 182 rfl (by omega) (by omega) (fun h => ?_) (fun h => absurd h (by omega))
      rw [← hi] at hφ
      subst hφ
      exact v_vret d_M_encode_182 rfl (Nat.zero_le _) (Nat.zero_le _) rfl jA0_rfl
    | succ m ih =>
      intro i hi
      have ih' := ih (i + 1) (by omega)
      have hc : ∀ x, x < 64 → enc V L f i 100 x < 2147483647 := by rw [enc_nq (by decide)]; exact h100
      have h8 := enc_lt (L := L) (f := f) h100 h88 i (by omega)
      refine j_iload_n d_M_encode_2 rfl 3 rfl ?_
      refine j_aload_n d_M_encode_3 rfl 0 rfl ?_
      refine j_iload_n d_M_encode_4 rfl 1 rfl ?_
      refine v_callV d_M_encode_5 mt_M_rowsOf ln_M_99 im_M_rowsOf se_M_rowsOf rfl (Nat.le_of_ble_eq_true rfl) rfl rfl ⟨Nat.le_of_ble_eq_true rfl, Nat.le_of_ble_eq_true rfl⟩ (Nat.le_of_ble_eq_true rfl) rfl (Nat.zero_le _) (Nat.zero_le _) (c_M_rowsOf g (enc V L f i) L f hf (by rw [enc_nq (by decide)]; exact hw)) rfl ?_
      rintro _ _ _ ⟨rfl, rfl, rfl⟩
      rw [show mrs (enc V L f i) f = mrs V f from by unfold mrs; rw [enc_nq (by decide)]]
      refine n_icmp_ge d_M_encode_8 182 rfl (by omega) (by omega) (fun h => absurd h (by omega)) (fun h => ?_)
      change jJ _ _ (jv _ (enr (enc V L f i) L f i) L 0 0) _ _ at ih'
      clear ih
      revert ih' hc h8
      generalize enc V L f i = W
      intro hc h8 ih'
      refine n_iconst d_M_encode_11 5 (by decide) ?_
      refine n_bipush d_M_encode_12 24 (by decide) ?_
      refine j_iload_n d_M_encode_14 rfl 1 rfl ?_
      refine n_mul d_M_encode_15 ?_
      refine j_iload_n d_M_encode_16 rfl 3 rfl ?_
      refine n_add d_M_encode_17 ?_
      refine n_mul d_M_encode_18 ?_
      refine j_istore d_M_encode_19 (i := 4) (Nat.le_of_ble_eq_true rfl) (lv' := [_, _, _, _, _]) rfl ?_
      refine j_iload_n d_M_encode_21 rfl 4 rfl ?_
      refine n_bipush d_M_encode_22 6 (by decide) ?_
      refine n_div d_M_encode_24 (by omega) (by omega) (by omega) ?_
      refine j_istore d_M_encode_25 (i := 5) (Nat.le_of_ble_eq_true rfl) (lv' := [_, _, _, _, _, _]) rfl ?_
      refine j_iload_n d_M_encode_27 rfl 5 rfl ?_
      refine n_bipush d_M_encode_28 6 (by decide) ?_
      refine n_rem d_M_encode_30 (by omega) (by omega) (by omega) ?_
      refine j_istore d_M_encode_31 (i := 6) (Nat.le_of_ble_eq_true rfl) (lv' := [_, _, _, _, _, _, _]) rfl ?_
      refine n_iconst d_M_encode_33 0 (by decide) ?_
      refine j_istore d_M_encode_34 (i := 7) (Nat.le_of_ble_eq_true rfl) (lv' := [_, _, _, _, _, _, _, _]) rfl ?_
      refine j_lv [4, 5, 6, 7, 3, 2, 1, 0] rfl ?_
      have inner : ∀ (n j : Nat), j + n = 4 → jJ (g, Y_M_encode, (2, 51), 0, 0, jVQ g φ) [(0, .ref (jb g + 85)), (1, .int (nI f)), (2, .ref (jb g + 100)), (3, .int (nI i)), (4, .int (nI (5 * (24 * f + i)))), (5, .int (nI (i / 6))), (6, .int (nI (i % 6))), (7, .int (nI j))] (jv (g, Y_M_encode, (2, 51), 0, 0, jVQ g φ) (en4 W f i j) L 0 0) 36 [] := by
        intro n
        induction n with
        | zero =>
          intro j hj
          obtain rfl : j = 4 := by omega
          refine j_iload d_M_encode_36 7 rfl ?_
          refine n_iconst d_M_encode_38 4 (by decide) ?_
          refine n_icmp_ge d_M_encode_39 154 rfl (by omega) (by omega) (fun h => ?_) (fun h => absurd h (by omega))
          refine j_aload_n d_M_encode_154 rfl 0 rfl ?_
          refine v_getR d_M_encode_155 lf_M_16 rfl (Nat.le_of_ble_eq_true rfl) rfl ?_
          refine j_iload d_M_encode_158 4 rfl ?_
          refine n_iconst d_M_encode_160 4 (by decide) ?_
          refine n_add d_M_encode_161 ?_
          refine j_aload_n d_M_encode_162 rfl 0 rfl ?_
          refine j_iload_n d_M_encode_163 rfl 1 rfl ?_
          refine j_iload_n d_M_encode_164 rfl 3 rfl ?_
          refine j_aload_n d_M_encode_165 rfl 0 rfl ?_
          refine v_getR d_M_encode_166 lf_M_16 rfl (Nat.le_of_ble_eq_true rfl) rfl ?_
          refine j_iload d_M_encode_169 4 rfl ?_
          refine v_callV d_M_encode_171 mt_M_tag ln_M_107 im_M_tag se_M_tag rfl (Nat.le_of_ble_eq_true rfl) rfl rfl ⟨Nat.le_of_ble_eq_true rfl, Nat.le_of_ble_eq_true rfl⟩ (Nat.le_of_ble_eq_true rfl) rfl (Nat.zero_le _) (Nat.zero_le _) (c_M_tag g (en4 W f i 4) L f i 88 360 (5 * (24 * f + i)) hf (by omega) rfl (by decide) (by decide) (by omega) (en4_lt hc (by omega) h8 4 (by omega))) rfl ?_
          rintro _ _ _ ⟨rfl, rfl, rfl⟩
          refine n_l2i d_M_encode_174 ?_
          refine v_ist d_M_encode_175 rfl rfl (Nat.le_of_ble_eq_true rfl) rfl (by omega) (by omega) ?_
          refine n_iinc d_M_encode_176 1 (by decide) 3 rfl (Nat.le_of_ble_eq_true rfl) (lv' := [_, _, _, _, _, _, _, _]) rfl ?_
          refine j_goto d_M_encode_179 2 rfl ?_
          refine j_lv [1, 2, 3, 0] rfl ?_
          exact ih'
        | succ n ihn =>
          intro j hj
          have ihn' := ihn (j + 1) (by omega)
          rw [en4] at ihn'
          refine j_iload d_M_encode_36 7 rfl ?_
          refine n_iconst d_M_encode_38 4 (by decide) ?_
          refine n_icmp_ge d_M_encode_39 154 rfl (by omega) (by omega) (fun h => absurd h (by omega)) (fun h => ?_)
          refine j_lconst d_M_encode_42 (v := lN 0) (by decide) ?_
          refine j_lstore d_M_encode_43 (i := 8) (Nat.le_of_ble_eq_true rfl) (lv' := [_, _, _, _, _, _, _, _, _]) rfl ?_
          refine n_iconst d_M_encode_45 0 (by decide) ?_
          refine j_istore d_M_encode_46 (i := 10) (Nat.le_of_ble_eq_true rfl) (lv' := [_, _, _, _, _, _, _, _, _, _]) rfl ?_
          by_cases h4 : i % 6 < 4
          · rw [show mew W (i / 6) (i % 6) j = W 100 (16 * (i / 6) + 4 * (i % 6) + j) from if_pos h4] at ihn'
            refine j_iload d_M_encode_48 0 rfl ?_
            refine n_iconst d_M_encode_50 4 (by decide) ?_
            refine n_icmp_ge d_M_encode_51 101 rfl (by omega) (by omega) (fun h => absurd h (by omega)) (fun h => ?_)
            refine j_iload d_M_encode_54 8 rfl ?_
            refine n_iconst d_M_encode_56 3 (by decide) ?_
            refine n_icmp_le d_M_encode_57 101 rfl (by omega) (by omega) (fun h => ?_) (fun h => absurd h (by omega))
            refine j_aload_n d_M_encode_101 rfl 2 rfl ?_
            refine v_getR d_M_encode_102 lf_M_16 rfl (Nat.le_of_ble_eq_true rfl) rfl ?_
            refine j_iload d_M_encode_105 6 rfl ?_
            refine j_iload d_M_encode_107 9 rfl ?_
            refine n_add d_M_encode_109 ?_
            refine j_iload d_M_encode_110 8 rfl ?_
            refine n_iconst d_M_encode_112 4 (by decide) ?_
            refine n_icmp_ge d_M_encode_113 144 rfl (by omega) (by omega) (fun h => absurd h (by omega)) (fun h => ?_)
            refine j_aload_n d_M_encode_116 rfl 4 rfl ?_
            refine n_bipush d_M_encode_117 16 (by decide) ?_
            refine j_iload d_M_encode_119 7 rfl ?_
            refine n_mul d_M_encode_121 ?_
            refine n_iconst d_M_encode_122 4 (by decide) ?_
            refine j_iload d_M_encode_123 8 rfl ?_
            refine n_iconst d_M_encode_125 4 (by decide) ?_
            refine n_icmp_ge d_M_encode_126 134 rfl (by omega) (by omega) (fun h => absurd h (by omega)) (fun h => ?_)
            refine j_iload d_M_encode_129 8 rfl ?_
            refine j_goto d_M_encode_131 135 rfl ?_
            refine n_mul d_M_encode_135 ?_
            refine n_add d_M_encode_136 ?_
            refine j_iload d_M_encode_137 9 rfl ?_
            refine n_add d_M_encode_139 ?_
            refine v_ild d_M_encode_140 rfl rfl (Nat.le_of_ble_eq_true rfl) rfl (by omega) (by omega) ?_
            rw [en4_nq (by decide)]
            refine j_goto d_M_encode_141 147 rfl ?_
            refine v_ist d_M_encode_147 rfl rfl (Nat.le_of_ble_eq_true rfl) rfl (by omega) (by omega) ?_
            refine n_iinc d_M_encode_148 1 (by decide) 9 rfl (Nat.le_of_ble_eq_true rfl) (lv' := [_, _, _, _, _, _, _, _, _, _]) rfl ?_
            refine j_goto d_M_encode_151 36 rfl ?_
            refine j_lv [3, 4, 5, 6, 7, 8, 9, 0] rfl ?_
            exact ihn'
          · rw [mew_hi h4 (by omega)] at ihn'
            refine j_iload d_M_encode_48 0 rfl ?_
            refine n_iconst d_M_encode_50 4 (by decide) ?_
            refine n_icmp_ge d_M_encode_51 101 rfl (by omega) (by omega) (fun h => absurd h (by omega)) (fun h => ?_)
            refine j_iload d_M_encode_54 8 rfl ?_
            refine n_iconst d_M_encode_56 3 (by decide) ?_
            refine n_icmp_le d_M_encode_57 101 rfl (by omega) (by omega) (fun h => absurd h (by omega)) (fun h => ?_)
            refine j_lload d_M_encode_60 1 rfl ?_
            refine j_aload_n d_M_encode_62 rfl 4 rfl ?_
            refine n_bipush d_M_encode_63 16 (by decide) ?_
            refine j_iload d_M_encode_65 7 rfl ?_
            refine n_mul d_M_encode_67 ?_
            refine n_iconst d_M_encode_68 4 (by decide) ?_
            refine j_iload d_M_encode_69 0 rfl ?_
            refine n_mul d_M_encode_71 ?_
            refine n_add d_M_encode_72 ?_
            refine j_iload d_M_encode_73 9 rfl ?_
            refine n_add d_M_encode_75 ?_
            refine v_ild d_M_encode_76 rfl rfl (Nat.le_of_ble_eq_true rfl) rfl (by omega) (by omega) ?_
            rw [en4_nq (by decide)]
            have w0 := hc (16 * (i / 6) + 4 * 0 + j) (by omega)
            refine n_i2l d_M_encode_77 (by omega) ?_
            refine j_iload d_M_encode_78 8 rfl ?_
            refine j_iload d_M_encode_80 0 rfl ?_
            refine n_sub d_M_encode_82 (by omega) ?_
            refine n_i2l d_M_encode_83 (by omega) ?_
            refine v_callS d_M_encode_84 mt_M_over ln_M_103 sm_M_over ⟨Nat.le_of_ble_eq_true rfl, Nat.le_of_ble_eq_true rfl⟩ (Nat.le_of_ble_eq_true rfl) rfl (Nat.zero_le _) (Nat.zero_le _) (c_M_over g (en4 W f i j) L (i % 6 - 0) (by omega)) rfl ?_
            rintro _ _ _ ⟨rfl, rfl, rfl⟩
            have m0 := mP w0 (ovr_lt (i % 6 - 0))
            refine n_lmul d_M_encode_87 ?_
            refine n_ladd d_M_encode_88 ?_
            refine j_ldc2 d_M_encode_89 ct_M_67 ?_
            rw [show (2147483647 : Int64) = lN 2147483647 from by decide]
            refine n_lrem d_M_encode_92 (by omega) (by decide) (by decide) ?_
            rw [fpf]
            refine j_lstore d_M_encode_93 (i := 8) (Nat.le_of_ble_eq_true rfl) (lv' := [_, _, _, _, _, _, _, _, _, _]) rfl ?_
            refine n_iinc d_M_encode_95 1 (by decide) 1 rfl (Nat.le_of_ble_eq_true rfl) (lv' := [(10, .int (nI 1)), _, _, _, _, _, _, _, _, _]) rfl ?_
            refine j_goto d_M_encode_98 48 rfl ?_
            refine j_iload d_M_encode_48 0 rfl ?_
            refine n_iconst d_M_encode_50 4 (by decide) ?_
            refine n_icmp_ge d_M_encode_51 101 rfl (by omega) (by omega) (fun h => absurd h (by omega)) (fun h => ?_)
            refine j_iload d_M_encode_54 8 rfl ?_
            refine n_iconst d_M_encode_56 3 (by decide) ?_
            refine n_icmp_le d_M_encode_57 101 rfl (by omega) (by omega) (fun h => absurd h (by omega)) (fun h => ?_)
            refine j_lload d_M_encode_60 1 rfl ?_
            refine j_aload_n d_M_encode_62 rfl 4 rfl ?_
            refine n_bipush d_M_encode_63 16 (by decide) ?_
            refine j_iload d_M_encode_65 7 rfl ?_
            refine n_mul d_M_encode_67 ?_
            refine n_iconst d_M_encode_68 4 (by decide) ?_
            refine j_iload d_M_encode_69 0 rfl ?_
            refine n_mul d_M_encode_71 ?_
            refine n_add d_M_encode_72 ?_
            refine j_iload d_M_encode_73 9 rfl ?_
            refine n_add d_M_encode_75 ?_
            refine v_ild d_M_encode_76 rfl rfl (Nat.le_of_ble_eq_true rfl) rfl (by omega) (by omega) ?_
            rw [en4_nq (by decide)]
            have w1 := hc (16 * (i / 6) + 4 * 1 + j) (by omega)
            refine n_i2l d_M_encode_77 (by omega) ?_
            refine j_iload d_M_encode_78 8 rfl ?_
            refine j_iload d_M_encode_80 0 rfl ?_
            refine n_sub d_M_encode_82 (by omega) ?_
            refine n_i2l d_M_encode_83 (by omega) ?_
            refine v_callS d_M_encode_84 mt_M_over ln_M_103 sm_M_over ⟨Nat.le_of_ble_eq_true rfl, Nat.le_of_ble_eq_true rfl⟩ (Nat.le_of_ble_eq_true rfl) rfl (Nat.zero_le _) (Nat.zero_le _) (c_M_over g (en4 W f i j) L (i % 6 - 1) (by omega)) rfl ?_
            rintro _ _ _ ⟨rfl, rfl, rfl⟩
            have m1 := mP w1 (ovr_lt (i % 6 - 1))
            refine n_lmul d_M_encode_87 ?_
            refine n_ladd d_M_encode_88 ?_
            refine j_ldc2 d_M_encode_89 ct_M_67 ?_
            rw [show (2147483647 : Int64) = lN 2147483647 from by decide]
            refine n_lrem d_M_encode_92 (Nat.lt_of_lt_of_le (Nat.add_lt_add (fpl_lt _ _) m1) (by decide)) (by decide) (by decide) ?_
            rw [fpf]
            refine j_lstore d_M_encode_93 (i := 8) (Nat.le_of_ble_eq_true rfl) (lv' := [_, _, _, _, _, _, _, _, _, _]) rfl ?_
            refine n_iinc d_M_encode_95 1 (by decide) 1 rfl (Nat.le_of_ble_eq_true rfl) (lv' := [(10, .int (nI 2)), _, _, _, _, _, _, _, _, _]) rfl ?_
            refine j_goto d_M_encode_98 48 rfl ?_
            refine j_iload d_M_encode_48 0 rfl ?_
            refine n_iconst d_M_encode_50 4 (by decide) ?_
            refine n_icmp_ge d_M_encode_51 101 rfl (by omega) (by omega) (fun h => absurd h (by omega)) (fun h => ?_)
            refine j_iload d_M_encode_54 8 rfl ?_
            refine n_iconst d_M_encode_56 3 (by decide) ?_
            refine n_icmp_le d_M_encode_57 101 rfl (by omega) (by omega) (fun h => absurd h (by omega)) (fun h => ?_)
            refine j_lload d_M_encode_60 1 rfl ?_
            refine j_aload_n d_M_encode_62 rfl 4 rfl ?_
            refine n_bipush d_M_encode_63 16 (by decide) ?_
            refine j_iload d_M_encode_65 7 rfl ?_
            refine n_mul d_M_encode_67 ?_
            refine n_iconst d_M_encode_68 4 (by decide) ?_
            refine j_iload d_M_encode_69 0 rfl ?_
            refine n_mul d_M_encode_71 ?_
            refine n_add d_M_encode_72 ?_
            refine j_iload d_M_encode_73 9 rfl ?_
            refine n_add d_M_encode_75 ?_
            refine v_ild d_M_encode_76 rfl rfl (Nat.le_of_ble_eq_true rfl) rfl (by omega) (by omega) ?_
            rw [en4_nq (by decide)]
            have w2 := hc (16 * (i / 6) + 4 * 2 + j) (by omega)
            refine n_i2l d_M_encode_77 (by omega) ?_
            refine j_iload d_M_encode_78 8 rfl ?_
            refine j_iload d_M_encode_80 0 rfl ?_
            refine n_sub d_M_encode_82 (by omega) ?_
            refine n_i2l d_M_encode_83 (by omega) ?_
            refine v_callS d_M_encode_84 mt_M_over ln_M_103 sm_M_over ⟨Nat.le_of_ble_eq_true rfl, Nat.le_of_ble_eq_true rfl⟩ (Nat.le_of_ble_eq_true rfl) rfl (Nat.zero_le _) (Nat.zero_le _) (c_M_over g (en4 W f i j) L (i % 6 - 2) (by omega)) rfl ?_
            rintro _ _ _ ⟨rfl, rfl, rfl⟩
            have m2 := mP w2 (ovr_lt (i % 6 - 2))
            refine n_lmul d_M_encode_87 ?_
            refine n_ladd d_M_encode_88 ?_
            refine j_ldc2 d_M_encode_89 ct_M_67 ?_
            rw [show (2147483647 : Int64) = lN 2147483647 from by decide]
            refine n_lrem d_M_encode_92 (Nat.lt_of_lt_of_le (Nat.add_lt_add (fpl_lt _ _) m2) (by decide)) (by decide) (by decide) ?_
            rw [fpf]
            refine j_lstore d_M_encode_93 (i := 8) (Nat.le_of_ble_eq_true rfl) (lv' := [_, _, _, _, _, _, _, _, _, _]) rfl ?_
            refine n_iinc d_M_encode_95 1 (by decide) 1 rfl (Nat.le_of_ble_eq_true rfl) (lv' := [(10, .int (nI 3)), _, _, _, _, _, _, _, _, _]) rfl ?_
            refine j_goto d_M_encode_98 48 rfl ?_
            refine j_iload d_M_encode_48 0 rfl ?_
            refine n_iconst d_M_encode_50 4 (by decide) ?_
            refine n_icmp_ge d_M_encode_51 101 rfl (by omega) (by omega) (fun h => absurd h (by omega)) (fun h => ?_)
            refine j_iload d_M_encode_54 8 rfl ?_
            refine n_iconst d_M_encode_56 3 (by decide) ?_
            refine n_icmp_le d_M_encode_57 101 rfl (by omega) (by omega) (fun h => absurd h (by omega)) (fun h => ?_)
            refine j_lload d_M_encode_60 1 rfl ?_
            refine j_aload_n d_M_encode_62 rfl 4 rfl ?_
            refine n_bipush d_M_encode_63 16 (by decide) ?_
            refine j_iload d_M_encode_65 7 rfl ?_
            refine n_mul d_M_encode_67 ?_
            refine n_iconst d_M_encode_68 4 (by decide) ?_
            refine j_iload d_M_encode_69 0 rfl ?_
            refine n_mul d_M_encode_71 ?_
            refine n_add d_M_encode_72 ?_
            refine j_iload d_M_encode_73 9 rfl ?_
            refine n_add d_M_encode_75 ?_
            refine v_ild d_M_encode_76 rfl rfl (Nat.le_of_ble_eq_true rfl) rfl (by omega) (by omega) ?_
            rw [en4_nq (by decide)]
            have w3 := hc (16 * (i / 6) + 4 * 3 + j) (by omega)
            refine n_i2l d_M_encode_77 (by omega) ?_
            refine j_iload d_M_encode_78 8 rfl ?_
            refine j_iload d_M_encode_80 0 rfl ?_
            refine n_sub d_M_encode_82 (by omega) ?_
            refine n_i2l d_M_encode_83 (by omega) ?_
            refine v_callS d_M_encode_84 mt_M_over ln_M_103 sm_M_over ⟨Nat.le_of_ble_eq_true rfl, Nat.le_of_ble_eq_true rfl⟩ (Nat.le_of_ble_eq_true rfl) rfl (Nat.zero_le _) (Nat.zero_le _) (c_M_over g (en4 W f i j) L (i % 6 - 3) (by omega)) rfl ?_
            rintro _ _ _ ⟨rfl, rfl, rfl⟩
            have m3 := mP w3 (ovr_lt (i % 6 - 3))
            refine n_lmul d_M_encode_87 ?_
            refine n_ladd d_M_encode_88 ?_
            refine j_ldc2 d_M_encode_89 ct_M_67 ?_
            rw [show (2147483647 : Int64) = lN 2147483647 from by decide]
            refine n_lrem d_M_encode_92 (Nat.lt_of_lt_of_le (Nat.add_lt_add (fpl_lt _ _) m3) (by decide)) (by decide) (by decide) ?_
            rw [fpf]
            refine j_lstore d_M_encode_93 (i := 8) (Nat.le_of_ble_eq_true rfl) (lv' := [_, _, _, _, _, _, _, _, _, _]) rfl ?_
            refine n_iinc d_M_encode_95 1 (by decide) 1 rfl (Nat.le_of_ble_eq_true rfl) (lv' := [(10, .int (nI 4)), _, _, _, _, _, _, _, _, _]) rfl ?_
            refine j_goto d_M_encode_98 48 rfl ?_
            refine j_iload d_M_encode_48 0 rfl ?_
            refine n_iconst d_M_encode_50 4 (by decide) ?_
            refine n_icmp_ge d_M_encode_51 101 rfl (by omega) (by omega) (fun h => ?_) (fun h => absurd h (by omega))
            refine j_aload_n d_M_encode_101 rfl 2 rfl ?_
            refine v_getR d_M_encode_102 lf_M_16 rfl (Nat.le_of_ble_eq_true rfl) rfl ?_
            refine j_iload d_M_encode_105 6 rfl ?_
            refine j_iload d_M_encode_107 9 rfl ?_
            refine n_add d_M_encode_109 ?_
            refine j_iload d_M_encode_110 8 rfl ?_
            refine n_iconst d_M_encode_112 4 (by decide) ?_
            refine n_icmp_ge d_M_encode_113 144 rfl (by omega) (by omega) (fun h => ?_) (fun h => absurd h (by omega))
            refine j_lload d_M_encode_144 1 rfl ?_
            refine n_l2i d_M_encode_146 ?_
            refine v_ist d_M_encode_147 rfl rfl (Nat.le_of_ble_eq_true rfl) rfl (by omega) (by omega) ?_
            refine n_iinc d_M_encode_148 1 (by decide) 9 rfl (Nat.le_of_ble_eq_true rfl) (lv' := [_, _, _, _, _, _, _, _, _, _]) rfl ?_
            refine j_goto d_M_encode_151 36 rfl ?_
            refine j_lv [3, 4, 5, 6, 7, 8, 9, 0] rfl ?_
            exact ihn'
      exact inner 4 0 (by omega)
  refine n_iconst d_M_encode_0 0 (by decide) ?_
  refine j_istore_n d_M_encode_1 (i := 3) rfl (Nat.le_of_ble_eq_true rfl) (lv' := [_, _, _, _]) rfl ?_
  refine j_lv [1, 2, 3, 0] rfl ?_
  exact loop (mrs V f) 0 (by omega)
/-- the longs with the room for sums holding naturals -/
def lsS (L : Nat → Nat → Int64) (S : Nat → Nat) : Nat → Nat → Int64 := fun a x => if a = 101 then lN (S x) else L a x
def su (S : Nat → Nat) (i v : Nat) : Nat → Nat := fun x => if x = i then v else S x
theorem lsS_up (L : Nat → Nat → Int64) (S : Nat → Nat) (i v : Nat) : jupL (lsS L S) 101 i (lN v) = lsS L (su S i v) := by
  funext a x
  unfold jupL lsS
  by_cases h : a = 101
  · rw [if_pos h, if_pos h]
    unfold vp_updL su
    by_cases h2 : x = i
    · rw [if_pos h2, if_pos h2]
    · rw [if_neg h2, if_neg h2]
      rfl
  · rw [if_neg h, if_neg h, if_neg h]
theorem lsS_of (L : Nat → Nat → Int64) : ∃ S, L = lsS L S := ⟨fun x => (L 101 x).toBitVec.toNat, by
  funext a x
  unfold lsS
  split
  · next h =>
    subst h
    obtain ⟨n, hn, e⟩ := wb_of (L 101 x)
    show L 101 x = lN (L 101 x).toBitVec.toNat
    rw [e, wb_tn hn]
  · rfl⟩
section SL
variable {f : jF} {lv : List (Nat × Value)} {V : Nat → Nat → Nat} {L : Nat → Nat → Int64} {S : Nat → Nat} {k n pc : Nat} {st : List Value} {i v : Nat} {z : Int32}
theorem s_ld (hd : decode (jyc f.2.1) pc = .ok (.laload, 1)) (hz : z = nI i) (hi : i < 32) (kk : jJ f lv (jv f V (lsS L S) k n) (pc + 1) (.long (lN (S i)) :: st)) : jJ f lv (jv f V (lsS L S) k n) pc (.int z :: .ref (jb f.1 + 101) :: st) := v_lld hd (q := 101) rfl rfl (by decide) hz hi (by decide) kk
theorem s_st (hd : decode (jyc f.2.1) pc = .ok (.lastore, 1)) (hz : z = nI i) (hi : i < 32) (kk : jJ f lv (jv f V (lsS L (su S i v)) k n) (pc + 1) st) : jJ f lv (jv f V (lsS L S) k n) pc (.long (lN v) :: .int z :: .ref (jb f.1 + 101) :: st) := v_lst hd (q := 101) rfl rfl (by decide) hz hi (by decide) (by rw [lsS_up]; exact kk)
end SL
def cof (r c : Nat) : Nat := if r < 4 then (if r = c then 1 else 0) else ovr (r - c)
def sus (V : Nat → Nat → Nat) (n f i k : Nat) (S : Nat → Nat) : Nat → Nat → Nat
  | 0 => S
  | c + 1 => su (su (sus V n f i k S c) (8 * n + c) (cof (i % 6) c)) (8 * n + 4 + c) (V 90 (360 * k + 5 * (24 * f + i) + c))
theorem c_M_sum (g : jG) (V : Nat → Nat → Nat) (L : Nat → Nat → Int64) (S : Nat → Nat) (n f i k : Nat) (hn : n < 4) (hf : f < 3) (hi : i < 24) (hk : k < 4) (hN : jN V) : jK g Y_M_sum (2, 50) [.ref (jb g + 85), .int (nI n), .int (nI f), .int (nI i), .int (nI k)] V (lsS L S) (jA0 none V (lsS L (sus V n f i k S 4))) := by
  refine jK_entry (by decide +kernel) rfl (Nat.le_of_ble_eq_true rfl) ?_
  show jJ (g, Y_M_sum, (2, 50), 0, 0, jVQ g (jA0 none V (lsS L (sus V n f i k S 4)))) [(0, .ref (jb g + 85)), (1, .int (nI n)), (2, .int (nI f)), (3, .int (nI i)), (4, .int (nI k))] (jv (g, Y_M_sum, (2, 50), 0, 0, jVQ g (jA0 none V (lsS L (sus V n f i k S 4)))) V (lsS L S) 0 0) 0 []
  generalize hφ : jA0 none V (lsS L (sus V n f i k S 4)) = φ
  have loop : ∀ (m c : Nat), c + m = 4 → jJ (g, Y_M_sum, (2, 50), 0, 0, jVQ g φ) [(0, .ref (jb g + 85)), (1, .int (nI n)), (2, .int (nI f)), (3, .int (nI i)), (4, .int (nI k)), (5, .int (nI (i % 6))), (6, .int (nI c))] (jv (g, Y_M_sum, (2, 50), 0, 0, jVQ g φ) V (lsS L (sus V n f i k S c)) 0 0) 9 [] := by
    intro m
    induction m with
    | zero =>
      intro c hc
      obtain rfl : c = 4 := by omega
      refine j_iload d_M_sum_9 6 rfl ?_
      refine n_iconst d_M_sum_11 4 (by decide) ?_
      refine n_icmp_ge d_M_sum_12 93 rfl (by omega) (by omega) (fun h => ?_) (fun h => absurd h (by omega))
      subst hφ
      exact v_vret d_M_sum_93 rfl (Nat.zero_le _) (Nat.zero_le _) rfl jA0_rfl
    | succ m ih =>
      intro c hc
      have ih' := ih (c + 1) (by omega)
      rw [sus] at ih'
      have h9 := hN.kp (360 * k + 5 * (24 * f + i) + c) (by omega)
      refine j_iload d_M_sum_9 6 rfl ?_
      refine n_iconst d_M_sum_11 4 (by decide) ?_
      refine n_icmp_ge d_M_sum_12 93 rfl (by omega) (by omega) (fun h => absurd h (by omega)) (fun h => ?_)
      refine j_aload_n d_M_sum_15 rfl 0 rfl ?_
      refine v_getR d_M_sum_16 lf_M_56 rfl (Nat.le_of_ble_eq_true rfl) rfl ?_
      refine n_bipush d_M_sum_19 8 (by decide) ?_
      refine j_iload_n d_M_sum_21 rfl 1 rfl ?_
      refine n_mul d_M_sum_22 ?_
      refine j_iload d_M_sum_23 6 rfl ?_
      refine n_add d_M_sum_25 ?_
      refine j_iload d_M_sum_26 5 rfl ?_
      refine n_iconst d_M_sum_28 4 (by decide) ?_
      refine n_icmp_ge d_M_sum_29 47 rfl (by omega) (by omega) (fun h4 => ?_) (fun h4 => ?_)
      · rw [show cof (i % 6) c = ovr (i % 6 - c) from if_neg (by omega)] at ih'
        refine j_iload d_M_sum_47 5 rfl ?_
        refine j_iload d_M_sum_49 6 rfl ?_
        refine n_sub d_M_sum_51 (by omega) ?_
        refine n_i2l d_M_sum_52 (by omega) ?_
        refine v_callS d_M_sum_53 mt_M_over ln_M_103 sm_M_over ⟨Nat.le_of_ble_eq_true rfl, Nat.le_of_ble_eq_true rfl⟩ (Nat.le_of_ble_eq_true rfl) rfl (Nat.zero_le _) (Nat.zero_le _) (c_M_over g V (lsS L (sus V n f i k S c)) (i % 6 - c) (by omega)) rfl ?_
        rintro _ _ _ ⟨rfl, rfl, rfl⟩
        refine s_st d_M_sum_56 rfl (by omega) ?_
        refine j_aload_n d_M_sum_57 rfl 0 rfl ?_
        refine v_getR d_M_sum_58 lf_M_56 rfl (Nat.le_of_ble_eq_true rfl) rfl ?_
        refine n_bipush d_M_sum_61 8 (by decide) ?_
        refine j_iload_n d_M_sum_63 rfl 1 rfl ?_
        refine n_mul d_M_sum_64 ?_
        refine n_iconst d_M_sum_65 4 (by decide) ?_
        refine n_add d_M_sum_66 ?_
        refine j_iload d_M_sum_67 6 rfl ?_
        refine n_add d_M_sum_69 ?_
        refine j_aload_n d_M_sum_70 rfl 0 rfl ?_
        refine v_getR d_M_sum_71 lf_M_23 rfl (Nat.le_of_ble_eq_true rfl) rfl ?_
        refine j_iload d_M_sum_74 4 rfl ?_
        refine j_iload_n d_M_sum_76 rfl 2 rfl ?_
        refine j_iload_n d_M_sum_77 rfl 3 rfl ?_
        refine v_callS d_M_sum_78 mt_M_spot ln_M_125 sm_M_spot ⟨Nat.le_of_ble_eq_true rfl, Nat.le_of_ble_eq_true rfl⟩ (Nat.le_of_ble_eq_true rfl) rfl (Nat.zero_le _) (Nat.zero_le _) (c_M_spot g V (lsS L (su (sus V n f i k S c) (8 * n + c) (ovr (i % 6 - c)))) k f i) rfl ?_
        rintro _ _ _ ⟨rfl, rfl, rfl⟩
        refine j_iload d_M_sum_81 6 rfl ?_
        refine n_add d_M_sum_83 ?_
        refine v_ild d_M_sum_84 rfl rfl (Nat.le_of_ble_eq_true rfl) rfl (by omega) (by omega) ?_
        refine n_i2l d_M_sum_85 (by omega) ?_
        refine s_st d_M_sum_86 rfl (by omega) ?_
        refine n_iinc d_M_sum_87 1 (by decide) 6 rfl (Nat.le_of_ble_eq_true rfl) (lv' := [_, _, _, _, _, _, _]) rfl ?_
        refine j_goto d_M_sum_90 9 rfl ?_
        refine j_lv [1, 2, 3, 4, 5, 6, 0] rfl ?_
        exact ih'
      · refine j_iload d_M_sum_32 5 rfl ?_
        refine j_iload d_M_sum_34 6 rfl ?_
        refine n_icmp_ne d_M_sum_36 43 rfl (by omega) (by omega) (fun h5 => ?_) (fun h5 => ?_)
        · rw [show cof (i % 6) c = 0 from by unfold cof; rw [if_pos (by omega), if_neg h5]] at ih'
          refine j_lconst d_M_sum_43 (v := lN 0) (by decide) ?_
          refine j_goto d_M_sum_44 56 rfl ?_
          refine s_st d_M_sum_56 rfl (by omega) ?_
          refine j_aload_n d_M_sum_57 rfl 0 rfl ?_
          refine v_getR d_M_sum_58 lf_M_56 rfl (Nat.le_of_ble_eq_true rfl) rfl ?_
          refine n_bipush d_M_sum_61 8 (by decide) ?_
          refine j_iload_n d_M_sum_63 rfl 1 rfl ?_
          refine n_mul d_M_sum_64 ?_
          refine n_iconst d_M_sum_65 4 (by decide) ?_
          refine n_add d_M_sum_66 ?_
          refine j_iload d_M_sum_67 6 rfl ?_
          refine n_add d_M_sum_69 ?_
          refine j_aload_n d_M_sum_70 rfl 0 rfl ?_
          refine v_getR d_M_sum_71 lf_M_23 rfl (Nat.le_of_ble_eq_true rfl) rfl ?_
          refine j_iload d_M_sum_74 4 rfl ?_
          refine j_iload_n d_M_sum_76 rfl 2 rfl ?_
          refine j_iload_n d_M_sum_77 rfl 3 rfl ?_
          refine v_callS d_M_sum_78 mt_M_spot ln_M_125 sm_M_spot ⟨Nat.le_of_ble_eq_true rfl, Nat.le_of_ble_eq_true rfl⟩ (Nat.le_of_ble_eq_true rfl) rfl (Nat.zero_le _) (Nat.zero_le _) (c_M_spot g V (lsS L (su (sus V n f i k S c) (8 * n + c) (0))) k f i) rfl ?_
          rintro _ _ _ ⟨rfl, rfl, rfl⟩
          refine j_iload d_M_sum_81 6 rfl ?_
          refine n_add d_M_sum_83 ?_
          refine v_ild d_M_sum_84 rfl rfl (Nat.le_of_ble_eq_true rfl) rfl (by omega) (by omega) ?_
          refine n_i2l d_M_sum_85 (by omega) ?_
          refine s_st d_M_sum_86 rfl (by omega) ?_
          refine n_iinc d_M_sum_87 1 (by decide) 6 rfl (Nat.le_of_ble_eq_true rfl) (lv' := [_, _, _, _, _, _, _]) rfl ?_
          refine j_goto d_M_sum_90 9 rfl ?_
          refine j_lv [1, 2, 3, 4, 5, 6, 0] rfl ?_
          exact ih'
        · rw [show cof (i % 6) c = 1 from by unfold cof; rw [if_pos (by omega), if_pos h5]] at ih'
          refine j_lconst d_M_sum_39 (v := lN 1) (by decide) ?_
          refine j_goto d_M_sum_40 56 rfl ?_
          refine s_st d_M_sum_56 rfl (by omega) ?_
          refine j_aload_n d_M_sum_57 rfl 0 rfl ?_
          refine v_getR d_M_sum_58 lf_M_56 rfl (Nat.le_of_ble_eq_true rfl) rfl ?_
          refine n_bipush d_M_sum_61 8 (by decide) ?_
          refine j_iload_n d_M_sum_63 rfl 1 rfl ?_
          refine n_mul d_M_sum_64 ?_
          refine n_iconst d_M_sum_65 4 (by decide) ?_
          refine n_add d_M_sum_66 ?_
          refine j_iload d_M_sum_67 6 rfl ?_
          refine n_add d_M_sum_69 ?_
          refine j_aload_n d_M_sum_70 rfl 0 rfl ?_
          refine v_getR d_M_sum_71 lf_M_23 rfl (Nat.le_of_ble_eq_true rfl) rfl ?_
          refine j_iload d_M_sum_74 4 rfl ?_
          refine j_iload_n d_M_sum_76 rfl 2 rfl ?_
          refine j_iload_n d_M_sum_77 rfl 3 rfl ?_
          refine v_callS d_M_sum_78 mt_M_spot ln_M_125 sm_M_spot ⟨Nat.le_of_ble_eq_true rfl, Nat.le_of_ble_eq_true rfl⟩ (Nat.le_of_ble_eq_true rfl) rfl (Nat.zero_le _) (Nat.zero_le _) (c_M_spot g V (lsS L (su (sus V n f i k S c) (8 * n + c) (1))) k f i) rfl ?_
          rintro _ _ _ ⟨rfl, rfl, rfl⟩
          refine j_iload d_M_sum_81 6 rfl ?_
          refine n_add d_M_sum_83 ?_
          refine v_ild d_M_sum_84 rfl rfl (Nat.le_of_ble_eq_true rfl) rfl (by omega) (by omega) ?_
          refine n_i2l d_M_sum_85 (by omega) ?_
          refine s_st d_M_sum_86 rfl (by omega) ?_
          refine n_iinc d_M_sum_87 1 (by decide) 6 rfl (Nat.le_of_ble_eq_true rfl) (lv' := [_, _, _, _, _, _, _]) rfl ?_
          refine j_goto d_M_sum_90 9 rfl ?_
          refine j_lv [1, 2, 3, 4, 5, 6, 0] rfl ?_
          exact ih'
  refine j_iload_n d_M_sum_0 rfl 3 rfl ?_
  refine n_bipush d_M_sum_1 6 (by decide) ?_
  refine n_rem d_M_sum_3 (by omega) (by omega) (by omega) ?_
  refine j_istore d_M_sum_4 (i := 5) (Nat.le_of_ble_eq_true rfl) (lv' := [_, _, _, _, _, _]) rfl ?_
  refine n_iconst d_M_sum_6 0 (by decide) ?_
  refine j_istore d_M_sum_7 (i := 6) (Nat.le_of_ble_eq_true rfl) (lv' := [_, _, _, _, _, _, _]) rfl ?_
  refine j_lv [2, 3, 4, 5, 6, 1, 0] rfl ?_
  exact loop 4 0 (by omega)
