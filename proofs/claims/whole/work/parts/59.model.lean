/-! AuditDeskModel: repair, fetch -/
theorem mgw_lt {V : Nat → Nat → Nat} {L : Nat → Nat → Int64} {f : Nat} {S : Nat → Nat} (hok : ∀ t T, t < 4 → ¬ (mgr V L f t T 6).2 < 4 → mok (mgr V L f t T 6).1) : ∀ t, t ≤ 4 → ∀ x, x < 64 → (mgw V L f S t).1.1 100 x < 2147483647
  | 0, _ => fun x hx => by
    show (if 100 = 100 ∧ x < 64 then 0 else _) < _
    rw [if_pos ⟨rfl, hx⟩]
    omega
  | t + 1, ht => fun x hx => by
    have e := mgw_lt (S := S) hok t (by omega) x hx
    rw [mgw_s]
    split
    · split
      · exact e
      · next h =>
        have h1 := hok t (mgw V L f S t).1.2 (by omega) h
        show mwk _ _ _ _ 100 x < _
        unfold mwk
        split
        · exact sP_stg h1.1 h1.2 4 (by omega) _ (by omega)
        · exact e
    · exact e
theorem enc_L {L M : Nat → Nat → Int64} (h : M 85 = L 85) (V : Nat → Nat → Nat) (f : Nat) : ∀ n, enc V M f n = enc V L f n
  | 0 => rfl
  | n + 1 => by
    unfold enc
    rw [enc_L h V f n]
    unfold enr
    rw [h]
theorem mgr_L {V W : Nat → Nat → Nat} {L M : Nat → Nat → Int64} (h89 : W 89 = V 89) (h90 : W 90 = V 90) (h91 : W 91 = V 91) (hL : M 85 = L 85) (f q : Nat) (S : Nat → Nat) : ∀ t, mgr W M f q S t = mgr V L f q S t
  | 0 => rfl
  | t + 1 => by
    rw [mgr_s, mgr_s, mgr_L h89 h90 h91 hL f q S t, mkk_eq (V := V) (L := L) f (6 * q + t) h89 h90 h91 hL, sus_eq (V := V) h90]
def mbk (W : Nat → Nat → Nat) (t : Nat) : Nat → Nat → Nat := fun a x => if a = 102 ∧ x < t then W 88 x else W a x
theorem mbk_0 (V : Nat → Nat → Nat) : mbk V 0 = V := by
  funext a x
  exact if_neg (by omega)
theorem mbk_nq {V : Nat → Nat → Nat} {t a : Nat} (h : a ≠ 102) : mbk V t a = V a := by
  funext x
  exact if_neg (fun z => h z.1)
theorem mbk_s (V : Nat → Nat → Nat) (t : Nat) : vu (mbk V t) 102 t (V 88 t) = mbk V (t + 1) := by
  funext a x
  unfold vu mbk
  by_cases h : a = 102 ∧ x = t
  · rw [if_pos h, if_pos (by omega), h.2]
  · rw [if_neg h]
    by_cases h2 : a = 102 ∧ x < t
    · rw [if_pos h2, if_pos (by omega)]
    · rw [if_neg h2, if_neg (by omega)]
def mrb (W : Nat → Nat → Nat) (t : Nat) : Nat → Nat → Nat := fun a x => if a = 88 ∧ x < t then W 102 x else W a x
theorem mrb_0 (V : Nat → Nat → Nat) : mrb V 0 = V := by
  funext a x
  exact if_neg (by omega)
theorem mrb_nq {V : Nat → Nat → Nat} {t a : Nat} (h : a ≠ 88) : mrb V t a = V a := by
  funext x
  exact if_neg (fun z => h z.1)
theorem mrb_s (V : Nat → Nat → Nat) (t : Nat) : vu (mrb V t) 88 t (V 102 t) = mrb V (t + 1) := by
  funext a x
  unfold vu mrb
  by_cases h : a = 88 ∧ x = t
  · rw [if_pos h, if_pos (by omega), h.2]
  · rw [if_neg h]
    by_cases h2 : a = 88 ∧ x < t
    · rw [if_pos h2, if_pos (by omega)]
    · rw [if_neg h2, if_neg (by omega)]
def mdn (V : Nat → Nat → Nat) (k f : Nat) : Nat → Nat
  | 0 => 0
  | i + 1 => mdn V k f i + mdo V k f i (5 * (24 * f + i)) 5
theorem mdn_le (V : Nat → Nat → Nat) (k f : Nat) : ∀ i, mdn V k f i ≤ i
  | 0 => Nat.le_refl _
  | i + 1 => by
    have := mdn_le V k f i
    have := mdo_le V k f i (5 * (24 * f + i)) 5
    unfold mdn
    omega
/-- a repair: the rows made anew, then laid, then what was made brought back -/
def mr3 (W : Nat → Nat → Nat) (L : Nat → Nat → Int64) (f : Nat) : Nat → Nat → Nat := enc (mbk W 360) L f (mrs W f)
def mr5 (W : Nat → Nat → Nat) (L : Nat → Nat → Int64) (k f : Nat) : Nat → Nat → Nat := mpl (vu (mr3 W L f) 89 (3 * k + f) 1) k f (mrs W f)
def mr6 (W : Nat → Nat → Nat) (L : Nat → Nat → Int64) (k f : Nat) : Nat → Nat → Nat := mrb (mr5 W L k f) 360
def mrn (W : Nat → Nat → Nat) (L : Nat → Nat → Int64) (k f : Nat) : Nat := mdn (mr3 W L f) k f (mrs W f)
def mr7 (W : Nat → Nat → Nat) (L : Nat → Nat → Int64) (k f : Nat) : Nat → Nat → Nat := vu (mr6 W L k f) 94 k (mr6 W L k f 94 k + mrn W L k f)
theorem jN_8 {V W : Nat → Nat → Nat} (hN : jN V) (h : ∀ a, a ≠ 88 → a ≠ 100 → a ≠ 102 → W a = V a) (h88 : ∀ i, i < 360 → W 88 i < 2147483647) : jN W := by
  unfold jN
  rw [h 85 (by decide) (by decide) (by decide), h 87 (by decide) (by decide) (by decide), h 89 (by decide) (by decide) (by decide), h 90 (by decide) (by decide) (by decide), h 91 (by decide) (by decide) (by decide), h 95 (by decide) (by decide) (by decide), h 96 (by decide) (by decide) (by decide), h 97 (by decide) (by decide) (by decide)]
  exact ⟨hN.1, hN.2.1, h88, hN.2.2.2⟩
/-- what gathering leaves, with the mark of what was thrown -/
def mga (V : Nat → Nat → Nat) (L : Nat → Nat → Int64) (f : Nat) (S : Nat → Nat) (x : Nat) : Nat → Nat → Nat := vu (mgw (vu V 85 0 0) L f S (mrs V f / 6)).1.1 85 0 x
def mgo (V : Nat → Nat → Nat) (L : Nat → Nat → Int64) (f : Nat) : Prop := ∀ t T, t < 4 → ¬ (mgr V L f t T 6).2 < 4 → mok (mgr V L f t T 6).1
theorem mgo_t {V : Nat → Nat → Nat} {L : Nat → Nat → Int64} {f : Nat} (x : Nat) (h : mgo V L f) : mgo (vu V 85 0 x) L f := fun t T ht => by
  rw [mgr_L (V := V) (W := vu V 85 0 x) (L := L) (M := L) rfl rfl rfl rfl]
  exact h t T ht
def mft (W : Nat → Nat → Nat) (t : Nat) : Nat → Nat → Nat := fun a x => if a = 99 ∧ x < t then W 100 x else W a x
theorem mft_0 (V : Nat → Nat → Nat) : mft V 0 = V := by
  funext a x
  exact if_neg (by omega)
theorem mft_nq {V : Nat → Nat → Nat} {t a : Nat} (h : a ≠ 99) : mft V t a = V a := by
  funext x
  exact if_neg (fun z => h z.1)
theorem mft_s (V : Nat → Nat → Nat) (t : Nat) : vu (mft V t) 99 t (V 100 t) = mft V (t + 1) := by
  funext a x
  unfold vu mft
  by_cases h : a = 99 ∧ x = t
  · rw [if_pos h, if_pos (by omega), h.2]
  · rw [if_neg h]
    by_cases h2 : a = 99 ∧ x < t
    · rw [if_pos h2, if_pos (by omega)]
    · rw [if_neg h2, if_neg (by omega)]
theorem c_M_fetch (g : jG) (V : Nat → Nat → Nat) (L : Nat → Nat → Int64) (S : Nat → Nat) (hN : jN V) (f : Nat) (hf0 : f < V 85 4) (hok : mgo V L f) (hg : (mgw (vu V 85 0 0) L f S (mrs V f / 6)).2 = true) : jK g Y_M_fetch (5, 123) [.ref (jb g + 85), .int (nI f)] V (lsS L S) (jA0 (some (.int (nI (V 87 f)))) (mft (vu (mga V L f S 0) 85 21 (V 87 f)) (V 87 f)) (lsS L (mgw (vu V 85 0 0) L f S (mrs V f / 6)).1.2)) := by
  refine jK_entry (by decide +kernel) rfl (Nat.le_of_ble_eq_true rfl) ?_
  show jJ (g, Y_M_fetch, (5, 123), 0, 0, jVQ g (jA0 (some (.int (nI (V 87 f)))) (mft (vu (mga V L f S 0) 85 21 (V 87 f)) (V 87 f)) (lsS L (mgw (vu V 85 0 0) L f S (mrs V f / 6)).1.2))) [(0, .ref (jb g + 85)), (1, .int (nI f))] (jv (g, Y_M_fetch, (5, 123), 0, 0, jVQ g (jA0 (some (.int (nI (V 87 f)))) (mft (vu (mga V L f S 0) 85 21 (V 87 f)) (V 87 f)) (lsS L (mgw (vu V 85 0 0) L f S (mrs V f / 6)).1.2))) V (lsS L S) 0 0) 0 []
  have h3 := hN.F
  have hw := hN.w (show f < 3 by omega)
  refine j_aload_n d_M_fetch_0 rfl 0 rfl ?_
  refine j_aload_n d_M_fetch_1 rfl 0 rfl ?_
  refine j_iload_n d_M_fetch_2 rfl 1 rfl ?_
  refine v_callV d_M_fetch_3 mt_M_isFile ln_M_118 im_M_isFile se_M_isFile rfl (Nat.le_of_ble_eq_true rfl) rfl rfl ⟨Nat.le_of_ble_eq_true rfl, Nat.le_of_ble_eq_true rfl⟩ (Nat.le_of_ble_eq_true rfl) rfl (Nat.zero_le _) (Nat.zero_le _) (c_M_isFile g V (lsS L S) (nI f)) rfl ?_
  rintro _ _ _ ⟨rfl, rfl, rfl⟩
  rw [isn_nI (by omega) hf0]
  refine n_if_eq d_M_fetch_6 13 rfl (by omega) (fun h => absurd h (by omega)) (fun h => ?_)
  refine n_iconst d_M_fetch_9 0 (by decide) ?_
  refine j_goto d_M_fetch_10 14 rfl ?_
  refine v_putI d_M_fetch_14 lf_M_63 rfl (Nat.le_of_ble_eq_true rfl) rfl rfl rfl rfl ?_
  refine j_aload_n d_M_fetch_17 rfl 0 rfl ?_
  refine v_getI d_M_fetch_18 lf_M_63 rfl (Nat.le_of_ble_eq_true rfl) rfl ?_
  rw [vu_eq]
  refine n_ift_le d_M_fetch_21 26 rfl rfl (by decide) ?_
  refine j_aload_n d_M_fetch_26 rfl 0 rfl ?_
  refine j_aload_n d_M_fetch_27 rfl 0 rfl ?_
  refine j_iload_n d_M_fetch_28 rfl 1 rfl ?_
  refine v_callV d_M_fetch_29 mt_M_gather ln_M_172 im_M_gather se_M_gather rfl (Nat.le_of_ble_eq_true rfl) rfl rfl ⟨Nat.le_of_ble_eq_true rfl, Nat.le_of_ble_eq_true rfl⟩ (Nat.le_of_ble_eq_true rfl) rfl (Nat.zero_le _) (Nat.zero_le _) (c_M_gather g (vu V 85 0 0) L S f (jN_t 0 hN) hf0 (mgo_t 0 hok)) rfl ?_
  rintro _ _ _ ⟨rfl, rfl, rfl⟩
  rw [show mrs (vu V 85 0 0) f = mrs V f from rfl]
  rw [show mgb (mgw (vu V 85 0 0) L f S (mrs V f / 6)) = 1 from if_pos hg]
  refine n_if_eq d_M_fetch_32 39 rfl (by omega) (fun h => absurd h (by omega)) (fun h => ?_)
  refine n_iconst d_M_fetch_35 0 (by decide) ?_
  refine j_goto d_M_fetch_36 40 rfl ?_
  refine v_putI d_M_fetch_40 lf_M_63 rfl (Nat.le_of_ble_eq_true rfl) rfl rfl rfl rfl ?_
  refine j_aload_n d_M_fetch_43 rfl 0 rfl ?_
  refine v_getI d_M_fetch_44 lf_M_63 rfl (Nat.le_of_ble_eq_true rfl) rfl ?_
  rw [vu_eq]
  refine n_ift_le d_M_fetch_47 52 rfl rfl (by decide) ?_
  show jJ _ _ (jv _ (mga V L f S 0) (lsS L (mgw (vu V 85 0 0) L f S (mrs V f / 6)).1.2) 0 0) _ _
  have e87 : mga V L f S 0 87 f = V 87 f := by show (mgw (vu V 85 0 0) L f S (mrs V f / 6)).1.1 87 f = _; rw [mgw_nq (by decide)]; rfl
  generalize (lsS L (mgw (vu V 85 0 0) L f S (mrs V f / 6)).1.2) = M
  revert e87
  generalize mga V L f S 0 = W
  intro e87
  refine j_aload_n d_M_fetch_52 rfl 0 rfl ?_
  refine j_aload_n d_M_fetch_53 rfl 0 rfl ?_
  refine v_getR d_M_fetch_54 lf_M_13 rfl (Nat.le_of_ble_eq_true rfl) rfl ?_
  refine j_iload_n d_M_fetch_57 rfl 1 rfl ?_
  refine v_ild d_M_fetch_58 rfl rfl (Nat.le_of_ble_eq_true rfl) rfl (by omega) (by omega) ?_
  rw [e87]
  refine v_putI d_M_fetch_59 lf_M_179 rfl (Nat.le_of_ble_eq_true rfl) rfl rfl rfl rfl ?_
  generalize V 87 f = n at *
  generalize hX : vu W 85 21 n = X
  have e21 : X 85 21 = n := by rw [← hX]; exact vu_eq _ _ _ _
  refine n_iconst d_M_fetch_62 0 (by decide) ?_
  refine j_istore_n d_M_fetch_63 (i := 2) rfl (Nat.le_of_ble_eq_true rfl) (lv' := [_, _, _]) rfl ?_
  refine j_lv [1, 2, 0] rfl ?_
  generalize hφ : jA0 (some (.int (nI n))) (mft X n) M = φ
  have loop : ∀ (m t : Nat), t + m = n → jJ (g, Y_M_fetch, (5, 123), 0, 0, jVQ g φ) [(0, .ref (jb g + 85)), (1, .int (nI f)), (2, .int (nI t))] (jv (g, Y_M_fetch, (5, 123), 0, 0, jVQ g φ) (mft X t) M 0 0) 64 [] := by
    intro m
    induction m with
    | zero =>
      intro t ht
      obtain rfl : t = n := by omega
      refine j_iload_n d_M_fetch_64 rfl 2 rfl ?_
      refine j_aload_n d_M_fetch_65 rfl 0 rfl ?_
      refine v_getI d_M_fetch_66 lf_M_179 rfl (Nat.le_of_ble_eq_true rfl) rfl ?_
      rw [show mft X t 85 21 = t from by rw [mft_nq (by decide), e21]]
      refine n_icmp_ge d_M_fetch_69 90 rfl (by omega) (by omega) (fun h => ?_) (fun h => absurd h (by omega))
      refine j_aload_n d_M_fetch_90 rfl 0 rfl ?_
      refine v_getI d_M_fetch_91 lf_M_179 rfl (Nat.le_of_ble_eq_true rfl) rfl ?_
      rw [show mft X t 85 21 = t from by rw [mft_nq (by decide), e21]]
      subst hφ
      exact v_iret d_M_fetch_94 rfl (Nat.zero_le _) (Nat.zero_le _) rfl jA0_rfl
    | succ m ih =>
      intro t ht
      have ih' := ih (t + 1) (by omega)
      rw [← mft_s] at ih'
      refine j_iload_n d_M_fetch_64 rfl 2 rfl ?_
      refine j_aload_n d_M_fetch_65 rfl 0 rfl ?_
      refine v_getI d_M_fetch_66 lf_M_179 rfl (Nat.le_of_ble_eq_true rfl) rfl ?_
      rw [show mft X t 85 21 = n from by rw [mft_nq (by decide), e21]]
      refine n_icmp_ge d_M_fetch_69 90 rfl (by omega) (by omega) (fun h => absurd h (by omega)) (fun h => ?_)
      refine j_aload_n d_M_fetch_72 rfl 0 rfl ?_
      refine v_getR d_M_fetch_73 lf_M_50 rfl (Nat.le_of_ble_eq_true rfl) rfl ?_
      refine j_iload_n d_M_fetch_76 rfl 2 rfl ?_
      refine j_aload_n d_M_fetch_77 rfl 0 rfl ?_
      refine v_getR d_M_fetch_78 lf_M_53 rfl (Nat.le_of_ble_eq_true rfl) rfl ?_
      refine j_iload_n d_M_fetch_81 rfl 2 rfl ?_
      refine v_ild d_M_fetch_82 rfl rfl (Nat.le_of_ble_eq_true rfl) rfl (by omega) (by omega) ?_
      rw [mft_nq (show 100 ≠ 99 by decide)]
      refine v_ist d_M_fetch_83 rfl rfl (Nat.le_of_ble_eq_true rfl) rfl (by omega) (by omega) ?_
      refine n_iinc d_M_fetch_84 1 (by decide) 2 rfl (Nat.le_of_ble_eq_true rfl) (lv' := [_, _, _]) rfl ?_
      refine j_goto d_M_fetch_87 64 rfl ?_
      refine j_lv [1, 2, 0] rfl ?_
      exact ih'
  have z0 := loop n 0 (by omega)
  rw [mft_0] at z0
  exact z0
theorem n2_M_fetch (g : jG) (V : Nat → Nat → Nat) (L : Nat → Nat → Int64) (S : Nat → Nat) (hN : jN V) (f : Nat) (hf0 : f < V 85 4) (hok : mgo V L f) (hg : ¬ (mgw (vu V 85 0 0) L f S (mrs V f / 6)).2 = true) : jK g Y_M_fetch (5, 123) [.ref (jb g + 85), .int (nI f)] V (lsS L S) (jA0 (some (.int (nI 0))) (mga V L f S 2) (lsS L (mgw (vu V 85 0 0) L f S (mrs V f / 6)).1.2)) := by
  refine jK_entry (by decide +kernel) rfl (Nat.le_of_ble_eq_true rfl) ?_
  show jJ (g, Y_M_fetch, (5, 123), 0, 0, jVQ g (jA0 (some (.int (nI 0))) (mga V L f S 2) (lsS L (mgw (vu V 85 0 0) L f S (mrs V f / 6)).1.2))) [(0, .ref (jb g + 85)), (1, .int (nI f))] (jv (g, Y_M_fetch, (5, 123), 0, 0, jVQ g (jA0 (some (.int (nI 0))) (mga V L f S 2) (lsS L (mgw (vu V 85 0 0) L f S (mrs V f / 6)).1.2))) V (lsS L S) 0 0) 0 []
  have h3 := hN.F
  refine j_aload_n d_M_fetch_0 rfl 0 rfl ?_
  refine j_aload_n d_M_fetch_1 rfl 0 rfl ?_
  refine j_iload_n d_M_fetch_2 rfl 1 rfl ?_
  refine v_callV d_M_fetch_3 mt_M_isFile ln_M_118 im_M_isFile se_M_isFile rfl (Nat.le_of_ble_eq_true rfl) rfl rfl ⟨Nat.le_of_ble_eq_true rfl, Nat.le_of_ble_eq_true rfl⟩ (Nat.le_of_ble_eq_true rfl) rfl (Nat.zero_le _) (Nat.zero_le _) (c_M_isFile g V (lsS L S) (nI f)) rfl ?_
  rintro _ _ _ ⟨rfl, rfl, rfl⟩
  rw [isn_nI (by omega) hf0]
  refine n_if_eq d_M_fetch_6 13 rfl (by omega) (fun h => absurd h (by omega)) (fun h => ?_)
  refine n_iconst d_M_fetch_9 0 (by decide) ?_
  refine j_goto d_M_fetch_10 14 rfl ?_
  refine v_putI d_M_fetch_14 lf_M_63 rfl (Nat.le_of_ble_eq_true rfl) rfl rfl rfl rfl ?_
  refine j_aload_n d_M_fetch_17 rfl 0 rfl ?_
  refine v_getI d_M_fetch_18 lf_M_63 rfl (Nat.le_of_ble_eq_true rfl) rfl ?_
  rw [vu_eq]
  refine n_ift_le d_M_fetch_21 26 rfl rfl (by decide) ?_
  refine j_aload_n d_M_fetch_26 rfl 0 rfl ?_
  refine j_aload_n d_M_fetch_27 rfl 0 rfl ?_
  refine j_iload_n d_M_fetch_28 rfl 1 rfl ?_
  refine v_callV d_M_fetch_29 mt_M_gather ln_M_172 im_M_gather se_M_gather rfl (Nat.le_of_ble_eq_true rfl) rfl rfl ⟨Nat.le_of_ble_eq_true rfl, Nat.le_of_ble_eq_true rfl⟩ (Nat.le_of_ble_eq_true rfl) rfl (Nat.zero_le _) (Nat.zero_le _) (c_M_gather g (vu V 85 0 0) L S f (jN_t 0 hN) hf0 (mgo_t 0 hok)) rfl ?_
  rintro _ _ _ ⟨rfl, rfl, rfl⟩
  rw [show mrs (vu V 85 0 0) f = mrs V f from rfl]
  rw [show mgb (mgw (vu V 85 0 0) L f S (mrs V f / 6)) = 0 from if_neg hg]
  refine n_if_eq d_M_fetch_32 39 rfl (by omega) (fun h => ?_) (fun h => absurd h (by omega))
  refine n_iconst d_M_fetch_39 2 (by decide) ?_
  refine v_putI d_M_fetch_40 lf_M_63 rfl (Nat.le_of_ble_eq_true rfl) rfl rfl rfl rfl ?_
  refine j_aload_n d_M_fetch_43 rfl 0 rfl ?_
  refine v_getI d_M_fetch_44 lf_M_63 rfl (Nat.le_of_ble_eq_true rfl) rfl ?_
  rw [vu_eq]
  refine n_iff_le d_M_fetch_47 52 rfl (by decide) (by decide) ?_
  show jJ _ _ (jv _ (mga V L f S 2) (lsS L (mgw (vu V 85 0 0) L f S (mrs V f / 6)).1.2) 0 0) _ _
  refine n_iconst d_M_fetch_50 0 (by decide) ?_
  exact v_iret d_M_fetch_51 rfl (Nat.zero_le _) (Nat.zero_le _) rfl jA0_rfl
theorem n1_M_fetch (g : jG) (V : Nat → Nat → Nat) (L : Nat → Nat → Int64) (zf : Int32) (h : isn (V 85 4) zf = 0) : jK g Y_M_fetch (5, 123) [.ref (jb g + 85), .int (zf)] V L (jA0 (some (.int (nI 0))) (vu V 85 0 1) L) := by
  refine jK_entry (by decide +kernel) rfl (Nat.le_of_ble_eq_true rfl) ?_
  show jJ (g, Y_M_fetch, (5, 123), 0, 0, jVQ g (jA0 (some (.int (nI 0))) (vu V 85 0 1) L)) [(0, .ref (jb g + 85)), (1, .int (zf))] (jv (g, Y_M_fetch, (5, 123), 0, 0, jVQ g (jA0 (some (.int (nI 0))) (vu V 85 0 1) L)) V L 0 0) 0 []
  refine j_aload_n d_M_fetch_0 rfl 0 rfl ?_
  refine j_aload_n d_M_fetch_1 rfl 0 rfl ?_
  refine j_iload_n d_M_fetch_2 rfl 1 rfl ?_
  refine v_callV d_M_fetch_3 mt_M_isFile ln_M_118 im_M_isFile se_M_isFile rfl (Nat.le_of_ble_eq_true rfl) rfl rfl ⟨Nat.le_of_ble_eq_true rfl, Nat.le_of_ble_eq_true rfl⟩ (Nat.le_of_ble_eq_true rfl) rfl (Nat.zero_le _) (Nat.zero_le _) (c_M_isFile g V L zf) rfl ?_
  rintro _ _ _ ⟨rfl, rfl, rfl⟩
  rw [h]
  refine n_if_eq d_M_fetch_6 13 rfl (by omega) (fun h => ?_) (fun h => absurd h (by omega))
  refine n_iconst d_M_fetch_13 1 (by decide) ?_
  refine v_putI d_M_fetch_14 lf_M_63 rfl (Nat.le_of_ble_eq_true rfl) rfl rfl rfl rfl ?_
  refine j_aload_n d_M_fetch_17 rfl 0 rfl ?_
  refine v_getI d_M_fetch_18 lf_M_63 rfl (Nat.le_of_ble_eq_true rfl) rfl ?_
  rw [vu_eq]
  refine n_iff_le d_M_fetch_21 26 rfl (by decide) (by decide) ?_
  refine n_iconst d_M_fetch_24 0 (by decide) ?_
  exact v_iret d_M_fetch_25 rfl (Nat.zero_le _) (Nat.zero_le _) rfl jA0_rfl
theorem c_M_repair (g : jG) (V : Nat → Nat → Nat) (L : Nat → Nat → Int64) (S : Nat → Nat) (hN : jN V) (f : Nat) (hf0 : f < V 85 4) (hok : mgo V L f) (k : Nat) (hk : k < 4) (hg : (mgw (vu V 85 0 0) L f S (mrs V f / 6)).2 = true) : jK g Y_M_repair (5, 123) [.ref (jb g + 85), .int (nI f), .int (nI k)] V (lsS L S) (jA0 (some (.int (nI (mrn (mga V L f S 0) L k f)))) (mr7 (mga V L f S 0) L k f) (lsS L (mgw (vu V 85 0 0) L f S (mrs V f / 6)).1.2)) := by
  refine jK_entry (by decide +kernel) rfl (Nat.le_of_ble_eq_true rfl) ?_
  show jJ (g, Y_M_repair, (5, 123), 0, 0, jVQ g (jA0 (some (.int (nI (mrn (mga V L f S 0) L k f)))) (mr7 (mga V L f S 0) L k f) (lsS L (mgw (vu V 85 0 0) L f S (mrs V f / 6)).1.2))) [(0, .ref (jb g + 85)), (1, .int (nI f)), (2, .int (nI k))] (jv (g, Y_M_repair, (5, 123), 0, 0, jVQ g (jA0 (some (.int (nI (mrn (mga V L f S 0) L k f)))) (mr7 (mga V L f S 0) L k f) (lsS L (mgw (vu V 85 0 0) L f S (mrs V f / 6)).1.2))) V (lsS L S) 0 0) 0 []
  have h3 := hN.F
  have hw := hN.w (show f < 3 by omega)
  have hf : f < 3 := by omega
  refine j_aload_n d_M_repair_0 rfl 0 rfl ?_
  refine j_aload_n d_M_repair_1 rfl 0 rfl ?_
  refine j_iload_n d_M_repair_2 rfl 1 rfl ?_
  refine v_callV d_M_repair_3 mt_M_isFile ln_M_118 im_M_isFile se_M_isFile rfl (Nat.le_of_ble_eq_true rfl) rfl rfl ⟨Nat.le_of_ble_eq_true rfl, Nat.le_of_ble_eq_true rfl⟩ (Nat.le_of_ble_eq_true rfl) rfl (Nat.zero_le _) (Nat.zero_le _) (c_M_isFile g V (lsS L S) (nI f)) rfl ?_
  rintro _ _ _ ⟨rfl, rfl, rfl⟩
  rw [isn_nI (by omega) hf0]
  refine n_if_eq d_M_repair_6 20 rfl (by omega) (fun h => absurd h (by omega)) (fun h => ?_)
  refine j_iload_n d_M_repair_9 rfl 2 rfl ?_
  refine v_callS d_M_repair_10 mt_M_isKeeper ln_M_115 sm_M_isKeeper ⟨Nat.le_of_ble_eq_true rfl, Nat.le_of_ble_eq_true rfl⟩ (Nat.le_of_ble_eq_true rfl) rfl (Nat.zero_le _) (Nat.zero_le _) (c_M_isKeeper g V (lsS L S) (nI k)) rfl ?_
  rintro _ _ _ ⟨rfl, rfl, rfl⟩
  rw [isn_nI (by omega) hk]
  refine n_if_eq d_M_repair_13 20 rfl (by omega) (fun h => absurd h (by omega)) (fun h => ?_)
  refine n_iconst d_M_repair_16 0 (by decide) ?_
  refine j_goto d_M_repair_17 21 rfl ?_
  refine v_putI d_M_repair_21 lf_M_63 rfl (Nat.le_of_ble_eq_true rfl) rfl rfl rfl rfl ?_
  refine j_aload_n d_M_repair_24 rfl 0 rfl ?_
  refine v_getI d_M_repair_25 lf_M_63 rfl (Nat.le_of_ble_eq_true rfl) rfl ?_
  rw [vu_eq]
  refine n_ift_le d_M_repair_28 33 rfl rfl (by decide) ?_
  refine j_aload_n d_M_repair_33 rfl 0 rfl ?_
  refine j_aload_n d_M_repair_34 rfl 0 rfl ?_
  refine j_iload_n d_M_repair_35 rfl 1 rfl ?_
  refine v_callV d_M_repair_36 mt_M_gather ln_M_172 im_M_gather se_M_gather rfl (Nat.le_of_ble_eq_true rfl) rfl rfl ⟨Nat.le_of_ble_eq_true rfl, Nat.le_of_ble_eq_true rfl⟩ (Nat.le_of_ble_eq_true rfl) rfl (Nat.zero_le _) (Nat.zero_le _) (c_M_gather g (vu V 85 0 0) L S f (jN_t 0 hN) hf0 (mgo_t 0 hok)) rfl ?_
  rintro _ _ _ ⟨rfl, rfl, rfl⟩
  rw [show mrs (vu V 85 0 0) f = mrs V f from rfl]
  rw [show mgb (mgw (vu V 85 0 0) L f S (mrs V f / 6)) = 1 from if_pos hg]
  refine n_if_eq d_M_repair_39 46 rfl (by omega) (fun h => absurd h (by omega)) (fun h => ?_)
  refine n_iconst d_M_repair_42 0 (by decide) ?_
  refine j_goto d_M_repair_43 47 rfl ?_
  refine v_putI d_M_repair_47 lf_M_63 rfl (Nat.le_of_ble_eq_true rfl) rfl rfl rfl rfl ?_
  refine j_aload_n d_M_repair_50 rfl 0 rfl ?_
  refine v_getI d_M_repair_51 lf_M_63 rfl (Nat.le_of_ble_eq_true rfl) rfl ?_
  rw [vu_eq]
  refine n_ift_le d_M_repair_54 59 rfl rfl (by decide) ?_
  show jJ _ _ (jv _ (mga V L f S 0) (lsS L (mgw (vu V 85 0 0) L f S (mrs V f / 6)).1.2) 0 0) _ _
  have hG4 : mrs V f / 6 ≤ 4 := by unfold mrs; omega
  have e85 : ∀ a, a ≠ 100 → mga V L f S 0 a = vu V 85 0 0 a := fun a ha => by
    funext x
    unfold mga
    rw [show vu (mgw (vu V 85 0 0) L f S (mrs V f / 6)).1.1 85 0 0 a x = if a = 85 ∧ x = 0 then 0 else (mgw (vu V 85 0 0) L f S (mrs V f / 6)).1.1 a x from rfl, mgw_nq ha]
    show _ = if a = 85 ∧ x = 0 then 0 else V a x
    by_cases h : a = 85 ∧ x = 0
    · rw [if_pos h, if_pos h]
    · rw [if_neg h, if_neg h]
      exact if_neg h
  have e100 : ∀ x, x < 64 → mga V L f S 0 100 x < 2147483647 := fun x hx => mgw_lt (mgo_t 0 hok) _ hG4 x hx
  generalize (mgw (vu V 85 0 0) L f S (mrs V f / 6)).1.2 = S2
  have hM : lsS L S2 85 = L 85 := rfl
  generalize lsS L S2 = M at *
  revert e85 e100
  generalize mga V L f S 0 = W
  intro e85 e100
  have hW : jN W := jN_8 (jN_t 0 hN) (fun a _ ha _ => e85 a ha) (by rw [e85 88 (by decide)]; exact hN.md)
  have hw2 := hW.w hf
  have hf2 : f < W 85 4 := by rw [e85 85 (by decide)]; exact hf0
  have hm : mrs W f ≤ 24 := by unfold mrs; omega
  have h3P : ∀ x, x < 360 → mr3 W L f 88 x < 2147483647 := enc_lt (by rw [mbk_nq (by decide)]; exact e100) (by rw [mbk_nq (by decide)]; exact hW.md) _ (by omega)
  have h3q : ∀ a, a ≠ 88 → a ≠ 102 → mr3 W L f a = W a := fun a a1 a2 => (enc_nq a1 _).trans (mbk_nq a2)
  have h3N : jN (mr3 W L f) := jN_8 hW (fun a a1 _ a3 => h3q a a1 a3) h3P
  generalize hφ : jA0 (some (.int (nI (mrn W L k f)))) (mr7 W L k f) M = φ
  have l4 : ∀ (m t : Nat), t + m = 360 → jJ (g, Y_M_repair, (5, 123), 0, 0, jVQ g φ) [(0, .ref (jb g + 85)), (1, .int (nI f)), (2, .int (nI k)), (3, .int (nI (mrn W L k f))), (4, .int (nI t))] (jv (g, Y_M_repair, (5, 123), 0, 0, jVQ g φ) (mrb (mr5 W L k f) t) M 0 0) 189 [] := by
    intro m
    induction m with
    | zero =>
      intro t ht
      obtain rfl : t = 360 := by omega
      refine j_iload d_M_repair_189 4 rfl ?_
      refine n_sipush d_M_repair_191 360 (by decide) ?_
      refine n_icmp_ge d_M_repair_194 217 rfl (by omega) (by omega) (fun h => ?_) (fun h => absurd h (by omega))
      show jJ _ _ (jv _ (mr6 W L k f) M 0 0) _ _
      unfold mr7 at hφ
      refine j_aload_n d_M_repair_217 rfl 0 rfl ?_
      refine v_getR d_M_repair_218 lf_M_35 rfl (Nat.le_of_ble_eq_true rfl) rfl ?_
      refine j_iload_n d_M_repair_221 rfl 2 rfl ?_
      refine j_dup2 d_M_repair_222 rfl rfl ?_
      refine v_ild d_M_repair_223 rfl rfl (Nat.le_of_ble_eq_true rfl) rfl (by omega) (by omega) ?_
      refine j_iload_n d_M_repair_224 rfl 3 rfl ?_
      refine n_add d_M_repair_225 ?_
      refine v_ist d_M_repair_226 rfl rfl (Nat.le_of_ble_eq_true rfl) rfl (by omega) (by omega) ?_
      refine j_iload_n d_M_repair_227 rfl 3 rfl ?_
      subst hφ
      exact v_iret d_M_repair_228 rfl (Nat.zero_le _) (Nat.zero_le _) rfl jA0_rfl
    | succ m ih =>
      intro t ht
      have ih' := ih (t + 1) (by omega)
      rw [← mrb_s] at ih'
      refine j_iload d_M_repair_189 4 rfl ?_
      refine n_sipush d_M_repair_191 360 (by decide) ?_
      refine n_icmp_ge d_M_repair_194 217 rfl (by omega) (by omega) (fun h => absurd h (by omega)) (fun h => ?_)
      refine j_aload_n d_M_repair_197 rfl 0 rfl ?_
      refine v_getR d_M_repair_198 lf_M_16 rfl (Nat.le_of_ble_eq_true rfl) rfl ?_
      refine j_iload d_M_repair_201 4 rfl ?_
      refine j_aload_n d_M_repair_203 rfl 0 rfl ?_
      refine v_getR d_M_repair_204 lf_M_60 rfl (Nat.le_of_ble_eq_true rfl) rfl ?_
      refine j_iload d_M_repair_207 4 rfl ?_
      refine v_ild d_M_repair_209 rfl rfl (Nat.le_of_ble_eq_true rfl) rfl (by omega) (by omega) ?_
      rw [mrb_nq (show 102 ≠ 88 by decide)]
      refine v_ist d_M_repair_210 rfl rfl (Nat.le_of_ble_eq_true rfl) rfl (by omega) (by omega) ?_
      refine n_iinc d_M_repair_211 1 (by decide) 4 rfl (Nat.le_of_ble_eq_true rfl) (lv' := [_, _, _, _, _]) rfl ?_
      refine j_goto d_M_repair_214 189 rfl ?_
      refine j_lv [1, 2, 3, 4, 0] rfl ?_
      exact ih'
  have e5 : ∀ t, mrs (mpl (vu (mr3 W L f) 89 (3 * k + f) 1) k f t) f = mrs W f := fun t => by unfold mrs; rw [mpl_nq (by decide) (by decide), vu_nq _ _ _ (by decide), h3q 87 (by decide) (by decide)]
  have e5w : ∀ t, mpl (vu (mr3 W L f) 89 (3 * k + f) 1) k f t 87 f ≤ 64 := fun t => by rw [mpl_nq (by decide) (by decide), vu_nq _ _ _ (by decide), h3q 87 (by decide) (by decide)]; exact hw2
  have l3 : ∀ (m t : Nat), t + m = mrs W f → jJ (g, Y_M_repair, (5, 123), 0, 0, jVQ g φ) [(0, .ref (jb g + 85)), (1, .int (nI f)), (2, .int (nI k)), (3, .int (nI (mrn W L k f))), (4, .int (nI t))] (jv (g, Y_M_repair, (5, 123), 0, 0, jVQ g φ) (mpl (vu (mr3 W L f) 89 (3 * k + f) 1) k f t) M 0 0) 162 [] := by
    intro m
    induction m with
    | zero =>
      intro t ht
      refine j_iload d_M_repair_162 4 rfl ?_
      refine j_aload_n d_M_repair_164 rfl 0 rfl ?_
      refine j_iload_n d_M_repair_165 rfl 1 rfl ?_
      refine v_callV d_M_repair_166 mt_M_rowsOf ln_M_99 im_M_rowsOf se_M_rowsOf rfl (Nat.le_of_ble_eq_true rfl) rfl rfl ⟨Nat.le_of_ble_eq_true rfl, Nat.le_of_ble_eq_true rfl⟩ (Nat.le_of_ble_eq_true rfl) rfl (Nat.zero_le _) (Nat.zero_le _) (c_M_rowsOf g (mpl (vu (mr3 W L f) 89 (3 * k + f) 1) k f t) M f hf (e5w t)) rfl ?_
      rintro _ _ _ ⟨rfl, rfl, rfl⟩
      rw [e5]
      refine n_icmp_ge d_M_repair_169 186 rfl (by omega) (by omega) (fun h => ?_) (fun h => absurd h (by omega))
      refine n_iconst d_M_repair_186 0 (by decide) ?_
      refine j_istore d_M_repair_187 (i := 4) (Nat.le_of_ble_eq_true rfl) (lv' := [_, _, _, _, _]) rfl ?_
      refine j_lv [1, 2, 3, 4, 0] rfl ?_
      have z0 := l4 360 0 (by omega)
      rw [mrb_0] at z0
      unfold mr5 at z0
      rw [show t = mrs W f from by omega]
      exact z0
    | succ m ih =>
      intro t ht
      have ih' := ih (t + 1) (by omega)
      refine j_iload d_M_repair_162 4 rfl ?_
      refine j_aload_n d_M_repair_164 rfl 0 rfl ?_
      refine j_iload_n d_M_repair_165 rfl 1 rfl ?_
      refine v_callV d_M_repair_166 mt_M_rowsOf ln_M_99 im_M_rowsOf se_M_rowsOf rfl (Nat.le_of_ble_eq_true rfl) rfl rfl ⟨Nat.le_of_ble_eq_true rfl, Nat.le_of_ble_eq_true rfl⟩ (Nat.le_of_ble_eq_true rfl) rfl (Nat.zero_le _) (Nat.zero_le _) (c_M_rowsOf g (mpl (vu (mr3 W L f) 89 (3 * k + f) 1) k f t) M f hf (e5w t)) rfl ?_
      rintro _ _ _ ⟨rfl, rfl, rfl⟩
      rw [e5]
      refine n_icmp_ge d_M_repair_169 186 rfl (by omega) (by omega) (fun h => absurd h (by omega)) (fun h => ?_)
      refine j_aload_n d_M_repair_172 rfl 0 rfl ?_
      refine j_iload_n d_M_repair_173 rfl 2 rfl ?_
      refine j_iload_n d_M_repair_174 rfl 1 rfl ?_
      refine j_iload d_M_repair_175 4 rfl ?_
      refine v_callV d_M_repair_177 mt_M_put ln_M_121 im_M_put se_M_put rfl (Nat.le_of_ble_eq_true rfl) rfl rfl ⟨Nat.le_of_ble_eq_true rfl, Nat.le_of_ble_eq_true rfl⟩ (Nat.le_of_ble_eq_true rfl) rfl (Nat.zero_le _) (Nat.zero_le _) (c_M_put g (mpl (vu (mr3 W L f) 89 (3 * k + f) 1) k f t) M k f t hk hf (by omega)) rfl ?_
      rintro _ _ _ ⟨rfl, rfl, rfl⟩
      refine n_iinc d_M_repair_180 1 (by decide) 4 rfl (Nat.le_of_ble_eq_true rfl) (lv' := [_, _, _, _, _]) rfl ?_
      refine j_goto d_M_repair_183 162 rfl ?_
      refine j_lv [1, 2, 3, 4, 0] rfl ?_
      exact ih'
  have e3 : mrs (mr3 W L f) f = mrs W f := by unfold mrs; rw [h3q 87 (by decide) (by decide)]
  have l2 : ∀ (m t : Nat), t + m = mrs W f → jJ (g, Y_M_repair, (5, 123), 0, 0, jVQ g φ) [(0, .ref (jb g + 85)), (1, .int (nI f)), (2, .int (nI k)), (3, .int (nI (mdn (mr3 W L f) k f t))), (4, .int (nI t))] (jv (g, Y_M_repair, (5, 123), 0, 0, jVQ g φ) (mr3 W L f) M 0 0) 104 [] := by
    intro m
    induction m with
    | zero =>
      intro t ht
      refine j_iload d_M_repair_104 4 rfl ?_
      refine j_aload_n d_M_repair_106 rfl 0 rfl ?_
      refine j_iload_n d_M_repair_107 rfl 1 rfl ?_
      refine v_callV d_M_repair_108 mt_M_rowsOf ln_M_99 im_M_rowsOf se_M_rowsOf rfl (Nat.le_of_ble_eq_true rfl) rfl rfl ⟨Nat.le_of_ble_eq_true rfl, Nat.le_of_ble_eq_true rfl⟩ (Nat.le_of_ble_eq_true rfl) rfl (Nat.zero_le _) (Nat.zero_le _) (c_M_rowsOf g (mr3 W L f) M f hf (h3N.w hf)) rfl ?_
      rintro _ _ _ ⟨rfl, rfl, rfl⟩
      rw [e3]
      refine n_icmp_ge d_M_repair_111 148 rfl (by omega) (by omega) (fun h => ?_) (fun h => absurd h (by omega))
      refine j_aload_n d_M_repair_148 rfl 0 rfl ?_
      refine v_getR d_M_repair_149 lf_M_19 rfl (Nat.le_of_ble_eq_true rfl) rfl ?_
      refine n_iconst d_M_repair_152 3 (by decide) ?_
      refine j_iload_n d_M_repair_153 rfl 2 rfl ?_
      refine n_mul d_M_repair_154 ?_
      refine j_iload_n d_M_repair_155 rfl 1 rfl ?_
      refine n_add d_M_repair_156 ?_
      refine n_iconst d_M_repair_157 1 (by decide) ?_
      refine v_zst d_M_repair_158 rfl rfl (Nat.le_of_ble_eq_true rfl) rfl (by omega) (by omega) (by omega) ?_
      refine n_iconst d_M_repair_159 0 (by decide) ?_
      refine j_istore d_M_repair_160 (i := 4) (Nat.le_of_ble_eq_true rfl) (lv' := [_, _, _, _, _]) rfl ?_
      refine j_lv [1, 2, 3, 4, 0] rfl ?_
      rw [show t = mrs W f from by omega]
      exact l3 (mrs W f) 0 (by omega)
    | succ m ih =>
      intro t ht
      have ih' := ih (t + 1) (by omega)
      rw [mdn] at ih'
      have hl := mdo_le (mr3 W L f) k f t (5 * (24 * f + t)) 5
      refine j_iload d_M_repair_104 4 rfl ?_
      refine j_aload_n d_M_repair_106 rfl 0 rfl ?_
      refine j_iload_n d_M_repair_107 rfl 1 rfl ?_
      refine v_callV d_M_repair_108 mt_M_rowsOf ln_M_99 im_M_rowsOf se_M_rowsOf rfl (Nat.le_of_ble_eq_true rfl) rfl rfl ⟨Nat.le_of_ble_eq_true rfl, Nat.le_of_ble_eq_true rfl⟩ (Nat.le_of_ble_eq_true rfl) rfl (Nat.zero_le _) (Nat.zero_le _) (c_M_rowsOf g (mr3 W L f) M f hf (h3N.w hf)) rfl ?_
      rintro _ _ _ ⟨rfl, rfl, rfl⟩
      rw [e3]
      refine n_icmp_ge d_M_repair_111 148 rfl (by omega) (by omega) (fun h => absurd h (by omega)) (fun h => ?_)
      refine j_iload_n d_M_repair_114 rfl 3 rfl ?_
      refine j_aload_n d_M_repair_115 rfl 0 rfl ?_
      refine j_iload_n d_M_repair_116 rfl 2 rfl ?_
      refine j_iload_n d_M_repair_117 rfl 1 rfl ?_
      refine j_iload d_M_repair_118 4 rfl ?_
      refine n_iconst d_M_repair_120 5 (by decide) ?_
      refine n_bipush d_M_repair_121 24 (by decide) ?_
      refine j_iload_n d_M_repair_123 rfl 1 rfl ?_
      refine n_mul d_M_repair_124 ?_
      refine j_iload d_M_repair_125 4 rfl ?_
      refine n_add d_M_repair_127 ?_
      refine n_mul d_M_repair_128 ?_
      refine v_callV d_M_repair_129 mt_M_differs ln_M_175 im_M_differs se_M_differs rfl (Nat.le_of_ble_eq_true rfl) rfl rfl ⟨Nat.le_of_ble_eq_true rfl, Nat.le_of_ble_eq_true rfl⟩ (Nat.le_of_ble_eq_true rfl) rfl (Nat.zero_le _) (Nat.zero_le _) (c_M_differs g (mr3 W L f) M h3N k f t hk (by rw [h3q 85 (by decide) (by decide)]; exact hf2) (by omega) (5 * (24 * f + t)) (by omega)) rfl ?_
      rintro _ _ _ ⟨rfl, rfl, rfl⟩
      refine n_if_eq d_M_repair_132 139 rfl (by omega) (fun b1 => ?_) (fun b1 => ?_)
      · rw [b1] at ih'
        refine n_iconst d_M_repair_139 0 (by decide) ?_
        refine n_add d_M_repair_140 ?_
        refine j_istore_n d_M_repair_141 (i := 3) rfl (Nat.le_of_ble_eq_true rfl) (lv' := [_, _, _, _, _]) rfl ?_
        refine n_iinc d_M_repair_142 1 (by decide) 4 rfl (Nat.le_of_ble_eq_true rfl) (lv' := [_, _, _, _, _]) rfl ?_
        refine j_goto d_M_repair_145 104 rfl ?_
        refine j_lv [2, 3, 4, 1, 0] rfl ?_
        exact ih'
      · rw [show mdo (mr3 W L f) k f t (5 * (24 * f + t)) 5 = 1 from by omega] at ih'
        refine n_iconst d_M_repair_135 1 (by decide) ?_
        refine j_goto d_M_repair_136 140 rfl ?_
        refine n_add d_M_repair_140 ?_
        refine j_istore_n d_M_repair_141 (i := 3) rfl (Nat.le_of_ble_eq_true rfl) (lv' := [_, _, _, _, _]) rfl ?_
        refine n_iinc d_M_repair_142 1 (by decide) 4 rfl (Nat.le_of_ble_eq_true rfl) (lv' := [_, _, _, _, _]) rfl ?_
        refine j_goto d_M_repair_145 104 rfl ?_
        refine j_lv [2, 3, 4, 1, 0] rfl ?_
        exact ih'
  have l1 : ∀ (m t : Nat), t + m = 360 → jJ (g, Y_M_repair, (5, 123), 0, 0, jVQ g φ) [(0, .ref (jb g + 85)), (1, .int (nI f)), (2, .int (nI k)), (3, .int (nI 0)), (4, .int (nI t))] (jv (g, Y_M_repair, (5, 123), 0, 0, jVQ g φ) (mbk W t) M 0 0) 64 [] := by
    intro m
    induction m with
    | zero =>
      intro t ht
      obtain rfl : t = 360 := by omega
      refine j_iload d_M_repair_64 4 rfl ?_
      refine n_sipush d_M_repair_66 360 (by decide) ?_
      refine n_icmp_ge d_M_repair_69 92 rfl (by omega) (by omega) (fun h => ?_) (fun h => absurd h (by omega))
      refine j_aload_n d_M_repair_92 rfl 0 rfl ?_
      refine j_iload_n d_M_repair_93 rfl 1 rfl ?_
      refine j_aload_n d_M_repair_94 rfl 0 rfl ?_
      refine v_getR d_M_repair_95 lf_M_53 rfl (Nat.le_of_ble_eq_true rfl) rfl ?_
      refine v_callV d_M_repair_98 mt_M_encode ln_M_111 im_M_encode se_M_encode rfl (Nat.le_of_ble_eq_true rfl) rfl rfl ⟨Nat.le_of_ble_eq_true rfl, Nat.le_of_ble_eq_true rfl⟩ (Nat.le_of_ble_eq_true rfl) rfl (Nat.zero_le _) (Nat.zero_le _) (c_M_encode g (mbk W 360) M f hf (by rw [mbk_nq (by decide)]; exact hw2) (by rw [mbk_nq (by decide)]; exact e100) (by rw [mbk_nq (by decide)]; exact hW.md)) rfl ?_
      rintro _ _ _ ⟨rfl, rfl, rfl⟩
      rw [show enc (mbk W 360) M f (mrs (mbk W 360) f) = mr3 W L f from by unfold mr3; rw [enc_L hM]; rfl]
      refine n_iconst d_M_repair_101 0 (by decide) ?_
      refine j_istore d_M_repair_102 (i := 4) (Nat.le_of_ble_eq_true rfl) (lv' := [_, _, _, _, _]) rfl ?_
      refine j_lv [1, 2, 3, 4, 0] rfl ?_
      exact l2 (mrs W f) 0 (by omega)
    | succ m ih =>
      intro t ht
      have ih' := ih (t + 1) (by omega)
      rw [← mbk_s] at ih'
      refine j_iload d_M_repair_64 4 rfl ?_
      refine n_sipush d_M_repair_66 360 (by decide) ?_
      refine n_icmp_ge d_M_repair_69 92 rfl (by omega) (by omega) (fun h => absurd h (by omega)) (fun h => ?_)
      refine j_aload_n d_M_repair_72 rfl 0 rfl ?_
      refine v_getR d_M_repair_73 lf_M_60 rfl (Nat.le_of_ble_eq_true rfl) rfl ?_
      refine j_iload d_M_repair_76 4 rfl ?_
      refine j_aload_n d_M_repair_78 rfl 0 rfl ?_
      refine v_getR d_M_repair_79 lf_M_16 rfl (Nat.le_of_ble_eq_true rfl) rfl ?_
      refine j_iload d_M_repair_82 4 rfl ?_
      refine v_ild d_M_repair_84 rfl rfl (Nat.le_of_ble_eq_true rfl) rfl (by omega) (by omega) ?_
      rw [mbk_nq (show 88 ≠ 102 by decide)]
      refine v_ist d_M_repair_85 rfl rfl (Nat.le_of_ble_eq_true rfl) rfl (by omega) (by omega) ?_
      refine n_iinc d_M_repair_86 1 (by decide) 4 rfl (Nat.le_of_ble_eq_true rfl) (lv' := [_, _, _, _, _]) rfl ?_
      refine j_goto d_M_repair_89 64 rfl ?_
      refine j_lv [1, 2, 3, 4, 0] rfl ?_
      exact ih'
  have z1 := l1 360 0 (by omega)
  rw [mbk_0] at z1
  refine n_iconst d_M_repair_59 0 (by decide) ?_
  refine j_istore_n d_M_repair_60 (i := 3) rfl (Nat.le_of_ble_eq_true rfl) (lv' := [_, _, _, _]) rfl ?_
  refine n_iconst d_M_repair_61 0 (by decide) ?_
  refine j_istore d_M_repair_62 (i := 4) (Nat.le_of_ble_eq_true rfl) (lv' := [_, _, _, _, _]) rfl ?_
  refine j_lv [2, 3, 4, 1, 0] rfl ?_
  exact z1
theorem n2_M_repair (g : jG) (V : Nat → Nat → Nat) (L : Nat → Nat → Int64) (S : Nat → Nat) (hN : jN V) (f : Nat) (hf0 : f < V 85 4) (hok : mgo V L f) (k : Nat) (hk : k < 4) (hg : ¬ (mgw (vu V 85 0 0) L f S (mrs V f / 6)).2 = true) : jK g Y_M_repair (5, 123) [.ref (jb g + 85), .int (nI f), .int (nI k)] V (lsS L S) (jA0 (some (.int (nI 0))) (mga V L f S 2) (lsS L (mgw (vu V 85 0 0) L f S (mrs V f / 6)).1.2)) := by
  refine jK_entry (by decide +kernel) rfl (Nat.le_of_ble_eq_true rfl) ?_
  show jJ (g, Y_M_repair, (5, 123), 0, 0, jVQ g (jA0 (some (.int (nI 0))) (mga V L f S 2) (lsS L (mgw (vu V 85 0 0) L f S (mrs V f / 6)).1.2))) [(0, .ref (jb g + 85)), (1, .int (nI f)), (2, .int (nI k))] (jv (g, Y_M_repair, (5, 123), 0, 0, jVQ g (jA0 (some (.int (nI 0))) (mga V L f S 2) (lsS L (mgw (vu V 85 0 0) L f S (mrs V f / 6)).1.2))) V (lsS L S) 0 0) 0 []
  have h3 := hN.F
  refine j_aload_n d_M_repair_0 rfl 0 rfl ?_
  refine j_aload_n d_M_repair_1 rfl 0 rfl ?_
  refine j_iload_n d_M_repair_2 rfl 1 rfl ?_
  refine v_callV d_M_repair_3 mt_M_isFile ln_M_118 im_M_isFile se_M_isFile rfl (Nat.le_of_ble_eq_true rfl) rfl rfl ⟨Nat.le_of_ble_eq_true rfl, Nat.le_of_ble_eq_true rfl⟩ (Nat.le_of_ble_eq_true rfl) rfl (Nat.zero_le _) (Nat.zero_le _) (c_M_isFile g V (lsS L S) (nI f)) rfl ?_
  rintro _ _ _ ⟨rfl, rfl, rfl⟩
  rw [isn_nI (by omega) hf0]
  refine n_if_eq d_M_repair_6 20 rfl (by omega) (fun h => absurd h (by omega)) (fun h => ?_)
  refine j_iload_n d_M_repair_9 rfl 2 rfl ?_
  refine v_callS d_M_repair_10 mt_M_isKeeper ln_M_115 sm_M_isKeeper ⟨Nat.le_of_ble_eq_true rfl, Nat.le_of_ble_eq_true rfl⟩ (Nat.le_of_ble_eq_true rfl) rfl (Nat.zero_le _) (Nat.zero_le _) (c_M_isKeeper g V (lsS L S) (nI k)) rfl ?_
  rintro _ _ _ ⟨rfl, rfl, rfl⟩
  rw [isn_nI (by omega) hk]
  refine n_if_eq d_M_repair_13 20 rfl (by omega) (fun h => absurd h (by omega)) (fun h => ?_)
  refine n_iconst d_M_repair_16 0 (by decide) ?_
  refine j_goto d_M_repair_17 21 rfl ?_
  refine v_putI d_M_repair_21 lf_M_63 rfl (Nat.le_of_ble_eq_true rfl) rfl rfl rfl rfl ?_
  refine j_aload_n d_M_repair_24 rfl 0 rfl ?_
  refine v_getI d_M_repair_25 lf_M_63 rfl (Nat.le_of_ble_eq_true rfl) rfl ?_
  rw [vu_eq]
  refine n_ift_le d_M_repair_28 33 rfl rfl (by decide) ?_
  refine j_aload_n d_M_repair_33 rfl 0 rfl ?_
  refine j_aload_n d_M_repair_34 rfl 0 rfl ?_
  refine j_iload_n d_M_repair_35 rfl 1 rfl ?_
  refine v_callV d_M_repair_36 mt_M_gather ln_M_172 im_M_gather se_M_gather rfl (Nat.le_of_ble_eq_true rfl) rfl rfl ⟨Nat.le_of_ble_eq_true rfl, Nat.le_of_ble_eq_true rfl⟩ (Nat.le_of_ble_eq_true rfl) rfl (Nat.zero_le _) (Nat.zero_le _) (c_M_gather g (vu V 85 0 0) L S f (jN_t 0 hN) hf0 (mgo_t 0 hok)) rfl ?_
  rintro _ _ _ ⟨rfl, rfl, rfl⟩
  rw [show mrs (vu V 85 0 0) f = mrs V f from rfl]
  rw [show mgb (mgw (vu V 85 0 0) L f S (mrs V f / 6)) = 0 from if_neg hg]
  refine n_if_eq d_M_repair_39 46 rfl (by omega) (fun h => ?_) (fun h => absurd h (by omega))
  refine n_iconst d_M_repair_46 2 (by decide) ?_
  refine v_putI d_M_repair_47 lf_M_63 rfl (Nat.le_of_ble_eq_true rfl) rfl rfl rfl rfl ?_
  refine j_aload_n d_M_repair_50 rfl 0 rfl ?_
  refine v_getI d_M_repair_51 lf_M_63 rfl (Nat.le_of_ble_eq_true rfl) rfl ?_
  rw [vu_eq]
  refine n_iff_le d_M_repair_54 59 rfl (by decide) (by decide) ?_
  show jJ _ _ (jv _ (mga V L f S 2) (lsS L (mgw (vu V 85 0 0) L f S (mrs V f / 6)).1.2) 0 0) _ _
  refine n_iconst d_M_repair_57 0 (by decide) ?_
  exact v_iret d_M_repair_58 rfl (Nat.zero_le _) (Nat.zero_le _) rfl jA0_rfl
theorem n1_M_repair (g : jG) (V : Nat → Nat → Nat) (L : Nat → Nat → Int64) (zf zk : Int32) (h : isn (V 85 4) zf = 0 ∨ isn 4 zk = 0) : jK g Y_M_repair (5, 123) [.ref (jb g + 85), .int (zf), .int (zk)] V L (jA0 (some (.int (nI 0))) (vu V 85 0 1) L) := by
  refine jK_entry (by decide +kernel) rfl (Nat.le_of_ble_eq_true rfl) ?_
  show jJ (g, Y_M_repair, (5, 123), 0, 0, jVQ g (jA0 (some (.int (nI 0))) (vu V 85 0 1) L)) [(0, .ref (jb g + 85)), (1, .int (zf)), (2, .int (zk))] (jv (g, Y_M_repair, (5, 123), 0, 0, jVQ g (jA0 (some (.int (nI 0))) (vu V 85 0 1) L)) V L 0 0) 0 []
  refine j_aload_n d_M_repair_0 rfl 0 rfl ?_
  refine j_aload_n d_M_repair_1 rfl 0 rfl ?_
  refine j_iload_n d_M_repair_2 rfl 1 rfl ?_
  refine v_callV d_M_repair_3 mt_M_isFile ln_M_118 im_M_isFile se_M_isFile rfl (Nat.le_of_ble_eq_true rfl) rfl rfl ⟨Nat.le_of_ble_eq_true rfl, Nat.le_of_ble_eq_true rfl⟩ (Nat.le_of_ble_eq_true rfl) rfl (Nat.zero_le _) (Nat.zero_le _) (c_M_isFile g V L zf) rfl ?_
  rintro _ _ _ ⟨rfl, rfl, rfl⟩
  refine n_if_eq d_M_repair_6 20 rfl (Nat.lt_of_le_of_lt (isn_le _ _) (by decide)) (fun h1 => ?_) (fun h1 => ?_)
  · refine n_iconst d_M_repair_20 1 (by decide) ?_
    refine v_putI d_M_repair_21 lf_M_63 rfl (Nat.le_of_ble_eq_true rfl) rfl rfl rfl rfl ?_
    refine j_aload_n d_M_repair_24 rfl 0 rfl ?_
    refine v_getI d_M_repair_25 lf_M_63 rfl (Nat.le_of_ble_eq_true rfl) rfl ?_
    rw [vu_eq]
    refine n_iff_le d_M_repair_28 33 rfl (by decide) (by decide) ?_
    refine n_iconst d_M_repair_31 0 (by decide) ?_
    exact v_iret d_M_repair_32 rfl (Nat.zero_le _) (Nat.zero_le _) rfl jA0_rfl
  · refine j_iload_n d_M_repair_9 rfl 2 rfl ?_
    refine v_callS d_M_repair_10 mt_M_isKeeper ln_M_115 sm_M_isKeeper ⟨Nat.le_of_ble_eq_true rfl, Nat.le_of_ble_eq_true rfl⟩ (Nat.le_of_ble_eq_true rfl) rfl (Nat.zero_le _) (Nat.zero_le _) (c_M_isKeeper g V L zk) rfl ?_
    rintro _ _ _ ⟨rfl, rfl, rfl⟩
    refine n_if_eq d_M_repair_13 20 rfl (Nat.lt_of_le_of_lt (isn_le _ _) (by decide)) (fun h2 => ?_) (fun h2 => ?_)
    · refine n_iconst d_M_repair_20 1 (by decide) ?_
      refine v_putI d_M_repair_21 lf_M_63 rfl (Nat.le_of_ble_eq_true rfl) rfl rfl rfl rfl ?_
      refine j_aload_n d_M_repair_24 rfl 0 rfl ?_
      refine v_getI d_M_repair_25 lf_M_63 rfl (Nat.le_of_ble_eq_true rfl) rfl ?_
      rw [vu_eq]
      refine n_iff_le d_M_repair_28 33 rfl (by decide) (by decide) ?_
      refine n_iconst d_M_repair_31 0 (by decide) ?_
      exact v_iret d_M_repair_32 rfl (Nat.zero_le _) (Nat.zero_le _) rfl jA0_rfl
    · omega
