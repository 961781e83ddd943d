/-! AuditDeskModel: gather -/
theorem mkk_eq {V W : Nat → Nat → Nat} {L M : Nat → Nat → Int64} (f i : Nat) (h89 : W 89 = V 89) (h90 : W 90 = V 90) (h91 : W 91 = V 91) (hL : M 85 = L 85) : mkk W M f i = mkk V L f i := by
  unfold mkk mgd
  rw [h89, h90, h91, hL]
theorem mkk_le (V : Nat → Nat → Nat) (L : Nat → Nat → Int64) (f i : Nat) : mkk V L f i ≤ 4 := by
  unfold mkk
  repeat' split
  all_goals omega
theorem sus_eq {V W : Nat → Nat → Nat} (h : W 90 = V 90) (n f i k : Nat) (S : Nat → Nat) : ∀ c, sus W n f i k S c = sus V n f i k S c
  | 0 => rfl
  | c + 1 => by
    unfold sus
    rw [sus_eq h n f i k S c, h]
/-- the first t rows of group q looked at: the sums, and how many there are -/
def mgr (V : Nat → Nat → Nat) (L : Nat → Nat → Int64) (f q : Nat) (S : Nat → Nat) : Nat → (Nat → Nat) × Nat
  | 0 => (S, 0)
  | t + 1 => if (mgr V L f q S t).2 < 4 ∧ mkk V L f (6 * q + t) < 4 then (sus V (mgr V L f q S t).2 f (6 * q + t) (mkk V L f (6 * q + t)) (mgr V L f q S t).1 4, (mgr V L f q S t).2 + 1) else mgr V L f q S t
theorem mgr_s (V : Nat → Nat → Nat) (L : Nat → Nat → Int64) (f q : Nat) (S : Nat → Nat) (t : Nat) : mgr V L f q S (t + 1) = if (mgr V L f q S t).2 < 4 ∧ mkk V L f (6 * q + t) < 4 then (sus V (mgr V L f q S t).2 f (6 * q + t) (mkk V L f (6 * q + t)) (mgr V L f q S t).1 4, (mgr V L f q S t).2 + 1) else mgr V L f q S t := rfl
theorem mgr_le (V : Nat → Nat → Nat) (L : Nat → Nat → Int64) (f q : Nat) (S : Nat → Nat) : ∀ t, (mgr V L f q S t).2 ≤ 4
  | 0 => by show 0 ≤ 4; omega
  | t + 1 => by
    have := mgr_le V L f q S t
    rw [mgr_s]
    split
    · show _ + 1 ≤ 4
      omega
    · exact this
theorem mgr_st {V : Nat → Nat → Nat} {L : Nat → Nat → Int64} {f q : Nat} {S : Nat → Nat} {t : Nat} (h : ¬ (mgr V L f q S t).2 < 4) : ∀ m, mgr V L f q S (t + m) = mgr V L f q S t
  | 0 => rfl
  | m + 1 => by
    have e := mgr_st h m
    show mgr V L f q S (t + m + 1) = _
    rw [mgr_s, if_neg (by rw [e]; exact fun z => h z.1), e]
/-- the first p words of group q laid -/
def mwk (W : Nat → Nat → Nat) (q : Nat) (S : Nat → Nat) (p : Nat) : Nat → Nat → Nat := fun a x => if a = 100 ∧ 16 * q ≤ x ∧ x < 16 * q + p then S (8 * ((x - 16 * q) / 4) + 4 + (x - 16 * q) % 4) else W a x
theorem mwk_0 (W : Nat → Nat → Nat) (q : Nat) (S : Nat → Nat) : mwk W q S 0 = W := by
  funext a x
  exact if_neg (by omega)
theorem mwk_nq {W : Nat → Nat → Nat} {q : Nat} {S : Nat → Nat} {p a : Nat} (h : a ≠ 100) : mwk W q S p a = W a := by
  funext x
  exact if_neg (fun z => h z.1)
theorem mwk_s (W : Nat → Nat → Nat) (q : Nat) (S : Nat → Nat) (r j : Nat) (hj : j < 4) : vu (mwk W q S (4 * r + j)) 100 (16 * q + 4 * r + j) (S (8 * r + 4 + j)) = mwk W q S (4 * r + (j + 1)) := by
  funext a x
  unfold vu mwk
  by_cases h : a = 100 ∧ x = 16 * q + 4 * r + j
  · rw [if_pos h, if_pos (by omega)]
    congr 1
    omega
  · rw [if_neg h]
    by_cases h2 : a = 100 ∧ 16 * q ≤ x ∧ x < 16 * q + (4 * r + j)
    · rw [if_pos h2, if_pos (by omega)]
    · rw [if_neg h2, if_neg (by omega)]
def mz (V : Nat → Nat → Nat) (t : Nat) : Nat → Nat → Nat := fun a x => if a = 100 ∧ x < t then 0 else V a x
theorem mz_0 (V : Nat → Nat → Nat) : mz V 0 = V := by
  funext a x
  exact if_neg (by omega)
theorem mz_nq {V : Nat → Nat → Nat} {t a : Nat} (h : a ≠ 100) : mz V t a = V a := by
  funext x
  exact if_neg (fun z => h z.1)
theorem mz_s (V : Nat → Nat → Nat) (t : Nat) : vu (mz V t) 100 t 0 = mz V (t + 1) := by
  funext a x
  unfold vu mz
  by_cases h : a = 100 ∧ x = t
  · rw [if_pos h, if_pos (by omega)]
  · rw [if_neg h]
    by_cases h2 : a = 100 ∧ x < t
    · rw [if_pos h2, if_pos (by omega)]
    · rw [if_neg h2, if_neg (by omega)]
/-- the first t groups gathered -/
def mgw (V : Nat → Nat → Nat) (L : Nat → Nat → Int64) (f : Nat) (S : Nat → Nat) : Nat → ((Nat → Nat → Nat) × (Nat → Nat)) × Bool
  | 0 => ((mz V 64, S), true)
  | t + 1 => if (mgw V L f S t).2 = true then (if (mgr V L f t (mgw V L f S t).1.2 6).2 < 4 then (((mgw V L f S t).1.1, (mgr V L f t (mgw V L f S t).1.2 6).1), false) else ((mwk (mgw V L f S t).1.1 t (stg (mgr V L f t (mgw V L f S t).1.2 6).1 4) 16, stg (mgr V L f t (mgw V L f S t).1.2 6).1 4), true)) else mgw V L f S t
theorem mgw_s (V : Nat → Nat → Nat) (L : Nat → Nat → Int64) (f : Nat) (S : Nat → Nat) (t : Nat) : mgw V L f S (t + 1) = if (mgw V L f S t).2 = true then (if (mgr V L f t (mgw V L f S t).1.2 6).2 < 4 then (((mgw V L f S t).1.1, (mgr V L f t (mgw V L f S t).1.2 6).1), false) else ((mwk (mgw V L f S t).1.1 t (stg (mgr V L f t (mgw V L f S t).1.2 6).1 4) 16, stg (mgr V L f t (mgw V L f S t).1.2 6).1 4), true)) else mgw V L f S t := rfl
theorem mgw_st {V : Nat → Nat → Nat} {L : Nat → Nat → Int64} {f : Nat} {S : Nat → Nat} {t : Nat} (h : (mgw V L f S t).2 = false) : ∀ m, mgw V L f S (t + m) = mgw V L f S t
  | 0 => rfl
  | m + 1 => by
    have e := mgw_st h m
    show mgw V L f S (t + m + 1) = _
    rw [mgw_s, if_neg (by rw [e, h]; decide), e]
theorem mgw_nq {V : Nat → Nat → Nat} {L : Nat → Nat → Int64} {f : Nat} {S : Nat → Nat} {a : Nat} (h : a ≠ 100) : ∀ t, (mgw V L f S t).1.1 a = V a
  | 0 => mz_nq h
  | t + 1 => by
    have e := mgw_nq (V := V) (L := L) (f := f) (S := S) h t
    rw [mgw_s]
    split
    · split
      · exact e
      · exact (mwk_nq h).trans e
    · exact e
/-- a group of four rows can be solved -/
def mok (S : Nat → Nat) : Prop := sP S ∧ ∀ c, c < 4 → pvs (stg S c) c (4 - c) c < 4
theorem jN_nq {V W : Nat → Nat → Nat} (hN : jN V) (h : ∀ a, a ≠ 100 → W a = V a) : jN W := by
  unfold jN
  rw [h 85 (by decide), h 87 (by decide), h 88 (by decide), h 89 (by decide), h 90 (by decide), h 91 (by decide), h 95 (by decide), h 96 (by decide), h 97 (by decide)]
  exact hN
def mgb (p : ((Nat → Nat → Nat) × (Nat → Nat)) × Bool) : Nat := if p.2 = true then 1 else 0
theorem c_M_gather (g : jG) (V : Nat → Nat → Nat) (L : Nat → Nat → Int64) (S : Nat → Nat) (f : Nat) (hN : jN V) (hf0 : f < V 85 4) (hok : ∀ t T, t < 4 → ¬ (mgr V L f t T 6).2 < 4 → mok (mgr V L f t T 6).1) : jK g Y_M_gather (4, 98) [.ref (jb g + 85), .int (nI f)] V (lsS L S) (jA0 (some (.int (nI (mgb (mgw V L f S (mrs V f / 6)))))) (mgw V L f S (mrs V f / 6)).1.1 (lsS L (mgw V L f S (mrs V f / 6)).1.2)) := by
  refine jK_entry (by decide +kernel) rfl (Nat.le_of_ble_eq_true rfl) ?_
  show jJ (g, Y_M_gather, (4, 98), 0, 0, jVQ g (jA0 (some (.int (nI (mgb (mgw V L f S (mrs V f / 6)))))) (mgw V L f S (mrs V f / 6)).1.1 (lsS L (mgw V L f S (mrs V f / 6)).1.2))) [(0, .ref (jb g + 85)), (1, .int (nI f))] (jv (g, Y_M_gather, (4, 98), 0, 0, jVQ g (jA0 (some (.int (nI (mgb (mgw V L f S (mrs V f / 6)))))) (mgw V L f S (mrs V f / 6)).1.1 (lsS L (mgw V L f S (mrs V f / 6)).1.2))) V (lsS L S) 0 0) 0 []
  generalize hφ : jA0 (some (.int (nI (mgb (mgw V L f S (mrs V f / 6)))))) (mgw V L f S (mrs V f / 6)).1.1 (lsS L (mgw V L f S (mrs V f / 6)).1.2) = φ
  have h3 := hN.F
  have hf : f < 3 := by omega
  have hw := hN.w hf
  have hm : mrs V f / 6 ≤ 4 := by unfold mrs; omega
  have hm2 : mrs V f ≤ 24 := by unfold mrs; omega
  have loop : ∀ (m t : Nat), t + m = mrs V f / 6 → (mgw V L f S t).2 = true → jJ (g, Y_M_gather, (4, 98), 0, 0, jVQ g φ) [(0, .ref (jb g + 85)), (1, .int (nI f)), (2, .int (nI t))] (jv (g, Y_M_gather, (4, 98), 0, 0, jVQ g φ) ((mgw V L f S t).1.1) (lsS L (mgw V L f S t).1.2) 0 0) 23 [] := by
    intro m
    induction m with
    | zero =>
      intro t ht h0
      refine j_iload_n d_M_gather_23 rfl 2 rfl ?_
      refine j_aload_n d_M_gather_24 rfl 0 rfl ?_
      refine j_iload_n d_M_gather_25 rfl 1 rfl ?_
      refine v_callV d_M_gather_26 mt_M_rowsOf ln_M_99 im_M_rowsOf se_M_rowsOf rfl (Nat.le_of_ble_eq_true rfl) rfl rfl ⟨Nat.le_of_ble_eq_true rfl, Nat.le_of_ble_eq_true rfl⟩ (Nat.le_of_ble_eq_true rfl) rfl (Nat.zero_le _) (Nat.zero_le _) (c_M_rowsOf g (mgw V L f S t).1.1 (lsS L (mgw V L f S t).1.2) f hf (by rw [mgw_nq (by decide)]; exact hw)) rfl ?_
      rintro _ _ _ ⟨rfl, rfl, rfl⟩
      rw [show mrs (mgw V L f S t).1.1 f = mrs V f from by unfold mrs; rw [mgw_nq (by decide)]]
      refine n_bipush d_M_gather_29 6 (by decide) ?_
      refine n_div d_M_gather_31 (by omega) (by omega) (by omega) ?_
      refine n_icmp_ge d_M_gather_32 173 rfl (by omega) (by omega) (fun h => ?_) (fun h => absurd h (by omega))
      rw [show mrs V f / 6 = t from by omega, show mgb (mgw V L f S t) = 1 from if_pos h0] at hφ
      subst hφ
      refine n_iconst d_M_gather_173 1 (by decide) ?_
      exact v_zret d_M_gather_174 rfl (by omega) (Nat.zero_le _) (Nat.zero_le _) rfl jA0_rfl
    | succ m ih =>
      intro t ht h0
      have ih' := ih (t + 1) (by omega)
      clear ih
      have hnq : ∀ a, a ≠ 100 → (mgw V L f S t).1.1 a = V a := fun a ha => mgw_nq ha t
      have es := mgw_s V L f S t
      rw [if_pos h0] at es
      refine j_iload_n d_M_gather_23 rfl 2 rfl ?_
      refine j_aload_n d_M_gather_24 rfl 0 rfl ?_
      refine j_iload_n d_M_gather_25 rfl 1 rfl ?_
      refine v_callV d_M_gather_26 mt_M_rowsOf ln_M_99 im_M_rowsOf se_M_rowsOf rfl (Nat.le_of_ble_eq_true rfl) rfl rfl ⟨Nat.le_of_ble_eq_true rfl, Nat.le_of_ble_eq_true rfl⟩ (Nat.le_of_ble_eq_true rfl) rfl (Nat.zero_le _) (Nat.zero_le _) (c_M_rowsOf g (mgw V L f S t).1.1 (lsS L (mgw V L f S t).1.2) f hf (by rw [mgw_nq (by decide)]; exact hw)) rfl ?_
      rintro _ _ _ ⟨rfl, rfl, rfl⟩
      rw [show mrs (mgw V L f S t).1.1 f = mrs V f from by unfold mrs; rw [mgw_nq (by decide)]]
      refine n_bipush d_M_gather_29 6 (by decide) ?_
      refine n_div d_M_gather_31 (by omega) (by omega) (by omega) ?_
      refine n_icmp_ge d_M_gather_32 173 rfl (by omega) (by omega) (fun h => absurd h (by omega)) (fun h => ?_)
      have hst : (mgw V L f S (t + 1)).2 = false → mgw V L f S (mrs V f / 6) = mgw V L f S (t + 1) := fun h => by
        obtain ⟨e, he⟩ : ∃ e, e = t + 1 + m := ⟨_, rfl⟩
        rw [show mrs V f / 6 = t + 1 + m from by omega]
        exact mgw_st h m
      revert es ih' hst hnq
      generalize mgw V L f S (t + 1) = Z
      generalize (mgw V L f S t).1.1 = W
      generalize (mgw V L f S t).1.2 = T
      intro ih' hnq es hst
      have hW := jN_nq hN hnq
      refine n_iconst d_M_gather_35 0 (by decide) ?_
      refine j_istore_n d_M_gather_36 (i := 3) rfl (Nat.le_of_ble_eq_true rfl) (lv' := [_, _, _, _]) rfl ?_
      refine n_bipush d_M_gather_37 6 (by decide) ?_
      refine j_iload_n d_M_gather_39 rfl 3 rfl ?_
      refine n_mul d_M_gather_40 ?_
      refine j_istore d_M_gather_41 (i := 4) (Nat.le_of_ble_eq_true rfl) (lv' := [_, _, _, _, _]) rfl ?_
      refine j_lv [2, 3, 4, 1, 0] rfl ?_
      have hR := mgr_le V L f t T 6
      have aft :  jJ (g, Y_M_gather, (4, 98), 0, 0, jVQ g φ) [(0, .ref (jb g + 85)), (1, .int (nI f)), (2, .int (nI t)), (3, .int (nI (mgr V L f t T 6).2))] (jv (g, Y_M_gather, (4, 98), 0, 0, jVQ g φ) (W) (lsS L (mgr V L f t T 6).1) 0 0) 93 [] := by
        have hok6 := hok t T (by omega)
        revert hok6 hR es
        generalize mgr V L f t T 6 = R
        intro es hR hok6
        refine j_iload_n d_M_gather_93 rfl 3 rfl ?_
        refine n_iconst d_M_gather_94 4 (by decide) ?_
        refine n_icmp_ge d_M_gather_95 100 rfl (by omega) (by omega) (fun h4 => ?_) (fun h4 => ?_)
        · rw [if_neg (by omega)] at es
          obtain ⟨q1, q2⟩ := hok6 (by omega)
          have go := ih' (by rw [es])
          rw [es] at go
          dsimp only at go
          refine j_aload_n d_M_gather_100 rfl 0 rfl ?_
          refine v_callV d_M_gather_101 mt_M_solve ln_M_169 im_M_solve se_M_solve rfl (Nat.le_of_ble_eq_true rfl) rfl rfl ⟨Nat.le_of_ble_eq_true rfl, Nat.le_of_ble_eq_true rfl⟩ (Nat.le_of_ble_eq_true rfl) rfl (Nat.zero_le _) (Nat.zero_le _) (c_M_solve g W L R.1 q1 q2) rfl ?_
          rintro _ _ _ ⟨rfl, rfl, rfl⟩
          revert go
          generalize stg R.1 4 = X
          intro go
          rw [show W = mwk W t X (4 * 0) from (mwk_0 W t X).symm]
          have lr : ∀ (mr r : Nat), r + mr = 4 → jJ (g, Y_M_gather, (4, 98), 0, 0, jVQ g φ) [(0, .ref (jb g + 85)), (1, .int (nI f)), (2, .int (nI t)), (4, .int (nI r))] (jv (g, Y_M_gather, (4, 98), 0, 0, jVQ g φ) (mwk W t X (4 * r)) (lsS L X) 0 0) 107 [] := by
            intro mr
            induction mr with
            | zero =>
              intro r hr
              obtain rfl : r = 4 := by omega
              refine j_iload d_M_gather_107 3 rfl ?_
              refine n_iconst d_M_gather_109 4 (by decide) ?_
              refine n_icmp_ge d_M_gather_110 167 rfl (by omega) (by omega) (fun h => ?_) (fun h => absurd h (by omega))
              refine n_iinc d_M_gather_167 1 (by decide) 2 rfl (Nat.le_of_ble_eq_true rfl) (lv' := [_, _, _, _]) rfl ?_
              refine j_goto d_M_gather_170 23 rfl ?_
              refine j_lv [1, 2, 0] rfl ?_
              exact go
            | succ mr ihr =>
              intro r hr
              have ihr' := ihr (r + 1) (by omega)
              have lj : ∀ (mj j : Nat), j + mj = 4 → jJ (g, Y_M_gather, (4, 98), 0, 0, jVQ g φ) [(0, .ref (jb g + 85)), (1, .int (nI f)), (2, .int (nI t)), (4, .int (nI r)), (5, .int (nI j))] (jv (g, Y_M_gather, (4, 98), 0, 0, jVQ g φ) (mwk W t X (4 * r + j)) (lsS L X) 0 0) 116 [] := by
                intro mj
                induction mj with
                | zero =>
                  intro j hj
                  obtain rfl : j = 4 := by omega
                  refine j_iload d_M_gather_116 4 rfl ?_
                  refine n_iconst d_M_gather_118 4 (by decide) ?_
                  refine n_icmp_ge d_M_gather_119 161 rfl (by omega) (by omega) (fun h => ?_) (fun h => absurd h (by omega))
                  refine n_iinc d_M_gather_161 1 (by decide) 3 rfl (Nat.le_of_ble_eq_true rfl) (lv' := [_, _, _, _, _]) rfl ?_
                  refine j_goto d_M_gather_164 107 rfl ?_
                  refine j_lv [1, 2, 3, 0] rfl ?_
                  exact ihr'
                | succ mj ihj =>
                  intro j hj
                  have ihj' := ihj (j + 1) (by omega)
                  rw [← mwk_s W t X r j (by omega)] at ihj'
                  refine j_iload d_M_gather_116 4 rfl ?_
                  refine n_iconst d_M_gather_118 4 (by decide) ?_
                  refine n_icmp_ge d_M_gather_119 161 rfl (by omega) (by omega) (fun h => absurd h (by omega)) (fun h => ?_)
                  refine j_aload_n d_M_gather_122 rfl 0 rfl ?_
                  refine v_getR d_M_gather_123 lf_M_53 rfl (Nat.le_of_ble_eq_true rfl) rfl ?_
                  refine n_bipush d_M_gather_126 16 (by decide) ?_
                  refine j_iload_n d_M_gather_128 rfl 2 rfl ?_
                  refine n_mul d_M_gather_129 ?_
                  refine n_iconst d_M_gather_130 4 (by decide) ?_
                  refine j_iload d_M_gather_131 3 rfl ?_
                  refine n_mul d_M_gather_133 ?_
                  refine n_add d_M_gather_134 ?_
                  refine j_iload d_M_gather_135 4 rfl ?_
                  refine n_add d_M_gather_137 ?_
                  refine j_aload_n d_M_gather_138 rfl 0 rfl ?_
                  refine v_getR d_M_gather_139 lf_M_56 rfl (Nat.le_of_ble_eq_true rfl) rfl ?_
                  refine n_bipush d_M_gather_142 8 (by decide) ?_
                  refine j_iload d_M_gather_144 3 rfl ?_
                  refine n_mul d_M_gather_146 ?_
                  refine n_iconst d_M_gather_147 4 (by decide) ?_
                  refine n_add d_M_gather_148 ?_
                  refine j_iload d_M_gather_149 4 rfl ?_
                  refine n_add d_M_gather_151 ?_
                  refine s_ld d_M_gather_152 rfl (by omega) ?_
                  refine n_l2i d_M_gather_153 ?_
                  refine v_ist d_M_gather_154 rfl rfl (Nat.le_of_ble_eq_true rfl) rfl (by omega) (by omega) ?_
                  refine n_iinc d_M_gather_155 1 (by decide) 4 rfl (Nat.le_of_ble_eq_true rfl) (lv' := [_, _, _, _, _]) rfl ?_
                  refine j_goto d_M_gather_158 116 rfl ?_
                  refine j_lv [1, 2, 3, 4, 0] rfl ?_
                  exact ihj'
              refine j_iload d_M_gather_107 3 rfl ?_
              refine n_iconst d_M_gather_109 4 (by decide) ?_
              refine n_icmp_ge d_M_gather_110 167 rfl (by omega) (by omega) (fun h => absurd h (by omega)) (fun h => ?_)
              refine n_iconst d_M_gather_113 0 (by decide) ?_
              refine j_istore d_M_gather_114 (i := 5) (Nat.le_of_ble_eq_true rfl) (lv' := [_, _, _, _, _]) rfl ?_
              refine j_lv [1, 2, 3, 4, 0] rfl ?_
              exact lj 4 0 (by omega)
          refine n_iconst d_M_gather_104 0 (by decide) ?_
          refine j_istore d_M_gather_105 (i := 4) (Nat.le_of_ble_eq_true rfl) (lv' := [_, _, _, _, _]) rfl ?_
          refine j_lv [1, 2, 3, 0] rfl ?_
          exact lr 4 0 (by omega)
        · rw [if_pos (by omega)] at es
          rw [hst (by rw [es]), es, show mgb ((W, R.1), false) = 0 from rfl] at hφ
          subst hφ
          refine n_iconst d_M_gather_98 0 (by decide) ?_
          exact v_zret d_M_gather_99 rfl (by omega) (Nat.zero_le _) (Nat.zero_le _) rfl jA0_rfl
      have rows : ∀ (mm u : Nat), u + mm = 6 → jJ (g, Y_M_gather, (4, 98), 0, 0, jVQ g φ) [(0, .ref (jb g + 85)), (1, .int (nI f)), (2, .int (nI t)), (3, .int (nI (mgr V L f t T u).2)), (4, .int (nI (6 * t + u)))] (jv (g, Y_M_gather, (4, 98), 0, 0, jVQ g φ) (W) (lsS L (mgr V L f t T u).1) 0 0) 43 [] := by
        intro mm
        induction mm with
        | zero =>
          intro u hu
          obtain rfl : u = 6 := by omega
          refine j_iload d_M_gather_43 4 rfl ?_
          refine n_bipush d_M_gather_45 6 (by decide) ?_
          refine j_iload_n d_M_gather_47 rfl 2 rfl ?_
          refine n_mul d_M_gather_48 ?_
          refine n_bipush d_M_gather_49 6 (by decide) ?_
          refine n_add d_M_gather_51 ?_
          refine n_icmp_ge d_M_gather_52 93 rfl (by omega) (by omega) (fun h => ?_) (fun h => absurd h (by omega))
          refine j_lv [0, 1, 2, 3] rfl ?_
          exact aft
        | succ mm ihu =>
          intro u hu
          have ihu' := ihu (u + 1) (by omega)
          have hle := mgr_le V L f t T u
          rw [mgr_s] at ihu'
          have hkl := mkk_le V L f (6 * t + u)
          refine j_iload d_M_gather_43 4 rfl ?_
          refine n_bipush d_M_gather_45 6 (by decide) ?_
          refine j_iload_n d_M_gather_47 rfl 2 rfl ?_
          refine n_mul d_M_gather_48 ?_
          refine n_bipush d_M_gather_49 6 (by decide) ?_
          refine n_add d_M_gather_51 ?_
          refine n_icmp_ge d_M_gather_52 93 rfl (by omega) (by omega) (fun h => absurd h (by omega)) (fun h => ?_)
          refine j_iload_n d_M_gather_55 rfl 3 rfl ?_
          refine n_iconst d_M_gather_56 4 (by decide) ?_
          refine n_icmp_ge d_M_gather_57 93 rfl (by omega) (by omega) (fun h5 => ?_) (fun h5 => ?_)
          · have e6 : mgr V L f t T 6 = mgr V L f t T u := by
              rw [show 6 = u + (mm + 1) from by omega]
              exact mgr_st (by omega) _
            rw [e6] at aft
            refine j_lv [0, 1, 2, 3] rfl ?_
            exact aft
          · refine j_aload_n d_M_gather_60 rfl 0 rfl ?_
            refine j_iload_n d_M_gather_61 rfl 1 rfl ?_
            refine j_iload d_M_gather_62 4 rfl ?_
            refine v_callV d_M_gather_64 mt_M_keeperOf ln_M_161 im_M_keeperOf se_M_keeperOf rfl (Nat.le_of_ble_eq_true rfl) rfl rfl ⟨Nat.le_of_ble_eq_true rfl, Nat.le_of_ble_eq_true rfl⟩ (Nat.le_of_ble_eq_true rfl) rfl (Nat.zero_le _) (Nat.zero_le _) (c_M_keeperOf g W (lsS L (mgr V L f t T u).1) hW f (6 * t + u) (by rw [hnq 85 (by decide)]; exact hf0) (by omega)) rfl ?_
            rintro _ _ _ ⟨rfl, rfl, rfl⟩
            rw [mkk_eq (V := V) (L := L) (M := lsS L (mgr V L f t T u).1) f (6 * t + u) (hnq 89 (by decide)) (hnq 90 (by decide)) (hnq 91 (by decide)) rfl]
            by_cases h7 : mkk V L f (6 * t + u) = 4
            · rw [if_neg (fun z => absurd z.2 (by omega))] at ihu'
              rw [h7, show lgi 4 = -1 from rfl]
              refine j_istore d_M_gather_67 (i := 5) (Nat.le_of_ble_eq_true rfl) (lv' := [_, _, _, _, _, _]) rfl ?_
              refine j_iload d_M_gather_69 0 rfl ?_
              refine j_if_lt d_M_gather_71 87 rfl (fun _ => ?_) (fun h => absurd (by decide) h)
              refine n_iinc d_M_gather_87 1 (by decide) 5 rfl (Nat.le_of_ble_eq_true rfl) (lv' := [_, _, _, _, _, _]) rfl ?_
              refine j_goto d_M_gather_90 43 rfl ?_
              refine j_lv [2, 3, 4, 5, 0] rfl ?_
              exact ihu'
            · have h8 : mkk V L f (6 * t + u) < 4 := by omega
              rw [if_pos ⟨by omega, h8⟩] at ihu'
              rw [show lgi (mkk V L f (6 * t + u)) = nI (mkk V L f (6 * t + u)) from if_neg h7]
              refine j_istore d_M_gather_67 (i := 5) (Nat.le_of_ble_eq_true rfl) (lv' := [_, _, _, _, _, _]) rfl ?_
              refine j_iload d_M_gather_69 0 rfl ?_
              refine n_iff_lt d_M_gather_71 87 rfl rfl (by omega) ?_
              refine j_aload_n d_M_gather_74 rfl 1 rfl ?_
              refine j_iload_n d_M_gather_75 rfl 4 rfl ?_
              refine j_iload_n d_M_gather_76 rfl 2 rfl ?_
              refine j_iload d_M_gather_77 5 rfl ?_
              refine j_iload d_M_gather_79 0 rfl ?_
              refine v_callV d_M_gather_81 mt_M_sum ln_M_165 im_M_sum se_M_sum rfl (Nat.le_of_ble_eq_true rfl) rfl rfl ⟨Nat.le_of_ble_eq_true rfl, Nat.le_of_ble_eq_true rfl⟩ (Nat.le_of_ble_eq_true rfl) rfl (Nat.zero_le _) (Nat.zero_le _) (c_M_sum g W L (mgr V L f t T u).1 (mgr V L f t T u).2 f (6 * t + u) (mkk V L f (6 * t + u)) (by omega) hf (by omega) h8 hW) rfl ?_
              rintro _ _ _ ⟨rfl, rfl, rfl⟩
              rw [sus_eq (V := V) (hnq 90 (by decide))]
              refine n_iinc d_M_gather_84 1 (by decide) 4 rfl (Nat.le_of_ble_eq_true rfl) (lv' := [_, _, _, _, _, _]) rfl ?_
              refine n_iinc d_M_gather_87 1 (by decide) 5 rfl (Nat.le_of_ble_eq_true rfl) (lv' := [_, _, _, _, _, _]) rfl ?_
              refine j_goto d_M_gather_90 43 rfl ?_
              refine j_lv [3, 4, 5, 1, 0] rfl ?_
              exact ihu'
      exact rows 6 0 (by omega)
  have zer : ∀ (m t : Nat), t + m = 64 → jJ (g, Y_M_gather, (4, 98), 0, 0, jVQ g φ) [(0, .ref (jb g + 85)), (1, .int (nI f)), (2, .int (nI t))] (jv (g, Y_M_gather, (4, 98), 0, 0, jVQ g φ) (mz V t) (lsS L S) 0 0) 2 [] := by
    intro m
    induction m with
    | zero =>
      intro t ht
      obtain rfl : t = 64 := by omega
      refine j_iload_n d_M_gather_2 rfl 2 rfl ?_
      refine n_bipush d_M_gather_3 64 (by decide) ?_
      refine n_icmp_ge d_M_gather_5 21 rfl (by omega) (by omega) (fun h => ?_) (fun h => absurd h (by omega))
      refine n_iconst d_M_gather_21 0 (by decide) ?_
      refine j_istore_n d_M_gather_22 (i := 2) rfl (Nat.le_of_ble_eq_true rfl) (lv' := [_, _, _]) rfl ?_
      refine j_lv [1, 2, 0] rfl ?_
      exact loop (mrs V f / 6) 0 (by omega) rfl
    | succ m ih =>
      intro t ht
      have ih' := ih (t + 1) (by omega)
      rw [← mz_s] at ih'
      refine j_iload_n d_M_gather_2 rfl 2 rfl ?_
      refine n_bipush d_M_gather_3 64 (by decide) ?_
      refine n_icmp_ge d_M_gather_5 21 rfl (by omega) (by omega) (fun h => absurd h (by omega)) (fun h => ?_)
      refine j_aload_n d_M_gather_8 rfl 0 rfl ?_
      refine v_getR d_M_gather_9 lf_M_53 rfl (Nat.le_of_ble_eq_true rfl) rfl ?_
      refine j_iload_n d_M_gather_12 rfl 2 rfl ?_
      refine n_iconst d_M_gather_13 0 (by decide) ?_
      refine v_ist d_M_gather_14 rfl rfl (Nat.le_of_ble_eq_true rfl) rfl (by omega) (by omega) ?_
      refine n_iinc d_M_gather_15 1 (by decide) 2 rfl (Nat.le_of_ble_eq_true rfl) (lv' := [_, _, _]) rfl ?_
      refine j_goto d_M_gather_18 2 rfl ?_
      refine j_lv [1, 2, 0] rfl ?_
      exact ih'
  have z0 := zer 64 0 (by omega)
  rw [mz_0] at z0
  refine n_iconst d_M_gather_0 0 (by decide) ?_
  refine j_istore_n d_M_gather_1 (i := 2) rfl (Nat.le_of_ble_eq_true rfl) (lv' := [_, _, _]) rfl ?_
  refine j_lv [1, 2, 0] rfl ?_
  exact z0
