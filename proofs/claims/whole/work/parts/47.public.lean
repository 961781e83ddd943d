/-! AuditDesk: rota, score -/
/-- the keepers from k on: (k + 1, 0) where the turn falls, or (0, what is left of it) -/
def rk (h : Nat → Nat) : Nat → Nat → Nat → Nat × Nat
  | 0, _, a => (0, a)
  | n + 1, k, a => if h k = 0 then rk h n (k + 1) a else if a = 0 then (k + 1, 0) else rk h n (k + 1) (a - 1)
def rf (h : Nat → Nat → Nat) : Nat → Nat → Nat → Int32
  | 0, _, _ => -1
  | n + 1, f, a => if (rk (h f) 4 0 a).1 = 0 then rf h n (f + 1) (rk (h f) 4 0 a).2 else nI (8 * f + ((rk (h f) 4 0 a).1 - 1))
theorem rk_le (h : Nat → Nat) : ∀ n k a, (rk h n k a).2 ≤ a
  | 0, _, _ => Nat.le_refl _
  | n + 1, k, a => by
    unfold rk
    split
    · exact rk_le h n (k + 1) a
    · split
      · exact Nat.zero_le _
      · exact Nat.le_trans (rk_le h n (k + 1) (a - 1)) (Nat.sub_le _ _)
theorem nI_dec (b : Nat) : nI (b + 1) + Int32.ofInt (-1) = nI b := by
  rw [← nI_add, Int32.add_assoc, show nI 1 + Int32.ofInt (-1) = 0 from by decide, Int32.add_zero]
/-- who has which file -/
def hdf (V : Nat → Nat → Nat) : Nat → Nat → Nat := fun f k => V (21 + 14 * k + 4 * f) 0
theorem c_D_rota (g : jG) (V : Nat → Nat → Nat) (L : Nat → Nat → Int64) (hI : jI V) (t : Nat) (ht : t < 2 ^ 31) (hc : ¬ cpf V (V 0 4) = 0) : jK g Y_D_rota (1, 23) [.ref (jb g + 0), .int (nI t)] V L (jA0 (some (.int (rf (hdf V) (V 0 4) 0 (t % cpf V (V 0 4))))) V L) := by
  refine jK_entry (by decide +kernel) rfl (Nat.le_of_ble_eq_true rfl) ?_
  show jJ (g, Y_D_rota, (1, 23), 0, 0, jVQ g (jA0 (some (.int (rf (hdf V) (V 0 4) 0 (t % cpf V (V 0 4))))) V L)) [(0, .ref (jb g + 0)), (1, .int (nI t))] (jv (g, Y_D_rota, (1, 23), 0, 0, jVQ g (jA0 (some (.int (rf (hdf V) (V 0 4) 0 (t % cpf V (V 0 4))))) V L)) V L 0 0) 0 []
  have hF := hI.F
  have hcl := cpf_le V (V 0 4)
  generalize hφ : jA0 (some (.int (rf (hdf V) (V 0 4) 0 (t % cpf V (V 0 4))))) V L = φ
  have hc1 : t % cpf V (V 0 4) < 2 ^ 31 := Nat.lt_of_le_of_lt (Nat.mod_le _ _) ht
  refine j_aload_n d_D_rota_0 rfl 0 rfl ?_
  refine v_callV d_D_rota_1 mt_D_countCopies ln_D_234 im_D_countCopies se_D_countCopies rfl (Nat.le_of_ble_eq_true rfl) rfl rfl ⟨Nat.le_of_ble_eq_true rfl, Nat.le_of_ble_eq_true rfl⟩ (Nat.le_of_ble_eq_true rfl) rfl (Nat.zero_le _) (Nat.zero_le _) (c_D_countCopies g V L hI) rfl ?_
  rintro _ _ _ ⟨rfl, rfl, rfl⟩
  revert hφ hc hcl hc1
  generalize cpf V (V 0 4) = c
  intro hc hcl hφ hc1
  refine j_istore_n d_D_rota_4 (i := 2) rfl (Nat.le_of_ble_eq_true rfl) (lv' := [_, _, _]) rfl ?_
  refine j_iload_n d_D_rota_5 rfl 2 rfl ?_
  refine n_iff_lt d_D_rota_6 13 rfl rfl (by omega) ?_
  refine j_iload_n d_D_rota_9 rfl 0 rfl ?_
  refine n_if_ne d_D_rota_10 15 rfl (by omega) (fun h => ?_) (fun h => absurd h (by omega))
  refine j_iload_n d_D_rota_15 rfl 2 rfl ?_
  refine j_iload_n d_D_rota_16 rfl 0 rfl ?_
  refine n_rem d_D_rota_17 ht (by omega) (by omega) ?_
  refine j_istore_n d_D_rota_18 (i := 3) rfl (Nat.le_of_ble_eq_true rfl) (lv' := [_, _, _, _]) rfl ?_
  refine n_iconst d_D_rota_19 0 (by decide) ?_
  refine j_istore d_D_rota_20 (i := 4) (Nat.le_of_ble_eq_true rfl) (lv' := [_, _, _, _, _]) rfl ?_
  refine j_lv [3, 4, 2, 1, 0] rfl ?_
  have loop : ∀ (m f a : Nat), f + m = V 0 4 → a < 2 ^ 31 → jA0 (some (.int (rf (hdf V) m f a))) V L = φ → jJ (g, Y_D_rota, (1, 23), 0, 0, jVQ g φ) [(0, .ref (jb g + 0)), (1, .int (nI t)), (2, .int (nI c)), (3, .int (nI a)), (4, .int (nI f))] (jv (g, Y_D_rota, (1, 23), 0, 0, jVQ g φ) V L 0 0) 22 [] := by
    intro m
    induction m with
    | zero =>
      intro f a hf0 ha hφ
      obtain rfl : f = V 0 4 := by omega
      refine j_iload d_D_rota_22 4 rfl ?_
      refine j_aload_n d_D_rota_24 rfl 0 rfl ?_
      refine v_getI d_D_rota_25 lf_D_51 rfl (Nat.le_of_ble_eq_true rfl) rfl ?_
      refine n_icmp_ge d_D_rota_28 90 rfl (by omega) (by omega) (fun h => ?_) (fun h => absurd h (by omega))
      subst hφ
      refine j_iconst d_D_rota_90 (v := -1) rfl ?_
      exact v_iret d_D_rota_91 rfl (Nat.zero_le _) (Nat.zero_le _) rfl jA0_rfl
    | succ m ih =>
      intro f a hf0 ha hφ
      have hf : f < 3 := by omega
      have ih' := fun a => ih (f + 1) a (by omega)
      have inner : ∀ (n k a : Nat), k + n = 4 → a < 2 ^ 31 → jA0 (some (.int (if (rk (hdf V f) n k a).1 = 0 then rf (hdf V) m (f + 1) (rk (hdf V f) n k a).2 else nI (8 * f + ((rk (hdf V f) n k a).1 - 1))))) V L = φ → jJ (g, Y_D_rota, (1, 23), 0, 0, jVQ g φ) [(0, .ref (jb g + 0)), (1, .int (nI t)), (2, .int (nI c)), (3, .int (nI a)), (4, .int (nI f)), (5, .int (nI k))] (jv (g, Y_D_rota, (1, 23), 0, 0, jVQ g φ) V L 0 0) 34 [] := by
        intro n
        induction n with
        | zero =>
          intro k a hk ha hφ
          obtain rfl : k = 4 := by omega
          refine j_iload d_D_rota_34 5 rfl ?_
          refine n_iconst d_D_rota_36 4 (by decide) ?_
          refine n_icmp_ge d_D_rota_37 84 rfl (by omega) (by omega) (fun h => ?_) (fun h => absurd h (by omega))
          refine n_iinc d_D_rota_84 1 (by decide) 4 rfl (Nat.le_of_ble_eq_true rfl) (lv' := [_, _, _, _, _, _]) rfl ?_
          refine j_goto d_D_rota_87 22 rfl ?_
          refine j_lv [1, 2, 3, 4, 0] rfl ?_
          exact ih' a ha hφ
        | succ n ihn =>
          intro k a hk0 ha hφ
          have hk : k < 4 := by omega
          unfold rk at hφ
          refine j_iload d_D_rota_34 5 rfl ?_
          refine n_iconst d_D_rota_36 4 (by decide) ?_
          refine n_icmp_ge d_D_rota_37 84 rfl (by omega) (by omega) (fun h => absurd h (by omega)) (fun h => ?_)
          refine j_aload_n d_D_rota_40 rfl 0 rfl ?_
          refine v_getR d_D_rota_41 lf_D_22 rfl (Nat.le_of_ble_eq_true rfl) rfl ?_
          refine j_iload d_D_rota_44 5 rfl ?_
          refine v_ald d_D_rota_46 rfl rfl (Nat.le_of_ble_eq_true rfl) rfl (kref k hk) (Nat.le_of_ble_eq_true rfl) ?_
          refine v_getR d_D_rota_47 lf_D_101 (jshp_K k hk).1 (by omega) rfl ?_
          refine j_iload d_D_rota_50 4 rfl ?_
          refine v_ald d_D_rota_52 (jshp_K k hk).2 rfl (by omega) rfl (cref k f hf) (Nat.le_of_ble_eq_true rfl) ?_
          refine v_getI d_D_rota_53 lf_D_105 (jshp_Y k hk f hf).1 (by omega) rfl ?_
          refine n_if_ne d_D_rota_56 62 rfl (Nat.lt_of_le_of_lt (hI.hd hk hf) (by decide)) (fun h1 => ?_) (fun h1 => ?_)
          · have h1 : ¬ hdf V f k = 0 := h1
            rw [if_neg h1] at hφ
            refine j_iload_n d_D_rota_62 rfl 3 rfl ?_
            refine n_if_ne d_D_rota_63 75 rfl (by omega) (fun h2 => ?_) (fun h2 => ?_)
            · obtain ⟨b, rfl⟩ : ∃ b, a = b + 1 := ⟨a - 1, by omega⟩
              rw [if_neg h2] at hφ
              refine j_iinc d_D_rota_75 3 rfl (nI_dec b) (Nat.le_of_ble_eq_true rfl) (lv' := [_, _, _, _, _, _]) rfl ?_
              refine n_iinc d_D_rota_78 1 (by decide) 5 rfl (Nat.le_of_ble_eq_true rfl) (lv' := [_, _, _, _, _, _]) rfl ?_
              refine j_goto d_D_rota_81 34 rfl ?_
              refine j_lv [2, 3, 4, 1, 5, 0] rfl ?_
              exact ihn (k + 1) b (by omega) (by omega) hφ
            · rw [if_pos h2, if_neg (by show ¬ k + 1 = 0; omega)] at hφ
              subst hφ
              refine n_bipush d_D_rota_66 8 (by decide) ?_
              refine j_iload d_D_rota_68 4 rfl ?_
              refine n_mul d_D_rota_70 ?_
              refine j_iload d_D_rota_71 5 rfl ?_
              refine n_add d_D_rota_73 ?_
              exact v_iret d_D_rota_74 rfl (Nat.zero_le _) (Nat.zero_le _) rfl jA0_rfl
          · have h1 : hdf V f k = 0 := h1
            rw [if_pos h1] at hφ
            refine j_goto d_D_rota_59 78 rfl ?_
            refine n_iinc d_D_rota_78 1 (by decide) 5 rfl (Nat.le_of_ble_eq_true rfl) (lv' := [_, _, _, _, _, _]) rfl ?_
            refine j_goto d_D_rota_81 34 rfl ?_
            refine j_lv [1, 2, 3, 4, 5, 0] rfl ?_
            exact ihn (k + 1) a (by omega) ha hφ
      refine j_iload d_D_rota_22 4 rfl ?_
      refine j_aload_n d_D_rota_24 rfl 0 rfl ?_
      refine v_getI d_D_rota_25 lf_D_51 rfl (Nat.le_of_ble_eq_true rfl) rfl ?_
      refine n_icmp_ge d_D_rota_28 90 rfl (by omega) (by omega) (fun h => absurd h (by omega)) (fun h => ?_)
      refine n_iconst d_D_rota_31 0 (by decide) ?_
      refine j_istore d_D_rota_32 (i := 5) (Nat.le_of_ble_eq_true rfl) (lv' := [_, _, _, _, _, _]) rfl ?_
      refine j_lv [1, 2, 3, 4, 5, 0] rfl ?_
      exact inner 4 0 a (by omega) ha hφ
  exact loop (V 0 4) 0 _ (by omega) hc1 hφ
theorem n_D_rota (g : jG) (V : Nat → Nat → Nat) (L : Nat → Nat → Int64) (hI : jI V) (z : Int32) (h : z < 0 ∨ cpf V (V 0 4) = 0) : jK g Y_D_rota (1, 23) [.ref (jb g + 0), .int (z)] V L (jA0 (some (.int (-1))) V L) := by
  refine jK_entry (by decide +kernel) rfl (Nat.le_of_ble_eq_true rfl) ?_
  show jJ (g, Y_D_rota, (1, 23), 0, 0, jVQ g (jA0 (some (.int (-1))) V L)) [(0, .ref (jb g + 0)), (1, .int (z))] (jv (g, Y_D_rota, (1, 23), 0, 0, jVQ g (jA0 (some (.int (-1))) V L)) V L 0 0) 0 []
  have hF := hI.F
  have hcl := cpf_le V (V 0 4)
  refine j_aload_n d_D_rota_0 rfl 0 rfl ?_
  refine v_callV d_D_rota_1 mt_D_countCopies ln_D_234 im_D_countCopies se_D_countCopies rfl (Nat.le_of_ble_eq_true rfl) rfl rfl ⟨Nat.le_of_ble_eq_true rfl, Nat.le_of_ble_eq_true rfl⟩ (Nat.le_of_ble_eq_true rfl) rfl (Nat.zero_le _) (Nat.zero_le _) (c_D_countCopies g V L hI) rfl ?_
  rintro _ _ _ ⟨rfl, rfl, rfl⟩
  refine j_istore_n d_D_rota_4 (i := 2) rfl (Nat.le_of_ble_eq_true rfl) (lv' := [_, _, _]) rfl ?_
  refine j_iload_n d_D_rota_5 rfl 2 rfl ?_
  refine j_if_lt d_D_rota_6 13 rfl (fun h1 => ?_) (fun h1 => ?_)
  · refine j_iconst d_D_rota_13 (v := -1) rfl ?_
    exact v_iret d_D_rota_14 rfl (Nat.zero_le _) (Nat.zero_le _) rfl jA0_rfl
  · refine j_iload_n d_D_rota_9 rfl 0 rfl ?_
    rw [h.resolve_left h1]
    refine n_if_ne d_D_rota_10 15 rfl (by omega) (fun h => absurd h (by omega)) (fun h => ?_)
    refine j_iconst d_D_rota_13 (v := -1) rfl ?_
    exact v_iret d_D_rota_14 rfl (Nat.zero_le _) (Nat.zero_le _) rfl jA0_rfl
theorem c_D_score (g : jG) (V : Nat → Nat → Nat) (L : Nat → Nat → Int64) (k : Nat) (hk : k < 4) (zw : Int32) : jK g Y_D_score (1, 21) [.ref (jb g + 0), .int (nI k), .int (zw)] V L (jA0 (some (.int (if zw = 0 then nI (V (19 + 14 * k) 1) else if zw = 1 then nI (V (19 + 14 * k) 2) else if zw = 2 then nI (V (19 + 14 * k) 3) else -1))) V L) := by
  refine jK_entry (by decide +kernel) rfl (Nat.le_of_ble_eq_true rfl) ?_
  show jJ (g, Y_D_score, (1, 21), 0, 0, jVQ g (jA0 (some (.int (if zw = 0 then nI (V (19 + 14 * k) 1) else if zw = 1 then nI (V (19 + 14 * k) 2) else if zw = 2 then nI (V (19 + 14 * k) 3) else -1))) V L)) [(0, .ref (jb g + 0)), (1, .int (nI k)), (2, .int (zw))] (jv (g, Y_D_score, (1, 21), 0, 0, jVQ g (jA0 (some (.int (if zw = 0 then nI (V (19 + 14 * k) 1) else if zw = 1 then nI (V (19 + 14 * k) 2) else if zw = 2 then nI (V (19 + 14 * k) 3) else -1))) V L)) V L 0 0) 0 []
  refine j_iload_n d_D_score_0 rfl 1 rfl ?_
  refine v_callS d_D_score_1 mt_D_isKeeper ln_D_93 sm_D_isKeeper ⟨Nat.le_of_ble_eq_true rfl, Nat.le_of_ble_eq_true rfl⟩ (Nat.le_of_ble_eq_true rfl) rfl (Nat.zero_le _) (Nat.zero_le _) (c_D_isKeeper g V L (nI k)) rfl ?_
  rintro _ _ _ ⟨rfl, rfl, rfl⟩
  rw [isn_nI (by omega) hk]
  refine n_if_eq d_D_score_4 18 rfl (by omega) (fun h => absurd h (by omega)) (fun h => ?_)
  refine j_aload_n d_D_score_7 rfl 0 rfl ?_
  refine v_getR d_D_score_8 lf_D_22 rfl (Nat.le_of_ble_eq_true rfl) rfl ?_
  refine j_iload_n d_D_score_11 rfl 1 rfl ?_
  refine v_ald d_D_score_12 rfl rfl (Nat.le_of_ble_eq_true rfl) rfl (kref k hk) (Nat.le_of_ble_eq_true rfl) ?_
  refine j_iload_n d_D_score_13 rfl 2 rfl ?_
  refine v_callV d_D_score_14 mt_K_tally ln_D_238 im_K_tally se_K_tally (jshp_K k hk).1 (by omega) rfl rfl ⟨Nat.le_of_ble_eq_true rfl, Nat.le_of_ble_eq_true rfl⟩ (Nat.le_of_ble_eq_true rfl) rfl (Nat.zero_le _) (Nat.zero_le _) (c_K_tally g V L k hk zw) rfl ?_
  rintro _ _ _ ⟨rfl, rfl, rfl⟩
  exact v_iret d_D_score_17 rfl (Nat.zero_le _) (Nat.zero_le _) rfl jA0_rfl
theorem f_D_score (g : jG) (V : Nat → Nat → Nat) (L : Nat → Nat → Int64) (hI : jI V) (z zw : Int32) (h : isn 4 z = 0) : jK g Y_D_score (1, 21) [.ref (jb g + 0), .int (z), .int (zw)] V L (jA0 (some (.int (if isf V (-1 - z) = 0 then -1 else if zw = 0 then nI (V (3 + 5 * (-1 - z).toNatClampNeg) 0) else if zw = nI 1 then nI (V (3 + 5 * (-1 - z).toNatClampNeg) 1) else -1))) V L) := by
  refine jK_entry (by decide +kernel) rfl (Nat.le_of_ble_eq_true rfl) ?_
  show jJ (g, Y_D_score, (1, 21), 0, 0, jVQ g (jA0 (some (.int (if isf V (-1 - z) = 0 then -1 else if zw = 0 then nI (V (3 + 5 * (-1 - z).toNatClampNeg) 0) else if zw = nI 1 then nI (V (3 + 5 * (-1 - z).toNatClampNeg) 1) else -1))) V L)) [(0, .ref (jb g + 0)), (1, .int (z)), (2, .int (zw))] (jv (g, Y_D_score, (1, 21), 0, 0, jVQ g (jA0 (some (.int (if isf V (-1 - z) = 0 then -1 else if zw = 0 then nI (V (3 + 5 * (-1 - z).toNatClampNeg) 0) else if zw = nI 1 then nI (V (3 + 5 * (-1 - z).toNatClampNeg) 1) else -1))) V L)) V L 0 0) 0 []
  refine j_iload_n d_D_score_0 rfl 1 rfl ?_
  refine v_callS d_D_score_1 mt_D_isKeeper ln_D_93 sm_D_isKeeper ⟨Nat.le_of_ble_eq_true rfl, Nat.le_of_ble_eq_true rfl⟩ (Nat.le_of_ble_eq_true rfl) rfl (Nat.zero_le _) (Nat.zero_le _) (c_D_isKeeper g V L z) rfl ?_
  rintro _ _ _ ⟨rfl, rfl, rfl⟩
  rw [h]
  refine n_if_eq d_D_score_4 18 rfl (by omega) (fun h => ?_) (fun h => absurd h (by omega))
  refine j_iconst d_D_score_18 (v := -1) rfl ?_
  refine j_iload_n d_D_score_19 rfl 1 rfl ?_
  refine j_isub d_D_score_20 ?_
  refine j_istore_n d_D_score_21 (i := 3) rfl (Nat.le_of_ble_eq_true rfl) (lv' := [_, _, _, _]) rfl ?_
  refine j_aload_n d_D_score_22 rfl 1 rfl ?_
  refine j_iload_n d_D_score_23 rfl 0 rfl ?_
  refine v_callV d_D_score_24 mt_D_isFile ln_D_90 im_D_isFile se_D_isFile rfl (Nat.le_of_ble_eq_true rfl) rfl rfl ⟨Nat.le_of_ble_eq_true rfl, Nat.le_of_ble_eq_true rfl⟩ (Nat.le_of_ble_eq_true rfl) rfl (Nat.zero_le _) (Nat.zero_le _) (c_D_isFile g V L (-1 - z)) rfl ?_
  rintro _ _ _ ⟨rfl, rfl, rfl⟩
  refine n_if_ne d_D_score_27 32 rfl (Nat.lt_of_le_of_lt (isf_le _ _) (by decide)) (fun h1 => ?_) (fun h1 => ?_)
  · rw [if_neg h1]
    revert h1
    generalize -1 - z = z3
    intro h1
    obtain ⟨f, hf0, rfl⟩ := isf_of hI.F h1
    have hf : f < 3 := Nat.lt_of_lt_of_le hf0 hI.F
    rw [nI_clamp (by omega)]
    refine j_iload_n d_D_score_32 rfl 3 rfl ?_
    refine j_if_ne d_D_score_33 46 rfl (fun h2 => ?_) (fun h2 => ?_)
    · rw [if_neg h2]
      refine j_iload_n d_D_score_46 rfl 3 rfl ?_
      refine n_iconst d_D_score_47 1 (by decide) ?_
      refine j_icmp_ne d_D_score_48 63 rfl (fun h3 => ?_) (fun h3 => ?_)
      · rw [if_neg h3]
        refine j_iconst d_D_score_63 (v := -1) rfl ?_
        exact v_iret d_D_score_64 rfl (Nat.zero_le _) (Nat.zero_le _) rfl jA0_rfl
      · rw [if_pos h3]
        refine j_aload_n d_D_score_51 rfl 1 rfl ?_
        refine v_getR d_D_score_52 lf_D_15 rfl (Nat.le_of_ble_eq_true rfl) rfl ?_
        refine j_iload_n d_D_score_55 rfl 0 rfl ?_
        refine v_ald d_D_score_56 rfl rfl (Nat.le_of_ble_eq_true rfl) rfl (dref f hf) (Nat.le_of_ble_eq_true rfl) ?_
        refine v_getI d_D_score_57 lf_D_114 (jshp_E f hf).1 (by omega) rfl ?_
        refine j_goto d_D_score_60 64 rfl ?_
        exact v_iret d_D_score_64 rfl (Nat.zero_le _) (Nat.zero_le _) rfl jA0_rfl
    · rw [if_pos h2]
      refine j_aload_n d_D_score_36 rfl 1 rfl ?_
      refine v_getR d_D_score_37 lf_D_15 rfl (Nat.le_of_ble_eq_true rfl) rfl ?_
      refine j_iload_n d_D_score_40 rfl 0 rfl ?_
      refine v_ald d_D_score_41 rfl rfl (Nat.le_of_ble_eq_true rfl) rfl (dref f hf) (Nat.le_of_ble_eq_true rfl) ?_
      refine v_getI d_D_score_42 lf_D_220 (jshp_E f hf).1 (by omega) rfl ?_
      exact v_iret d_D_score_45 rfl (Nat.zero_le _) (Nat.zero_le _) rfl jA0_rfl
  · rw [if_pos h1]
    refine j_iconst d_D_score_30 (v := -1) rfl ?_
    exact v_iret d_D_score_31 rfl (Nat.zero_le _) (Nat.zero_le _) rfl jA0_rfl
