/-! AuditDeskModel: rota, score, locate, judge, challenge -/
def mcp (V : Nat → Nat → Nat) : Nat → Nat
  | 0 => 0
  | p + 1 => mcp V p + (if V 89 p = 0 then 0 else 1)
theorem mcp_le (V : Nat → Nat → Nat) : ∀ p, mcp V p ≤ p
  | 0 => Nat.le_refl _
  | p + 1 => by
    have := mcp_le V p
    unfold mcp
    split <;> omega
def mhf (V : Nat → Nat → Nat) : Nat → Nat → Nat := fun f k => V 89 (3 * k + f)
theorem c_M_rota (g : jG) (V : Nat → Nat → Nat) (L : Nat → Nat → Int64) (hN : jN V) (t : Nat) (ht : t < 2 ^ 31) (hc : ¬ mcp V 12 = 0) : jK g Y_M_rota (0, 0) [.ref (jb g + 85), .int (nI t)] V L (jA0 (some (.int (rf (mhf V) 3 0 (t % mcp V 12)))) (vu V 85 0 0) L) := by
  refine jK_entry (by decide +kernel) rfl (Nat.le_of_ble_eq_true rfl) ?_
  show jJ (g, Y_M_rota, (0, 0), 0, 0, jVQ g (jA0 (some (.int (rf (mhf V) 3 0 (t % mcp V 12)))) (vu V 85 0 0) L)) [(0, .ref (jb g + 85)), (1, .int (nI t))] (jv (g, Y_M_rota, (0, 0), 0, 0, jVQ g (jA0 (some (.int (rf (mhf V) 3 0 (t % mcp V 12)))) (vu V 85 0 0) L)) V L 0 0) 0 []
  have hcl := mcp_le V 12
  generalize hφ : jA0 (some (.int (rf (mhf V) 3 0 (t % mcp V 12)))) (vu V 85 0 0) L = φ
  have hc1 : t % mcp V 12 < 2 ^ 31 := Nat.lt_of_le_of_lt (Nat.mod_le _ _) ht
  have main : ∀ c, jA0 (some (.int (rf (mhf V) 3 0 (t % c)))) (vu V 85 0 0) L = φ → t % c < 2 ^ 31 → jJ (g, Y_M_rota, (0, 0), 0, 0, jVQ g φ) [(0, .ref (jb g + 85)), (1, .int (nI t)), (2, .int (nI c)), (3, .int (nI (t % c))), (4, .int (nI 0))] (jv (g, Y_M_rota, (0, 0), 0, 0, jVQ g φ) (vu V 85 0 0) L 0 0) 55 [] := by
    intro c hφ hc1
    have loop : ∀ (m f a : Nat), f + m = 3 → a < 2 ^ 31 → jA0 (some (.int (rf (mhf V) m f a))) (vu V 85 0 0) L = φ → jJ (g, Y_M_rota, (0, 0), 0, 0, jVQ g φ) [(0, .ref (jb g + 85)), (1, .int (nI t)), (2, .int (nI c)), (3, .int (nI a)), (4, .int (nI f))] (jv (g, Y_M_rota, (0, 0), 0, 0, jVQ g φ) (vu V 85 0 0) L 0 0) 55 [] := by
      intro m
      induction m with
      | zero =>
        intro f a hf0 ha hφ
        obtain rfl : f = 3 := by omega
        refine j_iload d_M_rota_55 4 rfl ?_
        refine n_iconst d_M_rota_57 3 (by decide) ?_
        refine n_icmp_ge d_M_rota_58 133 rfl (by omega) (by omega) (fun h => ?_) (fun h => absurd h (by omega))
        subst hφ
        refine j_iconst d_M_rota_133 (v := -1) rfl ?_
        exact v_iret d_M_rota_134 rfl (Nat.zero_le _) (Nat.zero_le _) rfl jA0_rfl
      | succ m ih =>
        intro f a hf0 ha hφ
        have ih' := fun a => ih (f + 1) a (by omega)
        have inner : ∀ (n k a : Nat), k + n = 4 → a < 2 ^ 31 → jA0 (some (.int (if (rk (mhf V f) n k a).1 = 0 then rf (mhf V) m (f + 1) (rk (mhf V f) n k a).2 else nI (8 * f + ((rk (mhf V f) n k a).1 - 1))))) (vu V 85 0 0) L = φ → jJ (g, Y_M_rota, (0, 0), 0, 0, jVQ g φ) [(0, .ref (jb g + 85)), (1, .int (nI t)), (2, .int (nI c)), (3, .int (nI a)), (4, .int (nI f)), (5, .int (nI k))] (jv (g, Y_M_rota, (0, 0), 0, 0, jVQ g φ) (vu V 85 0 0) L 0 0) 64 [] := by
          intro n
          induction n with
          | zero =>
            intro k a hk ha hφ
            obtain rfl : k = 4 := by omega
            refine j_iload d_M_rota_64 5 rfl ?_
            refine n_iconst d_M_rota_66 4 (by decide) ?_
            refine n_icmp_ge d_M_rota_67 127 rfl (by omega) (by omega) (fun h => ?_) (fun h => absurd h (by omega))
            refine n_iinc d_M_rota_127 1 (by decide) 4 rfl (Nat.le_of_ble_eq_true rfl) (lv' := [_, _, _, _, _, _]) rfl ?_
            refine j_goto d_M_rota_130 55 rfl ?_
            refine j_lv [1, 2, 3, 4, 0] rfl ?_
            exact ih' a ha hφ
          | succ n ihn =>
            intro k a hk0 ha hφ
            have h9 := hN.hs (3 * k + f) (by omega)
            unfold rk at hφ
            refine j_iload d_M_rota_64 5 rfl ?_
            refine n_iconst d_M_rota_66 4 (by decide) ?_
            refine n_icmp_ge d_M_rota_67 127 rfl (by omega) (by omega) (fun h => absurd h (by omega)) (fun h => ?_)
            refine j_aload_n d_M_rota_70 rfl 0 rfl ?_
            refine v_getR d_M_rota_71 lf_M_19 rfl (Nat.le_of_ble_eq_true rfl) rfl ?_
            refine n_iconst d_M_rota_74 3 (by decide) ?_
            refine j_iload d_M_rota_75 5 rfl ?_
            refine n_mul d_M_rota_77 ?_
            refine j_iload d_M_rota_78 4 rfl ?_
            refine n_add d_M_rota_80 ?_
            refine v_zld d_M_rota_81 rfl rfl (Nat.le_of_ble_eq_true rfl) rfl (by omega) (by omega) ?_
            rw [show vu V 85 0 0 89 (3 * k + f) = V 89 (3 * k + f) from rfl]
            refine n_if_eq d_M_rota_82 98 rfl (by omega) (fun h1 => ?_) (fun h1 => ?_)
            · rw [show mhf V f k = 0 from h1, if_pos rfl] at hφ
              refine j_iload_n d_M_rota_98 rfl 3 rfl ?_
              refine j_aload_n d_M_rota_99 rfl 0 rfl ?_
              refine v_getR d_M_rota_100 lf_M_19 rfl (Nat.le_of_ble_eq_true rfl) rfl ?_
              refine n_iconst d_M_rota_103 3 (by decide) ?_
              refine j_iload d_M_rota_104 5 rfl ?_
              refine n_mul d_M_rota_106 ?_
              refine j_iload d_M_rota_107 4 rfl ?_
              refine n_add d_M_rota_109 ?_
              refine v_zld d_M_rota_110 rfl rfl (Nat.le_of_ble_eq_true rfl) rfl (by omega) (by omega) ?_
              rw [show vu V 85 0 0 89 (3 * k + f) = V 89 (3 * k + f) from rfl]
              refine n_if_eq d_M_rota_111 118 rfl (by omega) (fun h => ?_) (fun h => absurd h (by omega))
              refine n_iconst d_M_rota_118 0 (by decide) ?_
              refine n_sub d_M_rota_119 (by omega) ?_
              refine j_istore_n d_M_rota_120 (i := 3) rfl (Nat.le_of_ble_eq_true rfl) (lv' := [_, _, _, _, _, _]) rfl ?_
              refine n_iinc d_M_rota_121 1 (by decide) 5 rfl (Nat.le_of_ble_eq_true rfl) (lv' := [_, _, _, _, _, _]) rfl ?_
              refine j_goto d_M_rota_124 64 rfl ?_
              refine j_lv [2, 3, 4, 1, 5, 0] rfl ?_
              exact ihn (k + 1) a (by omega) ha hφ
            · rw [if_neg (show ¬ mhf V f k = 0 from h1)] at hφ
              refine j_iload_n d_M_rota_85 rfl 3 rfl ?_
              refine n_if_ne d_M_rota_86 98 rfl (by omega) (fun h2 => ?_) (fun h2 => ?_)
              · rw [if_neg h2] at hφ
                refine j_iload_n d_M_rota_98 rfl 3 rfl ?_
                refine j_aload_n d_M_rota_99 rfl 0 rfl ?_
                refine v_getR d_M_rota_100 lf_M_19 rfl (Nat.le_of_ble_eq_true rfl) rfl ?_
                refine n_iconst d_M_rota_103 3 (by decide) ?_
                refine j_iload d_M_rota_104 5 rfl ?_
                refine n_mul d_M_rota_106 ?_
                refine j_iload d_M_rota_107 4 rfl ?_
                refine n_add d_M_rota_109 ?_
                refine v_zld d_M_rota_110 rfl rfl (Nat.le_of_ble_eq_true rfl) rfl (by omega) (by omega) ?_
                rw [show vu V 85 0 0 89 (3 * k + f) = V 89 (3 * k + f) from rfl]
                refine n_if_eq d_M_rota_111 118 rfl (by omega) (fun h => absurd h (by omega)) (fun h => ?_)
                refine n_iconst d_M_rota_114 1 (by decide) ?_
                refine j_goto d_M_rota_115 119 rfl ?_
                refine n_sub d_M_rota_119 (by omega) ?_
                refine j_istore_n d_M_rota_120 (i := 3) rfl (Nat.le_of_ble_eq_true rfl) (lv' := [_, _, _, _, _, _]) rfl ?_
                refine n_iinc d_M_rota_121 1 (by decide) 5 rfl (Nat.le_of_ble_eq_true rfl) (lv' := [_, _, _, _, _, _]) rfl ?_
                refine j_goto d_M_rota_124 64 rfl ?_
                refine j_lv [2, 3, 4, 1, 5, 0] rfl ?_
                exact ihn (k + 1) (a - 1) (by omega) (by omega) hφ
              · rw [if_pos h2, if_neg (by show ¬ k + 1 = 0; omega)] at hφ
                subst hφ
                refine n_bipush d_M_rota_89 8 (by decide) ?_
                refine j_iload d_M_rota_91 4 rfl ?_
                refine n_mul d_M_rota_93 ?_
                refine j_iload d_M_rota_94 5 rfl ?_
                refine n_add d_M_rota_96 ?_
                exact v_iret d_M_rota_97 rfl (Nat.zero_le _) (Nat.zero_le _) rfl jA0_rfl
        refine j_iload d_M_rota_55 4 rfl ?_
        refine n_iconst d_M_rota_57 3 (by decide) ?_
        refine n_icmp_ge d_M_rota_58 133 rfl (by omega) (by omega) (fun h => absurd h (by omega)) (fun h => ?_)
        refine n_iconst d_M_rota_61 0 (by decide) ?_
        refine j_istore d_M_rota_62 (i := 5) (Nat.le_of_ble_eq_true rfl) (lv' := [_, _, _, _, _, _]) rfl ?_
        refine j_lv [1, 2, 3, 4, 5, 0] rfl ?_
        exact inner 4 0 a (by omega) ha hφ
    exact loop 3 0 _ (by omega) hc1 hφ
  have aft :  jJ (g, Y_M_rota, (0, 0), 0, 0, jVQ g φ) [(0, .ref (jb g + 85)), (1, .int (nI t)), (2, .int (nI (mcp V 12)))] (jv (g, Y_M_rota, (0, 0), 0, 0, jVQ g φ) (vu V 85 0 0) L 0 0) 38 [] := by
    refine j_iload_n d_M_rota_38 rfl 1 rfl ?_
    refine n_iff_lt d_M_rota_39 46 rfl rfl (by omega) ?_
    refine j_iload_n d_M_rota_42 rfl 2 rfl ?_
    refine n_if_ne d_M_rota_43 48 rfl (by omega) (fun h => ?_) (fun h => absurd h (by omega))
    refine j_iload_n d_M_rota_48 rfl 1 rfl ?_
    refine j_iload_n d_M_rota_49 rfl 2 rfl ?_
    refine n_rem d_M_rota_50 ht (by omega) (by omega) ?_
    refine j_istore_n d_M_rota_51 (i := 3) rfl (Nat.le_of_ble_eq_true rfl) (lv' := [_, _, _, _]) rfl ?_
    refine n_iconst d_M_rota_52 0 (by decide) ?_
    refine j_istore d_M_rota_53 (i := 4) (Nat.le_of_ble_eq_true rfl) (lv' := [_, _, _, _, _]) rfl ?_
    refine j_lv [2, 3, 4, 1, 0] rfl ?_
    exact main _ hφ hc1
  have cnt : ∀ (m p : Nat), p + m = 12 → jJ (g, Y_M_rota, (0, 0), 0, 0, jVQ g φ) [(0, .ref (jb g + 85)), (1, .int (nI t)), (2, .int (nI (mcp V p))), (3, .int (nI p))] (jv (g, Y_M_rota, (0, 0), 0, 0, jVQ g φ) (vu V 85 0 0) L 0 0) 9 [] := by
    intro m
    induction m with
    | zero =>
      intro p hp
      obtain rfl : p = 12 := by omega
      refine j_iload_n d_M_rota_9 rfl 3 rfl ?_
      refine n_bipush d_M_rota_10 12 (by decide) ?_
      refine n_icmp_ge d_M_rota_12 38 rfl (by omega) (by omega) (fun h => ?_) (fun h => absurd h (by omega))
      refine j_lv [0, 1, 2] rfl ?_
      exact aft
    | succ m ih =>
      intro p hp
      have ih' := ih (p + 1) (by omega)
      have h9 := hN.hs p (by omega)
      rw [mcp] at ih'
      refine j_iload_n d_M_rota_9 rfl 3 rfl ?_
      refine n_bipush d_M_rota_10 12 (by decide) ?_
      refine n_icmp_ge d_M_rota_12 38 rfl (by omega) (by omega) (fun h => absurd h (by omega)) (fun h => ?_)
      refine j_iload_n d_M_rota_15 rfl 2 rfl ?_
      refine j_aload_n d_M_rota_16 rfl 0 rfl ?_
      refine v_getR d_M_rota_17 lf_M_19 rfl (Nat.le_of_ble_eq_true rfl) rfl ?_
      refine j_iload_n d_M_rota_20 rfl 3 rfl ?_
      refine v_zld d_M_rota_21 rfl rfl (Nat.le_of_ble_eq_true rfl) rfl (by omega) (by omega) ?_
      rw [show vu V 85 0 0 89 p = V 89 p from rfl]
      refine n_if_eq d_M_rota_22 29 rfl (by omega) (fun h5 => ?_) (fun h5 => ?_)
      · rw [if_pos h5] at ih'
        refine n_iconst d_M_rota_29 0 (by decide) ?_
        refine n_add d_M_rota_30 ?_
        refine j_istore_n d_M_rota_31 (i := 2) rfl (Nat.le_of_ble_eq_true rfl) (lv' := [_, _, _, _]) rfl ?_
        refine n_iinc d_M_rota_32 1 (by decide) 3 rfl (Nat.le_of_ble_eq_true rfl) (lv' := [_, _, _, _]) rfl ?_
        refine j_goto d_M_rota_35 9 rfl ?_
        refine j_lv [2, 3, 1, 0] rfl ?_
        exact ih'
      · rw [if_neg h5] at ih'
        refine n_iconst d_M_rota_25 1 (by decide) ?_
        refine j_goto d_M_rota_26 30 rfl ?_
        refine n_add d_M_rota_30 ?_
        refine j_istore_n d_M_rota_31 (i := 2) rfl (Nat.le_of_ble_eq_true rfl) (lv' := [_, _, _, _]) rfl ?_
        refine n_iinc d_M_rota_32 1 (by decide) 3 rfl (Nat.le_of_ble_eq_true rfl) (lv' := [_, _, _, _]) rfl ?_
        refine j_goto d_M_rota_35 9 rfl ?_
        refine j_lv [2, 3, 1, 0] rfl ?_
        exact ih'
  refine j_aload_n d_M_rota_0 rfl 0 rfl ?_
  refine n_iconst d_M_rota_1 0 (by decide) ?_
  refine v_putI d_M_rota_2 lf_M_63 rfl (Nat.le_of_ble_eq_true rfl) rfl rfl rfl rfl ?_
  refine n_iconst d_M_rota_5 0 (by decide) ?_
  refine j_istore_n d_M_rota_6 (i := 2) rfl (Nat.le_of_ble_eq_true rfl) (lv' := [_, _, _]) rfl ?_
  refine n_iconst d_M_rota_7 0 (by decide) ?_
  refine j_istore_n d_M_rota_8 (i := 3) rfl (Nat.le_of_ble_eq_true rfl) (lv' := [_, _, _, _]) rfl ?_
  refine j_lv [2, 3, 1, 0] rfl ?_
  exact cnt 12 0 (by omega)
theorem n_M_rota (g : jG) (V : Nat → Nat → Nat) (L : Nat → Nat → Int64) (hN : jN V) (z : Int32) (h : z < 0 ∨ mcp V 12 = 0) : jK g Y_M_rota (0, 0) [.ref (jb g + 85), .int (z)] V L (jA0 (some (.int (-1))) (vu V 85 0 0) L) := by
  refine jK_entry (by decide +kernel) rfl (Nat.le_of_ble_eq_true rfl) ?_
  show jJ (g, Y_M_rota, (0, 0), 0, 0, jVQ g (jA0 (some (.int (-1))) (vu V 85 0 0) L)) [(0, .ref (jb g + 85)), (1, .int (z))] (jv (g, Y_M_rota, (0, 0), 0, 0, jVQ g (jA0 (some (.int (-1))) (vu V 85 0 0) L)) V L 0 0) 0 []
  have hcl := mcp_le V 12
  generalize hφ : jA0 (some (.int (-1))) (vu V 85 0 0) L = φ
  have aft :  jJ (g, Y_M_rota, (0, 0), 0, 0, jVQ g φ) [(0, .ref (jb g + 85)), (1, .int z), (2, .int (nI (mcp V 12)))] (jv (g, Y_M_rota, (0, 0), 0, 0, jVQ g φ) (vu V 85 0 0) L 0 0) 38 [] := by
    refine j_iload_n d_M_rota_38 rfl 1 rfl ?_
    refine j_if_lt d_M_rota_39 46 rfl (fun h1 => ?_) (fun h1 => ?_)
    · subst hφ
      refine j_iconst d_M_rota_46 (v := -1) rfl ?_
      exact v_iret d_M_rota_47 rfl (Nat.zero_le _) (Nat.zero_le _) rfl jA0_rfl
    · refine j_iload_n d_M_rota_42 rfl 2 rfl ?_
      rw [h.resolve_left h1]
      refine n_if_ne d_M_rota_43 48 rfl (by omega) (fun h => absurd h (by omega)) (fun h => ?_)
      subst hφ
      refine j_iconst d_M_rota_46 (v := -1) rfl ?_
      exact v_iret d_M_rota_47 rfl (Nat.zero_le _) (Nat.zero_le _) rfl jA0_rfl
  have cnt : ∀ (m p : Nat), p + m = 12 → jJ (g, Y_M_rota, (0, 0), 0, 0, jVQ g φ) [(0, .ref (jb g + 85)), (1, .int (z)), (2, .int (nI (mcp V p))), (3, .int (nI p))] (jv (g, Y_M_rota, (0, 0), 0, 0, jVQ g φ) (vu V 85 0 0) L 0 0) 9 [] := by
    intro m
    induction m with
    | zero =>
      intro p hp
      obtain rfl : p = 12 := by omega
      refine j_iload_n d_M_rota_9 rfl 3 rfl ?_
      refine n_bipush d_M_rota_10 12 (by decide) ?_
      refine n_icmp_ge d_M_rota_12 38 rfl (by omega) (by omega) (fun h => ?_) (fun h => absurd h (by omega))
      refine j_lv [0, 1, 2] rfl ?_
      exact aft
    | succ m ih =>
      intro p hp
      have ih' := ih (p + 1) (by omega)
      have h9 := hN.hs p (by omega)
      rw [mcp] at ih'
      refine j_iload_n d_M_rota_9 rfl 3 rfl ?_
      refine n_bipush d_M_rota_10 12 (by decide) ?_
      refine n_icmp_ge d_M_rota_12 38 rfl (by omega) (by omega) (fun h => absurd h (by omega)) (fun h => ?_)
      refine j_iload_n d_M_rota_15 rfl 2 rfl ?_
      refine j_aload_n d_M_rota_16 rfl 0 rfl ?_
      refine v_getR d_M_rota_17 lf_M_19 rfl (Nat.le_of_ble_eq_true rfl) rfl ?_
      refine j_iload_n d_M_rota_20 rfl 3 rfl ?_
      refine v_zld d_M_rota_21 rfl rfl (Nat.le_of_ble_eq_true rfl) rfl (by omega) (by omega) ?_
      rw [show vu V 85 0 0 89 p = V 89 p from rfl]
      refine n_if_eq d_M_rota_22 29 rfl (by omega) (fun h5 => ?_) (fun h5 => ?_)
      · rw [if_pos h5] at ih'
        refine n_iconst d_M_rota_29 0 (by decide) ?_
        refine n_add d_M_rota_30 ?_
        refine j_istore_n d_M_rota_31 (i := 2) rfl (Nat.le_of_ble_eq_true rfl) (lv' := [_, _, _, _]) rfl ?_
        refine n_iinc d_M_rota_32 1 (by decide) 3 rfl (Nat.le_of_ble_eq_true rfl) (lv' := [_, _, _, _]) rfl ?_
        refine j_goto d_M_rota_35 9 rfl ?_
        refine j_lv [2, 3, 1, 0] rfl ?_
        exact ih'
      · rw [if_neg h5] at ih'
        refine n_iconst d_M_rota_25 1 (by decide) ?_
        refine j_goto d_M_rota_26 30 rfl ?_
        refine n_add d_M_rota_30 ?_
        refine j_istore_n d_M_rota_31 (i := 2) rfl (Nat.le_of_ble_eq_true rfl) (lv' := [_, _, _, _]) rfl ?_
        refine n_iinc d_M_rota_32 1 (by decide) 3 rfl (Nat.le_of_ble_eq_true rfl) (lv' := [_, _, _, _]) rfl ?_
        refine j_goto d_M_rota_35 9 rfl ?_
        refine j_lv [2, 3, 1, 0] rfl ?_
        exact ih'
  refine j_aload_n d_M_rota_0 rfl 0 rfl ?_
  refine n_iconst d_M_rota_1 0 (by decide) ?_
  refine v_putI d_M_rota_2 lf_M_63 rfl (Nat.le_of_ble_eq_true rfl) rfl rfl rfl rfl ?_
  refine n_iconst d_M_rota_5 0 (by decide) ?_
  refine j_istore_n d_M_rota_6 (i := 2) rfl (Nat.le_of_ble_eq_true rfl) (lv' := [_, _, _]) rfl ?_
  refine n_iconst d_M_rota_7 0 (by decide) ?_
  refine j_istore_n d_M_rota_8 (i := 3) rfl (Nat.le_of_ble_eq_true rfl) (lv' := [_, _, _, _]) rfl ?_
  refine j_lv [2, 3, 1, 0] rfl ?_
  exact cnt 12 0 (by omega)
theorem c_M_score (g : jG) (V : Nat → Nat → Nat) (L : Nat → Nat → Int64) (k : Nat) (hk : k < 4) (zw : Int32) : jK g Y_M_score (1, 21) [.ref (jb g + 85), .int (nI k), .int (zw)] V L (jA0 (some (.int (if zw = 0 then nI (V 92 k) else if zw = 1 then nI (V 93 k) else if zw = 2 then nI (V 94 k) else -1))) (vu V 85 0 0) L) := by
  refine jK_entry (by decide +kernel) rfl (Nat.le_of_ble_eq_true rfl) ?_
  show jJ (g, Y_M_score, (1, 21), 0, 0, jVQ g (jA0 (some (.int (if zw = 0 then nI (V 92 k) else if zw = 1 then nI (V 93 k) else if zw = 2 then nI (V 94 k) else -1))) (vu V 85 0 0) L)) [(0, .ref (jb g + 85)), (1, .int (nI k)), (2, .int (zw))] (jv (g, Y_M_score, (1, 21), 0, 0, jVQ g (jA0 (some (.int (if zw = 0 then nI (V 92 k) else if zw = 1 then nI (V 93 k) else if zw = 2 then nI (V 94 k) else -1))) (vu V 85 0 0) L)) V L 0 0) 0 []
  refine j_aload_n d_M_score_0 rfl 0 rfl ?_
  refine n_iconst d_M_score_1 0 (by decide) ?_
  refine v_putI d_M_score_2 lf_M_63 rfl (Nat.le_of_ble_eq_true rfl) rfl rfl rfl rfl ?_
  refine j_iload_n d_M_score_5 rfl 1 rfl ?_
  refine v_callS d_M_score_6 mt_M_isKeeper ln_M_115 sm_M_isKeeper ⟨Nat.le_of_ble_eq_true rfl, Nat.le_of_ble_eq_true rfl⟩ (Nat.le_of_ble_eq_true rfl) rfl (Nat.zero_le _) (Nat.zero_le _) (c_M_isKeeper g (vu V 85 0 0) L (nI k)) rfl ?_
  rintro _ _ _ ⟨rfl, rfl, rfl⟩
  rw [isn_nI (by omega) hk]
  refine n_if_eq d_M_score_9 55 rfl (by omega) (fun h => absurd h (by omega)) (fun h => ?_)
  refine j_iload_n d_M_score_12 rfl 2 rfl ?_
  refine j_if_ne d_M_score_13 25 rfl (fun q1 => ?_) (fun q1 => ?_)
  · rw [if_neg q1]
    refine j_iload_n d_M_score_25 rfl 2 rfl ?_
    refine n_iconst d_M_score_26 1 (by decide) ?_
    refine j_icmp_ne d_M_score_27 39 rfl (fun q2 => ?_) (fun q2 => ?_)
    · have q2 : ¬ zw = 1 := q2
      rw [if_neg q2]
      refine j_iload_n d_M_score_39 rfl 2 rfl ?_
      refine n_iconst d_M_score_40 2 (by decide) ?_
      refine j_icmp_ne d_M_score_41 53 rfl (fun q3 => ?_) (fun q3 => ?_)
      · have q3 : ¬ zw = 2 := q3
        rw [if_neg q3]
        refine j_iconst d_M_score_53 (v := -1) rfl ?_
        exact v_iret d_M_score_54 rfl (Nat.zero_le _) (Nat.zero_le _) rfl jA0_rfl
      · have q3 : zw = 2 := q3
        rw [if_pos q3]
        refine j_aload_n d_M_score_44 rfl 0 rfl ?_
        refine v_getR d_M_score_45 lf_M_35 rfl (Nat.le_of_ble_eq_true rfl) rfl ?_
        refine j_iload_n d_M_score_48 rfl 1 rfl ?_
        refine v_ild d_M_score_49 rfl rfl (Nat.le_of_ble_eq_true rfl) rfl (by omega) (by omega) ?_
        refine j_goto d_M_score_50 54 rfl ?_
        exact v_iret d_M_score_54 rfl (Nat.zero_le _) (Nat.zero_le _) rfl jA0_rfl
    · have q2 : zw = 1 := q2
      rw [if_pos q2]
      refine j_aload_n d_M_score_30 rfl 0 rfl ?_
      refine v_getR d_M_score_31 lf_M_32 rfl (Nat.le_of_ble_eq_true rfl) rfl ?_
      refine j_iload_n d_M_score_34 rfl 1 rfl ?_
      refine v_ild d_M_score_35 rfl rfl (Nat.le_of_ble_eq_true rfl) rfl (by omega) (by omega) ?_
      refine j_goto d_M_score_36 54 rfl ?_
      exact v_iret d_M_score_54 rfl (Nat.zero_le _) (Nat.zero_le _) rfl jA0_rfl
  · rw [if_pos q1]
    refine j_aload_n d_M_score_16 rfl 0 rfl ?_
    refine v_getR d_M_score_17 lf_M_29 rfl (Nat.le_of_ble_eq_true rfl) rfl ?_
    refine j_iload_n d_M_score_20 rfl 1 rfl ?_
    refine v_ild d_M_score_21 rfl rfl (Nat.le_of_ble_eq_true rfl) rfl (by omega) (by omega) ?_
    refine j_goto d_M_score_22 54 rfl ?_
    exact v_iret d_M_score_54 rfl (Nat.zero_le _) (Nat.zero_le _) rfl jA0_rfl
theorem f_M_score (g : jG) (V : Nat → Nat → Nat) (L : Nat → Nat → Int64) (hN : jN V) (z zw : Int32) (h : isn 4 z = 0) : jK g Y_M_score (1, 21) [.ref (jb g + 85), .int (z), .int (zw)] V L (jA0 (some (.int (if isn (V 85 4) (-1 - z) = 0 then -1 else if zw = 0 then nI (V 87 (-1 - z).toNatClampNeg) else if zw = nI 1 then nI (mrs V (-1 - z).toNatClampNeg) else -1))) (vu V 85 0 0) L) := by
  refine jK_entry (by decide +kernel) rfl (Nat.le_of_ble_eq_true rfl) ?_
  show jJ (g, Y_M_score, (1, 21), 0, 0, jVQ g (jA0 (some (.int (if isn (V 85 4) (-1 - z) = 0 then -1 else if zw = 0 then nI (V 87 (-1 - z).toNatClampNeg) else if zw = nI 1 then nI (mrs V (-1 - z).toNatClampNeg) else -1))) (vu V 85 0 0) L)) [(0, .ref (jb g + 85)), (1, .int (z)), (2, .int (zw))] (jv (g, Y_M_score, (1, 21), 0, 0, jVQ g (jA0 (some (.int (if isn (V 85 4) (-1 - z) = 0 then -1 else if zw = 0 then nI (V 87 (-1 - z).toNatClampNeg) else if zw = nI 1 then nI (mrs V (-1 - z).toNatClampNeg) else -1))) (vu V 85 0 0) L)) V L 0 0) 0 []
  have h3 := hN.F
  refine j_aload_n d_M_score_0 rfl 0 rfl ?_
  refine n_iconst d_M_score_1 0 (by decide) ?_
  refine v_putI d_M_score_2 lf_M_63 rfl (Nat.le_of_ble_eq_true rfl) rfl rfl rfl rfl ?_
  refine j_iload_n d_M_score_5 rfl 1 rfl ?_
  refine v_callS d_M_score_6 mt_M_isKeeper ln_M_115 sm_M_isKeeper ⟨Nat.le_of_ble_eq_true rfl, Nat.le_of_ble_eq_true rfl⟩ (Nat.le_of_ble_eq_true rfl) rfl (Nat.zero_le _) (Nat.zero_le _) (c_M_isKeeper g (vu V 85 0 0) L z) rfl ?_
  rintro _ _ _ ⟨rfl, rfl, rfl⟩
  rw [h]
  refine n_if_eq d_M_score_9 55 rfl (by omega) (fun h => ?_) (fun h => absurd h (by omega))
  refine j_iconst d_M_score_55 (v := -1) rfl ?_
  refine j_iload_n d_M_score_56 rfl 1 rfl ?_
  refine j_isub d_M_score_57 ?_
  refine j_istore_n d_M_score_58 (i := 3) rfl (Nat.le_of_ble_eq_true rfl) (lv' := [_, _, _, _]) rfl ?_
  refine j_aload_n d_M_score_59 rfl 1 rfl ?_
  refine j_iload_n d_M_score_60 rfl 0 rfl ?_
  refine v_callV d_M_score_61 mt_M_isFile ln_M_118 im_M_isFile se_M_isFile rfl (Nat.le_of_ble_eq_true rfl) rfl rfl ⟨Nat.le_of_ble_eq_true rfl, Nat.le_of_ble_eq_true rfl⟩ (Nat.le_of_ble_eq_true rfl) rfl (Nat.zero_le _) (Nat.zero_le _) (c_M_isFile g (vu V 85 0 0) L (-1 - z)) rfl ?_
  rintro _ _ _ ⟨rfl, rfl, rfl⟩
  rw [show isn (vu V 85 0 0 85 4) (-1 - z) = isn (V 85 4) (-1 - z) from rfl]
  refine n_if_eq d_M_score_64 76 rfl (Nat.lt_of_le_of_lt (isn_le _ _) (by decide)) (fun h1 => ?_) (fun h1 => ?_)
  · rw [if_pos h1]
    refine j_iconst d_M_score_76 (v := -1) rfl ?_
    refine j_goto d_M_score_77 122 rfl ?_
    exact v_iret d_M_score_122 rfl (Nat.zero_le _) (Nat.zero_le _) rfl jA0_rfl
  · rw [if_neg h1]
    revert h1
    generalize -1 - z = z3
    intro h1
    obtain ⟨f, hf0, rfl⟩ := isn_of (by omega) h1
    rw [nI_clamp (by omega)]
    refine j_iload_n d_M_score_67 rfl 3 rfl ?_
    refine j_if_lt d_M_score_68 76 rfl (fun q1 => ?_) (fun q1 => ?_)
    · rw [if_neg (fun e => absurd q1 (by rw [e]; decide)), if_neg (fun e => absurd q1 (by rw [e]; decide))]
      refine j_iconst d_M_score_76 (v := -1) rfl ?_
      refine j_goto d_M_score_77 122 rfl ?_
      exact v_iret d_M_score_122 rfl (Nat.zero_le _) (Nat.zero_le _) rfl jA0_rfl
    · refine j_iload_n d_M_score_71 rfl 3 rfl ?_
      refine n_iconst d_M_score_72 1 (by decide) ?_
      refine j_icmp_le d_M_score_73 80 rfl (fun q2 => ?_) (fun q2 => ?_)
      · refine j_iload_n d_M_score_80 rfl 3 rfl ?_
        refine j_if_ne d_M_score_81 105 rfl (fun q3 => ?_) (fun q3 => ?_)
        · have q4 : zw = nI 1 := by
            obtain ⟨i, hi, rfl⟩ := le_of (n := 1) (by decide) q1 (Int32.not_lt.mpr q2)
            rcases (show i = 0 ∨ i = 1 by omega) with rfl | rfl
            · exact absurd rfl q3
            · rfl
          rw [if_neg q3, if_pos q4]
          refine j_aload_n d_M_score_105 rfl 1 rfl ?_
          refine j_aload_n d_M_score_106 rfl 1 rfl ?_
          refine j_iload_n d_M_score_107 rfl 0 rfl ?_
          refine v_callV d_M_score_108 mt_M_isFile ln_M_118 im_M_isFile se_M_isFile rfl (Nat.le_of_ble_eq_true rfl) rfl rfl ⟨Nat.le_of_ble_eq_true rfl, Nat.le_of_ble_eq_true rfl⟩ (Nat.le_of_ble_eq_true rfl) rfl (Nat.zero_le _) (Nat.zero_le _) (c_M_isFile g (vu V 85 0 0) L (nI f)) rfl ?_
          rintro _ _ _ ⟨rfl, rfl, rfl⟩
          rw [show isn (vu V 85 0 0 85 4) (nI f) = 1 from isn_nI (n := V 85 4) (by omega) hf0]
          refine n_if_eq d_M_score_111 118 rfl (by omega) (fun h => absurd h (by omega)) (fun h => ?_)
          refine j_iload_n d_M_score_114 rfl 0 rfl ?_
          refine j_goto d_M_score_115 119 rfl ?_
          refine v_callV d_M_score_119 mt_M_rowsOf ln_M_99 im_M_rowsOf se_M_rowsOf rfl (Nat.le_of_ble_eq_true rfl) rfl rfl ⟨Nat.le_of_ble_eq_true rfl, Nat.le_of_ble_eq_true rfl⟩ (Nat.le_of_ble_eq_true rfl) rfl (Nat.zero_le _) (Nat.zero_le _) (c_M_rowsOf g (vu V 85 0 0) L f (by omega) (hN.w (by omega))) rfl ?_
          rintro _ _ _ ⟨rfl, rfl, rfl⟩
          exact v_iret d_M_score_122 rfl (Nat.zero_le _) (Nat.zero_le _) rfl jA0_rfl
        · rw [if_pos q3]
          refine j_aload_n d_M_score_84 rfl 1 rfl ?_
          refine v_getR d_M_score_85 lf_M_13 rfl (Nat.le_of_ble_eq_true rfl) rfl ?_
          refine j_aload_n d_M_score_88 rfl 1 rfl ?_
          refine j_iload_n d_M_score_89 rfl 0 rfl ?_
          refine v_callV d_M_score_90 mt_M_isFile ln_M_118 im_M_isFile se_M_isFile rfl (Nat.le_of_ble_eq_true rfl) rfl rfl ⟨Nat.le_of_ble_eq_true rfl, Nat.le_of_ble_eq_true rfl⟩ (Nat.le_of_ble_eq_true rfl) rfl (Nat.zero_le _) (Nat.zero_le _) (c_M_isFile g (vu V 85 0 0) L (nI f)) rfl ?_
          rintro _ _ _ ⟨rfl, rfl, rfl⟩
          rw [show isn (vu V 85 0 0 85 4) (nI f) = 1 from isn_nI (n := V 85 4) (by omega) hf0]
          refine n_if_eq d_M_score_93 100 rfl (by omega) (fun h => absurd h (by omega)) (fun h => ?_)
          refine j_iload_n d_M_score_96 rfl 0 rfl ?_
          refine j_goto d_M_score_97 101 rfl ?_
          refine v_ild d_M_score_101 rfl rfl (Nat.le_of_ble_eq_true rfl) rfl (by omega) (by omega) ?_
          refine j_goto d_M_score_102 122 rfl ?_
          exact v_iret d_M_score_122 rfl (Nat.zero_le _) (Nat.zero_le _) rfl jA0_rfl
      · rw [if_neg (fun e => q2 (by rw [e]; decide)), if_neg (fun e => q2 (by rw [e]; decide))]
        refine j_iconst d_M_score_76 (v := -1) rfl ?_
        refine j_goto d_M_score_77 122 rfl ?_
        exact v_iret d_M_score_122 rfl (Nat.zero_le _) (Nat.zero_le _) rfl jA0_rfl
def mlc (V : Nat → Nat → Nat) (L : Nat → Nat → Int64) (k f : Nat) : Nat → Nat → Nat → Nat
  | 0 => vu (vu V 85 0 0) 85 19 0
  | t + 1 => if mgd V L k f t = 0 then vu (vu (mlc V L k f t) 98 (mlc V L k f t 85 19) t) 85 19 (mlc V L k f t 85 19 + 1) else mlc V L k f t
theorem mlc_s (V : Nat → Nat → Nat) (L : Nat → Nat → Int64) (k f t : Nat) : mlc V L k f (t + 1) = if mgd V L k f t = 0 then vu (vu (mlc V L k f t) 98 (mlc V L k f t 85 19) t) 85 19 (mlc V L k f t 85 19 + 1) else mlc V L k f t := rfl
theorem mlc_nq {V : Nat → Nat → Nat} {L : Nat → Nat → Int64} {k f a : Nat} (h1 : a ≠ 85) (h2 : a ≠ 98) : ∀ t, mlc V L k f t a = V a
  | 0 => by
    show vu _ _ _ _ a = _
    rw [vu_nq _ _ _ h1, vu_nq _ _ _ h1]
  | t + 1 => by
    rw [mlc_s]
    split
    · rw [vu_nq _ _ _ h1, vu_nq _ _ _ h2, mlc_nq h1 h2 t]
    · exact mlc_nq h1 h2 t
theorem mlc_85 {V : Nat → Nat → Nat} {L : Nat → Nat → Int64} {k f i : Nat} (h : i ≠ 19) (h0 : i ≠ 0) : ∀ t, mlc V L k f t 85 i = V 85 i
  | 0 => by
    show vu (vu V 85 0 0) 85 19 0 85 i = _
    unfold vu
    rw [if_neg (fun z => h z.2), if_neg (fun z => h0 z.2)]
  | t + 1 => by
    rw [mlc_s]
    split
    · unfold vu
      rw [if_neg (fun z => h z.2), if_neg (by omega), mlc_85 h h0 t]
    · exact mlc_85 h h0 t
theorem mlc_19 {V : Nat → Nat → Nat} {L : Nat → Nat → Int64} {k f : Nat} : ∀ t, mlc V L k f t 85 19 ≤ t
  | 0 => by show vu _ _ _ _ 85 19 ≤ 0; rw [vu_eq]; exact Nat.le_refl _
  | t + 1 => by
    have := mlc_19 (V := V) (L := L) (k := k) (f := f) t
    rw [mlc_s]
    split
    · rw [vu_eq]
      omega
    · omega
theorem mlc_N {V : Nat → Nat → Nat} {L : Nat → Nat → Int64} {k f t : Nat} (hN : jN V) (ht : t ≤ 24) : jN (mlc V L k f t) := by
  have h19 := mlc_19 (V := V) (L := L) (k := k) (f := f) t
  unfold jN
  rw [mlc_85 (i := 4) (by decide) (by decide), mlc_85 (i := 13) (by decide) (by decide), mlc_85 (i := 14) (by decide) (by decide), mlc_85 (i := 15) (by decide) (by decide), mlc_85 (i := 21) (by decide) (by decide), mlc_nq (a := 87) (by decide) (by decide), mlc_nq (a := 88) (by decide) (by decide), mlc_nq (a := 89) (by decide) (by decide), mlc_nq (a := 90) (by decide) (by decide), mlc_nq (a := 91) (by decide) (by decide), mlc_nq (a := 95) (by decide) (by decide), mlc_nq (a := 96) (by decide) (by decide), mlc_nq (a := 97) (by decide) (by decide)]
  exact ⟨hN.F, fun f hf => hN.w hf, hN.md, hN.hs, hN.kp, hN.ls, ⟨hN.ak, hN.af, hN.aq, hN.rw, hN.co, hN.an⟩, Nat.le_trans h19 ht, hN.fe⟩
theorem mgd_eq {V W : Nat → Nat → Nat} {L M : Nat → Nat → Int64} (k f i : Nat) (h89 : W 89 = V 89) (h90 : W 90 = V 90) (h91 : W 91 = V 91) (hL : M 85 = L 85) : mgd W M k f i = mgd V L k f i := by
  unfold mgd
  rw [h89, h90, h91, hL]
theorem c_M_locate (g : jG) (V : Nat → Nat → Nat) (L : Nat → Nat → Int64) (hN : jN V) (k f : Nat) (hk : k < 4) (hf0 : f < V 85 4) (hh : V 89 (3 * k + f) = 1) : jK g Y_M_locate (3, 75) [.ref (jb g + 85), .int (nI f), .int (nI k)] V L (jA0 (some (.int (nI (mlc V L k f (mrs V f) 85 19)))) (mlc V L k f (mrs V f)) L) := by
  refine jK_entry (by decide +kernel) rfl (Nat.le_of_ble_eq_true rfl) ?_
  show jJ (g, Y_M_locate, (3, 75), 0, 0, jVQ g (jA0 (some (.int (nI (mlc V L k f (mrs V f) 85 19)))) (mlc V L k f (mrs V f)) L)) [(0, .ref (jb g + 85)), (1, .int (nI f)), (2, .int (nI k))] (jv (g, Y_M_locate, (3, 75), 0, 0, jVQ g (jA0 (some (.int (nI (mlc V L k f (mrs V f) 85 19)))) (mlc V L k f (mrs V f)) L)) V L 0 0) 0 []
  have h3 := hN.F
  have hw := hN.w (show f < 3 by omega)
  have hm : mrs V f ≤ 24 := by unfold mrs; omega
  generalize hφ : jA0 (some (.int (nI (mlc V L k f (mrs V f) 85 19)))) (mlc V L k f (mrs V f)) L = φ
  refine j_aload_n d_M_locate_0 rfl 0 rfl ?_
  refine j_aload_n d_M_locate_1 rfl 0 rfl ?_
  refine j_iload_n d_M_locate_2 rfl 2 rfl ?_
  refine j_iload_n d_M_locate_3 rfl 1 rfl ?_
  refine v_callV d_M_locate_4 mt_M_holds ln_M_132 im_M_holds se_M_holds rfl (Nat.le_of_ble_eq_true rfl) rfl rfl ⟨Nat.le_of_ble_eq_true rfl, Nat.le_of_ble_eq_true rfl⟩ (Nat.le_of_ble_eq_true rfl) rfl (Nat.zero_le _) (Nat.zero_le _) (c_M_holds g V L hN (nI k) (nI f)) rfl ?_
  rintro _ _ _ ⟨rfl, rfl, rfl⟩
  rw [mhl_nI h3 hk hf0, hh]
  refine n_if_eq d_M_locate_7 14 rfl (by omega) (fun h => absurd h (by omega)) (fun h => ?_)
  refine n_iconst d_M_locate_10 0 (by decide) ?_
  refine j_goto d_M_locate_11 15 rfl ?_
  refine v_putI d_M_locate_15 lf_M_63 rfl (Nat.le_of_ble_eq_true rfl) rfl rfl rfl rfl ?_
  refine j_aload_n d_M_locate_18 rfl 0 rfl ?_
  refine v_getI d_M_locate_19 lf_M_63 rfl (Nat.le_of_ble_eq_true rfl) rfl ?_
  rw [vu_eq]
  refine n_ift_le d_M_locate_22 27 rfl rfl (by decide) ?_
  refine j_aload_n d_M_locate_27 rfl 0 rfl ?_
  refine n_iconst d_M_locate_28 0 (by decide) ?_
  refine v_putI d_M_locate_29 lf_M_155 rfl (Nat.le_of_ble_eq_true rfl) rfl rfl rfl rfl ?_
  refine n_iconst d_M_locate_32 0 (by decide) ?_
  refine j_istore_n d_M_locate_33 (i := 3) rfl (Nat.le_of_ble_eq_true rfl) (lv' := [_, _, _, _]) rfl ?_
  refine j_lv [1, 2, 3, 0] rfl ?_
  have loop : ∀ (m t : Nat), t + m = mrs V f → jJ (g, Y_M_locate, (3, 75), 0, 0, jVQ g φ) [(0, .ref (jb g + 85)), (1, .int (nI f)), (2, .int (nI k)), (3, .int (nI t))] (jv (g, Y_M_locate, (3, 75), 0, 0, jVQ g φ) (mlc V L k f t) L 0 0) 34 [] := by
    intro m
    induction m with
    | zero =>
      intro t ht
      refine j_iload_n d_M_locate_34 rfl 3 rfl ?_
      refine j_aload_n d_M_locate_35 rfl 0 rfl ?_
      refine j_iload_n d_M_locate_36 rfl 1 rfl ?_
      refine v_callV d_M_locate_37 mt_M_rowsOf ln_M_99 im_M_rowsOf se_M_rowsOf rfl (Nat.le_of_ble_eq_true rfl) rfl rfl ⟨Nat.le_of_ble_eq_true rfl, Nat.le_of_ble_eq_true rfl⟩ (Nat.le_of_ble_eq_true rfl) rfl (Nat.zero_le _) (Nat.zero_le _) (c_M_rowsOf g (mlc V L k f t) L f (by omega) (by rw [mlc_nq (by decide) (by decide)]; exact hw)) rfl ?_
      rintro _ _ _ ⟨rfl, rfl, rfl⟩
      rw [show mrs (mlc V L k f t) f = mrs V f from by unfold mrs; rw [mlc_nq (by decide) (by decide)]]
      refine n_icmp_ge d_M_locate_40 79 rfl (by omega) (by omega) (fun h => ?_) (fun h => absurd h (by omega))
      rw [show mrs V f = t from by omega] at hφ
      subst hφ
      refine j_aload_n d_M_locate_79 rfl 0 rfl ?_
      refine v_getI d_M_locate_80 lf_M_155 rfl (Nat.le_of_ble_eq_true rfl) rfl ?_
      exact v_iret d_M_locate_83 rfl (Nat.zero_le _) (Nat.zero_le _) rfl jA0_rfl
    | succ m ih =>
      intro t ht
      have ih' := ih (t + 1) (by omega)
      have hW := mlc_N (L := L) (k := k) (f := f) (t := t) hN (by omega)
      have h8 := mlc_19 (V := V) (L := L) (k := k) (f := f) t
      rw [mlc_s] at ih'
      refine j_iload_n d_M_locate_34 rfl 3 rfl ?_
      refine j_aload_n d_M_locate_35 rfl 0 rfl ?_
      refine j_iload_n d_M_locate_36 rfl 1 rfl ?_
      refine v_callV d_M_locate_37 mt_M_rowsOf ln_M_99 im_M_rowsOf se_M_rowsOf rfl (Nat.le_of_ble_eq_true rfl) rfl rfl ⟨Nat.le_of_ble_eq_true rfl, Nat.le_of_ble_eq_true rfl⟩ (Nat.le_of_ble_eq_true rfl) rfl (Nat.zero_le _) (Nat.zero_le _) (c_M_rowsOf g (mlc V L k f t) L f (by omega) (by rw [mlc_nq (by decide) (by decide)]; exact hw)) rfl ?_
      rintro _ _ _ ⟨rfl, rfl, rfl⟩
      rw [show mrs (mlc V L k f t) f = mrs V f from by unfold mrs; rw [mlc_nq (by decide) (by decide)]]
      refine n_icmp_ge d_M_locate_40 79 rfl (by omega) (by omega) (fun h => absurd h (by omega)) (fun h => ?_)
      refine j_aload_n d_M_locate_43 rfl 0 rfl ?_
      refine j_iload_n d_M_locate_44 rfl 2 rfl ?_
      refine j_iload_n d_M_locate_45 rfl 1 rfl ?_
      refine j_iload_n d_M_locate_46 rfl 3 rfl ?_
      refine v_callV d_M_locate_47 mt_M_isGood ln_M_158 im_M_isGood se_M_isGood rfl (Nat.le_of_ble_eq_true rfl) rfl rfl ⟨Nat.le_of_ble_eq_true rfl, Nat.le_of_ble_eq_true rfl⟩ (Nat.le_of_ble_eq_true rfl) rfl (Nat.zero_le _) (Nat.zero_le _) (c_M_isGood g (mlc V L k f t) L hW k f t hk (by rw [mlc_85 (by decide) (by decide)]; exact hf0) (by omega)) rfl ?_
      rintro _ _ _ ⟨rfl, rfl, rfl⟩
      rw [mgd_eq (V := V) (L := L) k f t (mlc_nq (by decide) (by decide) t) (mlc_nq (by decide) (by decide) t) (mlc_nq (by decide) (by decide) t) rfl]
      refine n_if_ne d_M_locate_50 73 rfl (Nat.lt_of_le_of_lt (mgd_le _ _ _ _ _) (by decide)) (fun h1 => ?_) (fun h1 => ?_)
      · rw [if_neg h1] at ih'
        refine n_iinc d_M_locate_73 1 (by decide) 3 rfl (Nat.le_of_ble_eq_true rfl) (lv' := [_, _, _, _]) rfl ?_
        refine j_goto d_M_locate_76 34 rfl ?_
        refine j_lv [1, 2, 3, 0] rfl ?_
        exact ih'
      · rw [if_pos h1] at ih'
        refine j_aload_n d_M_locate_53 rfl 0 rfl ?_
        refine v_getR d_M_locate_54 lf_M_47 rfl (Nat.le_of_ble_eq_true rfl) rfl ?_
        refine j_aload_n d_M_locate_57 rfl 0 rfl ?_
        refine v_getI d_M_locate_58 lf_M_155 rfl (Nat.le_of_ble_eq_true rfl) rfl ?_
        refine j_iload_n d_M_locate_61 rfl 3 rfl ?_
        refine v_ist d_M_locate_62 rfl rfl (Nat.le_of_ble_eq_true rfl) rfl (by omega) (by omega) ?_
        refine j_aload_n d_M_locate_63 rfl 0 rfl ?_
        refine j_dup d_M_locate_64 rfl ?_
        refine v_getI d_M_locate_65 lf_M_155 rfl (Nat.le_of_ble_eq_true rfl) rfl ?_
        refine n_iconst d_M_locate_68 1 (by decide) ?_
        refine n_add d_M_locate_69 ?_
        refine v_putI d_M_locate_70 lf_M_155 rfl (Nat.le_of_ble_eq_true rfl) rfl rfl rfl rfl ?_
        refine n_iinc d_M_locate_73 1 (by decide) 3 rfl (Nat.le_of_ble_eq_true rfl) (lv' := [_, _, _, _]) rfl ?_
        refine j_goto d_M_locate_76 34 rfl ?_
        refine j_lv [1, 2, 3, 0] rfl ?_
        exact ih'
  exact loop (mrs V f) 0 (by omega)
theorem n_M_locate (g : jG) (V : Nat → Nat → Nat) (L : Nat → Nat → Int64) (hN : jN V) (zf zk : Int32) (h : mhl V zk zf = 0) : jK g Y_M_locate (3, 75) [.ref (jb g + 85), .int (zf), .int (zk)] V L (jA0 (some (.int (nI 0))) (vu V 85 0 1) L) := by
  refine jK_entry (by decide +kernel) rfl (Nat.le_of_ble_eq_true rfl) ?_
  show jJ (g, Y_M_locate, (3, 75), 0, 0, jVQ g (jA0 (some (.int (nI 0))) (vu V 85 0 1) L)) [(0, .ref (jb g + 85)), (1, .int (zf)), (2, .int (zk))] (jv (g, Y_M_locate, (3, 75), 0, 0, jVQ g (jA0 (some (.int (nI 0))) (vu V 85 0 1) L)) V L 0 0) 0 []
  refine j_aload_n d_M_locate_0 rfl 0 rfl ?_
  refine j_aload_n d_M_locate_1 rfl 0 rfl ?_
  refine j_iload_n d_M_locate_2 rfl 2 rfl ?_
  refine j_iload_n d_M_locate_3 rfl 1 rfl ?_
  refine v_callV d_M_locate_4 mt_M_holds ln_M_132 im_M_holds se_M_holds rfl (Nat.le_of_ble_eq_true rfl) rfl rfl ⟨Nat.le_of_ble_eq_true rfl, Nat.le_of_ble_eq_true rfl⟩ (Nat.le_of_ble_eq_true rfl) rfl (Nat.zero_le _) (Nat.zero_le _) (c_M_holds g V L hN zk zf) rfl ?_
  rintro _ _ _ ⟨rfl, rfl, rfl⟩
  rw [h]
  refine n_if_eq d_M_locate_7 14 rfl (by omega) (fun h => ?_) (fun h => absurd h (by omega))
  refine n_iconst d_M_locate_14 1 (by decide) ?_
  refine v_putI d_M_locate_15 lf_M_63 rfl (Nat.le_of_ble_eq_true rfl) rfl rfl rfl rfl ?_
  refine j_aload_n d_M_locate_18 rfl 0 rfl ?_
  refine v_getI d_M_locate_19 lf_M_63 rfl (Nat.le_of_ble_eq_true rfl) rfl ?_
  rw [vu_eq]
  refine n_iff_le d_M_locate_22 27 rfl (by decide) (by decide) ?_
  refine n_iconst d_M_locate_25 0 (by decide) ?_
  exact v_iret d_M_locate_26 rfl (Nat.zero_le _) (Nat.zero_le _) rfl jA0_rfl
