/-! the law from its entry to its loop -/
theorem jP_eq {g : jG} {N : Nat} {mu mu' : Nat → jE} {H : Heap} (h : ∀ a, a < N → mu a = mu' a) (hP : jP g N mu H) : jP g N mu' H := by
  have e : jpool g N mu = jpool g N mu' := List.map_congr_left fun q hq => by rw [h q (List.mem_range.mp hq)]
  unfold jP at hP ⊢
  rw [← e]
  exact hP
/-- from the exact memory to the flat one -/
theorem j_flat {f : jF} {lv : List (Nat × Value)} {mu : Nat → jE} {k n pc : Nat} {st : List Value} (h : ∀ a, a < 104 → mu a = jM f.1 a) (kk : jJ f lv (jv f (fun _ _ => 0) (fun _ _ => 0) k n) pc st) : jJ f lv (104, mu, true, k, n) pc st := by
  intro p e s m args below meth c C ls H locs hl hP hz hS
  exact kk p e s m args below meth c C ls H locs hl (jP_eq h hP) (fun h => by cases h) hS
theorem law_init (g : jG) (kC kS : Nat) (φ : jΦ) (hk : 104 ≤ kC) (hn : 5453 ≤ kS) (mu : Nat → jE) (kk : jJ (g, Y_W_law, (10, 388), kC, kS, jVQ g φ) [(0, .ref (jaS g)), (1, .ref (jb g + 0)), (2, .ref (jb g + 85)), (3, .ref (jb g + 103)), (4, .int (nI 0))] (jv (g, Y_W_law, (10, 388), kC, kS, jVQ g φ) (fun _ _ => 0) (fun _ _ => 0) 104 5453) 23 []) : jJ (g, Y_W_law, (10, 388), kC, kS, jVQ g φ) [(0, .ref (jaS g))] (0, mu, true, 0, 0) 0 [] := by
  refine j_new (ci := 0) (fs := [.long 0, .long 0, .null, .null, .int 0, .null, .null, .null, .int 0, .null, .int 0, .null, .null]) d_W_law_0 rfl lc_W_8 it_D iz_D (by intro j hj; rcases (show j = 0 ∨ j = 1 ∨ j = 2 ∨ j = 3 ∨ j = 4 ∨ j = 5 ∨ j = 6 ∨ j = 7 ∨ j = 8 ∨ j = 9 ∨ j = 10 ∨ j = 11 ∨ j = 12 by omega) with rfl | rfl | rfl | rfl | rfl | rfl | rfl | rfl | rfl | rfl | rfl | rfl | rfl <;> rfl) (show 0 + 1 ≤ kC by omega) (show 0 + 13 ≤ kS by omega) ?_
  refine j_dup d_W_law_3 rfl ?_
  refine j_callI (y' := Y_D_init) (d' := (4, 81)) (kC' := 84) (kS' := 2637) (na := 0) (as := []) (rest := [.ref (jb g + 0)]) (Q' := jCq g 0 85 (va_up mu 0 (.inr (0, [.long 0, .long 0, .null, .null, .int 0, .null, .null, .null, .int 0, .null, .int 0, .null, .null])))) d_W_law_4 mt_D_init rfl rfl ln_W_60 im_D_init ⟨Nat.le_of_ble_eq_true rfl, Nat.le_of_ble_eq_true rfl⟩ (show 0 + 1 + 84 ≤ kC by omega) (show 0 + 13 + 2637 ≤ kS by omega) (Nat.le_of_ble_eq_true rfl) rfl (k_D_init g _ (va_up_self _ _ _)) (fun r N' mu' x' h => ⟨_, h.1⟩) rfl ?_
  rintro v N' mu1 x' ⟨e1, rfl, rfl, -, e3⟩
  cases e1
  refine j_astore_n d_W_law_7 (i := 1) rfl (Nat.le_of_ble_eq_true rfl) (lv' := [_, _]) rfl ?_
  refine j_new (ci := 6) (fs := [.int 0, .long 0, .long 0, .null, .int 0, .null, .null, .null, .null, .null, .null, .null, .null, .int 0, .int 0, .int 0, .null, .null, .null, .int 0, .null, .int 0, .null, .null, .null, .null]) d_W_law_8 rfl lc_W_61 it_M iz_M (by intro j hj; rcases (show j = 0 ∨ j = 1 ∨ j = 2 ∨ j = 3 ∨ j = 4 ∨ j = 5 ∨ j = 6 ∨ j = 7 ∨ j = 8 ∨ j = 9 ∨ j = 10 ∨ j = 11 ∨ j = 12 ∨ j = 13 ∨ j = 14 ∨ j = 15 ∨ j = 16 ∨ j = 17 ∨ j = 18 ∨ j = 19 ∨ j = 20 ∨ j = 21 ∨ j = 22 ∨ j = 23 ∨ j = 24 ∨ j = 25 by omega) with rfl | rfl | rfl | rfl | rfl | rfl | rfl | rfl | rfl | rfl | rfl | rfl | rfl | rfl | rfl | rfl | rfl | rfl | rfl | rfl | rfl | rfl | rfl | rfl | rfl | rfl <;> rfl) (show 85 + 1 ≤ kC by omega) (show 2650 + 26 ≤ kS by omega) ?_
  refine j_dup d_W_law_11 rfl ?_
  refine j_callI (y' := Y_M_init) (d' := (1, 20)) (kC' := 17) (kS' := 2776) (na := 0) (as := []) (rest := [.ref (jb g + 85)]) (Q' := jCq g 85 18 (va_up mu1 85 (.inr (6, [.int 0, .long 0, .long 0, .null, .int 0, .null, .null, .null, .null, .null, .null, .null, .null, .int 0, .int 0, .int 0, .null, .null, .null, .int 0, .null, .int 0, .null, .null, .null, .null])))) d_W_law_12 mt_M_init rfl rfl ln_W_63 im_M_init ⟨Nat.le_of_ble_eq_true rfl, Nat.le_of_ble_eq_true rfl⟩ (show 85 + 1 + 17 ≤ kC by omega) (show 2650 + 26 + 2776 ≤ kS by omega) (Nat.le_of_ble_eq_true rfl) rfl (k_M_init g _ (va_up_self _ _ _)) (fun r N' mu' x' h => ⟨_, h.1⟩) rfl ?_
  rintro v N' mu2 x' ⟨e1, rfl, rfl, f2, f3⟩
  cases e1
  refine j_astore_n d_W_law_15 (i := 2) rfl (Nat.le_of_ble_eq_true rfl) (lv' := [_, _, _]) rfl ?_
  refine n_iconst d_W_law_16 1 (by decide) ?_
  refine j_newa (t := 2) (a0 := (1, .inr (.inl (fun _ => 0)))) d_W_law_17 rfl ac_long rfl (fun cA => vp_cell_l _ _ _) (by decide) (by decide) (by decide) (show 103 + 1 ≤ kC by omega) (show 5452 + 1 ≤ kS by omega) ?_
  refine j_astore_n d_W_law_19 (i := 3) rfl (Nat.le_of_ble_eq_true rfl) (lv' := [_, _, _, _]) rfl ?_
  refine n_iconst d_W_law_20 0 (by decide) ?_
  refine j_istore d_W_law_21 (i := 4) (Nat.le_of_ble_eq_true rfl) (lv' := [_, _, _, _, _]) rfl ?_
  refine j_lv [4, 3, 2, 1, 0] rfl ?_
  refine j_flat (fun a ha => ?_) kk
  by_cases h1 : a = 103
  · subst h1
    exact va_up_self _ _ _
  · refine (va_up_ne _ _ h1).trans ?_
    by_cases h2 : a < 85
    · exact (f2 a h2).trans ((va_up_ne _ _ (by omega)).trans (e3 a (by omega) (by omega)))
    · exact f3 a (by omega) (by omega)
