/-! the law's loop -/
theorem sub6 {a i : Nat} (h : ¬ 6 ≤ a) (hi : i ≤ a) : nI a - nI 6 < nI i := by
  rcases (show a = 0 ∨ a = 1 ∨ a = 2 ∨ a = 3 ∨ a = 4 ∨ a = 5 by omega) with rfl | rfl | rfl | rfl | rfl | rfl
  all_goals
    rcases (show i = 0 ∨ i = 1 ∨ i = 2 ∨ i = 3 ∨ i = 4 ∨ i = 5 by omega) with rfl | rfl | rfl | rfl | rfl | rfl
    all_goals decide
def cpc (c : Nat) : Nat := [132, 244, 281, 337, 412, 499, 603, 695, 732, 769, 820, 888, 913, 981, 1037, 1062, 1142, 1234, 1259].getD c 1296
/-- from one case of the law on to its next round, whatever the end: the invariant kept -/
def jGo (g : jG) (Inv : (Nat → Nat → Nat) → (Nat → Nat → Int64) → Prop) (V : Nat → Nat → Nat) (L : Nat → Nat → Int64) (i pc : Nat) : Prop :=
  ∀ (kC kS : Nat) (Q : jQ) (k n : Nat), k + 1 ≤ kC → n + 6 ≤ kS → (∀ (V' : Nat → Nat → Nat) (L' : Nat → Nat → Int64) (k' n' : Nat), Inv V' L' → k' ≤ k + 1 → n' ≤ n + 6 → jJ (g, Y_W_law, (10, 388), kC, kS, Q) [(0, .ref (jaS g)), (1, .ref (jb g + 0)), (2, .ref (jb g + 85)), (3, .ref (jb g + 103)), (4, .int (nI i))] (jv (g, Y_W_law, (10, 388), kC, kS, Q) V' L' k' n') 1296 []) → jJ (g, Y_W_law, (10, 388), kC, kS, Q) [(0, .ref (jaS g)), (1, .ref (jb g + 0)), (2, .ref (jb g + 85)), (3, .ref (jb g + 103)), (4, .int (nI i))] (jv (g, Y_W_law, (10, 388), kC, kS, Q) V L k n) pc []
theorem law_loop (g : jG) (Inv : (Nat → Nat → Nat) → (Nat → Nat → Int64) → Prop) (kC kS : Nat) (φ : jΦ) (hb : jaN g < 2 ^ 31 - 6) (hφ : ∀ V L, φ (some (.int (nI 1))) V L)
    (hstep : ∀ V L i, Inv V L → i + 6 ≤ jaN g → ∀ c, c < 19 → jGo g Inv V L i (cpc c)) :
    ∀ (m i k n : Nat) (V : Nat → Nat → Nat) (L : Nat → Nat → Int64), jaN g < i + 6 * m + 6 → i ≤ jaN g → k + m ≤ kC → n + 6 * m ≤ kS → Inv V L → jJ (g, Y_W_law, (10, 388), kC, kS, jVQ g φ) [(0, .ref (jaS g)), (1, .ref (jb g + 0)), (2, .ref (jb g + 85)), (3, .ref (jb g + 103)), (4, .int (nI i))] (jv (g, Y_W_law, (10, 388), kC, kS, jVQ g φ) V L k n) 23 [] := by
  intro m
  induction m with
  | zero =>
    intro i k n V L hm hi hk hn hV
    refine j_iload d_W_law_23 4 rfl ?_
    refine j_aload_n d_W_law_25 rfl 0 rfl ?_
    refine j_slen d_W_law_26 ?_
    show jJ (g, Y_W_law, (10, 388), kC, kS, jVQ g φ) _ _ _ (.int (nI (jaN g)) :: _)
    refine n_bipush d_W_law_27 6 (by decide) ?_
    by_cases h6 : 6 ≤ jaN g
    · refine n_sub d_W_law_29 h6 ?_
      refine n_icmp_gt d_W_law_30 1302 rfl (by omega) (by omega) (fun h => ?_) (fun h => absurd h (by omega))
      refine n_iconst d_W_law_1302 1 (by decide) ?_
      exact v_zret d_W_law_1303 rfl (by decide) (show k ≤ kC by omega) (show n ≤ kS by omega) rfl (hφ _ _)
    · refine j_isub d_W_law_29 ?_
      refine j_icmp_gt d_W_law_30 1302 rfl (fun _ => ?_) (fun h => absurd (sub6 (by omega) (by omega)) h)
      refine n_iconst d_W_law_1302 1 (by decide) ?_
      exact v_zret d_W_law_1303 rfl (by decide) (show k ≤ kC by omega) (show n ≤ kS by omega) rfl (hφ _ _)
  | succ m ih =>
    intro i k n V L hm hi hk hn hV
    by_cases hr : i + 6 ≤ jaN g
    · refine j_iload d_W_law_23 4 rfl ?_
      refine j_aload_n d_W_law_25 rfl 0 rfl ?_
      refine j_slen d_W_law_26 ?_
      show jJ (g, Y_W_law, (10, 388), kC, kS, jVQ g φ) _ _ _ (.int (nI (jaN g)) :: _)
      refine n_bipush d_W_law_27 6 (by decide) ?_
      refine n_sub d_W_law_29 (by omega) ?_
      refine n_icmp_gt d_W_law_30 1302 rfl (by omega) (by omega) (fun h => absurd h (by omega)) (fun h => ?_)
      refine j_aload_n d_W_law_33 rfl 0 rfl ?_
      refine j_iload d_W_law_34 4 rfl ?_
      refine n_sld d_W_law_36 (show i < jaN g by omega) (show jaN g < 2 ^ 31 by omega) ?_
      refine n_bipush d_W_law_37 31 (by decide) ?_
      refine j_iand d_W_law_39 ?_
      obtain ⟨j, hj, hx⟩ := pk_andE (jxs g i) (m := nI 31) 5 (by decide)
      show jJ (g, Y_W_law, (10, 388), kC, kS, jVQ g φ) _ _ _ (.int (jxs g i &&& nI 31) :: _)
      rw [hx]
      have nxt : ∀ (V' : Nat → Nat → Nat) (L' : Nat → Nat → Int64) (k' n' : Nat), Inv V' L' → k' ≤ k + 1 → n' ≤ n + 6 → jJ (g, Y_W_law, (10, 388), kC, kS, jVQ g φ) [(0, .ref (jaS g)), (1, .ref (jb g + 0)), (2, .ref (jb g + 85)), (3, .ref (jb g + 103)), (4, .int (nI i))] (jv (g, Y_W_law, (10, 388), kC, kS, jVQ g φ) V' L' k' n') 1296 [] := by
        intro V' L' k' n' hV' hk' hn'
        refine n_iinc d_W_law_1296 6 (by decide) 4 rfl (Nat.le_of_ble_eq_true rfl) (lv' := [_, _, _, _, _]) rfl ?_
        refine j_goto d_W_law_1299 23 rfl ?_
        refine j_lv [1, 2, 3, 4, 0] rfl ?_
        exact ih (i + 6) k' n' V' L' (by omega) (by omega) (by omega) (by omega) hV'
      have go : ∀ c, c < 19 → _ := fun c hc => hstep V L i hV hr c hc kC kS (jVQ g φ) k n (by omega) (by omega) nxt
      rcases (show j = 0 ∨ j = 1 ∨ j = 2 ∨ j = 3 ∨ j = 4 ∨ j = 5 ∨ j = 6 ∨ j = 7 ∨ j = 8 ∨ j = 9 ∨ j = 10 ∨ j = 11 ∨ j = 12 ∨ j = 13 ∨ j = 14 ∨ j = 15 ∨ j = 16 ∨ j = 17 ∨ j = 18 ∨ j = 19 ∨ j = 20 ∨ j = 21 ∨ j = 22 ∨ j = 23 ∨ j = 24 ∨ j = 25 ∨ j = 26 ∨ j = 27 ∨ j = 28 ∨ j = 29 ∨ j = 30 ∨ j = 31 by omega) with rfl | rfl | rfl | rfl | rfl | rfl | rfl | rfl | rfl | rfl | rfl | rfl | rfl | rfl | rfl | rfl | rfl | rfl | rfl | rfl | rfl | rfl | rfl | rfl | rfl | rfl | rfl | rfl | rfl | rfl | rfl | rfl
      · exact j_tableIn d_W_law_40 (by decide) (by decide) (off := 92) rfl 132 rfl (go 0 (by decide))
      · exact j_tableIn d_W_law_40 (by decide) (by decide) (off := 204) rfl 244 rfl (go 1 (by decide))
      · exact j_tableIn d_W_law_40 (by decide) (by decide) (off := 241) rfl 281 rfl (go 2 (by decide))
      · exact j_tableIn d_W_law_40 (by decide) (by decide) (off := 297) rfl 337 rfl (go 3 (by decide))
      · exact j_tableIn d_W_law_40 (by decide) (by decide) (off := 372) rfl 412 rfl (go 4 (by decide))
      · exact j_tableIn d_W_law_40 (by decide) (by decide) (off := 459) rfl 499 rfl (go 5 (by decide))
      · exact j_tableIn d_W_law_40 (by decide) (by decide) (off := 563) rfl 603 rfl (go 6 (by decide))
      · exact j_tableIn d_W_law_40 (by decide) (by decide) (off := 655) rfl 695 rfl (go 7 (by decide))
      · exact j_tableIn d_W_law_40 (by decide) (by decide) (off := 692) rfl 732 rfl (go 8 (by decide))
      · exact j_tableIn d_W_law_40 (by decide) (by decide) (off := 729) rfl 769 rfl (go 9 (by decide))
      · exact j_tableIn d_W_law_40 (by decide) (by decide) (off := 780) rfl 820 rfl (go 10 (by decide))
      · exact j_tableIn d_W_law_40 (by decide) (by decide) (off := 848) rfl 888 rfl (go 11 (by decide))
      · exact j_tableIn d_W_law_40 (by decide) (by decide) (off := 873) rfl 913 rfl (go 12 (by decide))
      · exact j_tableIn d_W_law_40 (by decide) (by decide) (off := 941) rfl 981 rfl (go 13 (by decide))
      · exact j_tableIn d_W_law_40 (by decide) (by decide) (off := 997) rfl 1037 rfl (go 14 (by decide))
      · exact j_tableIn d_W_law_40 (by decide) (by decide) (off := 1022) rfl 1062 rfl (go 15 (by decide))
      · exact j_tableIn d_W_law_40 (by decide) (by decide) (off := 1102) rfl 1142 rfl (go 16 (by decide))
      · exact j_tableIn d_W_law_40 (by decide) (by decide) (off := 1194) rfl 1234 rfl (go 17 (by decide))
      · exact j_tableIn d_W_law_40 (by decide) (by decide) (off := 1219) rfl 1259 rfl (go 18 (by decide))
      · exact j_tableOut d_W_law_40 (Or.inr (by decide)) 1296 rfl (nxt V L k n hV (by omega) (by omega))
      · exact j_tableOut d_W_law_40 (Or.inr (by decide)) 1296 rfl (nxt V L k n hV (by omega) (by omega))
      · exact j_tableOut d_W_law_40 (Or.inr (by decide)) 1296 rfl (nxt V L k n hV (by omega) (by omega))
      · exact j_tableOut d_W_law_40 (Or.inr (by decide)) 1296 rfl (nxt V L k n hV (by omega) (by omega))
      · exact j_tableOut d_W_law_40 (Or.inr (by decide)) 1296 rfl (nxt V L k n hV (by omega) (by omega))
      · exact j_tableOut d_W_law_40 (Or.inr (by decide)) 1296 rfl (nxt V L k n hV (by omega) (by omega))
      · exact j_tableOut d_W_law_40 (Or.inr (by decide)) 1296 rfl (nxt V L k n hV (by omega) (by omega))
      · exact j_tableOut d_W_law_40 (Or.inr (by decide)) 1296 rfl (nxt V L k n hV (by omega) (by omega))
      · exact j_tableOut d_W_law_40 (Or.inr (by decide)) 1296 rfl (nxt V L k n hV (by omega) (by omega))
      · exact j_tableOut d_W_law_40 (Or.inr (by decide)) 1296 rfl (nxt V L k n hV (by omega) (by omega))
      · exact j_tableOut d_W_law_40 (Or.inr (by decide)) 1296 rfl (nxt V L k n hV (by omega) (by omega))
      · exact j_tableOut d_W_law_40 (Or.inr (by decide)) 1296 rfl (nxt V L k n hV (by omega) (by omega))
      · exact j_tableOut d_W_law_40 (Or.inr (by decide)) 1296 rfl (nxt V L k n hV (by omega) (by omega))
    · refine j_iload d_W_law_23 4 rfl ?_
      refine j_aload_n d_W_law_25 rfl 0 rfl ?_
      refine j_slen d_W_law_26 ?_
      show jJ (g, Y_W_law, (10, 388), kC, kS, jVQ g φ) _ _ _ (.int (nI (jaN g)) :: _)
      refine n_bipush d_W_law_27 6 (by decide) ?_
      by_cases h6 : 6 ≤ jaN g
      · refine n_sub d_W_law_29 h6 ?_
        refine n_icmp_gt d_W_law_30 1302 rfl (by omega) (by omega) (fun h => ?_) (fun h => absurd h (by omega))
        refine n_iconst d_W_law_1302 1 (by decide) ?_
        exact v_zret d_W_law_1303 rfl (by decide) (show k ≤ kC by omega) (show n ≤ kS by omega) rfl (hφ _ _)
      · refine j_isub d_W_law_29 ?_
        refine j_icmp_gt d_W_law_30 1302 rfl (fun _ => ?_) (fun h => absurd (sub6 (by omega) (by omega)) h)
        refine n_iconst d_W_law_1302 1 (by decide) ?_
        exact v_zret d_W_law_1303 rfl (by decide) (show k ≤ kC by omega) (show n ≤ kS by omega) rfl (hφ _ _)
