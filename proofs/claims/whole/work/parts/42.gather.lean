/-! AuditDesk: gathering -/
theorem ni_m1 {a : Nat} (h : a < 2 ^ 31) : ¬ nI a = -1 := fun e => by
  have h1 := nI_pos h
  rw [e] at h1
  exact h1 (by decide)
/-- the least keeper from k on who has a good row, 4 if none -/
def lgk (V : Nat → Nat → Nat) (f row : Nat) : Nat := if igd V 0 f row = 0 then (if igd V 1 f row = 0 then (if igd V 2 f row = 0 then (if igd V 3 f row = 0 then 4 else 3) else 2) else 1) else 0
def lgi (n : Nat) : Int32 := if n = 4 then -1 else nI n
theorem c_D_leastGoodKeeper (g : jG) (V : Nat → Nat → Nat) (L : Nat → Nat → Int64) (hI : jI V) (f : Nat) (hf : f < 3) (row : Nat) (hrow : row < 24) : jK g Y_D_leastGoodKeeper (3, 70) [.ref (jb g + 0), .int (nI f), .int (nI row)] V L (jA0 (some (.int (lgi (lgk V f row)))) V L) := by
  refine jK_entry (by decide +kernel) rfl (Nat.le_of_ble_eq_true rfl) ?_
  show jJ (g, Y_D_leastGoodKeeper, (3, 70), 0, 0, jVQ g (jA0 (some (.int (lgi (lgk V f row)))) V L)) [(0, .ref (jb g + 0)), (1, .int (nI f)), (2, .int (nI row))] (jv (g, Y_D_leastGoodKeeper, (3, 70), 0, 0, jVQ g (jA0 (some (.int (lgi (lgk V f row)))) V L)) V L 0 0) 0 []
  refine n_iconst d_D_leastGoodKeeper_0 0 (by decide) ?_
  refine j_istore_n d_D_leastGoodKeeper_1 (i := 3) rfl (Nat.le_of_ble_eq_true rfl) (lv' := [_, _, _, _]) rfl ?_
  refine j_iload_n d_D_leastGoodKeeper_2 rfl 0 rfl ?_
  refine n_iconst d_D_leastGoodKeeper_3 4 (by decide) ?_
  refine n_icmp_ge d_D_leastGoodKeeper_4 25 rfl (by omega) (by omega) (fun h => absurd h (by omega)) (fun h => ?_)
  refine j_aload_n d_D_leastGoodKeeper_7 rfl 1 rfl ?_
  refine j_iload_n d_D_leastGoodKeeper_8 rfl 0 rfl ?_
  refine j_iload_n d_D_leastGoodKeeper_9 rfl 2 rfl ?_
  refine j_iload_n d_D_leastGoodKeeper_10 rfl 3 rfl ?_
  refine v_callV d_D_leastGoodKeeper_11 mt_D_isGood ln_D_207 im_D_isGood se_D_isGood rfl (Nat.le_of_ble_eq_true rfl) rfl rfl ⟨Nat.le_of_ble_eq_true rfl, Nat.le_of_ble_eq_true rfl⟩ (Nat.le_of_ble_eq_true rfl) rfl (Nat.zero_le _) (Nat.zero_le _) (c_D_isGood g V L hI 0 (by omega) f hf row hrow) rfl ?_
  rintro _ _ _ ⟨rfl, rfl, rfl⟩
  refine n_if_eq d_D_leastGoodKeeper_14 19 rfl (Nat.lt_of_le_of_lt (igd_le _ _ _ _) (by decide)) (fun h0 => ?_) (fun h0 => ?_)
  · refine n_iinc d_D_leastGoodKeeper_19 1 (by decide) 0 rfl (Nat.le_of_ble_eq_true rfl) (lv' := [(3, .int (nI 1)), _, _, _]) rfl ?_
    refine j_goto d_D_leastGoodKeeper_22 2 rfl ?_
    refine j_iload_n d_D_leastGoodKeeper_2 rfl 0 rfl ?_
    refine n_iconst d_D_leastGoodKeeper_3 4 (by decide) ?_
    refine n_icmp_ge d_D_leastGoodKeeper_4 25 rfl (by omega) (by omega) (fun h => absurd h (by omega)) (fun h => ?_)
    refine j_aload_n d_D_leastGoodKeeper_7 rfl 1 rfl ?_
    refine j_iload_n d_D_leastGoodKeeper_8 rfl 0 rfl ?_
    refine j_iload_n d_D_leastGoodKeeper_9 rfl 2 rfl ?_
    refine j_iload_n d_D_leastGoodKeeper_10 rfl 3 rfl ?_
    refine v_callV d_D_leastGoodKeeper_11 mt_D_isGood ln_D_207 im_D_isGood se_D_isGood rfl (Nat.le_of_ble_eq_true rfl) rfl rfl ⟨Nat.le_of_ble_eq_true rfl, Nat.le_of_ble_eq_true rfl⟩ (Nat.le_of_ble_eq_true rfl) rfl (Nat.zero_le _) (Nat.zero_le _) (c_D_isGood g V L hI 1 (by omega) f hf row hrow) rfl ?_
    rintro _ _ _ ⟨rfl, rfl, rfl⟩
    refine n_if_eq d_D_leastGoodKeeper_14 19 rfl (Nat.lt_of_le_of_lt (igd_le _ _ _ _) (by decide)) (fun h1 => ?_) (fun h1 => ?_)
    · refine n_iinc d_D_leastGoodKeeper_19 1 (by decide) 0 rfl (Nat.le_of_ble_eq_true rfl) (lv' := [(3, .int (nI 2)), _, _, _]) rfl ?_
      refine j_goto d_D_leastGoodKeeper_22 2 rfl ?_
      refine j_iload_n d_D_leastGoodKeeper_2 rfl 0 rfl ?_
      refine n_iconst d_D_leastGoodKeeper_3 4 (by decide) ?_
      refine n_icmp_ge d_D_leastGoodKeeper_4 25 rfl (by omega) (by omega) (fun h => absurd h (by omega)) (fun h => ?_)
      refine j_aload_n d_D_leastGoodKeeper_7 rfl 1 rfl ?_
      refine j_iload_n d_D_leastGoodKeeper_8 rfl 0 rfl ?_
      refine j_iload_n d_D_leastGoodKeeper_9 rfl 2 rfl ?_
      refine j_iload_n d_D_leastGoodKeeper_10 rfl 3 rfl ?_
      refine v_callV d_D_leastGoodKeeper_11 mt_D_isGood ln_D_207 im_D_isGood se_D_isGood rfl (Nat.le_of_ble_eq_true rfl) rfl rfl ⟨Nat.le_of_ble_eq_true rfl, Nat.le_of_ble_eq_true rfl⟩ (Nat.le_of_ble_eq_true rfl) rfl (Nat.zero_le _) (Nat.zero_le _) (c_D_isGood g V L hI 2 (by omega) f hf row hrow) rfl ?_
      rintro _ _ _ ⟨rfl, rfl, rfl⟩
      refine n_if_eq d_D_leastGoodKeeper_14 19 rfl (Nat.lt_of_le_of_lt (igd_le _ _ _ _) (by decide)) (fun h2 => ?_) (fun h2 => ?_)
      · refine n_iinc d_D_leastGoodKeeper_19 1 (by decide) 0 rfl (Nat.le_of_ble_eq_true rfl) (lv' := [(3, .int (nI 3)), _, _, _]) rfl ?_
        refine j_goto d_D_leastGoodKeeper_22 2 rfl ?_
        refine j_iload_n d_D_leastGoodKeeper_2 rfl 0 rfl ?_
        refine n_iconst d_D_leastGoodKeeper_3 4 (by decide) ?_
        refine n_icmp_ge d_D_leastGoodKeeper_4 25 rfl (by omega) (by omega) (fun h => absurd h (by omega)) (fun h => ?_)
        refine j_aload_n d_D_leastGoodKeeper_7 rfl 1 rfl ?_
        refine j_iload_n d_D_leastGoodKeeper_8 rfl 0 rfl ?_
        refine j_iload_n d_D_leastGoodKeeper_9 rfl 2 rfl ?_
        refine j_iload_n d_D_leastGoodKeeper_10 rfl 3 rfl ?_
        refine v_callV d_D_leastGoodKeeper_11 mt_D_isGood ln_D_207 im_D_isGood se_D_isGood rfl (Nat.le_of_ble_eq_true rfl) rfl rfl ⟨Nat.le_of_ble_eq_true rfl, Nat.le_of_ble_eq_true rfl⟩ (Nat.le_of_ble_eq_true rfl) rfl (Nat.zero_le _) (Nat.zero_le _) (c_D_isGood g V L hI 3 (by omega) f hf row hrow) rfl ?_
        rintro _ _ _ ⟨rfl, rfl, rfl⟩
        refine n_if_eq d_D_leastGoodKeeper_14 19 rfl (Nat.lt_of_le_of_lt (igd_le _ _ _ _) (by decide)) (fun h3 => ?_) (fun h3 => ?_)
        · refine n_iinc d_D_leastGoodKeeper_19 1 (by decide) 0 rfl (Nat.le_of_ble_eq_true rfl) (lv' := [(3, .int (nI 4)), _, _, _]) rfl ?_
          refine j_goto d_D_leastGoodKeeper_22 2 rfl ?_
          refine j_iload_n d_D_leastGoodKeeper_2 rfl 0 rfl ?_
          refine n_iconst d_D_leastGoodKeeper_3 4 (by decide) ?_
          refine n_icmp_ge d_D_leastGoodKeeper_4 25 rfl (by omega) (by omega) (fun h => ?_) (fun h => absurd h (by omega))
          rw [show lgk V f row = 4 from by unfold lgk; rw [if_pos h0, if_pos h1, if_pos h2, if_pos h3], show lgi 4 = -1 from rfl]
          refine j_iconst d_D_leastGoodKeeper_25 (v := -1) rfl ?_
          exact v_iret d_D_leastGoodKeeper_26 rfl (Nat.zero_le _) (Nat.zero_le _) rfl jA0_rfl
        · rw [show lgk V f row = 3 from by unfold lgk; rw [if_pos h0, if_pos h1, if_pos h2, if_neg h3], show lgi 3 = nI 3 from rfl]
          refine j_iload_n d_D_leastGoodKeeper_17 rfl 0 rfl ?_
          exact v_iret d_D_leastGoodKeeper_18 rfl (Nat.zero_le _) (Nat.zero_le _) rfl jA0_rfl
      · rw [show lgk V f row = 2 from by unfold lgk; rw [if_pos h0, if_pos h1, if_neg h2], show lgi 2 = nI 2 from rfl]
        refine j_iload_n d_D_leastGoodKeeper_17 rfl 0 rfl ?_
        exact v_iret d_D_leastGoodKeeper_18 rfl (Nat.zero_le _) (Nat.zero_le _) rfl jA0_rfl
    · rw [show lgk V f row = 1 from by unfold lgk; rw [if_pos h0, if_neg h1], show lgi 1 = nI 1 from rfl]
      refine j_iload_n d_D_leastGoodKeeper_17 rfl 0 rfl ?_
      exact v_iret d_D_leastGoodKeeper_18 rfl (Nat.zero_le _) (Nat.zero_le _) rfl jA0_rfl
  · rw [show lgk V f row = 0 from by unfold lgk; rw [if_neg h0], show lgi 0 = nI 0 from rfl]
    refine j_iload_n d_D_leastGoodKeeper_17 rfl 0 rfl ?_
    exact v_iret d_D_leastGoodKeeper_18 rfl (Nat.zero_le _) (Nat.zero_le _) rfl jA0_rfl
/-- the first t rows of a group looked at: the cells, and how many were taken -/
def ggr (V : Nat → Nat → Nat) (f first : Nat) : Nat → (Nat → Nat → Nat) × Nat
  | 0 => (V, 0)
  | t + 1 => if (ggr V f first t).2 < 4 ∧ lgk (ggr V f first t).1 f (first + t) < 4 then (tak (vu (ggr V f first t).1 84 t 1) 82 (22 + 14 * lgk (ggr V f first t).1 f (first + t) + 4 * f) (first + t), (ggr V f first t).2 + 1) else (vu (ggr V f first t).1 84 t 0, (ggr V f first t).2)
theorem lgk_le (V : Nat → Nat → Nat) (f row : Nat) : lgk V f row ≤ 4 := by
  unfold lgk
  repeat' split
  all_goals omega
/-- only the room for gathering differs -/
def jG2 (V W : Nat → Nat → Nat) : Prop := (∀ a, a ≠ 83 → a ≠ 84 → W a = V a) ∧ (∀ i, i < 120 → W 83 i < 2147483647) ∧ ∀ i, i < 6 → W 84 i ≤ 1
theorem jG2.I {V W : Nat → Nat → Nat} (hI : jI V) (h : jG2 V W) : jI W := by
  obtain ⟨h1, h2, h3⟩ := h
  obtain ⟨i1, i2, i3, i4, i5, i6, i7, i8, i9⟩ := hI
  refine ⟨?_, ?_, ?_, ?_, fun f hf => ?_, fun k hk f hf => ?_, ?_, h2, h3⟩
  · rw [h1 0 (by decide) (by decide)]; exact i1
  · rw [h1 0 (by decide) (by decide)]; exact i2
  · rw [h1 0 (by decide) (by decide)]; exact i3
  · rw [h1 1 (by decide) (by decide)]; exact i4
  · rw [h1 (3 + 5 * f) (by omega) (by omega), h1 (4 + 5 * f) (by omega) (by omega), h1 (5 + 5 * f) (by omega) (by omega), h1 (6 + 5 * f + 1) (by omega) (by omega)]
    exact i5 f hf
  · rw [h1 (21 + 14 * k + 4 * f) (by omega) (by omega), h1 (24 + 14 * k + 4 * f) (by omega) (by omega), h1 (22 + 14 * k + 4 * f + 1) (by omega) (by omega)]
    exact i6 k hk f hf
  · rw [h1 75 (by decide) (by decide), h1 76 (by decide) (by decide), h1 77 (by decide) (by decide), h1 78 (by decide) (by decide), h1 79 (by decide) (by decide)]
    exact i7
theorem ggr_G {V : Nat → Nat → Nat} {f first : Nat} (hI : jI V) (hf : f < 3) (h1 : first + 6 ≤ 24) : ∀ t, t ≤ 6 → jG2 V (ggr V f first t).1 ∧ (ggr V f first t).2 ≤ t
  | 0, _ => ⟨⟨fun _ _ _ => rfl, hI.ga, hI.pr⟩, Nat.le_refl _⟩
  | t + 1, ht => by
    obtain ⟨⟨g1, g2, g3⟩, g4⟩ := ggr_G hI hf h1 t (by omega)
    have hW := jG2.I hI ⟨g1, g2, g3⟩
    unfold ggr
    split
    · next h =>
      refine ⟨⟨fun a h83 h84 => ?_, fun i hi => ?_, fun i hi => ?_⟩, by show _ + 1 ≤ _; omega⟩
      · funext i
        show tak _ _ _ _ a i = _
        unfold tak
        rw [if_neg (fun z => h83 z.1), vu_nq _ _ _ h84, g1 a h83 h84]
      · show tak _ _ _ _ 83 i < _
        unfold tak
        split
        · rw [vu_nq _ _ _ (by omega)]
          exact hW.kp h.2 hf i hi
        · rw [vu_nq _ _ _ (by decide)]
          exact g2 i hi
      · show tak (vu (ggr V f first t).1 84 t 1) 82 (22 + 14 * lgk (ggr V f first t).1 f (first + t) + 4 * f) (first + t) 84 i ≤ 1
        unfold tak
        rw [if_neg (by omega)]
        unfold vu
        split
        · omega
        · exact g3 i hi
    · refine ⟨⟨fun a h83 h84 => ?_, fun i hi => ?_, fun i hi => ?_⟩, by show _ ≤ _; omega⟩
      · show vu _ _ _ _ a = _
        rw [vu_nq _ _ _ h84, g1 a h83 h84]
      · show vu (ggr V f first t).1 84 t 0 83 i < _
        rw [vu_nq _ _ _ (by decide)]
        exact g2 i hi
      · show vu (ggr V f first t).1 84 t 0 84 i ≤ 1
        unfold vu
        split
        · omega
        · exact g3 i hi
def gg4 (n : Nat) : Nat := if n = 4 then 1 else 0
theorem c_D_gatherGroup (g : jG) (V : Nat → Nat → Nat) (L : Nat → Nat → Int64) (hI : jI V) (f : Nat) (hf : f < 3) (first : Nat) (h24 : first + 6 ≤ 24) : jK g Y_D_gatherGroup (4, 93) [.ref (jb g + 0), .int (nI f), .int (nI first)] V L (jA0 (some (.int (nI (gg4 (ggr V f first 6).2)))) (ggr V f first 6).1 L) := by
  refine jK_entry (by decide +kernel) rfl (Nat.le_of_ble_eq_true rfl) ?_
  show jJ (g, Y_D_gatherGroup, (4, 93), 0, 0, jVQ g (jA0 (some (.int (nI (gg4 (ggr V f first 6).2)))) (ggr V f first 6).1 L)) [(0, .ref (jb g + 0)), (1, .int (nI f)), (2, .int (nI first))] (jv (g, Y_D_gatherGroup, (4, 93), 0, 0, jVQ g (jA0 (some (.int (nI (gg4 (ggr V f first 6).2)))) (ggr V f first 6).1 L)) V L 0 0) 0 []
  generalize hφ : jA0 (some (.int (nI (gg4 (ggr V f first 6).2)))) (ggr V f first 6).1 L = φ
  have loop : ∀ (m t : Nat), t + m = 6 → jJ (g, Y_D_gatherGroup, (4, 93), 0, 0, jVQ g φ) [(0, .ref (jb g + 0)), (1, .int (nI f)), (2, .int (nI first)), (3, .int (nI (ggr V f first t).2)), (4, .int (nI t))] (jv (g, Y_D_gatherGroup, (4, 93), 0, 0, jVQ g φ) (ggr V f first t).1 L 0 0) 5 [] := by
    intro m
    induction m with
    | zero =>
      intro t ht
      obtain rfl : t = 6 := by omega
      have hg := ggr_G hI hf h24 6 (by omega)
      refine j_iload d_D_gatherGroup_5 4 rfl ?_
      refine n_bipush d_D_gatherGroup_7 6 (by decide) ?_
      refine n_icmp_ge d_D_gatherGroup_9 95 rfl (by omega) (by omega) (fun h => ?_) (fun h => absurd h (by omega))
      refine j_iload_n d_D_gatherGroup_95 rfl 3 rfl ?_
      refine n_iconst d_D_gatherGroup_96 4 (by decide) ?_
      refine n_icmp_ne d_D_gatherGroup_97 104 rfl (by omega) (by omega) (fun a1 => ?_) (fun a1 => ?_)
      · subst hφ
        rw [show gg4 (ggr V f first 6).2 = 0 from if_neg a1]
        refine n_iconst d_D_gatherGroup_104 0 (by decide) ?_
        exact v_zret d_D_gatherGroup_105 rfl (by omega) (Nat.zero_le _) (Nat.zero_le _) rfl jA0_rfl
      · subst hφ
        rw [show gg4 (ggr V f first 6).2 = 1 from if_pos a1]
        refine n_iconst d_D_gatherGroup_100 1 (by decide) ?_
        refine j_goto d_D_gatherGroup_101 105 rfl ?_
        exact v_zret d_D_gatherGroup_105 rfl (by omega) (Nat.zero_le _) (Nat.zero_le _) rfl jA0_rfl
    | succ m ih =>
      intro t ht
      obtain ⟨hG, hc⟩ := ggr_G hI hf h24 t (by omega)
      have hW := jG2.I hI hG
      have ih' := ih (t + 1) (by omega)
      have hle := lgk_le (ggr V f first t).1 f (first + t)
      have no : ¬ ((ggr V f first t).2 < 4 ∧ lgk (ggr V f first t).1 f (first + t) < 4) → jJ (g, Y_D_gatherGroup, (4, 93), 0, 0, jVQ g φ) [(0, .ref (jb g + 0)), (1, .int (nI f)), (2, .int (nI first)), (3, .int (nI (ggr V f first t).2)), (4, .int (nI t)), (5, .int (-1))] (jv (g, Y_D_gatherGroup, (4, 93), 0, 0, jVQ g φ) (ggr V f first t).1 L 0 0) 32 [] := by
        intro hn
        unfold ggr at ih'
        rw [if_neg hn] at ih'
        refine j_aload_n d_D_gatherGroup_32 rfl 0 rfl ?_
        refine v_getR d_D_gatherGroup_33 lf_D_47 rfl (Nat.le_of_ble_eq_true rfl) rfl ?_
        refine j_iload d_D_gatherGroup_36 4 rfl ?_
        refine j_iload d_D_gatherGroup_38 5 rfl ?_
        refine j_iconst d_D_gatherGroup_40 (v := -1) rfl ?_
        refine j_icmp_eq d_D_gatherGroup_41 48 rfl (fun _ => ?_) (fun h => absurd rfl h)
        refine n_iconst d_D_gatherGroup_48 0 (by decide) ?_
        refine v_zst d_D_gatherGroup_49 rfl rfl (Nat.le_of_ble_eq_true rfl) rfl (by omega) (by omega) (by omega) ?_
        refine j_aload_n d_D_gatherGroup_50 rfl 0 rfl ?_
        refine v_getR d_D_gatherGroup_51 lf_D_47 rfl (Nat.le_of_ble_eq_true rfl) rfl ?_
        refine j_iload d_D_gatherGroup_54 4 rfl ?_
        refine v_zld d_D_gatherGroup_56 rfl rfl (Nat.le_of_ble_eq_true rfl) rfl (by omega) (by omega) ?_
        rw [show vu (ggr V f first t).1 84 t 0 84 t = 0 from vu_eq _ _ _ _]
        refine n_if_eq d_D_gatherGroup_57 89 rfl (by omega) (fun h => ?_) (fun h => absurd h (by omega))
        refine n_iinc d_D_gatherGroup_89 1 (by decide) 4 rfl (Nat.le_of_ble_eq_true rfl) (lv' := [_, _, _, _, _, _]) rfl ?_
        refine j_goto d_D_gatherGroup_92 5 rfl ?_
        refine j_lv [1, 2, 3, 4, 0] rfl ?_
        exact ih'
      refine j_iload d_D_gatherGroup_5 4 rfl ?_
      refine n_bipush d_D_gatherGroup_7 6 (by decide) ?_
      refine n_icmp_ge d_D_gatherGroup_9 95 rfl (by omega) (by omega) (fun h => absurd h (by omega)) (fun h => ?_)
      refine j_iload_n d_D_gatherGroup_12 rfl 3 rfl ?_
      refine n_iconst d_D_gatherGroup_13 4 (by decide) ?_
      refine n_icmp_ge d_D_gatherGroup_14 29 rfl (by omega) (by omega) (fun a1 => ?_) (fun a1 => ?_)
      · refine j_iconst d_D_gatherGroup_29 (v := -1) rfl ?_
        refine j_istore d_D_gatherGroup_30 (i := 5) (Nat.le_of_ble_eq_true rfl) (lv' := [_, _, _, _, _, _]) rfl ?_
        refine j_lv [1, 2, 3, 4, 5, 0] rfl ?_
        exact no (fun z => absurd z.1 (by omega))
      · refine j_aload_n d_D_gatherGroup_17 rfl 0 rfl ?_
        refine j_iload_n d_D_gatherGroup_18 rfl 1 rfl ?_
        refine j_iload_n d_D_gatherGroup_19 rfl 2 rfl ?_
        refine j_iload d_D_gatherGroup_20 4 rfl ?_
        refine n_add d_D_gatherGroup_22 ?_
        refine v_callV d_D_gatherGroup_23 mt_D_leastGoodKeeper ln_D_254 im_D_leastGoodKeeper se_D_leastGoodKeeper rfl (Nat.le_of_ble_eq_true rfl) rfl rfl ⟨Nat.le_of_ble_eq_true rfl, Nat.le_of_ble_eq_true rfl⟩ (Nat.le_of_ble_eq_true rfl) rfl (Nat.zero_le _) (Nat.zero_le _) (c_D_leastGoodKeeper g (ggr V f first t).1 L hW f hf (first + t) (by omega)) rfl ?_
        rintro _ _ _ ⟨rfl, rfl, rfl⟩
        refine j_goto d_D_gatherGroup_26 30 rfl ?_
        refine j_istore d_D_gatherGroup_30 (i := 5) (Nat.le_of_ble_eq_true rfl) (lv' := [_, _, _, _, _, _]) rfl ?_
        refine j_lv [1, 2, 3, 4, 5, 0] rfl ?_
        by_cases a2 : lgk (ggr V f first t).1 f (first + t) = 4
        · rw [a2]
          exact no (fun z => absurd z.2 (by omega))
        have a3 : lgk (ggr V f first t).1 f (first + t) < 4 := by omega
        unfold ggr at ih'
        rw [if_pos ⟨a1, a3⟩] at ih'
        rw [show lgi (lgk (ggr V f first t).1 f (first + t)) = nI (lgk (ggr V f first t).1 f (first + t)) from if_neg a2]
        generalize hkk : lgk (ggr V f first t).1 f (first + t) = k at *
        refine j_aload_n d_D_gatherGroup_32 rfl 0 rfl ?_
        refine v_getR d_D_gatherGroup_33 lf_D_47 rfl (Nat.le_of_ble_eq_true rfl) rfl ?_
        refine j_iload d_D_gatherGroup_36 4 rfl ?_
        refine j_iload d_D_gatherGroup_38 5 rfl ?_
        refine j_iconst d_D_gatherGroup_40 (v := -1) rfl ?_
        refine j_icmp_eq d_D_gatherGroup_41 48 rfl (fun h => absurd h (ni_m1 (by omega))) (fun _ => ?_)
        refine n_iconst d_D_gatherGroup_44 1 (by decide) ?_
        refine j_goto d_D_gatherGroup_45 49 rfl ?_
        refine v_zst d_D_gatherGroup_49 rfl rfl (Nat.le_of_ble_eq_true rfl) rfl (by omega) (by omega) (by omega) ?_
        refine j_aload_n d_D_gatherGroup_50 rfl 0 rfl ?_
        refine v_getR d_D_gatherGroup_51 lf_D_47 rfl (Nat.le_of_ble_eq_true rfl) rfl ?_
        refine j_iload d_D_gatherGroup_54 4 rfl ?_
        refine v_zld d_D_gatherGroup_56 rfl rfl (Nat.le_of_ble_eq_true rfl) rfl (by omega) (by omega) ?_
        rw [show vu (ggr V f first t).1 84 t 1 84 t = 1 from vu_eq _ _ _ _]
        refine n_if_eq d_D_gatherGroup_57 89 rfl (by omega) (fun h => absurd h (by omega)) (fun h => ?_)
        refine j_aload_n d_D_gatherGroup_60 rfl 0 rfl ?_
        refine v_getR d_D_gatherGroup_61 lf_D_43 rfl (Nat.le_of_ble_eq_true rfl) rfl ?_
        refine j_aload_n d_D_gatherGroup_64 rfl 0 rfl ?_
        refine v_getR d_D_gatherGroup_65 lf_D_22 rfl (Nat.le_of_ble_eq_true rfl) rfl ?_
        refine j_iload d_D_gatherGroup_68 5 rfl ?_
        refine v_ald d_D_gatherGroup_70 rfl rfl (Nat.le_of_ble_eq_true rfl) rfl (kref k a3) (Nat.le_of_ble_eq_true rfl) ?_
        refine v_getR d_D_gatherGroup_71 lf_D_101 (jshp_K k a3).1 (by omega) rfl ?_
        refine j_iload_n d_D_gatherGroup_74 rfl 1 rfl ?_
        refine v_ald d_D_gatherGroup_75 (jshp_K k a3).2 rfl (by omega) rfl (cref k f hf) (Nat.le_of_ble_eq_true rfl) ?_
        refine v_getR d_D_gatherGroup_76 lf_D_141 (jshp_Y k a3 f hf).1 (by omega) rfl ?_
        refine j_iload_n d_D_gatherGroup_79 rfl 2 rfl ?_
        refine j_iload d_D_gatherGroup_80 4 rfl ?_
        refine n_add d_D_gatherGroup_82 ?_
        refine v_callV d_D_gatherGroup_83 mt_R_takeRow ln_D_257 im_R_takeRow se_R_takeRow rfl (Nat.le_of_ble_eq_true rfl) rfl rfl ⟨Nat.le_of_ble_eq_true rfl, Nat.le_of_ble_eq_true rfl⟩ (Nat.le_of_ble_eq_true rfl) rfl (Nat.zero_le _) (Nat.zero_le _) (c_R_takeRow g (vu (ggr V f first t).1 84 t 1) L 82 rfl rfl (by decide) (22 + 14 * k + 4 * f) (jshp_YR k a3 f hf).1 (jshp_YR k a3 f hf).2 (by omega) (first + t) (by omega)) rfl ?_
        rintro _ _ _ ⟨rfl, rfl, rfl⟩
        refine n_iinc d_D_gatherGroup_86 1 (by decide) 3 rfl (Nat.le_of_ble_eq_true rfl) (lv' := [_, _, _, _, _, _]) rfl ?_
        refine n_iinc d_D_gatherGroup_89 1 (by decide) 4 rfl (Nat.le_of_ble_eq_true rfl) (lv' := [_, _, _, _, _, _]) rfl ?_
        refine j_goto d_D_gatherGroup_92 5 rfl ?_
        refine j_lv [2, 3, 4, 1, 0] rfl ?_
        exact ih'
  refine n_iconst d_D_gatherGroup_0 0 (by decide) ?_
  refine j_istore_n d_D_gatherGroup_1 (i := 3) rfl (Nat.le_of_ble_eq_true rfl) (lv' := [_, _, _, _]) rfl ?_
  refine n_iconst d_D_gatherGroup_2 0 (by decide) ?_
  refine j_istore d_D_gatherGroup_3 (i := 4) (Nat.le_of_ble_eq_true rfl) (lv' := [_, _, _, _, _]) rfl ?_
  refine j_lv [2, 3, 4, 1, 0] rfl ?_
  exact loop 6 0 (by omega)
