/-! AuditDesk: what its private methods answer -/
def isf (V : Nat → Nat → Nat) (z : Int32) : Nat := if ¬ z < 0 ∧ ¬ nI (V 0 4) ≤ z then 1 else 0
def isn (n : Nat) (z : Int32) : Nat := if ¬ z < 0 ∧ ¬ nI n ≤ z then 1 else 0
theorem isn_le (n : Nat) (z : Int32) : isn n z ≤ 1 := by
  unfold isn
  split <;> omega
theorem isf_le (V : Nat → Nat → Nat) (z : Int32) : isf V z ≤ 1 := isn_le _ _
theorem isn_of {n : Nat} {z : Int32} (hn : n < 2 ^ 31) (h : ¬ isn n z = 0) : ∃ i, i < n ∧ z = nI i := by
  unfold isn at h
  split at h
  next h2 =>
    rcases pk_ix z hn with h3 | h3 | h3
    · exact absurd h3 h2.1
    · exact absurd h3 h2.2
    · exact h3
  next => exact absurd rfl h
theorem isn_nI {n i : Nat} (hn : n < 2 ^ 31) (h : i < n) : isn n (nI i) = 1 := if_pos ⟨nI_pos (by omega), nI_ge h hn⟩
theorem isn_no {n i : Nat} (hi : i < 2 ^ 31) (h : n ≤ i) : isn n (nI i) = 0 := if_neg (fun z => z.2 (nI_le h hi))
theorem isf_of {V : Nat → Nat → Nat} {z : Int32} (hn : V 0 4 ≤ 3) (h : ¬ isf V z = 0) : ∃ i, i < V 0 4 ∧ z = nI i := isn_of (by omega) h
theorem dref : ∀ f, f < 3 → ([3, 8, 13] : List Nat)[f]? = some (3 + 5 * f) := by decide
theorem kref : ∀ k, k < 4 → ([19, 33, 47, 61] : List Nat)[k]? = some (19 + 14 * k) := by decide
theorem cref (k : Nat) : ∀ f, f < 3 → ([21 + 14 * k, 25 + 14 * k, 29 + 14 * k] : List Nat)[f]? = some (21 + 14 * k + 4 * f) := by
  intro f hf
  match f, hf with
  | 0, _ => rfl
  | 1, _ =>
    show some (25 + 14 * k) = some (21 + 14 * k + 4 * 1)
    congr 1
    omega
  | 2, _ =>
    show some (29 + 14 * k) = some (21 + 14 * k + 4 * 2)
    congr 1
    omega
/-- what holds between the calls, of the class's cells -/
def jI (V : Nat → Nat → Nat) : Prop := V 0 4 ≤ 3 ∧ V 0 8 ≤ 24 ∧ V 0 10 ≤ 64 ∧ (∀ i, i < 64 → V 1 i < 2147483647) ∧
  (∀ f, f < 3 → V (3 + 5 * f) 0 ≤ 64 ∧ V (3 + 5 * f) 1 = 6 * ((V (3 + 5 * f) 0 + 15) / 16) ∧ (∀ i, i < 4 → V (4 + 5 * f) i < 2147483647) ∧ (∀ i, i < 24 → V (5 + 5 * f) i < 2147483647) ∧ ∀ i, i < 120 → V (6 + 5 * f + 1) i < 2147483647) ∧
  (∀ k, k < 4 → ∀ f, f < 3 → V (21 + 14 * k + 4 * f) 0 ≤ 1 ∧ (∀ i, i < 24 → V (24 + 14 * k + 4 * f) i ≤ 1) ∧ ∀ i, i < 120 → V (22 + 14 * k + 4 * f + 1) i < 2147483647) ∧
  (V 75 0 ≤ 1 ∧ V 75 1 < 3 ∧ V 75 2 < 4 ∧ V 75 3 ≤ 24 ∧ (∀ i, i < V 75 3 → V 76 i < 24) ∧ (∀ i, i < V 75 3 → V 77 i < 2147483647) ∧ (∀ i, i < 5 → V 78 i < 2147483647) ∧ ∀ i, i < 24 → V 79 i ≤ 1) ∧
  (∀ i, i < 120 → V 83 i < 2147483647) ∧ ∀ i, i < 6 → V 84 i ≤ 1
section JI
variable {V : Nat → Nat → Nat} (h : jI V)
theorem jI.F (h : jI V) : V 0 4 ≤ 3 := h.1
theorem jI.bc (h : jI V) : V 0 8 ≤ 24 := h.2.1
theorem jI.fc (h : jI V) : V 0 10 ≤ 64 := h.2.2.1
theorem jI.bf (h : jI V) : ∀ i, i < 64 → V 1 i < 2147483647 := h.2.2.2.1
theorem jI.w (h : jI V) {f : Nat} (hf : f < 3) : V (3 + 5 * f) 0 ≤ 64 := (h.2.2.2.2.1 f hf).1
theorem jI.rc (h : jI V) {f : Nat} (hf : f < 3) : V (3 + 5 * f) 1 = 6 * ((V (3 + 5 * f) 0 + 15) / 16) := (h.2.2.2.2.1 f hf).2.1
theorem jI.al (h : jI V) {f : Nat} (hf : f < 3) : ∀ i, i < 4 → V (4 + 5 * f) i < 2147483647 := (h.2.2.2.2.1 f hf).2.2.1
theorem jI.ms (h : jI V) {f : Nat} (hf : f < 3) : ∀ i, i < 24 → V (5 + 5 * f) i < 2147483647 := (h.2.2.2.2.1 f hf).2.2.2.1
theorem jI.md (h : jI V) {f : Nat} (hf : f < 3) : ∀ i, i < 120 → V (6 + 5 * f + 1) i < 2147483647 := (h.2.2.2.2.1 f hf).2.2.2.2
theorem jI.hd (h : jI V) {k f : Nat} (hk : k < 4) (hf : f < 3) : V (21 + 14 * k + 4 * f) 0 ≤ 1 := (h.2.2.2.2.2.1 k hk f hf).1
theorem jI.ls (h : jI V) {k f : Nat} (hk : k < 4) (hf : f < 3) : ∀ i, i < 24 → V (24 + 14 * k + 4 * f) i ≤ 1 := (h.2.2.2.2.2.1 k hk f hf).2.1
theorem jI.kp (h : jI V) {k f : Nat} (hk : k < 4) (hf : f < 3) : ∀ i, i < 120 → V (22 + 14 * k + 4 * f + 1) i < 2147483647 := (h.2.2.2.2.2.1 k hk f hf).2.2
theorem jI.ps (h : jI V) : V 75 0 ≤ 1 := h.2.2.2.2.2.2.1.1
theorem jI.cf (h : jI V) : V 75 1 < 3 := h.2.2.2.2.2.2.1.2.1
theorem jI.ck (h : jI V) : V 75 2 < 4 := h.2.2.2.2.2.2.1.2.2.1
theorem jI.cm (h : jI V) : V 75 3 ≤ 24 := h.2.2.2.2.2.2.1.2.2.2.1
theorem jI.cr (h : jI V) : ∀ i, i < V 75 3 → V 76 i < 24 := h.2.2.2.2.2.2.1.2.2.2.2.1
theorem jI.cc (h : jI V) : ∀ i, i < V 75 3 → V 77 i < 2147483647 := h.2.2.2.2.2.2.1.2.2.2.2.2.1
theorem jI.ca (h : jI V) : ∀ i, i < 5 → V 78 i < 2147483647 := h.2.2.2.2.2.2.1.2.2.2.2.2.2.1
theorem jI.cd (h : jI V) : ∀ i, i < 24 → V 79 i ≤ 1 := h.2.2.2.2.2.2.1.2.2.2.2.2.2.2
theorem jI.ga (h : jI V) : ∀ i, i < 120 → V 83 i < 2147483647 := h.2.2.2.2.2.2.2.1
theorem jI.pr (h : jI V) : ∀ i, i < 6 → V 84 i ≤ 1 := h.2.2.2.2.2.2.2.2
end JI
theorem c_D_isFile (g : jG) (V : Nat → Nat → Nat) (L : Nat → Nat → Int64) (z : Int32) : jK g Y_D_isFile (0, 0) [.ref (jb g + 0), .int z] V L (jA0 (some (.int (nI (isf V z)))) V L) := by
  refine jK_entry (by decide +kernel) rfl (Nat.le_of_ble_eq_true rfl) ?_
  show jJ (g, Y_D_isFile, (0, 0), 0, 0, jVQ g (jA0 (some (.int (nI (isf V z)))) V L)) [(0, .ref (jb g + 0)), (1, .int z)] (jv (g, Y_D_isFile, (0, 0), 0, 0, jVQ g (jA0 (some (.int (nI (isf V z)))) V L)) V L 0 0) 0 []
  refine j_iload_n d_D_isFile_0 rfl 1 rfl ?_
  refine j_if_lt d_D_isFile_1 16 rfl (fun h => ?_) (fun h => ?_)
  · rw [show isf V z = 0 from if_neg (fun q => q.1 h)]
    refine n_iconst d_D_isFile_16 0 (by decide) ?_
    exact v_zret d_D_isFile_17 rfl (by omega) (Nat.zero_le _) (Nat.zero_le _) rfl jA0_rfl
  · refine j_iload_n d_D_isFile_4 rfl 1 rfl ?_
    refine j_aload_n d_D_isFile_5 rfl 0 rfl ?_
    refine v_getI d_D_isFile_6 lf_D_51 rfl (Nat.le_of_ble_eq_true rfl) rfl ?_
    refine j_icmp_ge d_D_isFile_9 16 rfl (fun h2 => ?_) (fun h2 => ?_)
    · rw [show isf V z = 0 from if_neg (fun q => q.2 h2)]
      refine n_iconst d_D_isFile_16 0 (by decide) ?_
      exact v_zret d_D_isFile_17 rfl (by omega) (Nat.zero_le _) (Nat.zero_le _) rfl jA0_rfl
    · rw [show isf V z = 1 from if_pos ⟨h, h2⟩]
      refine n_iconst d_D_isFile_12 1 (by decide) ?_
      refine j_goto d_D_isFile_13 17 rfl ?_
      exact v_zret d_D_isFile_17 rfl (by omega) (Nat.zero_le _) (Nat.zero_le _) rfl jA0_rfl
theorem c_D_isKeeper (g : jG) (V : Nat → Nat → Nat) (L : Nat → Nat → Int64) (z : Int32) : jK g Y_D_isKeeper (0, 0) [.int z] V L (jA0 (some (.int (nI (isn 4 z)))) V L) := by
  refine jK_entry (by decide +kernel) rfl (Nat.le_of_ble_eq_true rfl) ?_
  show jJ (g, Y_D_isKeeper, (0, 0), 0, 0, jVQ g (jA0 (some (.int (nI (isn 4 z)))) V L)) [(0, .int z)] (jv (g, Y_D_isKeeper, (0, 0), 0, 0, jVQ g (jA0 (some (.int (nI (isn 4 z)))) V L)) V L 0 0) 0 []
  refine j_iload_n d_D_isKeeper_0 rfl 0 rfl ?_
  refine j_if_lt d_D_isKeeper_1 13 rfl (fun h => ?_) (fun h => ?_)
  · rw [show isn 4 z = 0 from if_neg (fun q => q.1 h)]
    refine n_iconst d_D_isKeeper_13 0 (by decide) ?_
    exact v_zret d_D_isKeeper_14 rfl (by omega) (Nat.zero_le _) (Nat.zero_le _) rfl jA0_rfl
  · refine j_iload_n d_D_isKeeper_4 rfl 0 rfl ?_
    refine n_iconst d_D_isKeeper_5 4 (by decide) ?_
    refine j_icmp_ge d_D_isKeeper_6 13 rfl (fun h2 => ?_) (fun h2 => ?_)
    · rw [show isn 4 z = 0 from if_neg (fun q => q.2 h2)]
      refine n_iconst d_D_isKeeper_13 0 (by decide) ?_
      exact v_zret d_D_isKeeper_14 rfl (by omega) (Nat.zero_le _) (Nat.zero_le _) rfl jA0_rfl
    · rw [show isn 4 z = 1 from if_pos ⟨h, h2⟩]
      refine n_iconst d_D_isKeeper_9 1 (by decide) ?_
      refine j_goto d_D_isKeeper_10 14 rfl ?_
      exact v_zret d_D_isKeeper_14 rfl (by omega) (Nat.zero_le _) (Nat.zero_le _) rfl jA0_rfl
theorem c_D_isRowNumber (g : jG) (V : Nat → Nat → Nat) (L : Nat → Nat → Int64) (z : Int32) : jK g Y_D_isRowNumber (0, 0) [.int z] V L (jA0 (some (.int (nI (isn 5 z)))) V L) := by
  refine jK_entry (by decide +kernel) rfl (Nat.le_of_ble_eq_true rfl) ?_
  show jJ (g, Y_D_isRowNumber, (0, 0), 0, 0, jVQ g (jA0 (some (.int (nI (isn 5 z)))) V L)) [(0, .int z)] (jv (g, Y_D_isRowNumber, (0, 0), 0, 0, jVQ g (jA0 (some (.int (nI (isn 5 z)))) V L)) V L 0 0) 0 []
  refine j_iload_n d_D_isRowNumber_0 rfl 0 rfl ?_
  refine j_if_lt d_D_isRowNumber_1 13 rfl (fun h => ?_) (fun h => ?_)
  · rw [show isn 5 z = 0 from if_neg (fun q => q.1 h)]
    refine n_iconst d_D_isRowNumber_13 0 (by decide) ?_
    exact v_zret d_D_isRowNumber_14 rfl (by omega) (Nat.zero_le _) (Nat.zero_le _) rfl jA0_rfl
  · refine j_iload_n d_D_isRowNumber_4 rfl 0 rfl ?_
    refine n_iconst d_D_isRowNumber_5 5 (by decide) ?_
    refine j_icmp_ge d_D_isRowNumber_6 13 rfl (fun h2 => ?_) (fun h2 => ?_)
    · rw [show isn 5 z = 0 from if_neg (fun q => q.2 h2)]
      refine n_iconst d_D_isRowNumber_13 0 (by decide) ?_
      exact v_zret d_D_isRowNumber_14 rfl (by omega) (Nat.zero_le _) (Nat.zero_le _) rfl jA0_rfl
    · rw [show isn 5 z = 1 from if_pos ⟨h, h2⟩]
      refine n_iconst d_D_isRowNumber_9 1 (by decide) ?_
      refine j_goto d_D_isRowNumber_10 14 rfl ?_
      exact v_zret d_D_isRowNumber_14 rfl (by omega) (Nat.zero_le _) (Nat.zero_le _) rfl jA0_rfl
def kps (V : Nat → Nat → Nat) (zk zf : Int32) : Nat := if isn 4 zk = 0 then 0 else if isf V zf = 0 then 0 else V (21 + 14 * zk.toNatClampNeg + 4 * zf.toNatClampNeg) 0
theorem kps_nI {V : Nat → Nat → Nat} {k f : Nat} (h3 : V 0 4 ≤ 3) (hk : k < 4) (hf : f < V 0 4) : kps V (nI k) (nI f) = V (21 + 14 * k + 4 * f) 0 := by
  unfold kps
  rw [isn_nI (by omega) hk, if_neg (by omega), show isf V (nI f) = 1 from isn_nI (by omega) hf, if_neg (by omega), nI_clamp (by omega), nI_clamp (by omega)]
theorem kps_le {V : Nat → Nat → Nat} (h : jI V) (zk zf : Int32) : kps V zk zf ≤ 1 := by
  unfold kps
  split
  · omega
  · next h1 =>
    split
    · omega
    · next h2 =>
      obtain ⟨k, hk, rfl⟩ := isn_of (by omega) h1
      obtain ⟨f, hf, rfl⟩ := isf_of h.F h2
      have := h.F
      rw [nI_clamp (by omega), nI_clamp (by omega)]
      exact h.hd hk (by omega)
theorem kps_of {V : Nat → Nat → Nat} {zk zf : Int32} (h : jI V) (h0 : ¬ kps V zk zf = 0) : ∃ k f, k < 4 ∧ f < V 0 4 ∧ zk = nI k ∧ zf = nI f ∧ V (21 + 14 * k + 4 * f) 0 = 1 := by
  by_cases h1 : isn 4 zk = 0
  · exact absurd (if_pos h1) h0
  · by_cases h2 : isf V zf = 0
    · exact absurd (by unfold kps; rw [if_neg h1, if_pos h2]) h0
    · obtain ⟨k, hk, rfl⟩ := isn_of (by omega) h1
      obtain ⟨f, hf, rfl⟩ := isf_of h.F h2
      rw [kps_nI h.F hk hf] at h0
      have h3 := h.hd hk (Nat.lt_of_lt_of_le hf h.F)
      exact ⟨k, f, hk, hf, rfl, rfl, by omega⟩
theorem c_D_keeps (g : jG) (V : Nat → Nat → Nat) (L : Nat → Nat → Int64) (hI : jI V) (zk zf : Int32) : jK g Y_D_keeps (1, 21) [.ref (jb g + 0), .int zk, .int zf] V L (jA0 (some (.int (nI (kps V zk zf)))) V L) := by
  refine jK_entry (by decide +kernel) rfl (Nat.le_of_ble_eq_true rfl) ?_
  show jJ (g, Y_D_keeps, (1, 21), 0, 0, jVQ g (jA0 (some (.int (nI (kps V zk zf)))) V L)) [(0, .ref (jb g + 0)), (1, .int zk), (2, .int zf)] (jv (g, Y_D_keeps, (1, 21), 0, 0, jVQ g (jA0 (some (.int (nI (kps V zk zf)))) V L)) V L 0 0) 0 []
  refine j_iload_n d_D_keeps_0 rfl 1 rfl ?_
  refine v_callS d_D_keeps_1 mt_D_isKeeper ln_D_93 sm_D_isKeeper ⟨Nat.le_of_ble_eq_true rfl, Nat.le_of_ble_eq_true rfl⟩ (Nat.le_of_ble_eq_true rfl) rfl (Nat.zero_le _) (Nat.zero_le _) (c_D_isKeeper g V L zk) rfl ?_
  rintro _ _ _ ⟨rfl, rfl, rfl⟩
  refine n_if_eq d_D_keeps_4 36 rfl (Nat.lt_of_le_of_lt (isn_le _ _) (by decide)) (fun h1 => ?_) (fun h1 => ?_)
  · rw [show kps V zk zf = 0 from if_pos h1]
    refine n_iconst d_D_keeps_36 0 (by decide) ?_
    exact v_zret d_D_keeps_37 rfl (by omega) (Nat.zero_le _) (Nat.zero_le _) rfl jA0_rfl
  · refine j_aload_n d_D_keeps_7 rfl 0 rfl ?_
    refine j_iload_n d_D_keeps_8 rfl 2 rfl ?_
    refine v_callV d_D_keeps_9 mt_D_isFile ln_D_90 im_D_isFile se_D_isFile rfl (Nat.le_of_ble_eq_true rfl) rfl rfl ⟨Nat.le_of_ble_eq_true rfl, Nat.le_of_ble_eq_true rfl⟩ (Nat.le_of_ble_eq_true rfl) rfl (Nat.zero_le _) (Nat.zero_le _) (c_D_isFile g V L zf) rfl ?_
    rintro _ _ _ ⟨rfl, rfl, rfl⟩
    refine n_if_eq d_D_keeps_12 36 rfl (Nat.lt_of_le_of_lt (isf_le _ _) (by decide)) (fun h2 => ?_) (fun h2 => ?_)
    · rw [show kps V zk zf = 0 from by unfold kps; rw [if_neg h1, if_pos h2]]
      refine n_iconst d_D_keeps_36 0 (by decide) ?_
      exact v_zret d_D_keeps_37 rfl (by omega) (Nat.zero_le _) (Nat.zero_le _) rfl jA0_rfl
    · obtain ⟨k, hk, rfl⟩ := isn_of (by omega) h1
      obtain ⟨f, hf0, rfl⟩ := isf_of hI.F h2
      have hf : f < 3 := Nat.lt_of_lt_of_le hf0 hI.F
      have hd := hI.hd hk hf
      rw [kps_nI hI.F hk hf0]
      refine j_aload_n d_D_keeps_15 rfl 0 rfl ?_
      refine v_getR d_D_keeps_16 lf_D_22 rfl (Nat.le_of_ble_eq_true rfl) rfl ?_
      refine j_iload_n d_D_keeps_19 rfl 1 rfl ?_
      refine v_ald d_D_keeps_20 rfl rfl (Nat.le_of_ble_eq_true rfl) rfl (kref k hk) (Nat.le_of_ble_eq_true rfl) ?_
      refine v_getR d_D_keeps_21 lf_D_101 (jshp_K k hk).1 (by omega) rfl ?_
      refine j_iload_n d_D_keeps_24 rfl 2 rfl ?_
      refine v_ald d_D_keeps_25 (jshp_K k hk).2 rfl (by omega) rfl (cref k f hf) (Nat.le_of_ble_eq_true rfl) ?_
      refine v_getI d_D_keeps_26 lf_D_105 (jshp_Y k hk f hf).1 (by omega) rfl ?_
      refine n_if_eq d_D_keeps_29 36 rfl (by omega) (fun h3 => ?_) (fun h3 => ?_)
      · rw [h3]
        refine n_iconst d_D_keeps_36 0 (by decide) ?_
        exact v_zret d_D_keeps_37 rfl (by omega) (Nat.zero_le _) (Nat.zero_le _) rfl jA0_rfl
      · rw [show V (21 + 14 * k + 4 * f) 0 = 1 from by omega]
        refine n_iconst d_D_keeps_32 1 (by decide) ?_
        refine j_goto d_D_keeps_33 37 rfl ?_
        exact v_zret d_D_keeps_37 rfl (by omega) (Nat.zero_le _) (Nat.zero_le _) rfl jA0_rfl
def kpr (V : Nat → Nat → Nat) (zk zf zr : Int32) : Nat := if kps V zk zf = 0 then 0 else isn (V (3 + 5 * zf.toNatClampNeg) 1) zr
theorem kpr_le {V : Nat → Nat → Nat} (zk zf zr : Int32) : kpr V zk zf zr ≤ 1 := by
  unfold kpr
  split
  · omega
  · exact isn_le _ _
theorem kpr_of {V : Nat → Nat → Nat} {zk zf zr : Int32} (h : jI V) (h0 : ¬ kpr V zk zf zr = 0) : ∃ k f r, k < 4 ∧ f < V 0 4 ∧ r < V (3 + 5 * f) 1 ∧ zk = nI k ∧ zf = nI f ∧ zr = nI r ∧ V (21 + 14 * k + 4 * f) 0 = 1 := by
  by_cases h1 : kps V zk zf = 0
  · exact absurd (if_pos h1) h0
  · obtain ⟨k, f, hk, hf, rfl, rfl, hd⟩ := kps_of h h1
    unfold kpr at h0
    have h3 := h.F
    rw [if_neg h1, nI_clamp (by omega)] at h0
    have h4 := h.rc (show f < 3 by omega)
    have h5 := h.w (show f < 3 by omega)
    obtain ⟨r, hr, rfl⟩ := isn_of (by omega) h0
    exact ⟨k, f, r, hk, hf, hr, rfl, rfl, rfl, hd⟩
theorem c_D_keepsRow (g : jG) (V : Nat → Nat → Nat) (L : Nat → Nat → Int64) (hI : jI V) (zk zf zr : Int32) : jK g Y_D_keepsRow (2, 43) [.ref (jb g + 0), .int zk, .int zf, .int zr] V L (jA0 (some (.int (nI (kpr V zk zf zr)))) V L) := by
  refine jK_entry (by decide +kernel) rfl (Nat.le_of_ble_eq_true rfl) ?_
  show jJ (g, Y_D_keepsRow, (2, 43), 0, 0, jVQ g (jA0 (some (.int (nI (kpr V zk zf zr)))) V L)) [(0, .ref (jb g + 0)), (1, .int zk), (2, .int zf), (3, .int zr)] (jv (g, Y_D_keepsRow, (2, 43), 0, 0, jVQ g (jA0 (some (.int (nI (kpr V zk zf zr)))) V L)) V L 0 0) 0 []
  refine j_aload_n d_D_keepsRow_0 rfl 0 rfl ?_
  refine j_iload_n d_D_keepsRow_1 rfl 1 rfl ?_
  refine j_iload_n d_D_keepsRow_2 rfl 2 rfl ?_
  refine v_callV d_D_keepsRow_3 mt_D_keeps ln_D_153 im_D_keeps se_D_keeps rfl (Nat.le_of_ble_eq_true rfl) rfl rfl ⟨Nat.le_of_ble_eq_true rfl, Nat.le_of_ble_eq_true rfl⟩ (Nat.le_of_ble_eq_true rfl) rfl (Nat.zero_le _) (Nat.zero_le _) (c_D_keeps g V L hI zk zf) rfl ?_
  rintro _ _ _ ⟨rfl, rfl, rfl⟩
  refine n_if_eq d_D_keepsRow_6 30 rfl (Nat.lt_of_le_of_lt (kps_le hI _ _) (by decide)) (fun h1 => ?_) (fun h1 => ?_)
  · rw [show kpr V zk zf zr = 0 from if_pos h1]
    refine n_iconst d_D_keepsRow_30 0 (by decide) ?_
    exact v_zret d_D_keepsRow_31 rfl (by omega) (Nat.zero_le _) (Nat.zero_le _) rfl jA0_rfl
  · have e0 : kpr V zk zf zr = isn (V (3 + 5 * zf.toNatClampNeg) 1) zr := if_neg h1
    obtain ⟨k, f, hk, hf0, rfl, rfl, hd⟩ := kps_of hI h1
    have hf : f < 3 := Nat.lt_of_lt_of_le hf0 hI.F
    rw [e0, nI_clamp (by omega)]
    refine j_iload_n d_D_keepsRow_9 rfl 3 rfl ?_
    refine j_if_lt d_D_keepsRow_10 30 rfl (fun h2 => ?_) (fun h2 => ?_)
    · rw [show isn (V (3 + 5 * f) 1) zr = 0 from if_neg (fun q => q.1 h2)]
      refine n_iconst d_D_keepsRow_30 0 (by decide) ?_
      exact v_zret d_D_keepsRow_31 rfl (by omega) (Nat.zero_le _) (Nat.zero_le _) rfl jA0_rfl
    · refine j_iload_n d_D_keepsRow_13 rfl 3 rfl ?_
      refine j_aload_n d_D_keepsRow_14 rfl 0 rfl ?_
      refine v_getR d_D_keepsRow_15 lf_D_15 rfl (Nat.le_of_ble_eq_true rfl) rfl ?_
      refine j_iload_n d_D_keepsRow_18 rfl 2 rfl ?_
      refine v_ald d_D_keepsRow_19 rfl rfl (Nat.le_of_ble_eq_true rfl) rfl (dref f hf) (Nat.le_of_ble_eq_true rfl) ?_
      refine v_getI d_D_keepsRow_20 lf_D_114 (jshp_E f hf).1 (by omega) rfl ?_
      refine j_icmp_ge d_D_keepsRow_23 30 rfl (fun h3 => ?_) (fun h3 => ?_)
      · rw [show isn (V (3 + 5 * f) 1) zr = 0 from if_neg (fun q => q.2 h3)]
        refine n_iconst d_D_keepsRow_30 0 (by decide) ?_
        exact v_zret d_D_keepsRow_31 rfl (by omega) (Nat.zero_le _) (Nat.zero_le _) rfl jA0_rfl
      · rw [show isn (V (3 + 5 * f) 1) zr = 1 from if_pos ⟨h2, h3⟩]
        refine n_iconst d_D_keepsRow_26 1 (by decide) ?_
        refine j_goto d_D_keepsRow_27 31 rfl ?_
        exact v_zret d_D_keepsRow_31 rfl (by omega) (Nat.zero_le _) (Nat.zero_le _) rfl jA0_rfl
def igd (V : Nat → Nat → Nat) (k f row : Nat) : Nat := if V (21 + 14 * k + 4 * f) 0 = 0 then 0 else if V (24 + 14 * k + 4 * f) row = 0 then (if V (22 + 14 * k + 4 * f + 1) (row * 5 + 4) = tgd (V (5 + 5 * f) row) (V (4 + 5 * f)) (fun j => V (22 + 14 * k + 4 * f + 1) (row * 5 + j)) then 1 else 0) else 0
theorem igd_le (V : Nat → Nat → Nat) (k f row : Nat) : igd V k f row ≤ 1 := by
  unfold igd
  repeat' split
  all_goals omega
theorem c_D_isGood (g : jG) (V : Nat → Nat → Nat) (L : Nat → Nat → Int64) (hI : jI V) (k : Nat) (hk : k < 4) (f : Nat) (hf : f < 3) (row : Nat) (hrow : row < 24) : jK g Y_D_isGood (2, 46) [.ref (jb g + 0), .int (nI k), .int (nI f), .int (nI row)] V L (jA0 (some (.int (nI (igd V k f row)))) V L) := by
  refine jK_entry (by decide +kernel) rfl (Nat.le_of_ble_eq_true rfl) ?_
  show jJ (g, Y_D_isGood, (2, 46), 0, 0, jVQ g (jA0 (some (.int (nI (igd V k f row)))) V L)) [(0, .ref (jb g + 0)), (1, .int (nI k)), (2, .int (nI f)), (3, .int (nI row))] (jv (g, Y_D_isGood, (2, 46), 0, 0, jVQ g (jA0 (some (.int (nI (igd V k f row)))) V L)) V L 0 0) 0 []
  refine j_aload_n d_D_isGood_0 rfl 0 rfl ?_
  refine v_getR d_D_isGood_1 lf_D_22 rfl (Nat.le_of_ble_eq_true rfl) rfl ?_
  refine j_iload_n d_D_isGood_4 rfl 1 rfl ?_
  refine v_ald d_D_isGood_5 rfl rfl (Nat.le_of_ble_eq_true rfl) rfl (kref k hk) (Nat.le_of_ble_eq_true rfl) ?_
  refine v_getR d_D_isGood_6 lf_D_101 (jshp_K k hk).1 (by omega) rfl ?_
  refine j_iload_n d_D_isGood_9 rfl 2 rfl ?_
  refine v_ald d_D_isGood_10 (jshp_K k hk).2 rfl (by omega) rfl (cref k f hf) (Nat.le_of_ble_eq_true rfl) ?_
  refine j_astore d_D_isGood_11 (i := 4) (Nat.le_of_ble_eq_true rfl) (lv' := [_, _, _, _, _]) rfl ?_
  refine j_aload d_D_isGood_13 0 rfl ?_
  refine v_getI d_D_isGood_15 lf_D_105 (jshp_Y k hk f hf).1 (by omega) rfl ?_
  refine n_if_eq d_D_isGood_18 63 rfl (Nat.lt_of_le_of_lt (hI.hd hk hf) (by decide)) (fun h1 => ?_) (fun h1 => ?_)
  · rw [show igd V k f row = 0 from if_pos h1]
    refine n_iconst d_D_isGood_63 0 (by decide) ?_
    exact v_zret d_D_isGood_64 rfl (by omega) (Nat.zero_le _) (Nat.zero_le _) rfl jA0_rfl
  · refine j_aload d_D_isGood_21 0 rfl ?_
    refine v_getR d_D_isGood_23 lf_D_127 (jshp_Y k hk f hf).1 (by omega) rfl ?_
    refine j_iload_n d_D_isGood_26 rfl 4 rfl ?_
    refine v_zld d_D_isGood_27 (jshp_Y k hk f hf).2.2.2 rfl (by omega) rfl hrow (by omega) ?_
    refine n_if_ne d_D_isGood_28 63 rfl (Nat.lt_of_le_of_lt (hI.ls hk hf row hrow) (by decide)) (fun h2 => ?_) (fun h2 => ?_)
    · rw [show igd V k f row = 0 from by unfold igd; rw [if_neg h1, if_neg h2]]
      refine n_iconst d_D_isGood_63 0 (by decide) ?_
      exact v_zret d_D_isGood_64 rfl (by omega) (Nat.zero_le _) (Nat.zero_le _) rfl jA0_rfl
    · refine j_aload d_D_isGood_31 0 rfl ?_
      refine v_getR d_D_isGood_33 lf_D_141 (jshp_Y k hk f hf).1 (by omega) rfl ?_
      refine j_iload_n d_D_isGood_36 rfl 4 rfl ?_
      refine n_iconst d_D_isGood_37 4 (by decide) ?_
      refine v_callV d_D_isGood_38 mt_R_get ln_D_142 im_R_get se_R_get (jshp_YR k hk f hf).1 (by omega) rfl rfl ⟨Nat.le_of_ble_eq_true rfl, Nat.le_of_ble_eq_true rfl⟩ (Nat.le_of_ble_eq_true rfl) rfl (Nat.zero_le _) (Nat.zero_le _) (c_R_get g V L (22 + 14 * k + 4 * f) (jshp_YR k hk f hf).1 (jshp_YR k hk f hf).2 (by omega) row 4 hrow (by omega)) rfl ?_
      rintro _ _ _ ⟨rfl, rfl, rfl⟩
      refine j_aload_n d_D_isGood_41 rfl 1 rfl ?_
      refine v_getR d_D_isGood_42 lf_D_15 rfl (Nat.le_of_ble_eq_true rfl) rfl ?_
      refine j_iload_n d_D_isGood_45 rfl 3 rfl ?_
      refine v_ald d_D_isGood_46 rfl rfl (Nat.le_of_ble_eq_true rfl) rfl (dref f hf) (Nat.le_of_ble_eq_true rfl) ?_
      refine j_aload d_D_isGood_47 0 rfl ?_
      refine v_getR d_D_isGood_49 lf_D_141 (jshp_Y k hk f hf).1 (by omega) rfl ?_
      refine j_iload_n d_D_isGood_52 rfl 4 rfl ?_
      refine v_callV d_D_isGood_53 mt_E_tagOf ln_D_241 im_E_tagOf se_E_tagOf (jshp_E f hf).1 (by omega) rfl rfl ⟨Nat.le_of_ble_eq_true rfl, Nat.le_of_ble_eq_true rfl⟩ (Nat.le_of_ble_eq_true rfl) rfl (Nat.zero_le _) (Nat.zero_le _) (c_E_tagOf g V L f hf (22 + 14 * k + 4 * f) (jshp_YR k hk f hf).1 (jshp_YR k hk f hf).2 (by omega) row hrow (hI.kp hk hf) (hI.al hf) (hI.ms hf)) rfl ?_
      rintro _ _ _ ⟨rfl, rfl, rfl⟩
      refine n_icmp_ne d_D_isGood_56 63 rfl (Nat.lt_of_lt_of_le (hI.kp hk hf _ (by omega)) (by decide)) (Nat.lt_of_lt_of_le (tgd_lt _ _ _) (by decide)) (fun h3 => ?_) (fun h3 => ?_)
      · rw [show igd V k f row = 0 from by unfold igd; rw [if_neg h1, if_pos h2, if_neg h3]]
        refine n_iconst d_D_isGood_63 0 (by decide) ?_
        exact v_zret d_D_isGood_64 rfl (by omega) (Nat.zero_le _) (Nat.zero_le _) rfl jA0_rfl
      · rw [show igd V k f row = 1 from by unfold igd; rw [if_neg h1, if_pos h2, if_pos h3]]
        refine n_iconst d_D_isGood_59 1 (by decide) ?_
        refine j_goto d_D_isGood_60 64 rfl ?_
        exact v_zret d_D_isGood_64 rfl (by omega) (Nat.zero_le _) (Nat.zero_le _) rfl jA0_rfl
