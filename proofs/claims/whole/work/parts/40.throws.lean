/-! throwing: the words, the row; the contract of a method that throws -/
theorem own0 : ∀ w ∈ Bundle.ownAtoms "AuditDesk" 59 (jex 0) ["java/lang/RuntimeException", "java/lang/Exception"], w ∈ jTab ∨ w ∈ jXw := by
  have e : Bundle.ownAtoms "AuditDesk" 59 (jex 0) ["java/lang/RuntimeException", "java/lang/Exception"] = [8, 274, 283, 287, 290, 292, 275, 276, 22, 23, 277, 282, 288, 308, 264, 309, 266, 310, 268, 278, 279, 280, 281, 270, 304, 305, 307, 270, 295, 296, 297, 298, 256, 298, 299, 300, 301, 258, 301, 302, 303, 304, 260, 294, 253, 254, 261, 262, 263, 265, 267, 269, 850, 851, 273, 272, 271].filterMap (fun i => (tables_1 ++ jXw)[i]?) := by decide +kernel
  have hg : (Bundle.ownAtoms "AuditDesk" 59 (jex 0) ["java/lang/RuntimeException", "java/lang/Exception"]).all (fun w => jgood w || decide (w ∈ jXw)) = true := by decide +kernel
  intro w hw
  have h1 := List.all_eq_true.mp hg w hw
  rw [e] at hw
  obtain ⟨i, -, hi⟩ := List.mem_filterMap.mp hw
  have hm : w ∈ tables_1 ++ jXw := List.mem_of_getElem? hi
  rcases List.mem_append.mp hm with h | h
  · simp only [Bool.or_eq_true, decide_eq_true_eq] at h1
    rcases h1 with h2 | h2
    · exact Or.inl (List.mem_filter.mpr ⟨List.mem_append_right _ h, h2⟩)
    · exact Or.inr h2
  · exact Or.inr h
theorem own1 : ∀ w ∈ Bundle.ownAtoms "AuditDesk" 79 (jex 1) ["java/lang/RuntimeException", "java/lang/Exception"], w ∈ jTab ∨ w ∈ jXw := by
  have e : Bundle.ownAtoms "AuditDesk" 79 (jex 1) ["java/lang/RuntimeException", "java/lang/Exception"] = [8, 274, 283, 287, 290, 292, 275, 276, 22, 23, 277, 282, 288, 308, 264, 309, 266, 310, 268, 278, 279, 280, 281, 270, 304, 305, 307, 270, 339, 340, 341, 298, 256, 298, 299, 300, 301, 258, 301, 302, 303, 304, 260, 338, 329, 330, 331, 285, 332, 333, 334, 335, 850, 851, 273, 272, 336].filterMap (fun i => (tables_1 ++ jXw)[i]?) := by decide +kernel
  have hg : (Bundle.ownAtoms "AuditDesk" 79 (jex 1) ["java/lang/RuntimeException", "java/lang/Exception"]).all (fun w => jgood w || decide (w ∈ jXw)) = true := by decide +kernel
  intro w hw
  have h1 := List.all_eq_true.mp hg w hw
  rw [e] at hw
  obtain ⟨i, -, hi⟩ := List.mem_filterMap.mp hw
  have hm : w ∈ tables_1 ++ jXw := List.mem_of_getElem? hi
  rcases List.mem_append.mp hm with h | h
  · simp only [Bool.or_eq_true, decide_eq_true_eq] at h1
    rcases h1 with h2 | h2
    · exact Or.inl (List.mem_filter.mpr ⟨List.mem_append_right _ h, h2⟩)
    · exact Or.inr h2
  · exact Or.inr h
theorem own2 : ∀ w ∈ Bundle.ownAtoms "AuditDesk" 100 (jex 2) ["java/lang/RuntimeException", "java/lang/Exception"], w ∈ jTab ∨ w ∈ jXw := by
  have e : Bundle.ownAtoms "AuditDesk" 100 (jex 2) ["java/lang/RuntimeException", "java/lang/Exception"] = [8, 274, 283, 287, 290, 292, 275, 276, 22, 23, 277, 282, 288, 308, 264, 309, 266, 310, 268, 278, 279, 280, 281, 270, 304, 305, 307, 270, 415, 416, 417, 298, 256, 298, 299, 300, 301, 258, 301, 302, 303, 304, 260, 414, 405, 406, 407, 286, 408, 409, 410, 411, 850, 851, 273, 272, 412].filterMap (fun i => (tables_1 ++ jXw)[i]?) := by decide +kernel
  have hg : (Bundle.ownAtoms "AuditDesk" 100 (jex 2) ["java/lang/RuntimeException", "java/lang/Exception"]).all (fun w => jgood w || decide (w ∈ jXw)) = true := by decide +kernel
  intro w hw
  have h1 := List.all_eq_true.mp hg w hw
  rw [e] at hw
  obtain ⟨i, -, hi⟩ := List.mem_filterMap.mp hw
  have hm : w ∈ tables_1 ++ jXw := List.mem_of_getElem? hi
  rcases List.mem_append.mp hm with h | h
  · simp only [Bool.or_eq_true, decide_eq_true_eq] at h1
    rcases h1 with h2 | h2
    · exact Or.inl (List.mem_filter.mpr ⟨List.mem_append_right _ h, h2⟩)
    · exact Or.inr h2
  · exact Or.inr h
def jTQ (g : jG) (kd : Nat) (φ : (Nat → Nat → Nat) → (Nat → Nat → Int64) → Prop) : jQ := fun r N mu x => r = .inr kd ∧ N = 104 ∧ x = false ∧ ∃ V L, mu = jmem (jb g) (jn V) L ∧ φ V L
/-- a method that throws -/
def jT (g : jG) (y : jY) (d : Nat × Nat) (as : List Value) (V : Nat → Nat → Nat) (L : Nat → Nat → Int64) (kd : Nat) (φ : (Nat → Nat → Nat) → (Nat → Nat → Int64) → Prop) : Prop := jMet g y d 1 6 as 104 (jmem (jb g) (jn V) L) false (jTQ g kd φ)
def jB0 (V : Nat → Nat → Nat) (L : Nat → Nat → Int64) : (Nat → Nat → Nat) → (Nat → Nat → Int64) → Prop := fun V' L' => V = V' ∧ L = L'
theorem jT_entry {g : jG} {y : jY} {d : Nat × Nat} {as : List Value} {V : Nat → Nat → Nat} {L : Nat → Nat → Int64} {kd : Nat} {φ : (Nat → Nat → Nat) → (Nat → Nat → Int64) → Prop} (hpl : plainName (jyn y).cls = true) (hown : (jyn y).cls = jyo y) (hlen : (lg_sl as).length ≤ jyL y)
    (hJ : jJ (g, y, d, 1, 6, jTQ g kd φ) (lv_args 0 as) (jv (g, y, d, 1, 6, jTQ g kd φ) V L 0 0) 0 []) : jT g y d as V L kd φ := j_entry hpl hown hlen hJ
theorem v_throw {f : jF} {lv : List (Nat × Value)} {V : Nat → Nat → Nat} {L : Nat → Nat → Int64} {pc : Nat} {ic is inw kd : Nat} {tx : String} {φ : (Nat → Nat → Nat) → (Nat → Nat → Int64) → Prop} (h0 : decode (jyc f.2.1) pc = .ok (.new inw, 3)) (h3 : decode (jyc f.2.1) (pc + 3) = .ok (.dup, 1)) (h4 : decode (jyc f.2.1) (pc + 3 + 1) = .ok (.ldc is, 2)) (h6 : decode (jyc f.2.1) (pc + 3 + 1 + 2) = .ok (.invokespecial ic, 3)) (h9 : decode (jyc f.2.1) (pc + 3 + 1 + 2 + 3) = .ok (.athrow, 1))
    (hh : jyh f.2.1 = []) (ho : jyo f.2.1 = "AuditDesk") (hw1 : Cond.classLink "AuditDesk" inw (jex kd) ∈ jTab) (hw2 : Cond.instantiable (jex kd) 6 ∈ jTab) (hw3 : Cond.initialized (jex kd) ∈ jTab) (hfit : Bundle.fit (jex kd) = true) (hs : (is, tx) ∈ jStr)
    (hw : ∀ w ∈ Bundle.ownAtoms "AuditDesk" ic (jex kd) ["java/lang/RuntimeException", "java/lang/Exception"], w ∈ jTab ∨ w ∈ jXw)
    (hR : 5 < f.2.2.1.1 ∧ 86 ≤ f.2.2.1.2) (hk : 1 ≤ f.2.2.2.1) (hn : 6 ≤ f.2.2.2.2.1) (hf : f.2.2.2.2.2 = jTQ f.1 kd φ) (hφ : φ V L) : jJ f lv (jv f V L 0 0) pc [] := by
  refine j_throw (tx := tx) h0 h3 h4 h6 h9 hh (by rw [ho]; exact hw1) hw2 hw3 hfit (by rw [ho]; exact ⟨rfl, hs, hw⟩) hR (by decide) (by omega) (by omega) ?_
  rw [hf]
  exact ⟨rfl, rfl, rfl, V, L, rfl, hφ⟩
theorem c_D_key (g : jG) (V : Nat → Nat → Nat) (L : Nat → Nat → Int64) (a b : Int64) (h0 : V 0 4 = 0) : jK g Y_D_key (6, 86) [.ref (jb g + 0), .long a, .long b] V L (jA0 none V (jupL (jupL L 0 0 a) 0 1 b)) := by
  refine jK_entry (by decide +kernel) rfl (Nat.le_of_ble_eq_true rfl) ?_
  show jJ (g, Y_D_key, (6, 86), 0, 0, jVQ g (jA0 none V (jupL (jupL L 0 0 a) 0 1 b))) [(0, .ref (jb g + 0)), (1, .long a), (3, .long b)] (jv (g, Y_D_key, (6, 86), 0, 0, jVQ g (jA0 none V (jupL (jupL L 0 0 a) 0 1 b))) V L 0 0) 0 []
  refine j_aload_n d_D_key_0 rfl 0 rfl ?_
  refine v_getI d_D_key_1 lf_D_51 rfl (Nat.le_of_ble_eq_true rfl) rfl ?_
  rw [h0]
  refine n_ift_le d_D_key_4 17 rfl rfl (by decide) ?_
  refine j_aload_n d_D_key_17 rfl 0 rfl ?_
  refine j_lload_n d_D_key_18 rfl 1 rfl ?_
  refine v_putL d_D_key_19 lf_D_62 rfl (Nat.le_of_ble_eq_true rfl) rfl rfl rfl rfl ?_
  refine j_aload_n d_D_key_22 rfl 0 rfl ?_
  refine j_lload_n d_D_key_23 rfl 2 rfl ?_
  refine v_putL d_D_key_24 lf_D_66 rfl (Nat.le_of_ble_eq_true rfl) rfl rfl rfl rfl ?_
  exact v_vret d_D_key_27 rfl (Nat.zero_le _) (Nat.zero_le _) rfl jA0_rfl
theorem t_D_key (g : jG) (V : Nat → Nat → Nat) (L : Nat → Nat → Int64) (a b : Int64) (h0 : 0 < V 0 4) (h3 : V 0 4 ≤ 3) : jT g Y_D_key (6, 86) [.ref (jb g + 0), .long a, .long b] V L 0 (jB0 V L) := by
  refine jT_entry (by decide +kernel) rfl (Nat.le_of_ble_eq_true rfl) ?_
  show jJ (g, Y_D_key, (6, 86), 1, 6, jTQ g 0 (jB0 V L)) [(0, .ref (jb g + 0)), (1, .long a), (3, .long b)] (jv (g, Y_D_key, (6, 86), 1, 6, jTQ g 0 (jB0 V L)) V L 0 0) 0 []
  refine j_aload_n d_D_key_0 rfl 0 rfl ?_
  refine v_getI d_D_key_1 lf_D_51 rfl (Nat.le_of_ble_eq_true rfl) rfl ?_
  refine n_iff_le d_D_key_4 17 rfl h0 (by omega) ?_
  exact v_throw (kd := 0) (tx := "there is a file") d_D_key_7 d_D_key_10 d_D_key_11 d_D_key_13 d_D_key_16 rfl rfl lc_D_55 it_ISE iz_ISE (by decide +kernel) (by decide +kernel) own0 ⟨Nat.le_of_ble_eq_true rfl, Nat.le_of_ble_eq_true rfl⟩ (Nat.le_of_ble_eq_true rfl) (Nat.le_of_ble_eq_true rfl) rfl ⟨rfl, rfl⟩
