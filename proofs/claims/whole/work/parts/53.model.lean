/-! AuditDeskModel: solve -/
/-- the first row from p on whose column c is not 0 -/
def pvs (S : Nat → Nat) (c : Nat) : Nat → Nat → Nat
  | 0, p => p
  | n + 1, p => if S (8 * p + c) = 0 then pvs S c n (p + 1) else p
def swp (S : Nat → Nat) (p c : Nat) : Nat → Nat → Nat
  | 0 => S
  | j + 1 => su (su (swp S p c j) (8 * p + j) (swp S p c j (8 * c + j))) (8 * c + j) (swp S p c j (8 * p + j))
def scl (S : Nat → Nat) (c b : Nat) : Nat → Nat → Nat
  | 0 => S
  | j + 1 => su (scl S c b j) (8 * c + j) (scl S c b j (8 * c + j) * b % 2147483647)
def eln (S : Nat → Nat) (c n t : Nat) : Nat → Nat → Nat
  | 0 => S
  | j + 1 => su (eln S c n t j) (8 * n + j) ((eln S c n t j (8 * n + j) + (2147483647 - t) * eln S c n t j (8 * c + j)) % 2147483647)
def ela (S : Nat → Nat) (c : Nat) : Nat → Nat → Nat
  | 0 => S
  | n + 1 => eln (ela S c n) c n (if n = c then 0 else ela S c n (8 * n + c)) 8
def sw1 (S : Nat → Nat) (c : Nat) : Nat → Nat := swp S (pvs S c (4 - c) c) c 8
def sc1 (S : Nat → Nat) (c : Nat) : Nat → Nat := scl S c (ovr (S (8 * c + c))) 8
def stc (S : Nat → Nat) (c : Nat) : Nat → Nat := ela (sc1 (sw1 S c) c) c 4
def stg (S : Nat → Nat) : Nat → Nat → Nat
  | 0 => S
  | c + 1 => stc (stg S c) c
def sP (S : Nat → Nat) : Prop := ∀ x, x < 32 → S x < 2147483647
theorem sP_su {S : Nat → Nat} {i v : Nat} (h : sP S) (hv : v < 2147483647) : sP (su S i v) := fun x hx => by
  unfold su
  split
  · exact hv
  · exact h x hx
theorem sP_swp {S : Nat → Nat} {p c : Nat} (h : sP S) (hp : p < 4) (hc : c < 4) : ∀ j, j ≤ 8 → sP (swp S p c j)
  | 0, _ => h
  | j + 1, hj => sP_su (sP_su (sP_swp h hp hc j (by omega)) (sP_swp h hp hc j (by omega) _ (by omega))) (sP_swp h hp hc j (by omega) _ (by omega))
theorem sP_scl {S : Nat → Nat} {c b : Nat} (h : sP S) : ∀ j, sP (scl S c b j)
  | 0 => h
  | j + 1 => sP_su (sP_scl h j) (Nat.mod_lt _ (by decide))
theorem sP_eln {S : Nat → Nat} {c n t : Nat} (h : sP S) : ∀ j, sP (eln S c n t j)
  | 0 => h
  | j + 1 => sP_su (sP_eln h j) (Nat.mod_lt _ (by decide))
theorem sP_ela {S : Nat → Nat} {c : Nat} (h : sP S) : ∀ n, sP (ela S c n)
  | 0 => h
  | n + 1 => sP_eln (sP_ela h n) 8
theorem sP_stg {S : Nat → Nat} (h : sP S) (hp : ∀ c, c < 4 → pvs (stg S c) c (4 - c) c < 4) : ∀ c, c ≤ 4 → sP (stg S c)
  | 0, _ => h
  | c + 1, hc => sP_ela (sP_scl (sP_swp (sP_stg h hp c (by omega)) (hp c (by omega)) (by omega) 8 (by omega)) 8) 4
theorem mP' {a b : Nat} (ha : a ≤ 2147483647) (hb : b < 2147483647) : a * b < 4611686018427387904 := by
  have h1 : a * b ≤ 2147483647 * 2147483646 := Nat.mul_le_mul ha (by omega)
  omega
theorem c_M_solve (g : jG) (V : Nat → Nat → Nat) (L : Nat → Nat → Int64) (S : Nat → Nat) (hS : sP S) (hp : ∀ c, c < 4 → pvs (stg S c) c (4 - c) c < 4) : jK g Y_M_solve (2, 50) [.ref (jb g + 85)] V (lsS L S) (jA0 none V (lsS L (stg S 4))) := by
  refine jK_entry (by decide +kernel) rfl (Nat.le_of_ble_eq_true rfl) ?_
  show jJ (g, Y_M_solve, (2, 50), 0, 0, jVQ g (jA0 none V (lsS L (stg S 4)))) [(0, .ref (jb g + 85))] (jv (g, Y_M_solve, (2, 50), 0, 0, jVQ g (jA0 none V (lsS L (stg S 4)))) V (lsS L S) 0 0) 0 []
  generalize hφ : jA0 none V (lsS L (stg S 4)) = φ
  have loop : ∀ (m c : Nat), c + m = 4 → jJ (g, Y_M_solve, (2, 50), 0, 0, jVQ g φ) [(0, .ref (jb g + 85)), (1, .int (nI c))] (jv (g, Y_M_solve, (2, 50), 0, 0, jVQ g φ) V (lsS L (stg S c)) 0 0) 2 [] := by
    intro m
    induction m with
    | zero =>
      intro c hc
      obtain rfl : c = 4 := by omega
      refine j_iload_n d_M_solve_2 rfl 1 rfl ?_
      refine n_iconst d_M_solve_3 4 (by decide) ?_
      refine n_icmp_ge d_M_solve_4 265 rfl (by omega) (by omega) (fun h => ?_) (fun h => absurd h (by omega))
      subst hφ
      exact v_vret d_M_solve_265 rfl (Nat.zero_le _) (Nat.zero_le _) rfl jA0_rfl
    | succ m ih =>
      intro c hc
      have ih' := ih (c + 1) (by omega)
      have hT := sP_stg hS hp c (by omega)
      have hpv := hp c (by omega)
      change jJ _ _ (jv _ V (lsS L (stc (stg S c) c)) 0 0) _ _ at ih'
      clear ih
      revert ih' hT hpv
      generalize stg S c = T
      intro hT hpv ih'
      have h1P : sP (sw1 T c) := sP_swp hT hpv (by omega) 8 (by omega)
      have h2P : sP (sc1 (sw1 T c) c) := sP_scl h1P 8
      have l4 : ∀ (mm n : Nat), n + mm = 4 → jJ (g, Y_M_solve, (2, 50), 0, 0, jVQ g φ) [(0, .ref (jb g + 85)), (1, .int (nI c)), (5, .int (nI n))] (jv (g, Y_M_solve, (2, 50), 0, 0, jVQ g φ) V (lsS L (ela (sc1 (sw1 T c) c) c n)) 0 0) 157 [] := by
        intro mm
        induction mm with
        | zero =>
          intro n hn
          obtain rfl : n = 4 := by omega
          refine j_iload d_M_solve_157 2 rfl ?_
          refine n_iconst d_M_solve_159 4 (by decide) ?_
          refine n_icmp_ge d_M_solve_160 259 rfl (by omega) (by omega) (fun h => ?_) (fun h => absurd h (by omega))
          refine n_iinc d_M_solve_259 1 (by decide) 1 rfl (Nat.le_of_ble_eq_true rfl) (lv' := [_, _, _]) rfl ?_
          refine j_goto d_M_solve_262 2 rfl ?_
          refine j_lv [1, 0] rfl ?_
          exact ih'
        | succ mm ihn =>
          intro n hn
          have ihn' := ihn (n + 1) (by omega)
          rw [ela] at ihn'
          have h3P : sP (ela (sc1 (sw1 T c) c) c n) := sP_ela h2P n
          revert ihn' h3P
          generalize ela (sc1 (sw1 T c) c) c n = R
          intro ihn' h3P
          have l5 : ∀ (t : Nat), t < 2147483647 → jJ (g, Y_M_solve, (2, 50), 0, 0, jVQ g φ) [(0, .ref (jb g + 85)), (1, .int (nI c)), (5, .int (nI (n + 1)))] (jv (g, Y_M_solve, (2, 50), 0, 0, jVQ g φ) V (lsS L (eln R c n t 8)) 0 0) 157 [] → ∀ (m j : Nat), j + m = 8 → jJ (g, Y_M_solve, (2, 50), 0, 0, jVQ g φ) [(0, .ref (jb g + 85)), (1, .int (nI c)), (5, .int (nI n)), (6, .long (lN t)), (8, .int (nI j))] (jv (g, Y_M_solve, (2, 50), 0, 0, jVQ g φ) V (lsS L (eln R c n t j)) 0 0) 190 [] := by
            intro t ht go m
            induction m with
            | zero =>
              intro j hj
              obtain rfl : j = 8 := by omega
              refine j_iload d_M_solve_190 4 rfl ?_
              refine n_bipush d_M_solve_192 8 (by decide) ?_
              refine n_icmp_ge d_M_solve_194 253 rfl (by omega) (by omega) (fun h => ?_) (fun h => absurd h (by omega))
              refine n_iinc d_M_solve_253 1 (by decide) 2 rfl (Nat.le_of_ble_eq_true rfl) (lv' := [_, _, _, _, _]) rfl ?_
              refine j_goto d_M_solve_256 157 rfl ?_
              refine j_lv [1, 2, 0] rfl ?_
              exact go
            | succ m ihj =>
              intro j hj
              have ihj' := ihj (j + 1) (by omega)
              rw [eln] at ihj'
              have h4P : sP (eln R c n t j) := sP_eln h3P j
              revert ihj' h4P
              generalize eln R c n t j = Q
              intro ihj' h4P
              have q1 := h4P (8 * n + j) (by omega)
              have q2 := mP' (show 2147483647 - t ≤ 2147483647 by omega) (h4P (8 * c + j) (by omega))
              refine j_iload d_M_solve_190 4 rfl ?_
              refine n_bipush d_M_solve_192 8 (by decide) ?_
              refine n_icmp_ge d_M_solve_194 253 rfl (by omega) (by omega) (fun h => absurd h (by omega)) (fun h => ?_)
              refine j_aload_n d_M_solve_197 rfl 0 rfl ?_
              refine v_getR d_M_solve_198 lf_M_56 rfl (Nat.le_of_ble_eq_true rfl) rfl ?_
              refine n_bipush d_M_solve_201 8 (by decide) ?_
              refine j_iload d_M_solve_203 2 rfl ?_
              refine n_mul d_M_solve_205 ?_
              refine j_iload d_M_solve_206 4 rfl ?_
              refine n_add d_M_solve_208 ?_
              refine j_aload_n d_M_solve_209 rfl 0 rfl ?_
              refine v_getR d_M_solve_210 lf_M_56 rfl (Nat.le_of_ble_eq_true rfl) rfl ?_
              refine n_bipush d_M_solve_213 8 (by decide) ?_
              refine j_iload d_M_solve_215 2 rfl ?_
              refine n_mul d_M_solve_217 ?_
              refine j_iload d_M_solve_218 4 rfl ?_
              refine n_add d_M_solve_220 ?_
              refine s_ld d_M_solve_221 rfl (by omega) ?_
              refine j_ldc2 d_M_solve_222 ct_M_67 ?_
              rw [show (2147483647 : Int64) = lN 2147483647 from by decide]
              refine j_lload d_M_solve_225 3 rfl ?_
              refine n_lsub d_M_solve_227 (by omega) ?_
              refine j_aload_n d_M_solve_228 rfl 0 rfl ?_
              refine v_getR d_M_solve_229 lf_M_56 rfl (Nat.le_of_ble_eq_true rfl) rfl ?_
              refine n_bipush d_M_solve_232 8 (by decide) ?_
              refine j_iload_n d_M_solve_234 rfl 1 rfl ?_
              refine n_mul d_M_solve_235 ?_
              refine j_iload d_M_solve_236 4 rfl ?_
              refine n_add d_M_solve_238 ?_
              refine s_ld d_M_solve_239 rfl (by omega) ?_
              refine n_lmul d_M_solve_240 ?_
              refine n_ladd d_M_solve_241 ?_
              refine j_ldc2 d_M_solve_242 ct_M_67 ?_
              rw [show (2147483647 : Int64) = lN 2147483647 from by decide]
              refine n_lrem d_M_solve_245 (Nat.lt_of_lt_of_le (Nat.add_lt_add q1 q2) (by decide)) (by decide) (by decide) ?_
              refine s_st d_M_solve_246 rfl (by omega) ?_
              refine n_iinc d_M_solve_247 1 (by decide) 4 rfl (Nat.le_of_ble_eq_true rfl) (lv' := [_, _, _, _, _]) rfl ?_
              refine j_goto d_M_solve_250 190 rfl ?_
              refine j_lv [1, 2, 3, 4, 0] rfl ?_
              exact ihj'
          refine j_iload d_M_solve_157 2 rfl ?_
          refine n_iconst d_M_solve_159 4 (by decide) ?_
          refine n_icmp_ge d_M_solve_160 259 rfl (by omega) (by omega) (fun h => absurd h (by omega)) (fun h => ?_)
          refine j_iload d_M_solve_163 2 rfl ?_
          refine j_iload_n d_M_solve_165 rfl 1 rfl ?_
          refine n_icmp_ne d_M_solve_166 173 rfl (by omega) (by omega) (fun h5 => ?_) (fun h5 => ?_)
          · rw [if_neg h5] at ihn'
            refine j_aload_n d_M_solve_173 rfl 0 rfl ?_
            refine v_getR d_M_solve_174 lf_M_56 rfl (Nat.le_of_ble_eq_true rfl) rfl ?_
            refine n_bipush d_M_solve_177 8 (by decide) ?_
            refine j_iload d_M_solve_179 2 rfl ?_
            refine n_mul d_M_solve_181 ?_
            refine j_iload_n d_M_solve_182 rfl 1 rfl ?_
            refine n_add d_M_solve_183 ?_
            refine s_ld d_M_solve_184 rfl (by omega) ?_
            refine j_lstore d_M_solve_185 (i := 6) (Nat.le_of_ble_eq_true rfl) (lv' := [_, _, _, _]) rfl ?_
            refine n_iconst d_M_solve_187 0 (by decide) ?_
            refine j_istore d_M_solve_188 (i := 8) (Nat.le_of_ble_eq_true rfl) (lv' := [_, _, _, _, _]) rfl ?_
            refine j_lv [2, 3, 4, 1, 0] rfl ?_
            exact l5 _ (h3P _ (by omega)) ihn' 8 0 (by omega)
          · rw [if_pos h5] at ihn'
            refine j_lconst d_M_solve_169 (v := lN 0) (by decide) ?_
            refine j_goto d_M_solve_170 185 rfl ?_
            refine j_lstore d_M_solve_185 (i := 6) (Nat.le_of_ble_eq_true rfl) (lv' := [_, _, _, _]) rfl ?_
            refine n_iconst d_M_solve_187 0 (by decide) ?_
            refine j_istore d_M_solve_188 (i := 8) (Nat.le_of_ble_eq_true rfl) (lv' := [_, _, _, _, _]) rfl ?_
            refine j_lv [2, 3, 4, 1, 0] rfl ?_
            exact l5 0 (by omega) ihn' 8 0 (by omega)
      have hb := ovr_lt (sw1 T c (8 * c + c))
      have l3 : ∀ (mm j : Nat), j + mm = 8 → jJ (g, Y_M_solve, (2, 50), 0, 0, jVQ g φ) [(0, .ref (jb g + 85)), (1, .int (nI c)), (3, .long (lN (ovr (sw1 T c (8 * c + c))))), (5, .int (nI j))] (jv (g, Y_M_solve, (2, 50), 0, 0, jVQ g φ) V (lsS L (scl (sw1 T c) c (ovr (sw1 T c (8 * c + c))) j)) 0 0) 111 [] := by
        intro mm
        induction mm with
        | zero =>
          intro j hj
          obtain rfl : j = 8 := by omega
          refine j_iload d_M_solve_111 3 rfl ?_
          refine n_bipush d_M_solve_113 8 (by decide) ?_
          refine n_icmp_ge d_M_solve_115 154 rfl (by omega) (by omega) (fun h => ?_) (fun h => absurd h (by omega))
          refine n_iconst d_M_solve_154 0 (by decide) ?_
          refine j_istore d_M_solve_155 (i := 5) (Nat.le_of_ble_eq_true rfl) (lv' := [_, _, _, _]) rfl ?_
          refine j_lv [1, 2, 0] rfl ?_
          exact l4 4 0 (by omega)
        | succ mm ihj =>
          intro j hj
          have ihj' := ihj (j + 1) (by omega)
          rw [scl] at ihj'
          have h4P : sP (scl (sw1 T c) c (ovr (sw1 T c (8 * c + c))) j) := sP_scl h1P j
          have q1 := mP (h4P (8 * c + j) (by omega)) hb
          refine j_iload d_M_solve_111 3 rfl ?_
          refine n_bipush d_M_solve_113 8 (by decide) ?_
          refine n_icmp_ge d_M_solve_115 154 rfl (by omega) (by omega) (fun h => absurd h (by omega)) (fun h => ?_)
          refine j_aload_n d_M_solve_118 rfl 0 rfl ?_
          refine v_getR d_M_solve_119 lf_M_56 rfl (Nat.le_of_ble_eq_true rfl) rfl ?_
          refine n_bipush d_M_solve_122 8 (by decide) ?_
          refine j_iload_n d_M_solve_124 rfl 1 rfl ?_
          refine n_mul d_M_solve_125 ?_
          refine j_iload d_M_solve_126 3 rfl ?_
          refine n_add d_M_solve_128 ?_
          refine j_aload_n d_M_solve_129 rfl 0 rfl ?_
          refine v_getR d_M_solve_130 lf_M_56 rfl (Nat.le_of_ble_eq_true rfl) rfl ?_
          refine n_bipush d_M_solve_133 8 (by decide) ?_
          refine j_iload_n d_M_solve_135 rfl 1 rfl ?_
          refine n_mul d_M_solve_136 ?_
          refine j_iload d_M_solve_137 3 rfl ?_
          refine n_add d_M_solve_139 ?_
          refine s_ld d_M_solve_140 rfl (by omega) ?_
          refine j_lload_n d_M_solve_141 rfl 2 rfl ?_
          refine n_lmul d_M_solve_142 ?_
          refine j_ldc2 d_M_solve_143 ct_M_67 ?_
          rw [show (2147483647 : Int64) = lN 2147483647 from by decide]
          refine n_lrem d_M_solve_146 (Nat.lt_of_lt_of_le q1 (by decide)) (by decide) (by decide) ?_
          refine s_st d_M_solve_147 rfl (by omega) ?_
          refine n_iinc d_M_solve_148 1 (by decide) 3 rfl (Nat.le_of_ble_eq_true rfl) (lv' := [_, _, _, _]) rfl ?_
          refine j_goto d_M_solve_151 111 rfl ?_
          refine j_lv [1, 2, 3, 0] rfl ?_
          exact ihj'
      have l2 : ∀ (mm j : Nat), j + mm = 8 → jJ (g, Y_M_solve, (2, 50), 0, 0, jVQ g φ) [(0, .ref (jb g + 85)), (1, .int (nI c)), (2, .int (nI (pvs T c (4 - c) c))), (3, .int (nI j))] (jv (g, Y_M_solve, (2, 50), 0, 0, jVQ g φ) V (lsS L (swp T (pvs T c (4 - c) c) c j)) 0 0) 33 [] := by
        intro mm
        induction mm with
        | zero =>
          intro j hj
          obtain rfl : j = 8 := by omega
          show jJ _ _ (jv _ V (lsS L (sw1 T c)) 0 0) _ _
          have q9 := h1P (8 * c + c) (by omega)
          refine j_iload_n d_M_solve_33 rfl 3 rfl ?_
          refine n_bipush d_M_solve_34 8 (by decide) ?_
          refine n_icmp_ge d_M_solve_36 93 rfl (by omega) (by omega) (fun h => ?_) (fun h => absurd h (by omega))
          refine j_aload_n d_M_solve_93 rfl 0 rfl ?_
          refine v_getR d_M_solve_94 lf_M_56 rfl (Nat.le_of_ble_eq_true rfl) rfl ?_
          refine n_bipush d_M_solve_97 8 (by decide) ?_
          refine j_iload_n d_M_solve_99 rfl 1 rfl ?_
          refine n_mul d_M_solve_100 ?_
          refine j_iload_n d_M_solve_101 rfl 1 rfl ?_
          refine n_add d_M_solve_102 ?_
          refine s_ld d_M_solve_103 rfl (by omega) ?_
          refine v_callS d_M_solve_104 mt_M_over ln_M_103 sm_M_over ⟨Nat.le_of_ble_eq_true rfl, Nat.le_of_ble_eq_true rfl⟩ (Nat.le_of_ble_eq_true rfl) rfl (Nat.zero_le _) (Nat.zero_le _) (c_M_over g V (lsS L (sw1 T c)) (sw1 T c (8 * c + c)) (by omega)) rfl ?_
          rintro _ _ _ ⟨rfl, rfl, rfl⟩
          refine j_lstore_n d_M_solve_107 (i := 3) rfl (Nat.le_of_ble_eq_true rfl) (lv' := [_, _, _, _]) rfl ?_
          refine n_iconst d_M_solve_108 0 (by decide) ?_
          refine j_istore d_M_solve_109 (i := 5) (Nat.le_of_ble_eq_true rfl) (lv' := [_, _, _, _, _]) rfl ?_
          refine j_lv [2, 3, 1, 0] rfl ?_
          exact l3 8 0 (by omega)
        | succ mm ihj =>
          intro j hj
          have ihj' := ihj (j + 1) (by omega)
          rw [swp] at ihj'
          refine j_iload_n d_M_solve_33 rfl 3 rfl ?_
          refine n_bipush d_M_solve_34 8 (by decide) ?_
          refine n_icmp_ge d_M_solve_36 93 rfl (by omega) (by omega) (fun h => absurd h (by omega)) (fun h => ?_)
          refine j_aload_n d_M_solve_39 rfl 0 rfl ?_
          refine v_getR d_M_solve_40 lf_M_56 rfl (Nat.le_of_ble_eq_true rfl) rfl ?_
          refine n_bipush d_M_solve_43 8 (by decide) ?_
          refine j_iload_n d_M_solve_45 rfl 2 rfl ?_
          refine n_mul d_M_solve_46 ?_
          refine j_iload_n d_M_solve_47 rfl 3 rfl ?_
          refine n_add d_M_solve_48 ?_
          refine s_ld d_M_solve_49 rfl (by omega) ?_
          refine j_lstore d_M_solve_50 (i := 4) (Nat.le_of_ble_eq_true rfl) (lv' := [_, _, _, _, _]) rfl ?_
          refine j_aload_n d_M_solve_52 rfl 1 rfl ?_
          refine v_getR d_M_solve_53 lf_M_56 rfl (Nat.le_of_ble_eq_true rfl) rfl ?_
          refine n_bipush d_M_solve_56 8 (by decide) ?_
          refine j_iload_n d_M_solve_58 rfl 3 rfl ?_
          refine n_mul d_M_solve_59 ?_
          refine j_iload_n d_M_solve_60 rfl 4 rfl ?_
          refine n_add d_M_solve_61 ?_
          refine j_aload_n d_M_solve_62 rfl 1 rfl ?_
          refine v_getR d_M_solve_63 lf_M_56 rfl (Nat.le_of_ble_eq_true rfl) rfl ?_
          refine n_bipush d_M_solve_66 8 (by decide) ?_
          refine j_iload_n d_M_solve_68 rfl 2 rfl ?_
          refine n_mul d_M_solve_69 ?_
          refine j_iload_n d_M_solve_70 rfl 4 rfl ?_
          refine n_add d_M_solve_71 ?_
          refine s_ld d_M_solve_72 rfl (by omega) ?_
          refine s_st d_M_solve_73 rfl (by omega) ?_
          refine j_aload_n d_M_solve_74 rfl 1 rfl ?_
          refine v_getR d_M_solve_75 lf_M_56 rfl (Nat.le_of_ble_eq_true rfl) rfl ?_
          refine n_bipush d_M_solve_78 8 (by decide) ?_
          refine j_iload_n d_M_solve_80 rfl 2 rfl ?_
          refine n_mul d_M_solve_81 ?_
          refine j_iload_n d_M_solve_82 rfl 4 rfl ?_
          refine n_add d_M_solve_83 ?_
          refine j_lload d_M_solve_84 0 rfl ?_
          refine s_st d_M_solve_86 rfl (by omega) ?_
          refine n_iinc d_M_solve_87 1 (by decide) 4 rfl (Nat.le_of_ble_eq_true rfl) (lv' := [_, _, _, _, _]) rfl ?_
          refine j_goto d_M_solve_90 33 rfl ?_
          refine j_lv [2, 3, 4, 0] rfl ?_
          exact ihj'
      have l1 : ∀ (mm p : Nat), p + mm = 4 → pvs T c mm p = pvs T c (4 - c) c → jJ (g, Y_M_solve, (2, 50), 0, 0, jVQ g φ) [(0, .ref (jb g + 85)), (1, .int (nI c)), (2, .int (nI p))] (jv (g, Y_M_solve, (2, 50), 0, 0, jVQ g φ) V (lsS L (T)) 0 0) 9 [] := by
        intro mm
        induction mm with
        | zero =>
          intro p hp4 he
          exact absurd hpv (by rw [← he]; show ¬ p < 4; omega)
        | succ mm ihp =>
          intro p hp4 he
          rw [pvs] at he
          have q1 := hT (8 * p + c) (by omega)
          refine j_aload_n d_M_solve_9 rfl 0 rfl ?_
          refine v_getR d_M_solve_10 lf_M_56 rfl (Nat.le_of_ble_eq_true rfl) rfl ?_
          refine n_bipush d_M_solve_13 8 (by decide) ?_
          refine j_iload_n d_M_solve_15 rfl 2 rfl ?_
          refine n_mul d_M_solve_16 ?_
          refine j_iload_n d_M_solve_17 rfl 1 rfl ?_
          refine n_add d_M_solve_18 ?_
          refine s_ld d_M_solve_19 rfl (by omega) ?_
          refine j_lconst d_M_solve_20 (v := lN 0) (by decide) ?_
          refine j_lcmp d_M_solve_21 ?_
          refine n_lc_ne d_M_solve_22 31 rfl (by omega) (by omega) (fun h7 => ?_) (fun h7 => ?_)
          · rw [if_neg h7] at he
            rw [he]
            refine n_iconst d_M_solve_31 0 (by decide) ?_
            refine j_istore_n d_M_solve_32 (i := 3) rfl (Nat.le_of_ble_eq_true rfl) (lv' := [_, _, _, _]) rfl ?_
            refine j_lv [1, 2, 3, 0] rfl ?_
            exact l2 8 0 (by omega)
          · rw [if_pos h7] at he
            refine n_iinc d_M_solve_25 1 (by decide) 2 rfl (Nat.le_of_ble_eq_true rfl) (lv' := [_, _, _]) rfl ?_
            refine j_goto d_M_solve_28 9 rfl ?_
            refine j_lv [1, 2, 0] rfl ?_
            exact ihp (p + 1) (by omega) he
      refine j_iload_n d_M_solve_2 rfl 1 rfl ?_
      refine n_iconst d_M_solve_3 4 (by decide) ?_
      refine n_icmp_ge d_M_solve_4 265 rfl (by omega) (by omega) (fun h => absurd h (by omega)) (fun h => ?_)
      refine j_iload_n d_M_solve_7 rfl 1 rfl ?_
      refine j_istore_n d_M_solve_8 (i := 2) rfl (Nat.le_of_ble_eq_true rfl) (lv' := [_, _, _]) rfl ?_
      refine j_lv [1, 2, 0] rfl ?_
      exact l1 (4 - c) c (by omega) rfl
  refine n_iconst d_M_solve_0 0 (by decide) ?_
  refine j_istore_n d_M_solve_1 (i := 1) rfl (Nat.le_of_ble_eq_true rfl) (lv' := [_, _]) rfl ?_
  refine j_lv [1, 0] rfl ?_
  exact loop 4 0 (by omega)
