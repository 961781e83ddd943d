/-! calls of methods that catch; the law's own methods around the calls of the class -/
section JCW
variable {f : jF} {lv : List (Nat × Value)} {N k n : Nat} {x : Bool} {mu : Nat → jE} {pc : Nat} {st0 rest : List Value}
/-- what the tables say of a callee that catches -/
def jMtw (y : jY) (na : Nat) : Prop := jyh y ≠ [] ∧ Cond.codeWith (jyn y) (jyc y) (jyL y) (jyr y) (jyh y) ∈ jTab ∧ Cond.initialized (jyn y).cls ∈ jTab ∧ ((jyn y).cls ≠ "java/lang/invoke/MethodHandle" ∧ (jyn y).cls ≠ "java/lang/invoke/VarHandle") ∧
  (parseMethodDescriptor (jyn y).desc).map (fun d => d.parameters.length) = some na
theorem j_callW {y' : jY} {d' : Nat × Nat} {kC' kS' na idx : Nat} {as : List Value} {Q' : jQ} (hd : decode (jyc f.2.1) pc = .ok (.invokestatic idx, 3)) (hm : jMtw y' na) (hlk : Cond.methodLink (jyo f.2.1) idx (jyn y') ∈ jTab) (hsta : Cond.static (jyn y') ∈ jTab)
    (hR : d'.1 + 1 ≤ f.2.2.1.1 ∧ 8 + (jyL y' + 11) + d'.2 ≤ f.2.2.1.2) (hk : k + kC' ≤ f.2.2.2.1) (hn : n + kS' ≤ f.2.2.2.2.1) (hW : (rest.map fun v => v.category).sum ≤ 8) (hna : as.length = na)
    (hM : jMet f.1 y' d' kC' kS' as N mu x Q') (hret : ∀ r N' mu' x', Q' r N' mu' x' → ∃ v, r = .inl v)
    (hst : st0 = as.reverse ++ rest) (kk : ∀ v N' mu' x', Q' (.inl v) N' mu' x' → jJ f lv (N', mu', x', k + kC', n + kS') (pc + 3) (v.toList ++ rest)) : jJ f lv (N, mu, x, k, n) pc st0 := by
  obtain ⟨hh, hcode, hini, hno, hdes⟩ := hm
  refine j_run (kC' := kC') (kS' := kS') (Q' := Q') (rest := rest) ?_ kk hret
  intro p e s m args below meth c C ls H locs hls hP hz hS
  have hts : ∀ w ∈ jTab, w.before args s = true := fun w h => C.2.2.2.2.1.1 w h args
  have ecw : jcw y' = Cond.codeWith (jyn y') (jyc y') (jyL y') (jyr y') (jyh y') := by
    unfold jcw
    split
    · next h => exact absurd h hh
    · rfl
  have hK : Back (jl f.1) (jRm f.2.2.1 f.2.2.2.1 f.2.2.2.2.1) p e below s args (jyn y') 3 8 (PreOf (jRm f.2.2.1 f.2.2.2.1 f.2.2.2.2.1) kC' kS' (jPc f.1 as N mu x)) (PostOf (fun _ s o t => jEnd f.1 kC' kS' Q' s o t) kC' kS' (fun q => jb f.1 ≤ q)) :=
    va_backW (bytes := jyc y') (maxL := jyL y') (ret := jyr y') (hh := jyh y') (hM.met hret) jPc_blind rfl rfl hR.1 hR.2
      (fun w hw a' U hU => by rw [List.mem_singleton.mp hw, ecw]; exact jTab_warm hcode hU (C.2.2.2.2.1.1 _ hcode)) (by rw [ecw]; exact List.mem_singleton.mpr rfl)
      (fun a' U hU => jTab_warm hini hU (C.2.2.2.2.1.1 _ hini))
  intro T hT X
  obtain ⟨mk, methM, cM, hnamed, hmethM, -, -, -, -, -, -, hsigM⟩ := Cond.codeWith_spec (hts _ hcode)
  have hstatic : methM.isStatic = true := Cond.static_spec hnamed hmethM (hts _ hsta)
  obtain ⟨kP, hkP, -⟩ := className_of_methodNamed hnamed
  have hinitP : kP.init = .initialized := Cond.initialized_spec (findClass_of_methodNamed hnamed) hkP (hts _ hini)
  have hdg : decode c.code (F0 m pc ls st0).pc = .ok (.invokestatic idx, 3) := by rw [C.2.1]; exact hd
  have hdg2 : decode c.code (F0 m pc ls rest).pc = .ok (.invokestatic idx, 3) := hdg
  obtain ⟨vm₁, X₁, hstep₁⟩ := X.invokestatic C.1 C.2.2.2.1 (hts _ hlk) hnamed hmethM hstatic hkP hinitP hno (g := F0 m pc ls st0) rfl (argsL := as) (rest := rest) (hna.trans (jlen hdes _ hsigM)) hst hdg
  obtain ⟨v, ⟨U', l2, c2, s2⟩, X', ⟨g', mk', t, L, e1, e2, hq, h1, hL, h2, h3⟩, hsteps⟩ := hK m meth c ⟨T.setVm vm₁, locs, k, n⟩ (F0 m pc ls rest) (.invokestatic idx) mk as.toArray X₁ rfl (hls.trans C.2.2.1.symm) hdg2 (lv_room hW) (X₁.named hnamed) ⟨hk, hn, jpre C hP hz hS (T.setVm vm₁) hT X₁.warmed⟩
  dsimp only [Pt.U, Pt.locs, Pt.cells, Pt.slots] at X' e1 e2 h1 h2 h3 hsteps
  subst h1; subst h2; subst h3
  exact ⟨v, (T.setVm vm₁).calling g' mk' as.toArray, t, U', L, hT, X', hL, e1, e2, hq, fun target h => hstep₁ _ fun acts => by rw [doInvoke_state]; exact hsteps.trans h⟩
end JCW
/-- a method that returns and may have made one cell of six slots -/
def jK1 (g : jG) (y : jY) (d : Nat × Nat) (as : List Value) (V : Nat → Nat → Nat) (L : Nat → Nat → Int64) (φ : jΦ) : Prop := jMet g y d 1 6 as 104 (jmem (jb g) (jn V) L) false (jVQ g φ)
theorem jK1_entry {g : jG} {y : jY} {d : Nat × Nat} {as : List Value} {V : Nat → Nat → Nat} {L : Nat → Nat → Int64} {φ : jΦ} (hpl : plainName (jyn y).cls = true) (hown : (jyn y).cls = jyo y) (hlen : (lg_sl as).length ≤ jyL y)
    (hJ : jJ (g, y, d, 1, 6, jVQ g φ) (lv_args 0 as) (jv (g, y, d, 1, 6, jVQ g φ) V L 0 0) 0 []) : jK1 g y d as V L φ := j_entry hpl hown hlen hJ
section JV2
variable {f : jF} {lv : List (Nat × Value)} {V : Nat → Nat → Nat} {L : Nat → Nat → Int64} {k n pc : Nat} {rest st0 : List Value}
theorem v_callT {y' : jY} {d' : Nat × Nat} {na idx q ci kd : Nat} {as : List Value} {fl : List Nat} {r : vw_C} {φ : (Nat → Nat → Nat) → (Nat → Nat → Int64) → Prop} (hd : decode (jyc f.2.1) pc = .ok (.invokevirtual idx, 3)) (hm : jMth y' na) (hlk : Cond.methodLink (jyo f.2.1) idx (jyn y') ∈ jTab) (hin : Cond.instanceMethod (jyn y') ∈ jTab) (hse : Cond.selects (jyn y').cls (jyn y') (jyn y') ∈ jTab)
    (hs : jshp q = .inr (.inr (.inr (ci, fl)))) (hq : q < 104) (hcl : jcl[ci]? = some r) (hrn : r.1 = (jyn y').cls) (hR : d'.1 + 1 ≤ f.2.2.1.1 ∧ 8 + (jyL y' + 11) + d'.2 ≤ f.2.2.1.2) (hk : k + 1 ≤ f.2.2.2.1) (hn : n + 6 ≤ f.2.2.2.2.1) (hW : (rest.map fun v => v.category).sum ≤ 8) (hna : as.length = na)
    (hT : jT f.1 y' d' (.ref (jb f.1 + q) :: as) V L kd φ)
    (pre post : List (Nat × Nat × Nat × Nat)) (h : Nat × Nat × Nat × Nat) (hsp : jyh f.2.1 = pre ++ h :: post) (hcov : (decide (h.1 ≤ pc) && decide (pc < h.2.1)) = true) (hct : h.2.2.2 ≠ 0) (hcw : Cond.classLink (jyo f.2.1) h.2.2.2 (jex kd) ∈ jTab) (hcs : Cond.castable (jex kd) (jex kd) ∈ jTab)
    (hby : ∀ z ∈ pre, ∃ kz, z.2.2.2 ≠ 0 ∧ (decide (z.1 ≤ pc) && decide (pc < z.2.1)) = true ∧ Cond.classLink (jyo f.2.1) z.2.2.2 (jex kz) ∈ jTab ∧ jNo kd kz)
    (hst : st0 = as.reverse ++ .ref (jb f.1 + q) :: rest) (kk : ∀ a V' L', φ V' L' → jJ f lv (jv f V' L' (k + 1) (n + 6)) h.2.2.1 [.ref a]) : jJ f lv (jv f V L k n) pc st0 := by
  refine j_callT (q := q) hd hm hlk hin hse hq (jmem_O hs) hcl hrn hR hk hn hW hna hT (fun r N' mu' x' h => h.1) pre post h hsp hcov hct hcw hcs hby hst ?_
  rintro a N' mu' x' ⟨-, rfl, rfl, V', L', rfl, hφ⟩
  exact kk a V' L' hφ
theorem v_callW {y' : jY} {d' : Nat × Nat} {na idx : Nat} {as : List Value} {φ : jΦ} (hd : decode (jyc f.2.1) pc = .ok (.invokestatic idx, 3)) (hm : jMtw y' na) (hlk : Cond.methodLink (jyo f.2.1) idx (jyn y') ∈ jTab) (hsta : Cond.static (jyn y') ∈ jTab)
    (hR : d'.1 + 1 ≤ f.2.2.1.1 ∧ 8 + (jyL y' + 11) + d'.2 ≤ f.2.2.1.2) (hk : k + 1 ≤ f.2.2.2.1) (hn : n + 6 ≤ f.2.2.2.2.1) (hW : (rest.map fun v => v.category).sum ≤ 8) (hna : as.length = na)
    (hC : jK1 f.1 y' d' as V L φ) (hst : st0 = as.reverse ++ rest) (kk : ∀ v V' L', φ v V' L' → jJ f lv (jv f V' L' (k + 1) (n + 6)) (pc + 3) (jpu v rest)) : jJ f lv (jv f V L k n) pc st0 := by
  refine j_callW hd hm hlk hsta hR hk hn hW hna hC jCQ_ret hst ?_
  rintro v N' mu' x' ⟨v', I', L', ⟨V', rfl, h1⟩, h2, rfl, rfl, rfl⟩
  cases h2
  have h3 := kk v V' L' h1
  cases v <;> exact h3
end JV2
theorem mw_W_key : jMtw Y_W_key 3 := ⟨by decide +kernel, cw_W_key, iz_W, ⟨by decide +kernel, by decide +kernel⟩, by decide +kernel⟩
theorem w_key (g : jG) (V : Nat → Nat → Nat) (L : Nat → Nat → Int64) (a0 : Int64) (a1 : Int64) (V' : Nat → Nat → Nat) (L' : Nat → Nat → Int64) (hC : jK g Y_D_key (6, 86) [.ref (jb g + 0), .long a0, .long a1] V L (jA0 none V' L')) : jK1 g Y_W_key (7, 110) [.ref (jb g + 0), .long a0, .long a1] V L (jA0 (some (.int (nI 0))) V' L') := by
  refine jK1_entry (by decide +kernel) rfl (Nat.le_of_ble_eq_true rfl) ?_
  show jJ (g, Y_W_key, (7, 110), 1, 6, jVQ g (jA0 (some (.int (nI 0))) V' L')) [(0, .ref (jb g + 0)), (1, .long a0), (3, .long a1)] (jv (g, Y_W_key, (7, 110), 1, 6, jVQ g (jA0 (some (.int (nI 0))) V' L')) V L 0 0) 0 []
  refine j_aload_n d_W_key_0 rfl 0 rfl ?_
  refine j_lload_n d_W_key_1 rfl 1 rfl ?_
  refine j_lload_n d_W_key_2 rfl 2 rfl ?_
  refine v_callV d_W_key_3 mt_D_key ln_W_7 im_D_key se_D_key rfl (Nat.le_of_ble_eq_true rfl) rfl rfl ⟨Nat.le_of_ble_eq_true rfl, Nat.le_of_ble_eq_true rfl⟩ (Nat.le_of_ble_eq_true rfl) rfl (Nat.zero_le _) (Nat.zero_le _) (hC) rfl ?_
  rintro _ _ _ ⟨rfl, rfl, rfl⟩
  refine j_goto d_W_key_6 13 rfl ?_
  refine n_iconst d_W_key_13 0 (by decide) ?_
  exact v_iret d_W_key_14 rfl (Nat.zero_le _) (Nat.zero_le _) rfl jA0_rfl
theorem wt0_key (g : jG) (V : Nat → Nat → Nat) (L : Nat → Nat → Int64) (a0 : Int64) (a1 : Int64) (V' : Nat → Nat → Nat) (L' : Nat → Nat → Int64) (hT : jT g Y_D_key (6, 86) [.ref (jb g + 0), .long a0, .long a1] V L 0 (jB0 V' L')) : jK1 g Y_W_key (7, 110) [.ref (jb g + 0), .long a0, .long a1] V L (jA0 (some (.int (nI 1))) V' L') := by
  refine jK1_entry (by decide +kernel) rfl (Nat.le_of_ble_eq_true rfl) ?_
  show jJ (g, Y_W_key, (7, 110), 1, 6, jVQ g (jA0 (some (.int (nI 1))) V' L')) [(0, .ref (jb g + 0)), (1, .long a0), (3, .long a1)] (jv (g, Y_W_key, (7, 110), 1, 6, jVQ g (jA0 (some (.int (nI 1))) V' L')) V L 0 0) 0 []
  refine j_aload_n d_W_key_0 rfl 0 rfl ?_
  refine j_lload_n d_W_key_1 rfl 1 rfl ?_
  refine j_lload_n d_W_key_2 rfl 2 rfl ?_
  refine v_callT d_W_key_3 mt_D_key lm_W_7 im_D_key se_D_key rfl (Nat.le_of_ble_eq_true rfl) rfl rfl ⟨Nat.le_of_ble_eq_true rfl, Nat.le_of_ble_eq_true rfl⟩ (Nat.le_of_ble_eq_true rfl) (Nat.le_of_ble_eq_true rfl) (Nat.le_of_ble_eq_true rfl) rfl hT [] [] (0, 6, 9, 13) rfl rfl (by decide) lc_W_13 ca_ISE (fun z hz => absurd hz List.not_mem_nil) rfl ?_
  rintro a _ _ ⟨rfl, rfl⟩
  refine j_astore d_W_key_9 (i := 5) (Nat.le_of_ble_eq_true rfl) (lv' := [_, _, _, _]) rfl ?_
  refine n_iconst d_W_key_11 1 (by decide) ?_
  exact v_iret d_W_key_12 rfl (Nat.le_refl _) (Nat.le_refl _) rfl jA0_rfl
theorem mw_W_file : jMtw Y_W_file 3 := ⟨by decide +kernel, cw_W_file, iz_W, ⟨by decide +kernel, by decide +kernel⟩, by decide +kernel⟩
theorem w_file (g : jG) (V : Nat → Nat → Nat) (L : Nat → Nat → Int64) (a0 : Int32) (V' : Nat → Nat → Nat) (L' : Nat → Nat → Int64) (z : Int32) (hC : jK g Y_D_file (6, 115) [.ref (jb g + 0), .int a0] V L (jA0 (some (.int z)) V' L')) : jK1 g Y_W_file (7, 137) [.ref (jb g + 0), .int a0, .ref (jb g + 103)] V L (jA0 (some (.int (nI 0))) V' (jupL L' 103 0 z.toInt64)) := by
  refine jK1_entry (by decide +kernel) rfl (Nat.le_of_ble_eq_true rfl) ?_
  show jJ (g, Y_W_file, (7, 137), 1, 6, jVQ g (jA0 (some (.int (nI 0))) V' (jupL L' 103 0 z.toInt64))) [(0, .ref (jb g + 0)), (1, .int a0), (2, .ref (jb g + 103))] (jv (g, Y_W_file, (7, 137), 1, 6, jVQ g (jA0 (some (.int (nI 0))) V' (jupL L' 103 0 z.toInt64))) V L 0 0) 0 []
  refine j_aload_n d_W_file_0 rfl 2 rfl ?_
  refine n_iconst d_W_file_1 0 (by decide) ?_
  refine j_aload_n d_W_file_2 rfl 0 rfl ?_
  refine j_iload_n d_W_file_3 rfl 1 rfl ?_
  refine v_callV d_W_file_4 mt_D_file ln_W_15 im_D_file se_D_file rfl (Nat.le_of_ble_eq_true rfl) rfl rfl ⟨Nat.le_of_ble_eq_true rfl, Nat.le_of_ble_eq_true rfl⟩ (Nat.le_of_ble_eq_true rfl) rfl (Nat.zero_le _) (Nat.zero_le _) (hC) rfl ?_
  rintro _ _ _ ⟨rfl, rfl, rfl⟩
  refine j_i2l d_W_file_7 rfl ?_
  refine v_lst d_W_file_8 rfl rfl (Nat.le_of_ble_eq_true rfl) rfl (by omega) (by omega) ?_
  refine j_goto d_W_file_9 18 rfl ?_
  refine n_iconst d_W_file_18 0 (by decide) ?_
  exact v_iret d_W_file_19 rfl (Nat.zero_le _) (Nat.zero_le _) rfl jA0_rfl
theorem wt1_file (g : jG) (V : Nat → Nat → Nat) (L : Nat → Nat → Int64) (a0 : Int32) (V' : Nat → Nat → Nat) (L' : Nat → Nat → Int64) (hT : jT g Y_D_file (6, 115) [.ref (jb g + 0), .int a0] V L 1 (jB0 V' L')) : jK1 g Y_W_file (7, 137) [.ref (jb g + 0), .int a0, .ref (jb g + 103)] V L (jA0 (some (.int (nI 1))) V' L') := by
  refine jK1_entry (by decide +kernel) rfl (Nat.le_of_ble_eq_true rfl) ?_
  show jJ (g, Y_W_file, (7, 137), 1, 6, jVQ g (jA0 (some (.int (nI 1))) V' L')) [(0, .ref (jb g + 0)), (1, .int a0), (2, .ref (jb g + 103))] (jv (g, Y_W_file, (7, 137), 1, 6, jVQ g (jA0 (some (.int (nI 1))) V' L')) V L 0 0) 0 []
  refine j_aload_n d_W_file_0 rfl 2 rfl ?_
  refine n_iconst d_W_file_1 0 (by decide) ?_
  refine j_aload_n d_W_file_2 rfl 0 rfl ?_
  refine j_iload_n d_W_file_3 rfl 1 rfl ?_
  refine v_callT d_W_file_4 mt_D_file lm_W_15 im_D_file se_D_file rfl (Nat.le_of_ble_eq_true rfl) rfl rfl ⟨Nat.le_of_ble_eq_true rfl, Nat.le_of_ble_eq_true rfl⟩ (Nat.le_of_ble_eq_true rfl) (Nat.le_of_ble_eq_true rfl) (Nat.le_of_ble_eq_true rfl) rfl hT [] [(0, 9, 15, 13)] (0, 9, 12, 19) rfl rfl (by decide) lc_W_19 ca_IAE (fun z hz => absurd hz List.not_mem_nil) rfl ?_
  rintro a _ _ ⟨rfl, rfl⟩
  refine j_astore_n d_W_file_12 (i := 3) rfl (Nat.le_of_ble_eq_true rfl) (lv' := [_, _, _, _]) rfl ?_
  refine n_iconst d_W_file_13 1 (by decide) ?_
  exact v_iret d_W_file_14 rfl (Nat.le_refl _) (Nat.le_refl _) rfl jA0_rfl
theorem wt0_file (g : jG) (V : Nat → Nat → Nat) (L : Nat → Nat → Int64) (a0 : Int32) (V' : Nat → Nat → Nat) (L' : Nat → Nat → Int64) (hT : jT g Y_D_file (6, 115) [.ref (jb g + 0), .int a0] V L 0 (jB0 V' L')) : jK1 g Y_W_file (7, 137) [.ref (jb g + 0), .int a0, .ref (jb g + 103)] V L (jA0 (some (.int (nI 2))) V' L') := by
  refine jK1_entry (by decide +kernel) rfl (Nat.le_of_ble_eq_true rfl) ?_
  show jJ (g, Y_W_file, (7, 137), 1, 6, jVQ g (jA0 (some (.int (nI 2))) V' L')) [(0, .ref (jb g + 0)), (1, .int a0), (2, .ref (jb g + 103))] (jv (g, Y_W_file, (7, 137), 1, 6, jVQ g (jA0 (some (.int (nI 2))) V' L')) V L 0 0) 0 []
  refine j_aload_n d_W_file_0 rfl 2 rfl ?_
  refine n_iconst d_W_file_1 0 (by decide) ?_
  refine j_aload_n d_W_file_2 rfl 0 rfl ?_
  refine j_iload_n d_W_file_3 rfl 1 rfl ?_
  refine v_callT d_W_file_4 mt_D_file lm_W_15 im_D_file se_D_file rfl (Nat.le_of_ble_eq_true rfl) rfl rfl ⟨Nat.le_of_ble_eq_true rfl, Nat.le_of_ble_eq_true rfl⟩ (Nat.le_of_ble_eq_true rfl) (Nat.le_of_ble_eq_true rfl) (Nat.le_of_ble_eq_true rfl) rfl hT [(0, 9, 12, 19)] [] (0, 9, 15, 13) rfl rfl (by decide) lc_W_13 ca_ISE (fun z hz => by rw [List.mem_singleton.mp hz]; exact ⟨1, by decide, rfl, lc_W_19, by unfold jNo; decide +kernel⟩) rfl ?_
  rintro a _ _ ⟨rfl, rfl⟩
  refine j_astore_n d_W_file_15 (i := 3) rfl (Nat.le_of_ble_eq_true rfl) (lv' := [_, _, _, _]) rfl ?_
  refine n_iconst d_W_file_16 2 (by decide) ?_
  exact v_iret d_W_file_17 rfl (Nat.le_refl _) (Nat.le_refl _) rfl jA0_rfl
theorem mw_W_place : jMtw Y_W_place 4 := ⟨by decide +kernel, cw_W_place, iz_W, ⟨by decide +kernel, by decide +kernel⟩, by decide +kernel⟩
theorem w_place (g : jG) (V : Nat → Nat → Nat) (L : Nat → Nat → Int64) (a0 : Int32) (a1 : Int32) (V' : Nat → Nat → Nat) (L' : Nat → Nat → Int64) (b : Nat) (hb : b ≤ 1) (hC : jK g Y_D_place (6, 94) [.ref (jb g + 0), .int a0, .int a1] V L (jA0 (some (.int (nI b))) V' L')) : jK1 g Y_W_place (7, 117) [.ref (jb g + 0), .int a0, .int a1, .ref (jb g + 103)] V L (jA0 (some (.int (nI 0))) V' (jupL L' 103 0 (lN b))) := by
  refine jK1_entry (by decide +kernel) rfl (Nat.le_of_ble_eq_true rfl) ?_
  show jJ (g, Y_W_place, (7, 117), 1, 6, jVQ g (jA0 (some (.int (nI 0))) V' (jupL L' 103 0 (lN b)))) [(0, .ref (jb g + 0)), (1, .int a0), (2, .int a1), (3, .ref (jb g + 103))] (jv (g, Y_W_place, (7, 117), 1, 6, jVQ g (jA0 (some (.int (nI 0))) V' (jupL L' 103 0 (lN b)))) V L 0 0) 0 []
  refine j_aload_n d_W_place_0 rfl 3 rfl ?_
  refine n_iconst d_W_place_1 0 (by decide) ?_
  refine j_aload_n d_W_place_2 rfl 0 rfl ?_
  refine j_iload_n d_W_place_3 rfl 1 rfl ?_
  refine j_iload_n d_W_place_4 rfl 2 rfl ?_
  refine v_callV d_W_place_5 mt_D_place ln_W_21 im_D_place se_D_place rfl (Nat.le_of_ble_eq_true rfl) rfl rfl ⟨Nat.le_of_ble_eq_true rfl, Nat.le_of_ble_eq_true rfl⟩ (Nat.le_of_ble_eq_true rfl) rfl (Nat.zero_le _) (Nat.zero_le _) (hC) rfl ?_
  rintro _ _ _ ⟨rfl, rfl, rfl⟩
  refine n_if_eq d_W_place_8 15 rfl (by omega) (fun h0 => ?_) (fun h0 => ?_)
  · subst h0
    refine j_lconst d_W_place_15 (v := lN 0) (by decide) ?_
    refine v_lst d_W_place_16 rfl rfl (Nat.le_of_ble_eq_true rfl) rfl (by omega) (by omega) ?_
    refine j_goto d_W_place_17 24 rfl ?_
    refine n_iconst d_W_place_24 0 (by decide) ?_
    exact v_iret d_W_place_25 rfl (Nat.zero_le _) (Nat.zero_le _) rfl jA0_rfl
  · obtain rfl : b = 1 := by omega
    refine j_lconst d_W_place_11 (v := lN 1) (by decide) ?_
    refine j_goto d_W_place_12 16 rfl ?_
    refine v_lst d_W_place_16 rfl rfl (Nat.le_of_ble_eq_true rfl) rfl (by omega) (by omega) ?_
    refine j_goto d_W_place_17 24 rfl ?_
    refine n_iconst d_W_place_24 0 (by decide) ?_
    exact v_iret d_W_place_25 rfl (Nat.zero_le _) (Nat.zero_le _) rfl jA0_rfl
theorem wt2_place (g : jG) (V : Nat → Nat → Nat) (L : Nat → Nat → Int64) (a0 : Int32) (a1 : Int32) (V' : Nat → Nat → Nat) (L' : Nat → Nat → Int64) (hT : jT g Y_D_place (6, 94) [.ref (jb g + 0), .int a0, .int a1] V L 2 (jB0 V' L')) : jK1 g Y_W_place (7, 117) [.ref (jb g + 0), .int a0, .int a1, .ref (jb g + 103)] V L (jA0 (some (.int (nI 1))) V' L') := by
  refine jK1_entry (by decide +kernel) rfl (Nat.le_of_ble_eq_true rfl) ?_
  show jJ (g, Y_W_place, (7, 117), 1, 6, jVQ g (jA0 (some (.int (nI 1))) V' L')) [(0, .ref (jb g + 0)), (1, .int a0), (2, .int a1), (3, .ref (jb g + 103))] (jv (g, Y_W_place, (7, 117), 1, 6, jVQ g (jA0 (some (.int (nI 1))) V' L')) V L 0 0) 0 []
  refine j_aload_n d_W_place_0 rfl 3 rfl ?_
  refine n_iconst d_W_place_1 0 (by decide) ?_
  refine j_aload_n d_W_place_2 rfl 0 rfl ?_
  refine j_iload_n d_W_place_3 rfl 1 rfl ?_
  refine j_iload_n d_W_place_4 rfl 2 rfl ?_
  refine v_callT d_W_place_5 mt_D_place lm_W_21 im_D_place se_D_place rfl (Nat.le_of_ble_eq_true rfl) rfl rfl ⟨Nat.le_of_ble_eq_true rfl, Nat.le_of_ble_eq_true rfl⟩ (Nat.le_of_ble_eq_true rfl) (Nat.le_of_ble_eq_true rfl) (Nat.le_of_ble_eq_true rfl) rfl hT [] [] (0, 17, 20, 25) rfl rfl (by decide) lc_W_25 ca_IOE (fun z hz => absurd hz List.not_mem_nil) rfl ?_
  rintro a _ _ ⟨rfl, rfl⟩
  refine j_astore d_W_place_20 (i := 4) (Nat.le_of_ble_eq_true rfl) (lv' := [_, _, _, _, _]) rfl ?_
  refine n_iconst d_W_place_22 1 (by decide) ?_
  exact v_iret d_W_place_23 rfl (Nat.le_refl _) (Nat.le_refl _) rfl jA0_rfl
theorem mw_W_lose : jMtw Y_W_lose 5 := ⟨by decide +kernel, cw_W_lose, iz_W, ⟨by decide +kernel, by decide +kernel⟩, by decide +kernel⟩
theorem w_lose (g : jG) (V : Nat → Nat → Nat) (L : Nat → Nat → Int64) (a0 : Int32) (a1 : Int32) (a2 : Int32) (V' : Nat → Nat → Nat) (L' : Nat → Nat → Int64) (b : Nat) (hb : b ≤ 1) (hC : jK g Y_D_lose (6, 86) [.ref (jb g + 0), .int a0, .int a1, .int a2] V L (jA0 (some (.int (nI b))) V' L')) : jK1 g Y_W_lose (7, 110) [.ref (jb g + 0), .int a0, .int a1, .int a2, .ref (jb g + 103)] V L (jA0 (some (.int (nI 0))) V' (jupL L' 103 0 (lN b))) := by
  refine jK1_entry (by decide +kernel) rfl (Nat.le_of_ble_eq_true rfl) ?_
  show jJ (g, Y_W_lose, (7, 110), 1, 6, jVQ g (jA0 (some (.int (nI 0))) V' (jupL L' 103 0 (lN b)))) [(0, .ref (jb g + 0)), (1, .int a0), (2, .int a1), (3, .int a2), (4, .ref (jb g + 103))] (jv (g, Y_W_lose, (7, 110), 1, 6, jVQ g (jA0 (some (.int (nI 0))) V' (jupL L' 103 0 (lN b)))) V L 0 0) 0 []
  refine j_aload d_W_lose_0 4 rfl ?_
  refine n_iconst d_W_lose_2 0 (by decide) ?_
  refine j_aload_n d_W_lose_3 rfl 0 rfl ?_
  refine j_iload_n d_W_lose_4 rfl 1 rfl ?_
  refine j_iload_n d_W_lose_5 rfl 2 rfl ?_
  refine j_iload_n d_W_lose_6 rfl 3 rfl ?_
  refine v_callV d_W_lose_7 mt_D_lose ln_W_27 im_D_lose se_D_lose rfl (Nat.le_of_ble_eq_true rfl) rfl rfl ⟨Nat.le_of_ble_eq_true rfl, Nat.le_of_ble_eq_true rfl⟩ (Nat.le_of_ble_eq_true rfl) rfl (Nat.zero_le _) (Nat.zero_le _) (hC) rfl ?_
  rintro _ _ _ ⟨rfl, rfl, rfl⟩
  refine n_if_eq d_W_lose_10 17 rfl (by omega) (fun h0 => ?_) (fun h0 => ?_)
  · subst h0
    refine j_lconst d_W_lose_17 (v := lN 0) (by decide) ?_
    refine v_lst d_W_lose_18 rfl rfl (Nat.le_of_ble_eq_true rfl) rfl (by omega) (by omega) ?_
    refine j_goto d_W_lose_19 26 rfl ?_
    refine n_iconst d_W_lose_26 0 (by decide) ?_
    exact v_iret d_W_lose_27 rfl (Nat.zero_le _) (Nat.zero_le _) rfl jA0_rfl
  · obtain rfl : b = 1 := by omega
    refine j_lconst d_W_lose_13 (v := lN 1) (by decide) ?_
    refine j_goto d_W_lose_14 18 rfl ?_
    refine v_lst d_W_lose_18 rfl rfl (Nat.le_of_ble_eq_true rfl) rfl (by omega) (by omega) ?_
    refine j_goto d_W_lose_19 26 rfl ?_
    refine n_iconst d_W_lose_26 0 (by decide) ?_
    exact v_iret d_W_lose_27 rfl (Nat.zero_le _) (Nat.zero_le _) rfl jA0_rfl
theorem wt1_lose (g : jG) (V : Nat → Nat → Nat) (L : Nat → Nat → Int64) (a0 : Int32) (a1 : Int32) (a2 : Int32) (V' : Nat → Nat → Nat) (L' : Nat → Nat → Int64) (hT : jT g Y_D_lose (6, 86) [.ref (jb g + 0), .int a0, .int a1, .int a2] V L 1 (jB0 V' L')) : jK1 g Y_W_lose (7, 110) [.ref (jb g + 0), .int a0, .int a1, .int a2, .ref (jb g + 103)] V L (jA0 (some (.int (nI 1))) V' L') := by
  refine jK1_entry (by decide +kernel) rfl (Nat.le_of_ble_eq_true rfl) ?_
  show jJ (g, Y_W_lose, (7, 110), 1, 6, jVQ g (jA0 (some (.int (nI 1))) V' L')) [(0, .ref (jb g + 0)), (1, .int a0), (2, .int a1), (3, .int a2), (4, .ref (jb g + 103))] (jv (g, Y_W_lose, (7, 110), 1, 6, jVQ g (jA0 (some (.int (nI 1))) V' L')) V L 0 0) 0 []
  refine j_aload d_W_lose_0 4 rfl ?_
  refine n_iconst d_W_lose_2 0 (by decide) ?_
  refine j_aload_n d_W_lose_3 rfl 0 rfl ?_
  refine j_iload_n d_W_lose_4 rfl 1 rfl ?_
  refine j_iload_n d_W_lose_5 rfl 2 rfl ?_
  refine j_iload_n d_W_lose_6 rfl 3 rfl ?_
  refine v_callT d_W_lose_7 mt_D_lose lm_W_27 im_D_lose se_D_lose rfl (Nat.le_of_ble_eq_true rfl) rfl rfl ⟨Nat.le_of_ble_eq_true rfl, Nat.le_of_ble_eq_true rfl⟩ (Nat.le_of_ble_eq_true rfl) (Nat.le_of_ble_eq_true rfl) (Nat.le_of_ble_eq_true rfl) rfl hT [] [] (0, 19, 22, 19) rfl rfl (by decide) lc_W_19 ca_IAE (fun z hz => absurd hz List.not_mem_nil) rfl ?_
  rintro a _ _ ⟨rfl, rfl⟩
  refine j_astore d_W_lose_22 (i := 5) (Nat.le_of_ble_eq_true rfl) (lv' := [_, _, _, _, _, _]) rfl ?_
  refine n_iconst d_W_lose_24 1 (by decide) ?_
  exact v_iret d_W_lose_25 rfl (Nat.le_refl _) (Nat.le_refl _) rfl jA0_rfl
theorem mw_W_change : jMtw Y_W_change 7 := ⟨by decide +kernel, cw_W_change, iz_W, ⟨by decide +kernel, by decide +kernel⟩, by decide +kernel⟩
theorem w_change (g : jG) (V : Nat → Nat → Nat) (L : Nat → Nat → Int64) (a0 : Int32) (a1 : Int32) (a2 : Int32) (a3 : Int32) (a4 : Int32) (V' : Nat → Nat → Nat) (L' : Nat → Nat → Int64) (z : Int32) (hC : jK g Y_D_change (6, 86) [.ref (jb g + 0), .int a0, .int a1, .int a2, .int a3, .int a4] V L (jA0 (some (.int z)) V' L')) : jK1 g Y_W_change (7, 113) [.ref (jb g + 0), .int a0, .int a1, .int a2, .int a3, .int a4, .ref (jb g + 103)] V L (jA0 (some (.int (nI 0))) V' (jupL L' 103 0 z.toInt64)) := by
  refine jK1_entry (by decide +kernel) rfl (Nat.le_of_ble_eq_true rfl) ?_
  show jJ (g, Y_W_change, (7, 113), 1, 6, jVQ g (jA0 (some (.int (nI 0))) V' (jupL L' 103 0 z.toInt64))) [(0, .ref (jb g + 0)), (1, .int a0), (2, .int a1), (3, .int a2), (4, .int a3), (5, .int a4), (6, .ref (jb g + 103))] (jv (g, Y_W_change, (7, 113), 1, 6, jVQ g (jA0 (some (.int (nI 0))) V' (jupL L' 103 0 z.toInt64))) V L 0 0) 0 []
  refine j_aload d_W_change_0 6 rfl ?_
  refine n_iconst d_W_change_2 0 (by decide) ?_
  refine j_aload_n d_W_change_3 rfl 0 rfl ?_
  refine j_iload_n d_W_change_4 rfl 1 rfl ?_
  refine j_iload_n d_W_change_5 rfl 2 rfl ?_
  refine j_iload_n d_W_change_6 rfl 3 rfl ?_
  refine j_iload d_W_change_7 4 rfl ?_
  refine j_iload d_W_change_9 5 rfl ?_
  refine v_callV d_W_change_11 mt_D_change ln_W_31 im_D_change se_D_change rfl (Nat.le_of_ble_eq_true rfl) rfl rfl ⟨Nat.le_of_ble_eq_true rfl, Nat.le_of_ble_eq_true rfl⟩ (Nat.le_of_ble_eq_true rfl) rfl (Nat.zero_le _) (Nat.zero_le _) (hC) rfl ?_
  rintro _ _ _ ⟨rfl, rfl, rfl⟩
  refine j_i2l d_W_change_14 rfl ?_
  refine v_lst d_W_change_15 rfl rfl (Nat.le_of_ble_eq_true rfl) rfl (by omega) (by omega) ?_
  refine j_goto d_W_change_16 27 rfl ?_
  refine n_iconst d_W_change_27 0 (by decide) ?_
  exact v_iret d_W_change_28 rfl (Nat.zero_le _) (Nat.zero_le _) rfl jA0_rfl
theorem wt1_change (g : jG) (V : Nat → Nat → Nat) (L : Nat → Nat → Int64) (a0 : Int32) (a1 : Int32) (a2 : Int32) (a3 : Int32) (a4 : Int32) (V' : Nat → Nat → Nat) (L' : Nat → Nat → Int64) (hT : jT g Y_D_change (6, 86) [.ref (jb g + 0), .int a0, .int a1, .int a2, .int a3, .int a4] V L 1 (jB0 V' L')) : jK1 g Y_W_change (7, 113) [.ref (jb g + 0), .int a0, .int a1, .int a2, .int a3, .int a4, .ref (jb g + 103)] V L (jA0 (some (.int (nI 1))) V' L') := by
  refine jK1_entry (by decide +kernel) rfl (Nat.le_of_ble_eq_true rfl) ?_
  show jJ (g, Y_W_change, (7, 113), 1, 6, jVQ g (jA0 (some (.int (nI 1))) V' L')) [(0, .ref (jb g + 0)), (1, .int a0), (2, .int a1), (3, .int a2), (4, .int a3), (5, .int a4), (6, .ref (jb g + 103))] (jv (g, Y_W_change, (7, 113), 1, 6, jVQ g (jA0 (some (.int (nI 1))) V' L')) V L 0 0) 0 []
  refine j_aload d_W_change_0 6 rfl ?_
  refine n_iconst d_W_change_2 0 (by decide) ?_
  refine j_aload_n d_W_change_3 rfl 0 rfl ?_
  refine j_iload_n d_W_change_4 rfl 1 rfl ?_
  refine j_iload_n d_W_change_5 rfl 2 rfl ?_
  refine j_iload_n d_W_change_6 rfl 3 rfl ?_
  refine j_iload d_W_change_7 4 rfl ?_
  refine j_iload d_W_change_9 5 rfl ?_
  refine v_callT d_W_change_11 mt_D_change lm_W_31 im_D_change se_D_change rfl (Nat.le_of_ble_eq_true rfl) rfl rfl ⟨Nat.le_of_ble_eq_true rfl, Nat.le_of_ble_eq_true rfl⟩ (Nat.le_of_ble_eq_true rfl) (Nat.le_of_ble_eq_true rfl) (Nat.le_of_ble_eq_true rfl) rfl hT [] [(0, 16, 23, 13)] (0, 16, 19, 19) rfl rfl (by decide) lc_W_19 ca_IAE (fun z hz => absurd hz List.not_mem_nil) rfl ?_
  rintro a _ _ ⟨rfl, rfl⟩
  refine j_astore d_W_change_19 (i := 7) (Nat.le_of_ble_eq_true rfl) (lv' := [_, _, _, _, _, _, _, _]) rfl ?_
  refine n_iconst d_W_change_21 1 (by decide) ?_
  exact v_iret d_W_change_22 rfl (Nat.le_refl _) (Nat.le_refl _) rfl jA0_rfl
theorem wt0_change (g : jG) (V : Nat → Nat → Nat) (L : Nat → Nat → Int64) (a0 : Int32) (a1 : Int32) (a2 : Int32) (a3 : Int32) (a4 : Int32) (V' : Nat → Nat → Nat) (L' : Nat → Nat → Int64) (hT : jT g Y_D_change (6, 86) [.ref (jb g + 0), .int a0, .int a1, .int a2, .int a3, .int a4] V L 0 (jB0 V' L')) : jK1 g Y_W_change (7, 113) [.ref (jb g + 0), .int a0, .int a1, .int a2, .int a3, .int a4, .ref (jb g + 103)] V L (jA0 (some (.int (nI 2))) V' L') := by
  refine jK1_entry (by decide +kernel) rfl (Nat.le_of_ble_eq_true rfl) ?_
  show jJ (g, Y_W_change, (7, 113), 1, 6, jVQ g (jA0 (some (.int (nI 2))) V' L')) [(0, .ref (jb g + 0)), (1, .int a0), (2, .int a1), (3, .int a2), (4, .int a3), (5, .int a4), (6, .ref (jb g + 103))] (jv (g, Y_W_change, (7, 113), 1, 6, jVQ g (jA0 (some (.int (nI 2))) V' L')) V L 0 0) 0 []
  refine j_aload d_W_change_0 6 rfl ?_
  refine n_iconst d_W_change_2 0 (by decide) ?_
  refine j_aload_n d_W_change_3 rfl 0 rfl ?_
  refine j_iload_n d_W_change_4 rfl 1 rfl ?_
  refine j_iload_n d_W_change_5 rfl 2 rfl ?_
  refine j_iload_n d_W_change_6 rfl 3 rfl ?_
  refine j_iload d_W_change_7 4 rfl ?_
  refine j_iload d_W_change_9 5 rfl ?_
  refine v_callT d_W_change_11 mt_D_change lm_W_31 im_D_change se_D_change rfl (Nat.le_of_ble_eq_true rfl) rfl rfl ⟨Nat.le_of_ble_eq_true rfl, Nat.le_of_ble_eq_true rfl⟩ (Nat.le_of_ble_eq_true rfl) (Nat.le_of_ble_eq_true rfl) (Nat.le_of_ble_eq_true rfl) rfl hT [(0, 16, 19, 19)] [] (0, 16, 23, 13) rfl rfl (by decide) lc_W_13 ca_ISE (fun z hz => by rw [List.mem_singleton.mp hz]; exact ⟨1, by decide, rfl, lc_W_19, by unfold jNo; decide +kernel⟩) rfl ?_
  rintro a _ _ ⟨rfl, rfl⟩
  refine j_astore d_W_change_23 (i := 7) (Nat.le_of_ble_eq_true rfl) (lv' := [_, _, _, _, _, _, _, _]) rfl ?_
  refine n_iconst d_W_change_25 2 (by decide) ?_
  exact v_iret d_W_change_26 rfl (Nat.le_refl _) (Nat.le_refl _) rfl jA0_rfl
theorem mw_W_challenge : jMtw Y_W_challenge 6 := ⟨by decide +kernel, cw_W_challenge, iz_W, ⟨by decide +kernel, by decide +kernel⟩, by decide +kernel⟩
theorem w_challenge (g : jG) (V : Nat → Nat → Nat) (L : Nat → Nat → Int64) (a0 : Int32) (a1 : Int32) (a2 : Int32) (a3 : Int32) (V' : Nat → Nat → Nat) (L' : Nat → Nat → Int64) (z : Int32) (hC : jK g Y_D_challenge (6, 86) [.ref (jb g + 0), .int a0, .int a1, .int a2, .int a3] V L (jA0 (some (.int z)) V' L')) : jK1 g Y_W_challenge (7, 110) [.ref (jb g + 0), .int a0, .int a1, .int a2, .int a3, .ref (jb g + 103)] V L (jA0 (some (.int (nI 0))) V' (jupL L' 103 0 z.toInt64)) := by
  refine jK1_entry (by decide +kernel) rfl (Nat.le_of_ble_eq_true rfl) ?_
  show jJ (g, Y_W_challenge, (7, 110), 1, 6, jVQ g (jA0 (some (.int (nI 0))) V' (jupL L' 103 0 z.toInt64))) [(0, .ref (jb g + 0)), (1, .int a0), (2, .int a1), (3, .int a2), (4, .int a3), (5, .ref (jb g + 103))] (jv (g, Y_W_challenge, (7, 110), 1, 6, jVQ g (jA0 (some (.int (nI 0))) V' (jupL L' 103 0 z.toInt64))) V L 0 0) 0 []
  refine j_aload d_W_challenge_0 5 rfl ?_
  refine n_iconst d_W_challenge_2 0 (by decide) ?_
  refine j_aload_n d_W_challenge_3 rfl 0 rfl ?_
  refine j_iload_n d_W_challenge_4 rfl 1 rfl ?_
  refine j_iload_n d_W_challenge_5 rfl 2 rfl ?_
  refine j_iload_n d_W_challenge_6 rfl 3 rfl ?_
  refine j_iload d_W_challenge_7 4 rfl ?_
  refine v_callV d_W_challenge_9 mt_D_challenge ln_W_35 im_D_challenge se_D_challenge rfl (Nat.le_of_ble_eq_true rfl) rfl rfl ⟨Nat.le_of_ble_eq_true rfl, Nat.le_of_ble_eq_true rfl⟩ (Nat.le_of_ble_eq_true rfl) rfl (Nat.zero_le _) (Nat.zero_le _) (hC) rfl ?_
  rintro _ _ _ ⟨rfl, rfl, rfl⟩
  refine j_i2l d_W_challenge_12 rfl ?_
  refine v_lst d_W_challenge_13 rfl rfl (Nat.le_of_ble_eq_true rfl) rfl (by omega) (by omega) ?_
  refine j_goto d_W_challenge_14 21 rfl ?_
  refine n_iconst d_W_challenge_21 0 (by decide) ?_
  exact v_iret d_W_challenge_22 rfl (Nat.zero_le _) (Nat.zero_le _) rfl jA0_rfl
theorem wt1_challenge (g : jG) (V : Nat → Nat → Nat) (L : Nat → Nat → Int64) (a0 : Int32) (a1 : Int32) (a2 : Int32) (a3 : Int32) (V' : Nat → Nat → Nat) (L' : Nat → Nat → Int64) (hT : jT g Y_D_challenge (6, 86) [.ref (jb g + 0), .int a0, .int a1, .int a2, .int a3] V L 1 (jB0 V' L')) : jK1 g Y_W_challenge (7, 110) [.ref (jb g + 0), .int a0, .int a1, .int a2, .int a3, .ref (jb g + 103)] V L (jA0 (some (.int (nI 1))) V' L') := by
  refine jK1_entry (by decide +kernel) rfl (Nat.le_of_ble_eq_true rfl) ?_
  show jJ (g, Y_W_challenge, (7, 110), 1, 6, jVQ g (jA0 (some (.int (nI 1))) V' L')) [(0, .ref (jb g + 0)), (1, .int a0), (2, .int a1), (3, .int a2), (4, .int a3), (5, .ref (jb g + 103))] (jv (g, Y_W_challenge, (7, 110), 1, 6, jVQ g (jA0 (some (.int (nI 1))) V' L')) V L 0 0) 0 []
  refine j_aload d_W_challenge_0 5 rfl ?_
  refine n_iconst d_W_challenge_2 0 (by decide) ?_
  refine j_aload_n d_W_challenge_3 rfl 0 rfl ?_
  refine j_iload_n d_W_challenge_4 rfl 1 rfl ?_
  refine j_iload_n d_W_challenge_5 rfl 2 rfl ?_
  refine j_iload_n d_W_challenge_6 rfl 3 rfl ?_
  refine j_iload d_W_challenge_7 4 rfl ?_
  refine v_callT d_W_challenge_9 mt_D_challenge lm_W_35 im_D_challenge se_D_challenge rfl (Nat.le_of_ble_eq_true rfl) rfl rfl ⟨Nat.le_of_ble_eq_true rfl, Nat.le_of_ble_eq_true rfl⟩ (Nat.le_of_ble_eq_true rfl) (Nat.le_of_ble_eq_true rfl) (Nat.le_of_ble_eq_true rfl) rfl hT [] [] (0, 14, 17, 19) rfl rfl (by decide) lc_W_19 ca_IAE (fun z hz => absurd hz List.not_mem_nil) rfl ?_
  rintro a _ _ ⟨rfl, rfl⟩
  refine j_astore d_W_challenge_17 (i := 6) (Nat.le_of_ble_eq_true rfl) (lv' := [_, _, _, _, _, _, _]) rfl ?_
  refine n_iconst d_W_challenge_19 1 (by decide) ?_
  exact v_iret d_W_challenge_20 rfl (Nat.le_refl _) (Nat.le_refl _) rfl jA0_rfl
theorem mw_W_judge : jMtw Y_W_judge 2 := ⟨by decide +kernel, cw_W_judge, iz_W, ⟨by decide +kernel, by decide +kernel⟩, by decide +kernel⟩
theorem w_judge (g : jG) (V : Nat → Nat → Nat) (L : Nat → Nat → Int64)  (V' : Nat → Nat → Nat) (L' : Nat → Nat → Int64) (b : Nat) (hb : b ≤ 1) (hC : jK g Y_D_judge (6, 86) [.ref (jb g + 0)] V L (jA0 (some (.int (nI b))) V' L')) : jK1 g Y_W_judge (7, 107) [.ref (jb g + 0), .ref (jb g + 103)] V L (jA0 (some (.int (nI 0))) V' (jupL L' 103 0 (lN b))) := by
  refine jK1_entry (by decide +kernel) rfl (Nat.le_of_ble_eq_true rfl) ?_
  show jJ (g, Y_W_judge, (7, 107), 1, 6, jVQ g (jA0 (some (.int (nI 0))) V' (jupL L' 103 0 (lN b)))) [(0, .ref (jb g + 0)), (1, .ref (jb g + 103))] (jv (g, Y_W_judge, (7, 107), 1, 6, jVQ g (jA0 (some (.int (nI 0))) V' (jupL L' 103 0 (lN b)))) V L 0 0) 0 []
  refine j_aload_n d_W_judge_0 rfl 1 rfl ?_
  refine n_iconst d_W_judge_1 0 (by decide) ?_
  refine j_aload_n d_W_judge_2 rfl 0 rfl ?_
  refine v_callV d_W_judge_3 mt_D_judge ln_W_39 im_D_judge se_D_judge rfl (Nat.le_of_ble_eq_true rfl) rfl rfl ⟨Nat.le_of_ble_eq_true rfl, Nat.le_of_ble_eq_true rfl⟩ (Nat.le_of_ble_eq_true rfl) rfl (Nat.zero_le _) (Nat.zero_le _) (hC) rfl ?_
  rintro _ _ _ ⟨rfl, rfl, rfl⟩
  refine n_if_eq d_W_judge_6 13 rfl (by omega) (fun h0 => ?_) (fun h0 => ?_)
  · subst h0
    refine j_lconst d_W_judge_13 (v := lN 0) (by decide) ?_
    refine v_lst d_W_judge_14 rfl rfl (Nat.le_of_ble_eq_true rfl) rfl (by omega) (by omega) ?_
    refine j_goto d_W_judge_15 21 rfl ?_
    refine n_iconst d_W_judge_21 0 (by decide) ?_
    exact v_iret d_W_judge_22 rfl (Nat.zero_le _) (Nat.zero_le _) rfl jA0_rfl
  · obtain rfl : b = 1 := by omega
    refine j_lconst d_W_judge_9 (v := lN 1) (by decide) ?_
    refine j_goto d_W_judge_10 14 rfl ?_
    refine v_lst d_W_judge_14 rfl rfl (Nat.le_of_ble_eq_true rfl) rfl (by omega) (by omega) ?_
    refine j_goto d_W_judge_15 21 rfl ?_
    refine n_iconst d_W_judge_21 0 (by decide) ?_
    exact v_iret d_W_judge_22 rfl (Nat.zero_le _) (Nat.zero_le _) rfl jA0_rfl
theorem wt0_judge (g : jG) (V : Nat → Nat → Nat) (L : Nat → Nat → Int64)  (V' : Nat → Nat → Nat) (L' : Nat → Nat → Int64) (hT : jT g Y_D_judge (6, 86) [.ref (jb g + 0)] V L 0 (jB0 V' L')) : jK1 g Y_W_judge (7, 107) [.ref (jb g + 0), .ref (jb g + 103)] V L (jA0 (some (.int (nI 1))) V' L') := by
  refine jK1_entry (by decide +kernel) rfl (Nat.le_of_ble_eq_true rfl) ?_
  show jJ (g, Y_W_judge, (7, 107), 1, 6, jVQ g (jA0 (some (.int (nI 1))) V' L')) [(0, .ref (jb g + 0)), (1, .ref (jb g + 103))] (jv (g, Y_W_judge, (7, 107), 1, 6, jVQ g (jA0 (some (.int (nI 1))) V' L')) V L 0 0) 0 []
  refine j_aload_n d_W_judge_0 rfl 1 rfl ?_
  refine n_iconst d_W_judge_1 0 (by decide) ?_
  refine j_aload_n d_W_judge_2 rfl 0 rfl ?_
  refine v_callT d_W_judge_3 mt_D_judge lm_W_39 im_D_judge se_D_judge rfl (Nat.le_of_ble_eq_true rfl) rfl rfl ⟨Nat.le_of_ble_eq_true rfl, Nat.le_of_ble_eq_true rfl⟩ (Nat.le_of_ble_eq_true rfl) (Nat.le_of_ble_eq_true rfl) (Nat.le_of_ble_eq_true rfl) rfl hT [] [] (0, 15, 18, 13) rfl rfl (by decide) lc_W_13 ca_ISE (fun z hz => absurd hz List.not_mem_nil) rfl ?_
  rintro a _ _ ⟨rfl, rfl⟩
  refine j_astore_n d_W_judge_18 (i := 2) rfl (Nat.le_of_ble_eq_true rfl) (lv' := [_, _, _]) rfl ?_
  refine n_iconst d_W_judge_19 1 (by decide) ?_
  exact v_iret d_W_judge_20 rfl (Nat.le_refl _) (Nat.le_refl _) rfl jA0_rfl
theorem mw_W_locate : jMtw Y_W_locate 4 := ⟨by decide +kernel, cw_W_locate, iz_W, ⟨by decide +kernel, by decide +kernel⟩, by decide +kernel⟩
theorem w_locate (g : jG) (V : Nat → Nat → Nat) (L : Nat → Nat → Int64) (a0 : Int32) (a1 : Int32) (V' : Nat → Nat → Nat) (L' : Nat → Nat → Int64) (z : Int32) (hC : jK g Y_D_locate (6, 86) [.ref (jb g + 0), .int a0, .int a1] V L (jA0 (some (.int z)) V' L')) : jK1 g Y_W_locate (7, 109) [.ref (jb g + 0), .int a0, .int a1, .ref (jb g + 103)] V L (jA0 (some (.int (nI 0))) V' (jupL L' 103 0 z.toInt64)) := by
  refine jK1_entry (by decide +kernel) rfl (Nat.le_of_ble_eq_true rfl) ?_
  show jJ (g, Y_W_locate, (7, 109), 1, 6, jVQ g (jA0 (some (.int (nI 0))) V' (jupL L' 103 0 z.toInt64))) [(0, .ref (jb g + 0)), (1, .int a0), (2, .int a1), (3, .ref (jb g + 103))] (jv (g, Y_W_locate, (7, 109), 1, 6, jVQ g (jA0 (some (.int (nI 0))) V' (jupL L' 103 0 z.toInt64))) V L 0 0) 0 []
  refine j_aload_n d_W_locate_0 rfl 3 rfl ?_
  refine n_iconst d_W_locate_1 0 (by decide) ?_
  refine j_aload_n d_W_locate_2 rfl 0 rfl ?_
  refine j_iload_n d_W_locate_3 rfl 1 rfl ?_
  refine j_iload_n d_W_locate_4 rfl 2 rfl ?_
  refine v_callV d_W_locate_5 mt_D_locate ln_W_43 im_D_locate se_D_locate rfl (Nat.le_of_ble_eq_true rfl) rfl rfl ⟨Nat.le_of_ble_eq_true rfl, Nat.le_of_ble_eq_true rfl⟩ (Nat.le_of_ble_eq_true rfl) rfl (Nat.zero_le _) (Nat.zero_le _) (hC) rfl ?_
  rintro _ _ _ ⟨rfl, rfl, rfl⟩
  refine j_i2l d_W_locate_8 rfl ?_
  refine v_lst d_W_locate_9 rfl rfl (Nat.le_of_ble_eq_true rfl) rfl (by omega) (by omega) ?_
  refine j_goto d_W_locate_10 17 rfl ?_
  refine n_iconst d_W_locate_17 0 (by decide) ?_
  exact v_iret d_W_locate_18 rfl (Nat.zero_le _) (Nat.zero_le _) rfl jA0_rfl
theorem wt1_locate (g : jG) (V : Nat → Nat → Nat) (L : Nat → Nat → Int64) (a0 : Int32) (a1 : Int32) (V' : Nat → Nat → Nat) (L' : Nat → Nat → Int64) (hT : jT g Y_D_locate (6, 86) [.ref (jb g + 0), .int a0, .int a1] V L 1 (jB0 V' L')) : jK1 g Y_W_locate (7, 109) [.ref (jb g + 0), .int a0, .int a1, .ref (jb g + 103)] V L (jA0 (some (.int (nI 1))) V' L') := by
  refine jK1_entry (by decide +kernel) rfl (Nat.le_of_ble_eq_true rfl) ?_
  show jJ (g, Y_W_locate, (7, 109), 1, 6, jVQ g (jA0 (some (.int (nI 1))) V' L')) [(0, .ref (jb g + 0)), (1, .int a0), (2, .int a1), (3, .ref (jb g + 103))] (jv (g, Y_W_locate, (7, 109), 1, 6, jVQ g (jA0 (some (.int (nI 1))) V' L')) V L 0 0) 0 []
  refine j_aload_n d_W_locate_0 rfl 3 rfl ?_
  refine n_iconst d_W_locate_1 0 (by decide) ?_
  refine j_aload_n d_W_locate_2 rfl 0 rfl ?_
  refine j_iload_n d_W_locate_3 rfl 1 rfl ?_
  refine j_iload_n d_W_locate_4 rfl 2 rfl ?_
  refine v_callT d_W_locate_5 mt_D_locate lm_W_43 im_D_locate se_D_locate rfl (Nat.le_of_ble_eq_true rfl) rfl rfl ⟨Nat.le_of_ble_eq_true rfl, Nat.le_of_ble_eq_true rfl⟩ (Nat.le_of_ble_eq_true rfl) (Nat.le_of_ble_eq_true rfl) (Nat.le_of_ble_eq_true rfl) rfl hT [] [] (0, 10, 13, 19) rfl rfl (by decide) lc_W_19 ca_IAE (fun z hz => absurd hz List.not_mem_nil) rfl ?_
  rintro a _ _ ⟨rfl, rfl⟩
  refine j_astore d_W_locate_13 (i := 4) (Nat.le_of_ble_eq_true rfl) (lv' := [_, _, _, _, _]) rfl ?_
  refine n_iconst d_W_locate_15 1 (by decide) ?_
  exact v_iret d_W_locate_16 rfl (Nat.le_refl _) (Nat.le_refl _) rfl jA0_rfl
theorem mw_W_repair : jMtw Y_W_repair 4 := ⟨by decide +kernel, cw_W_repair, iz_W, ⟨by decide +kernel, by decide +kernel⟩, by decide +kernel⟩
theorem w_repair (g : jG) (V : Nat → Nat → Nat) (L : Nat → Nat → Int64) (a0 : Int32) (a1 : Int32) (V' : Nat → Nat → Nat) (L' : Nat → Nat → Int64) (z : Int32) (hC : jK g Y_D_repair (6, 146) [.ref (jb g + 0), .int a0, .int a1] V L (jA0 (some (.int z)) V' L')) : jK1 g Y_W_repair (7, 169) [.ref (jb g + 0), .int a0, .int a1, .ref (jb g + 103)] V L (jA0 (some (.int (nI 0))) V' (jupL L' 103 0 z.toInt64)) := by
  refine jK1_entry (by decide +kernel) rfl (Nat.le_of_ble_eq_true rfl) ?_
  show jJ (g, Y_W_repair, (7, 169), 1, 6, jVQ g (jA0 (some (.int (nI 0))) V' (jupL L' 103 0 z.toInt64))) [(0, .ref (jb g + 0)), (1, .int a0), (2, .int a1), (3, .ref (jb g + 103))] (jv (g, Y_W_repair, (7, 169), 1, 6, jVQ g (jA0 (some (.int (nI 0))) V' (jupL L' 103 0 z.toInt64))) V L 0 0) 0 []
  refine j_aload_n d_W_repair_0 rfl 3 rfl ?_
  refine n_iconst d_W_repair_1 0 (by decide) ?_
  refine j_aload_n d_W_repair_2 rfl 0 rfl ?_
  refine j_iload_n d_W_repair_3 rfl 1 rfl ?_
  refine j_iload_n d_W_repair_4 rfl 2 rfl ?_
  refine v_callV d_W_repair_5 mt_D_repair ln_W_47 im_D_repair se_D_repair rfl (Nat.le_of_ble_eq_true rfl) rfl rfl ⟨Nat.le_of_ble_eq_true rfl, Nat.le_of_ble_eq_true rfl⟩ (Nat.le_of_ble_eq_true rfl) rfl (Nat.zero_le _) (Nat.zero_le _) (hC) rfl ?_
  rintro _ _ _ ⟨rfl, rfl, rfl⟩
  refine j_i2l d_W_repair_8 rfl ?_
  refine v_lst d_W_repair_9 rfl rfl (Nat.le_of_ble_eq_true rfl) rfl (by omega) (by omega) ?_
  refine j_goto d_W_repair_10 21 rfl ?_
  refine n_iconst d_W_repair_21 0 (by decide) ?_
  exact v_iret d_W_repair_22 rfl (Nat.zero_le _) (Nat.zero_le _) rfl jA0_rfl
theorem wt2_repair (g : jG) (V : Nat → Nat → Nat) (L : Nat → Nat → Int64) (a0 : Int32) (a1 : Int32) (V' : Nat → Nat → Nat) (L' : Nat → Nat → Int64) (hT : jT g Y_D_repair (6, 146) [.ref (jb g + 0), .int a0, .int a1] V L 2 (jB0 V' L')) : jK1 g Y_W_repair (7, 169) [.ref (jb g + 0), .int a0, .int a1, .ref (jb g + 103)] V L (jA0 (some (.int (nI 1))) V' L') := by
  refine jK1_entry (by decide +kernel) rfl (Nat.le_of_ble_eq_true rfl) ?_
  show jJ (g, Y_W_repair, (7, 169), 1, 6, jVQ g (jA0 (some (.int (nI 1))) V' L')) [(0, .ref (jb g + 0)), (1, .int a0), (2, .int a1), (3, .ref (jb g + 103))] (jv (g, Y_W_repair, (7, 169), 1, 6, jVQ g (jA0 (some (.int (nI 1))) V' L')) V L 0 0) 0 []
  refine j_aload_n d_W_repair_0 rfl 3 rfl ?_
  refine n_iconst d_W_repair_1 0 (by decide) ?_
  refine j_aload_n d_W_repair_2 rfl 0 rfl ?_
  refine j_iload_n d_W_repair_3 rfl 1 rfl ?_
  refine j_iload_n d_W_repair_4 rfl 2 rfl ?_
  refine v_callT d_W_repair_5 mt_D_repair lm_W_47 im_D_repair se_D_repair rfl (Nat.le_of_ble_eq_true rfl) rfl rfl ⟨Nat.le_of_ble_eq_true rfl, Nat.le_of_ble_eq_true rfl⟩ (Nat.le_of_ble_eq_true rfl) (Nat.le_of_ble_eq_true rfl) (Nat.le_of_ble_eq_true rfl) rfl hT [] [(0, 10, 17, 13)] (0, 10, 13, 25) rfl rfl (by decide) lc_W_25 ca_IOE (fun z hz => absurd hz List.not_mem_nil) rfl ?_
  rintro a _ _ ⟨rfl, rfl⟩
  refine j_astore d_W_repair_13 (i := 4) (Nat.le_of_ble_eq_true rfl) (lv' := [_, _, _, _, _]) rfl ?_
  refine n_iconst d_W_repair_15 1 (by decide) ?_
  exact v_iret d_W_repair_16 rfl (Nat.le_refl _) (Nat.le_refl _) rfl jA0_rfl
theorem wt0_repair (g : jG) (V : Nat → Nat → Nat) (L : Nat → Nat → Int64) (a0 : Int32) (a1 : Int32) (V' : Nat → Nat → Nat) (L' : Nat → Nat → Int64) (hT : jT g Y_D_repair (6, 146) [.ref (jb g + 0), .int a0, .int a1] V L 0 (jB0 V' L')) : jK1 g Y_W_repair (7, 169) [.ref (jb g + 0), .int a0, .int a1, .ref (jb g + 103)] V L (jA0 (some (.int (nI 2))) V' L') := by
  refine jK1_entry (by decide +kernel) rfl (Nat.le_of_ble_eq_true rfl) ?_
  show jJ (g, Y_W_repair, (7, 169), 1, 6, jVQ g (jA0 (some (.int (nI 2))) V' L')) [(0, .ref (jb g + 0)), (1, .int a0), (2, .int a1), (3, .ref (jb g + 103))] (jv (g, Y_W_repair, (7, 169), 1, 6, jVQ g (jA0 (some (.int (nI 2))) V' L')) V L 0 0) 0 []
  refine j_aload_n d_W_repair_0 rfl 3 rfl ?_
  refine n_iconst d_W_repair_1 0 (by decide) ?_
  refine j_aload_n d_W_repair_2 rfl 0 rfl ?_
  refine j_iload_n d_W_repair_3 rfl 1 rfl ?_
  refine j_iload_n d_W_repair_4 rfl 2 rfl ?_
  refine v_callT d_W_repair_5 mt_D_repair lm_W_47 im_D_repair se_D_repair rfl (Nat.le_of_ble_eq_true rfl) rfl rfl ⟨Nat.le_of_ble_eq_true rfl, Nat.le_of_ble_eq_true rfl⟩ (Nat.le_of_ble_eq_true rfl) (Nat.le_of_ble_eq_true rfl) (Nat.le_of_ble_eq_true rfl) rfl hT [(0, 10, 13, 25)] [] (0, 10, 17, 13) rfl rfl (by decide) lc_W_13 ca_ISE (fun z hz => by rw [List.mem_singleton.mp hz]; exact ⟨2, by decide, rfl, lc_W_25, by unfold jNo; decide +kernel⟩) rfl ?_
  rintro a _ _ ⟨rfl, rfl⟩
  refine j_astore d_W_repair_17 (i := 4) (Nat.le_of_ble_eq_true rfl) (lv' := [_, _, _, _, _]) rfl ?_
  refine n_iconst d_W_repair_19 2 (by decide) ?_
  exact v_iret d_W_repair_20 rfl (Nat.le_refl _) (Nat.le_refl _) rfl jA0_rfl
theorem mw_W_fetch : jMtw Y_W_fetch 3 := ⟨by decide +kernel, cw_W_fetch, iz_W, ⟨by decide +kernel, by decide +kernel⟩, by decide +kernel⟩
theorem w_fetch (g : jG) (V : Nat → Nat → Nat) (L : Nat → Nat → Int64) (a0 : Int32) (V' : Nat → Nat → Nat) (L' : Nat → Nat → Int64) (z : Int32) (hC : jK g Y_D_fetch (6, 146) [.ref (jb g + 0), .int a0] V L (jA0 (some (.int z)) V' L')) : jK1 g Y_W_fetch (7, 168) [.ref (jb g + 0), .int a0, .ref (jb g + 103)] V L (jA0 (some (.int (nI 0))) V' (jupL L' 103 0 z.toInt64)) := by
  refine jK1_entry (by decide +kernel) rfl (Nat.le_of_ble_eq_true rfl) ?_
  show jJ (g, Y_W_fetch, (7, 168), 1, 6, jVQ g (jA0 (some (.int (nI 0))) V' (jupL L' 103 0 z.toInt64))) [(0, .ref (jb g + 0)), (1, .int a0), (2, .ref (jb g + 103))] (jv (g, Y_W_fetch, (7, 168), 1, 6, jVQ g (jA0 (some (.int (nI 0))) V' (jupL L' 103 0 z.toInt64))) V L 0 0) 0 []
  refine j_aload_n d_W_fetch_0 rfl 2 rfl ?_
  refine n_iconst d_W_fetch_1 0 (by decide) ?_
  refine j_aload_n d_W_fetch_2 rfl 0 rfl ?_
  refine j_iload_n d_W_fetch_3 rfl 1 rfl ?_
  refine v_callV d_W_fetch_4 mt_D_fetch ln_W_50 im_D_fetch se_D_fetch rfl (Nat.le_of_ble_eq_true rfl) rfl rfl ⟨Nat.le_of_ble_eq_true rfl, Nat.le_of_ble_eq_true rfl⟩ (Nat.le_of_ble_eq_true rfl) rfl (Nat.zero_le _) (Nat.zero_le _) (hC) rfl ?_
  rintro _ _ _ ⟨rfl, rfl, rfl⟩
  refine j_i2l d_W_fetch_7 rfl ?_
  refine v_lst d_W_fetch_8 rfl rfl (Nat.le_of_ble_eq_true rfl) rfl (by omega) (by omega) ?_
  refine j_goto d_W_fetch_9 18 rfl ?_
  refine n_iconst d_W_fetch_18 0 (by decide) ?_
  exact v_iret d_W_fetch_19 rfl (Nat.zero_le _) (Nat.zero_le _) rfl jA0_rfl
theorem wt2_fetch (g : jG) (V : Nat → Nat → Nat) (L : Nat → Nat → Int64) (a0 : Int32) (V' : Nat → Nat → Nat) (L' : Nat → Nat → Int64) (hT : jT g Y_D_fetch (6, 146) [.ref (jb g + 0), .int a0] V L 2 (jB0 V' L')) : jK1 g Y_W_fetch (7, 168) [.ref (jb g + 0), .int a0, .ref (jb g + 103)] V L (jA0 (some (.int (nI 1))) V' L') := by
  refine jK1_entry (by decide +kernel) rfl (Nat.le_of_ble_eq_true rfl) ?_
  show jJ (g, Y_W_fetch, (7, 168), 1, 6, jVQ g (jA0 (some (.int (nI 1))) V' L')) [(0, .ref (jb g + 0)), (1, .int a0), (2, .ref (jb g + 103))] (jv (g, Y_W_fetch, (7, 168), 1, 6, jVQ g (jA0 (some (.int (nI 1))) V' L')) V L 0 0) 0 []
  refine j_aload_n d_W_fetch_0 rfl 2 rfl ?_
  refine n_iconst d_W_fetch_1 0 (by decide) ?_
  refine j_aload_n d_W_fetch_2 rfl 0 rfl ?_
  refine j_iload_n d_W_fetch_3 rfl 1 rfl ?_
  refine v_callT d_W_fetch_4 mt_D_fetch lm_W_50 im_D_fetch se_D_fetch rfl (Nat.le_of_ble_eq_true rfl) rfl rfl ⟨Nat.le_of_ble_eq_true rfl, Nat.le_of_ble_eq_true rfl⟩ (Nat.le_of_ble_eq_true rfl) (Nat.le_of_ble_eq_true rfl) (Nat.le_of_ble_eq_true rfl) rfl hT [] [(0, 9, 15, 13)] (0, 9, 12, 25) rfl rfl (by decide) lc_W_25 ca_IOE (fun z hz => absurd hz List.not_mem_nil) rfl ?_
  rintro a _ _ ⟨rfl, rfl⟩
  refine j_astore_n d_W_fetch_12 (i := 3) rfl (Nat.le_of_ble_eq_true rfl) (lv' := [_, _, _, _]) rfl ?_
  refine n_iconst d_W_fetch_13 1 (by decide) ?_
  exact v_iret d_W_fetch_14 rfl (Nat.le_refl _) (Nat.le_refl _) rfl jA0_rfl
theorem wt0_fetch (g : jG) (V : Nat → Nat → Nat) (L : Nat → Nat → Int64) (a0 : Int32) (V' : Nat → Nat → Nat) (L' : Nat → Nat → Int64) (hT : jT g Y_D_fetch (6, 146) [.ref (jb g + 0), .int a0] V L 0 (jB0 V' L')) : jK1 g Y_W_fetch (7, 168) [.ref (jb g + 0), .int a0, .ref (jb g + 103)] V L (jA0 (some (.int (nI 2))) V' L') := by
  refine jK1_entry (by decide +kernel) rfl (Nat.le_of_ble_eq_true rfl) ?_
  show jJ (g, Y_W_fetch, (7, 168), 1, 6, jVQ g (jA0 (some (.int (nI 2))) V' L')) [(0, .ref (jb g + 0)), (1, .int a0), (2, .ref (jb g + 103))] (jv (g, Y_W_fetch, (7, 168), 1, 6, jVQ g (jA0 (some (.int (nI 2))) V' L')) V L 0 0) 0 []
  refine j_aload_n d_W_fetch_0 rfl 2 rfl ?_
  refine n_iconst d_W_fetch_1 0 (by decide) ?_
  refine j_aload_n d_W_fetch_2 rfl 0 rfl ?_
  refine j_iload_n d_W_fetch_3 rfl 1 rfl ?_
  refine v_callT d_W_fetch_4 mt_D_fetch lm_W_50 im_D_fetch se_D_fetch rfl (Nat.le_of_ble_eq_true rfl) rfl rfl ⟨Nat.le_of_ble_eq_true rfl, Nat.le_of_ble_eq_true rfl⟩ (Nat.le_of_ble_eq_true rfl) (Nat.le_of_ble_eq_true rfl) (Nat.le_of_ble_eq_true rfl) rfl hT [(0, 9, 12, 25)] [] (0, 9, 15, 13) rfl rfl (by decide) lc_W_13 ca_ISE (fun z hz => by rw [List.mem_singleton.mp hz]; exact ⟨2, by decide, rfl, lc_W_25, by unfold jNo; decide +kernel⟩) rfl ?_
  rintro a _ _ ⟨rfl, rfl⟩
  refine j_astore_n d_W_fetch_15 (i := 3) rfl (Nat.le_of_ble_eq_true rfl) (lv' := [_, _, _, _]) rfl ?_
  refine n_iconst d_W_fetch_16 2 (by decide) ?_
  exact v_iret d_W_fetch_17 rfl (Nat.le_refl _) (Nat.le_refl _) rfl jA0_rfl
theorem mw_W_made : jMtw Y_W_made 5 := ⟨by decide +kernel, cw_W_made, iz_W, ⟨by decide +kernel, by decide +kernel⟩, by decide +kernel⟩
theorem w_made (g : jG) (V : Nat → Nat → Nat) (L : Nat → Nat → Int64) (a0 : Int32) (a1 : Int32) (a2 : Int32) (V' : Nat → Nat → Nat) (L' : Nat → Nat → Int64) (z : Int32) (hC : jK g Y_D_made (6, 86) [.ref (jb g + 0), .int a0, .int a1, .int a2] V L (jA0 (some (.int z)) V' L')) : jK1 g Y_W_made (7, 109) [.ref (jb g + 0), .int a0, .int a1, .int a2, .ref (jb g + 103)] V L (jA0 (some (.int (nI 0))) V' (jupL L' 103 0 z.toInt64)) := by
  refine jK1_entry (by decide +kernel) rfl (Nat.le_of_ble_eq_true rfl) ?_
  show jJ (g, Y_W_made, (7, 109), 1, 6, jVQ g (jA0 (some (.int (nI 0))) V' (jupL L' 103 0 z.toInt64))) [(0, .ref (jb g + 0)), (1, .int a0), (2, .int a1), (3, .int a2), (4, .ref (jb g + 103))] (jv (g, Y_W_made, (7, 109), 1, 6, jVQ g (jA0 (some (.int (nI 0))) V' (jupL L' 103 0 z.toInt64))) V L 0 0) 0 []
  refine j_aload d_W_made_0 4 rfl ?_
  refine n_iconst d_W_made_2 0 (by decide) ?_
  refine j_aload_n d_W_made_3 rfl 0 rfl ?_
  refine j_iload_n d_W_made_4 rfl 1 rfl ?_
  refine j_iload_n d_W_made_5 rfl 2 rfl ?_
  refine j_iload_n d_W_made_6 rfl 3 rfl ?_
  refine v_callV d_W_made_7 mt_D_made ln_W_53 im_D_made se_D_made rfl (Nat.le_of_ble_eq_true rfl) rfl rfl ⟨Nat.le_of_ble_eq_true rfl, Nat.le_of_ble_eq_true rfl⟩ (Nat.le_of_ble_eq_true rfl) rfl (Nat.zero_le _) (Nat.zero_le _) (hC) rfl ?_
  rintro _ _ _ ⟨rfl, rfl, rfl⟩
  refine j_i2l d_W_made_10 rfl ?_
  refine v_lst d_W_made_11 rfl rfl (Nat.le_of_ble_eq_true rfl) rfl (by omega) (by omega) ?_
  refine j_goto d_W_made_12 19 rfl ?_
  refine n_iconst d_W_made_19 0 (by decide) ?_
  exact v_iret d_W_made_20 rfl (Nat.zero_le _) (Nat.zero_le _) rfl jA0_rfl
theorem wt2_made (g : jG) (V : Nat → Nat → Nat) (L : Nat → Nat → Int64) (a0 : Int32) (a1 : Int32) (a2 : Int32) (V' : Nat → Nat → Nat) (L' : Nat → Nat → Int64) (hT : jT g Y_D_made (6, 86) [.ref (jb g + 0), .int a0, .int a1, .int a2] V L 2 (jB0 V' L')) : jK1 g Y_W_made (7, 109) [.ref (jb g + 0), .int a0, .int a1, .int a2, .ref (jb g + 103)] V L (jA0 (some (.int (nI 1))) V' L') := by
  refine jK1_entry (by decide +kernel) rfl (Nat.le_of_ble_eq_true rfl) ?_
  show jJ (g, Y_W_made, (7, 109), 1, 6, jVQ g (jA0 (some (.int (nI 1))) V' L')) [(0, .ref (jb g + 0)), (1, .int a0), (2, .int a1), (3, .int a2), (4, .ref (jb g + 103))] (jv (g, Y_W_made, (7, 109), 1, 6, jVQ g (jA0 (some (.int (nI 1))) V' L')) V L 0 0) 0 []
  refine j_aload d_W_made_0 4 rfl ?_
  refine n_iconst d_W_made_2 0 (by decide) ?_
  refine j_aload_n d_W_made_3 rfl 0 rfl ?_
  refine j_iload_n d_W_made_4 rfl 1 rfl ?_
  refine j_iload_n d_W_made_5 rfl 2 rfl ?_
  refine j_iload_n d_W_made_6 rfl 3 rfl ?_
  refine v_callT d_W_made_7 mt_D_made lm_W_53 im_D_made se_D_made rfl (Nat.le_of_ble_eq_true rfl) rfl rfl ⟨Nat.le_of_ble_eq_true rfl, Nat.le_of_ble_eq_true rfl⟩ (Nat.le_of_ble_eq_true rfl) (Nat.le_of_ble_eq_true rfl) (Nat.le_of_ble_eq_true rfl) rfl hT [] [] (0, 12, 15, 25) rfl rfl (by decide) lc_W_25 ca_IOE (fun z hz => absurd hz List.not_mem_nil) rfl ?_
  rintro a _ _ ⟨rfl, rfl⟩
  refine j_astore d_W_made_15 (i := 5) (Nat.le_of_ble_eq_true rfl) (lv' := [_, _, _, _, _, _]) rfl ?_
  refine n_iconst d_W_made_17 1 (by decide) ?_
  exact v_iret d_W_made_18 rfl (Nat.le_refl _) (Nat.le_refl _) rfl jA0_rfl
theorem mw_W_kept : jMtw Y_W_kept 6 := ⟨by decide +kernel, cw_W_kept, iz_W, ⟨by decide +kernel, by decide +kernel⟩, by decide +kernel⟩
theorem w_kept (g : jG) (V : Nat → Nat → Nat) (L : Nat → Nat → Int64) (a0 : Int32) (a1 : Int32) (a2 : Int32) (a3 : Int32) (V' : Nat → Nat → Nat) (L' : Nat → Nat → Int64) (z : Int32) (hC : jK g Y_D_kept (6, 86) [.ref (jb g + 0), .int a0, .int a1, .int a2, .int a3] V L (jA0 (some (.int z)) V' L')) : jK1 g Y_W_kept (7, 111) [.ref (jb g + 0), .int a0, .int a1, .int a2, .int a3, .ref (jb g + 103)] V L (jA0 (some (.int (nI 0))) V' (jupL L' 103 0 z.toInt64)) := by
  refine jK1_entry (by decide +kernel) rfl (Nat.le_of_ble_eq_true rfl) ?_
  show jJ (g, Y_W_kept, (7, 111), 1, 6, jVQ g (jA0 (some (.int (nI 0))) V' (jupL L' 103 0 z.toInt64))) [(0, .ref (jb g + 0)), (1, .int a0), (2, .int a1), (3, .int a2), (4, .int a3), (5, .ref (jb g + 103))] (jv (g, Y_W_kept, (7, 111), 1, 6, jVQ g (jA0 (some (.int (nI 0))) V' (jupL L' 103 0 z.toInt64))) V L 0 0) 0 []
  refine j_aload d_W_kept_0 5 rfl ?_
  refine n_iconst d_W_kept_2 0 (by decide) ?_
  refine j_aload_n d_W_kept_3 rfl 0 rfl ?_
  refine j_iload_n d_W_kept_4 rfl 1 rfl ?_
  refine j_iload_n d_W_kept_5 rfl 2 rfl ?_
  refine j_iload_n d_W_kept_6 rfl 3 rfl ?_
  refine j_iload d_W_kept_7 4 rfl ?_
  refine v_callV d_W_kept_9 mt_D_kept ln_W_57 im_D_kept se_D_kept rfl (Nat.le_of_ble_eq_true rfl) rfl rfl ⟨Nat.le_of_ble_eq_true rfl, Nat.le_of_ble_eq_true rfl⟩ (Nat.le_of_ble_eq_true rfl) rfl (Nat.zero_le _) (Nat.zero_le _) (hC) rfl ?_
  rintro _ _ _ ⟨rfl, rfl, rfl⟩
  refine j_i2l d_W_kept_12 rfl ?_
  refine v_lst d_W_kept_13 rfl rfl (Nat.le_of_ble_eq_true rfl) rfl (by omega) (by omega) ?_
  refine j_goto d_W_kept_14 21 rfl ?_
  refine n_iconst d_W_kept_21 0 (by decide) ?_
  exact v_iret d_W_kept_22 rfl (Nat.zero_le _) (Nat.zero_le _) rfl jA0_rfl
theorem wt1_kept (g : jG) (V : Nat → Nat → Nat) (L : Nat → Nat → Int64) (a0 : Int32) (a1 : Int32) (a2 : Int32) (a3 : Int32) (V' : Nat → Nat → Nat) (L' : Nat → Nat → Int64) (hT : jT g Y_D_kept (6, 86) [.ref (jb g + 0), .int a0, .int a1, .int a2, .int a3] V L 1 (jB0 V' L')) : jK1 g Y_W_kept (7, 111) [.ref (jb g + 0), .int a0, .int a1, .int a2, .int a3, .ref (jb g + 103)] V L (jA0 (some (.int (nI 1))) V' L') := by
  refine jK1_entry (by decide +kernel) rfl (Nat.le_of_ble_eq_true rfl) ?_
  show jJ (g, Y_W_kept, (7, 111), 1, 6, jVQ g (jA0 (some (.int (nI 1))) V' L')) [(0, .ref (jb g + 0)), (1, .int a0), (2, .int a1), (3, .int a2), (4, .int a3), (5, .ref (jb g + 103))] (jv (g, Y_W_kept, (7, 111), 1, 6, jVQ g (jA0 (some (.int (nI 1))) V' L')) V L 0 0) 0 []
  refine j_aload d_W_kept_0 5 rfl ?_
  refine n_iconst d_W_kept_2 0 (by decide) ?_
  refine j_aload_n d_W_kept_3 rfl 0 rfl ?_
  refine j_iload_n d_W_kept_4 rfl 1 rfl ?_
  refine j_iload_n d_W_kept_5 rfl 2 rfl ?_
  refine j_iload_n d_W_kept_6 rfl 3 rfl ?_
  refine j_iload d_W_kept_7 4 rfl ?_
  refine v_callT d_W_kept_9 mt_D_kept lm_W_57 im_D_kept se_D_kept rfl (Nat.le_of_ble_eq_true rfl) rfl rfl ⟨Nat.le_of_ble_eq_true rfl, Nat.le_of_ble_eq_true rfl⟩ (Nat.le_of_ble_eq_true rfl) (Nat.le_of_ble_eq_true rfl) (Nat.le_of_ble_eq_true rfl) rfl hT [] [] (0, 14, 17, 19) rfl rfl (by decide) lc_W_19 ca_IAE (fun z hz => absurd hz List.not_mem_nil) rfl ?_
  rintro a _ _ ⟨rfl, rfl⟩
  refine j_astore d_W_kept_17 (i := 6) (Nat.le_of_ble_eq_true rfl) (lv' := [_, _, _, _, _, _, _]) rfl ?_
  refine n_iconst d_W_kept_19 1 (by decide) ?_
  exact v_iret d_W_kept_20 rfl (Nat.le_refl _) (Nat.le_refl _) rfl jA0_rfl
