/-! the rows over flat numbers -/
def jw (f : jF) (I : Nat → Nat → Int32) (L : Nat → Nat → Int64) (k n : Nat) : jS := (104, jmem (jb f.1) I L, false, k, n)
/-- a contract over flat numbers: the method returns, with an answer and numbers of which φ holds -/
def jCQ (g : jG) (φ : Option Value → (Nat → Nat → Int32) → (Nat → Nat → Int64) → Prop) : jQ := fun r N mu x => ∃ v I L, φ v I L ∧ r = .inl v ∧ N = 104 ∧ mu = jmem (jb g) I L ∧ x = false
def jC (g : jG) (y : jY) (d : Nat × Nat) (as : List Value) (I : Nat → Nat → Int32) (L : Nat → Nat → Int64) (φ : Option Value → (Nat → Nat → Int32) → (Nat → Nat → Int64) → Prop) : Prop :=
  jMet g y d 0 0 as 104 (jmem (jb g) I L) false (jCQ g φ)
theorem jCQ_ret {g : jG} {φ : Option Value → (Nat → Nat → Int32) → (Nat → Nat → Int64) → Prop} : ∀ r N mu x, jCQ g φ r N mu x → ∃ v, r = .inl v := fun _ _ _ _ ⟨v, _, _, _, h, _⟩ => ⟨v, h⟩
section JFR
variable {f : jF} {lv : List (Nat × Value)} {k n : Nat} {I : Nat → Nat → Int32} {L : Nat → Nat → Int64} {pc : Nat} {st : List Value}
theorem m_getI {idx q ci kf : Nat} {fl : List Nat} (hd : decode (jyc f.2.1) pc = .ok (.getfield idx, 3)) (hF : jFld (jyo f.2.1) idx ci kf) (hs : jshp q = .inr (.inr (.inr (ci, fl)))) (hq : q < 104) (hk : fl[kf]? = some 0)
    (kk : jJ f lv (jw f I L k n) (pc + 3) (.int (I q kf) :: st)) : jJ f lv (jw f I L k n) pc (.ref (jb f.1 + q) :: st) :=
  j_getf hd hF hq (jmem_O hs) (by rw [jfv_get, hk]; simp) kk
theorem m_getL {idx q ci kf : Nat} {fl : List Nat} (hd : decode (jyc f.2.1) pc = .ok (.getfield idx, 3)) (hF : jFld (jyo f.2.1) idx ci kf) (hs : jshp q = .inr (.inr (.inr (ci, fl)))) (hq : q < 104) (hk : fl[kf]? = some 1)
    (kk : jJ f lv (jw f I L k n) (pc + 3) (.long (L q kf) :: st)) : jJ f lv (jw f I L k n) pc (.ref (jb f.1 + q) :: st) :=
  j_getf hd hF hq (jmem_O hs) (by rw [jfv_get, hk]; simp) kk
theorem m_getR {idx q ci kf a : Nat} {fl : List Nat} (hd : decode (jyc f.2.1) pc = .ok (.getfield idx, 3)) (hF : jFld (jyo f.2.1) idx ci kf) (hs : jshp q = .inr (.inr (.inr (ci, fl)))) (hq : q < 104) (hk : fl[kf]? = some (a + 2))
    (kk : jJ f lv (jw f I L k n) (pc + 3) (.ref (jb f.1 + a) :: st)) : jJ f lv (jw f I L k n) pc (.ref (jb f.1 + q) :: st) :=
  j_getf hd hF hq (jmem_O hs) (by rw [jfv_get, hk]; simp) kk
theorem m_putI {idx q ci kf : Nat} {fl : List Nat} {v : Int32} (hd : decode (jyc f.2.1) pc = .ok (.putfield idx, 3)) (hF : jFld (jyo f.2.1) idx ci kf) (hs : jshp q = .inr (.inr (.inr (ci, fl)))) (hq : q < 104) (hk : fl[kf]? = some 0) (hfin : jfin ci kf = false) (hn : narrow (jcty ci kf) (.int v) = .int v) (hfit : fits (jcty ci kf) (.int v) = true)
    (kk : jJ f lv (jw f (jup I q kf v) L k n) (pc + 3) st) : jJ f lv (jw f I L k n) pc (.int v :: .ref (jb f.1 + q) :: st) :=
  j_putf hd hF hq (jmem_O hs) (by rw [jfv_len]; exact (List.getElem?_eq_some_iff.mp hk).1) hfin hn hfit (by rw [jmem_upFI hs hk]; exact kk)
theorem m_putL {idx q ci kf : Nat} {fl : List Nat} {v : Int64} (hd : decode (jyc f.2.1) pc = .ok (.putfield idx, 3)) (hF : jFld (jyo f.2.1) idx ci kf) (hs : jshp q = .inr (.inr (.inr (ci, fl)))) (hq : q < 104) (hk : fl[kf]? = some 1) (hfin : jfin ci kf = false) (hn : narrow (jcty ci kf) (.long v) = .long v) (hfit : fits (jcty ci kf) (.long v) = true)
    (kk : jJ f lv (jw f I (jupL L q kf v) k n) (pc + 3) st) : jJ f lv (jw f I L k n) pc (.long v :: .ref (jb f.1 + q) :: st) :=
  j_putf hd hF hq (jmem_O hs) (by rw [jfv_len]; exact (List.getElem?_eq_some_iff.mp hk).1) hfin hn hfit (by rw [jmem_upFL hs hk]; exact kk)
theorem m_ild {q t na i : Nat} {z : Int32} (hd : decode (jyc f.2.1) pc = .ok (.iaload, 1)) (hs : jshp q = .inl (t, na)) (ht : jtyl[t]? = some .int) (hq : q < 104) (hz : z = nI i) (hi : i < na) (hna : na < 2 ^ 31)
    (kk : jJ f lv (jw f I L k n) (pc + 1) (.int (I q i) :: st)) : jJ f lv (jw f I L k n) pc (.int z :: .ref (jb f.1 + q) :: st) := by
  subst hz
  refine j_iald hd hq (jmem_I hs) ht (vp_in_nI hi hna) ?_
  rw [nI_clamp (Nat.lt_trans hi hna)]
  exact kk
theorem m_zld {q t na i : Nat} {z : Int32} (hd : decode (jyc f.2.1) pc = .ok (.baload, 1)) (hs : jshp q = .inl (t, na)) (ht : jtyl[t]? = some .boolean) (hq : q < 104) (hz : z = nI i) (hi : i < na) (hna : na < 2 ^ 31)
    (kk : jJ f lv (jw f I L k n) (pc + 1) (.int (I q i) :: st)) : jJ f lv (jw f I L k n) pc (.int z :: .ref (jb f.1 + q) :: st) := by
  subst hz
  refine j_zald hd hq (jmem_I hs) ht (vp_in_nI hi hna) ?_
  rw [nI_clamp (Nat.lt_trans hi hna)]
  exact kk
theorem m_lld {q t na i : Nat} {z : Int32} (hd : decode (jyc f.2.1) pc = .ok (.laload, 1)) (hs : jshp q = .inr (.inl (t, na))) (ht : jtyl[t]? = some .long) (hq : q < 104) (hz : z = nI i) (hi : i < na) (hna : na < 2 ^ 31)
    (kk : jJ f lv (jw f I L k n) (pc + 1) (.long (L q i) :: st)) : jJ f lv (jw f I L k n) pc (.int z :: .ref (jb f.1 + q) :: st) := by
  subst hz
  refine j_lald hd hq (jmem_L hs) ht (vp_in_nI hi hna) ?_
  rw [nI_clamp (Nat.lt_trans hi hna)]
  exact kk
theorem m_ald {q t i a : Nat} {rs : List Nat} {Cn : String} {z : Int32} (hd : decode (jyc f.2.1) pc = .ok (.aaload, 1)) (hs : jshp q = .inr (.inr (.inl (t, rs)))) (ht : jtyl[t]? = some (.object Cn)) (hq : q < 104) (hz : z = nI i) (hr : rs[i]? = some a) (hna : rs.length < 2 ^ 31)
    (kk : jJ f lv (jw f I L k n) (pc + 1) (.ref (jb f.1 + a) :: st)) : jJ f lv (jw f I L k n) pc (.int z :: .ref (jb f.1 + q) :: st) := by
  subst hz
  have hi : i < rs.length := (List.getElem?_eq_some_iff.mp hr).1
  refine j_aald hd hq (jmem_R hs) ht (vp_in_nI hi hna) ?_
  rw [nI_clamp (Nat.lt_trans hi hna), hr]
  exact kk
theorem m_ist {q t na i : Nat} {z v : Int32} (hd : decode (jyc f.2.1) pc = .ok (.iastore, 1)) (hs : jshp q = .inl (t, na)) (ht : jtyl[t]? = some .int) (hq : q < 104) (hz : z = nI i) (hi : i < na) (hna : na < 2 ^ 31)
    (kk : jJ f lv (jw f (jup I q i v) L k n) (pc + 1) st) : jJ f lv (jw f I L k n) pc (.int v :: .int z :: .ref (jb f.1 + q) :: st) := by
  subst hz
  refine j_iast hd hq (jmem_I hs) ht (vp_in_nI hi hna) ?_
  rw [nI_clamp (Nat.lt_trans hi hna), jmem_upI hs]
  exact kk
theorem m_zst {q t na i : Nat} {z v : Int32} (hd : decode (jyc f.2.1) pc = .ok (.bastore, 1)) (hs : jshp q = .inl (t, na)) (ht : jtyl[t]? = some .boolean) (hq : q < 104) (hz : z = nI i) (hi : i < na) (hna : na < 2 ^ 31) (hv : narrow .boolean (.int v) = .int v)
    (kk : jJ f lv (jw f (jup I q i v) L k n) (pc + 1) st) : jJ f lv (jw f I L k n) pc (.int v :: .int z :: .ref (jb f.1 + q) :: st) := by
  subst hz
  refine j_zast hd hq (jmem_I hs) ht (vp_in_nI hi hna) hv ?_
  rw [nI_clamp (Nat.lt_trans hi hna), jmem_upI hs]
  exact kk
theorem m_lst {q t na i : Nat} {z : Int32} {v : Int64} (hd : decode (jyc f.2.1) pc = .ok (.lastore, 1)) (hs : jshp q = .inr (.inl (t, na))) (ht : jtyl[t]? = some .long) (hq : q < 104) (hz : z = nI i) (hi : i < na) (hna : na < 2 ^ 31)
    (kk : jJ f lv (jw f I (jupL L q i v) k n) (pc + 1) st) : jJ f lv (jw f I L k n) pc (.long v :: .int z :: .ref (jb f.1 + q) :: st) := by
  subst hz
  refine j_last hd hq (jmem_L hs) ht (vp_in_nI hi hna) ?_
  rw [nI_clamp (Nat.lt_trans hi hna), jmem_upL hs]
  exact kk
theorem m_iret {v : Int32} {φ : Option Value → (Nat → Nat → Int32) → (Nat → Nat → Int64) → Prop} (hd : decode (jyc f.2.1) pc = .ok (.ireturn, 1)) (hr : jyr f.2.1 = some .int) (hk : k ≤ f.2.2.2.1) (hn : n ≤ f.2.2.2.2.1) (hf : f.2.2.2.2.2 = jCQ f.1 φ) (hφ : φ (some (.int v)) I L) : jJ f lv (jw f I L k n) pc [.int v] :=
  j_iret hd hr hk hn (by rw [hf]; exact ⟨_, _, _, hφ, rfl, rfl, rfl, rfl⟩)
theorem m_zret {v : Int32} {φ : Option Value → (Nat → Nat → Int32) → (Nat → Nat → Int64) → Prop} (hd : decode (jyc f.2.1) pc = .ok (.ireturn, 1)) (hr : jyr f.2.1 = some .boolean) (hv : narrow .boolean (.int v) = .int v) (hk : k ≤ f.2.2.2.1) (hn : n ≤ f.2.2.2.2.1) (hf : f.2.2.2.2.2 = jCQ f.1 φ) (hφ : φ (some (.int v)) I L) : jJ f lv (jw f I L k n) pc [.int v] :=
  j_zret hd hr hv hk hn (by rw [hf]; exact ⟨_, _, _, hφ, rfl, rfl, rfl, rfl⟩)
theorem m_lret {v : Int64} {φ : Option Value → (Nat → Nat → Int32) → (Nat → Nat → Int64) → Prop} (hd : decode (jyc f.2.1) pc = .ok (.lreturn, 1)) (hr : jyr f.2.1 = some .long) (hk : k ≤ f.2.2.2.1) (hn : n ≤ f.2.2.2.2.1) (hf : f.2.2.2.2.2 = jCQ f.1 φ) (hφ : φ (some (.long v)) I L) : jJ f lv (jw f I L k n) pc [.long v] :=
  j_lret hd hr hk hn (by rw [hf]; exact ⟨_, _, _, hφ, rfl, rfl, rfl, rfl⟩)
theorem m_vret {φ : Option Value → (Nat → Nat → Int32) → (Nat → Nat → Int64) → Prop} (hd : decode (jyc f.2.1) pc = .ok (.return_, 1)) (hr : jyr f.2.1 = none) (hk : k ≤ f.2.2.2.1) (hn : n ≤ f.2.2.2.2.1) (hf : f.2.2.2.2.2 = jCQ f.1 φ) (hφ : φ none I L) : jJ f lv (jw f I L k n) pc [] :=
  j_vret hd hr hk hn (by rw [hf]; exact ⟨_, _, _, hφ, rfl, rfl, rfl, rfl⟩)
theorem m_callV {y' : jY} {d' : Nat × Nat} {na idx q ci : Nat} {as rest st0 : List Value} {fl : List Nat} {r : vw_C} {φ : Option Value → (Nat → Nat → Int32) → (Nat → Nat → Int64) → Prop} (hd : decode (jyc f.2.1) pc = .ok (.invokevirtual idx, 3)) (hm : jMth y' na) (hlk : jLnk (jyo f.2.1) idx y') (hin : Cond.instanceMethod (jyn y') ∈ jTab) (hse : Cond.selects (jyn y').cls (jyn y') (jyn y') ∈ jTab)
    (hs : jshp q = .inr (.inr (.inr (ci, fl)))) (hq : q < 104) (hcl : jcl[ci]? = some r) (hrn : r.1 = (jyn y').cls) (hR : d'.1 + 1 ≤ f.2.2.1.1 ∧ 8 + (jyL y' + 11) + d'.2 ≤ f.2.2.1.2) (hW : (rest.map fun v => v.category).sum ≤ 8) (hna : as.length = na) (hk : k ≤ f.2.2.2.1) (hn : n ≤ f.2.2.2.2.1)
    (hC : jC f.1 y' d' (.ref (jb f.1 + q) :: as) I L φ) (hst : st0 = as.reverse ++ .ref (jb f.1 + q) :: rest) (kk : ∀ v I' L', φ v I' L' → jJ f lv (jw f I' L' k n) (pc + 3) (v.toList ++ rest)) : jJ f lv (jw f I L k n) pc st0 := by
  refine j_callV hd hm hlk hin hse hq (jmem_O hs) hcl hrn hR hk hn hW hna hC jCQ_ret hst ?_
  rintro v N' mu' x' ⟨v', I', L', h1, h2, rfl, rfl, rfl⟩
  cases h2
  exact kk v I' L' h1
theorem m_callS {y' : jY} {d' : Nat × Nat} {na idx : Nat} {as rest st0 : List Value} {φ : Option Value → (Nat → Nat → Int32) → (Nat → Nat → Int64) → Prop} (hd : decode (jyc f.2.1) pc = .ok (.invokestatic idx, 3)) (hm : jMth y' na) (hlk : jLnk (jyo f.2.1) idx y') (hsta : Cond.static (jyn y') ∈ jTab)
    (hR : d'.1 + 1 ≤ f.2.2.1.1 ∧ 8 + (jyL y' + 11) + d'.2 ≤ f.2.2.1.2) (hW : (rest.map fun v => v.category).sum ≤ 8) (hna : as.length = na) (hk : k ≤ f.2.2.2.1) (hn : n ≤ f.2.2.2.2.1)
    (hC : jC f.1 y' d' as I L φ) (hst : st0 = as.reverse ++ rest) (kk : ∀ v I' L', φ v I' L' → jJ f lv (jw f I' L' k n) (pc + 3) (v.toList ++ rest)) : jJ f lv (jw f I L k n) pc st0 := by
  refine j_callS hd hm hlk hsta hR hk hn hW hna hC jCQ_ret hst ?_
  rintro v N' mu' x' ⟨v', I', L', h1, h2, rfl, rfl, rfl⟩
  cases h2
  exact kk v I' L' h1
end JFR
