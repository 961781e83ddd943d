/-! the rows over flat naturals: every int of the cells is nI of a natural -/
def jn (V : Nat → Nat → Nat) : Nat → Nat → Int32 := fun q j => nI (V q j)
def vu (V : Nat → Nat → Nat) (q j v : Nat) : Nat → Nat → Nat := fun a i => if a = q ∧ i = j then v else V a i
theorem jn_up (V : Nat → Nat → Nat) (q j v : Nat) : jup (jn V) q j (nI v) = jn (vu V q j v) := by
  funext a i
  unfold jup jn vu upd
  by_cases ha : a = q
  · subst ha
    by_cases hi : i = j
    · simp [hi]
    · simp [hi]
  · simp [ha]
theorem vu_eq (V : Nat → Nat → Nat) (q j v : Nat) : vu V q j v q j = v := by simp [vu]
theorem vu_ne (V : Nat → Nat → Nat) {q j a i : Nat} (v : Nat) (h : ¬ (a = q ∧ i = j)) : vu V q j v a i = V a i := if_neg h
theorem vu_nq (V : Nat → Nat → Nat) {q a : Nat} (j v : Nat) (h : a ≠ q) : vu V q j v a = V a := by
  funext i
  exact if_neg (fun z => h z.1)
def jv (f : jF) (V : Nat → Nat → Nat) (L : Nat → Nat → Int64) (k n : Nat) : jS := jw f (jn V) L k n
abbrev jΦ : Type := Option Value → (Nat → Nat → Nat) → (Nat → Nat → Int64) → Prop
def jVQ (g : jG) (φ : jΦ) : jQ := jCQ g (fun v I L => ∃ V, I = jn V ∧ φ v V L)
def jK (g : jG) (y : jY) (d : Nat × Nat) (as : List Value) (V : Nat → Nat → Nat) (L : Nat → Nat → Int64) (φ : jΦ) : Prop := jC g y d as (jn V) L (fun v I L => ∃ V, I = jn V ∧ φ v V L)
def jA0 (v : Option Value) (V : Nat → Nat → Nat) (L : Nat → Nat → Int64) : jΦ := fun v' V' L' => v = v' ∧ V = V' ∧ L = L'
theorem jA0_rfl {v : Option Value} {V : Nat → Nat → Nat} {L : Nat → Nat → Int64} : jA0 v V L v V L := ⟨rfl, rfl, rfl⟩
theorem jK.mono {g : jG} {y : jY} {d : Nat × Nat} {as : List Value} {V : Nat → Nat → Nat} {L : Nat → Nat → Int64} {φ ψ : jΦ} (h : jK g y d as V L φ) (hq : ∀ v V' L', φ v V' L' → ψ v V' L') : jK g y d as V L ψ :=
  jMet.mono h (fun r N' mu' x' ⟨v, I', L', ⟨V', e, h1⟩, h2⟩ => ⟨v, I', L', ⟨V', e, hq _ _ _ h1⟩, h2⟩)
theorem jK_entry {g : jG} {y : jY} {d : Nat × Nat} {as : List Value} {V : Nat → Nat → Nat} {L : Nat → Nat → Int64} {φ : jΦ} (hpl : plainName (jyn y).cls = true) (hown : (jyn y).cls = jyo y) (hlen : (lg_sl as).length ≤ jyL y)
    (hJ : jJ (g, y, d, 0, 0, jVQ g φ) (lv_args 0 as) (jv (g, y, d, 0, 0, jVQ g φ) V L 0 0) 0 []) : jK g y d as V L φ := j_entry hpl hown hlen hJ
theorem nar_b {v : Nat} (h : v ≤ 1) : narrow .boolean (.int (nI v)) = .int (nI v) := by
  match v, h with
  | 0, _ => rfl
  | 1, _ => rfl
theorem fit_b {v : Nat} (h : v ≤ 1) : fits .boolean (.int (nI v)) = true := by
  match v, h with
  | 0, _ => rfl
  | 1, _ => rfl
section JV
variable {f : jF} {lv : List (Nat × Value)} {k n : Nat} {V : Nat → Nat → Nat} {L : Nat → Nat → Int64} {pc : Nat} {st : List Value}
theorem v_getI {idx q ci kf : Nat} {fl : List Nat} (hd : decode (jyc f.2.1) pc = .ok (.getfield idx, 3)) (hF : jFld (jyo f.2.1) idx ci kf) (hs : jshp q = .inr (.inr (.inr (ci, fl)))) (hq : q < 104) (hk : fl[kf]? = some 0)
    (kk : jJ f lv (jv f V L k n) (pc + 3) (.int (nI (V q kf)) :: st)) : jJ f lv (jv f V L k n) pc (.ref (jb f.1 + q) :: st) := m_getI hd hF hs hq hk kk
theorem v_getL {idx q ci kf : Nat} {fl : List Nat} (hd : decode (jyc f.2.1) pc = .ok (.getfield idx, 3)) (hF : jFld (jyo f.2.1) idx ci kf) (hs : jshp q = .inr (.inr (.inr (ci, fl)))) (hq : q < 104) (hk : fl[kf]? = some 1)
    (kk : jJ f lv (jv f V L k n) (pc + 3) (.long (L q kf) :: st)) : jJ f lv (jv f V L k n) pc (.ref (jb f.1 + q) :: st) := m_getL hd hF hs hq hk kk
theorem v_getR {idx q ci kf a : Nat} {fl : List Nat} (hd : decode (jyc f.2.1) pc = .ok (.getfield idx, 3)) (hF : jFld (jyo f.2.1) idx ci kf) (hs : jshp q = .inr (.inr (.inr (ci, fl)))) (hq : q < 104) (hk : fl[kf]? = some (a + 2))
    (kk : jJ f lv (jv f V L k n) (pc + 3) (.ref (jb f.1 + a) :: st)) : jJ f lv (jv f V L k n) pc (.ref (jb f.1 + q) :: st) := m_getR hd hF hs hq hk kk
theorem v_putI {idx q ci kf v : Nat} {fl : List Nat} (hd : decode (jyc f.2.1) pc = .ok (.putfield idx, 3)) (hF : jFld (jyo f.2.1) idx ci kf) (hs : jshp q = .inr (.inr (.inr (ci, fl)))) (hq : q < 104) (hk : fl[kf]? = some 0) (hfin : jfin ci kf = false) (hn : narrow (jcty ci kf) (.int (nI v)) = .int (nI v)) (hfit : fits (jcty ci kf) (.int (nI v)) = true)
    (kk : jJ f lv (jv f (vu V q kf v) L k n) (pc + 3) st) : jJ f lv (jv f V L k n) pc (.int (nI v) :: .ref (jb f.1 + q) :: st) := by
  refine m_putI hd hF hs hq hk hfin hn hfit ?_
  rw [jn_up]
  exact kk
theorem v_putL {idx q ci kf : Nat} {fl : List Nat} {v : Int64} (hd : decode (jyc f.2.1) pc = .ok (.putfield idx, 3)) (hF : jFld (jyo f.2.1) idx ci kf) (hs : jshp q = .inr (.inr (.inr (ci, fl)))) (hq : q < 104) (hk : fl[kf]? = some 1) (hfin : jfin ci kf = false) (hn : narrow (jcty ci kf) (.long v) = .long v) (hfit : fits (jcty ci kf) (.long v) = true)
    (kk : jJ f lv (jv f V (jupL L q kf v) k n) (pc + 3) st) : jJ f lv (jv f V L k n) pc (.long v :: .ref (jb f.1 + q) :: st) := m_putL hd hF hs hq hk hfin hn hfit kk
theorem v_ild {q t na i : Nat} {z : Int32} (hd : decode (jyc f.2.1) pc = .ok (.iaload, 1)) (hs : jshp q = .inl (t, na)) (ht : jtyl[t]? = some .int) (hq : q < 104) (hz : z = nI i) (hi : i < na) (hna : na < 2 ^ 31)
    (kk : jJ f lv (jv f V L k n) (pc + 1) (.int (nI (V q i)) :: st)) : jJ f lv (jv f V L k n) pc (.int z :: .ref (jb f.1 + q) :: st) := m_ild hd hs ht hq hz hi hna kk
theorem v_zld {q t na i : Nat} {z : Int32} (hd : decode (jyc f.2.1) pc = .ok (.baload, 1)) (hs : jshp q = .inl (t, na)) (ht : jtyl[t]? = some .boolean) (hq : q < 104) (hz : z = nI i) (hi : i < na) (hna : na < 2 ^ 31)
    (kk : jJ f lv (jv f V L k n) (pc + 1) (.int (nI (V q i)) :: st)) : jJ f lv (jv f V L k n) pc (.int z :: .ref (jb f.1 + q) :: st) := m_zld hd hs ht hq hz hi hna kk
theorem v_lld {q t na i : Nat} {z : Int32} (hd : decode (jyc f.2.1) pc = .ok (.laload, 1)) (hs : jshp q = .inr (.inl (t, na))) (ht : jtyl[t]? = some .long) (hq : q < 104) (hz : z = nI i) (hi : i < na) (hna : na < 2 ^ 31)
    (kk : jJ f lv (jv f V L k n) (pc + 1) (.long (L q i) :: st)) : jJ f lv (jv f V L k n) pc (.int z :: .ref (jb f.1 + q) :: st) := m_lld hd hs ht hq hz hi hna kk
theorem v_ald {q t i a : Nat} {rs : List Nat} {Cn : String} {z : Int32} (hd : decode (jyc f.2.1) pc = .ok (.aaload, 1)) (hs : jshp q = .inr (.inr (.inl (t, rs)))) (ht : jtyl[t]? = some (.object Cn)) (hq : q < 104) (hz : z = nI i) (hr : rs[i]? = some a) (hna : rs.length < 2 ^ 31)
    (kk : jJ f lv (jv f V L k n) (pc + 1) (.ref (jb f.1 + a) :: st)) : jJ f lv (jv f V L k n) pc (.int z :: .ref (jb f.1 + q) :: st) := m_ald hd hs ht hq hz hr hna kk
theorem v_ist {q t na i v : Nat} {z : Int32} (hd : decode (jyc f.2.1) pc = .ok (.iastore, 1)) (hs : jshp q = .inl (t, na)) (ht : jtyl[t]? = some .int) (hq : q < 104) (hz : z = nI i) (hi : i < na) (hna : na < 2 ^ 31)
    (kk : jJ f lv (jv f (vu V q i v) L k n) (pc + 1) st) : jJ f lv (jv f V L k n) pc (.int (nI v) :: .int z :: .ref (jb f.1 + q) :: st) := by
  refine m_ist hd hs ht hq hz hi hna ?_
  rw [jn_up]
  exact kk
theorem v_zst {q t na i v : Nat} {z : Int32} (hd : decode (jyc f.2.1) pc = .ok (.bastore, 1)) (hs : jshp q = .inl (t, na)) (ht : jtyl[t]? = some .boolean) (hq : q < 104) (hz : z = nI i) (hi : i < na) (hna : na < 2 ^ 31) (hv : v ≤ 1)
    (kk : jJ f lv (jv f (vu V q i v) L k n) (pc + 1) st) : jJ f lv (jv f V L k n) pc (.int (nI v) :: .int z :: .ref (jb f.1 + q) :: st) := by
  refine m_zst hd hs ht hq hz hi hna (nar_b hv) ?_
  rw [jn_up]
  exact kk
theorem v_lst {q t na i : Nat} {z : Int32} {v : Int64} (hd : decode (jyc f.2.1) pc = .ok (.lastore, 1)) (hs : jshp q = .inr (.inl (t, na))) (ht : jtyl[t]? = some .long) (hq : q < 104) (hz : z = nI i) (hi : i < na) (hna : na < 2 ^ 31)
    (kk : jJ f lv (jv f V (jupL L q i v) k n) (pc + 1) st) : jJ f lv (jv f V L k n) pc (.long v :: .int z :: .ref (jb f.1 + q) :: st) := m_lst hd hs ht hq hz hi hna kk
theorem v_iret {v : Int32} {φ : jΦ} (hd : decode (jyc f.2.1) pc = .ok (.ireturn, 1)) (hr : jyr f.2.1 = some .int) (hk : k ≤ f.2.2.2.1) (hn : n ≤ f.2.2.2.2.1) (hf : f.2.2.2.2.2 = jVQ f.1 φ) (hφ : φ (some (.int v)) V L) : jJ f lv (jv f V L k n) pc [.int v] := m_iret hd hr hk hn hf ⟨V, rfl, hφ⟩
theorem v_zret {v : Nat} {φ : jΦ} (hd : decode (jyc f.2.1) pc = .ok (.ireturn, 1)) (hr : jyr f.2.1 = some .boolean) (hv : v ≤ 1) (hk : k ≤ f.2.2.2.1) (hn : n ≤ f.2.2.2.2.1) (hf : f.2.2.2.2.2 = jVQ f.1 φ) (hφ : φ (some (.int (nI v))) V L) : jJ f lv (jv f V L k n) pc [.int (nI v)] := m_zret hd hr (nar_b hv) hk hn hf ⟨V, rfl, hφ⟩
theorem v_lret {v : Int64} {φ : jΦ} (hd : decode (jyc f.2.1) pc = .ok (.lreturn, 1)) (hr : jyr f.2.1 = some .long) (hk : k ≤ f.2.2.2.1) (hn : n ≤ f.2.2.2.2.1) (hf : f.2.2.2.2.2 = jVQ f.1 φ) (hφ : φ (some (.long v)) V L) : jJ f lv (jv f V L k n) pc [.long v] := m_lret hd hr hk hn hf ⟨V, rfl, hφ⟩
theorem v_vret {φ : jΦ} (hd : decode (jyc f.2.1) pc = .ok (.return_, 1)) (hr : jyr f.2.1 = none) (hk : k ≤ f.2.2.2.1) (hn : n ≤ f.2.2.2.2.1) (hf : f.2.2.2.2.2 = jVQ f.1 φ) (hφ : φ none V L) : jJ f lv (jv f V L k n) pc [] := m_vret hd hr hk hn hf ⟨V, rfl, hφ⟩
/-- what stands on the stack behind a call -/
def jpu (v : Option Value) (r : List Value) : List Value := match v with
  | some x => x :: r
  | none => r
theorem v_callV {y' : jY} {d' : Nat × Nat} {na idx q ci : Nat} {as rest st0 : List Value} {fl : List Nat} {r : vw_C} {φ : jΦ} (hd : decode (jyc f.2.1) pc = .ok (.invokevirtual idx, 3)) (hm : jMth y' na) (hlk : jLnk (jyo f.2.1) idx y') (hin : Cond.instanceMethod (jyn y') ∈ jTab) (hse : Cond.selects (jyn y').cls (jyn y') (jyn y') ∈ jTab)
    (hs : jshp q = .inr (.inr (.inr (ci, fl)))) (hq : q < 104) (hcl : jcl[ci]? = some r) (hrn : r.1 = (jyn y').cls) (hR : d'.1 + 1 ≤ f.2.2.1.1 ∧ 8 + (jyL y' + 11) + d'.2 ≤ f.2.2.1.2) (hW : (rest.map fun v => v.category).sum ≤ 8) (hna : as.length = na) (hk : k ≤ f.2.2.2.1) (hn : n ≤ f.2.2.2.2.1)
    (hC : jK f.1 y' d' (.ref (jb f.1 + q) :: as) V L φ) (hst : st0 = as.reverse ++ .ref (jb f.1 + q) :: rest) (kk : ∀ v V' L', φ v V' L' → jJ f lv (jv f V' L' k n) (pc + 3) (jpu v rest)) : jJ f lv (jv f V L k n) pc st0 := by
  refine m_callV hd hm hlk hin hse hs hq hcl hrn hR hW hna hk hn hC hst ?_
  rintro v I' L' ⟨V', rfl, h⟩
  have h2 := kk v V' L' h
  cases v <;> exact h2
theorem v_callS {y' : jY} {d' : Nat × Nat} {na idx : Nat} {as rest st0 : List Value} {φ : jΦ} (hd : decode (jyc f.2.1) pc = .ok (.invokestatic idx, 3)) (hm : jMth y' na) (hlk : jLnk (jyo f.2.1) idx y') (hsta : Cond.static (jyn y') ∈ jTab)
    (hR : d'.1 + 1 ≤ f.2.2.1.1 ∧ 8 + (jyL y' + 11) + d'.2 ≤ f.2.2.1.2) (hW : (rest.map fun v => v.category).sum ≤ 8) (hna : as.length = na) (hk : k ≤ f.2.2.2.1) (hn : n ≤ f.2.2.2.2.1)
    (hC : jK f.1 y' d' as V L φ) (hst : st0 = as.reverse ++ rest) (kk : ∀ v V' L', φ v V' L' → jJ f lv (jv f V' L' k n) (pc + 3) (jpu v rest)) : jJ f lv (jv f V L k n) pc st0 := by
  refine m_callS hd hm hlk hsta hR hW hna hk hn hC hst ?_
  rintro v I' L' ⟨V', rfl, h⟩
  have h2 := kk v V' L' h
  cases v <;> exact h2
theorem v_copy {idx q0 q1 sp dp nn n0 n1 : Nat} {zs zd zn : Int32} (hd : decode (jyc f.2.1) pc = .ok (.invokestatic idx, 3)) (hl1 : Cond.methodLink (jyo f.2.1) idx arraycopyName ∈ jTab) (hl2 : Cond.native arraycopyName ∈ jTab) (hl3 : Cond.static arraycopyName ∈ jTab) (hl4 : Cond.initialized "java/lang/System" ∈ jTab)
    (h0 : jshp q0 = .inl (0, n0)) (hq0 : q0 < 104) (h1 : jshp q1 = .inl (0, n1)) (hq1 : q1 < 104) (hs : zs = nI sp) (hdp : zd = nI dp) (hnn : zn = nI nn) (b0 : n0 < 2 ^ 31) (b1 : n1 < 2 ^ 31) (h4 : sp + nn ≤ n0) (h5 : dp + nn ≤ n1)
    (hR : 1 ≤ f.2.2.1.1 ∧ 26 ≤ f.2.2.1.2) (hW : (st.map fun v => v.category).sum ≤ 8)
    (kk : jJ f lv (jv f (fun a i => if a = q1 ∧ dp ≤ i ∧ i < dp + nn then V q0 (sp + (i - dp)) else V a i) L k n) (pc + 3) st) : jJ f lv (jv f V L k n) pc (.int zn :: .int zd :: .ref (jb f.1 + q1) :: .int zs :: .ref (jb f.1 + q0) :: st) := by
  refine j_copy hd hl1 hl2 hl3 hl4 hq0 (jmem_I h0) hq1 (jmem_I h1) rfl hs hdp hnn b0 b1 h4 h5 hR hW ?_
  rw [jmem_up (I' := jn (fun a i => if a = q1 ∧ dp ≤ i ∧ i < dp + nn then V q0 (sp + (i - dp)) else V a i)) (L' := L) ?_ ?_ (fun _ _ => rfl)]
  · exact kk
  · rw [jmem_I h1]
    congr 4
    funext i
    show nI (if q1 = q1 ∧ dp ≤ i ∧ i < dp + nn then V q0 (sp + (i - dp)) else V q1 i) = (if dp ≤ i ∧ i < dp + nn then nI (V q0 (sp + (i - dp))) else nI (V q1 i))
    by_cases hi : dp ≤ i ∧ i < dp + nn
    · rw [if_pos ⟨rfl, hi⟩, if_pos hi]
    · rw [if_neg (fun z => hi z.2), if_neg hi]
  · intro a ha
    funext i
    show nI (if a = q1 ∧ dp ≤ i ∧ i < dp + nn then V q0 (sp + (i - dp)) else V a i) = nI (V a i)
    rw [if_neg (fun z => ha z.1)]
end JV
