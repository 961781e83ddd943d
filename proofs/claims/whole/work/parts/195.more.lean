/-! the script, the table of inverses, System.arraycopy -/
section JX
variable {f : jF} {lv : List (Nat × Value)} {N k n : Nat} {x : Bool} {mu : Nat → jE} {w : jS} {pc : Nat} {st : List Value}
theorem j_sld {i : Int32} (hd : decode (jyc f.2.1) pc = .ok (.iaload, 1)) (hi : vp_in i (jaN f.1)) (kk : jJ f lv w (pc + 1) (.int (jxs f.1 i.toNatClampNeg) :: st)) : jJ f lv w pc (.int i :: .ref (jaS f.1) :: st) := by
  intro p e s m args below meth c C ls H locs hl hP hz hS
  obtain ⟨h1, h2⟩ := C.2.2.2.2.1.2.2.2.1
  exact va_sld C.1 C.2.1 h2 (Nat.lt_of_lt_of_le h1 C.2.2.2.2.1.2.2.1) (fun h => Nat.not_lt.mpr h h1) hS hi hd (kk p e s m args below meth c C ls H locs hl hP hz hS)
theorem j_slen (hd : decode (jyc f.2.1) pc = .ok (.arraylength, 1)) (kk : jJ f lv w (pc + 1) (.int (Int32.ofNat (jaN f.1)) :: st)) : jJ f lv w pc (.ref (jaS f.1) :: st) := by
  intro p e s m args below meth c C ls H locs hl hP hz hS
  obtain ⟨h1, h2⟩ := C.2.2.2.2.1.2.2.2.1
  exact va_slen C.1 C.2.1 h2 (Nat.lt_of_lt_of_le h1 C.2.2.2.2.1.2.2.1) (fun h => Nat.not_lt.mpr h h1) hS hd (kk p e s m args below meth c C ls H locs hl hP hz hS)
theorem j_gets {idx : Nat} (hd : decode (jyc f.2.1) pc = .ok (.getstatic idx, 3)) (hw : Cond.fieldLink (jyo f.2.1) idx "AuditDesk$Field" "INVERSES" "[I" ∈ jTab) (kk : jJ f lv w (pc + 3) (.ref (jaI f.1) :: st)) : jJ f lv w pc st := by
  intro p e s m args below meth c C ls H locs hl hP hz hS
  exact va_gets C.1 C.2.1 C.2.2.2.2.1.2.2.2.2.1.1 hS C.2.2.2.1 (C.2.2.2.2.1.1 _ hw args) (fun _ h => h) hd (kk p e s m args below meth c C ls H locs hl hP hz hS)
theorem j_inv {i : Nat} {z : Int32} (hd : decode (jyc f.2.1) pc = .ok (.iaload, 1)) (hz' : z = nI i) (hi : i < 6) (kk : jJ f lv w (pc + 1) (.int (jinv i) :: st)) : jJ f lv w pc (.int z :: .ref (jaI f.1) :: st) := by
  intro p e s m args below meth c C ls H locs hl hP hz hS
  obtain ⟨cell, h1, h2, h3, h4, -, h6, h7⟩ := C.2.2.2.2.1.2.2.2.2.1.2.1
  subst hz'
  have hcl : (nI i).toNatClampNeg = i := nI_clamp (by omega)
  refine W.iald (v := .int (jinv i)) C.1 C.2.1 (by rw [hS.2.1 _ (Array.getElem?_eq_some_iff.mp h1).1 h7]; exact h1) h2 h3 ?_ (by rw [hcl]; exact h6 i hi) rfl rfl hd (kk p e s m args below meth c C ls H locs hl hP hz hS)
  rw [hcl]
  rintro (h | h)
  · exact nI_pos (by omega) h
  · omega
theorem j_copy {idx q0 q1 t n0 n1 sp dp nn : Nat} {a0 a1 : Nat → Int32} {zs zd zn : Int32} (hd : decode (jyc f.2.1) pc = .ok (.invokestatic idx, 3)) (hl1 : Cond.methodLink (jyo f.2.1) idx arraycopyName ∈ jTab) (hl2 : Cond.native arraycopyName ∈ jTab) (hl3 : Cond.static arraycopyName ∈ jTab) (hl4 : Cond.initialized "java/lang/System" ∈ jTab)
    (hq0 : q0 < N) (hm0 : mu q0 = .inl (t, n0, .inl a0)) (hq1 : q1 < N) (hm1 : mu q1 = .inl (t, n1, .inl a1)) (ht : jtyl[t]? = some .int) (hs : zs = nI sp) (hdp : zd = nI dp) (hnn : zn = nI nn) (h0 : n0 < 2 ^ 31) (h1 : n1 < 2 ^ 31) (h4 : sp + nn ≤ n0) (h5 : dp + nn ≤ n1)
    (hR : 1 ≤ f.2.2.1.1 ∧ 26 ≤ f.2.2.1.2) (hW : (st.map fun v => v.category).sum ≤ 8)
    (kk : jJ f lv (N, va_up mu q1 (.inl (t, n1, .inl (va_cpy a0 a1 sp dp nn))), false, k, n) (pc + 3) st) : jJ f lv (N, mu, x, k, n) pc (.int zn :: .int zd :: .ref (jb f.1 + q1) :: .int zs :: .ref (jb f.1 + q0) :: st) := by
  intro p e s m args below meth c C ls H locs hl hP hz hS
  subst hs; subst hdp; subst hnn
  have hts : ∀ w ∈ jTab, w.before args s = true := fun w h => C.2.2.2.2.1.1 w h args
  have c1 : (nI sp).toNatClampNeg = sp := nI_clamp (by omega)
  have c2 : (nI dp).toNatClampNeg = dp := nI_clamp (by omega)
  have c3 : (nI nn).toNatClampNeg = nn := nI_clamp (by omega)
  refine va_copyi C.1 C.2.1 (by rw [C.2.2.1]; exact hl.1.symm) C.2.2.2.1 (hts _ hl1) (hts _ hl2) (hts _ hl3) (hts _ hl4) C.2.2.2.2.1.2.1 hP (jpool_D f.1 N mu) hS q0 q1 t t (jget_l hq0 hm0) (jget_l hq1 hm1) (jtys_get ht) (jtys_get ht) rfl (nI_pos (by omega)) (nI_pos (by omega)) (nI_pos (by omega)) (by rw [c1, c3]; exact h4) (by rw [c2, c3]; exact h5) (fun _ _ => rfl) hR.1 ?_ hd ?_
  · have h9 : nativeFrameWords "java/lang/System" "arraycopy" 5 = 7 := by decide +kernel
    rw [h9]
    have h8 := hR.2
    show _ + (7 + 11) ≤ f.2.2.1.2
    omega
  · intro H1 locs1 hP1 hD1 hS1
    rw [c1, c2, c3] at hP1
    exact kk p e s m args below meth c C ls H1 locs1 hl (jset_l hq1 hP1) (fun h => by cases h) hS1
end JX
