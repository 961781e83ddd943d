/-! fields and arrays over jJ -/
def jFld (own : String) (idx ci k : Nat) : Prop := ∃ (C : String) (T : u_T) (N : Nat), jcl[ci]? = some (C, T, N) ∧ k < N ∧ (T k).1 = C ∧
  (Cond.fieldLink own idx C (T k).2.1 (T k).2.2.1 ∈ jTab ∨ ∃ host, Cond.fieldLinkNest own idx C (T k).2.1 (T k).2.2.1 host ∈ jTab)
theorem jre_r {g : jG} {mu : Nat → jE} {q ci : Nat} {fs : List Value} (h : mu q = .inr (ci, fs)) : jre g (mu q) = .inr (ci, fs) := by rw [h]; rfl
theorem jre_l {g : jG} {mu : Nat → jE} {q t : Nat} {a : vp_A} (h : mu q = .inl (t, a)) : jre g (mu q) = .inl (jcA g t, a) := by rw [h]; rfl
theorem jget_r {g : jG} {N : Nat} {mu : Nat → jE} {q ci : Nat} {fs : List Value} (hq : q < N) (h : mu q = .inr (ci, fs)) : (jpool g N mu)[q]? = some (jb g + q, .inr (ci, fs)) := by rw [jpool_get hq, jre_r h]
theorem jget_l {g : jG} {N : Nat} {mu : Nat → jE} {q t : Nat} {a : vp_A} (hq : q < N) (h : mu q = .inl (t, a)) : (jpool g N mu)[q]? = some (jb g + q, .inl (jcA g t, a)) := by rw [jpool_get hq, jre_l h]
theorem jset_r {g : jG} {N : Nat} {mu : Nat → jE} {q ci : Nat} {fs : List Value} {H : Heap} (hq : q < N) (h : va_P (jD g) jcl ((jpool g N mu).set q (jb g + q, .inr (ci, fs))) H) : jP g N (va_up mu q (.inr (ci, fs))) H := by
  unfold jP
  rw [← jpool_set hq]
  exact h
theorem jset_l {g : jG} {N : Nat} {mu : Nat → jE} {q t : Nat} {a : vp_A} {H : Heap} (hq : q < N) (h : va_P (jD g) jcl ((jpool g N mu).set q (jb g + q, .inl (jcA g t, a))) H) : jP g N (va_up mu q (.inl (t, a))) H := by
  unfold jP
  rw [← jpool_set hq]
  exact h
theorem jpush {g : jG} {N : Nat} {mu : Nat → jE} {e : jE} {H H1 : Heap} (hP : jP g N mu H) (ho : ∀ q : Nat, q < H.size → H1[q]? = H[q]?) (he : va_at (jD g) jcl (jb g + N, jre g e) H1) : jP g (N + 1) (va_up mu N e) H1 := by
  unfold jP
  rw [← jpool_push]
  refine va_P.app (va_P.kept hP (fun k q hk => ho q.1 ((hP k q hk).lt))) (fun k x hx => ?_)
  have hz : k < 1 := (List.getElem?_eq_some_iff.mp hx).1
  rw [show k = 0 by omega] at hx
  cases hx
  exact he
theorem jSz.keep {g : jG} {x : Bool} {N : Nat} {H H1 : Heap} (h : jSz g x N H) (e : H1.size = H.size) : jSz g x N H1 := fun hx => e.trans (h hx)
theorem jS_up {g : jG} {H0 H H1 : Heap} {locs : List Loc} (h : va_S (jA g) H0 H locs) (hz : H1.size = H.size + 1) (ho : ∀ q : Nat, q < H.size → H1[q]? = H[q]?) : va_S (jA g) H0 H1 locs :=
  ⟨Nat.le_trans h.1 (by omega), fun q h1 h2 => (ho q (Nat.lt_of_lt_of_le h1 h.1)).trans (h.2.1 q h1 h2), h.2.2⟩
section JM
variable {f : jF} {lv : List (Nat × Value)} {N k n : Nat} {x : Bool} {mu : Nat → jE} {pc : Nat} {st : List Value}
theorem j_getf {idx ci kf q : Nat} {fs : List Value} {v : Value} (hd : decode (jyc f.2.1) pc = .ok (.getfield idx, 3)) (hF : jFld (jyo f.2.1) idx ci kf) (hq : q < N) (hm : mu q = .inr (ci, fs)) (hv : fs[kf]? = some v)
    (kk : jJ f lv (N, mu, x, k, n) (pc + 3) (v :: st)) : jJ f lv (N, mu, x, k, n) pc (.ref (jb f.1 + q) :: st) := by
  intro p e s m args below meth c C ls H locs hl hP hz hS
  obtain ⟨Cn, T, NF, hc, hk, hown, hlink⟩ := hF
  have hts : ∀ w ∈ jTab, w.before args s = true := fun w h => C.2.2.2.2.1.1 w h args
  have hsame : ∀ x, s.fieldFound? (T kf).1 (T kf).2.1 (T kf).2.2.1 = some x → s.fieldFound? Cn (T kf).2.1 (T kf).2.2.1 = some x := fun x hx => by rw [hown] at hx; exact hx
  have k2 := kk p e s m args below meth c C ls H locs hl hP hz hS
  rcases hlink with h | ⟨host, h⟩
  · exact va_get C.1 C.2.1 hts (jcl_in hc) C.2.2.2.1 C.2.2.2.2.1.2.1 hP q (jget_r hq hm) hc kf hk (hts _ h) hsame hv hd k2
  · exact va_getN C.1 C.2.1 hts (jcl_in hc) C.2.2.2.1 C.2.2.2.2.1.2.1 hP q (jget_r hq hm) hc kf hk (hts _ h) hsame hv hd k2
theorem j_putf {idx ci kf q : Nat} {fs : List Value} {v : Value} (hd : decode (jyc f.2.1) pc = .ok (.putfield idx, 3)) (hF : jFld (jyo f.2.1) idx ci kf) (hq : q < N) (hm : mu q = .inr (ci, fs)) (hl2 : kf < fs.length) (hfin : jfin ci kf = false) (hn : narrow (jcty ci kf) v = v) (hfit : fits (jcty ci kf) v = true)
    (kk : jJ f lv (N, va_up mu q (.inr (ci, fs.set kf v)), x, k, n) (pc + 3) st) : jJ f lv (N, mu, x, k, n) pc (v :: .ref (jb f.1 + q) :: st) := by
  intro p e s m args below meth c C ls H locs hl hP hz hS
  obtain ⟨Cn, T, NF, hc, hk, hown, hlink⟩ := hF
  have hts : ∀ w ∈ jTab, w.before args s = true := fun w h => C.2.2.2.2.1.1 w h args
  have hK : va_K (jD f.1) jcl (jtys f.1) s := C.2.2.2.2.1.2.1
  have he := jget_r (g := f.1) hq hm
  have hD := jpool_D f.1 N mu
  have hap := va_apart (own := jyo f.2.1) hts (jcl_in hc) (jcty ci) (jcl_ty hc) (jcl_nm hc) hK hc
  obtain ⟨r, h1, cell, q1, q2, q3, q4⟩ := hP q _ he
  have hr : r = (Cn, T, NF) := Option.some.inj (h1.symm.trans hc)
  subst hr
  obtain ⟨hSl, hfc, kC, hkC, hkind⟩ := hK.1 ci _ hc
  obtain ⟨cf, kf', fi, fd, hi, hsl⟩ := hSl kf hk
  have hlay := hts _ (jcl_in hc _ (u_in_lay hk))
  unfold u_lay at hlay
  rw [if_neg (by rw [jcl_fin hc hk, hfin]; decide)] at hlay
  have hst := (u_facts hfc hkC (u_lays hts (jcl_in hc) hk) hi).1
  have h6 := u_store hfc hkC hkind hlay hi (jcl_ty hc kf hk) hn hfit
  have hi2 : s.fieldFound? Cn (T kf).2.1 (T kf).2.2.1 = some (cf, kf', fi, fd) := by rw [hown] at hi; exact hi
  have go : ∀ H' : Heap, H'[jb f.1 + q]? = some (cell.setSlot fd.slot v) → H'.size = H.size → (∀ q', q' ≠ jb f.1 + q → H'[q']? = H[q']?) → W p (jl f.1) e (jRm f.2.2.1 f.2.2.2.1 f.2.2.2.2.1) s m args below meth c H' (locs ++ [⟨jb f.1 + q, fd.slot⟩]) k n (jZ f.1 below f.2.2.2.1 f.2.2.2.2.1 f.2.2.2.2.2 s) (F0 m (pc + 3) ls st) := by
    intro H' e1 e2 e3
    rw [hsl] at e1 ⊢
    refine kk p e s m args below meth c C ls H' _ hl (jset_r hq (hP.set hD he ⟨_, hc, t_OB.to (V := updV (vp_V fs) kf v) ⟨_, e1, q2, q3, t_set q4 hap hk v⟩ (fun j _ => vp_updV_set hl2 v j)⟩ e3)) (hz.keep e2) (hS.put e2 e3 (Nat.le_add_right _ _))
  rcases hlink with h | ⟨host, h⟩
  · exact W.putK C.1 C.2.1 (f := fd) ⟨C.2.2.2.1, hts _ h, ⟨_, _, _, hi2⟩, hst⟩ (by rw [q2]; exact h6) q1 q3 (by rw [hsl]; exact k2_hasslot (q4 kf hk)) rfl rfl hd go
  · exact va_WputK C.1 C.2.1 (f := fd) C.2.2.2.1 (hts _ h) hi2 hst (by rw [q2]; exact h6) q1 q3 (by rw [hsl]; exact k2_hasslot (q4 kf hk)) rfl rfl hd go
/-- a final field, in its class's constructor -/
theorem j_putF {idx ci kf q : Nat} {fs : List Value} {v : Value} (hd : decode (jyc f.2.1) pc = .ok (.putfield idx, 3)) (hF : jFld (jyo f.2.1) idx ci kf) (hC : (jcl[ci]?).map (fun r => r.1) = some (jyo f.2.1)) (hnm : (jyn f.2.1).name = "<init>") (hq : q < N) (hm : mu q = .inr (ci, fs)) (hl2 : kf < fs.length) (hfin : jfin ci kf = true) (hn : narrow (jcty ci kf) v = v) (hfit : fits (jcty ci kf) v = true)
    (kk : jJ f lv (N, va_up mu q (.inr (ci, fs.set kf v)), x, k, n) (pc + 3) st) : jJ f lv (N, mu, x, k, n) pc (v :: .ref (jb f.1 + q) :: st) := by
  intro p e s m args below meth c C ls H locs hl hP hz hS
  obtain ⟨Cn, T, NF, hc, hk, hown, hlink⟩ := hF
  have hCn : Cn = jyo f.2.1 := by rw [hc] at hC; exact Option.some.inj hC
  have hts : ∀ w ∈ jTab, w.before args s = true := fun w h => C.2.2.2.2.1.1 w h args
  have hK : va_K (jD f.1) jcl (jtys f.1) s := C.2.2.2.2.1.2.1
  have he := jget_r (g := f.1) hq hm
  have hD := jpool_D f.1 N mu
  have hap := va_apart (own := jyo f.2.1) hts (jcl_in hc) (jcty ci) (jcl_ty hc) (jcl_nm hc) hK hc
  obtain ⟨r, h1, cell, q1, q2, q3, q4⟩ := hP q _ he
  have hr : r = (Cn, T, NF) := Option.some.inj (h1.symm.trans hc)
  subst hr
  obtain ⟨hSl, hfc, kC, hkC, hkind⟩ := hK.1 ci _ hc
  obtain ⟨cf, kf', fi, fd, hi, hsl⟩ := hSl kf hk
  have hlay := hts _ (jcl_in hc _ (u_in_lay hk))
  unfold u_lay at hlay
  rw [if_pos (by rw [jcl_fin hc hk, hfin])] at hlay
  have hst := (u_facts hfc hkC (u_lays hts (jcl_in hc) hk) hi).1
  have hcf : m.cls = cf := by
    obtain ⟨_, _, c', _, _, _, -, -, hf', -, -, -, hown2, -⟩ := Cond.laysFinal_spec hlay
    have e1 : c' = cf := by have := hi.symm.trans hf'; simp at this; exact this.1.symm
    rw [hown, hCn] at hown2
    rw [← e1]; exact Option.some.inj (C.2.2.2.1.symm.trans hown2)
  have h6 := u_fits hfc hkC hkind (Or.inr hlay) hi (jcl_ty hc kf hk) hn hfit
  have hi2 : s.fieldFound? Cn (T kf).2.1 (T kf).2.2.1 = some (cf, kf', fi, fd) := by rw [hown] at hi; exact hi
  have go : ∀ H' : Heap, H'[jb f.1 + q]? = some (cell.setSlot fd.slot v) → H'.size = H.size → (∀ q', q' ≠ jb f.1 + q → H'[q']? = H[q']?) → W p (jl f.1) e (jRm f.2.2.1 f.2.2.2.1 f.2.2.2.2.1) s m args below meth c H' (locs ++ [⟨jb f.1 + q, fd.slot⟩]) k n (jZ f.1 below f.2.2.2.1 f.2.2.2.2.1 f.2.2.2.2.2 s) (F0 m (pc + 3) ls st) := by
    intro H' e1 e2 e3
    rw [hsl] at e1 ⊢
    refine kk p e s m args below meth c C ls H' _ hl (jset_r hq (hP.set hD he ⟨_, hc, t_OB.to (V := updV (vp_V fs) kf v) ⟨_, e1, q2, q3, t_set q4 hap hk v⟩ (fun j _ => vp_updV_set hl2 v j)⟩ e3)) (hz.keep e2) (hS.put e2 e3 (Nat.le_add_right _ _))
  rcases hlink with h | ⟨host, h⟩
  · exact W.putFinK C.1 C.2.1 C.2.2.2.1 (hts _ h) hi2 hst hcf (C.2.2.2.2.2.2.2.1.trans hnm) (by rw [q2]; exact h6) q1 q3 (by rw [hsl]; exact k2_hasslot (q4 kf hk)) rfl rfl hd go
  · have ha : jb f.1 + q < H.size := (Array.getElem?_eq_some_iff.mp q1).1
    refine va_Wputf C.1 C.2.1 C.2.2.2.1 (hts _ h) hi2 hst (Or.inr ⟨hcf, C.2.2.2.2.2.2.2.1.trans hnm⟩) q1 (by rw [q3]; exact fun h => by cases h) (by rw [hsl]; exact k2_hasslot (q4 kf hk)) h6.1 (by rw [q2, q3]; exact h6.2) rfl rfl hd ?_
    refine go _ ?_ ?_ ?_
    · simp [Array.getElem?_setIfInBounds, ha]
    · simp
    · intro q' hq'
      simp [Array.getElem?_setIfInBounds, Ne.symm hq']
theorem j_iald {t q na : Nat} {a : Nat → Int32} {i : Int32} (hd : decode (jyc f.2.1) pc = .ok (.iaload, 1)) (hq : q < N) (hm : mu q = .inl (t, na, .inl a)) (ht : jtyl[t]? = some .int) (hi : vp_in i na)
    (kk : jJ f lv (N, mu, x, k, n) (pc + 1) (.int (a i.toNatClampNeg) :: st)) : jJ f lv (N, mu, x, k, n) pc (.int i :: .ref (jb f.1 + q) :: st) := by
  intro p e s m args below meth c C ls H locs hl hP hz hS
  exact va_iald C.1 C.2.1 C.2.2.2.2.1.2.1 hP q t (jget_l hq hm) (jtys_get ht) hi hd (kk p e s m args below meth c C ls H locs hl hP hz hS)
theorem j_zald {t q na : Nat} {a : Nat → Int32} {i : Int32} (hd : decode (jyc f.2.1) pc = .ok (.baload, 1)) (hq : q < N) (hm : mu q = .inl (t, na, .inl a)) (ht : jtyl[t]? = some .boolean) (hi : vp_in i na)
    (kk : jJ f lv (N, mu, x, k, n) (pc + 1) (.int (a i.toNatClampNeg) :: st)) : jJ f lv (N, mu, x, k, n) pc (.int i :: .ref (jb f.1 + q) :: st) := by
  intro p e s m args below meth c C ls H locs hl hP hz hS
  exact va_zald C.1 C.2.1 C.2.2.2.2.1.2.1 hP q t (jget_l hq hm) (jtys_get ht) hi hd (kk p e s m args below meth c C ls H locs hl hP hz hS)
theorem j_lald {t q na : Nat} {a : Nat → Int64} {i : Int32} (hd : decode (jyc f.2.1) pc = .ok (.laload, 1)) (hq : q < N) (hm : mu q = .inl (t, na, .inr (.inl a))) (ht : jtyl[t]? = some .long) (hi : vp_in i na)
    (kk : jJ f lv (N, mu, x, k, n) (pc + 1) (.long (a i.toNatClampNeg) :: st)) : jJ f lv (N, mu, x, k, n) pc (.int i :: .ref (jb f.1 + q) :: st) := by
  intro p e s m args below meth c C ls H locs hl hP hz hS
  exact va_lald C.1 C.2.1 C.2.2.2.2.1.2.1 hP q t (jget_l hq hm) (jtys_get ht) hi hd (kk p e s m args below meth c C ls H locs hl hP hz hS)
theorem j_aald {t q na : Nat} {Cn : String} {a : Nat → Option Nat} {i : Int32} (hd : decode (jyc f.2.1) pc = .ok (.aaload, 1)) (hq : q < N) (hm : mu q = .inl (t, na, .inr (.inr (.inr (.inr a))))) (ht : jtyl[t]? = some (.object Cn)) (hi : vp_in i na)
    (kk : jJ f lv (N, mu, x, k, n) (pc + 1) (va_rf (a i.toNatClampNeg) :: st)) : jJ f lv (N, mu, x, k, n) pc (.int i :: .ref (jb f.1 + q) :: st) := by
  intro p e s m args below meth c C ls H locs hl hP hz hS
  exact va_aldq C.1 C.2.1 C.2.2.2.2.1.2.1 hP q t (jget_l hq hm) (jtys_get ht) hi hd (kk p e s m args below meth c C ls H locs hl hP hz hS)
theorem j_alen {t q : Nat} {a : vp_A} {ty : FieldType} {v : Int32} (hd : decode (jyc f.2.1) pc = .ok (.arraylength, 1)) (hq : q < N) (hm : mu q = .inl (t, a)) (ht : jtyl[t]? = some ty) (hv : Int32.ofNat a.1 = v)
    (kk : jJ f lv (N, mu, x, k, n) (pc + 1) (.int v :: st)) : jJ f lv (N, mu, x, k, n) pc (.ref (jb f.1 + q) :: st) := by
  intro p e s m args below meth c C ls H locs hl hP hz hS
  exact va_alen C.1 C.2.1 C.2.2.2.2.1.2.1 hP q t (jget_l hq hm) (jtys_get ht) hv hd (kk p e s m args below meth c C ls H locs hl hP hz hS)
theorem j_iast {t q na : Nat} {a : Nat → Int32} {i v : Int32} (hd : decode (jyc f.2.1) pc = .ok (.iastore, 1)) (hq : q < N) (hm : mu q = .inl (t, na, .inl a)) (ht : jtyl[t]? = some .int) (hi : vp_in i na)
    (kk : jJ f lv (N, va_up mu q (.inl (t, na, .inl (upd a i.toNatClampNeg v))), x, k, n) (pc + 1) st) : jJ f lv (N, mu, x, k, n) pc (.int v :: .int i :: .ref (jb f.1 + q) :: st) := by
  intro p e s m args below meth c C ls H locs hl hP hz hS
  have he := jget_l (g := f.1) hq hm
  refine W.iast C.1 C.2.1 (hP q _ he) ((C.2.2.2.2.1.2.1.2 t _ (jtys_get ht)).1 na (fun j => .int (a j))) (fun q => by cases q) (by show ¬ (i < 0 ∨ (arrV _ _ _).slots.size ≤ _); rw [arrV_size]; exact hi) rfl rfl hd fun H1 e1 z oq => ?_
  refine kk p e s m args below meth c C ls H1 _ hl (jset_l hq (hP.set (jpool_D f.1 N mu) he ?_ oq)) (hz.keep z) (hS.put z oq (Nat.le_add_right _ _))
  show H1[jb f.1 + q]? = some (vp_cell _ _)
  rw [e1, vp_cell_i, vp_cell_i, arrV_store]
  congr 2
  funext j
  by_cases hj : j = i.toNatClampNeg
  · subst hj
    simp [updV, upd]
  · simp [updV, upd, hj]
theorem j_zast {t q na : Nat} {a : Nat → Int32} {i v : Int32} (hd : decode (jyc f.2.1) pc = .ok (.bastore, 1)) (hq : q < N) (hm : mu q = .inl (t, na, .inl a)) (ht : jtyl[t]? = some .boolean) (hi : vp_in i na) (hv : narrow .boolean (.int v) = .int v)
    (kk : jJ f lv (N, va_up mu q (.inl (t, na, .inl (upd a i.toNatClampNeg v))), x, k, n) (pc + 1) st) : jJ f lv (N, mu, x, k, n) pc (.int v :: .int i :: .ref (jb f.1 + q) :: st) := by
  intro p e s m args below meth c C ls H locs hl hP hz hS
  have he := jget_l (g := f.1) hq hm
  refine W.zast C.1 C.2.1 (hP q _ he) ((C.2.2.2.2.1.2.1.2 t _ (jtys_get ht)).1 na (fun j => .int (a j))) (fun q => by cases q) (by show ¬ (i < 0 ∨ (arrV _ _ _).slots.size ≤ _); rw [arrV_size]; exact hi) rfl rfl hd fun H1 e1 z oq => ?_
  rw [hv] at e1
  refine kk p e s m args below meth c C ls H1 _ hl (jset_l hq (hP.set (jpool_D f.1 N mu) he ?_ oq)) (hz.keep z) (hS.put z oq (Nat.le_add_right _ _))
  show H1[jb f.1 + q]? = some (vp_cell _ _)
  rw [e1, vp_cell_i, vp_cell_i, arrV_store]
  congr 2
  funext j
  by_cases hj : j = i.toNatClampNeg
  · subst hj
    simp [updV, upd]
  · simp [updV, upd, hj]
theorem j_last {t q na : Nat} {a : Nat → Int64} {i : Int32} {v : Int64} (hd : decode (jyc f.2.1) pc = .ok (.lastore, 1)) (hq : q < N) (hm : mu q = .inl (t, na, .inr (.inl a))) (ht : jtyl[t]? = some .long) (hi : vp_in i na)
    (kk : jJ f lv (N, va_up mu q (.inl (t, na, .inr (.inl (vp_updL a i.toNatClampNeg v)))), x, k, n) (pc + 1) st) : jJ f lv (N, mu, x, k, n) pc (.long v :: .int i :: .ref (jb f.1 + q) :: st) := by
  intro p e s m args below meth c C ls H locs hl hP hz hS
  have he := jget_l (g := f.1) hq hm
  refine W.last C.1 C.2.1 (hP q _ he) ((C.2.2.2.2.1.2.1.2 t _ (jtys_get ht)).1 na (fun j => .long (a j))) (fun q => by cases q) (by show ¬ (i < 0 ∨ (arrV _ _ _).slots.size ≤ _); rw [arrV_size]; exact hi) rfl rfl hd fun H1 e1 z oq => ?_
  refine kk p e s m args below meth c C ls H1 _ hl (jset_l hq (hP.set (jpool_D f.1 N mu) he ?_ oq)) (hz.keep z) (hS.put z oq (Nat.le_add_right _ _))
  show H1[jb f.1 + q]? = some (vp_cell _ _)
  rw [e1, vp_cell_l, vp_cell_l, arrV_store]
  congr 2
  funext j
  by_cases hj : j = i.toNatClampNeg
  · subst hj
    simp [updV, vp_updL]
  · simp [updV, vp_updL, hj]
theorem j_aast {t q na v ci : Nat} {r : vw_C} {vs : List Value} {a : Nat → Option Nat} {i : Int32} (hd : decode (jyc f.2.1) pc = .ok (.aastore, 1)) (hq : q < N) (hm : mu q = .inl (t, na, .inr (.inr (.inr (.inr a))))) (hv : v < N) (hmv : mu v = .inr (ci, vs)) (hc : jcl[ci]? = some r) (ht : jtyl[t]? = some (.object r.1)) (hi : vp_in i na)
    (kk : jJ f lv (N, va_up mu q (.inl (t, na, .inr (.inr (.inr (.inr (va_up a i.toNatClampNeg (some (jb f.1 + v)))))))), x, k, n) (pc + 1) st) : jJ f lv (N, mu, x, k, n) pc (.ref (jb f.1 + v) :: .int i :: .ref (jb f.1 + q) :: st) := by
  intro p e s m args below meth c C ls H locs hl hP hz hS
  have he := jget_l (g := f.1) hq hm
  have hK : va_K (jD f.1) jcl (jtys f.1) s := C.2.2.2.2.1.2.1
  have hlt : i.toNatClampNeg < na := Nat.not_le.mp fun q => hi (Or.inr q)
  have h0 : ¬ i < 0 := fun q => hi (Or.inl q)
  obtain ⟨r', hr', cellV, g1, g2, g3, -⟩ := hP v _ (jget_r (g := f.1) hv hmv)
  have hcls := (hK.1 ci r hc).2
  obtain ⟨kA, comp, k1, k2, k3, -⟩ := (hK.2 t _ (jtys_get ht)).2
  have hcomp : comp = (jD f.1).1 ci := Option.some.inj (k3.symm.trans hcls.1)
  subst hcomp
  obtain ⟨kC, hkC, -⟩ := hcls.2
  refine W.aast C.1 C.2.1 (hP q _ he) (fun q h => by cases h) (fun h => by cases h) k1 k2 rfl hkC ⟨h0, by show _ < (arrV _ _ _).slots.size; rw [arrV_size]; exact hlt⟩ g1 (fun q h => by rw [g3] at h; cases h) (by rw [g2]; exact hkC) (by rw [g2]; exact va_assign hcls) rfl rfl hd fun H1 e1 z oq => ?_
  refine kk p e s m args below meth c C ls H1 _ hl (jset_l hq (hP.set (jpool_D f.1 N mu) he ?_ oq)) (hz.keep z) (hS.put z oq (Nat.le_add_right _ _))
  show H1[jb f.1 + q]? = some (vp_cell _ _)
  rw [e1, vp_cell_q, vp_cell_q, arrV_store]
  congr 2
  funext j
  by_cases hj : j = i.toNatClampNeg
  · subst hj
    simp [updV, va_up, va_rf]
  · simp [updV, va_up, hj]
theorem j_new {idx ci nf : Nat} {Cn : String} {T : u_T} {fs : List Value} (hd : decode (jyc f.2.1) pc = .ok (.new idx, 3)) (hc : jcl[ci]? = some (Cn, T, nf)) (hl : Cond.classLink (jyo f.2.1) idx Cn ∈ jTab) (hi : Cond.instantiable Cn nf ∈ jTab) (hini : Cond.initialized Cn ∈ jTab) (hfs : ∀ j, j < nf → defaultValue (jcty ci j) = vp_V fs j) (hk : k + 1 ≤ f.2.2.2.1) (hn : n + nf ≤ f.2.2.2.2.1)
    (kk : jJ f lv (N + 1, va_up mu N (.inr (ci, fs)), true, k + 1, n + nf) (pc + 3) (.ref (jb f.1 + N) :: st)) : jJ f lv (N, mu, true, k, n) pc st := by
  intro p e s m args below meth c C ls H locs hlv hP hz hS
  have hts : ∀ w ∈ jTab, w.before args s = true := fun w h => C.2.2.2.2.1.1 w h args
  have hK : va_K (jD f.1) jcl (jtys f.1) s := C.2.2.2.2.1.2.1
  have hKn := hK.1 ci _ hc
  refine W.newcK C.1 C.2.1 C.2.2.2.1 (hts _ hl) (hts _ hi) (hts _ hini) rfl hd hk hn hKn.2.1 (hz rfl) fun H1 kC hkC e1 z1 o1 => ?_
  have o2 : ∀ q : Nat, q < H.size → H1[q]? = H[q]? := fun q hq => o1 q (by rw [← hz rfl]; exact hq)
  exact kk p e s m args below meth c C ls H1 locs hlv (jpush hP o2 ⟨_, hc, (u_born (jcty ci) hts (jcl_in hc) hKn hkC e1 (jcl_ty hc)).to hfs⟩) (fun _ => z1) (jS_up hS (by rw [z1, hz rfl]) o2)
theorem j_newa {at' : ArrayType} {t na : Nat} {ty : FieldType} {a0 : vp_A} {i : Int32} (hd : decode (jyc f.2.1) pc = .ok (.newarray at', 2)) (hty : newarray.typeOf at' = ty) (hw : Cond.arrayClass ty ∈ jTab) (ht : jtyl[t]? = some ty) (ha : ∀ cA : ClassId, vp_cell cA a0 = arrV cA na (fun _ => defaultValue ty)) (hi : ¬ i < 0) (hN : i.toNatClampNeg = na) (hby : na * componentBytes ty ≤ 536870912) (hk : k + 1 ≤ f.2.2.2.1) (hn : n + na ≤ f.2.2.2.2.1)
    (kk : jJ f lv (N + 1, va_up mu N (.inl (t, a0)), true, k + 1, n + na) (pc + 2) (.ref (jb f.1 + N) :: st)) : jJ f lv (N, mu, true, k, n) pc (.int i :: st) := by
  intro p e s m args below meth c C ls H locs hlv hP hz hS
  have hts : ∀ w ∈ jTab, w.before args s = true := fun w h => C.2.2.2.2.1.1 w h args
  have hK : va_K (jD f.1) jcl (jtys f.1) s := C.2.2.2.2.1.2.1
  subst hty
  refine va_newaK C.1 C.2.1 (hts _ hw) rfl hd rfl hi hN hby hk hn (hz rfl) fun H1 cA e1 z1 o1 hAr hNm => ?_
  have hcA : cA = jcA f.1 t := by
    have h2 := (hK.2 t _ (jtys_get ht)).2
    have h3 : s.vm.findClass ("[" ++ (newarray.typeOf at').toString) = some (jcA f.1 t) := by cases at' <;> exact h2
    exact Option.some.inj (hNm.symm.trans h3)
  subst hcA
  have o2 : ∀ q : Nat, q < H.size → H1[q]? = H[q]? := fun q hq => o1 q (by rw [← hz rfl]; exact hq)
  refine kk p e s m args below meth c C ls H1 locs hlv (jpush hP o2 ?_) (fun _ => z1) (jS_up hS (by rw [z1, hz rfl]) o2)
  show H1[jb f.1 + N]? = some (vp_cell _ _)
  rw [ha]
  exact e1
theorem j_anew {idx t na : Nat} {Cn : String} {i : Int32} (hd : decode (jyc f.2.1) pc = .ok (.anewarray idx, 3)) (hw : Cond.classLink (jyo f.2.1) idx Cn ∈ jTab) (hw2 : Cond.arrayOver (.object Cn) ∈ jTab) (ht : jtyl[t]? = some (.object Cn)) (hi : ¬ i < 0) (hN : i.toNatClampNeg = na) (hby : na * 4 ≤ 536870912) (hk : k + 1 ≤ f.2.2.2.1) (hn : n + na ≤ f.2.2.2.2.1)
    (kk : jJ f lv (N + 1, va_up mu N (.inl (t, na, .inr (.inr (.inr (.inr (fun _ => none)))))), true, k + 1, n + na) (pc + 3) (.ref (jb f.1 + N) :: st)) : jJ f lv (N, mu, true, k, n) pc (.int i :: st) := by
  intro p e s m args below meth c C ls H locs hlv hP hz hS
  have hts : ∀ w ∈ jTab, w.before args s = true := fun w h => C.2.2.2.2.1.1 w h args
  have hK : va_K (jD f.1) jcl (jtys f.1) s := C.2.2.2.2.1.2.1
  subst hN
  have hH := hz rfl
  refine W.anew C.1 C.2.1 C.2.2.2.1 (hts _ hw) (hts _ hw2) rfl hd rfl hi hby hk hn fun cA kA comp f1 f2 f3 f4 => ?_
  have hcA : cA = jcA f.1 t := by
    obtain ⟨kA', comp', g1, g2, g3, g4⟩ := (hK.2 t _ (jtys_get ht)).2
    exact Option.some.inj (f1.symm.trans g4)
  subst hcA
  generalize hH1 : H.push ({ cls := jcA f.1 t, slots := Array.replicate i.toNatClampNeg .null, vm := .none } : Cell) = H1
  have z1 : H1.size = H.size + 1 := by rw [← hH1, Array.size_push]
  have e1 : H1[H.size]? = some (arrV (jcA f.1 t) i.toNatClampNeg (fun _ => .null)) := by rw [← hH1, Array.getElem?_push_size, ← arrV_new]
  have o1 : ∀ q : Nat, q < H.size → H1[q]? = H[q]? := fun q hq => by rw [← hH1, Array.getElem?_push, if_neg (Nat.ne_of_lt hq)]
  rw [hH] at e1 ⊢
  refine kk p e s m args below meth c C ls H1 locs hlv (jpush hP o1 ?_) (fun _ => by rw [z1, hH]; rfl) (jS_up hS z1 o1)
  show H1[jb f.1 + N]? = some (vp_cell _ _)
  rw [vp_cell_q]
  exact e1
end JM
