/-! behind the constructors: each cell's kind, its numbers in two flat functions -/

def jfv (b : Nat) (i : Nat → Int32) (l : Nat → Int64) : Nat → List Nat → List Value
  | _, [] => []
  | j, 0 :: r => .int (i j) :: jfv b i l (j + 1) r
  | j, 1 :: r => .long (l j) :: jfv b i l (j + 1) r
  | j, (a + 2) :: r => .ref (b + a) :: jfv b i l (j + 1) r
def jcell (b : Nat) (I : Nat → Nat → Int32) (L : Nat → Nat → Int64) (q : Nat) (h : jH) : jE := match h with
  | .inl (t, n) => .inl (t, n, .inl (I q))
  | .inr (.inl (t, n)) => .inl (t, n, .inr (.inl (L q)))
  | .inr (.inr (.inl (t, rs))) => .inl (t, rs.length, .inr (.inr (.inr (.inr (fun j => (rs[j]?).map (fun r => b + r))))))
  | .inr (.inr (.inr (ci, fl))) => .inr (ci, jfv b (I q) (L q) 0 fl)
def jmem (b : Nat) (I : Nat → Nat → Int32) (L : Nat → Nat → Int64) (q : Nat) : jE := jcell b I L q (jshp q)
def jup (I : Nat → Nat → Int32) (q j : Nat) (v : Int32) : Nat → Nat → Int32 := fun a => if a = q then upd (I q) j v else I a
def jupL (L : Nat → Nat → Int64) (q j : Nat) (v : Int64) : Nat → Nat → Int64 := fun a => if a = q then vp_updL (L q) j v else L a
theorem jup_q (I : Nat → Nat → Int32) (q j : Nat) (v : Int32) : jup I q j v q = upd (I q) j v := if_pos rfl
theorem jup_n (I : Nat → Nat → Int32) {q a : Nat} (j : Nat) (v : Int32) (h : a ≠ q) : jup I q j v a = I a := if_neg h
theorem jupL_q (L : Nat → Nat → Int64) (q j : Nat) (v : Int64) : jupL L q j v q = vp_updL (L q) j v := if_pos rfl
theorem jupL_n (L : Nat → Nat → Int64) {q a : Nat} (j : Nat) (v : Int64) (h : a ≠ q) : jupL L q j v a = L a := if_neg h
theorem jcell_eq {b : Nat} {I I' : Nat → Nat → Int32} {L L' : Nat → Nat → Int64} {q : Nat} (h : jH) (hI : I q = I' q) (hL : L q = L' q) : jcell b I L q h = jcell b I' L' q h := by
  unfold jcell
  rw [hI, hL]
theorem jfv_get (b : Nat) (i : Nat → Int32) (l : Nat → Int64) : ∀ (fl : List Nat) (j0 j : Nat), (jfv b i l j0 fl)[j]? = (fl[j]?).map (fun k => match k with
    | 0 => Value.int (i (j0 + j))
    | 1 => Value.long (l (j0 + j))
    | a + 2 => Value.ref (b + a))
  | [], _, _ => rfl
  | 0 :: r, j0, 0 => rfl
  | 1 :: r, j0, 0 => rfl
  | (a + 2) :: r, j0, 0 => rfl
  | 0 :: r, j0, j + 1 => by
    show (jfv b i l (j0 + 1) r)[j]? = _
    rw [jfv_get b i l r (j0 + 1) j, show j0 + 1 + j = j0 + (j + 1) by omega]
    rfl
  | 1 :: r, j0, j + 1 => by
    show (jfv b i l (j0 + 1) r)[j]? = _
    rw [jfv_get b i l r (j0 + 1) j, show j0 + 1 + j = j0 + (j + 1) by omega]
    rfl
  | (a + 2) :: r, j0, j + 1 => by
    show (jfv b i l (j0 + 1) r)[j]? = _
    rw [jfv_get b i l r (j0 + 1) j, show j0 + 1 + j = j0 + (j + 1) by omega]
    rfl
theorem jfv_len (b : Nat) (i : Nat → Int32) (l : Nat → Int64) : ∀ (fl : List Nat) (j0 : Nat), (jfv b i l j0 fl).length = fl.length
  | [], _ => rfl
  | 0 :: r, j0 => by show (jfv b i l (j0 + 1) r).length + 1 = _; rw [jfv_len]; rfl
  | 1 :: r, j0 => by show (jfv b i l (j0 + 1) r).length + 1 = _; rw [jfv_len]; rfl
  | (a + 2) :: r, j0 => by show (jfv b i l (j0 + 1) r).length + 1 = _; rw [jfv_len]; rfl
theorem jfv_setI {b : Nat} {i : Nat → Int32} {l : Nat → Int64} {fl : List Nat} {j : Nat} {v : Int32} (h : fl[j]? = some 0) : (jfv b i l 0 fl).set j (.int v) = jfv b (upd i j v) l 0 fl := by
  apply List.ext_getElem?
  intro a
  have hl : j < (jfv b i l 0 fl).length := by rw [jfv_len]; exact (List.getElem?_eq_some_iff.mp h).1
  by_cases ha : a = j
  · subst ha
    rw [List.getElem?_set_self hl, jfv_get, h]
    simp [upd]
  · rw [List.getElem?_set_ne (Ne.symm ha), jfv_get, jfv_get]
    simp [upd, ha]
theorem jfv_setL {b : Nat} {i : Nat → Int32} {l : Nat → Int64} {fl : List Nat} {j : Nat} {v : Int64} (h : fl[j]? = some 1) : (jfv b i l 0 fl).set j (.long v) = jfv b i (vp_updL l j v) 0 fl := by
  apply List.ext_getElem?
  intro a
  have hl : j < (jfv b i l 0 fl).length := by rw [jfv_len]; exact (List.getElem?_eq_some_iff.mp h).1
  by_cases ha : a = j
  · subst ha
    rw [List.getElem?_set_self hl, jfv_get, h]
    simp [vp_updL]
  · rw [List.getElem?_set_ne (Ne.symm ha), jfv_get, jfv_get]
    simp [vp_updL, ha]
theorem jmem_I {b : Nat} {I : Nat → Nat → Int32} {L : Nat → Nat → Int64} {q t n : Nat} (h : jshp q = .inl (t, n)) : jmem b I L q = .inl (t, n, .inl (I q)) := by
  unfold jmem
  rw [h]
  rfl
theorem jmem_L {b : Nat} {I : Nat → Nat → Int32} {L : Nat → Nat → Int64} {q t n : Nat} (h : jshp q = .inr (.inl (t, n))) : jmem b I L q = .inl (t, n, .inr (.inl (L q))) := by
  unfold jmem
  rw [h]
  rfl
theorem jmem_R {b : Nat} {I : Nat → Nat → Int32} {L : Nat → Nat → Int64} {q t : Nat} {rs : List Nat} (h : jshp q = .inr (.inr (.inl (t, rs)))) : jmem b I L q = .inl (t, rs.length, .inr (.inr (.inr (.inr (fun j => (rs[j]?).map (fun r => b + r)))))) := by
  unfold jmem
  rw [h]
  rfl
theorem jmem_O {b : Nat} {I : Nat → Nat → Int32} {L : Nat → Nat → Int64} {q ci : Nat} {fl : List Nat} (h : jshp q = .inr (.inr (.inr (ci, fl)))) : jmem b I L q = .inr (ci, jfv b (I q) (L q) 0 fl) := by
  unfold jmem
  rw [h]
  rfl
theorem jmem_up {b : Nat} {I I' : Nat → Nat → Int32} {L L' : Nat → Nat → Int64} {q : Nat} {e : jE} (he : jmem b I' L' q = e) (hI : ∀ a, a ≠ q → I' a = I a) (hL : ∀ a, a ≠ q → L' a = L a) : va_up (jmem b I L) q e = jmem b I' L' := by
  funext a
  unfold va_up
  split
  next h => rw [h]; exact he.symm
  next h => exact jcell_eq _ (hI a h).symm (hL a h).symm
theorem jmem_upI {b : Nat} {I : Nat → Nat → Int32} {L : Nat → Nat → Int64} {q t n j : Nat} {v : Int32} (h : jshp q = .inl (t, n)) : va_up (jmem b I L) q (.inl (t, n, .inl (upd (I q) j v))) = jmem b (jup I q j v) L :=
  jmem_up (by rw [jmem_I h, jup_q]) (fun a ha => jup_n I j v ha) (fun _ _ => rfl)
theorem jmem_upL {b : Nat} {I : Nat → Nat → Int32} {L : Nat → Nat → Int64} {q t n j : Nat} {v : Int64} (h : jshp q = .inr (.inl (t, n))) : va_up (jmem b I L) q (.inl (t, n, .inr (.inl (vp_updL (L q) j v)))) = jmem b I (jupL L q j v) :=
  jmem_up (by rw [jmem_L h, jupL_q]) (fun _ _ => rfl) (fun a ha => jupL_n L j v ha)
theorem jmem_upFI {b : Nat} {I : Nat → Nat → Int32} {L : Nat → Nat → Int64} {q ci j : Nat} {fl : List Nat} {v : Int32} (h : jshp q = .inr (.inr (.inr (ci, fl)))) (hj : fl[j]? = some 0) : va_up (jmem b I L) q (.inr (ci, (jfv b (I q) (L q) 0 fl).set j (.int v))) = jmem b (jup I q j v) L :=
  jmem_up (by rw [jmem_O h, jup_q, jfv_setI hj]) (fun a ha => jup_n I j v ha) (fun _ _ => rfl)
theorem jmem_upFL {b : Nat} {I : Nat → Nat → Int32} {L : Nat → Nat → Int64} {q ci j : Nat} {fl : List Nat} {v : Int64} (h : jshp q = .inr (.inr (.inr (ci, fl)))) (hj : fl[j]? = some 1) : va_up (jmem b I L) q (.inr (ci, (jfv b (I q) (L q) 0 fl).set j (.long v))) = jmem b I (jupL L q j v) :=
  jmem_up (by rw [jmem_O h, jupL_q, jfv_setL hj]) (fun _ _ => rfl) (fun a ha => jupL_n L j v ha)
