/-! the simple instructions over jJ -/
theorem j_iconst {f : jF} {lv : List (Nat × Value)} {w : jS} {pc : Nat} {st : List Value} {n : Int} {v : Int32} (hd : decode (jyc f.2.1) pc = .ok (.iconst n, 1)) (hv : Int32.ofInt n = v) (kk : jJ f lv w (pc + 1) (.int v :: st)) : jJ f lv w pc st := by
  intro p e s m args below meth c C ls H locs hl hP hz hS
  exact lv_iconst C.1 C.2.1 hd hv (kk p e s m args below meth c C ls H locs hl hP hz hS)
theorem j_bipush {f : jF} {lv : List (Nat × Value)} {w : jS} {pc : Nat} {st : List Value} {n : Int} {v : Int32} (hd : decode (jyc f.2.1) pc = .ok (.bipush n, 2)) (hv : (Int8.ofInt n).toInt32 = v) (kk : jJ f lv w (pc + 2) (.int v :: st)) : jJ f lv w pc st := by
  intro p e s m args below meth c C ls H locs hl hP hz hS
  exact lv_bipush C.1 C.2.1 hd hv (kk p e s m args below meth c C ls H locs hl hP hz hS)
theorem j_sipush {f : jF} {lv : List (Nat × Value)} {w : jS} {pc : Nat} {st : List Value} {n : Int} {v : Int32} (hd : decode (jyc f.2.1) pc = .ok (.sipush n, 3)) (hv : (Int16.ofInt n).toInt32 = v) (kk : jJ f lv w (pc + 3) (.int v :: st)) : jJ f lv w pc st := by
  intro p e s m args below meth c C ls H locs hl hP hz hS
  exact lv_sipush C.1 C.2.1 hd hv (kk p e s m args below meth c C ls H locs hl hP hz hS)
theorem j_lconst {f : jF} {lv : List (Nat × Value)} {w : jS} {pc : Nat} {st : List Value} {n : Fin 2} {v : Int64} (hd : decode (jyc f.2.1) pc = .ok (.lconst n, 1)) (hv : Int64.ofNat (n : Nat) = v) (kk : jJ f lv w (pc + 1) (.long v :: st)) : jJ f lv w pc st := by
  intro p e s m args below meth c C ls H locs hl hP hz hS
  exact lv_lconst C.1 C.2.1 hd hv (kk p e s m args below meth c C ls H locs hl hP hz hS)
theorem j_iload_n {f : jF} {lv : List (Nat × Value)} {w : jS} {pc : Nat} {st : List Value} {j : Fin 4} {i : Nat} {x : Int32} (hd : decode (jyc f.2.1) pc = .ok (.iload_n j, 1)) (hi : (j : Nat) = i) (k : Nat) (hk : lv[k]? = some (i, .int x)) (kk : jJ f lv w (pc + 1) (.int x :: st)) : jJ f lv w pc st := by
  intro p e s m args below meth c C ls H locs hl hP hz hS
  exact lv_iload_n C.1 C.2.1 hd hi (lv_at hl k hk) (kk p e s m args below meth c C ls H locs hl hP hz hS)
theorem j_iload {f : jF} {lv : List (Nat × Value)} {w : jS} {pc : Nat} {st : List Value} {i : Nat} {x : Int32} (hd : decode (jyc f.2.1) pc = .ok (.iload i, 2)) (k : Nat) (hk : lv[k]? = some (i, .int x)) (kk : jJ f lv w (pc + 2) (.int x :: st)) : jJ f lv w pc st := by
  intro p e s m args below meth c C ls H locs hl hP hz hS
  exact lv_iload C.1 C.2.1 hd (lv_at hl k hk) (kk p e s m args below meth c C ls H locs hl hP hz hS)
theorem j_istore_n {f : jF} {lv : List (Nat × Value)} {w : jS} {pc : Nat} {st : List Value} {j : Fin 4} {i : Nat} {x : Int32} {lv' : List (Nat × Value)} (hd : decode (jyc f.2.1) pc = .ok (.istore_n j, 1)) (hi : (j : Nat) = i) (hn : i < jyL f.2.1) (hv : (i, Value.int x) :: lv.filter (fun q => !(q.1 == i) && !(q.1 + 1 == i && q.2.category == 2)) = lv') (kk : jJ f lv' w (pc + 1) st) : jJ f lv w pc (.int x :: st) := by
  intro p e s m args below meth c C ls H locs hl hP hz hS
  exact lv_istore_n C.1 C.2.1 hd hi hl hn hv (fun ls' hl' => kk p e s m args below meth c C ls' H locs hl' hP hz hS)
theorem j_istore {f : jF} {lv : List (Nat × Value)} {w : jS} {pc : Nat} {st : List Value} {i : Nat} {x : Int32} {lv' : List (Nat × Value)} (hd : decode (jyc f.2.1) pc = .ok (.istore i, 2)) (hn : i < jyL f.2.1) (hv : (i, Value.int x) :: lv.filter (fun q => !(q.1 == i) && !(q.1 + 1 == i && q.2.category == 2)) = lv') (kk : jJ f lv' w (pc + 2) st) : jJ f lv w pc (.int x :: st) := by
  intro p e s m args below meth c C ls H locs hl hP hz hS
  exact lv_istore C.1 C.2.1 hd hl hn hv (fun ls' hl' => kk p e s m args below meth c C ls' H locs hl' hP hz hS)
theorem j_lload_n {f : jF} {lv : List (Nat × Value)} {w : jS} {pc : Nat} {st : List Value} {j : Fin 4} {i : Nat} {x : Int64} (hd : decode (jyc f.2.1) pc = .ok (.lload_n j, 1)) (hi : (j : Nat) = i) (k : Nat) (hk : lv[k]? = some (i, .long x)) (kk : jJ f lv w (pc + 1) (.long x :: st)) : jJ f lv w pc st := by
  intro p e s m args below meth c C ls H locs hl hP hz hS
  exact lv_lload_n C.1 C.2.1 hd hi (lv_at hl k hk) (kk p e s m args below meth c C ls H locs hl hP hz hS)
theorem j_lload {f : jF} {lv : List (Nat × Value)} {w : jS} {pc : Nat} {st : List Value} {i : Nat} {x : Int64} (hd : decode (jyc f.2.1) pc = .ok (.lload i, 2)) (k : Nat) (hk : lv[k]? = some (i, .long x)) (kk : jJ f lv w (pc + 2) (.long x :: st)) : jJ f lv w pc st := by
  intro p e s m args below meth c C ls H locs hl hP hz hS
  exact lv_lload C.1 C.2.1 hd (lv_at hl k hk) (kk p e s m args below meth c C ls H locs hl hP hz hS)
theorem j_lstore_n {f : jF} {lv : List (Nat × Value)} {w : jS} {pc : Nat} {st : List Value} {j : Fin 4} {i : Nat} {x : Int64} {lv' : List (Nat × Value)} (hd : decode (jyc f.2.1) pc = .ok (.lstore_n j, 1)) (hi : (j : Nat) = i) (hn : i + 1 < jyL f.2.1) (hv : (i, Value.long x) :: lv.filter (fun q => !(q.1 == i) && (!(q.1 == i + 1) && !(q.1 + 1 == i && q.2.category == 2))) = lv') (kk : jJ f lv' w (pc + 1) st) : jJ f lv w pc (.long x :: st) := by
  intro p e s m args below meth c C ls H locs hl hP hz hS
  exact lv_lstore_n C.1 C.2.1 hd hi hl hn hv (fun ls' hl' => kk p e s m args below meth c C ls' H locs hl' hP hz hS)
theorem j_lstore {f : jF} {lv : List (Nat × Value)} {w : jS} {pc : Nat} {st : List Value} {i : Nat} {x : Int64} {lv' : List (Nat × Value)} (hd : decode (jyc f.2.1) pc = .ok (.lstore i, 2)) (hn : i + 1 < jyL f.2.1) (hv : (i, Value.long x) :: lv.filter (fun q => !(q.1 == i) && (!(q.1 == i + 1) && !(q.1 + 1 == i && q.2.category == 2))) = lv') (kk : jJ f lv' w (pc + 2) st) : jJ f lv w pc (.long x :: st) := by
  intro p e s m args below meth c C ls H locs hl hP hz hS
  exact lv_lstore C.1 C.2.1 hd hl hn hv (fun ls' hl' => kk p e s m args below meth c C ls' H locs hl' hP hz hS)
theorem j_aload_n {f : jF} {lv : List (Nat × Value)} {w : jS} {pc : Nat} {st : List Value} {j : Fin 4} {i : Nat} {x : Nat} (hd : decode (jyc f.2.1) pc = .ok (.aload_n j, 1)) (hi : (j : Nat) = i) (k : Nat) (hk : lv[k]? = some (i, .ref x)) (kk : jJ f lv w (pc + 1) (.ref x :: st)) : jJ f lv w pc st := by
  intro p e s m args below meth c C ls H locs hl hP hz hS
  exact lv_aload_n C.1 C.2.1 hd hi (lv_at hl k hk) (kk p e s m args below meth c C ls H locs hl hP hz hS)
theorem j_aload {f : jF} {lv : List (Nat × Value)} {w : jS} {pc : Nat} {st : List Value} {i : Nat} {x : Nat} (hd : decode (jyc f.2.1) pc = .ok (.aload i, 2)) (k : Nat) (hk : lv[k]? = some (i, .ref x)) (kk : jJ f lv w (pc + 2) (.ref x :: st)) : jJ f lv w pc st := by
  intro p e s m args below meth c C ls H locs hl hP hz hS
  exact lv_aload C.1 C.2.1 hd (lv_at hl k hk) (kk p e s m args below meth c C ls H locs hl hP hz hS)
theorem j_astore_n {f : jF} {lv : List (Nat × Value)} {w : jS} {pc : Nat} {st : List Value} {j : Fin 4} {i : Nat} {x : Nat} {lv' : List (Nat × Value)} (hd : decode (jyc f.2.1) pc = .ok (.astore_n j, 1)) (hi : (j : Nat) = i) (hn : i < jyL f.2.1) (hv : (i, Value.ref x) :: lv.filter (fun q => !(q.1 == i) && !(q.1 + 1 == i && q.2.category == 2)) = lv') (kk : jJ f lv' w (pc + 1) st) : jJ f lv w pc (.ref x :: st) := by
  intro p e s m args below meth c C ls H locs hl hP hz hS
  exact lv_astore_n C.1 C.2.1 hd hi hl hn hv (fun ls' hl' => kk p e s m args below meth c C ls' H locs hl' hP hz hS)
theorem j_astore {f : jF} {lv : List (Nat × Value)} {w : jS} {pc : Nat} {st : List Value} {i : Nat} {x : Nat} {lv' : List (Nat × Value)} (hd : decode (jyc f.2.1) pc = .ok (.astore i, 2)) (hn : i < jyL f.2.1) (hv : (i, Value.ref x) :: lv.filter (fun q => !(q.1 == i) && !(q.1 + 1 == i && q.2.category == 2)) = lv') (kk : jJ f lv' w (pc + 2) st) : jJ f lv w pc (.ref x :: st) := by
  intro p e s m args below meth c C ls H locs hl hP hz hS
  exact lv_astore C.1 C.2.1 hd hl hn hv (fun ls' hl' => kk p e s m args below meth c C ls' H locs hl' hP hz hS)
theorem j_iinc {f : jF} {lv : List (Nat × Value)} {w : jS} {pc : Nat} {st : List Value} {i : Nat} {n : Int} {x v : Int32} {lv' : List (Nat × Value)} (hd : decode (jyc f.2.1) pc = .ok (.iinc i n, 3)) (k : Nat) (hk : lv[k]? = some (i, .int x)) (hx : x + Int32.ofInt n = v) (hn : i < jyL f.2.1) (hv : (i, Value.int v) :: lv.filter (fun q => !(q.1 == i) && !(q.1 + 1 == i && q.2.category == 2)) = lv') (kk : jJ f lv' w (pc + 3) st) : jJ f lv w pc st := by
  intro p e s m args below meth c C ls H locs hl hP hz hS
  exact lv_iinc C.1 C.2.1 hd hl hk hx hn hv (fun ls' hl' => kk p e s m args below meth c C ls' H locs hl' hP hz hS)
theorem j_iadd {f : jF} {lv : List (Nat × Value)} {w : jS} {pc : Nat} {st : List Value} {x y : Int32} (hd : decode (jyc f.2.1) pc = .ok (.iadd, 1)) (kk : jJ f lv w (pc + 1) (.int (x + y) :: st)) : jJ f lv w pc (.int y :: .int x :: st) := by
  intro p e s m args below meth c C ls H locs hl hP hz hS
  exact lv_iadd C.1 C.2.1 hd (kk p e s m args below meth c C ls H locs hl hP hz hS)
theorem j_isub {f : jF} {lv : List (Nat × Value)} {w : jS} {pc : Nat} {st : List Value} {x y : Int32} (hd : decode (jyc f.2.1) pc = .ok (.isub, 1)) (kk : jJ f lv w (pc + 1) (.int (x - y) :: st)) : jJ f lv w pc (.int y :: .int x :: st) := by
  intro p e s m args below meth c C ls H locs hl hP hz hS
  exact lv_isub C.1 C.2.1 hd (kk p e s m args below meth c C ls H locs hl hP hz hS)
theorem j_imul {f : jF} {lv : List (Nat × Value)} {w : jS} {pc : Nat} {st : List Value} {x y : Int32} (hd : decode (jyc f.2.1) pc = .ok (.imul, 1)) (kk : jJ f lv w (pc + 1) (.int (x * y) :: st)) : jJ f lv w pc (.int y :: .int x :: st) := by
  intro p e s m args below meth c C ls H locs hl hP hz hS
  exact lv_imul C.1 C.2.1 hd (kk p e s m args below meth c C ls H locs hl hP hz hS)
theorem j_iand {f : jF} {lv : List (Nat × Value)} {w : jS} {pc : Nat} {st : List Value} {x y : Int32} (hd : decode (jyc f.2.1) pc = .ok (.iand, 1)) (kk : jJ f lv w (pc + 1) (.int (x &&& y) :: st)) : jJ f lv w pc (.int y :: .int x :: st) := by
  intro p e s m args below meth c C ls H locs hl hP hz hS
  exact lv_iand C.1 C.2.1 hd (kk p e s m args below meth c C ls H locs hl hP hz hS)
theorem j_ior {f : jF} {lv : List (Nat × Value)} {w : jS} {pc : Nat} {st : List Value} {x y : Int32} (hd : decode (jyc f.2.1) pc = .ok (.ior, 1)) (kk : jJ f lv w (pc + 1) (.int (x ||| y) :: st)) : jJ f lv w pc (.int y :: .int x :: st) := by
  intro p e s m args below meth c C ls H locs hl hP hz hS
  exact lv_ior C.1 C.2.1 hd (kk p e s m args below meth c C ls H locs hl hP hz hS)
theorem j_ixor {f : jF} {lv : List (Nat × Value)} {w : jS} {pc : Nat} {st : List Value} {x y : Int32} (hd : decode (jyc f.2.1) pc = .ok (.ixor, 1)) (kk : jJ f lv w (pc + 1) (.int (x ^^^ y) :: st)) : jJ f lv w pc (.int y :: .int x :: st) := by
  intro p e s m args below meth c C ls H locs hl hP hz hS
  exact lv_ixor C.1 C.2.1 hd (kk p e s m args below meth c C ls H locs hl hP hz hS)
theorem j_ishl {f : jF} {lv : List (Nat × Value)} {w : jS} {pc : Nat} {st : List Value} {x y : Int32} (hd : decode (jyc f.2.1) pc = .ok (.ishl, 1)) (kk : jJ f lv w (pc + 1) (.int (x <<< (y &&& 31)) :: st)) : jJ f lv w pc (.int y :: .int x :: st) := by
  intro p e s m args below meth c C ls H locs hl hP hz hS
  exact lv_ishl C.1 C.2.1 hd (kk p e s m args below meth c C ls H locs hl hP hz hS)
theorem j_ishr {f : jF} {lv : List (Nat × Value)} {w : jS} {pc : Nat} {st : List Value} {x y : Int32} (hd : decode (jyc f.2.1) pc = .ok (.ishr, 1)) (kk : jJ f lv w (pc + 1) (.int (x >>> (y &&& 31)) :: st)) : jJ f lv w pc (.int y :: .int x :: st) := by
  intro p e s m args below meth c C ls H locs hl hP hz hS
  exact lv_ishr C.1 C.2.1 hd (kk p e s m args below meth c C ls H locs hl hP hz hS)
theorem j_idiv {f : jF} {lv : List (Nat × Value)} {w : jS} {pc : Nat} {st : List Value} {x y : Int32} (hd : decode (jyc f.2.1) pc = .ok (.idiv, 1)) (hne : ¬ y = 0) (kk : jJ f lv w (pc + 1) (.int (x / y) :: st)) : jJ f lv w pc (.int y :: .int x :: st) := by
  intro p e s m args below meth c C ls H locs hl hP hz hS
  exact lv_idiv C.1 C.2.1 hd hne (kk p e s m args below meth c C ls H locs hl hP hz hS)
theorem j_irem {f : jF} {lv : List (Nat × Value)} {w : jS} {pc : Nat} {st : List Value} {x y : Int32} (hd : decode (jyc f.2.1) pc = .ok (.irem, 1)) (hne : ¬ y = 0) (kk : jJ f lv w (pc + 1) (.int (x - x / y * y) :: st)) : jJ f lv w pc (.int y :: .int x :: st) := by
  intro p e s m args below meth c C ls H locs hl hP hz hS
  exact lv_irem C.1 C.2.1 hd hne (kk p e s m args below meth c C ls H locs hl hP hz hS)
theorem j_ladd {f : jF} {lv : List (Nat × Value)} {w : jS} {pc : Nat} {st : List Value} {x y : Int64} (hd : decode (jyc f.2.1) pc = .ok (.ladd, 1)) (kk : jJ f lv w (pc + 1) (.long (x + y) :: st)) : jJ f lv w pc (.long y :: .long x :: st) := by
  intro p e s m args below meth c C ls H locs hl hP hz hS
  exact lv_ladd C.1 C.2.1 hd (kk p e s m args below meth c C ls H locs hl hP hz hS)
theorem j_lsub {f : jF} {lv : List (Nat × Value)} {w : jS} {pc : Nat} {st : List Value} {x y : Int64} (hd : decode (jyc f.2.1) pc = .ok (.lsub, 1)) (kk : jJ f lv w (pc + 1) (.long (x - y) :: st)) : jJ f lv w pc (.long y :: .long x :: st) := by
  intro p e s m args below meth c C ls H locs hl hP hz hS
  exact lv_lsub C.1 C.2.1 hd (kk p e s m args below meth c C ls H locs hl hP hz hS)
theorem j_lmul {f : jF} {lv : List (Nat × Value)} {w : jS} {pc : Nat} {st : List Value} {x y : Int64} (hd : decode (jyc f.2.1) pc = .ok (.lmul, 1)) (kk : jJ f lv w (pc + 1) (.long (x * y) :: st)) : jJ f lv w pc (.long y :: .long x :: st) := by
  intro p e s m args below meth c C ls H locs hl hP hz hS
  exact lv_lmul C.1 C.2.1 hd (kk p e s m args below meth c C ls H locs hl hP hz hS)
theorem j_land {f : jF} {lv : List (Nat × Value)} {w : jS} {pc : Nat} {st : List Value} {x y : Int64} (hd : decode (jyc f.2.1) pc = .ok (.land, 1)) (kk : jJ f lv w (pc + 1) (.long (x &&& y) :: st)) : jJ f lv w pc (.long y :: .long x :: st) := by
  intro p e s m args below meth c C ls H locs hl hP hz hS
  exact lv_land C.1 C.2.1 hd (kk p e s m args below meth c C ls H locs hl hP hz hS)
theorem j_lor {f : jF} {lv : List (Nat × Value)} {w : jS} {pc : Nat} {st : List Value} {x y : Int64} (hd : decode (jyc f.2.1) pc = .ok (.lor, 1)) (kk : jJ f lv w (pc + 1) (.long (x ||| y) :: st)) : jJ f lv w pc (.long y :: .long x :: st) := by
  intro p e s m args below meth c C ls H locs hl hP hz hS
  exact lv_lor C.1 C.2.1 hd (kk p e s m args below meth c C ls H locs hl hP hz hS)
theorem j_lxor {f : jF} {lv : List (Nat × Value)} {w : jS} {pc : Nat} {st : List Value} {x y : Int64} (hd : decode (jyc f.2.1) pc = .ok (.lxor, 1)) (kk : jJ f lv w (pc + 1) (.long (x ^^^ y) :: st)) : jJ f lv w pc (.long y :: .long x :: st) := by
  intro p e s m args below meth c C ls H locs hl hP hz hS
  exact lv_lxor C.1 C.2.1 hd (kk p e s m args below meth c C ls H locs hl hP hz hS)
theorem j_ldiv {f : jF} {lv : List (Nat × Value)} {w : jS} {pc : Nat} {st : List Value} {x y : Int64} (hd : decode (jyc f.2.1) pc = .ok (.ldiv, 1)) (hne : ¬ y = 0) (kk : jJ f lv w (pc + 1) (.long (x / y) :: st)) : jJ f lv w pc (.long y :: .long x :: st) := by
  intro p e s m args below meth c C ls H locs hl hP hz hS
  exact lv_ldiv C.1 C.2.1 hd hne (kk p e s m args below meth c C ls H locs hl hP hz hS)
theorem j_lrem {f : jF} {lv : List (Nat × Value)} {w : jS} {pc : Nat} {st : List Value} {x y : Int64} (hd : decode (jyc f.2.1) pc = .ok (.lrem, 1)) (hne : ¬ y = 0) (kk : jJ f lv w (pc + 1) (.long (x - x / y * y) :: st)) : jJ f lv w pc (.long y :: .long x :: st) := by
  intro p e s m args below meth c C ls H locs hl hP hz hS
  exact lv_lrem C.1 C.2.1 hd hne (kk p e s m args below meth c C ls H locs hl hP hz hS)
theorem j_ineg {f : jF} {lv : List (Nat × Value)} {w : jS} {pc : Nat} {st : List Value} {x : Int32} (hd : decode (jyc f.2.1) pc = .ok (.ineg, 1)) (kk : jJ f lv w (pc + 1) (.int (-x) :: st)) : jJ f lv w pc (.int x :: st) := by
  intro p e s m args below meth c C ls H locs hl hP hz hS
  exact lv_ineg C.1 C.2.1 hd (kk p e s m args below meth c C ls H locs hl hP hz hS)
theorem j_i2l {f : jF} {lv : List (Nat × Value)} {w : jS} {pc : Nat} {st : List Value} {x : Int32} {v : Int64} (hd : decode (jyc f.2.1) pc = .ok (.i2l, 1)) (hv : x.toInt64 = v) (kk : jJ f lv w (pc + 1) (.long v :: st)) : jJ f lv w pc (.int x :: st) := by
  intro p e s m args below meth c C ls H locs hl hP hz hS
  exact lv_i2l C.1 C.2.1 hd hv (kk p e s m args below meth c C ls H locs hl hP hz hS)
theorem j_l2i {f : jF} {lv : List (Nat × Value)} {w : jS} {pc : Nat} {st : List Value} {x : Int64} {v : Int32} (hd : decode (jyc f.2.1) pc = .ok (.l2i, 1)) (hv : x.toInt32 = v) (kk : jJ f lv w (pc + 1) (.int v :: st)) : jJ f lv w pc (.long x :: st) := by
  intro p e s m args below meth c C ls H locs hl hP hz hS
  exact lv_l2i C.1 C.2.1 hd hv (kk p e s m args below meth c C ls H locs hl hP hz hS)
theorem j_iushr {f : jF} {lv : List (Nat × Value)} {w : jS} {pc : Nat} {st : List Value} {x y v : Int32} (hd : decode (jyc f.2.1) pc = .ok (.iushr, 1)) (hv : (x.toUInt32 >>> (y.toUInt32 &&& Int32.toUInt32 31)).toInt32 = v) (kk : jJ f lv w (pc + 1) (.int v :: st)) : jJ f lv w pc (.int y :: .int x :: st) := by
  intro p e s m args below meth c C ls H locs hl hP hz hS
  exact lv_iushr C.1 C.2.1 hd hv (kk p e s m args below meth c C ls H locs hl hP hz hS)
theorem j_lushr {f : jF} {lv : List (Nat × Value)} {w : jS} {pc : Nat} {st : List Value} {x v : Int64} {y : Int32} (hd : decode (jyc f.2.1) pc = .ok (.lushr, 1)) (hv : (x.toUInt64 >>> (y.toInt64.toUInt64 &&& Int64.toUInt64 63)).toInt64 = v) (kk : jJ f lv w (pc + 1) (.long v :: st)) : jJ f lv w pc (.int y :: .long x :: st) := by
  intro p e s m args below meth c C ls H locs hl hP hz hS
  exact lv_lushr C.1 C.2.1 hd hv (kk p e s m args below meth c C ls H locs hl hP hz hS)
theorem j_lshl {f : jF} {lv : List (Nat × Value)} {w : jS} {pc : Nat} {st : List Value} {x v : Int64} {y : Int32} (hd : decode (jyc f.2.1) pc = .ok (.lshl, 1)) (hv : x <<< (y.toInt64 &&& 63) = v) (kk : jJ f lv w (pc + 1) (.long v :: st)) : jJ f lv w pc (.int y :: .long x :: st) := by
  intro p e s m args below meth c C ls H locs hl hP hz hS
  exact lv_lshl C.1 C.2.1 hd hv (kk p e s m args below meth c C ls H locs hl hP hz hS)
theorem j_lshr {f : jF} {lv : List (Nat × Value)} {w : jS} {pc : Nat} {st : List Value} {x v : Int64} {y : Int32} (hd : decode (jyc f.2.1) pc = .ok (.lshr, 1)) (hv : x >>> (y.toInt64 &&& 63) = v) (kk : jJ f lv w (pc + 1) (.long v :: st)) : jJ f lv w pc (.int y :: .long x :: st) := by
  intro p e s m args below meth c C ls H locs hl hP hz hS
  exact lv_lshr C.1 C.2.1 hd hv (kk p e s m args below meth c C ls H locs hl hP hz hS)
theorem j_lcmp {f : jF} {lv : List (Nat × Value)} {w : jS} {pc : Nat} {st : List Value} {x y : Int64} (hd : decode (jyc f.2.1) pc = .ok (.lcmp, 1)) (kk : jJ f lv w (pc + 1) (.int (lg_cmp x y) :: st)) : jJ f lv w pc (.long y :: .long x :: st) := by
  intro p e s m args below meth c C ls H locs hl hP hz hS
  exact W.lcmp C.1 C.2.1 hd (kk p e s m args below meth c C ls H locs hl hP hz hS)
theorem j_dup {f : jF} {lv : List (Nat × Value)} {w : jS} {pc : Nat} {st : List Value} {va : Value} (hd : decode (jyc f.2.1) pc = .ok (.dup, 1)) (h1 : va.category = 1) (kk : jJ f lv w (pc + 1) (va :: va :: st)) : jJ f lv w pc (va :: st) := by
  intro p e s m args below meth c C ls H locs hl hP hz hS
  exact lv_dup C.1 C.2.1 hd h1 (kk p e s m args below meth c C ls H locs hl hP hz hS)
theorem j_pop {f : jF} {lv : List (Nat × Value)} {w : jS} {pc : Nat} {st : List Value} {va : Value} (hd : decode (jyc f.2.1) pc = .ok (.pop, 1)) (h1 : va.category = 1) (kk : jJ f lv w (pc + 1) st) : jJ f lv w pc (va :: st) := by
  intro p e s m args below meth c C ls H locs hl hP hz hS
  exact lv_pop C.1 C.2.1 hd h1 (kk p e s m args below meth c C ls H locs hl hP hz hS)
theorem j_pop2_2 {f : jF} {lv : List (Nat × Value)} {w : jS} {pc : Nat} {st : List Value} {va : Value} (hd : decode (jyc f.2.1) pc = .ok (.pop2, 1)) (h1 : va.category = 2) (kk : jJ f lv w (pc + 1) st) : jJ f lv w pc (va :: st) := by
  intro p e s m args below meth c C ls H locs hl hP hz hS
  exact lv_pop2_2 C.1 C.2.1 hd h1 (kk p e s m args below meth c C ls H locs hl hP hz hS)
theorem j_dup_x1 {f : jF} {lv : List (Nat × Value)} {w : jS} {pc : Nat} {st : List Value} {va vb : Value} (hd : decode (jyc f.2.1) pc = .ok (.dup_x1, 1)) (h1 : va.category = 1) (h2 : vb.category = 1) (kk : jJ f lv w (pc + 1) (va :: vb :: va :: st)) : jJ f lv w pc (va :: vb :: st) := by
  intro p e s m args below meth c C ls H locs hl hP hz hS
  exact lv_dup_x1 C.1 C.2.1 hd h1 h2 (kk p e s m args below meth c C ls H locs hl hP hz hS)
theorem j_dup_x2 {f : jF} {lv : List (Nat × Value)} {w : jS} {pc : Nat} {st : List Value} {va vb vd : Value} (hd : decode (jyc f.2.1) pc = .ok (.dup_x2, 1)) (h1 : va.category = 1) (h2 : vb.category = 1) (h3 : vd.category = 1) (kk : jJ f lv w (pc + 1) (va :: vb :: vd :: va :: st)) : jJ f lv w pc (va :: vb :: vd :: st) := by
  intro p e s m args below meth c C ls H locs hl hP hz hS
  exact lv_dup_x2 C.1 C.2.1 hd h1 h2 h3 (kk p e s m args below meth c C ls H locs hl hP hz hS)
theorem j_dup2 {f : jF} {lv : List (Nat × Value)} {w : jS} {pc : Nat} {st : List Value} {va vb : Value} (hd : decode (jyc f.2.1) pc = .ok (.dup2, 1)) (h1 : va.category = 1) (h2 : vb.category = 1) (kk : jJ f lv w (pc + 1) (va :: vb :: va :: vb :: st)) : jJ f lv w pc (va :: vb :: st) := by
  intro p e s m args below meth c C ls H locs hl hP hz hS
  exact lv_dup2_11 C.1 C.2.1 hd h1 h2 (kk p e s m args below meth c C ls H locs hl hP hz hS)
theorem j_dup2_2 {f : jF} {lv : List (Nat × Value)} {w : jS} {pc : Nat} {st : List Value} {va : Value} (hd : decode (jyc f.2.1) pc = .ok (.dup2, 1)) (h1 : va.category = 2) (kk : jJ f lv w (pc + 1) (va :: va :: st)) : jJ f lv w pc (va :: st) := by
  intro p e s m args below meth c C ls H locs hl hP hz hS
  exact lv_dup2_2 C.1 C.2.1 hd h1 (kk p e s m args below meth c C ls H locs hl hP hz hS)
theorem j_if_eq {f : jF} {lv : List (Nat × Value)} {w : jS} {pc : Nat} {st : List Value} {x : Int32} {off : Int} (hd : decode (jyc f.2.1) pc = .ok (.ifCond .eq off, 3)) (tgt : Nat) (ht : (pc : Int) + off = (tgt : Int)) (kt : x = 0 → jJ f lv w tgt st) (kf : ¬ x = 0 → jJ f lv w (pc + 3) st) : jJ f lv w pc (.int x :: st) := by
  intro p e s m args below meth c C ls H locs hl hP hz hS
  exact lv_if_eq C.1 C.2.1 hd ht (fun h => kt h p e s m args below meth c C ls H locs hl hP hz hS) (fun h => kf h p e s m args below meth c C ls H locs hl hP hz hS)
theorem j_icmp_eq {f : jF} {lv : List (Nat × Value)} {w : jS} {pc : Nat} {st : List Value} {x y : Int32} {off : Int} (hd : decode (jyc f.2.1) pc = .ok (.if_icmp .eq off, 3)) (tgt : Nat) (ht : (pc : Int) + off = (tgt : Int)) (kt : x = y → jJ f lv w tgt st) (kf : ¬ x = y → jJ f lv w (pc + 3) st) : jJ f lv w pc (.int y :: .int x :: st) := by
  intro p e s m args below meth c C ls H locs hl hP hz hS
  exact lv_icmp_eq C.1 C.2.1 hd ht (fun h => kt h p e s m args below meth c C ls H locs hl hP hz hS) (fun h => kf h p e s m args below meth c C ls H locs hl hP hz hS)
theorem j_if_ne {f : jF} {lv : List (Nat × Value)} {w : jS} {pc : Nat} {st : List Value} {x : Int32} {off : Int} (hd : decode (jyc f.2.1) pc = .ok (.ifCond .ne off, 3)) (tgt : Nat) (ht : (pc : Int) + off = (tgt : Int)) (kt : ¬ x = 0 → jJ f lv w tgt st) (kf : x = 0 → jJ f lv w (pc + 3) st) : jJ f lv w pc (.int x :: st) := by
  intro p e s m args below meth c C ls H locs hl hP hz hS
  exact lv_if_ne C.1 C.2.1 hd ht (fun h => kt h p e s m args below meth c C ls H locs hl hP hz hS) (fun h => kf h p e s m args below meth c C ls H locs hl hP hz hS)
theorem j_icmp_ne {f : jF} {lv : List (Nat × Value)} {w : jS} {pc : Nat} {st : List Value} {x y : Int32} {off : Int} (hd : decode (jyc f.2.1) pc = .ok (.if_icmp .ne off, 3)) (tgt : Nat) (ht : (pc : Int) + off = (tgt : Int)) (kt : ¬ x = y → jJ f lv w tgt st) (kf : x = y → jJ f lv w (pc + 3) st) : jJ f lv w pc (.int y :: .int x :: st) := by
  intro p e s m args below meth c C ls H locs hl hP hz hS
  exact lv_icmp_ne C.1 C.2.1 hd ht (fun h => kt h p e s m args below meth c C ls H locs hl hP hz hS) (fun h => kf h p e s m args below meth c C ls H locs hl hP hz hS)
theorem j_if_lt {f : jF} {lv : List (Nat × Value)} {w : jS} {pc : Nat} {st : List Value} {x : Int32} {off : Int} (hd : decode (jyc f.2.1) pc = .ok (.ifCond .lt off, 3)) (tgt : Nat) (ht : (pc : Int) + off = (tgt : Int)) (kt : x < 0 → jJ f lv w tgt st) (kf : ¬ x < 0 → jJ f lv w (pc + 3) st) : jJ f lv w pc (.int x :: st) := by
  intro p e s m args below meth c C ls H locs hl hP hz hS
  exact lv_if_lt C.1 C.2.1 hd ht (fun h => kt h p e s m args below meth c C ls H locs hl hP hz hS) (fun h => kf h p e s m args below meth c C ls H locs hl hP hz hS)
theorem j_icmp_lt {f : jF} {lv : List (Nat × Value)} {w : jS} {pc : Nat} {st : List Value} {x y : Int32} {off : Int} (hd : decode (jyc f.2.1) pc = .ok (.if_icmp .lt off, 3)) (tgt : Nat) (ht : (pc : Int) + off = (tgt : Int)) (kt : x < y → jJ f lv w tgt st) (kf : ¬ x < y → jJ f lv w (pc + 3) st) : jJ f lv w pc (.int y :: .int x :: st) := by
  intro p e s m args below meth c C ls H locs hl hP hz hS
  exact lv_icmp_lt C.1 C.2.1 hd ht (fun h => kt h p e s m args below meth c C ls H locs hl hP hz hS) (fun h => kf h p e s m args below meth c C ls H locs hl hP hz hS)
theorem j_if_ge {f : jF} {lv : List (Nat × Value)} {w : jS} {pc : Nat} {st : List Value} {x : Int32} {off : Int} (hd : decode (jyc f.2.1) pc = .ok (.ifCond .ge off, 3)) (tgt : Nat) (ht : (pc : Int) + off = (tgt : Int)) (kt : 0 ≤ x → jJ f lv w tgt st) (kf : ¬ 0 ≤ x → jJ f lv w (pc + 3) st) : jJ f lv w pc (.int x :: st) := by
  intro p e s m args below meth c C ls H locs hl hP hz hS
  exact lv_if_ge C.1 C.2.1 hd ht (fun h => kt h p e s m args below meth c C ls H locs hl hP hz hS) (fun h => kf h p e s m args below meth c C ls H locs hl hP hz hS)
theorem j_icmp_ge {f : jF} {lv : List (Nat × Value)} {w : jS} {pc : Nat} {st : List Value} {x y : Int32} {off : Int} (hd : decode (jyc f.2.1) pc = .ok (.if_icmp .ge off, 3)) (tgt : Nat) (ht : (pc : Int) + off = (tgt : Int)) (kt : y ≤ x → jJ f lv w tgt st) (kf : ¬ y ≤ x → jJ f lv w (pc + 3) st) : jJ f lv w pc (.int y :: .int x :: st) := by
  intro p e s m args below meth c C ls H locs hl hP hz hS
  exact lv_icmp_ge C.1 C.2.1 hd ht (fun h => kt h p e s m args below meth c C ls H locs hl hP hz hS) (fun h => kf h p e s m args below meth c C ls H locs hl hP hz hS)
theorem j_if_gt {f : jF} {lv : List (Nat × Value)} {w : jS} {pc : Nat} {st : List Value} {x : Int32} {off : Int} (hd : decode (jyc f.2.1) pc = .ok (.ifCond .gt off, 3)) (tgt : Nat) (ht : (pc : Int) + off = (tgt : Int)) (kt : 0 < x → jJ f lv w tgt st) (kf : ¬ 0 < x → jJ f lv w (pc + 3) st) : jJ f lv w pc (.int x :: st) := by
  intro p e s m args below meth c C ls H locs hl hP hz hS
  exact lv_if_gt C.1 C.2.1 hd ht (fun h => kt h p e s m args below meth c C ls H locs hl hP hz hS) (fun h => kf h p e s m args below meth c C ls H locs hl hP hz hS)
theorem j_icmp_gt {f : jF} {lv : List (Nat × Value)} {w : jS} {pc : Nat} {st : List Value} {x y : Int32} {off : Int} (hd : decode (jyc f.2.1) pc = .ok (.if_icmp .gt off, 3)) (tgt : Nat) (ht : (pc : Int) + off = (tgt : Int)) (kt : y < x → jJ f lv w tgt st) (kf : ¬ y < x → jJ f lv w (pc + 3) st) : jJ f lv w pc (.int y :: .int x :: st) := by
  intro p e s m args below meth c C ls H locs hl hP hz hS
  exact lv_icmp_gt C.1 C.2.1 hd ht (fun h => kt h p e s m args below meth c C ls H locs hl hP hz hS) (fun h => kf h p e s m args below meth c C ls H locs hl hP hz hS)
theorem j_if_le {f : jF} {lv : List (Nat × Value)} {w : jS} {pc : Nat} {st : List Value} {x : Int32} {off : Int} (hd : decode (jyc f.2.1) pc = .ok (.ifCond .le off, 3)) (tgt : Nat) (ht : (pc : Int) + off = (tgt : Int)) (kt : x ≤ 0 → jJ f lv w tgt st) (kf : ¬ x ≤ 0 → jJ f lv w (pc + 3) st) : jJ f lv w pc (.int x :: st) := by
  intro p e s m args below meth c C ls H locs hl hP hz hS
  exact lv_if_le C.1 C.2.1 hd ht (fun h => kt h p e s m args below meth c C ls H locs hl hP hz hS) (fun h => kf h p e s m args below meth c C ls H locs hl hP hz hS)
theorem j_icmp_le {f : jF} {lv : List (Nat × Value)} {w : jS} {pc : Nat} {st : List Value} {x y : Int32} {off : Int} (hd : decode (jyc f.2.1) pc = .ok (.if_icmp .le off, 3)) (tgt : Nat) (ht : (pc : Int) + off = (tgt : Int)) (kt : x ≤ y → jJ f lv w tgt st) (kf : ¬ x ≤ y → jJ f lv w (pc + 3) st) : jJ f lv w pc (.int y :: .int x :: st) := by
  intro p e s m args below meth c C ls H locs hl hP hz hS
  exact lv_icmp_le C.1 C.2.1 hd ht (fun h => kt h p e s m args below meth c C ls H locs hl hP hz hS) (fun h => kf h p e s m args below meth c C ls H locs hl hP hz hS)
theorem j_goto {f : jF} {lv : List (Nat × Value)} {w : jS} {pc : Nat} {st : List Value} {off : Int} (hd : decode (jyc f.2.1) pc = .ok (.goto off, 3)) (tgt : Nat) (ht : (pc : Int) + off = (tgt : Int)) (kk : jJ f lv w tgt st) : jJ f lv w pc st := by
  intro p e s m args below meth c C ls H locs hl hP hz hS
  exact lv_goto C.1 C.2.1 hd ht (kk p e s m args below meth c C ls H locs hl hP hz hS)
theorem j_lookup {f : jF} {lv : List (Nat × Value)} {w : jS} {pc : Nat} {st : List Value} {dflt : Int} {ps : Array (Int × Int)} {len : Nat} {x : Int32} {off : Int} (hd : decode (jyc f.2.1) pc = .ok (.lookupswitch dflt ps, len)) (hp : (ps.toList.zip (ps.toList.drop 1)).all (fun (a, next) => a.1 < next.1) = true) (ho : Op.lookupswitch.offset ps.toList dflt x.toInt = off) (tgt : Nat) (ht : (pc : Int) + off = (tgt : Int)) (kk : jJ f lv w tgt st) : jJ f lv w pc (.int x :: st) := by
  intro p e s m args below meth c C ls H locs hl hP hz hS
  exact lv_lookup C.1 C.2.1 hd hp ho ht (kk p e s m args below meth c C ls H locs hl hP hz hS)
theorem j_tableOut {f : jF} {lv : List (Nat × Value)} {w : jS} {pc : Nat} {st : List Value} {dflt lo hi : Int} {offs : Array Int} {len : Nat} {x : Int32} (hd : decode (jyc f.2.1) pc = .ok (.tableswitch dflt lo hi offs, len)) (h : x.toInt < lo ∨ hi < x.toInt) (tgt : Nat) (ht : (pc : Int) + dflt = (tgt : Int)) (kk : jJ f lv w tgt st) : jJ f lv w pc (.int x :: st) := by
  intro p e s m args below meth c C ls H locs hl hP hz hS
  exact lv_tableOut C.1 C.2.1 hd h ht (kk p e s m args below meth c C ls H locs hl hP hz hS)
theorem j_tableIn {f : jF} {lv : List (Nat × Value)} {w : jS} {pc : Nat} {st : List Value} {dflt lo hi : Int} {offs : Array Int} {len : Nat} {x : Int32} {off : Int} (hd : decode (jyc f.2.1) pc = .ok (.tableswitch dflt lo hi offs, len)) (h1 : ¬ x.toInt < lo) (h2 : ¬ hi < x.toInt) (ho : offs[(x.toInt - lo).toNat]? = some off) (tgt : Nat) (ht : (pc : Int) + off = (tgt : Int)) (kk : jJ f lv w tgt st) : jJ f lv w pc (.int x :: st) := by
  intro p e s m args below meth c C ls H locs hl hP hz hS
  exact lv_tableIn C.1 C.2.1 hd h1 h2 ho ht (kk p e s m args below meth c C ls H locs hl hP hz hS)
theorem j_ldc {f : jF} {lv : List (Nat × Value)} {w : jS} {pc : Nat} {st : List Value} {index : Nat} {v : Int32} (hd : decode (jyc f.2.1) pc = .ok (.ldc index, 2)) (hw : Jvm.Cond.constant (jyo f.2.1) index v ∈ jTab) (kk : jJ f lv w (pc + 2) (.int v :: st)) : jJ f lv w pc st := by
  intro p e s m args below meth c C ls H locs hl hP hz hS
  exact lv_ldc C.1 C.2.1 C.2.2.2.1 (C.2.2.2.2.1.1 _ hw args) hd (kk p e s m args below meth c C ls H locs hl hP hz hS)
theorem j_ldcw {f : jF} {lv : List (Nat × Value)} {w : jS} {pc : Nat} {st : List Value} {index : Nat} {v : Int32} (hd : decode (jyc f.2.1) pc = .ok (.ldc_w index, 3)) (hw : Jvm.Cond.constant (jyo f.2.1) index v ∈ jTab) (kk : jJ f lv w (pc + 3) (.int v :: st)) : jJ f lv w pc st := by
  intro p e s m args below meth c C ls H locs hl hP hz hS
  exact lv_ldcw C.1 C.2.1 C.2.2.2.1 (C.2.2.2.2.1.1 _ hw args) hd (kk p e s m args below meth c C ls H locs hl hP hz hS)
theorem j_ldc2 {f : jF} {lv : List (Nat × Value)} {w : jS} {pc : Nat} {st : List Value} {index : Nat} {v : Int64} (hd : decode (jyc f.2.1) pc = .ok (.ldc2_w index, 3)) (hw : Jvm.Cond.constantLong (jyo f.2.1) index v ∈ jTab) (kk : jJ f lv w (pc + 3) (.long v :: st)) : jJ f lv w pc st := by
  intro p e s m args below meth c C ls H locs hl hP hz hS
  exact lv_ldc2 C.1 C.2.1 C.2.2.2.1 (C.2.2.2.2.1.1 _ hw args) hd (kk p e s m args below meth c C ls H locs hl hP hz hS)
theorem j_lv {f : jF} {lv lv' : List (Nat × Value)} {w : jS} {pc : Nat} {st : List Value} (ks : List Nat) (hs : lv_pick lv ks = lv') (kk : jJ f lv' w pc st) : jJ f lv w pc st := by
  intro p e s m args below meth c C ls H locs hl hP hz hS
  exact kk p e s m args below meth c C ls H locs (lv_sub hl ks hs) hP hz hS
