/-! a method's end and its beginning -/
theorem jW.mono {p : Program} {l : Launch} {e : Env} {R : Room} {s : State} {m : MethodId} {args : Array Value} {below : List Frame} {meth : Method} {c : Code} {H : Heap} {locs : List Loc} {cells slots : Nat} {Q Q' : State → Prop} {g : JFrame}
    (h : W p l e R s m args below meth c H locs cells slots Q g) (hQ : ∀ t, Q t → Q' t) : W p l e R s m args below meth c H locs cells slots Q' g := by
  intro T hT X
  obtain ⟨t, a, b⟩ := h T hT X
  exact ⟨t, a, hQ t b⟩
def jQc (g : jG) (Q : jQ) : Array Value → State → Outcome → State → Prop := fun _ s o t => va_F (jA g) s t ∧ ∃ (r : jRes) (N : Nat) (mu : Nat → jE) (x : Bool), Q r N mu x ∧ jOut s t r o ∧ jP g N mu t.heap ∧ jSz g x N t.heap
theorem jZ_of {g : jG} {below : List Frame} {Q : jQ} {args : Array Value} {s : State} {kC kS : Nat} (t : State) (h : MQ below (jQc g Q) args s kC kS (fun q => jb g ≤ q) t) : jZ g below kC kS Q s t := by
  obtain ⟨o, h1, h2, ⟨hF, hr⟩, L, ⟨-, hW, hsame⟩, hL⟩ := h
  exact ⟨o, h1, h2, hW, ⟨L, hsame, hL⟩, hF, hr⟩
section JR
variable {f : jF} {lv : List (Nat × Value)} {N k n : Nat} {x : Bool} {mu : Nat → jE} {pc : Nat}
theorem j_iret {v : Int32} (hd : decode (jyc f.2.1) pc = .ok (.ireturn, 1)) (hr : jyr f.2.1 = some .int) (hk : k ≤ f.2.2.2.1) (hn : n ≤ f.2.2.2.2.1) (hQ : f.2.2.2.2.2 (.inl (some (.int v))) N mu x) : jJ f lv (N, mu, x, k, n) pc [.int v] := by
  intro p e s m args below meth c C ls H locs hl hP hz hS
  refine W.widen hk hn (jW.mono (W.iret (Qc := jQc f.1 f.2.2.2.2.2) (free := fun q => jb f.1 ≤ q) C.1 C.2.1 (C.2.2.2.2.2.1.trans hr) (fun t ht hW => ⟨hS.F ht, _, _, _, _, hQ, rfl, ?_, ?_⟩) hS.2.2 hd C.2.2.2.2.2.2.1) jZ_of)
  · rw [ht]; exact hP
  · rw [ht]; exact hz
theorem j_zret {v : Int32} {ty : FieldType} (hd : decode (jyc f.2.1) pc = .ok (.ireturn, 1)) (hr : jyr f.2.1 = some ty) (hv : narrow ty (.int v) = .int v) (hk : k ≤ f.2.2.2.1) (hn : n ≤ f.2.2.2.2.1) (hQ : f.2.2.2.2.2 (.inl (some (.int v))) N mu x) : jJ f lv (N, mu, x, k, n) pc [.int v] := by
  intro p e s m args below meth c C ls H locs hl hP hz hS
  refine W.widen hk hn (jW.mono (W.zret (Qc := jQc f.1 f.2.2.2.2.2) (free := fun q => jb f.1 ≤ q) C.1 C.2.1 (C.2.2.2.2.2.1.trans hr) hv (fun t ht hW => ⟨hS.F ht, _, _, _, _, hQ, rfl, ?_, ?_⟩) hS.2.2 hd C.2.2.2.2.2.2.1) jZ_of)
  · rw [ht]; exact hP
  · rw [ht]; exact hz
theorem j_lret {v : Int64} (hd : decode (jyc f.2.1) pc = .ok (.lreturn, 1)) (hr : jyr f.2.1 = some .long) (hk : k ≤ f.2.2.2.1) (hn : n ≤ f.2.2.2.2.1) (hQ : f.2.2.2.2.2 (.inl (some (.long v))) N mu x) : jJ f lv (N, mu, x, k, n) pc [.long v] := by
  intro p e s m args below meth c C ls H locs hl hP hz hS
  refine W.widen hk hn (jW.mono (W.lret (Qc := jQc f.1 f.2.2.2.2.2) (free := fun q => jb f.1 ≤ q) C.1 C.2.1 (C.2.2.2.2.2.1.trans hr) (fun t ht hW => ⟨hS.F ht, _, _, _, _, hQ, rfl, ?_, ?_⟩) hS.2.2 hd C.2.2.2.2.2.2.1) jZ_of)
  · rw [ht]; exact hP
  · rw [ht]; exact hz
theorem j_vret (hd : decode (jyc f.2.1) pc = .ok (.return_, 1)) (hr : jyr f.2.1 = none) (hk : k ≤ f.2.2.2.1) (hn : n ≤ f.2.2.2.2.1) (hQ : f.2.2.2.2.2 (.inl none) N mu x) : jJ f lv (N, mu, x, k, n) pc [] := by
  intro p e s m args below meth c C ls H locs hl hP hz hS
  refine W.widen hk hn (jW.mono (W.vret (Qc := jQc f.1 f.2.2.2.2.2) (free := fun q => jb f.1 ≤ q) C.1 C.2.1 (C.2.2.2.2.2.1.trans hr) (fun t ht hW => ⟨hS.F ht, _, _, _, _, hQ, rfl, ?_, ?_⟩) hS.2.2 hd C.2.2.2.2.2.2.1) jZ_of)
  · rw [ht]; exact hP
  · rw [ht]; exact hz
end JR
theorem jcw_with {y : jY} {args : Array Value} {s : State} (h : (jcw y).before args s = true) : (Cond.codeWith (jyn y) (jyc y) (jyL y) (jyr y) (jyh y)).before args s = true := by
  unfold jcw at h
  split at h
  next hh =>
    have e1 : (Cond.code (jyn y) (jyc y) (jyL y) (jyr y)).before args s = (Cond.codeWith (jyn y) (jyc y) (jyL y) (jyr y) []).before args s := by simp only [Cond.before, Cond.holds, Cond.code_iff_codeWith_nil]
    rw [hh, ← e1]
    exact h
  next => exact h
/-- a method's walk from its entry is its contract -/
theorem j_entry {g : jG} {y : jY} {d : Nat × Nat} {kC kS : Nat} {as : List Value} {N : Nat} {mu : Nat → jE} {x : Bool} {Q : jQ} (hpl : plainName (jyn y).cls = true) (hown : (jyn y).cls = jyo y) (hlen : (lg_sl as).length ≤ jyL y)
    (hJ : jJ (g, y, d, kC, kS, Q) (lv_args 0 as) (N, mu, x, 0, 0) 0 []) : jMet g y d kC kS as N mu x Q := by
  refine MetFree.of_bodyS (code := jyc y) (maxLocals := jyL y) (ret := jyr y) hpl ?_ ?_
  · intro args s m h hn
    obtain ⟨m9, meth, c, hn9, h1, h2, h3, h4, -, h5, h6, -⟩ := Cond.codeWith_spec (jcw_with (atoms_spec (ws := [jcw y]) h _ List.mem_cons_self))
    cases hn.symm.trans hn9
    exact ⟨meth, c, h1, h2, h3, h4, h5, h6⟩
  · intro p e s m args below meth c s₁ B hml hP _
    obtain ⟨rfl, hH, hPo, hz⟩ := hP
    have hh0 : s₁.heap = s.heap := by rw [B.state]; rfl
    have X0 := Stand.of_body B
    obtain ⟨m9, meth', c', hn9, h1, h2, -, -, ht, -, -, -⟩ := Cond.codeWith_spec (jcw_with (atoms_spec (ws := [jcw y]) B.pre _ List.mem_cons_self))
    cases B.named.symm.trans hn9
    cases B.method.symm.trans h1
    cases X0.code.symm.trans h2
    have C : jCx g y p s m meth c := ⟨B.exec, B.bytes, hml, by rw [← hown]; exact findClass_of_methodNamed B.named, hH, B.returns, B.notSynchronized, (name_of_methodNamed B.named B.method).1, by rw [← table_eq c.exceptionTable.toList, ht]⟩
    have hl := lv_entry as hlen
    have hW := hJ p e s m as.toArray below meth c C _ s.heap [] hl hPo hz va_S.rf
    rw [← lg_entry_eq] at hW
    obtain ⟨t, a1, o, b1, b2, b3⟩ := hW s₁ hh0 X0
    exact ⟨t, o, a1, b1, b2, b3⟩
