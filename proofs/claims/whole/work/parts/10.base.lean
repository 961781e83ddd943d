/-! the cells that the law makes, by number behind its start; one judgement for every method over them -/
abbrev jE : Type := (Nat × vp_A) ⊕ (Nat × List Value)
abbrev jG : Type := Launch × (Nat × Nat × Nat × Nat) × (Nat → Int32) × va_G × (Nat → ClassId)
def jl (g : jG) : Launch := g.1
def jb (g : jG) : Nat := g.2.1.1
def jaS (g : jG) : Nat := g.2.1.2.1
def jaN (g : jG) : Nat := g.2.1.2.2.1
def jaI (g : jG) : Nat := g.2.1.2.2.2
def jxs (g : jG) : Nat → Int32 := g.2.2.1
def jD (g : jG) : va_G := g.2.2.2.1
def jcA (g : jG) : Nat → ClassId := g.2.2.2.2
def jA (g : jG) : Nat → Prop := fun q => jb g ≤ q
def jre (g : jG) (e : jE) : va_E := match e with
  | .inl a => .inl (jcA g a.1, a.2)
  | .inr o => .inr o
def jpool (g : jG) (N : Nat) (mu : Nat → jE) : va_W := (List.range N).map (fun q => (jb g + q, jre g (mu q)))
theorem jpool_get {g : jG} {N : Nat} {mu : Nat → jE} {q : Nat} (h : q < N) : (jpool g N mu)[q]? = some (jb g + q, jre g (mu q)) := by
  simp [jpool, h]
theorem jpool_len {g : jG} {N : Nat} {mu : Nat → jE} : (jpool g N mu).length = N := by
  simp [jpool]
theorem jpool_at {g : jG} {N : Nat} {mu : Nat → jE} {i : Nat} {x : Nat × va_E} (h : (jpool g N mu)[i]? = some x) : i < N ∧ x = (jb g + i, jre g (mu i)) := by
  have hl : i < (jpool g N mu).length := (List.getElem?_eq_some_iff.mp h).1
  have hN : i < N := by rw [jpool_len] at hl; exact hl
  refine ⟨hN, ?_⟩
  rw [jpool_get hN] at h
  exact (Option.some.inj h).symm
theorem jpool_D (g : jG) (N : Nat) (mu : Nat → jE) : va_D (jA g) (jpool g N mu) := by
  refine ⟨fun i j x y hi hj hxy => ?_, fun k q hk => ?_⟩
  · obtain ⟨-, rfl⟩ := jpool_at hi
    obtain ⟨-, rfl⟩ := jpool_at hj
    have h : jb g + i = jb g + j := hxy
    omega
  · obtain ⟨-, rfl⟩ := jpool_at hk
    exact Nat.le_add_right _ _
theorem jpool_set {g : jG} {N : Nat} {mu : Nat → jE} {q : Nat} (h : q < N) (e : jE) : (jpool g N mu).set q (jb g + q, jre g e) = jpool g N (va_up mu q e) := by
  apply List.ext_getElem?
  intro i
  by_cases hi : i < N
  · by_cases hq : i = q
    · subst hq
      rw [List.getElem?_set_self (by rw [jpool_len]; exact hi), jpool_get hi]
      simp [va_up]
    · rw [List.getElem?_set_ne (Ne.symm hq), jpool_get hi, jpool_get hi]
      simp [va_up, hq]
  · rw [List.getElem?_eq_none (by rw [List.length_set, jpool_len]; omega), List.getElem?_eq_none (by rw [jpool_len]; omega)]
theorem jpool_push {g : jG} {N : Nat} {mu : Nat → jE} (e : jE) : jpool g N mu ++ [(jb g + N, jre g e)] = jpool g (N + 1) (va_up mu N e) := by
  unfold jpool
  rw [List.range_succ, List.map_append]
  congr 1
  · apply List.map_congr_left
    intro q hq
    have hlt := List.mem_range.mp hq
    simp [va_up, Nat.ne_of_lt hlt]
  · simp [va_up]
/-- a method: its class, name, code, number of locals, answer's type, handlers -/
abbrev jY : Type := String × MethodName × ByteArray × Nat × Option FieldType × List (Nat × Nat × Nat × Nat)
def jyo (y : jY) : String := y.1
def jyn (y : jY) : MethodName := y.2.1
def jyc (y : jY) : ByteArray := y.2.2.1
def jyL (y : jY) : Nat := y.2.2.2.1
def jyr (y : jY) : Option FieldType := y.2.2.2.2.1
def jyh (y : jY) : List (Nat × Nat × Nat × Nat) := y.2.2.2.2.2
def jcw (y : jY) : Cond := match jyh y with
  | [] => .code (jyn y) (jyc y) (jyL y) (jyr y)
  | _ => .codeWith (jyn y) (jyc y) (jyL y) (jyr y) (jyh y)
def jRm (d : Nat × Nat) (kC kS : Nat) : Room := { frames := d.1, cells := kC, slots := kS, locals := d.2 }
abbrev jRes : Type := Option Value ⊕ Nat
/-- N known cells, what they hold, whether they are all that was made, the cells and slots that this method has made -/
abbrev jS : Type := Nat × (Nat → jE) × Bool × Nat × Nat
abbrev jQ : Type := jRes → Nat → (Nat → jE) → Bool → Prop
def jSz (g : jG) (x : Bool) (N : Nat) (H : Heap) : Prop := x = true → H.size = jb g + N
def jex (x : Nat) : String := match x with
  | 0 => "java/lang/IllegalStateException"
  | 1 => "java/lang/IllegalArgumentException"
  | _ => "java/lang/IndexOutOfBoundsException"
def jOut (s t : State) (r : jRes) (o : Outcome) : Prop := match r with
  | .inl v => o = .returned v
  | .inr x => ∃ (a : Addr) (cell : Cell), o = .threw a ∧ t.heap[a]? = some cell ∧ cell.vm.isStatics = false ∧ s.vm.findClass (jex x) = some cell.cls
def jtys (g : jG) : List (ClassId × FieldType) := (List.range jtyl.length).map (fun t => (jcA g t, jtyl.getD t .int))
theorem jtys_get {g : jG} {t : Nat} {ty : FieldType} (h : jtyl[t]? = some ty) : (jtys g)[t]? = some (jcA g t, ty) := by
  have hl : t < jtyl.length := (List.getElem?_eq_some_iff.mp h).1
  simp [jtys, hl]
  exact (List.getElem?_eq_some_iff.mp h).2
def jP (g : jG) (N : Nat) (mu : Nat → jE) (H : Heap) : Prop := va_P (jD g) jcl (jpool g N mu) H
def jinv (j : Nat) : Int32 := match j with
  | 0 => 0
  | 1 => 1
  | 2 => 1073741824
  | 3 => 1431655765
  | 4 => 536870912
  | _ => 858993459
def jStr : List (Nat × String) := [(57, "there is a file"), (77, "a file has 1 to 64 words"), (80, "there are 3 files"), (98, "no such file or keeper"), (125, "no such row of a keeper"), (137, "no such number of a keeper's row, or d is not of the field"), (139, "the row is lost"), (157, "the keeper has no such file, or m is not 1 to its rows"), (184, "no challenge"), (202, "the keeper has no such file"), (213, "a group has not four good rows"), (218, "no such file"), (230, "no such number of a file's row"), (232, "no such number of a keeper's row")]
def jNos : List (String × String) := [("java/lang/IllegalStateException", "java/lang/IllegalArgumentException"), ("java/lang/IllegalStateException", "java/lang/IndexOutOfBoundsException")]
def jNo (a b : Nat) : Prop := (jex a, jex b) ∈ jNos
def jU : String := "[Ljava/lang/StackTraceElement;"
def jLs (g : jG) (s : State) (C n d : String) : Prop := ∃ a : Nat, a < jb g ∧ (∃ (k : Class) (c i : Nat) (f : Field), s.fieldFound? C n d = some (c, k, i, f) ∧ k.statics = some a) ∧ (Cond.laysStatic C n d).before #[] s = true
theorem jLs_to {g : jG} {s U : State} {C n d : String} (h : jLs g s C n d) (hW : s.WarmedH U.vm) (ho : ∀ q : Nat, q < jb g → U.heap[q]? = s.heap[q]?) : jLs g U C n d := by
  obtain ⟨a, ha, ⟨k, c, i, f, h1, h2⟩, hl⟩ := h
  obtain ⟨c', k', i', f', a', cell, q1, q2, q3, q4, q5, q6, q7, q8, q9⟩ := Cond.laysStatic_spec hl
  cases h1.symm.trans q2
  cases h2.symm.trans q4
  obtain ⟨k2, hi2, he⟩ := State.fieldFound?_setVm hW.alike q2
  have hi3 : U.fieldFound? C n d = some (c, k2, i, f) := hi2
  exact ⟨a, ha, ⟨k2, c, i, f, hi3, by rw [he]; exact q4⟩, Cond.laysStatic_of (by rw [hW.alike.findClass]; exact q1) hi3 q3 (by rw [he]; exact q4) (by rw [ho a ha]; exact q5) q6 q7 q8 (by rw [he]; exact q9)⟩
/-- the cells that were there before the law's start: the table of inverses, the two statics that a Throwable reads, the texts; classes that are none of another's -/
def jFor (g : jG) (s : State) : Prop := va_Z "AuditDesk$Field" "INVERSES" "[I" (.ref (jaI g)) (jA g) s s.heap ∧ va_T .int (jaI g) 6 (fun j => .int (jinv j)) (jA g) s s.heap ∧
  (va_Zq "java/lang/Throwable" "UNASSIGNED_STACK" jU (jA g) s s.heap ∧ va_Zq "java/lang/Throwable" "SUPPRESSED_SENTINEL" "Ljava/util/List;" (jA g) s s.heap) ∧
  (jLs g s "java/lang/Throwable" "UNASSIGNED_STACK" jU ∧ jLs g s "java/lang/Throwable" "SUPPRESSED_SENTINEL" "Ljava/util/List;") ∧ (∀ q ∈ jStr, ∃ a, vk_R "AuditDesk" q.1 q.2 a s) ∧ ∀ q ∈ jNos, ∀ c t : ClassId, s.vm.findClass q.1 = some c → s.vm.findClass q.2 = some t → s.vm.assignable c t = false
theorem jFor_to {g : jG} {s U : State} (h : jFor g s) (hW : s.WarmedH U.vm) (hb : jb g ≤ s.heap.size) (ho : ∀ q : Nat, q < jb g → U.heap[q]? = s.heap[q]?) : jFor g U := by
  obtain ⟨h1, h2, ⟨h3, h4⟩, ⟨l1, l2⟩, h5, h6⟩ := h
  have k : ∀ a : Nat, a < s.heap.size → ¬ jA g a → U.heap[a]? = s.heap[a]? := fun a _ hA => ho a (Nat.not_le.mp hA)
  have hal := hW.alike
  refine ⟨(h1.moved hal).kept k, (h2.moved hal).kept k, ⟨(h3.moved hal).kept k, (h4.moved hal).kept k⟩, ⟨jLs_to l1 hW ho, jLs_to l2 hW ho⟩, fun q hq => ?_, fun q hq c t hc ht => ?_⟩
  · obtain ⟨a, ha⟩ := h5 q hq
    exact ⟨a, ha.warm hW⟩
  · rw [hal.findClass] at hc ht
    rw [hal.assignable]
    exact h6 q hq c t hc ht
theorem jisRef {C n d : String} {A : Nat → Prop} {U : State} {args : Array Value} (h : va_Zq C n d A U U.heap) : (Cond.isRef (.static C n d)).before args U = true := by
  rcases h with h | ⟨t, h⟩
  · obtain ⟨cf, kf, fi, f, a, cell, h1, h2, h3, h4, h5, h6, h7, -⟩ := h
    simp [Cond.before, Cond.holds, Cond.value, Term.eval, State.fieldNamed?, h1, h2, h4, h5, h6, h7]
  · obtain ⟨cf, kf, fi, f, a, cell, h1, h2, h3, h4, h5, h6, h7, -⟩ := h
    simp [Cond.before, Cond.holds, Cond.value, Term.eval, State.fieldNamed?, h1, h2, h4, h5, h6, h7]
/-- what every state of the run keeps: the tables' words, the numbers of the classes, the cells that were there before the law's start -/
def jHyp (g : jG) (s : State) : Prop :=
  (∀ w ∈ jTab, ∀ A : Array Value, w.before A s = true) ∧ va_K (jD g) jcl (jtys g) s ∧ jb g ≤ s.heap.size ∧ (jaS g < jb g ∧ va_X (jaS g) (jaN g) (jxs g) s s.heap) ∧ jFor g s ∧ ∀ e : Env, (jl g).admits e → e.platform.stackTraces = false
def jCx (g : jG) (y : jY) (p : Program) (s : State) (m : MethodId) (meth : Method) (c : Code) : Prop :=
  p.tables.exec = Jvm.exec ∧ c.code = jyc y ∧ c.maxLocals = jyL y ∧ s.vm.findClass (jyo y) = some m.cls ∧ jHyp g s ∧ meth.sig.returnType = jyr y ∧ meth.locks = false ∧ meth.name = (jyn y).name ∧
    c.exceptionTable.toList = tableOf (jyh y)
def jEnd (g : jG) (kC kS : Nat) (Q : jQ) (s : State) (o : Outcome) (t : State) : Prop :=
  s.WarmedH t.vm ∧ (∃ L, s.sameButNew ({ t with vm := s.vm } : State) L kC kS ∧ ∀ q ∈ L, jb g ≤ q.base) ∧ va_F (jA g) s t ∧
    ∃ (r : jRes) (N : Nat) (mu : Nat → jE) (x : Bool), Q r N mu x ∧ jOut s t r o ∧ jP g N mu t.heap ∧ jSz g x N t.heap
def jZ (g : jG) (below : List Frame) (kC kS : Nat) (Q : jQ) (s : State) : State → Prop := fun t => ∃ o, t.status = .running ∧ Ended t below o ∧ jEnd g kC kS Q s o t
/-- a walk's frame: the place, the method, its depth, the cells and slots that it may make, its end -/
abbrev jF : Type := jG × jY × (Nat × Nat) × Nat × Nat × jQ
def jJ (f : jF) (lv : List (Nat × Value)) (w : jS) (pc : Nat) (st : List Value) : Prop :=
  ∀ (p : Program) (e : Env) (s : State) (m : MethodId) (args : Array Value) (below : List Frame) (meth : Method) (c : Code), jCx f.1 f.2.1 p s m meth c →
    ∀ (ls : Array Slot) (H : Heap) (locs : List Loc), lv_has ls (jyL f.2.1) lv → jP f.1 w.1 w.2.1 H → jSz f.1 w.2.2.1 w.1 H → va_S (jA f.1) s.heap H locs →
      W p (jl f.1) e (jRm f.2.2.1 f.2.2.2.1 f.2.2.2.2.1) s m args below meth c H locs w.2.2.2.1 w.2.2.2.2 (jZ f.1 below f.2.2.2.1 f.2.2.2.2.1 f.2.2.2.2.2 s) (F0 m pc ls st)
/-- a method's contract at given arguments and cells -/
def jMet (g : jG) (y : jY) (d : Nat × Nat) (kC kS : Nat) (as : List Value) (N : Nat) (mu : Nat → jE) (x : Bool) (Q : jQ) : Prop :=
  MetFree (jl g) (jyn y) (headSpec [jcw y] (jRm d kC kS)) (fun a U => a = as.toArray ∧ jHyp g U ∧ jP g N mu U.heap ∧ jSz g x N U.heap) (fun _ _ _ _ _ => True) (fun _ s o t => jEnd g kC kS Q s o t)
theorem jMet.mono {g : jG} {y : jY} {d : Nat × Nat} {kC kS : Nat} {as : List Value} {N : Nat} {mu : Nat → jE} {x : Bool} {Q Q' : jQ} (h : jMet g y d kC kS as N mu x Q) (hQ : ∀ r N' mu' x', Q r N' mu' x' → Q' r N' mu' x') : jMet g y d kC kS as N mu x Q' := by
  intro p e h1 h2 h3 s m args below h4 h5 h6 h7
  obtain ⟨n, o, a1, a2, a3, b1, b2, b3, r, N', mu', x', c1, c2⟩ := h p e h1 h2 h3 s m args below h4 h5 h6 h7
  exact ⟨n, o, a1, a2, a3, b1, b2, b3, r, N', mu', x', hQ _ _ _ _ c1, c2⟩
