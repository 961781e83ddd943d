/-! a call that throws, caught by the caller's own table -/
/-- what the tables say of an entry of the caller's own table, for an object of class t thrown at pc: passed by -/
def jBy (pl : Platform) (s : State) (d : ClassId) (pc : Nat) (t : ClassId) (y : ExceptionTableEntry) : Prop := covers y pc = false ∨ (covers y pc = true ∧ y.catchType ≠ 0 ∧ ∃ c, s.vm.ClassLinks pl d y.catchType c ∧ s.vm.assignable t c = false)
theorem jgo_one {e : Env} {S s : State} {fr : JFrame} {a : Addr} {cell : Cell} {y : ExceptionTableEntry} {r : List ExceptionTableEntry} {c : ClassId} {v : Bool} (hW : s.WarmedH S.vm) (hcell : S.heap[a]? = some cell) (hobj : ∀ k, cell.vm ≠ .statics k) (hk0 : ∃ k, s.vm.classes[cell.cls]? = some k)
    (hx : covers y fr.pc = true) (h0 : y.catchType ≠ 0) (hl : s.vm.ClassLinks e.platform fr.method.cls y.catchType c) (hv : s.vm.assignable cell.cls c = v) :
    s.WarmedH (S.vm.noted fr.method.cls y.catchType (.cls c)) ∧ ∀ (Q : Handler → Pre) (E : CtlPost) (d : Bool) (acts : List Action),
      wp (findHandler.go fr a (y :: r)) Q E e d acts S ↔ if v = true then Q (.found y.handlerPc) d acts (S.setVm (S.vm.noted fr.method.cls y.catchType (.cls c))) else wp (findHandler.go fr a r) Q E e d acts (S.setVm (S.vm.noted fr.method.cls y.catchType (.cls c))) := by
  obtain ⟨dk, _, _, kt, hd, _, _, _, _, hkt, _, hopen⟩ := hl.here
  refine ⟨hW.noted hd hopen (State.rightAt_cls hl), fun Q E d acts => ?_⟩
  simp only [covers] at hx
  have hlS := hW.classLinks hl
  obtain ⟨ha, ht⟩ := (resolveClass_links e.toSetting hlS).op (op := VmOp.resolveClass fr.method.cls y.catchType) rfl
  have hal : S.vm.Alike (S.vm.noted fr.method.cls y.catchType (.cls c)) := (Vm.Alike.refl S.vm).noted _ _ _
  have hal2 := hW.alike.trans hal
  obtain ⟨k1, hk1⟩ := hk0
  obtain ⟨k1', hk1', -⟩ := hal2.2.2 _ _ hk1
  obtain ⟨k2', hk2', -⟩ := hal2.2.2 _ _ hkt
  have hfit : (S.vm.noted fr.method.cls y.catchType (.cls c)).assignable cell.cls c = v := by rw [hal2.assignable]; exact hv
  cases v
  · simp [findHandler.go, hx, h0, ha, ht, hcell, hobj, hk1', hk2', hfit, VmOp.dirties, VmOp.acts]
  · simp [findHandler.go, hx, h0, ha, ht, hcell, hobj, hk1', hk2', hfit, VmOp.dirties, VmOp.acts]
theorem jgo {e : Env} {s : State} {fr : JFrame} {a : Addr} {cell : Cell} (hobj : ∀ k, cell.vm ≠ .statics k) (hk0 : ∃ k, s.vm.classes[cell.cls]? = some k) (y : ExceptionTableEntry) (r : List ExceptionTableEntry) {c : ClassId} (hx : covers y fr.pc = true) (h0 : y.catchType ≠ 0)
    (hl : s.vm.ClassLinks e.platform fr.method.cls y.catchType c) (hv : s.vm.assignable cell.cls c = true) : ∀ (pre : List ExceptionTableEntry) (S : State), s.WarmedH S.vm → S.heap[a]? = some cell → (∀ z ∈ pre, jBy e.platform s fr.method.cls fr.pc cell.cls z) →
      ∃ vm', s.WarmedH vm' ∧ ∀ (Q : Handler → Pre) (E : CtlPost) (d : Bool) (acts : List Action), wp (findHandler.go fr a (pre ++ y :: r)) Q E e d acts S ↔ Q (.found y.handlerPc) d acts (S.setVm vm') := by
  intro pre
  induction pre with
  | nil =>
    intro S hW hcell _
    obtain ⟨h1, h2⟩ := jgo_one (r := r) hW hcell hobj hk0 hx h0 hl hv
    exact ⟨_, h1, fun Q E d acts => by rw [List.nil_append, h2 Q E d acts, if_pos rfl]⟩
  | cons z zs ih =>
    intro S hW hcell hpass
    have hrest : ∀ w ∈ zs, jBy e.platform s fr.method.cls fr.pc cell.cls w := fun w hw => hpass w (List.mem_cons_of_mem _ hw)
    rcases hpass z List.mem_cons_self with h | ⟨g1, g2, cz, g3, g4⟩
    · obtain ⟨vm', hW', hq⟩ := ih S hW hcell hrest
      exact ⟨vm', hW', fun Q E d acts => by rw [List.cons_append, W.findHandler_go_skip h]; exact hq Q E d acts⟩
    · obtain ⟨h1, h2⟩ := jgo_one (r := zs ++ y :: r) hW hcell hobj hk0 g1 g2 g3 g4
      obtain ⟨vm', hW', hq⟩ := ih (S.setVm (S.vm.noted fr.method.cls z.catchType (.cls cz))) h1 hcell hrest
      refine ⟨vm', hW', fun Q E d acts => ?_⟩
      rw [List.cons_append, h2 Q E d acts, if_neg (by decide)]
      exact hq Q E d acts
theorem jcaught {tb : Tables} {e : Env} {s target : State} {fr : JFrame} {c : Code} {below : List Frame} {a : Addr} (h : At s fr.method c below) {pc : Nat} {vm' : Vm}
    (hfind : ∀ (Q : Handler → Pre) (E : CtlPost) (d : Bool) (acts : List Action), wp (findHandler fr a) Q E e d acts ((s.setTop fr).pushFrame (.throwing a)) ↔ Q (.found pc) d acts (((s.setTop fr).pushFrame (.throwing a)).setVm vm'))
    (hrest : Steps tb e below ((s.setVm vm').setTop { fr with pc := pc, stack := [.ref a] }) target) : Steps tb e below ((s.setTop fr).pushFrame (.throwing a)) target := by
  obtain ⟨hgo, hw⟩ := h.throwing a
  refine Steps.head hgo hw ?_
  have key : ∀ (S : State) (r : List Frame), (∀ (Q : Handler → Pre) (E : CtlPost) (d : Bool) (acts : List Action), wp (findHandler fr a) Q E e d acts S ↔ Q (.found pc) d acts (S.setVm vm')) → (stepThrowing e S a (.java fr :: r)).1 = (S.setVm vm').setFrames (.java { fr with pc := pc, stack := [.ref a] } :: r) := by
    intro S r hS
    simp only [stepThrowing, searchFrame, vmDo]
    generalize hr : Sem.go _ e false [] S = res
    obtain ⟨as, rfl, ha⟩ := Sem.eq_ok_of hr (a := Handler.found pc) (s' := S.setVm vm') (acts' := []) (by simp [hS _ _ _ _])
    rfl
  rw [stepThread_throwing (frames_entered h.top _), key _ _ hfind]
  obtain ⟨g₀, hg⟩ := Option.isSome_iff_exists.mp h.top
  obtain ⟨r, hr⟩ := State.topJava?_eq_some.mp hg
  have hr' : (s.setVm vm').frames = .java g₀ :: r := hr
  rw [State.setTop_of_frames _ hr'] at hrest
  have e0 : ∀ F G : List Frame, ((s.setFrames F).setVm vm').setFrames G = (s.setVm vm').setFrames G := fun F G => by
    show ((s.setVm vm').setFrames F).setFrames G = _
    rw [State.setFrames_setFrames]
  rw [hr, List.tail_cons, State.pushFrame, State.setTop_of_frames _ hr, State.setFrames_setFrames, e0]
  exact hrest
theorem jNo_at {a b : Nat} {g : jG} {s : State} {c t : ClassId} (h : jNo a b) (hH : jHyp g s) (hc : s.vm.findClass (jex a) = some c) (ht : s.vm.findClass (jex b) = some t) : s.vm.assignable c t = false :=
  hH.2.2.2.2.1.2.2.2.2.2 _ h c t hc ht
section JK
variable {f : jF} {lv : List (Nat × Value)} {N k n : Nat} {x : Bool} {mu : Nat → jE} {pc : Nat} {st0 rest : List Value}
theorem j_callT {y' : jY} {d' : Nat × Nat} {kC' kS' na idx q ci kd : Nat} {as : List Value} {fs : List Value} {r : vw_C} {Q' : jQ} (hd : decode (jyc f.2.1) pc = .ok (.invokevirtual idx, 3)) (hm : jMth y' na) (hlk : Cond.methodLink (jyo f.2.1) idx (jyn y') ∈ jTab) (hin : Cond.instanceMethod (jyn y') ∈ jTab) (hse : Cond.selects (jyn y').cls (jyn y') (jyn y') ∈ jTab)
    (hq : q < N) (hmu : mu q = .inr (ci, fs)) (hcl : jcl[ci]? = some r) (hrn : r.1 = (jyn y').cls) (hR : d'.1 + 1 ≤ f.2.2.1.1 ∧ 8 + (jyL y' + 11) + d'.2 ≤ f.2.2.1.2) (hk : k + kC' ≤ f.2.2.2.1) (hn : n + kS' ≤ f.2.2.2.2.1) (hW : (rest.map fun v => v.category).sum ≤ 8) (hna : as.length = na)
    (hM : jMet f.1 y' d' kC' kS' (.ref (jb f.1 + q) :: as) N mu x Q') (hthr : ∀ r N' mu' x', Q' r N' mu' x' → r = .inr kd)
    (pre post : List (Nat × Nat × Nat × Nat)) (h : Nat × Nat × Nat × Nat) (hsp : jyh f.2.1 = pre ++ h :: post) (hcov : (decide (h.1 ≤ pc) && decide (pc < h.2.1)) = true) (hct : h.2.2.2 ≠ 0) (hcw : Cond.classLink (jyo f.2.1) h.2.2.2 (jex kd) ∈ jTab) (hcs : Cond.castable (jex kd) (jex kd) ∈ jTab)
    (hby : ∀ z ∈ pre, ∃ kz, z.2.2.2 ≠ 0 ∧ (decide (z.1 ≤ pc) && decide (pc < z.2.1)) = true ∧ Cond.classLink (jyo f.2.1) z.2.2.2 (jex kz) ∈ jTab ∧ jNo kd kz)
    (hst : st0 = as.reverse ++ .ref (jb f.1 + q) :: rest) (kk : ∀ a N' mu' x', Q' (.inr kd) N' mu' x' → jJ f lv (N', mu', x', k + kC', n + kS') h.2.2.1 [.ref a]) : jJ f lv (N, mu, x, k, n) pc st0 := by
  obtain ⟨hh, hcode, hini, hno, hdes⟩ := hm
  intro p e s m args below meth c C ls H locs hl hP hz hS T hT X
  have hts : ∀ w ∈ jTab, w.before args s = true := fun w hw => C.2.2.2.2.1.1 w hw args
  have hpl : e.platform.magicAccessors = ({} : Platform).magicAccessors := by rw [X.admits.platform]
  -- the call
  obtain ⟨cellB, hcB, hoB, hclB⟩ := va_recv C.2.2.2.2.1.2.1 hP hcl (jget_r hq hmu)
  rw [hrn] at hclB
  obtain ⟨mk, methM, hnamed, hmethM, hstM, habM⟩ := Cond.instanceMethod_spec (hts _ hin)
  obtain ⟨methM', cM, hmethM', hcM, -, hlM, -, -, -, hsigM⟩ := Cond.code_spec hnamed (hts _ hcode)
  cases hmethM.symm.trans hmethM'
  obtain ⟨c2, r2, m2, q1, q2, q3, q4, kP, hkP, hkPi⟩ := Cond.selects_spec (hts _ hse)
  cases hclB.symm.trans q1
  cases (State.methodFound?_of_named hnamed hno).symm.trans q2
  cases hnamed.symm.trans q3
  have hselP : selectMethod e.platform s.vm cellB.cls mk = .method mk := by rw [Launch.admits_selectMethod X.admits]; exact q4
  subst hst
  have hdg : decode c.code (F0 m pc ls (as.reverse ++ .ref (jb f.1 + q) :: rest)).pc = .ok (.invokevirtual idx, 3) := by rw [C.2.1]; exact hd
  obtain ⟨vm₁, X₁, hstep₁⟩ := X.invokevirtual C.1 C.2.2.2.1 (hts _ hlk) hnamed hmethM hstM hkP hkPi hno (a := jb f.1 + q) (cell := cellB) (by rw [hT]; exact hcB)
    (fun z hz => by rw [hz] at hoB; cases hoB) hselP hmethM habM hkP hkPi (g := F0 m pc ls (as.reverse ++ .ref (jb f.1 + q) :: rest)) rfl (argsL := as) (rest := rest) (hna.trans (jlen hdes _ hsigM)) rfl hdg
  -- the callee
  have hW₁ := X₁.warmed
  have hn₁ : (T.setVm vm₁).methodNamed? (jyn y') = some mk := X₁.named hnamed
  have hpc : jPc f.1 (.ref (jb f.1 + q) :: as) N mu x (Value.ref (jb f.1 + q) :: as).toArray (T.setVm vm₁) := jpre C hP hz hS (T.setVm vm₁) hT hW₁
  have hini₁ : (Cond.initialized (jyn y').cls).before #[] (T.setVm vm₁) = true := jTab_warm hini hW₁ (C.2.2.2.2.1.1 _ hini)
  obtain ⟨kY, hkY, -⟩ := className_of_methodNamed hn₁
  have hinitY : kY.init = .initialized := Cond.initialized_spec (findClass_of_methodNamed hn₁) hkY hini₁
  have hcode₁ : (Cond.code (jyn y') (jyc y') (jyL y') (jyr y')).before #[] (T.setVm vm₁) = true := jTab_warm hcode hW₁ (C.2.2.2.2.1.1 _ hcode)
  obtain ⟨methY, cY, hmY, hcY, -, hlY, -, -, -, -⟩ := Cond.code_spec hn₁ hcode₁
  have hsz : (F0 m pc ls rest).locals.size = c.maxLocals := by rw [C.2.2.1]; exact hl.1
  have hdg2 : decode c.code (F0 m pc ls rest).pc = .ok (.invokevirtual idx, 3) := hdg
  have happ : (headSpec [jcw y'] (jRm d' kC' kS')).appliesLoose (jyn y') e.platform ((T.setVm vm₁).calling (F0 m pc ls rest) mk (Value.ref (jb f.1 + q) :: as).toArray) = true := by
    refine Spec.appliesLoose_calling (g := F0 m pc ls rest) X₁.here hdg2 hn₁ hkY hinitY (X₁.room_calling (g := F0 m pc ls rest) (R' := jRm d' kC' kS') hsz hmY hcY hR.1 ?_ hk hn) (atoms_intro fun w hw => jcode C hh hcode w hw _ _ hW₁)
    rw [hlY]
    have h9 := lv_room (m := m) (pc := pc) (ls := ls) (rest := rest) hW
    have h8 := hR.2
    exact Nat.le_trans (Nat.add_le_add_right (Nat.add_le_add_right h9 _) _) h8
  have hA : At (T.setVm vm₁) (F0 m pc ls rest).method c below := X₁.here
  obtain ⟨mid, hmid⟩ := hA.above
  have hfr : ((T.setVm vm₁).setTop (F0 m pc ls rest)).frames = (.java (F0 m pc ls rest) :: mid) ++ below := by rw [State.frames_setTop' _ hA.top, hmid]; rfl
  obtain ⟨o, s₂, hsteps, -, hend, hE⟩ := Steps.callFree hM p X.admits X.cas X.clock (acts := []) hfr happ (jPc_blind _ _ _ _ hpc) trivial
  have hE : jEnd f.1 kC' kS' Q' ((T.setVm vm₁).calling (F0 m pc ls rest) mk (Value.ref (jb f.1 + q) :: as).toArray) o s₂ := hE
  rw [State.frames_setTop' _ hA.top] at hend
  obtain ⟨hW₂, ⟨L, hsame, hLf⟩, ⟨hz2, hk2⟩, r', N', mu', x', c1, c2', c3, c4⟩ := hE
  cases hthr _ _ _ _ c1
  obtain ⟨a, cellX, rfl, hcX, hoX, hfX⟩ := c2'
  obtain ⟨e2, g2, g3, g4, g5, g6⟩ := id hsame
  have hf₂ : s₂.frames = .throwing a :: .java (F0 m pc ls rest) :: (T.setVm vm₁).frames.tail := hend
  have e3 : s₂ = ({ ((T.setVm vm₁).calling (F0 m pc ls rest) mk (Value.ref (jb f.1 + q) :: as).toArray).setFrames s₂.frames with heap := s₂.heap, slotsUsed := s₂.slotsUsed } : State).setVm s₂.vm := by
    have e4 : s₂ = ({ s₂ with vm := ((T.setVm vm₁).calling (F0 m pc ls rest) mk (Value.ref (jb f.1 + q) :: as).toArray).vm } : State).setVm s₂.vm := rfl
    rw [e2] at e4
    exact e4
  have hW' : (T.setVm vm₁).WarmedH s₂.vm := hW₂
  obtain ⟨g₀, hg0⟩ := Option.isSome_iff_exists.mp hA.top
  obtain ⟨rr, hrr⟩ := State.topJava?_eq_some.mp hg0
  generalize hUd : (({ T.setVm vm₁ with heap := s₂.heap, slotsUsed := s₂.slotsUsed } : State).setVm s₂.vm) = U
  have hs₂ : s₂ = (U.setTop (F0 m pc ls rest)).pushFrame (.throwing a) := by
    have hr' : U.frames = .java g₀ :: rr := by rw [← hUd]; exact hrr
    refine e3.trans ?_
    rw [hf₂, State.calling_eq hA.top, State.setFrames_setFrames, State.pushFrame, State.frames_setTop _ hr', State.setTop_of_frames _ hr', State.setFrames_setFrames, hrr, ← hUd]
    rfl
  have hsame2 : (T.setVm vm₁).sameButNew ({ T.setVm vm₁ with heap := s₂.heap, slotsUsed := s₂.slotsUsed } : State) L kC' kS' := by
    refine ⟨?_, g2, g3, g4, g5, g6⟩
    obtain ⟨t, ht, -⟩ := State.frames_cons hrr
    show ({ T.setVm vm₁ with heap := s₂.heap, slotsUsed := s₂.slotsUsed } : State) = { (T.setVm vm₁).setFrames (T.setVm vm₁).frames with heap := s₂.heap, slotsUsed := s₂.slotsUsed }
    rw [State.setFrames_self ht]
  have XU : Stand p (jl f.1) e (jRm f.2.2.1 f.2.2.2.1 f.2.2.2.2.1) s m args below meth c U (locs ++ L) (k + kC') (n + kS') := by
    rw [← hUd]
    exact ⟨X.admits, X.cas, X.clock, X.frames, X.room, X.hears, X.method, X.code, (X₁.here.setHeapUsed s₂.heap s₂.slotsUsed).setVm hW'.alike, X₁.tail, State.WarmedH.trans X₁.warmed hW', X₁.limits, X₁.bytes, X₁.same.trans (hsame2.setVm s.vm)⟩
  have hUh : U.heap = s₂.heap := by rw [← hUd]; rfl
  -- the handler
  have hfX' : s.vm.findClass (jex kd) = some cellX.cls := by
    have h1 : (T.setVm vm₁).vm.findClass (jex kd) = some cellX.cls := hfX
    rw [hW₁.alike.findClass] at h1
    exact h1
  obtain ⟨cT, hcT, hlT⟩ := Cond.classLink_spec C.2.2.2.1 (hts _ hcw) e.platform hpl
  have hcc : cT = cellX.cls := Option.some.inj (hcT.symm.trans hfX')
  subst hcc
  obtain ⟨c3', t3', w1, w2, w3⟩ := Cond.castable_spec (hts _ hcs)
  cases hfX'.symm.trans w1
  cases hfX'.symm.trans w2
  obtain ⟨kE, hkE, -⟩ := Vm.findClass_spec hfX'
  have htab : c.exceptionTable.toList = tableOf pre ++ (⟨h.1, h.2.1, h.2.2.1, h.2.2.2⟩ : ExceptionTableEntry) :: tableOf post := by
    rw [C.2.2.2.2.2.2.2.2, hsp]
    simp [tableOf]
  obtain ⟨vm', hWv, hfind⟩ := jgo (e := e) (s := s) (fr := F0 m pc ls rest) (a := a) (cell := cellX) (VmData.ne_statics_of hoX) ⟨kE, hkE⟩ (⟨h.1, h.2.1, h.2.2.1, h.2.2.2⟩ : ExceptionTableEntry) (tableOf post) (c := cellX.cls) hcov hct hlT w3 (tableOf pre) ((U.setTop (F0 m pc ls rest)).pushFrame (.throwing a)) XU.warmed (by
      show U.heap[a]? = some cellX
      rw [hUh]; exact hcX) (by
      intro z hz
      obtain ⟨z0, hz0, rfl⟩ := List.mem_map.mp hz
      obtain ⟨kz, y1, y2, y3, y4⟩ := hby z0 hz0
      obtain ⟨cz, hcz, hlz⟩ := Cond.classLink_spec C.2.2.2.1 (hts _ y3) e.platform hpl
      exact Or.inr ⟨y2, y1, cz, hlz, jNo_at y4 C.2.2.2.2.1 hfX' hcz⟩)
  have XV : Stand p (jl f.1) e (jRm f.2.2.1 f.2.2.2.1 f.2.2.2.2.1) s m args below meth c (U.setVm vm') (locs ++ L) (k + kC') (n + kS') := XU.noted hWv
  have hS' : va_S (jA f.1) s.heap (U.setVm vm').heap (locs ++ L) := by
    show va_S (jA f.1) s.heap U.heap (locs ++ L)
    have hz2' : H.size ≤ s₂.heap.size := by
      have h1 : T.heap.size ≤ s₂.heap.size := hz2
      rw [hT] at h1
      exact h1
    have hk2' : ∀ q : Nat, q < H.size → ¬ jA f.1 q → s₂.heap[q]? = H[q]? := by
      intro q h1 h2
      have h3 : s₂.heap[q]? = T.heap[q]? := hk2 q (by show q < T.heap.size; rw [hT]; exact h1) h2
      rw [h3, hT]
    rw [hUh]
    refine ⟨Nat.le_trans hS.1 hz2', fun q h1 h2 => ?_, fun q hq => ?_⟩
    · rw [hk2' q (Nat.lt_of_lt_of_le h1 hS.1) h2]
      exact hS.2.1 q h1 h2
    · rcases List.mem_append.mp hq with h1 | h1
      · exact hS.2.2 q h1
      · exact hLf q h1
  obtain ⟨t2, a1, b1⟩ := kk a N' mu' x' c1 p e s m args below meth c C ls (U.setVm vm').heap (locs ++ L) hl (by show jP f.1 N' mu' U.heap; rw [hUh]; exact c3) (by show jSz f.1 x' N' U.heap; rw [hUh]; exact c4) hS' (U.setVm vm') rfl XV
  refine ⟨t2, hstep₁ t2 (fun acts => ?_), b1⟩
  rw [doInvoke_state]
  refine hsteps.trans ?_
  rw [hs₂]
  exact jcaught (pc := h.2.2.1) (vm' := vm') (by exact XU.here) (fun Q E d acts => by rw [W.findHandler_eq (meth := meth) (code := c) XU.method' XU.code, htab]; exact hfind Q E d acts) a1
end JK
