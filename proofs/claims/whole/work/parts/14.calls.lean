/-! calls of methods that return -/
theorem jHyp.to {g : jG} {s U : State} (h : jHyp g s) (hW : s.WarmedH U.vm) (hz : s.heap.size ≤ U.heap.size) (ho : ∀ q : Nat, q < jb g → U.heap[q]? = s.heap[q]?) : jHyp g U := by
  obtain ⟨h1, h2, h3, ⟨h4, h5⟩, h6, h7⟩ := h
  exact ⟨fun w hw A => jTab_warm hw hW (h1 w hw), va_K.moved hW.alike h2, Nat.le_trans h3 hz, ⟨h4, (h5.moved hW.alike).kept (ho _ h4)⟩, jFor_to h6 hW (Nat.le_trans h3 (Nat.le_refl _)) ho, h7⟩
theorem jHyp.calling {g : jG} {U : State} (h : jHyp g U) (fr : JFrame) (mk : MethodId) (a : Array Value) : jHyp g (U.calling fr mk a) :=
  h.to (U := U.calling fr mk a) (State.WarmedH.refl U) (Nat.le_refl _) (fun _ _ => rfl)
def jPc (g : jG) (as : List Value) (N : Nat) (mu : Nat → jE) (x : Bool) : Array Value → State → Prop := fun a U => a = as.toArray ∧ jHyp g U ∧ jP g N mu U.heap ∧ jSz g x N U.heap
theorem jPc_blind {g : jG} {as : List Value} {N : Nat} {mu : Nat → jE} {x : Bool} : FrameBlind (jPc g as N mu x) := fun _ U fr mk ⟨h1, h2, h3, h4⟩ => ⟨h1, h2.calling fr mk _, h3, h4⟩
theorem jMet.met {g : jG} {y : jY} {d : Nat × Nat} {kC kS : Nat} {as : List Value} {N : Nat} {mu : Nat → jE} {x : Bool} {Q : jQ} (hM : jMet g y d kC kS as N mu x Q) (hret : ∀ r N' mu' x', Q r N' mu' x' → ∃ v, r = .inl v) :
    Met (jl g) (jyn y) [jcw y] (jRm d kC kS) (jPc g as N mu x) (fun _ s o t => jEnd g kC kS Q s o t) kC kS (fun q => jb g ≤ q) := by
  intro p e h1 h2 h3 s m args below h4 h5 h6 h7
  obtain ⟨n, o, a1, a2, a3, hE⟩ := hM p e h1 h2 h3 s m args below h4 h5 h6 h7
  refine ⟨n, o, a1, a2, a3, hE, ?_⟩
  obtain ⟨b1, ⟨L, b2, b3⟩, b4, r, N', mu', x', c1, c2, -⟩ := hE
  obtain ⟨v, rfl⟩ := hret _ _ _ _ c1
  exact ⟨L, ⟨⟨v, c2⟩, b1, b2⟩, b3⟩
/-- what the tables say of a callee -/
def jMth (y : jY) (na : Nat) : Prop := jyh y = [] ∧ Cond.code (jyn y) (jyc y) (jyL y) (jyr y) ∈ jTab ∧ Cond.initialized (jyn y).cls ∈ jTab ∧ ((jyn y).cls ≠ "java/lang/invoke/MethodHandle" ∧ (jyn y).cls ≠ "java/lang/invoke/VarHandle") ∧
  (parseMethodDescriptor (jyn y).desc).map (fun d => d.parameters.length) = some na
def jLnk (own : String) (idx : Nat) (y : jY) : Prop := Cond.methodLink own idx (jyn y) ∈ jTab ∨ ∃ host, Cond.methodLinkNest own idx (jyn y) host ∈ jTab
section JC
variable {f : jF} {lv : List (Nat × Value)} {N k n : Nat} {x : Bool} {mu : Nat → jE} {pc : Nat} {st0 rest : List Value}
/-- behind a call: the callee's end -/
theorem j_run {kC' kS' : Nat} {Q' : jQ}
    (hr : ∀ (p : Program) (e : Env) (s : State) (m : MethodId) (args : Array Value) (below : List Frame) (meth : Method) (c : Code), jCx f.1 f.2.1 p s m meth c →
      ∀ (ls : Array Slot) (H : Heap) (locs : List Loc), ls.size = jyL f.2.1 → jP f.1 N mu H → jSz f.1 x N H → va_S (jA f.1) s.heap H locs →
        va_Run p (jl f.1) e (jRm f.2.2.1 f.2.2.2.1 f.2.2.2.2.1) s m args below meth c H locs k n kC' kS' (F0 m pc ls st0) rest (fun s o t => jEnd f.1 kC' kS' Q' s o t) (fun q => jb f.1 ≤ q))
    (kk : ∀ v N' mu' x', Q' (.inl v) N' mu' x' → jJ f lv (N', mu', x', k + kC', n + kS') (pc + 3) (v.toList ++ rest)) (hret : ∀ r N' mu' x', Q' r N' mu' x' → ∃ v, r = .inl v) : jJ f lv (N, mu, x, k, n) pc st0 := by
  intro p e s m args below meth c C ls H locs hl hP hz hS T hT X
  obtain ⟨v, st₀, t, T', L, h0, X', hL, e1, e2, hE, st⟩ := hr p e s m args below meth c C ls H locs hl.1 hP hz hS T hT X
  obtain ⟨-, -, ⟨hz2, hk2⟩, r, N', mu', x', c1, c2, c3, c4⟩ := hE
  obtain ⟨v', rfl⟩ := hret _ _ _ _ c1
  have hv : v = v' := by
    have h9 : Outcome.returned v = Outcome.returned v' := c2
    cases h9
    rfl
  subst hv
  rw [h0] at hz2 hk2
  have hS' : va_S (jA f.1) s.heap T'.heap (locs ++ L) := by
    refine ⟨Nat.le_trans hS.1 (by rw [e1]; exact hz2), fun q h1 h2 => ?_, fun q hq => ?_⟩
    · rw [e1, hk2 q (Nat.lt_of_lt_of_le h1 hS.1) h2]
      exact hS.2.1 q h1 h2
    · rcases List.mem_append.mp hq with h | h
      · exact hS.2.2 q h
      · exact hL q h
  obtain ⟨t2, a1, b1⟩ := kk v N' mu' x' c1 p e s m args below meth c C ls T'.heap (locs ++ L) hl (by rw [e1]; exact c3) (by rw [e1]; exact c4) hS' T' rfl X'
  exact ⟨t2, st t2 a1, b1⟩
theorem jpre {as : List Value} {p : Program} {s : State} {m : MethodId} {meth : Method} {c : Code} {H : Heap} {locs : List Loc} (C : jCx f.1 f.2.1 p s m meth c) (hP : jP f.1 N mu H) (hz : jSz f.1 x N H) (hS : va_S (jA f.1) s.heap H locs) (U : State) (hU : U.heap = H) (hW : s.WarmedH U.vm) : jPc f.1 as N mu x as.toArray U := by
  refine ⟨rfl, C.2.2.2.2.1.to hW (by rw [hU]; exact hS.1) (fun q hq => ?_), by rw [hU]; exact hP, by rw [hU]; exact hz⟩
  rw [hU]
  exact hS.2.1 q (Nat.lt_of_lt_of_le hq C.2.2.2.2.1.2.2.1) (fun h => Nat.not_lt.mpr h hq)
theorem jcode {y : jY} {s : State} {p : Program} {m : MethodId} {meth : Method} {c : Code} (C : jCx f.1 f.2.1 p s m meth c) (hh : jyh y = []) (hw : Cond.code (jyn y) (jyc y) (jyL y) (jyr y) ∈ jTab) :
    ∀ w ∈ [jcw y], ∀ (a' : Array Value) (U : State), s.WarmedH U.vm → w.before a' U = true := by
  intro w h a' U hW
  have e1 : w = Cond.code (jyn y) (jyc y) (jyL y) (jyr y) := by
    rw [List.mem_singleton.mp h]
    unfold jcw
    rw [hh]
  subst e1
  exact jTab_warm hw hW (C.2.2.2.2.1.1 _ hw)
theorem jcw_mem {y : jY} (hh : jyh y = []) : Cond.code (jyn y) (jyc y) (jyL y) (jyr y) ∈ [jcw y] := by
  unfold jcw
  rw [hh]
  exact List.mem_singleton.mpr rfl
theorem jlen {y : jY} {na : Nat} (h : (parseMethodDescriptor (jyn y).desc).map (fun d => d.parameters.length) = some na) : ∀ sig, parseMethodDescriptor (jyn y).desc = some sig → na = sig.parameters.length := by
  intro sig h2
  rw [h2] at h
  exact (Option.some.inj h).symm
theorem j_callV {y' : jY} {d' : Nat × Nat} {kC' kS' na idx q ci : Nat} {as : List Value} {fs : List Value} {r : vw_C} {Q' : jQ} (hd : decode (jyc f.2.1) pc = .ok (.invokevirtual idx, 3)) (hm : jMth y' na) (hlk : jLnk (jyo f.2.1) idx y') (hin : Cond.instanceMethod (jyn y') ∈ jTab) (hse : Cond.selects (jyn y').cls (jyn y') (jyn y') ∈ jTab)
    (hq : q < N) (hmu : mu q = .inr (ci, fs)) (hcl : jcl[ci]? = some r) (hrn : r.1 = (jyn y').cls) (hR : d'.1 + 1 ≤ f.2.2.1.1 ∧ 8 + (jyL y' + 11) + d'.2 ≤ f.2.2.1.2) (hk : k + kC' ≤ f.2.2.2.1) (hn : n + kS' ≤ f.2.2.2.2.1) (hW : (rest.map fun v => v.category).sum ≤ 8) (hna : as.length = na)
    (hM : jMet f.1 y' d' kC' kS' (.ref (jb f.1 + q) :: as) N mu x Q') (hret : ∀ r N' mu' x', Q' r N' mu' x' → ∃ v, r = .inl v)
    (hst : st0 = as.reverse ++ .ref (jb f.1 + q) :: rest) (kk : ∀ v N' mu' x', Q' (.inl v) N' mu' x' → jJ f lv (N', mu', x', k + kC', n + kS') (pc + 3) (v.toList ++ rest)) : jJ f lv (N, mu, x, k, n) pc st0 := by
  obtain ⟨hh, hcode, hini, hno, hdes⟩ := hm
  refine j_run (kC' := kC') (kS' := kS') (Q' := Q') (rest := rest) ?_ kk hret
  intro p e s m args below meth c C ls H locs hls hP hz hS
  have hts : ∀ w ∈ jTab, w.before args s = true := fun w h => C.2.2.2.2.1.1 w h args
  have hpre : PreV s H (jyn y').cls (jb f.1 + q) (jPc f.1 (.ref (jb f.1 + q) :: as) N mu x) as :=
    ⟨jPc_blind, by rw [← hrn]; exact va_recv C.2.2.2.2.1.2.1 hP hcl (jget_r hq hmu), fun U hU hW => jpre C hP hz hS U hU hW⟩
  rcases hlk with hl | ⟨host, hl⟩
  · exact va_runV (C := (jyn y').cls) (bytes := jyc y') (maxL := jyL y') (ret := jyr y') (nL := jyL f.2.1) (n := na) ⟨C.1, C.2.1, C.2.2.1, C.2.2.2.1, hts⟩ (hM.met hret)
      ⟨⟨rfl, rfl, hR.1, hR.2, jcode C hh hcode, jcw_mem hh, hts _ hcode, hts _ hini, hno, jlen hdes, hts _ hl⟩, hts _ hin, hts _ hse⟩ hpre rfl hna hls hst (lv_room hW) hd ⟨hk, hn⟩
  · exact va_runVN (C := (jyn y').cls) (bytes := jyc y') (maxL := jyL y') (ret := jyr y') (nL := jyL f.2.1) (n := na) ⟨C.1, C.2.1, C.2.2.1, C.2.2.2.1, hts⟩ (hM.met hret)
      ⟨⟨⟨rfl, rfl, hR.1, hR.2, jcode C hh hcode, jcw_mem hh⟩, hts _ hcode, hts _ hini, hno, jlen hdes, hts _ hl⟩, hts _ hin, hts _ hse⟩ hpre rfl hna hls hst (lv_room hW) hd ⟨hk, hn⟩
theorem j_callS {y' : jY} {d' : Nat × Nat} {kC' kS' na idx : Nat} {as : List Value} {Q' : jQ} (hd : decode (jyc f.2.1) pc = .ok (.invokestatic idx, 3)) (hm : jMth y' na) (hlk : jLnk (jyo f.2.1) idx y') (hsta : Cond.static (jyn y') ∈ jTab)
    (hR : d'.1 + 1 ≤ f.2.2.1.1 ∧ 8 + (jyL y' + 11) + d'.2 ≤ f.2.2.1.2) (hk : k + kC' ≤ f.2.2.2.1) (hn : n + kS' ≤ f.2.2.2.2.1) (hW : (rest.map fun v => v.category).sum ≤ 8) (hna : as.length = na)
    (hM : jMet f.1 y' d' kC' kS' as N mu x Q') (hret : ∀ r N' mu' x', Q' r N' mu' x' → ∃ v, r = .inl v)
    (hst : st0 = as.reverse ++ rest) (kk : ∀ v N' mu' x', Q' (.inl v) N' mu' x' → jJ f lv (N', mu', x', k + kC', n + kS') (pc + 3) (v.toList ++ rest)) : jJ f lv (N, mu, x, k, n) pc st0 := by
  obtain ⟨hh, hcode, hini, hno, hdes⟩ := hm
  refine j_run (kC' := kC') (kS' := kS') (Q' := Q') (rest := rest) ?_ kk hret
  intro p e s m args below meth c C ls H locs hls hP hz hS
  have hts : ∀ w ∈ jTab, w.before args s = true := fun w h => C.2.2.2.2.1.1 w h args
  have hpre : PreS s H (jPc f.1 as N mu x) as := ⟨jPc_blind, fun U hU hW => jpre C hP hz hS U hU hW⟩
  rcases hlk with hl | ⟨host, hl⟩
  · exact va_runS (bytes := jyc y') (maxL := jyL y') (ret := jyr y') (nL := jyL f.2.1) (n := na) ⟨C.1, C.2.1, C.2.2.1, C.2.2.2.1, hts⟩ (hM.met hret)
      ⟨⟨rfl, rfl, hR.1, hR.2, jcode C hh hcode, jcw_mem hh, hts _ hcode, hts _ hini, hno, jlen hdes, hts _ hl⟩, hts _ hsta⟩ hpre rfl hna hls hst (lv_room hW) hd ⟨hk, hn⟩
  · exact va_runSN (bytes := jyc y') (maxL := jyL y') (ret := jyr y') (nL := jyL f.2.1) (n := na) ⟨C.1, C.2.1, C.2.2.1, C.2.2.2.1, hts⟩ (hM.met hret)
      ⟨⟨⟨rfl, rfl, hR.1, hR.2, jcode C hh hcode, jcw_mem hh⟩, hts _ hcode, hts _ hini, hno, jlen hdes, hts _ hl⟩, hts _ hsta, trivial⟩ hpre rfl hna hls hst (lv_room hW) hd ⟨hk, hn⟩
theorem j_callI {y' : jY} {d' : Nat × Nat} {kC' kS' na idx a : Nat} {as : List Value} {Q' : jQ} (hd : decode (jyc f.2.1) pc = .ok (.invokespecial idx, 3)) (hm : jMth y' na) (hr0 : jyr y' = none) (hnm : (jyn y').name = "<init>") (hlk : jLnk (jyo f.2.1) idx y') (hin : Cond.instanceMethod (jyn y') ∈ jTab)
    (hR : d'.1 + 1 ≤ f.2.2.1.1 ∧ 8 + (jyL y' + 11) + d'.2 ≤ f.2.2.1.2) (hk : k + kC' ≤ f.2.2.2.1) (hn : n + kS' ≤ f.2.2.2.2.1) (hW : (rest.map fun v => v.category).sum ≤ 8) (hna : as.length = na)
    (hM : jMet f.1 y' d' kC' kS' (.ref a :: as) N mu x Q') (hret : ∀ r N' mu' x', Q' r N' mu' x' → ∃ v, r = .inl v)
    (hst : st0 = as.reverse ++ .ref a :: rest) (kk : ∀ v N' mu' x', Q' (.inl v) N' mu' x' → jJ f lv (N', mu', x', k + kC', n + kS') (pc + 3) (v.toList ++ rest)) : jJ f lv (N, mu, x, k, n) pc st0 := by
  obtain ⟨hh, hcode, hini, hno, hdes⟩ := hm
  refine j_run (kC' := kC') (kS' := kS') (Q' := Q') (rest := rest) ?_ kk hret
  intro p e s m args below meth c C ls H locs hls hP hz hS
  have hts : ∀ w ∈ jTab, w.before args s = true := fun w h => C.2.2.2.2.1.1 w h args
  have hpre : PreS s H (jPc f.1 (.ref a :: as) N mu x) (.ref a :: as) := ⟨jPc_blind, fun U hU hW => jpre C hP hz hS U hU hW⟩
  rw [hr0] at hcode
  have hcm : Cond.code (jyn y') (jyc y') (jyL y') none ∈ [jcw y'] := by rw [← hr0]; exact jcw_mem hh
  have hcj : ∀ w ∈ [jcw y'], ∀ (a' : Array Value) (U : State), s.WarmedH U.vm → w.before a' U = true := jcode C hh (by rw [hr0]; exact hcode)
  rcases hlk with hl | ⟨host, hl⟩
  · exact va_runI (bytes := jyc y') (maxL := jyL y') (nL := jyL f.2.1) (n := na) ⟨C.1, C.2.1, C.2.2.1, C.2.2.2.1, hts⟩ (hM.met hret)
      ⟨⟨rfl, rfl, hR.1, hR.2, hcj, hcm, hts _ hcode, hts _ hini, hno, jlen hdes, hts _ hl⟩, hnm, hts _ hin⟩ hpre rfl hna hls hst (lv_room hW) hd ⟨hk, hn⟩
  · exact va_runIN (bytes := jyc y') (maxL := jyL y') (nL := jyL f.2.1) (n := na) ⟨C.1, C.2.1, C.2.2.1, C.2.2.2.1, hts⟩ (hM.met hret)
      ⟨⟨⟨rfl, rfl, hR.1, hR.2, hcj, hcm⟩, hts _ hcode, hts _ hini, hno, jlen hdes, hts _ hl⟩, hnm, hts _ hin⟩ hpre rfl hna hls hst (lv_room hW) hd ⟨hk, hn⟩
theorem j_objInit {idx a : Nat} (hd : decode (jyc f.2.1) pc = .ok (.invokespecial idx, 3)) (hl : Cond.methodLink (jyo f.2.1) idx Lib.objectInit ∈ jTab) (hin : Cond.instanceMethod Lib.objectInit ∈ jTab) (hc : Cond.code Lib.objectInit ⟨#[0xb1]⟩ 1 none ∈ jTab) (hR : 1 ≤ f.2.2.1.1 ∧ 20 ≤ f.2.2.1.2) (hW : (rest.map fun v => v.category).sum ≤ 8)
    (kk : jJ f lv (N, mu, x, k, n) (pc + 3) rest) : jJ f lv (N, mu, x, k, n) pc (.ref a :: rest) := by
  intro p e s m args below meth c C ls H locs hlv hP hz hS
  have hts : ∀ w ∈ jTab, w.before args s = true := fun w h => C.2.2.2.2.1.1 w h args
  refine W.objInit C.1 C.2.1 C.2.2.2.1 (hts _ hl) (hts _ hin) (hts _ hc) rfl (by rw [C.2.2.1]; exact hlv.1) rfl hd hR.1 ?_ (kk p e s m args below meth c C ls H locs hlv hP hz hS)
  have h1 := lv_room (m := m) (pc := pc) (ls := ls) (rest := .ref a :: rest) hW
  have h2 := hR.2
  show _ + 12 ≤ f.2.2.1.2
  omega
end JC
