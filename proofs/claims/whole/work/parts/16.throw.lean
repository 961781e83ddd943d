/-! a throw out of a method: the walk begun anew at the present heap -/
def jreb (s T : State) : State := { s with heap := T.heap, slotsUsed := T.slotsUsed }
section JT
variable {p : Program} {l : Launch} {e : Env} {R : Room} {s : State} {m : MethodId} {args : Array Value} {below : List Frame} {meth : Method} {c : Code} {T : State} {locs : List Loc} {cells slots : Nat}
theorem jreb_stand (X : Stand p l e R s m args below meth c T locs cells slots) (hc : cells ≤ R.cells) (hs : slots ≤ R.slots) :
    Stand p l e { R with cells := R.cells - cells, slots := R.slots - slots } (jreb s T) m args below meth c T [] 0 0 := by
  have hroom := X.room
  have h1 := X.heapSize
  have h2 := X.used
  have h3 := X.book
  refine ⟨X.admits, X.cas, X.clock, X.frames, ?_, X.hears, X.method, X.code, X.here, X.tail, X.warmed, X.limits, X.bytes, ?_⟩
  · simp only [State.hasRoom, Bool.and_eq_true, decide_eq_true_eq] at hroom ⊢
    obtain ⟨⟨⟨⟨r1, r2⟩, r3⟩, r4⟩, r5⟩ := hroom
    refine ⟨⟨⟨⟨r1, r2⟩, ?_⟩, ?_⟩, h3⟩
    · show T.heap.size + (R.cells - cells) ≤ _
      omega
    · show T.slotsUsed + (R.slots - slots) ≤ _
      omega
  · refine ⟨X.same.1, Nat.le_refl _, Nat.le_refl _, ?_, ?_, fun a cc h => ⟨cc, h, rfl, rfl, fun _ _ => rfl⟩⟩
    · show T.slotsUsed = T.slotsUsed + ((T.heap.toList.drop T.heap.size).map (·.slots.size)).sum
      rw [List.drop_of_length_le (by simp)]
      simp
    · show ((T.heap.toList.drop T.heap.size).map (·.slots.size)).sum ≤ 0
      rw [List.drop_of_length_le (by simp)]
      simp
theorem jreb_same (X : Stand p l e R s m args below meth c T locs cells slots) : s.sameButNew (jreb s T) locs cells slots := by
  obtain ⟨h1, h2, h3, h4, h5, h6⟩ := X.same
  refine ⟨?_, h2, h3, h4, h5, h6⟩
  obtain ⟨t, ht⟩ : ∃ t, s.threads[s.cur]? = some t := ⟨_, Array.getElem?_eq_getElem X.cur⟩
  show jreb s T = { s.setFrames s.frames with heap := T.heap, slotsUsed := T.slotsUsed }
  rw [State.setFrames_self ht]
  rfl
end JT
theorem jsame_heap {s u : State} {cells slots : Nat} (h : s.sameButNew u [] cells slots) {q : Nat} (hq : q < s.heap.size) : u.heap[q]? = s.heap[q]? := by
  obtain ⟨-, -, -, -, -, h6⟩ := h
  have hc : s.heap[q]? = some s.heap[q] := Array.getElem?_eq_getElem hq
  obtain ⟨c', e1, e2, e3, e4⟩ := h6 q _ hc
  have e5 : c'.slots = (s.heap[q]).slots := by
    apply Array.ext_getElem?
    intro i
    exact e4 i (by simp)
  rw [e1, hc, e2, e5]
def jXw : List Cond := [Cond.isRef (.static "java/lang/Throwable" "UNASSIGNED_STACK" jU), Cond.isRef (.static "java/lang/Throwable" "SUPPRESSED_SENTINEL" "Ljava/util/List;"), Cond.laysStatic "java/lang/Throwable" "UNASSIGNED_STACK" jU, Cond.laysStatic "java/lang/Throwable" "SUPPRESSED_SENTINEL" "Ljava/util/List;"]
def jThr (own : String) (ic is kd : Nat) (tx : String) : Prop := own = "AuditDesk" ∧ (is, tx) ∈ jStr ∧ ∀ w ∈ Bundle.ownAtoms own ic (jex kd) ["java/lang/RuntimeException", "java/lang/Exception"], w ∈ jTab ∨ w ∈ jXw
theorem jls_any {C n d : String} {A : Array Value} {U : State} (h : (Cond.laysStatic C n d).before #[] U = true) : (Cond.laysStatic C n d).before A U = true := h
theorem jThr_at {own : String} {ic is kd : Nat} {tx : String} {g : jG} {U : State} (h : jThr own ic is kd tx) (hH : jHyp g U) (args : Array Value) : (∀ a ∈ Bundle.ownAtoms own ic (jex kd) ["java/lang/RuntimeException", "java/lang/Exception"], a.before args U = true) ∧ ∃ q, vk_R own is tx q U := by
  obtain ⟨rfl, h2, h3⟩ := h
  obtain ⟨-, -, ⟨z1, z2⟩, ⟨⟨_, _, _, l1⟩, ⟨_, _, _, l2⟩⟩, z3, -⟩ := hH.2.2.2.2.1
  refine ⟨fun a ha => ?_, z3 _ h2⟩
  rcases h3 a ha with h | h
  · exact hH.1 a h args
  · rcases List.mem_cons.mp h with rfl | h
    · exact jisRef z1
    rcases List.mem_cons.mp h with rfl | h
    · exact jisRef z2
    rcases List.mem_cons.mp h with rfl | h
    · exact jls_any l1
    · rw [List.mem_singleton.mp h]
      exact jls_any l2
section JT2
variable {f : jF} {lv : List (Nat × Value)} {N k n : Nat} {x : Bool} {mu : Nat → jE} {pc : Nat} {st : List Value}
theorem j_throw {ic is inw kd : Nat} {tx : String} (h0 : decode (jyc f.2.1) pc = .ok (.new inw, 3)) (h3 : decode (jyc f.2.1) (pc + 3) = .ok (.dup, 1)) (h4 : decode (jyc f.2.1) (pc + 3 + 1) = .ok (.ldc is, 2)) (h6 : decode (jyc f.2.1) (pc + 3 + 1 + 2) = .ok (.invokespecial ic, 3)) (h9 : decode (jyc f.2.1) (pc + 3 + 1 + 2 + 3) = .ok (.athrow, 1))
    (hh : jyh f.2.1 = []) (hw1 : Cond.classLink (jyo f.2.1) inw (jex kd) ∈ jTab) (hw2 : Cond.instantiable (jex kd) 6 ∈ jTab) (hw3 : Cond.initialized (jex kd) ∈ jTab) (hfit : Bundle.fit (jex kd) = true)
    (hown : jThr (jyo f.2.1) ic is kd tx) (hR : 5 < f.2.2.1.1 ∧ 86 ≤ f.2.2.1.2) (hst : (st.map fun v => v.category).sum ≤ 4) (hk : k + 1 ≤ f.2.2.2.1) (hn : n + 6 ≤ f.2.2.2.2.1) (hQ : f.2.2.2.2.2 (.inr kd) N mu false) : jJ f lv (N, mu, x, k, n) pc st := by
  intro p e s m args below meth c C ls H locs hl hP hz hS T hT X
  have hcells : k ≤ (jRm f.2.2.1 f.2.2.2.1 f.2.2.2.2.1).cells := Nat.le_trans (Nat.le_succ k) hk
  have hslots : n ≤ (jRm f.2.2.1 f.2.2.2.1 f.2.2.2.2.1).slots := Nat.le_trans (Nat.le_add_right n 6) hn
  have X' := jreb_stand X hcells hslots
  have hH' : jHyp f.1 (jreb s T) := C.2.2.2.2.1.to (U := jreb s T) (State.WarmedH.refl s) (by show s.heap.size ≤ T.heap.size; rw [hT]; exact hS.1) (fun q hq => by
    show T.heap[q]? = s.heap[q]?
    rw [hT]
    exact hS.2.1 q (Nat.lt_of_lt_of_le hq C.2.2.2.2.1.2.2.1) (fun h => Nat.not_lt.mpr h hq))
  have hts : ∀ w ∈ jTab, w.before args (jreb s T) = true := fun w h => hH'.1 w h args
  have hown' : (jreb s T).vm.findClass (jyo f.2.1) = some m.cls := C.2.2.2.1
  obtain ⟨cX, kX, hfX, hkX, -⟩ := Cond.instantiable_spec (hts _ hw2)
  obtain ⟨hatoms, q, hstr⟩ := jThr_at hown hH' args
  have w : W p (jl f.1) e { (jRm f.2.2.1 f.2.2.2.1 f.2.2.2.2.1) with cells := (jRm f.2.2.1 f.2.2.2.1 f.2.2.2.2.1).cells - k, slots := (jRm f.2.2.1 f.2.2.2.1 f.2.2.2.2.1).slots - n } (jreb s T) m args below meth c H [] 0 0
      (fun U => U.status = .running ∧ Ended U below (.threw H.size) ∧ s.WarmedH U.vm ∧ (jreb s T).sameButNew ({ U with vm := (jreb s T).vm } : State) [] 1 6 ∧ ∃ ce, U.heap[H.size]? = some ce ∧ ce.vm = .none ∧ s.vm.findClass (jex kd) = some ce.cls) (F0 m pc ls st) := by
    refine W.newcK C.1 C.2.1 hown' (hts _ hw1) (hts _ hw2) (hts _ hw3) rfl h0 (by show 0 + 1 ≤ f.2.2.2.1 - k; omega) (by show 0 + 6 ≤ f.2.2.2.2.1 - n; omega) hfX rfl fun H1 kC hkC e1 z1 o1 => ?_
    refine lv_dup C.1 C.2.1 h3 rfl ?_
    refine va_ldcS C.1 C.2.1 hown' hstr h4 ?_
    intro T2 hT2 X2
    obtain ⟨U, hs1, hs2, hs3, hs4, hs5, ce, hce, hO⟩ := X2.ctorThrowS C.1 (hH'.2.2.2.2.2 e X.admits) (names := ["java/lang/RuntimeException", "java/lang/Exception"]) hown' hfit (by decide +kernel) hatoms (fun _ h => by cases h) hfX hkC (by rw [hT2]; exact e1)
      (by show T.heap.size ≤ H.size; rw [hT]; exact Nat.le_refl _) (msg := .ref q) rfl (g := F0 m (pc + 3 + 1 + 2) ls (.ref q :: .ref H.size :: .ref H.size :: st)) rfl (by rw [C.2.2.1]; exact hl.1) rfl rfl (rest := st) rfl (by rw [C.2.1]; exact h6) (by rw [C.2.1]; exact h9)
      (fun y hy => by
        rw [C.2.2.2.2.2.2.2.2, hh] at hy
        cases hy)
      hR.1
      (by
        show 2 * 0 + ((Value.ref H.size :: st).map fun v => v.category).sum + (13 * (2 + 1) + 42) ≤ f.2.2.1.2
        have h7 := hR.2
        have h5 : ((Value.ref H.size :: st).map fun v => v.category).sum = 1 + (st.map fun v => v.category).sum := by simp [Value.category]
        omega)
      C.2.2.2.2.2.2.1
    exact ⟨U, hs1, hs2, hs3, hs4, hs5, ce, hce, hO.vm, hO.cls⟩
  obtain ⟨U, hs1, hs2, hs3, hs4, hs5, ce, hce, hv, hcl⟩ := w T hT X'
  have hkeep : ∀ q : Nat, q < H.size → U.heap[q]? = H[q]? := fun q hq => by
    have h := jsame_heap hs5 (q := q) (by show q < T.heap.size; rw [hT]; exact hq)
    have h' : U.heap[q]? = T.heap[q]? := h
    rw [h', hT]
  refine ⟨U, hs1, .threw H.size, hs2, hs3, hs4, ⟨locs, ?_, hS.2.2⟩, ⟨?_, fun q h1 h2 => ?_⟩, .inr kd, N, mu, false, hQ, ⟨H.size, ce, rfl, hce, by rw [hv]; rfl, hcl⟩, ?_, fun h => by cases h⟩
  · have h := (jreb_same X).trans hs5
    rw [List.append_nil] at h
    exact h.mono hk hn
  · have h9 : H.size < U.heap.size := (Array.getElem?_eq_some_iff.mp hce).1
    exact Nat.le_trans hS.1 (Nat.le_of_lt h9)
  · rw [hkeep q (Nat.lt_of_lt_of_le h1 hS.1)]
    exact hS.2.1 q h1 h2
  · exact va_P.kept hP (fun i q hi => hkeep q.1 ((hP i q hi).lt))
end JT2
