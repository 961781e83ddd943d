/-! the start: what every state of the run keeps holds at the law's entry -/
theorem jTab_of {s : State} {A0 : Array Value} (hts : ∀ w ∈ lw_tbl, w.before A0 s = true) : ∀ w ∈ jTab, ∀ A : Array Value, w.before A s = true := fun w hw A => by
  have h := hts w (List.mem_filter.mp hw).1
  have hg := (List.mem_filter.mp hw).2
  unfold jgood at hg
  split at hg
  · exact va_Nw.use rfl (va_Nw.of rfl h)
  · exact va_Nw.use rfl (va_Nw.of rfl h)
  · exact va_Nw.use rfl (va_Nw.of rfl h)
  · exact va_Nw.use rfl (va_Nw.of rfl h)
  · exact va_AO.use (va_AO.of h)
  · exact word_at (State.WarmedH.refl s) (good_of_word hg) h
theorem jinst {c : Nat} {q : vw_C} (h : jcl[c]? = some q) : ∃ n, Cond.instantiable q.1 n ∈ jTab := by
  have hl : c < 7 := (List.getElem?_eq_some_iff.mp h).1
  match c, hl, h with
  | 0, _, h => cases h; exact ⟨_, it_D⟩
  | 1, _, h => cases h; exact ⟨_, it_C⟩
  | 2, _, h => cases h; exact ⟨_, it_Y⟩
  | 3, _, h => cases h; exact ⟨_, it_E⟩
  | 4, _, h => cases h; exact ⟨_, it_K⟩
  | 5, _, h => cases h; exact ⟨_, it_R⟩
  | 6, _, h => cases h; exact ⟨_, it_M⟩
theorem jarr_p {s : State} {ty : FieldType} (hT : (Cond.arrayClass ty).before #[] s = true) (hty : ∀ C, ty ≠ .object C) : ∃ cA : ClassId, ArrOfT s cA ty ∧ va_RA s cA ty := by
  obtain ⟨c, k, comp, h1, h2, h3⟩ := Cond.arrayClass_spec hT
  refine ⟨c, fun n z => ⟨fun k h => (by cases h), k, h2, comp, h3⟩, ?_⟩
  cases ty with
  | object C => exact absurd rfl (hty C)
  | _ => exact h1
theorem jarr_o {s : State} {C : String} (hT : (Cond.arrayOver (.object C)).before #[] s = true) : ∃ cA : ClassId, ArrOfT s cA (.object C) ∧ va_RA s cA (.object C) := by
  obtain ⟨comp, c, k, h1, h2, h3, h4, h5⟩ := Cond.arrayOver_spec hT
  exact ⟨c, fun N z => ⟨(fun k h => by cases h), k, h3, comp, h4⟩, k, comp, h3, h4, h1, h5⟩
theorem jarr {s : State} (hT : ∀ w ∈ jTab, ∀ A : Array Value, w.before A s = true) (t : Nat) : ∃ cA : ClassId, ∀ ty, jtyl[t]? = some ty → ArrOfT s cA ty ∧ va_RA s cA ty := by
  by_cases hl : t < 6
  · match t, hl with
    | 0, _ =>
      obtain ⟨c, h⟩ := jarr_p (hT _ ac_int _) (fun C h => by cases h)
      exact ⟨c, fun ty e => by cases e; exact h⟩
    | 1, _ =>
      obtain ⟨c, h⟩ := jarr_p (hT _ ac_boolean _) (fun C h => by cases h)
      exact ⟨c, fun ty e => by cases e; exact h⟩
    | 2, _ =>
      obtain ⟨c, h⟩ := jarr_p (hT _ ac_long _) (fun C h => by cases h)
      exact ⟨c, fun ty e => by cases e; exact h⟩
    | 3, _ =>
      obtain ⟨c, h⟩ := jarr_o (hT _ ao_E _)
      exact ⟨c, fun ty e => by cases e; exact h⟩
    | 4, _ =>
      obtain ⟨c, h⟩ := jarr_o (hT _ ao_K _)
      exact ⟨c, fun ty e => by cases e; exact h⟩
    | 5, _ =>
      obtain ⟨c, h⟩ := jarr_o (hT _ ao_Y _)
      exact ⟨c, fun ty e => by cases e; exact h⟩
  · exact ⟨0, fun ty e => absurd (List.getElem?_eq_some_iff.mp e).1 (fun z => hl z)⟩
/-- the numbers of the classes -/
theorem jK_start {s : State} (hT : ∀ w ∈ jTab, ∀ A : Array Value, w.before A s = true) : ∃ (D : va_G) (cA : Nat → ClassId), va_K D jcl ((List.range jtyl.length).map (fun t => (cA t, jtyl.getD t .int))) s := by
  have hc : ∀ c : Nat, ∃ p : ClassId × (Nat → Nat), ∀ q, jcl[c]? = some q → u_Kn s q.1 q.2.1 q.2.2 p.1 p.2 := fun c => by
    cases h : jcl[c]? with
    | none => exact ⟨(0, fun _ => 0), fun q hq => by cases hq⟩
    | some q =>
      obtain ⟨n, hn⟩ := jinst h
      obtain ⟨cC, iS, hK⟩ := u_known (args := #[]) (fun w hw => hT w hw #[]) (jcl_in h) (hT _ hn #[])
      exact ⟨(cC, iS), fun q' hq => by cases hq; exact hK⟩
  refine ⟨(fun c => (Classical.choose (hc c)).1, fun c => (Classical.choose (hc c)).2), fun t => Classical.choose (jarr hT t), fun c q hq => Classical.choose_spec (hc c) q hq, fun k q hk => ?_⟩
  have hl : k < jtyl.length := by
    have := (List.getElem?_eq_some_iff.mp hk).1
    simpa using this
  have e : jtyl[k]? = some (jtyl.getD k .int) := by
    rw [List.getElem?_eq_getElem hl]
    simp [List.getD, hl]
  have hq : q = (Classical.choose (jarr hT k), jtyl.getD k .int) := by
    simp [hl] at hk
    rw [← hk]
    simp [List.getD, hl]
  rw [hq]
  exact Classical.choose_spec (jarr hT k) _ e
theorem eqi_of {args : Array Value} {s : State} {t : Term} {z : Int32} (h : (Cond.eq t (.int z)).before args s = true) : t.eval args s none [] s = some (.int z) := by
  cases hv : t.eval args s none [] s with
  | none => simp [Cond.before, Cond.holds, Cond.value, hv] at h
  | some w =>
    have hz : (Term.int z).eval args s none [] s = some (.int z) := rfl
    simp only [Cond.before, Cond.holds, Cond.value, hv, hz] at h
    cases w <;> simp_all
theorem nocast {args : Array Value} {s : State} {a b : String} (h : (Cond.not (Cond.castable a b)).before args s = true) (c t : ClassId) (hc : s.vm.findClass a = some c) (ht : s.vm.findClass b = some t) : s.vm.assignable c t = false := by
  simpa [Cond.before, Cond.holds, Cond.value, hc, ht] using h
theorem strR {args : Array Value} {s : State} {own tx cls : String} {k : Nat} (h1 : (Cond.stringRef own k tx).before args s = true) (h2 : (Cond.exactly (.string own k) cls).before args s = true) : ∃ a, vk_R own k tx a s := by
  cases hv : (Term.string own k).eval args s none [] s with
  | none => simp [Cond.before, Cond.holds, Cond.value, hv] at h2
  | some w =>
    obtain ⟨a, rfl⟩ := Term.string_eval_ref hv
    exact ⟨a, vk_R.of h1 hv⟩
theorem jLs_of {g : jG} {args : Array Value} {s : State} {C n d : String} (hl : (Cond.laysStatic C n d).before args s = true) (hb : jb g = s.heap.size) : jLs g s C n d := by
  obtain ⟨c', k', i', f', a', cell, q1, q2, q3, q4, q5, q6, q7, q8, q9⟩ := Cond.laysStatic_spec hl
  exact ⟨a', by rw [hb]; exact (Array.getElem?_eq_some_iff.mp q5).1, ⟨k', c', i', f', q2, q4⟩, hl⟩
