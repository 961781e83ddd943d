/-! constructors -/
/-- every cell as it is when all is made -/
def jM (g : jG) : Nat → jE := jmem (jb g) (jn (fun _ _ => 0)) (fun _ _ => 0)
/-- an object at q under construction: what lies before it, its fields, what lies behind it as it shall; one array at p (if p is not 0) being filled -/
def jCs (g : jG) (q ci : Nat) (mu0 : Nat → jE) (N : Nat) (mu : Nat → jE) (p : Nat) (X : jE) (fs : List Value) : Prop :=
  (∀ a, a < q → mu a = mu0 a) ∧ mu q = .inr (ci, fs) ∧ (∀ a, q < a → a < N → a ≠ p → mu a = jM g a) ∧ (p ≠ 0 → q < p ∧ p < N ∧ mu p = X) ∧ q < N
def jCq (g : jG) (q c : Nat) (mu0 : Nat → jE) : jQ := fun r N' mu' x => r = .inl none ∧ N' = q + c ∧ x = true ∧ (∀ a, a < q → mu' a = mu0 a) ∧ ∀ a, q ≤ a → a < q + c → mu' a = jM g a
/-- a constructor's contract -/
def jCt (g : jG) (y : jY) (d : Nat × Nat) (kC kS q c ci : Nat) (fs0 : List Value) : Prop := ∀ mu0, mu0 q = .inr (ci, fs0) → jMet g y d kC kS [.ref (jb g + q)] (q + 1) mu0 true (jCq g q c mu0)
theorem jCs_0 {g : jG} {q ci : Nat} {mu0 : Nat → jE} {fs : List Value} (h : mu0 q = .inr (ci, fs)) : jCs g q ci mu0 (q + 1) mu0 0 (.inr (0, [])) fs :=
  ⟨fun _ _ => rfl, h, fun a h1 h2 _ => absurd h1 (by omega), fun h => absurd rfl h, Nat.lt_succ_self q⟩
theorem jCs_new {g : jG} {q ci : Nat} {mu0 : Nat → jE} {N : Nat} {mu : Nat → jE} {p : Nat} {X Y : jE} {fs : List Value} (h : jCs g q ci mu0 N mu p X fs) (hY : Y = jM g N) : jCs g q ci mu0 (N + 1) (va_up mu N Y) p X fs := by
  obtain ⟨h1, h2, h3, h4, h5⟩ := h
  refine ⟨fun a ha => by rw [va_up_ne _ _ (by omega)]; exact h1 a ha, by rw [va_up_ne _ _ (by omega)]; exact h2, fun a ha hN hp => ?_, fun hp => ?_, by omega⟩
  · by_cases e : a = N
    · rw [e, va_up_self, hY]
    · rw [va_up_ne _ _ e]
      exact h3 a ha (by omega) hp
  · obtain ⟨g1, g2, g3⟩ := h4 hp
    exact ⟨g1, by omega, by rw [va_up_ne _ _ (by omega)]; exact g3⟩
theorem jCs_put {g : jG} {q ci : Nat} {mu0 : Nat → jE} {N : Nat} {mu : Nat → jE} {p : Nat} {X : jE} {fs fs' : List Value} (h : jCs g q ci mu0 N mu p X fs) : jCs g q ci mu0 N (va_up mu q (.inr (ci, fs'))) p X fs' := by
  obtain ⟨h1, h2, h3, h4, h5⟩ := h
  refine ⟨fun a ha => by rw [va_up_ne _ _ (by omega)]; exact h1 a ha, va_up_self _ _ _, fun a ha hN hp => by rw [va_up_ne _ _ (by omega)]; exact h3 a ha hN hp, fun hp => ?_, h5⟩
  obtain ⟨g1, g2, g3⟩ := h4 hp
  exact ⟨g1, g2, by rw [va_up_ne _ _ (by omega)]; exact g3⟩
theorem jCs_pend {g : jG} {q ci : Nat} {mu0 : Nat → jE} {N : Nat} {mu : Nat → jE} {X X' : jE} {fs : List Value} (h : jCs g q ci mu0 N mu 0 X fs) : jCs g q ci mu0 (N + 1) (va_up mu N X') N X' fs := by
  obtain ⟨h1, h2, h3, h4, h5⟩ := h
  refine ⟨fun a ha => by rw [va_up_ne _ _ (by omega)]; exact h1 a ha, by rw [va_up_ne _ _ (by omega)]; exact h2, fun a ha hN hp => ?_, fun _ => ⟨h5, by omega, va_up_self _ _ _⟩, by omega⟩
  rw [va_up_ne _ _ hp]
  exact h3 a ha (by omega) (by omega)
theorem jCs_set {g : jG} {q ci : Nat} {mu0 : Nat → jE} {N : Nat} {mu : Nat → jE} {p : Nat} {X X' : jE} {fs : List Value} (h : jCs g q ci mu0 N mu p X fs) (hp : p ≠ 0) : jCs g q ci mu0 N (va_up mu p X') p X' fs := by
  obtain ⟨h1, h2, h3, h4, h5⟩ := h
  obtain ⟨g1, g2, g3⟩ := h4 hp
  exact ⟨fun a ha => by rw [va_up_ne _ _ (by omega)]; exact h1 a ha, by rw [va_up_ne _ _ (by omega)]; exact h2, fun a ha hN hne => by rw [va_up_ne _ _ hne]; exact h3 a ha hN hne, fun _ => ⟨g1, g2, va_up_self _ _ _⟩, h5⟩
theorem jCs_done {g : jG} {q ci : Nat} {mu0 : Nat → jE} {N : Nat} {mu : Nat → jE} {p : Nat} {X : jE} {fs : List Value} (h : jCs g q ci mu0 N mu p X fs) (hp : p ≠ 0) (hX : X = jM g p) : jCs g q ci mu0 N mu 0 X fs := by
  obtain ⟨h1, h2, h3, h4, h5⟩ := h
  obtain ⟨g1, g2, g3⟩ := h4 hp
  refine ⟨h1, h2, fun a ha hN _ => ?_, fun h => absurd rfl h, h5⟩
  by_cases e : a = p
  · rw [e, g3, hX]
  · exact h3 a ha hN e
theorem jCs_call {g : jG} {q ci : Nat} {mu0 : Nat → jE} {N c : Nat} {mu mu' : Nat → jE} {p : Nat} {X Y : jE} {fs : List Value} (h : jCs g q ci mu0 N mu p X fs) (hc : 0 < c) (h1' : ∀ a, a < N → mu' a = va_up mu N Y a) (h2' : ∀ a, N ≤ a → a < N + c → mu' a = jM g a) : jCs g q ci mu0 (N + c) mu' p X fs := by
  obtain ⟨h1, h2, h3, h4, h5⟩ := h
  have e : ∀ a, a < N → mu' a = mu a := fun a ha => by rw [h1' a ha, va_up_ne _ _ (by omega)]
  refine ⟨fun a ha => (e a (by omega)).trans (h1 a ha), (e q h5).trans h2, fun a ha hN hp => ?_, fun hp => ?_, by omega⟩
  · by_cases hlt : a < N
    · exact (e a hlt).trans (h3 a ha hlt hp)
    · exact h2' a (by omega) hN
  · obtain ⟨g1, g2, g3⟩ := h4 hp
    exact ⟨g1, by omega, (e p g2).trans g3⟩
theorem jCs_end {g : jG} {q ci c : Nat} {mu0 : Nat → jE} {N : Nat} {mu : Nat → jE} {X : jE} {fs : List Value} (h : jCs g q ci mu0 N mu 0 X fs) (hN : N = q + c) (hq : .inr (ci, fs) = jM g q) : jCq g q c mu0 (.inl none) N mu true := by
  obtain ⟨h1, h2, h3, h4, h5⟩ := h
  refine ⟨rfl, hN, rfl, h1, fun a ha hc => ?_⟩
  by_cases e : a = q
  · rw [e, h2, hq]
  · exact h3 a (by omega) (by omega) (by omega)
section JKC
variable {f : jF} {lv : List (Nat × Value)} {N k n : Nat} {mu mu0 : Nat → jE} {pc q ci p : Nat} {X : jE} {fs : List Value} {st : List Value}
theorem k_newa {at' : ArrayType} {t na : Nat} {ty : FieldType} {a0 : vp_A} {i : Int32} (h : jCs f.1 q ci mu0 N mu p X fs) (hd : decode (jyc f.2.1) pc = .ok (.newarray at', 2)) (hty : newarray.typeOf at' = ty) (hw : Cond.arrayClass ty ∈ jTab) (ht : jtyl[t]? = some ty) (ha : ∀ cA : ClassId, vp_cell cA a0 = arrV cA na (fun _ => defaultValue ty)) (hi : ¬ i < 0) (hN : i.toNatClampNeg = na) (hby : na * componentBytes ty ≤ 536870912) (hk : k + 1 ≤ f.2.2.2.1) (hn : n + na ≤ f.2.2.2.2.1) (hM : .inl (t, a0) = jM f.1 N)
    (kk : ∀ mu', jCs f.1 q ci mu0 (N + 1) mu' p X fs → jJ f lv (N + 1, mu', true, k + 1, n + na) (pc + 2) (.ref (jb f.1 + N) :: st)) : jJ f lv (N, mu, true, k, n) pc (.int i :: st) :=
  j_newa hd hty hw ht ha hi hN hby hk hn (kk _ (jCs_new h hM))
theorem k_put {idx kf : Nat} {v : Value} (h : jCs f.1 q ci mu0 N mu p X fs) (hd : decode (jyc f.2.1) pc = .ok (.putfield idx, 3)) (hF : jFld (jyo f.2.1) idx ci kf) (hC : (jcl[ci]?).map (fun r => r.1) = some (jyo f.2.1)) (hnm : (jyn f.2.1).name = "<init>") (hl2 : kf < fs.length) (hfin : jfin ci kf = true) (hn : narrow (jcty ci kf) v = v) (hfit : fits (jcty ci kf) v = true)
    (kk : ∀ mu', jCs f.1 q ci mu0 N mu' p X (fs.set kf v) → jJ f lv (N, mu', true, k, n) (pc + 3) st) : jJ f lv (N, mu, true, k, n) pc (v :: .ref (jb f.1 + q) :: st) :=
  j_putF hd hF hC hnm h.2.2.2.2 h.2.1 hl2 hfin hn hfit (kk _ (jCs_put h))
theorem k_get {idx kf : Nat} {v : Value} (h : jCs f.1 q ci mu0 N mu p X fs) (hd : decode (jyc f.2.1) pc = .ok (.getfield idx, 3)) (hF : jFld (jyo f.2.1) idx ci kf) (hv : fs[kf]? = some v) (kk : jJ f lv (N, mu, true, k, n) (pc + 3) (v :: st)) : jJ f lv (N, mu, true, k, n) pc (.ref (jb f.1 + q) :: st) :=
  j_getf hd hF h.2.2.2.2 h.2.1 hv kk
theorem k_anew {idx t na : Nat} {Cn : String} {i : Int32} (h : jCs f.1 q ci mu0 N mu 0 X fs) (hd : decode (jyc f.2.1) pc = .ok (.anewarray idx, 3)) (hw : Cond.classLink (jyo f.2.1) idx Cn ∈ jTab) (hw2 : Cond.arrayOver (.object Cn) ∈ jTab) (ht : jtyl[t]? = some (.object Cn)) (hi : ¬ i < 0) (hN : i.toNatClampNeg = na) (hby : na * 4 ≤ 536870912) (hk : k + 1 ≤ f.2.2.2.1) (hn : n + na ≤ f.2.2.2.2.1)
    (kk : ∀ mu', jCs f.1 q ci mu0 (N + 1) mu' N (.inl (t, na, .inr (.inr (.inr (.inr (fun _ => none)))))) fs → jJ f lv (N + 1, mu', true, k + 1, n + na) (pc + 3) (.ref (jb f.1 + N) :: st)) : jJ f lv (N, mu, true, k, n) pc (.int i :: st) :=
  j_anew hd hw hw2 ht hi hN hby hk hn (kk _ (jCs_pend h))
theorem k_aast {t na v cv : Nat} {r : vw_C} {vs : List Value} {a : Nat → Option Nat} {i : Int32} {j : Nat} (h : jCs f.1 q ci mu0 N mu p (.inl (t, na, .inr (.inr (.inr (.inr a))))) fs) (hp : p ≠ 0) (hd : decode (jyc f.2.1) pc = .ok (.aastore, 1)) (hv : v < N) (hqv : q < v) (hvp : v ≠ p) (hmv : jM f.1 v = .inr (cv, vs)) (hc : jcl[cv]? = some r) (ht : jtyl[t]? = some (.object r.1)) (hi : vp_in i na) (hj : i.toNatClampNeg = j)
    (kk : ∀ mu', jCs f.1 q ci mu0 N mu' p (.inl (t, na, .inr (.inr (.inr (.inr (va_up a j (some (jb f.1 + v)))))))) fs → jJ f lv (N, mu', true, k, n) (pc + 1) st) : jJ f lv (N, mu, true, k, n) pc (.ref (jb f.1 + v) :: .int i :: .ref (jb f.1 + p) :: st) := by
  subst hj
  exact j_aast hd (h.2.2.2.1 hp).2.1 (h.2.2.2.1 hp).2.2 hv ((h.2.2.1 v hqv hv hvp).trans hmv) hc ht hi (kk _ (jCs_set h hp))
theorem k_newc {idx idx2 cc nf c kC' kS' : Nat} {Cn : String} {T : u_T} {fs0 : List Value} {y' : jY} {d' : Nat × Nat} (h : jCs f.1 q ci mu0 N mu p X fs) (hd : decode (jyc f.2.1) pc = .ok (.new idx, 3)) (hd2 : decode (jyc f.2.1) (pc + 3) = .ok (.dup, 1)) (hd3 : decode (jyc f.2.1) (pc + 3 + 1) = .ok (.invokespecial idx2, 3)) (hc : jcl[cc]? = some (Cn, T, nf)) (hl : Cond.classLink (jyo f.2.1) idx Cn ∈ jTab) (hi : Cond.instantiable Cn nf ∈ jTab) (hini : Cond.initialized Cn ∈ jTab) (hfs : ∀ j, j < nf → defaultValue (jcty cc j) = vp_V fs0 j)
    (hm : jMth y' 0) (hr0 : jyr y' = none) (hnm : (jyn y').name = "<init>") (hlk : jLnk (jyo f.2.1) idx2 y') (hin : Cond.instanceMethod (jyn y') ∈ jTab) (hR : d'.1 + 1 ≤ f.2.2.1.1 ∧ 8 + (jyL y' + 11) + d'.2 ≤ f.2.2.1.2) (hk : k + 1 + kC' ≤ f.2.2.2.1) (hn : n + nf + kS' ≤ f.2.2.2.2.1) (hW : ((.ref (jb f.1 + N) :: st).map fun v => v.category).sum ≤ 8) (hcp : 0 < c)
    (hC : jCt f.1 y' d' kC' kS' N c cc fs0) (kk : ∀ mu', jCs f.1 q ci mu0 (N + c) mu' p X fs → jJ f lv (N + c, mu', true, k + 1 + kC', n + nf + kS') (pc + 3 + 1 + 3) (.ref (jb f.1 + N) :: st)) : jJ f lv (N, mu, true, k, n) pc st := by
  refine j_new hd hc hl hi hini hfs (by omega) (by omega) ?_
  refine j_dup hd2 rfl ?_
  refine j_callI (y' := y') (d' := d') (kC' := kC') (kS' := kS') (na := 0) (as := []) (rest := .ref (jb f.1 + N) :: st) (Q' := jCq f.1 N c (va_up mu N (.inr (cc, fs0)))) hd3 hm hr0 hnm hlk hin hR hk hn hW rfl (hC _ (va_up_self _ _ _)) (fun r N' mu' x' h => ⟨_, h.1⟩) rfl ?_
  rintro v N' mu' x' ⟨e1, rfl, rfl, e2, e3⟩
  cases e1
  exact kk mu' (jCs_call h hcp e2 e3)
end JKC
theorem kcp_19 (g : jG) : .inl (5, 3, .inr (.inr (.inr (.inr (va_up (va_up (va_up (fun _ => none) 0 (some (jb g + (19 + 2)))) 1 (some (jb g + (19 + 6)))) 2 (some (jb g + (19 + 10)))))))) = jM g (19 + 1) := by
  have e : (va_up (va_up (va_up (fun _ => none) 0 (some (jb g + (19 + 2)))) 1 (some (jb g + (19 + 6)))) 2 (some (jb g + (19 + 10)))) = (fun j => (([21, 25, 29] : List Nat)[j]?).map (fun r => jb g + r)) := by
    funext j
    match j with
    | 0 => rfl
    | 1 => rfl
    | 2 => rfl
    | j + 3 => rfl
  rw [e]
  rfl
theorem kcp_33 (g : jG) : .inl (5, 3, .inr (.inr (.inr (.inr (va_up (va_up (va_up (fun _ => none) 0 (some (jb g + (33 + 2)))) 1 (some (jb g + (33 + 6)))) 2 (some (jb g + (33 + 10)))))))) = jM g (33 + 1) := by
  have e : (va_up (va_up (va_up (fun _ => none) 0 (some (jb g + (33 + 2)))) 1 (some (jb g + (33 + 6)))) 2 (some (jb g + (33 + 10)))) = (fun j => (([35, 39, 43] : List Nat)[j]?).map (fun r => jb g + r)) := by
    funext j
    match j with
    | 0 => rfl
    | 1 => rfl
    | 2 => rfl
    | j + 3 => rfl
  rw [e]
  rfl
theorem kcp_47 (g : jG) : .inl (5, 3, .inr (.inr (.inr (.inr (va_up (va_up (va_up (fun _ => none) 0 (some (jb g + (47 + 2)))) 1 (some (jb g + (47 + 6)))) 2 (some (jb g + (47 + 10)))))))) = jM g (47 + 1) := by
  have e : (va_up (va_up (va_up (fun _ => none) 0 (some (jb g + (47 + 2)))) 1 (some (jb g + (47 + 6)))) 2 (some (jb g + (47 + 10)))) = (fun j => (([49, 53, 57] : List Nat)[j]?).map (fun r => jb g + r)) := by
    funext j
    match j with
    | 0 => rfl
    | 1 => rfl
    | 2 => rfl
    | j + 3 => rfl
  rw [e]
  rfl
theorem kcp_61 (g : jG) : .inl (5, 3, .inr (.inr (.inr (.inr (va_up (va_up (va_up (fun _ => none) 0 (some (jb g + (61 + 2)))) 1 (some (jb g + (61 + 6)))) 2 (some (jb g + (61 + 10)))))))) = jM g (61 + 1) := by
  have e : (va_up (va_up (va_up (fun _ => none) 0 (some (jb g + (61 + 2)))) 1 (some (jb g + (61 + 6)))) 2 (some (jb g + (61 + 10)))) = (fun j => (([63, 67, 71] : List Nat)[j]?).map (fun r => jb g + r)) := by
    funext j
    match j with
    | 0 => rfl
    | 1 => rfl
    | 2 => rfl
    | j + 3 => rfl
  rw [e]
  rfl
theorem k_R_init (g : jG) (q : Nat) (h0 : .inr (5, [.ref (jb g + (q + 1))]) = jM g (q)) (h1 : .inl (0, (120, .inl (fun _ => 0))) = jM g (q + 1)) : jCt g Y_R_init (1, 20) 1 120 (q) 2 5 [.null] := by
  intro mu0 h00
  refine j_entry (by decide +kernel) rfl (Nat.le_of_ble_eq_true rfl) ?_
  show jJ (g, Y_R_init, (1, 20), 1, 120, jCq g (q) 2 mu0) [(0, .ref (jb g + (q)))] (q + 1, mu0, true, 0, 0) 0 []
  have C := jCs_0 (g := g) h00
  have C : jCs g (q) 5 mu0 (q + 1) mu0 0 (.inr (0, [])) [.null] := C
  refine j_aload_n d_R_init_0 rfl 0 rfl ?_
  refine j_objInit d_R_init_1 lo_R im_obj co_obj ⟨Nat.le_of_ble_eq_true rfl, Nat.le_of_ble_eq_true rfl⟩ (Nat.le_of_ble_eq_true rfl) ?_
  refine j_aload_n d_R_init_4 rfl 0 rfl ?_
  refine n_bipush d_R_init_5 120 (by decide) ?_
  refine k_newa (t := 0) (a0 := (120, .inl (fun _ => 0))) C d_R_init_7 rfl ac_int rfl (fun cA => vp_cell_i _ _ _) (by decide) (by decide) (by decide) (Nat.le_of_ble_eq_true rfl) (Nat.le_of_ble_eq_true rfl) h1 ?_
  clear C
  intro mu C
  refine k_put C d_R_init_9 lf_R_9 rfl rfl (Nat.le_of_ble_eq_true rfl) rfl rfl rfl ?_
  clear C
  intro mu C
  change jCs g q 5 _ _ mu _ _ [.ref (jb g + (q + 1))] at C
  exact j_vret d_R_init_12 rfl (Nat.le_of_ble_eq_true rfl) (Nat.le_of_ble_eq_true rfl) (jCs_end C (by omega) h0)
theorem k_E_init (g : jG) (q : Nat) (h0 : .inr (3, [.int 0, .int 0, .ref (jb g + (q + 1)), .ref (jb g + (q + 2)), .ref (jb g + (q + 3))]) = jM g (q)) (h1 : .inl (0, (4, .inl (fun _ => 0))) = jM g (q + 1)) (h2 : .inl (0, (24, .inl (fun _ => 0))) = jM g (q + 2)) (h3 : .inr (5, [.ref (jb g + (q + 4))]) = jM g (q + 3)) (h4 : .inl (0, (120, .inl (fun _ => 0))) = jM g (q + 4)) : jCt g Y_E_init (2, 40) 4 149 (q) 5 3 [.int 0, .int 0, .null, .null, .null] := by
  intro mu0 h00
  refine j_entry (by decide +kernel) rfl (Nat.le_of_ble_eq_true rfl) ?_
  show jJ (g, Y_E_init, (2, 40), 4, 149, jCq g (q) 5 mu0) [(0, .ref (jb g + (q)))] (q + 1, mu0, true, 0, 0) 0 []
  have C := jCs_0 (g := g) h00
  have C : jCs g (q) 3 mu0 (q + 1) mu0 0 (.inr (0, [])) [.int 0, .int 0, .null, .null, .null] := C
  refine j_aload_n d_E_init_0 rfl 0 rfl ?_
  refine j_objInit d_E_init_1 lo_E im_obj co_obj ⟨Nat.le_of_ble_eq_true rfl, Nat.le_of_ble_eq_true rfl⟩ (Nat.le_of_ble_eq_true rfl) ?_
  refine j_aload_n d_E_init_4 rfl 0 rfl ?_
  refine n_iconst d_E_init_5 4 (by decide) ?_
  refine k_newa (t := 0) (a0 := (4, .inl (fun _ => 0))) C d_E_init_6 rfl ac_int rfl (fun cA => vp_cell_i _ _ _) (by decide) (by decide) (by decide) (Nat.le_of_ble_eq_true rfl) (Nat.le_of_ble_eq_true rfl) h1 ?_
  clear C
  intro mu C
  refine k_put C d_E_init_8 lf_E_9 rfl rfl (Nat.le_of_ble_eq_true rfl) rfl rfl rfl ?_
  clear C
  intro mu C
  change jCs g q 3 _ _ mu _ _ [.int 0, .int 0, .ref (jb g + (q + 1)), .null, .null] at C
  refine j_aload_n d_E_init_11 rfl 0 rfl ?_
  refine n_bipush d_E_init_12 24 (by decide) ?_
  refine k_newa (t := 0) (a0 := (24, .inl (fun _ => 0))) C d_E_init_14 rfl ac_int rfl (fun cA => vp_cell_i _ _ _) (by decide) (by decide) (by decide) (Nat.le_of_ble_eq_true rfl) (Nat.le_of_ble_eq_true rfl) h2 ?_
  clear C
  intro mu C
  refine k_put C d_E_init_16 lf_E_15 rfl rfl (Nat.le_of_ble_eq_true rfl) rfl rfl rfl ?_
  clear C
  intro mu C
  change jCs g q 3 _ _ mu _ _ [.int 0, .int 0, .ref (jb g + (q + 1)), .ref (jb g + (q + 2)), .null] at C
  refine j_aload_n d_E_init_19 rfl 0 rfl ?_
  refine k_newc (c := 2) C d_E_init_20 d_E_init_23 d_E_init_24 rfl lc_E_18 it_R iz_R (by intro j hj; rcases (show j = 0 by omega) with rfl; rfl) mt_R_init rfl rfl ln_E_20 im_R_init ⟨Nat.le_of_ble_eq_true rfl, Nat.le_of_ble_eq_true rfl⟩ (Nat.le_of_ble_eq_true rfl) (Nat.le_of_ble_eq_true rfl) (Nat.le_of_ble_eq_true rfl) (by decide) (k_R_init g (q + 3) h3 h4) ?_
  clear C
  intro mu C
  refine k_put C d_E_init_27 lf_E_21 rfl rfl (Nat.le_of_ble_eq_true rfl) rfl rfl rfl ?_
  clear C
  intro mu C
  change jCs g q 3 _ _ mu _ _ [.int 0, .int 0, .ref (jb g + (q + 1)), .ref (jb g + (q + 2)), .ref (jb g + (q + 3))] at C
  exact j_vret d_E_init_30 rfl (Nat.le_of_ble_eq_true rfl) (Nat.le_of_ble_eq_true rfl) (jCs_end C (by omega) h0)
theorem k_Y_init (g : jG) (q : Nat) (h0 : .inr (2, [.int 0, .ref (jb g + (q + 1)), .ref (jb g + (q + 3))]) = jM g (q)) (h1 : .inr (5, [.ref (jb g + (q + 2))]) = jM g (q + 1)) (h2 : .inl (0, (120, .inl (fun _ => 0))) = jM g (q + 2)) (h3 : .inl (1, (24, .inl (fun _ => 0))) = jM g (q + 3)) : jCt g Y_Y_init (2, 40) 3 145 (q) 4 2 [.int 0, .null, .null] := by
  intro mu0 h00
  refine j_entry (by decide +kernel) rfl (Nat.le_of_ble_eq_true rfl) ?_
  show jJ (g, Y_Y_init, (2, 40), 3, 145, jCq g (q) 4 mu0) [(0, .ref (jb g + (q)))] (q + 1, mu0, true, 0, 0) 0 []
  have C := jCs_0 (g := g) h00
  have C : jCs g (q) 2 mu0 (q + 1) mu0 0 (.inr (0, [])) [.int 0, .null, .null] := C
  refine j_aload_n d_Y_init_0 rfl 0 rfl ?_
  refine j_objInit d_Y_init_1 lo_Y im_obj co_obj ⟨Nat.le_of_ble_eq_true rfl, Nat.le_of_ble_eq_true rfl⟩ (Nat.le_of_ble_eq_true rfl) ?_
  refine j_aload_n d_Y_init_4 rfl 0 rfl ?_
  refine k_newc (c := 2) C d_Y_init_5 d_Y_init_8 d_Y_init_9 rfl lc_Y_9 it_R iz_R (by intro j hj; rcases (show j = 0 by omega) with rfl; rfl) mt_R_init rfl rfl ln_Y_11 im_R_init ⟨Nat.le_of_ble_eq_true rfl, Nat.le_of_ble_eq_true rfl⟩ (Nat.le_of_ble_eq_true rfl) (Nat.le_of_ble_eq_true rfl) (Nat.le_of_ble_eq_true rfl) (by decide) (k_R_init g (q + 1) h1 h2) ?_
  clear C
  intro mu C
  refine k_put C d_Y_init_12 lf_Y_12 rfl rfl (Nat.le_of_ble_eq_true rfl) rfl rfl rfl ?_
  clear C
  intro mu C
  change jCs g q 2 _ _ mu _ _ [.int 0, .ref (jb g + (q + 1)), .null] at C
  refine j_aload_n d_Y_init_15 rfl 0 rfl ?_
  refine n_bipush d_Y_init_16 24 (by decide) ?_
  refine k_newa (t := 1) (a0 := (24, .inl (fun _ => 0))) C d_Y_init_18 rfl ac_boolean rfl (fun cA => vp_cell_i _ _ _) (by decide) (by decide) (by decide) (Nat.le_of_ble_eq_true rfl) (Nat.le_of_ble_eq_true rfl) h3 ?_
  clear C
  intro mu C
  refine k_put C d_Y_init_20 lf_Y_18 rfl rfl (Nat.le_of_ble_eq_true rfl) rfl rfl rfl ?_
  clear C
  intro mu C
  change jCs g q 2 _ _ mu _ _ [.int 0, .ref (jb g + (q + 1)), .ref (jb g + (q + 3))] at C
  exact j_vret d_Y_init_23 rfl (Nat.le_of_ble_eq_true rfl) (Nat.le_of_ble_eq_true rfl) (jCs_end C (by omega) h0)
theorem k_K_init (g : jG) (q : Nat) (h0 : .inr (4, [.ref (jb g + (q + 1)), .int 0, .int 0, .int 0]) = jM g (q)) (h1 : .inl (5, 3, .inr (.inr (.inr (.inr (va_up (va_up (va_up (fun _ => none) 0 (some (jb g + (q + 2)))) 1 (some (jb g + (q + 6)))) 2 (some (jb g + (q + 10)))))))) = jM g (q + 1)) (h2 : .inr (2, [.int 0, .ref (jb g + (q + 3)), .ref (jb g + (q + 5))]) = jM g (q + 2)) (h3 : .inr (5, [.ref (jb g + (q + 4))]) = jM g (q + 3)) (h4 : .inl (0, (120, .inl (fun _ => 0))) = jM g (q + 4)) (h5 : .inl (1, (24, .inl (fun _ => 0))) = jM g (q + 5)) (h6 : .inr (2, [.int 0, .ref (jb g + (q + 7)), .ref (jb g + (q + 9))]) = jM g (q + 6)) (h7 : .inr (5, [.ref (jb g + (q + 8))]) = jM g (q + 7)) (h8 : .inl (0, (120, .inl (fun _ => 0))) = jM g (q + 8)) (h9 : .inl (1, (24, .inl (fun _ => 0))) = jM g (q + 9)) (h10 : .inr (2, [.int 0, .ref (jb g + (q + 11)), .ref (jb g + (q + 13))]) = jM g (q + 10)) (h11 : .inr (5, [.ref (jb g + (q + 12))]) = jM g (q + 11)) (h12 : .inl (0, (120, .inl (fun _ => 0))) = jM g (q + 12)) (h13 : .inl (1, (24, .inl (fun _ => 0))) = jM g (q + 13)) : jCt g Y_K_init (3, 60) 13 447 (q) 14 4 [.null, .int 0, .int 0, .int 0] := by
  intro mu0 h00
  refine j_entry (by decide +kernel) rfl (Nat.le_of_ble_eq_true rfl) ?_
  show jJ (g, Y_K_init, (3, 60), 13, 447, jCq g (q) 14 mu0) [(0, .ref (jb g + (q)))] (q + 1, mu0, true, 0, 0) 0 []
  have C := jCs_0 (g := g) h00
  have C : jCs g (q) 4 mu0 (q + 1) mu0 0 (.inr (0, [])) [.null, .int 0, .int 0, .int 0] := C
  refine j_aload_n d_K_init_0 rfl 0 rfl ?_
  refine j_objInit d_K_init_1 lo_K im_obj co_obj ⟨Nat.le_of_ble_eq_true rfl, Nat.le_of_ble_eq_true rfl⟩ (Nat.le_of_ble_eq_true rfl) ?_
  refine j_aload_n d_K_init_4 rfl 0 rfl ?_
  refine n_iconst d_K_init_5 3 (by decide) ?_
  refine k_anew (t := 5) (na := 3) C d_K_init_6 lc_K_9 ao_Y rfl (by decide) (by decide) (by decide) (Nat.le_of_ble_eq_true rfl) (Nat.le_of_ble_eq_true rfl) ?_
  clear C
  intro mu C
  refine k_put C d_K_init_9 lf_K_11 rfl rfl (Nat.le_of_ble_eq_true rfl) rfl rfl rfl ?_
  clear C
  intro mu C
  change jCs g q 4 _ _ mu _ _ [.ref (jb g + (q + 1)), .int 0, .int 0, .int 0] at C
  refine n_iconst d_K_init_12 0 (by decide) ?_
  refine j_istore_n d_K_init_13 (i := 1) rfl (Nat.le_of_ble_eq_true rfl) (lv' := [_, _]) rfl ?_
  refine j_iload_n d_K_init_14 rfl 0 rfl ?_
  refine n_iconst d_K_init_15 3 (by decide) ?_
  refine n_icmp_ge d_K_init_16 38 rfl (by omega) (by omega) (fun h => absurd h (by omega)) (fun _ => ?_)
  refine j_aload_n d_K_init_19 rfl 1 rfl ?_
  refine k_get C d_K_init_20 lf_K_11 rfl ?_
  refine j_iload_n d_K_init_23 rfl 0 rfl ?_
  refine k_newc (c := 4) C d_K_init_24 d_K_init_27 d_K_init_28 rfl lc_K_9 it_Y iz_Y (by intro j hj; rcases (show j = 0 ∨ j = 1 ∨ j = 2 by omega) with rfl | rfl | rfl <;> rfl) mt_Y_init rfl rfl ln_K_17 im_Y_init ⟨Nat.le_of_ble_eq_true rfl, Nat.le_of_ble_eq_true rfl⟩ (Nat.le_of_ble_eq_true rfl) (Nat.le_of_ble_eq_true rfl) (Nat.le_of_ble_eq_true rfl) (by decide) (k_Y_init g (q + 2) h2 h3 h4 h5) ?_
  clear C
  intro mu C
  refine k_aast (v := q + 2) (j := 0) C (by omega) d_K_init_31 (by omega) (by omega) (by omega) h2.symm rfl rfl (by unfold vp_in; decide) (by decide) ?_
  clear C
  intro mu C
  refine n_iinc d_K_init_32 1 (by decide) 0 rfl (Nat.le_of_ble_eq_true rfl) (lv' := [(1, .int (nI 1)), _]) rfl ?_
  refine j_goto d_K_init_35 14 rfl ?_
  refine j_iload_n d_K_init_14 rfl 0 rfl ?_
  refine n_iconst d_K_init_15 3 (by decide) ?_
  refine n_icmp_ge d_K_init_16 38 rfl (by omega) (by omega) (fun h => absurd h (by omega)) (fun _ => ?_)
  refine j_aload_n d_K_init_19 rfl 1 rfl ?_
  refine k_get C d_K_init_20 lf_K_11 rfl ?_
  refine j_iload_n d_K_init_23 rfl 0 rfl ?_
  refine k_newc (c := 4) C d_K_init_24 d_K_init_27 d_K_init_28 rfl lc_K_9 it_Y iz_Y (by intro j hj; rcases (show j = 0 ∨ j = 1 ∨ j = 2 by omega) with rfl | rfl | rfl <;> rfl) mt_Y_init rfl rfl ln_K_17 im_Y_init ⟨Nat.le_of_ble_eq_true rfl, Nat.le_of_ble_eq_true rfl⟩ (Nat.le_of_ble_eq_true rfl) (Nat.le_of_ble_eq_true rfl) (Nat.le_of_ble_eq_true rfl) (by decide) (k_Y_init g (q + 6) h6 h7 h8 h9) ?_
  clear C
  intro mu C
  refine k_aast (v := q + 6) (j := 1) C (by omega) d_K_init_31 (by omega) (by omega) (by omega) h6.symm rfl rfl (by unfold vp_in; decide) (by decide) ?_
  clear C
  intro mu C
  refine n_iinc d_K_init_32 1 (by decide) 0 rfl (Nat.le_of_ble_eq_true rfl) (lv' := [(1, .int (nI 2)), _]) rfl ?_
  refine j_goto d_K_init_35 14 rfl ?_
  refine j_iload_n d_K_init_14 rfl 0 rfl ?_
  refine n_iconst d_K_init_15 3 (by decide) ?_
  refine n_icmp_ge d_K_init_16 38 rfl (by omega) (by omega) (fun h => absurd h (by omega)) (fun _ => ?_)
  refine j_aload_n d_K_init_19 rfl 1 rfl ?_
  refine k_get C d_K_init_20 lf_K_11 rfl ?_
  refine j_iload_n d_K_init_23 rfl 0 rfl ?_
  refine k_newc (c := 4) C d_K_init_24 d_K_init_27 d_K_init_28 rfl lc_K_9 it_Y iz_Y (by intro j hj; rcases (show j = 0 ∨ j = 1 ∨ j = 2 by omega) with rfl | rfl | rfl <;> rfl) mt_Y_init rfl rfl ln_K_17 im_Y_init ⟨Nat.le_of_ble_eq_true rfl, Nat.le_of_ble_eq_true rfl⟩ (Nat.le_of_ble_eq_true rfl) (Nat.le_of_ble_eq_true rfl) (Nat.le_of_ble_eq_true rfl) (by decide) (k_Y_init g (q + 10) h10 h11 h12 h13) ?_
  clear C
  intro mu C
  refine k_aast (v := q + 10) (j := 2) C (by omega) d_K_init_31 (by omega) (by omega) (by omega) h10.symm rfl rfl (by unfold vp_in; decide) (by decide) ?_
  clear C
  intro mu C
  refine n_iinc d_K_init_32 1 (by decide) 0 rfl (Nat.le_of_ble_eq_true rfl) (lv' := [(1, .int (nI 3)), _]) rfl ?_
  refine j_goto d_K_init_35 14 rfl ?_
  refine j_iload_n d_K_init_14 rfl 0 rfl ?_
  refine n_iconst d_K_init_15 3 (by decide) ?_
  refine n_icmp_ge d_K_init_16 38 rfl (by omega) (by omega) (fun _ => ?_) (fun h => absurd h (by omega))
  replace C := jCs_done C (by omega) h1
  exact j_vret d_K_init_38 rfl (Nat.le_of_ble_eq_true rfl) (Nat.le_of_ble_eq_true rfl) (jCs_end C (by omega) h0)
theorem k_C_init (g : jG)  : jCt g Y_C_init (1, 20) 4 77 (75) 5 1 [.int 0, .int 0, .int 0, .int 0, .null, .null, .null, .null] := by
  intro mu0 h00
  refine j_entry (by decide +kernel) rfl (Nat.le_of_ble_eq_true rfl) ?_
  show jJ (g, Y_C_init, (1, 20), 4, 77, jCq g (75) 5 mu0) [(0, .ref (jb g + (75)))] (75 + 1, mu0, true, 0, 0) 0 []
  have C := jCs_0 (g := g) h00
  have C : jCs g (75) 1 mu0 (75 + 1) mu0 0 (.inr (0, [])) [.int 0, .int 0, .int 0, .int 0, .null, .null, .null, .null] := C
  refine j_aload_n d_C_init_0 rfl 0 rfl ?_
  refine j_objInit d_C_init_1 lo_C im_obj co_obj ⟨Nat.le_of_ble_eq_true rfl, Nat.le_of_ble_eq_true rfl⟩ (Nat.le_of_ble_eq_true rfl) ?_
  refine j_aload_n d_C_init_4 rfl 0 rfl ?_
  refine n_bipush d_C_init_5 24 (by decide) ?_
  refine k_newa (t := 0) (a0 := (24, .inl (fun _ => 0))) C d_C_init_7 rfl ac_int rfl (fun cA => vp_cell_i _ _ _) (by decide) (by decide) (by decide) (Nat.le_of_ble_eq_true rfl) (Nat.le_of_ble_eq_true rfl) rfl ?_
  clear C
  intro mu C
  refine k_put C d_C_init_9 lf_C_9 rfl rfl (Nat.le_of_ble_eq_true rfl) rfl rfl rfl ?_
  clear C
  intro mu C
  change jCs g 75 1 _ _ mu _ _ [.int 0, .int 0, .int 0, .int 0, .ref (jb g + (76)), .null, .null, .null] at C
  refine j_aload_n d_C_init_12 rfl 0 rfl ?_
  refine n_bipush d_C_init_13 24 (by decide) ?_
  refine k_newa (t := 0) (a0 := (24, .inl (fun _ => 0))) C d_C_init_15 rfl ac_int rfl (fun cA => vp_cell_i _ _ _) (by decide) (by decide) (by decide) (Nat.le_of_ble_eq_true rfl) (Nat.le_of_ble_eq_true rfl) rfl ?_
  clear C
  intro mu C
  refine k_put C d_C_init_17 lf_C_15 rfl rfl (Nat.le_of_ble_eq_true rfl) rfl rfl rfl ?_
  clear C
  intro mu C
  change jCs g 75 1 _ _ mu _ _ [.int 0, .int 0, .int 0, .int 0, .ref (jb g + (76)), .ref (jb g + (77)), .null, .null] at C
  refine j_aload_n d_C_init_20 rfl 0 rfl ?_
  refine n_iconst d_C_init_21 5 (by decide) ?_
  refine k_newa (t := 0) (a0 := (5, .inl (fun _ => 0))) C d_C_init_22 rfl ac_int rfl (fun cA => vp_cell_i _ _ _) (by decide) (by decide) (by decide) (Nat.le_of_ble_eq_true rfl) (Nat.le_of_ble_eq_true rfl) rfl ?_
  clear C
  intro mu C
  refine k_put C d_C_init_24 lf_C_18 rfl rfl (Nat.le_of_ble_eq_true rfl) rfl rfl rfl ?_
  clear C
  intro mu C
  change jCs g 75 1 _ _ mu _ _ [.int 0, .int 0, .int 0, .int 0, .ref (jb g + (76)), .ref (jb g + (77)), .ref (jb g + (78)), .null] at C
  refine j_aload_n d_C_init_27 rfl 0 rfl ?_
  refine n_bipush d_C_init_28 24 (by decide) ?_
  refine k_newa (t := 1) (a0 := (24, .inl (fun _ => 0))) C d_C_init_30 rfl ac_boolean rfl (fun cA => vp_cell_i _ _ _) (by decide) (by decide) (by decide) (Nat.le_of_ble_eq_true rfl) (Nat.le_of_ble_eq_true rfl) rfl ?_
  clear C
  intro mu C
  refine k_put C d_C_init_32 lf_C_21 rfl rfl (Nat.le_of_ble_eq_true rfl) rfl rfl rfl ?_
  clear C
  intro mu C
  change jCs g 75 1 _ _ mu _ _ [.int 0, .int 0, .int 0, .int 0, .ref (jb g + (76)), .ref (jb g + (77)), .ref (jb g + (78)), .ref (jb g + (79))] at C
  exact j_vret d_C_init_35 rfl (Nat.le_of_ble_eq_true rfl) (Nat.le_of_ble_eq_true rfl) (jCs_end C (by omega) rfl)
theorem k_D_init (g : jG)  : jCt g Y_D_init (4, 81) 84 2637 (0) 85 0 [.long 0, .long 0, .null, .null, .int 0, .null, .null, .null, .int 0, .null, .int 0, .null, .null] := by
  have hp2 : .inl (3, 3, .inr (.inr (.inr (.inr (va_up (va_up (va_up (fun _ => none) 0 (some (jb g + (3)))) 1 (some (jb g + (8)))) 2 (some (jb g + (13)))))))) = jM g (2) := by
    have e : (va_up (va_up (va_up (fun _ => none) 0 (some (jb g + (3)))) 1 (some (jb g + (8)))) 2 (some (jb g + (13)))) = (fun j => (([3, 8, 13] : List Nat)[j]?).map (fun r => jb g + r)) := by
      funext j
      match j with
      | 0 => rfl
      | 1 => rfl
      | 2 => rfl
      | j + 3 => rfl
    rw [e]
    rfl
  have hp18 : .inl (4, 4, .inr (.inr (.inr (.inr (va_up (va_up (va_up (va_up (fun _ => none) 0 (some (jb g + (19)))) 1 (some (jb g + (33)))) 2 (some (jb g + (47)))) 3 (some (jb g + (61)))))))) = jM g (18) := by
    have e : (va_up (va_up (va_up (va_up (fun _ => none) 0 (some (jb g + (19)))) 1 (some (jb g + (33)))) 2 (some (jb g + (47)))) 3 (some (jb g + (61)))) = (fun j => (([19, 33, 47, 61] : List Nat)[j]?).map (fun r => jb g + r)) := by
      funext j
      match j with
      | 0 => rfl
      | 1 => rfl
      | 2 => rfl
      | 3 => rfl
      | j + 4 => rfl
    rw [e]
    rfl
  intro mu0 h00
  refine j_entry (by decide +kernel) rfl (Nat.le_of_ble_eq_true rfl) ?_
  show jJ (g, Y_D_init, (4, 81), 84, 2637, jCq g (0) 85 mu0) [(0, .ref (jb g + (0)))] (0 + 1, mu0, true, 0, 0) 0 []
  have C := jCs_0 (g := g) h00
  have C : jCs g (0) 0 mu0 (0 + 1) mu0 0 (.inr (0, [])) [.long 0, .long 0, .null, .null, .int 0, .null, .null, .null, .int 0, .null, .int 0, .null, .null] := C
  refine j_aload_n d_D_init_0 rfl 0 rfl ?_
  refine j_objInit d_D_init_1 lo_D im_obj co_obj ⟨Nat.le_of_ble_eq_true rfl, Nat.le_of_ble_eq_true rfl⟩ (Nat.le_of_ble_eq_true rfl) ?_
  refine j_aload_n d_D_init_4 rfl 0 rfl ?_
  refine n_bipush d_D_init_5 64 (by decide) ?_
  refine k_newa (t := 0) (a0 := (64, .inl (fun _ => 0))) C d_D_init_7 rfl ac_int rfl (fun cA => vp_cell_i _ _ _) (by decide) (by decide) (by decide) (Nat.le_of_ble_eq_true rfl) (Nat.le_of_ble_eq_true rfl) rfl ?_
  clear C
  intro mu C
  refine k_put C d_D_init_9 lf_D_9 rfl rfl (Nat.le_of_ble_eq_true rfl) rfl rfl rfl ?_
  clear C
  intro mu C
  change jCs g 0 0 _ _ mu _ _ [.long 0, .long 0, .ref (jb g + (1)), .null, .int 0, .null, .null, .null, .int 0, .null, .int 0, .null, .null] at C
  refine j_aload_n d_D_init_12 rfl 0 rfl ?_
  refine n_iconst d_D_init_13 3 (by decide) ?_
  refine k_anew (t := 3) (na := 3) C d_D_init_14 lc_D_13 ao_E rfl (by decide) (by decide) (by decide) (Nat.le_of_ble_eq_true rfl) (Nat.le_of_ble_eq_true rfl) ?_
  clear C
  intro mu C
  refine k_put C d_D_init_17 lf_D_15 rfl rfl (Nat.le_of_ble_eq_true rfl) rfl rfl rfl ?_
  clear C
  intro mu C
  change jCs g 0 0 _ _ mu _ _ [.long 0, .long 0, .ref (jb g + (1)), .ref (jb g + (2)), .int 0, .null, .null, .null, .int 0, .null, .int 0, .null, .null] at C
  refine n_iconst d_D_init_20 0 (by decide) ?_
  refine j_istore_n d_D_init_21 (i := 1) rfl (Nat.le_of_ble_eq_true rfl) (lv' := [_, _]) rfl ?_
  refine j_iload_n d_D_init_22 rfl 0 rfl ?_
  refine n_iconst d_D_init_23 3 (by decide) ?_
  refine n_icmp_ge d_D_init_24 46 rfl (by omega) (by omega) (fun h => absurd h (by omega)) (fun _ => ?_)
  refine j_aload_n d_D_init_27 rfl 1 rfl ?_
  refine k_get C d_D_init_28 lf_D_15 rfl ?_
  refine j_iload_n d_D_init_31 rfl 0 rfl ?_
  refine k_newc (c := 5) C d_D_init_32 d_D_init_35 d_D_init_36 rfl lc_D_13 it_E iz_E (by intro j hj; rcases (show j = 0 ∨ j = 1 ∨ j = 2 ∨ j = 3 ∨ j = 4 by omega) with rfl | rfl | rfl | rfl | rfl <;> rfl) mt_E_init rfl rfl ln_D_19 im_E_init ⟨Nat.le_of_ble_eq_true rfl, Nat.le_of_ble_eq_true rfl⟩ (Nat.le_of_ble_eq_true rfl) (Nat.le_of_ble_eq_true rfl) (Nat.le_of_ble_eq_true rfl) (by decide) (k_E_init g (3) rfl rfl rfl rfl rfl) ?_
  clear C
  intro mu C
  refine k_aast (v := 3) (j := 0) C (by omega) d_D_init_39 (by omega) (by omega) (by omega) rfl rfl rfl (by unfold vp_in; decide) (by decide) ?_
  clear C
  intro mu C
  refine n_iinc d_D_init_40 1 (by decide) 0 rfl (Nat.le_of_ble_eq_true rfl) (lv' := [(1, .int (nI 1)), _]) rfl ?_
  refine j_goto d_D_init_43 22 rfl ?_
  refine j_iload_n d_D_init_22 rfl 0 rfl ?_
  refine n_iconst d_D_init_23 3 (by decide) ?_
  refine n_icmp_ge d_D_init_24 46 rfl (by omega) (by omega) (fun h => absurd h (by omega)) (fun _ => ?_)
  refine j_aload_n d_D_init_27 rfl 1 rfl ?_
  refine k_get C d_D_init_28 lf_D_15 rfl ?_
  refine j_iload_n d_D_init_31 rfl 0 rfl ?_
  refine k_newc (c := 5) C d_D_init_32 d_D_init_35 d_D_init_36 rfl lc_D_13 it_E iz_E (by intro j hj; rcases (show j = 0 ∨ j = 1 ∨ j = 2 ∨ j = 3 ∨ j = 4 by omega) with rfl | rfl | rfl | rfl | rfl <;> rfl) mt_E_init rfl rfl ln_D_19 im_E_init ⟨Nat.le_of_ble_eq_true rfl, Nat.le_of_ble_eq_true rfl⟩ (Nat.le_of_ble_eq_true rfl) (Nat.le_of_ble_eq_true rfl) (Nat.le_of_ble_eq_true rfl) (by decide) (k_E_init g (8) rfl rfl rfl rfl rfl) ?_
  clear C
  intro mu C
  refine k_aast (v := 8) (j := 1) C (by omega) d_D_init_39 (by omega) (by omega) (by omega) rfl rfl rfl (by unfold vp_in; decide) (by decide) ?_
  clear C
  intro mu C
  refine n_iinc d_D_init_40 1 (by decide) 0 rfl (Nat.le_of_ble_eq_true rfl) (lv' := [(1, .int (nI 2)), _]) rfl ?_
  refine j_goto d_D_init_43 22 rfl ?_
  refine j_iload_n d_D_init_22 rfl 0 rfl ?_
  refine n_iconst d_D_init_23 3 (by decide) ?_
  refine n_icmp_ge d_D_init_24 46 rfl (by omega) (by omega) (fun h => absurd h (by omega)) (fun _ => ?_)
  refine j_aload_n d_D_init_27 rfl 1 rfl ?_
  refine k_get C d_D_init_28 lf_D_15 rfl ?_
  refine j_iload_n d_D_init_31 rfl 0 rfl ?_
  refine k_newc (c := 5) C d_D_init_32 d_D_init_35 d_D_init_36 rfl lc_D_13 it_E iz_E (by intro j hj; rcases (show j = 0 ∨ j = 1 ∨ j = 2 ∨ j = 3 ∨ j = 4 by omega) with rfl | rfl | rfl | rfl | rfl <;> rfl) mt_E_init rfl rfl ln_D_19 im_E_init ⟨Nat.le_of_ble_eq_true rfl, Nat.le_of_ble_eq_true rfl⟩ (Nat.le_of_ble_eq_true rfl) (Nat.le_of_ble_eq_true rfl) (Nat.le_of_ble_eq_true rfl) (by decide) (k_E_init g (13) rfl rfl rfl rfl rfl) ?_
  clear C
  intro mu C
  refine k_aast (v := 13) (j := 2) C (by omega) d_D_init_39 (by omega) (by omega) (by omega) rfl rfl rfl (by unfold vp_in; decide) (by decide) ?_
  clear C
  intro mu C
  refine n_iinc d_D_init_40 1 (by decide) 0 rfl (Nat.le_of_ble_eq_true rfl) (lv' := [(1, .int (nI 3)), _]) rfl ?_
  refine j_goto d_D_init_43 22 rfl ?_
  refine j_iload_n d_D_init_22 rfl 0 rfl ?_
  refine n_iconst d_D_init_23 3 (by decide) ?_
  refine n_icmp_ge d_D_init_24 46 rfl (by omega) (by omega) (fun _ => ?_) (fun h => absurd h (by omega))
  replace C := jCs_done C (by omega) hp2
  refine j_aload_n d_D_init_46 rfl 1 rfl ?_
  refine n_iconst d_D_init_47 4 (by decide) ?_
  refine k_anew (t := 4) (na := 4) C d_D_init_48 lc_D_20 ao_K rfl (by decide) (by decide) (by decide) (Nat.le_of_ble_eq_true rfl) (Nat.le_of_ble_eq_true rfl) ?_
  clear C
  intro mu C
  refine k_put C d_D_init_51 lf_D_22 rfl rfl (Nat.le_of_ble_eq_true rfl) rfl rfl rfl ?_
  clear C
  intro mu C
  change jCs g 0 0 _ _ mu _ _ [.long 0, .long 0, .ref (jb g + (1)), .ref (jb g + (2)), .int 0, .ref (jb g + (18)), .null, .null, .int 0, .null, .int 0, .null, .null] at C
  refine n_iconst d_D_init_54 0 (by decide) ?_
  refine j_istore_n d_D_init_55 (i := 1) rfl (Nat.le_of_ble_eq_true rfl) (lv' := [_, _]) rfl ?_
  refine j_iload_n d_D_init_56 rfl 0 rfl ?_
  refine n_iconst d_D_init_57 4 (by decide) ?_
  refine n_icmp_ge d_D_init_58 80 rfl (by omega) (by omega) (fun h => absurd h (by omega)) (fun _ => ?_)
  refine j_aload_n d_D_init_61 rfl 1 rfl ?_
  refine k_get C d_D_init_62 lf_D_22 rfl ?_
  refine j_iload_n d_D_init_65 rfl 0 rfl ?_
  refine k_newc (c := 14) C d_D_init_66 d_D_init_69 d_D_init_70 rfl lc_D_20 it_K iz_K (by intro j hj; rcases (show j = 0 ∨ j = 1 ∨ j = 2 ∨ j = 3 by omega) with rfl | rfl | rfl | rfl <;> rfl) mt_K_init rfl rfl ln_D_26 im_K_init ⟨Nat.le_of_ble_eq_true rfl, Nat.le_of_ble_eq_true rfl⟩ (Nat.le_of_ble_eq_true rfl) (Nat.le_of_ble_eq_true rfl) (Nat.le_of_ble_eq_true rfl) (by decide) (k_K_init g (19) rfl (kcp_19 g) rfl rfl rfl rfl rfl rfl rfl rfl rfl rfl rfl rfl) ?_
  clear C
  intro mu C
  refine k_aast (v := 19) (j := 0) C (by omega) d_D_init_73 (by omega) (by omega) (by omega) rfl rfl rfl (by unfold vp_in; decide) (by decide) ?_
  clear C
  intro mu C
  refine n_iinc d_D_init_74 1 (by decide) 0 rfl (Nat.le_of_ble_eq_true rfl) (lv' := [(1, .int (nI 1)), _]) rfl ?_
  refine j_goto d_D_init_77 56 rfl ?_
  refine j_iload_n d_D_init_56 rfl 0 rfl ?_
  refine n_iconst d_D_init_57 4 (by decide) ?_
  refine n_icmp_ge d_D_init_58 80 rfl (by omega) (by omega) (fun h => absurd h (by omega)) (fun _ => ?_)
  refine j_aload_n d_D_init_61 rfl 1 rfl ?_
  refine k_get C d_D_init_62 lf_D_22 rfl ?_
  refine j_iload_n d_D_init_65 rfl 0 rfl ?_
  refine k_newc (c := 14) C d_D_init_66 d_D_init_69 d_D_init_70 rfl lc_D_20 it_K iz_K (by intro j hj; rcases (show j = 0 ∨ j = 1 ∨ j = 2 ∨ j = 3 by omega) with rfl | rfl | rfl | rfl <;> rfl) mt_K_init rfl rfl ln_D_26 im_K_init ⟨Nat.le_of_ble_eq_true rfl, Nat.le_of_ble_eq_true rfl⟩ (Nat.le_of_ble_eq_true rfl) (Nat.le_of_ble_eq_true rfl) (Nat.le_of_ble_eq_true rfl) (by decide) (k_K_init g (33) rfl (kcp_33 g) rfl rfl rfl rfl rfl rfl rfl rfl rfl rfl rfl rfl) ?_
  clear C
  intro mu C
  refine k_aast (v := 33) (j := 1) C (by omega) d_D_init_73 (by omega) (by omega) (by omega) rfl rfl rfl (by unfold vp_in; decide) (by decide) ?_
  clear C
  intro mu C
  refine n_iinc d_D_init_74 1 (by decide) 0 rfl (Nat.le_of_ble_eq_true rfl) (lv' := [(1, .int (nI 2)), _]) rfl ?_
  refine j_goto d_D_init_77 56 rfl ?_
  refine j_iload_n d_D_init_56 rfl 0 rfl ?_
  refine n_iconst d_D_init_57 4 (by decide) ?_
  refine n_icmp_ge d_D_init_58 80 rfl (by omega) (by omega) (fun h => absurd h (by omega)) (fun _ => ?_)
  refine j_aload_n d_D_init_61 rfl 1 rfl ?_
  refine k_get C d_D_init_62 lf_D_22 rfl ?_
  refine j_iload_n d_D_init_65 rfl 0 rfl ?_
  refine k_newc (c := 14) C d_D_init_66 d_D_init_69 d_D_init_70 rfl lc_D_20 it_K iz_K (by intro j hj; rcases (show j = 0 ∨ j = 1 ∨ j = 2 ∨ j = 3 by omega) with rfl | rfl | rfl | rfl <;> rfl) mt_K_init rfl rfl ln_D_26 im_K_init ⟨Nat.le_of_ble_eq_true rfl, Nat.le_of_ble_eq_true rfl⟩ (Nat.le_of_ble_eq_true rfl) (Nat.le_of_ble_eq_true rfl) (Nat.le_of_ble_eq_true rfl) (by decide) (k_K_init g (47) rfl (kcp_47 g) rfl rfl rfl rfl rfl rfl rfl rfl rfl rfl rfl rfl) ?_
  clear C
  intro mu C
  refine k_aast (v := 47) (j := 2) C (by omega) d_D_init_73 (by omega) (by omega) (by omega) rfl rfl rfl (by unfold vp_in; decide) (by decide) ?_
  clear C
  intro mu C
  refine n_iinc d_D_init_74 1 (by decide) 0 rfl (Nat.le_of_ble_eq_true rfl) (lv' := [(1, .int (nI 3)), _]) rfl ?_
  refine j_goto d_D_init_77 56 rfl ?_
  refine j_iload_n d_D_init_56 rfl 0 rfl ?_
  refine n_iconst d_D_init_57 4 (by decide) ?_
  refine n_icmp_ge d_D_init_58 80 rfl (by omega) (by omega) (fun h => absurd h (by omega)) (fun _ => ?_)
  refine j_aload_n d_D_init_61 rfl 1 rfl ?_
  refine k_get C d_D_init_62 lf_D_22 rfl ?_
  refine j_iload_n d_D_init_65 rfl 0 rfl ?_
  refine k_newc (c := 14) C d_D_init_66 d_D_init_69 d_D_init_70 rfl lc_D_20 it_K iz_K (by intro j hj; rcases (show j = 0 ∨ j = 1 ∨ j = 2 ∨ j = 3 by omega) with rfl | rfl | rfl | rfl <;> rfl) mt_K_init rfl rfl ln_D_26 im_K_init ⟨Nat.le_of_ble_eq_true rfl, Nat.le_of_ble_eq_true rfl⟩ (Nat.le_of_ble_eq_true rfl) (Nat.le_of_ble_eq_true rfl) (Nat.le_of_ble_eq_true rfl) (by decide) (k_K_init g (61) rfl (kcp_61 g) rfl rfl rfl rfl rfl rfl rfl rfl rfl rfl rfl rfl) ?_
  clear C
  intro mu C
  refine k_aast (v := 61) (j := 3) C (by omega) d_D_init_73 (by omega) (by omega) (by omega) rfl rfl rfl (by unfold vp_in; decide) (by decide) ?_
  clear C
  intro mu C
  refine n_iinc d_D_init_74 1 (by decide) 0 rfl (Nat.le_of_ble_eq_true rfl) (lv' := [(1, .int (nI 4)), _]) rfl ?_
  refine j_goto d_D_init_77 56 rfl ?_
  refine j_iload_n d_D_init_56 rfl 0 rfl ?_
  refine n_iconst d_D_init_57 4 (by decide) ?_
  refine n_icmp_ge d_D_init_58 80 rfl (by omega) (by omega) (fun _ => ?_) (fun h => absurd h (by omega))
  replace C := jCs_done C (by omega) hp18
  refine j_aload_n d_D_init_80 rfl 1 rfl ?_
  refine k_newc (c := 5) C d_D_init_81 d_D_init_84 d_D_init_85 rfl lc_D_27 it_C iz_C (by intro j hj; rcases (show j = 0 ∨ j = 1 ∨ j = 2 ∨ j = 3 ∨ j = 4 ∨ j = 5 ∨ j = 6 ∨ j = 7 by omega) with rfl | rfl | rfl | rfl | rfl | rfl | rfl | rfl <;> rfl) mt_C_init rfl rfl ln_D_29 im_C_init ⟨Nat.le_of_ble_eq_true rfl, Nat.le_of_ble_eq_true rfl⟩ (Nat.le_of_ble_eq_true rfl) (Nat.le_of_ble_eq_true rfl) (Nat.le_of_ble_eq_true rfl) (by decide) (k_C_init g) ?_
  clear C
  intro mu C
  refine k_put C d_D_init_88 lf_D_30 rfl rfl (Nat.le_of_ble_eq_true rfl) rfl rfl rfl ?_
  clear C
  intro mu C
  change jCs g 0 0 _ _ mu _ _ [.long 0, .long 0, .ref (jb g + (1)), .ref (jb g + (2)), .int 0, .ref (jb g + (18)), .ref (jb g + (75)), .null, .int 0, .null, .int 0, .null, .null] at C
  refine j_aload_n d_D_init_91 rfl 1 rfl ?_
  refine n_bipush d_D_init_92 24 (by decide) ?_
  refine k_newa (t := 0) (a0 := (24, .inl (fun _ => 0))) C d_D_init_94 rfl ac_int rfl (fun cA => vp_cell_i _ _ _) (by decide) (by decide) (by decide) (Nat.le_of_ble_eq_true rfl) (Nat.le_of_ble_eq_true rfl) rfl ?_
  clear C
  intro mu C
  refine k_put C d_D_init_96 lf_D_34 rfl rfl (Nat.le_of_ble_eq_true rfl) rfl rfl rfl ?_
  clear C
  intro mu C
  change jCs g 0 0 _ _ mu _ _ [.long 0, .long 0, .ref (jb g + (1)), .ref (jb g + (2)), .int 0, .ref (jb g + (18)), .ref (jb g + (75)), .ref (jb g + (80)), .int 0, .null, .int 0, .null, .null] at C
  refine j_aload_n d_D_init_99 rfl 1 rfl ?_
  refine n_bipush d_D_init_100 64 (by decide) ?_
  refine k_newa (t := 0) (a0 := (64, .inl (fun _ => 0))) C d_D_init_102 rfl ac_int rfl (fun cA => vp_cell_i _ _ _) (by decide) (by decide) (by decide) (Nat.le_of_ble_eq_true rfl) (Nat.le_of_ble_eq_true rfl) rfl ?_
  clear C
  intro mu C
  refine k_put C d_D_init_104 lf_D_37 rfl rfl (Nat.le_of_ble_eq_true rfl) rfl rfl rfl ?_
  clear C
  intro mu C
  change jCs g 0 0 _ _ mu _ _ [.long 0, .long 0, .ref (jb g + (1)), .ref (jb g + (2)), .int 0, .ref (jb g + (18)), .ref (jb g + (75)), .ref (jb g + (80)), .int 0, .ref (jb g + (81)), .int 0, .null, .null] at C
  refine j_aload_n d_D_init_107 rfl 1 rfl ?_
  refine k_newc (c := 2) C d_D_init_108 d_D_init_111 d_D_init_112 rfl lc_D_40 it_R iz_R (by intro j hj; rcases (show j = 0 by omega) with rfl; rfl) mt_R_init rfl rfl ln_D_42 im_R_init ⟨Nat.le_of_ble_eq_true rfl, Nat.le_of_ble_eq_true rfl⟩ (Nat.le_of_ble_eq_true rfl) (Nat.le_of_ble_eq_true rfl) (Nat.le_of_ble_eq_true rfl) (by decide) (k_R_init g (82) rfl rfl) ?_
  clear C
  intro mu C
  refine k_put C d_D_init_115 lf_D_43 rfl rfl (Nat.le_of_ble_eq_true rfl) rfl rfl rfl ?_
  clear C
  intro mu C
  change jCs g 0 0 _ _ mu _ _ [.long 0, .long 0, .ref (jb g + (1)), .ref (jb g + (2)), .int 0, .ref (jb g + (18)), .ref (jb g + (75)), .ref (jb g + (80)), .int 0, .ref (jb g + (81)), .int 0, .ref (jb g + (82)), .null] at C
  refine j_aload_n d_D_init_118 rfl 1 rfl ?_
  refine n_bipush d_D_init_119 6 (by decide) ?_
  refine k_newa (t := 1) (a0 := (6, .inl (fun _ => 0))) C d_D_init_121 rfl ac_boolean rfl (fun cA => vp_cell_i _ _ _) (by decide) (by decide) (by decide) (Nat.le_of_ble_eq_true rfl) (Nat.le_of_ble_eq_true rfl) rfl ?_
  clear C
  intro mu C
  refine k_put C d_D_init_123 lf_D_47 rfl rfl (Nat.le_of_ble_eq_true rfl) rfl rfl rfl ?_
  clear C
  intro mu C
  change jCs g 0 0 _ _ mu _ _ [.long 0, .long 0, .ref (jb g + (1)), .ref (jb g + (2)), .int 0, .ref (jb g + (18)), .ref (jb g + (75)), .ref (jb g + (80)), .int 0, .ref (jb g + (81)), .int 0, .ref (jb g + (82)), .ref (jb g + (84))] at C
  exact j_vret d_D_init_126 rfl (Nat.le_of_ble_eq_true rfl) (Nat.le_of_ble_eq_true rfl) (jCs_end C (by omega) rfl)
theorem k_M_init (g : jG)  : jCt g Y_M_init (1, 20) 17 2776 (85) 18 6 [.int 0, .long 0, .long 0, .null, .int 0, .null, .null, .null, .null, .null, .null, .null, .null, .int 0, .int 0, .int 0, .null, .null, .null, .int 0, .null, .int 0, .null, .null, .null, .null] := by
  intro mu0 h00
  refine j_entry (by decide +kernel) rfl (Nat.le_of_ble_eq_true rfl) ?_
  show jJ (g, Y_M_init, (1, 20), 17, 2776, jCq g (85) 18 mu0) [(0, .ref (jb g + (85)))] (85 + 1, mu0, true, 0, 0) 0 []
  have C := jCs_0 (g := g) h00
  have C : jCs g (85) 6 mu0 (85 + 1) mu0 0 (.inr (0, [])) [.int 0, .long 0, .long 0, .null, .int 0, .null, .null, .null, .null, .null, .null, .null, .null, .int 0, .int 0, .int 0, .null, .null, .null, .int 0, .null, .int 0, .null, .null, .null, .null] := C
  refine j_aload_n d_M_init_0 rfl 0 rfl ?_
  refine j_objInit d_M_init_1 lo_M im_obj co_obj ⟨Nat.le_of_ble_eq_true rfl, Nat.le_of_ble_eq_true rfl⟩ (Nat.le_of_ble_eq_true rfl) ?_
  refine j_aload_n d_M_init_4 rfl 0 rfl ?_
  refine n_bipush d_M_init_5 64 (by decide) ?_
  refine k_newa (t := 0) (a0 := (64, .inl (fun _ => 0))) C d_M_init_7 rfl ac_int rfl (fun cA => vp_cell_i _ _ _) (by decide) (by decide) (by decide) (Nat.le_of_ble_eq_true rfl) (Nat.le_of_ble_eq_true rfl) rfl ?_
  clear C
  intro mu C
  refine k_put C d_M_init_9 lf_M_7 rfl rfl (Nat.le_of_ble_eq_true rfl) rfl rfl rfl ?_
  clear C
  intro mu C
  change jCs g 85 6 _ _ mu _ _ [.int 0, .long 0, .long 0, .ref (jb g + (86)), .int 0, .null, .null, .null, .null, .null, .null, .null, .null, .int 0, .int 0, .int 0, .null, .null, .null, .int 0, .null, .int 0, .null, .null, .null, .null] at C
  refine j_aload_n d_M_init_12 rfl 0 rfl ?_
  refine n_iconst d_M_init_13 3 (by decide) ?_
  refine k_newa (t := 0) (a0 := (3, .inl (fun _ => 0))) C d_M_init_14 rfl ac_int rfl (fun cA => vp_cell_i _ _ _) (by decide) (by decide) (by decide) (Nat.le_of_ble_eq_true rfl) (Nat.le_of_ble_eq_true rfl) rfl ?_
  clear C
  intro mu C
  refine k_put C d_M_init_16 lf_M_13 rfl rfl (Nat.le_of_ble_eq_true rfl) rfl rfl rfl ?_
  clear C
  intro mu C
  change jCs g 85 6 _ _ mu _ _ [.int 0, .long 0, .long 0, .ref (jb g + (86)), .int 0, .ref (jb g + (87)), .null, .null, .null, .null, .null, .null, .null, .int 0, .int 0, .int 0, .null, .null, .null, .int 0, .null, .int 0, .null, .null, .null, .null] at C
  refine j_aload_n d_M_init_19 rfl 0 rfl ?_
  refine n_sipush d_M_init_20 360 (by decide) ?_
  refine k_newa (t := 0) (a0 := (360, .inl (fun _ => 0))) C d_M_init_23 rfl ac_int rfl (fun cA => vp_cell_i _ _ _) (by decide) (by decide) (by decide) (Nat.le_of_ble_eq_true rfl) (Nat.le_of_ble_eq_true rfl) rfl ?_
  clear C
  intro mu C
  refine k_put C d_M_init_25 lf_M_16 rfl rfl (Nat.le_of_ble_eq_true rfl) rfl rfl rfl ?_
  clear C
  intro mu C
  change jCs g 85 6 _ _ mu _ _ [.int 0, .long 0, .long 0, .ref (jb g + (86)), .int 0, .ref (jb g + (87)), .ref (jb g + (88)), .null, .null, .null, .null, .null, .null, .int 0, .int 0, .int 0, .null, .null, .null, .int 0, .null, .int 0, .null, .null, .null, .null] at C
  refine j_aload_n d_M_init_28 rfl 0 rfl ?_
  refine n_bipush d_M_init_29 12 (by decide) ?_
  refine k_newa (t := 1) (a0 := (12, .inl (fun _ => 0))) C d_M_init_31 rfl ac_boolean rfl (fun cA => vp_cell_i _ _ _) (by decide) (by decide) (by decide) (Nat.le_of_ble_eq_true rfl) (Nat.le_of_ble_eq_true rfl) rfl ?_
  clear C
  intro mu C
  refine k_put C d_M_init_33 lf_M_19 rfl rfl (Nat.le_of_ble_eq_true rfl) rfl rfl rfl ?_
  clear C
  intro mu C
  change jCs g 85 6 _ _ mu _ _ [.int 0, .long 0, .long 0, .ref (jb g + (86)), .int 0, .ref (jb g + (87)), .ref (jb g + (88)), .ref (jb g + (89)), .null, .null, .null, .null, .null, .int 0, .int 0, .int 0, .null, .null, .null, .int 0, .null, .int 0, .null, .null, .null, .null] at C
  refine j_aload_n d_M_init_36 rfl 0 rfl ?_
  refine n_sipush d_M_init_37 1440 (by decide) ?_
  refine k_newa (t := 0) (a0 := (1440, .inl (fun _ => 0))) C d_M_init_40 rfl ac_int rfl (fun cA => vp_cell_i _ _ _) (by decide) (by decide) (by decide) (Nat.le_of_ble_eq_true rfl) (Nat.le_of_ble_eq_true rfl) rfl ?_
  clear C
  intro mu C
  refine k_put C d_M_init_42 lf_M_23 rfl rfl (Nat.le_of_ble_eq_true rfl) rfl rfl rfl ?_
  clear C
  intro mu C
  change jCs g 85 6 _ _ mu _ _ [.int 0, .long 0, .long 0, .ref (jb g + (86)), .int 0, .ref (jb g + (87)), .ref (jb g + (88)), .ref (jb g + (89)), .ref (jb g + (90)), .null, .null, .null, .null, .int 0, .int 0, .int 0, .null, .null, .null, .int 0, .null, .int 0, .null, .null, .null, .null] at C
  refine j_aload_n d_M_init_45 rfl 0 rfl ?_
  refine n_sipush d_M_init_46 288 (by decide) ?_
  refine k_newa (t := 1) (a0 := (288, .inl (fun _ => 0))) C d_M_init_49 rfl ac_boolean rfl (fun cA => vp_cell_i _ _ _) (by decide) (by decide) (by decide) (Nat.le_of_ble_eq_true rfl) (Nat.le_of_ble_eq_true rfl) rfl ?_
  clear C
  intro mu C
  refine k_put C d_M_init_51 lf_M_26 rfl rfl (Nat.le_of_ble_eq_true rfl) rfl rfl rfl ?_
  clear C
  intro mu C
  change jCs g 85 6 _ _ mu _ _ [.int 0, .long 0, .long 0, .ref (jb g + (86)), .int 0, .ref (jb g + (87)), .ref (jb g + (88)), .ref (jb g + (89)), .ref (jb g + (90)), .ref (jb g + (91)), .null, .null, .null, .int 0, .int 0, .int 0, .null, .null, .null, .int 0, .null, .int 0, .null, .null, .null, .null] at C
  refine j_aload_n d_M_init_54 rfl 0 rfl ?_
  refine n_iconst d_M_init_55 4 (by decide) ?_
  refine k_newa (t := 0) (a0 := (4, .inl (fun _ => 0))) C d_M_init_56 rfl ac_int rfl (fun cA => vp_cell_i _ _ _) (by decide) (by decide) (by decide) (Nat.le_of_ble_eq_true rfl) (Nat.le_of_ble_eq_true rfl) rfl ?_
  clear C
  intro mu C
  refine k_put C d_M_init_58 lf_M_29 rfl rfl (Nat.le_of_ble_eq_true rfl) rfl rfl rfl ?_
  clear C
  intro mu C
  change jCs g 85 6 _ _ mu _ _ [.int 0, .long 0, .long 0, .ref (jb g + (86)), .int 0, .ref (jb g + (87)), .ref (jb g + (88)), .ref (jb g + (89)), .ref (jb g + (90)), .ref (jb g + (91)), .ref (jb g + (92)), .null, .null, .int 0, .int 0, .int 0, .null, .null, .null, .int 0, .null, .int 0, .null, .null, .null, .null] at C
  refine j_aload_n d_M_init_61 rfl 0 rfl ?_
  refine n_iconst d_M_init_62 4 (by decide) ?_
  refine k_newa (t := 0) (a0 := (4, .inl (fun _ => 0))) C d_M_init_63 rfl ac_int rfl (fun cA => vp_cell_i _ _ _) (by decide) (by decide) (by decide) (Nat.le_of_ble_eq_true rfl) (Nat.le_of_ble_eq_true rfl) rfl ?_
  clear C
  intro mu C
  refine k_put C d_M_init_65 lf_M_32 rfl rfl (Nat.le_of_ble_eq_true rfl) rfl rfl rfl ?_
  clear C
  intro mu C
  change jCs g 85 6 _ _ mu _ _ [.int 0, .long 0, .long 0, .ref (jb g + (86)), .int 0, .ref (jb g + (87)), .ref (jb g + (88)), .ref (jb g + (89)), .ref (jb g + (90)), .ref (jb g + (91)), .ref (jb g + (92)), .ref (jb g + (93)), .null, .int 0, .int 0, .int 0, .null, .null, .null, .int 0, .null, .int 0, .null, .null, .null, .null] at C
  refine j_aload_n d_M_init_68 rfl 0 rfl ?_
  refine n_iconst d_M_init_69 4 (by decide) ?_
  refine k_newa (t := 0) (a0 := (4, .inl (fun _ => 0))) C d_M_init_70 rfl ac_int rfl (fun cA => vp_cell_i _ _ _) (by decide) (by decide) (by decide) (Nat.le_of_ble_eq_true rfl) (Nat.le_of_ble_eq_true rfl) rfl ?_
  clear C
  intro mu C
  refine k_put C d_M_init_72 lf_M_35 rfl rfl (Nat.le_of_ble_eq_true rfl) rfl rfl rfl ?_
  clear C
  intro mu C
  change jCs g 85 6 _ _ mu _ _ [.int 0, .long 0, .long 0, .ref (jb g + (86)), .int 0, .ref (jb g + (87)), .ref (jb g + (88)), .ref (jb g + (89)), .ref (jb g + (90)), .ref (jb g + (91)), .ref (jb g + (92)), .ref (jb g + (93)), .ref (jb g + (94)), .int 0, .int 0, .int 0, .null, .null, .null, .int 0, .null, .int 0, .null, .null, .null, .null] at C
  refine j_aload_n d_M_init_75 rfl 0 rfl ?_
  refine n_bipush d_M_init_76 24 (by decide) ?_
  refine k_newa (t := 0) (a0 := (24, .inl (fun _ => 0))) C d_M_init_78 rfl ac_int rfl (fun cA => vp_cell_i _ _ _) (by decide) (by decide) (by decide) (Nat.le_of_ble_eq_true rfl) (Nat.le_of_ble_eq_true rfl) rfl ?_
  clear C
  intro mu C
  refine k_put C d_M_init_80 lf_M_38 rfl rfl (Nat.le_of_ble_eq_true rfl) rfl rfl rfl ?_
  clear C
  intro mu C
  change jCs g 85 6 _ _ mu _ _ [.int 0, .long 0, .long 0, .ref (jb g + (86)), .int 0, .ref (jb g + (87)), .ref (jb g + (88)), .ref (jb g + (89)), .ref (jb g + (90)), .ref (jb g + (91)), .ref (jb g + (92)), .ref (jb g + (93)), .ref (jb g + (94)), .int 0, .int 0, .int 0, .ref (jb g + (95)), .null, .null, .int 0, .null, .int 0, .null, .null, .null, .null] at C
  refine j_aload_n d_M_init_83 rfl 0 rfl ?_
  refine n_bipush d_M_init_84 24 (by decide) ?_
  refine k_newa (t := 0) (a0 := (24, .inl (fun _ => 0))) C d_M_init_86 rfl ac_int rfl (fun cA => vp_cell_i _ _ _) (by decide) (by decide) (by decide) (Nat.le_of_ble_eq_true rfl) (Nat.le_of_ble_eq_true rfl) rfl ?_
  clear C
  intro mu C
  refine k_put C d_M_init_88 lf_M_41 rfl rfl (Nat.le_of_ble_eq_true rfl) rfl rfl rfl ?_
  clear C
  intro mu C
  change jCs g 85 6 _ _ mu _ _ [.int 0, .long 0, .long 0, .ref (jb g + (86)), .int 0, .ref (jb g + (87)), .ref (jb g + (88)), .ref (jb g + (89)), .ref (jb g + (90)), .ref (jb g + (91)), .ref (jb g + (92)), .ref (jb g + (93)), .ref (jb g + (94)), .int 0, .int 0, .int 0, .ref (jb g + (95)), .ref (jb g + (96)), .null, .int 0, .null, .int 0, .null, .null, .null, .null] at C
  refine j_aload_n d_M_init_91 rfl 0 rfl ?_
  refine n_iconst d_M_init_92 5 (by decide) ?_
  refine k_newa (t := 0) (a0 := (5, .inl (fun _ => 0))) C d_M_init_93 rfl ac_int rfl (fun cA => vp_cell_i _ _ _) (by decide) (by decide) (by decide) (Nat.le_of_ble_eq_true rfl) (Nat.le_of_ble_eq_true rfl) rfl ?_
  clear C
  intro mu C
  refine k_put C d_M_init_95 lf_M_44 rfl rfl (Nat.le_of_ble_eq_true rfl) rfl rfl rfl ?_
  clear C
  intro mu C
  change jCs g 85 6 _ _ mu _ _ [.int 0, .long 0, .long 0, .ref (jb g + (86)), .int 0, .ref (jb g + (87)), .ref (jb g + (88)), .ref (jb g + (89)), .ref (jb g + (90)), .ref (jb g + (91)), .ref (jb g + (92)), .ref (jb g + (93)), .ref (jb g + (94)), .int 0, .int 0, .int 0, .ref (jb g + (95)), .ref (jb g + (96)), .ref (jb g + (97)), .int 0, .null, .int 0, .null, .null, .null, .null] at C
  refine j_aload_n d_M_init_98 rfl 0 rfl ?_
  refine n_bipush d_M_init_99 24 (by decide) ?_
  refine k_newa (t := 0) (a0 := (24, .inl (fun _ => 0))) C d_M_init_101 rfl ac_int rfl (fun cA => vp_cell_i _ _ _) (by decide) (by decide) (by decide) (Nat.le_of_ble_eq_true rfl) (Nat.le_of_ble_eq_true rfl) rfl ?_
  clear C
  intro mu C
  refine k_put C d_M_init_103 lf_M_47 rfl rfl (Nat.le_of_ble_eq_true rfl) rfl rfl rfl ?_
  clear C
  intro mu C
  change jCs g 85 6 _ _ mu _ _ [.int 0, .long 0, .long 0, .ref (jb g + (86)), .int 0, .ref (jb g + (87)), .ref (jb g + (88)), .ref (jb g + (89)), .ref (jb g + (90)), .ref (jb g + (91)), .ref (jb g + (92)), .ref (jb g + (93)), .ref (jb g + (94)), .int 0, .int 0, .int 0, .ref (jb g + (95)), .ref (jb g + (96)), .ref (jb g + (97)), .int 0, .ref (jb g + (98)), .int 0, .null, .null, .null, .null] at C
  refine j_aload_n d_M_init_106 rfl 0 rfl ?_
  refine n_bipush d_M_init_107 64 (by decide) ?_
  refine k_newa (t := 0) (a0 := (64, .inl (fun _ => 0))) C d_M_init_109 rfl ac_int rfl (fun cA => vp_cell_i _ _ _) (by decide) (by decide) (by decide) (Nat.le_of_ble_eq_true rfl) (Nat.le_of_ble_eq_true rfl) rfl ?_
  clear C
  intro mu C
  refine k_put C d_M_init_111 lf_M_50 rfl rfl (Nat.le_of_ble_eq_true rfl) rfl rfl rfl ?_
  clear C
  intro mu C
  change jCs g 85 6 _ _ mu _ _ [.int 0, .long 0, .long 0, .ref (jb g + (86)), .int 0, .ref (jb g + (87)), .ref (jb g + (88)), .ref (jb g + (89)), .ref (jb g + (90)), .ref (jb g + (91)), .ref (jb g + (92)), .ref (jb g + (93)), .ref (jb g + (94)), .int 0, .int 0, .int 0, .ref (jb g + (95)), .ref (jb g + (96)), .ref (jb g + (97)), .int 0, .ref (jb g + (98)), .int 0, .ref (jb g + (99)), .null, .null, .null] at C
  refine j_aload_n d_M_init_114 rfl 0 rfl ?_
  refine n_bipush d_M_init_115 64 (by decide) ?_
  refine k_newa (t := 0) (a0 := (64, .inl (fun _ => 0))) C d_M_init_117 rfl ac_int rfl (fun cA => vp_cell_i _ _ _) (by decide) (by decide) (by decide) (Nat.le_of_ble_eq_true rfl) (Nat.le_of_ble_eq_true rfl) rfl ?_
  clear C
  intro mu C
  refine k_put C d_M_init_119 lf_M_53 rfl rfl (Nat.le_of_ble_eq_true rfl) rfl rfl rfl ?_
  clear C
  intro mu C
  change jCs g 85 6 _ _ mu _ _ [.int 0, .long 0, .long 0, .ref (jb g + (86)), .int 0, .ref (jb g + (87)), .ref (jb g + (88)), .ref (jb g + (89)), .ref (jb g + (90)), .ref (jb g + (91)), .ref (jb g + (92)), .ref (jb g + (93)), .ref (jb g + (94)), .int 0, .int 0, .int 0, .ref (jb g + (95)), .ref (jb g + (96)), .ref (jb g + (97)), .int 0, .ref (jb g + (98)), .int 0, .ref (jb g + (99)), .ref (jb g + (100)), .null, .null] at C
  refine j_aload_n d_M_init_122 rfl 0 rfl ?_
  refine n_bipush d_M_init_123 32 (by decide) ?_
  refine k_newa (t := 2) (a0 := (32, .inr (.inl (fun _ => 0)))) C d_M_init_125 rfl ac_long rfl (fun cA => vp_cell_l _ _ _) (by decide) (by decide) (by decide) (Nat.le_of_ble_eq_true rfl) (Nat.le_of_ble_eq_true rfl) rfl ?_
  clear C
  intro mu C
  refine k_put C d_M_init_127 lf_M_56 rfl rfl (Nat.le_of_ble_eq_true rfl) rfl rfl rfl ?_
  clear C
  intro mu C
  change jCs g 85 6 _ _ mu _ _ [.int 0, .long 0, .long 0, .ref (jb g + (86)), .int 0, .ref (jb g + (87)), .ref (jb g + (88)), .ref (jb g + (89)), .ref (jb g + (90)), .ref (jb g + (91)), .ref (jb g + (92)), .ref (jb g + (93)), .ref (jb g + (94)), .int 0, .int 0, .int 0, .ref (jb g + (95)), .ref (jb g + (96)), .ref (jb g + (97)), .int 0, .ref (jb g + (98)), .int 0, .ref (jb g + (99)), .ref (jb g + (100)), .ref (jb g + (101)), .null] at C
  refine j_aload_n d_M_init_130 rfl 0 rfl ?_
  refine n_sipush d_M_init_131 360 (by decide) ?_
  refine k_newa (t := 0) (a0 := (360, .inl (fun _ => 0))) C d_M_init_134 rfl ac_int rfl (fun cA => vp_cell_i _ _ _) (by decide) (by decide) (by decide) (Nat.le_of_ble_eq_true rfl) (Nat.le_of_ble_eq_true rfl) rfl ?_
  clear C
  intro mu C
  refine k_put C d_M_init_136 lf_M_60 rfl rfl (Nat.le_of_ble_eq_true rfl) rfl rfl rfl ?_
  clear C
  intro mu C
  change jCs g 85 6 _ _ mu _ _ [.int 0, .long 0, .long 0, .ref (jb g + (86)), .int 0, .ref (jb g + (87)), .ref (jb g + (88)), .ref (jb g + (89)), .ref (jb g + (90)), .ref (jb g + (91)), .ref (jb g + (92)), .ref (jb g + (93)), .ref (jb g + (94)), .int 0, .int 0, .int 0, .ref (jb g + (95)), .ref (jb g + (96)), .ref (jb g + (97)), .int 0, .ref (jb g + (98)), .int 0, .ref (jb g + (99)), .ref (jb g + (100)), .ref (jb g + (101)), .ref (jb g + (102))] at C
  exact j_vret d_M_init_139 rfl (Nat.le_of_ble_eq_true rfl) (Nat.le_of_ble_eq_true rfl) (jCs_end C (by omega) rfl)
