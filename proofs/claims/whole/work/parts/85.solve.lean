/-! solve: four rows of six are enough -/
/-- the left halves of the four rows, for each choice of four rows out of six and each stage -/
def tT : List (List (List Nat)) := [[[1, 0, 0, 0, 0, 1, 0, 0, 0, 0, 1, 0, 0, 0, 0, 1], [1, 0, 0, 0, 0, 1, 0, 0, 0, 0, 1, 0, 0, 0, 0, 1], [1, 0, 0, 0, 0, 1, 0, 0, 0, 0, 1, 0, 0, 0, 0, 1], [1, 0, 0, 0, 0, 1, 0, 0, 0, 0, 1, 0, 0, 0, 0, 1], [1, 0, 0, 0, 0, 1, 0, 0, 0, 0, 1, 0, 0, 0, 0, 1]],
  [[1, 0, 0, 0, 0, 1, 0, 0, 0, 0, 1, 0, 536870912, 1431655765, 1073741824, 1], [1, 0, 0, 0, 0, 1, 0, 0, 0, 0, 1, 0, 0, 1431655765, 1073741824, 1], [1, 0, 0, 0, 0, 1, 0, 0, 0, 0, 1, 0, 0, 0, 1073741824, 1], [1, 0, 0, 0, 0, 1, 0, 0, 0, 0, 1, 0, 0, 0, 0, 1], [1, 0, 0, 0, 0, 1, 0, 0, 0, 0, 1, 0, 0, 0, 0, 1]],
  [[1, 0, 0, 0, 0, 1, 0, 0, 0, 0, 1, 0, 858993459, 536870912, 1431655765, 1073741824], [1, 0, 0, 0, 0, 1, 0, 0, 0, 0, 1, 0, 0, 536870912, 1431655765, 1073741824], [1, 0, 0, 0, 0, 1, 0, 0, 0, 0, 1, 0, 0, 0, 1431655765, 1073741824], [1, 0, 0, 0, 0, 1, 0, 0, 0, 0, 1, 0, 0, 0, 0, 1073741824], [1, 0, 0, 0, 0, 1, 0, 0, 0, 0, 1, 0, 0, 0, 0, 1]],
  [[1, 0, 0, 0, 0, 1, 0, 0, 0, 0, 0, 1, 536870912, 1431655765, 1073741824, 1], [1, 0, 0, 0, 0, 1, 0, 0, 0, 0, 0, 1, 0, 1431655765, 1073741824, 1], [1, 0, 0, 0, 0, 1, 0, 0, 0, 0, 0, 1, 0, 0, 1073741824, 1], [1, 0, 0, 0, 0, 1, 0, 0, 0, 0, 1, 2, 0, 0, 0, 1], [1, 0, 0, 0, 0, 1, 0, 0, 0, 0, 1, 0, 0, 0, 0, 1]],
  [[1, 0, 0, 0, 0, 1, 0, 0, 0, 0, 0, 1, 858993459, 536870912, 1431655765, 1073741824], [1, 0, 0, 0, 0, 1, 0, 0, 0, 0, 0, 1, 0, 536870912, 1431655765, 1073741824], [1, 0, 0, 0, 0, 1, 0, 0, 0, 0, 0, 1, 0, 0, 1431655765, 1073741824], [1, 0, 0, 0, 0, 1, 0, 0, 0, 0, 1, 1073741825, 0, 0, 0, 1], [1, 0, 0, 0, 0, 1, 0, 0, 0, 0, 1, 0, 0, 0, 0, 1]],
  [[1, 0, 0, 0, 0, 1, 0, 0, 536870912, 1431655765, 1073741824, 1, 858993459, 536870912, 1431655765, 1073741824], [1, 0, 0, 0, 0, 1, 0, 0, 0, 1431655765, 1073741824, 1, 0, 536870912, 1431655765, 1073741824], [1, 0, 0, 0, 0, 1, 0, 0, 0, 0, 1073741824, 1, 0, 0, 1431655765, 1073741824], [1, 0, 0, 0, 0, 1, 0, 0, 0, 0, 1, 2, 0, 0, 0, 357913941], [1, 0, 0, 0, 0, 1, 0, 0, 0, 0, 1, 0, 0, 0, 0, 1]],
  [[1, 0, 0, 0, 0, 0, 1, 0, 0, 0, 0, 1, 536870912, 1431655765, 1073741824, 1], [1, 0, 0, 0, 0, 0, 1, 0, 0, 0, 0, 1, 0, 1431655765, 1073741824, 1], [1, 0, 0, 0, 0, 1, 1073741825, 3, 0, 0, 0, 1, 0, 0, 1, 0], [1, 0, 0, 0, 0, 1, 0, 3, 0, 0, 1, 0, 0, 0, 0, 1], [1, 0, 0, 0, 0, 1, 0, 0, 0, 0, 1, 0, 0, 0, 0, 1]],
  [[1, 0, 0, 0, 0, 0, 1, 0, 0, 0, 0, 1, 858993459, 536870912, 1431655765, 1073741824], [1, 0, 0, 0, 0, 0, 1, 0, 0, 0, 0, 1, 0, 536870912, 1431655765, 1073741824], [1, 0, 0, 0, 0, 1, 1431655766, 2, 0, 0, 0, 1, 0, 0, 1, 0], [1, 0, 0, 0, 0, 1, 0, 2, 0, 0, 1, 0, 0, 0, 0, 1], [1, 0, 0, 0, 0, 1, 0, 0, 0, 0, 1, 0, 0, 0, 0, 1]],
  [[1, 0, 0, 0, 0, 0, 1, 0, 536870912, 1431655765, 1073741824, 1, 858993459, 536870912, 1431655765, 1073741824], [1, 0, 0, 0, 0, 0, 1, 0, 0, 1431655765, 1073741824, 1, 0, 536870912, 1431655765, 1073741824], [1, 0, 0, 0, 0, 1, 1073741825, 3, 0, 0, 1, 0, 0, 0, 626349397, 1610612735], [1, 0, 0, 0, 0, 1, 0, 3, 0, 0, 1, 0, 0, 0, 0, 1610612735], [1, 0, 0, 0, 0, 1, 0, 0, 0, 0, 1, 0, 0, 0, 0, 1]],
  [[1, 0, 0, 0, 0, 0, 0, 1, 536870912, 1431655765, 1073741824, 1, 858993459, 536870912, 1431655765, 1073741824], [1, 0, 0, 0, 0, 0, 0, 1, 0, 1431655765, 1073741824, 1, 0, 536870912, 1431655765, 1073741824], [1, 0, 0, 0, 0, 1, 1073741825, 3, 0, 0, 0, 1, 0, 0, 626349397, 1610612735], [1, 0, 0, 0, 0, 1, 0, 2147483641, 0, 0, 1, 6, 0, 0, 0, 1], [1, 0, 0, 0, 0, 1, 0, 0, 0, 0, 1, 0, 0, 0, 0, 1]],
  [[0, 1, 0, 0, 0, 0, 1, 0, 0, 0, 0, 1, 536870912, 1431655765, 1073741824, 1], [1, 1431655766, 2, 4, 0, 0, 1, 0, 0, 0, 0, 1, 0, 1, 0, 0], [1, 0, 2, 4, 0, 1, 0, 0, 0, 0, 0, 1, 0, 0, 1, 0], [1, 0, 0, 4, 0, 1, 0, 0, 0, 0, 1, 0, 0, 0, 0, 1], [1, 0, 0, 0, 0, 1, 0, 0, 0, 0, 1, 0, 0, 0, 0, 1]],
  [[0, 1, 0, 0, 0, 0, 1, 0, 0, 0, 0, 1, 858993459, 536870912, 1431655765, 1073741824], [1, 536870913, 715827884, 1073741826, 0, 0, 1, 0, 0, 0, 0, 1, 0, 1, 0, 0], [1, 0, 715827884, 1073741826, 0, 1, 0, 0, 0, 0, 0, 1, 0, 0, 1, 0], [1, 0, 0, 1073741826, 0, 1, 0, 0, 0, 0, 1, 0, 0, 0, 0, 1], [1, 0, 0, 0, 0, 1, 0, 0, 0, 0, 1, 0, 0, 0, 0, 1]],
  [[0, 1, 0, 0, 0, 0, 1, 0, 536870912, 1431655765, 1073741824, 1, 858993459, 536870912, 1431655765, 1073741824], [1, 1431655766, 2, 4, 0, 0, 1, 0, 0, 1, 0, 0, 0, 1539029947, 1861152494, 1932735282], [1, 0, 2, 4, 0, 1, 0, 0, 0, 0, 1, 0, 0, 0, 1861152494, 1932735282], [1, 0, 0, 4, 0, 1, 0, 0, 0, 0, 1, 0, 0, 0, 0, 1932735282], [1, 0, 0, 0, 0, 1, 0, 0, 0, 0, 1, 0, 0, 0, 0, 1]],
  [[0, 1, 0, 0, 0, 0, 0, 1, 536870912, 1431655765, 1073741824, 1, 858993459, 536870912, 1431655765, 1073741824], [1, 1431655766, 2, 4, 0, 0, 0, 1, 0, 1, 0, 0, 0, 1539029947, 1861152494, 1932735282], [1, 0, 2, 4, 0, 1, 0, 0, 0, 0, 0, 1, 0, 0, 1861152494, 1932735282], [1, 0, 0, 2147483642, 0, 1, 0, 0, 0, 0, 1, 1073741828, 0, 0, 0, 1], [1, 0, 0, 0, 0, 1, 0, 0, 0, 0, 1, 0, 0, 0, 0, 1]],
  [[0, 0, 1, 0, 0, 0, 0, 1, 536870912, 1431655765, 1073741824, 1, 858993459, 536870912, 1431655765, 1073741824], [1, 1431655766, 2, 4, 0, 0, 0, 1, 0, 0, 1, 0, 0, 1539029947, 1861152494, 1932735282], [1, 0, 715827879, 2147483627, 0, 1, 4, 18, 0, 0, 1, 0, 0, 0, 0, 1], [1, 0, 0, 2147483627, 0, 1, 0, 18, 0, 0, 1, 0, 0, 0, 0, 1], [1, 0, 0, 0, 0, 1, 0, 0, 0, 0, 1, 0, 0, 0, 0, 1]]]
/-- which choice it is -/
def tI (a b c d : Nat) : Nat := ([[0, 1, 2, 3], [0, 1, 2, 4], [0, 1, 2, 5], [0, 1, 3, 4], [0, 1, 3, 5], [0, 1, 4, 5], [0, 2, 3, 4], [0, 2, 3, 5], [0, 2, 4, 5], [0, 3, 4, 5], [1, 2, 3, 4], [1, 2, 3, 5], [1, 2, 4, 5], [1, 3, 4, 5], [2, 3, 4, 5]] : List (List Nat)).findIdx (fun x => x == [a, b, c, d])
def tG (s c n j : Nat) : Nat := (((tT.getD s []).getD c []).getD (4 * n + j) 0)
/-- the pivot's row -/
def tP (t : Nat → Nat → Nat) (c : Nat) : Nat → Nat → Nat
  | 0, p => p
  | n + 1, p => if t p c = 0 then tP t c n (p + 1) else p
/-- an entry of the left half after the stage of c -/
def tN (t : Nat → Nat → Nat) (p c n j : Nat) : Nat := if n = c then t p j * ovr (t p c) % 2147483647 else ((if n = p then t c j else t n j) + (2147483647 - (if n = p then t c c else t n c)) * (t p j * ovr (t p c) % 2147483647)) % 2147483647
theorem tT_ok : ∀ s, s < 15 → ∀ c, c < 4 → tP (tG s c) c (4 - c) c < 4 ∧ ∀ n, n < 4 → ∀ j, j < 4 → tN (tG s c) (tP (tG s c) c (4 - c) c) c n j = tG s (c + 1) n j := by decide +kernel
theorem tT_4 : ∀ s, s < 15 → ∀ n, n < 4 → ∀ j, j < 4 → tG s 4 n j = if n = j then 1 else 0 := by decide +kernel
def tC (a b c d : Nat) : Bool := Nat.blt (tI a b c d) 15 && (List.range 4).all (fun j => ((Nat.beq (cof a j) (tG (tI a b c d) 0 0 j) && Nat.beq (cof b j) (tG (tI a b c d) 0 1 j)) && Nat.beq (cof c j) (tG (tI a b c d) 0 2 j)) && Nat.beq (cof d j) (tG (tI a b c d) 0 3 j))
def tD (a b : Nat) : Bool := (List.range 6).all (fun c => (List.range 6).all (fun d => !(Nat.blt b c && Nat.blt c d) || tC a b c d))
theorem tT_b : (List.range 6).all (fun a => (List.range 6).all (fun b => !(Nat.blt a b) || tD a b)) = true := by decide +kernel
theorem blt_t {a b : Nat} (h : a < b) : Nat.blt a b = true := Nat.ble_eq_true_of_le h
theorem tT_0 {a b c d : Nat} (hab : a < b) (hbc : b < c) (hcd : c < d) (hd : d < 6) : tI a b c d < 15 ∧ ∀ j, j < 4 → cof a j = tG (tI a b c d) 0 0 j ∧ cof b j = tG (tI a b c d) 0 1 j ∧ cof c j = tG (tI a b c d) 0 2 j ∧ cof d j = tG (tI a b c d) 0 3 j := by
  have h1 : (List.range 6).all (fun b => !(Nat.blt a b) || tD a b) = true := List.all_eq_true.mp tT_b a (List.mem_range.mpr (by omega))
  have h2 : (!(Nat.blt a b) || tD a b) = true := List.all_eq_true.mp h1 b (List.mem_range.mpr (by omega))
  rw [blt_t hab] at h2
  have h3 : (List.range 6).all (fun c => (List.range 6).all (fun d => !(Nat.blt b c && Nat.blt c d) || tC a b c d)) = true := h2
  have h4 : (List.range 6).all (fun d => !(Nat.blt b c && Nat.blt c d) || tC a b c d) = true := List.all_eq_true.mp h3 c (List.mem_range.mpr (by omega))
  have h5 : (!(Nat.blt b c && Nat.blt c d) || tC a b c d) = true := List.all_eq_true.mp h4 d (List.mem_range.mpr hd)
  rw [blt_t hbc, blt_t hcd] at h5
  have h6 : (Nat.blt (tI a b c d) 15 && (List.range 4).all (fun j => ((Nat.beq (cof a j) (tG (tI a b c d) 0 0 j) && Nat.beq (cof b j) (tG (tI a b c d) 0 1 j)) && Nat.beq (cof c j) (tG (tI a b c d) 0 2 j)) && Nat.beq (cof d j) (tG (tI a b c d) 0 3 j))) = true := h5
  rw [Bool.and_eq_true] at h6
  refine ⟨Nat.le_of_ble_eq_true h6.1, fun j hj => ?_⟩
  have h7 : (((Nat.beq (cof a j) (tG (tI a b c d) 0 0 j) && Nat.beq (cof b j) (tG (tI a b c d) 0 1 j)) && Nat.beq (cof c j) (tG (tI a b c d) 0 2 j)) && Nat.beq (cof d j) (tG (tI a b c d) 0 3 j)) = true := List.all_eq_true.mp h6.2 j (List.mem_range.mpr hj)
  rw [Bool.and_eq_true, Bool.and_eq_true, Bool.and_eq_true] at h7
  exact ⟨Nat.eq_of_beq_eq_true h7.1.1.1, Nat.eq_of_beq_eq_true h7.1.1.2, Nat.eq_of_beq_eq_true h7.1.2, Nat.eq_of_beq_eq_true h7.2⟩
theorem tP_eq {S : Nat → Nat} {t : Nat → Nat → Nat} {c : Nat} (hc : c < 4) (h : ∀ n, n < 4 → ∀ j, j < 4 → S (8 * n + j) = t n j) : ∀ m p, p + m ≤ 4 → pvs S c m p = tP t c m p
  | 0, _, _ => rfl
  | m + 1, p, hp => by
    show (if S (8 * p + c) = 0 then pvs S c m (p + 1) else p) = if t p c = 0 then tP t c m (p + 1) else p
    rw [h p (by omega) c hc, tP_eq hc h m (p + 1) (by omega)]
/-- the left half after a stage -/
theorem stc_t {S : Nat → Nat} {t : Nat → Nat → Nat} {c : Nat} (hS : sP S) (hc : c < 4) (h : ∀ n, n < 4 → ∀ j, j < 4 → S (8 * n + j) = t n j) (hp : tP t c (4 - c) c < 4) : pvs S c (4 - c) c < 4 ∧ ∀ n, n < 4 → ∀ j, j < 4 → stc S c (8 * n + j) = tN t (tP t c (4 - c) c) c n j := by
  have e := tP_eq hc h (4 - c) c (by omega)
  have hp' : pvs S c (4 - c) c < 4 := by rw [e]; exact hp
  refine ⟨hp', fun n hn j hj => ?_⟩
  by_cases hnc : n = c
  · subst hnc
    rw [stc_c hS hc hp' (show j < 8 by omega), e, h _ hp j hj, h _ hp n hn]
    exact (if_pos rfl).symm
  · rw [stc_n hS hc hn hnc hp' (show j < 8 by omega), sw1_at, sw1_at, show (8 * n + j) / 8 = n from by omega, show (8 * n + j) % 8 = j from by omega, show (8 * n + c) / 8 = n from by omega, show (8 * n + c) % 8 = c from by omega, if_neg hnc, if_neg hnc, e, h _ hp j hj, h _ hp c hc, h c hc j hj, h c hc c hc, h n hn j hj, h n hn c hc]
    exact (if_neg hnc).symm
theorem stg_t {S : Nat → Nat} {s : Nat} (hS : sP S) (hs : s < 15) (h : ∀ n, n < 4 → ∀ j, j < 4 → S (8 * n + j) = tG s 0 n j) : ∀ c, c ≤ 4 → (∀ n, n < 4 → ∀ j, j < 4 → stg S c (8 * n + j) = tG s c n j) ∧ sP (stg S c)
  | 0, _ => ⟨h, hS⟩
  | c + 1, hc => by
    obtain ⟨h1, h2⟩ := stg_t hS hs h c (by omega)
    obtain ⟨k1, k2⟩ := tT_ok s hs c (by omega)
    obtain ⟨k3, k4⟩ := stc_t h2 (show c < 4 by omega) h1 k1
    refine ⟨fun n hn j hj => ?_, sP_ela (sP_scl (sP_swp h2 k3 (by omega) 8 (by omega)) 8) 4⟩
    rw [← k2 n hn j hj]
    exact k4 n hn j hj
theorem stg_p {S : Nat → Nat} {s : Nat} (hS : sP S) (hs : s < 15) (h : ∀ n, n < 4 → ∀ j, j < 4 → S (8 * n + j) = tG s 0 n j) : mok S := by
  refine ⟨hS, fun c hc => ?_⟩
  obtain ⟨h1, h2⟩ := stg_t hS hs h c (by omega)
  exact (stc_t h2 hc h1 (tT_ok s hs c hc).1).1
/-- four products and their sum -/
def l4 (a x : Nat → Nat) : Nat := a 0 * x 0 + a 1 * x 1 + a 2 * x 2 + a 3 * x 3
theorem l4_eq {a b : Nat → Nat} (x : Nat → Nat) (h : ∀ i, i < 4 → a i = b i) : l4 a x = l4 b x := by
  unfold l4
  rw [h 0 (by omega), h 1 (by omega), h 2 (by omega), h 3 (by omega)]
theorem l4_mul (a x : Nat → Nat) (b : Nat) : l4 (fun i => a i * b) x = l4 a x * b := by
  unfold l4
  simp only [Nat.mul_add, Nat.mul_comm, Nat.mul_left_comm]
theorem l4_add (a w x : Nat → Nat) (u : Nat) : l4 (fun i => a i + u * w i) x = l4 a x + u * l4 w x := by
  unfold l4
  simp only [Nat.mul_add, Nat.mul_comm, Nat.mul_left_comm]
  omega
theorem md_mul {a b : Nat} (c : Nat) (h : a % 2147483647 = b % 2147483647) : a * c % 2147483647 = b * c % 2147483647 := by
  rw [Nat.mul_mod, h, ← Nat.mul_mod]
theorem md_add {a b c d : Nat} (h : a % 2147483647 = b % 2147483647) (h2 : c % 2147483647 = d % 2147483647) : (a + c) % 2147483647 = (b + d) % 2147483647 := by
  rw [Nat.add_mod, h, h2, ← Nat.add_mod]
theorem l4_mod (a x : Nat → Nat) : l4 (fun i => a i % 2147483647) x % 2147483647 = l4 a x % 2147483647 := by
  unfold l4
  exact md_add (md_add (md_add (md_mul _ (Nat.mod_mod _ _)) (md_mul _ (Nat.mod_mod _ _))) (md_mul _ (Nat.mod_mod _ _))) (md_mul _ (Nat.mod_mod _ _))
/-- x solves the four rows, the right column being j -/
def sol (S x : Nat → Nat) (j : Nat) : Prop := ∀ n, n < 4 → l4 (fun i => S (8 * n + i)) x % 2147483647 = S (8 * n + (4 + j)) % 2147483647
theorem sol_w {S x : Nat → Nat} {p b j : Nat} (h : l4 (fun i => S (8 * p + i)) x % 2147483647 = S (8 * p + (4 + j)) % 2147483647) : l4 (fun i => S (8 * p + i) * b % 2147483647) x % 2147483647 = S (8 * p + (4 + j)) * b % 2147483647 := by
  rw [l4_mod, l4_mul]
  exact md_mul b h
theorem sol_stc {S x : Nat → Nat} {c j : Nat} (hS : sP S) (hc : c < 4) (hj : j < 4) (hp : pvs S c (4 - c) c < 4) (h : sol S x j) : sol (stc S c) x j := by
  intro n hn
  have hw := sol_w (b := ovr (S (8 * pvs S c (4 - c) c + c))) (h _ hp)
  by_cases hnc : n = c
  · subst hnc
    rw [l4_eq x (fun i hi => stc_c hS hc hp (show i < 8 by omega)), stc_c hS hc hp (show 4 + j < 8 by omega), hw, Nat.mod_mod]
  · have hs : l4 (fun i => sw1 S c (8 * n + i)) x % 2147483647 = sw1 S c (8 * n + (4 + j)) % 2147483647 := by
      by_cases hnp : n = pvs S c (4 - c) c
      · have e : ∀ i, i < 8 → sw1 S c (8 * n + i) = S (8 * c + i) := fun i hi => by
          rw [sw1_at, show (8 * n + i) / 8 = n from by omega, show (8 * n + i) % 8 = i from by omega, if_pos hnp]
        rw [l4_eq x (fun i hi => e i (by omega)), e _ (by omega)]
        exact h c hc
      · have e : ∀ i, i < 8 → sw1 S c (8 * n + i) = S (8 * n + i) := fun i hi => by
          rw [sw1_at, show (8 * n + i) / 8 = n from by omega, if_neg hnp, if_neg hnc]
        rw [l4_eq x (fun i hi => e i (by omega)), e _ (by omega)]
        exact h n hn
    rw [l4_eq x (fun i hi => stc_n hS hc hn hnc hp (show i < 8 by omega)), stc_n hS hc hn hnc hp (show 4 + j < 8 by omega), l4_mod, l4_add, Nat.mod_mod]
    refine md_add hs ?_
    rw [Nat.mul_comm, Nat.mul_comm (2147483647 - sw1 S c (8 * n + c))]
    exact md_mul _ (hw.trans (Nat.mod_mod _ _).symm)
theorem sol_stg {S x : Nat → Nat} {j : Nat} (hS : mok S) (hj : j < 4) (h : sol S x j) : ∀ c, c ≤ 4 → sol (stg S c) x j
  | 0, _ => h
  | c + 1, hc => sol_stc (sP_stg hS.1 hS.2 c (by omega)) (by omega) hj (hS.2 c (by omega)) (sol_stg hS hj h c (by omega))
/-- what solve leaves is the solution -/
theorem sol_end {S x : Nat → Nat} {s j : Nat} (hS : sP S) (hs : s < 15) (h : ∀ n, n < 4 → ∀ j, j < 4 → S (8 * n + j) = tG s 0 n j) (hj : j < 4) (hx : ∀ n, n < 4 → x n < 2147483647) (hso : sol S x j) : ∀ n, n < 4 → stg S 4 (8 * n + 4 + j) = x n := by
  intro n hn
  have hm := stg_p hS hs h
  have h1 := sol_stg hm hj hso 4 (by omega) n hn
  obtain ⟨h2, h3⟩ := stg_t hS hs h 4 (by omega)
  have h4 := h3 (8 * n + (4 + j)) (by omega)
  have h5 := hx n hn
  rw [Nat.mod_eq_of_lt h4, l4_eq x (fun i hi => (h2 n hn i hi).trans (tT_4 s hs n hn i hi))] at h1
  rw [show 8 * n + 4 + j = 8 * n + (4 + j) from by omega, ← h1]
  have e : l4 (fun i => if n = i then 1 else 0) x = x n := by
    unfold l4
    rcases (show n = 0 ∨ n = 1 ∨ n = 2 ∨ n = 3 by omega) with rfl | rfl | rfl | rfl
    all_goals simp
  rw [e, Nat.mod_eq_of_lt h5]
