/-! the relation between the class's cells and the model's; the invariant of the law's rounds -/
/-- the model's cells say what the class's cells say -/
def jRl (V : Nat → Nat → Nat) (L : Nat → Nat → Int64) : Prop :=
  (V 85 4 = V 0 4 ∧ (∀ i, i < 64 → V 86 i = V 1 i) ∧ (∀ f, f < 3 → V 87 f = V (3 + 5 * f) 0) ∧ ∀ f, f < 3 → ∀ y, y < 120 → V 88 (120 * f + y) = V (6 + 5 * f + 1) y) ∧
  (∀ k, k < 4 → ∀ f, f < 3 → V 89 (3 * k + f) = V (21 + 14 * k + 4 * f) 0 ∧ (∀ y, y < 120 → V 90 (360 * k + 120 * f + y) = V (22 + 14 * k + 4 * f + 1) y) ∧ ∀ i, i < 24 → V 91 (72 * k + 24 * f + i) = V (24 + 14 * k + 4 * f) i) ∧
  (∀ k, k < 4 → V 92 k = V (19 + 14 * k) 1 ∧ V 93 k = V (19 + 14 * k) 2 ∧ V 94 k = V (19 + 14 * k) 3) ∧
  ((V 75 0 = 0 → V 85 13 = 0) ∧ (V 75 0 = 1 → V 85 13 = V 75 3 ∧ 1 ≤ V 75 3) ∧ V 85 14 = V 75 1 ∧ V 85 15 = V 75 2 ∧ (∀ i, i < 24 → V 95 i = V 76 i ∧ V 96 i = V 77 i) ∧ ∀ i, i < 5 → V 97 i = V 78 i) ∧
  (V 85 19 = V 0 8 ∧ (∀ i, i < 24 → V 98 i = V 80 i) ∧ V 85 21 = V 0 10 ∧ ∀ i, i < 64 → V 99 i = V 81 i) ∧ L 85 1 = L 0 0 ∧ L 85 2 = L 0 1
/-- what more holds of the class's cells -/
def jX (V : Nat → Nat → Nat) (L : Nat → Nat → Int64) : Prop :=
  (∀ f, f < V 0 4 → (∀ j, j < 4 → V (4 + 5 * f) j = sN (L 0 0) (L 0 1) (64 * f + j)) ∧ ∀ i, i < 24 → V (5 + 5 * f) i = sN (L 0 0) (L 0 1) (64 * f + 8 + i)) ∧
  (∀ f, V 0 4 ≤ f → f < 3 → V (3 + 5 * f) 0 = 0 ∧ (∀ y, y < 120 → V (6 + 5 * f + 1) y = 0) ∧ ∀ k, k < 4 → V (21 + 14 * k + 4 * f) 0 = 0) ∧ (V 75 0 = 1 → V 75 1 < V 0 4)
def jInv (V : Nat → Nat → Nat) (L : Nat → Nat → Int64) : Prop := jI V ∧ jRl V L ∧ jX V L
theorem jI_c {V W : Nat → Nat → Nat} (h : ∀ a, a < 85 → W a = V a) (hI : jI V) : jI W := by
  obtain ⟨i1, i2, i3, i4, i5, i6, i7, i8, i9⟩ := hI
  refine ⟨?_, ?_, ?_, ?_, fun f hf => ?_, fun k hk f hf => ?_, ?_, ?_, ?_⟩
  · rw [h 0 (by decide)]; exact i1
  · rw [h 0 (by decide)]; exact i2
  · rw [h 0 (by decide)]; exact i3
  · rw [h 1 (by decide)]; exact i4
  · rw [h (3 + 5 * f) (by omega), h (4 + 5 * f) (by omega), h (5 + 5 * f) (by omega), h (6 + 5 * f + 1) (by omega)]
    exact i5 f hf
  · rw [h (21 + 14 * k + 4 * f) (by omega), h (24 + 14 * k + 4 * f) (by omega), h (22 + 14 * k + 4 * f + 1) (by omega)]
    exact i6 k hk f hf
  · rw [h 75 (by decide), h 76 (by decide), h 77 (by decide), h 78 (by decide), h 79 (by decide)]
    exact i7
  · rw [h 83 (by decide)]; exact i8
  · rw [h 84 (by decide)]; exact i9
theorem jX_c {V W : Nat → Nat → Nat} {L M : Nat → Nat → Int64} (h : ∀ a, a < 85 → W a = V a) (h0 : M 0 0 = L 0 0) (h1 : M 0 1 = L 0 1) (h3 : V 0 4 ≤ 3) (hX : jX V L) : jX W M := by
  obtain ⟨x1, x2, x3⟩ := hX
  unfold jX
  rw [h 0 (by decide), h 75 (by decide), h0, h1]
  refine ⟨fun f hf => ?_, fun f hf hf3 => ?_, x3⟩
  · rw [h (4 + 5 * f) (by omega), h (5 + 5 * f) (by omega)]
    exact x1 f hf
  · rw [h (3 + 5 * f) (by omega), h (6 + 5 * f + 1) (by omega)]
    obtain ⟨a1, a2, a3⟩ := x2 f hf hf3
    exact ⟨a1, a2, fun k hk => by rw [h (21 + 14 * k + 4 * f) (by omega)]; exact a3 k hk⟩
theorem jR_m {V W : Nat → Nat → Nat} {L M : Nat → Nat → Int64} (h : ∀ a, a < 85 → W a = V a) (hm : ∀ a, 85 < a → a < 100 → W a = V a) (h8 : ∀ x, x ≠ 0 → W 85 x = V 85 x) (k0 : M 0 0 = L 0 0) (k1 : M 0 1 = L 0 1) (k2 : M 85 1 = L 85 1) (k3 : M 85 2 = L 85 2) (hR : jRl V L) : jRl W M := by
  obtain ⟨⟨r1, r2, r3, r4⟩, r5, r6, r7, r8, r9, r10⟩ := hR
  refine ⟨⟨?_, ?_, fun f hf => ?_, fun f hf => ?_⟩, fun k hk f hf => ?_, fun k hk => ?_, ?_, ?_, ?_, ?_⟩
  · rw [h8 4 (by decide), h 0 (by decide)]; exact r1
  · rw [hm 86 (by decide) (by decide), h 1 (by decide)]; exact r2
  · rw [hm 87 (by decide) (by decide), h (3 + 5 * f) (by omega)]; exact r3 f hf
  · rw [hm 88 (by decide) (by decide), h (6 + 5 * f + 1) (by omega)]; exact r4 f hf
  · rw [hm 89 (by decide) (by decide), hm 90 (by decide) (by decide), hm 91 (by decide) (by decide), h (21 + 14 * k + 4 * f) (by omega), h (22 + 14 * k + 4 * f + 1) (by omega), h (24 + 14 * k + 4 * f) (by omega)]
    exact r5 k hk f hf
  · rw [hm 92 (by decide) (by decide), hm 93 (by decide) (by decide), hm 94 (by decide) (by decide), h (19 + 14 * k) (by omega)]
    exact r6 k hk
  · rw [h8 13 (by decide), h8 14 (by decide), h8 15 (by decide), hm 95 (by decide) (by decide), hm 96 (by decide) (by decide), hm 97 (by decide) (by decide), h 75 (by decide), h 76 (by decide), h 77 (by decide), h 78 (by decide)]
    exact r7
  · rw [h8 19 (by decide), h8 21 (by decide), hm 98 (by decide) (by decide), hm 99 (by decide) (by decide), h 0 (by decide), h 80 (by decide), h 81 (by decide)]
    exact r8
  · rw [k2, k0]; exact r9
  · rw [k3, k1]; exact r10
theorem jInv_m {V W : Nat → Nat → Nat} {L M : Nat → Nat → Int64} (h : ∀ a, a < 85 → W a = V a) (hm : ∀ a, 85 < a → a < 100 → W a = V a) (h8 : ∀ x, x ≠ 0 → W 85 x = V 85 x) (k0 : M 0 0 = L 0 0) (k1 : M 0 1 = L 0 1) (k2 : M 85 1 = L 85 1) (k3 : M 85 2 = L 85 2) (hV : jInv V L) : jInv W M :=
  ⟨jI_c h hV.1, jR_m h hm h8 k0 k1 k2 k3 hV.2.1, jX_c h k0 k1 hV.1.F hV.2.2⟩
theorem jInv_t {V : Nat → Nat → Nat} {L : Nat → Nat → Int64} (x : Nat) (h : jInv V L) : jInv (vu V 85 0 x) L :=
  jInv_m (fun a ha => vu_nq _ _ _ (by omega)) (fun a ha _ => vu_nq _ _ _ (by omega)) (fun y hy => if_neg (fun z => hy z.2)) rfl rfl rfl rfl h
theorem jInv_o {V : Nat → Nat → Nat} {L : Nat → Nat → Int64} (z : Int64) (h : jInv V L) : jInv V (jupL L 103 0 z) := h
theorem jInv_S {V : Nat → Nat → Nat} {L : Nat → Nat → Int64} (S : Nat → Nat) (h : jInv V L) : jInv V (lsS L S) := h
section RA
variable {V : Nat → Nat → Nat} {L : Nat → Nat → Int64}
theorem jRl.F (h : jRl V L) : V 85 4 = V 0 4 := h.1.1
theorem jRl.bf (h : jRl V L) : ∀ i, i < 64 → V 86 i = V 1 i := h.1.2.1
theorem jRl.w (h : jRl V L) {f : Nat} (hf : f < 3) : V 87 f = V (3 + 5 * f) 0 := h.1.2.2.1 f hf
theorem jRl.md (h : jRl V L) {f : Nat} (hf : f < 3) {i j : Nat} (hi : i < 24) (hj : j < 5) : V 88 (5 * (24 * f + i) + j) = V (6 + 5 * f + 1) (i * 5 + j) := by
  rw [← h.1.2.2.2 f hf (i * 5 + j) (by omega)]
  congr 1
  omega
theorem jRl.hs (h : jRl V L) {k f : Nat} (hk : k < 4) (hf : f < 3) : V 89 (3 * k + f) = V (21 + 14 * k + 4 * f) 0 := (h.2.1 k hk f hf).1
theorem jRl.kp (h : jRl V L) {k f : Nat} (hk : k < 4) (hf : f < 3) {i j : Nat} (hi : i < 24) (hj : j < 5) : V 90 (360 * k + 5 * (24 * f + i) + j) = V (22 + 14 * k + 4 * f + 1) (i * 5 + j) := by
  rw [← (h.2.1 k hk f hf).2.1 (i * 5 + j) (by omega)]
  congr 1
  omega
theorem jRl.ls (h : jRl V L) {k f : Nat} (hk : k < 4) (hf : f < 3) {i : Nat} (hi : i < 24) : V 91 (72 * k + 24 * f + i) = V (24 + 14 * k + 4 * f) i := (h.2.1 k hk f hf).2.2 i hi
theorem jRl.tl (h : jRl V L) {k : Nat} (hk : k < 4) : V 92 k = V (19 + 14 * k) 1 ∧ V 93 k = V (19 + 14 * k) 2 ∧ V 94 k = V (19 + 14 * k) 3 := h.2.2.1 k hk
theorem jRl.p0 (h : jRl V L) : V 75 0 = 0 → V 85 13 = 0 := h.2.2.2.1.1
theorem jRl.p1 (h : jRl V L) : V 75 0 = 1 → V 85 13 = V 75 3 ∧ 1 ≤ V 75 3 := h.2.2.2.1.2.1
theorem jRl.pf (h : jRl V L) : V 85 14 = V 75 1 := h.2.2.2.1.2.2.1
theorem jRl.pk (h : jRl V L) : V 85 15 = V 75 2 := h.2.2.2.1.2.2.2.1
theorem jRl.pr (h : jRl V L) : ∀ i, i < 24 → V 95 i = V 76 i ∧ V 96 i = V 77 i := h.2.2.2.1.2.2.2.2.1
theorem jRl.pa (h : jRl V L) : ∀ i, i < 5 → V 97 i = V 78 i := h.2.2.2.1.2.2.2.2.2
theorem jRl.fo (h : jRl V L) : V 85 19 = V 0 8 := h.2.2.2.2.1.1
theorem jRl.bd (h : jRl V L) : ∀ i, i < 24 → V 98 i = V 80 i := h.2.2.2.2.1.2.1
theorem jRl.fe (h : jRl V L) : V 85 21 = V 0 10 := h.2.2.2.2.1.2.2.1
theorem jRl.ft (h : jRl V L) : ∀ i, i < 64 → V 99 i = V 81 i := h.2.2.2.2.1.2.2.2
theorem jRl.k1 (h : jRl V L) : L 85 1 = L 0 0 := h.2.2.2.2.2.1
theorem jRl.k2 (h : jRl V L) : L 85 2 = L 0 1 := h.2.2.2.2.2.2
theorem jRl.rs (h : jRl V L) (hI : jI V) {f : Nat} (hf : f < 3) : mrs V f = V (3 + 5 * f) 1 := by
  unfold mrs
  rw [h.w hf, hI.rc hf]
theorem jN_of (hI : jI V) (h : jRl V L) : jN V := by
  have hp := hI.ps
  have e13 : V 85 13 ≤ V 75 3 := by
    rcases (show V 75 0 = 0 ∨ V 75 0 = 1 by omega) with h0 | h0
    · rw [h.p0 h0]
      exact Nat.zero_le _
    · rw [(h.p1 h0).1]
      exact Nat.le_refl _
  have hcm := hI.cm
  refine ⟨by rw [h.F]; exact hI.F, fun f hf => by rw [h.w hf]; exact hI.w hf, fun x hx => ?_, fun x hx => ?_, fun x hx => ?_, fun x hx => ?_, ⟨by omega, by rw [h.pf]; exact hI.cf, by rw [h.pk]; exact hI.ck, fun x hx => ?_, fun x hx => ?_, fun x hx => ?_⟩, by rw [h.fo]; exact hI.bc, by rw [h.fe]; exact hI.fc⟩
  · have e := h.1.2.2.2 (x / 120) (by omega) (x % 120) (Nat.mod_lt _ (by decide))
    rw [show 120 * (x / 120) + x % 120 = x from by omega] at e
    rw [e]
    exact hI.md (by omega) _ (Nat.mod_lt _ (by decide))
  · have e := h.hs (k := x / 3) (f := x % 3) (by omega) (by omega)
    rw [show 3 * (x / 3) + x % 3 = x from by omega] at e
    rw [e]
    exact hI.hd (by omega) (by omega)
  · have e := (h.2.1 (x / 360) (by omega) (x % 360 / 120) (by omega)).2.1 (x % 120) (Nat.mod_lt _ (by decide))
    rw [show 360 * (x / 360) + 120 * (x % 360 / 120) + x % 120 = x from by omega] at e
    rw [e]
    exact hI.kp (by omega) (by omega) _ (Nat.mod_lt _ (by decide))
  · have e := h.ls (k := x / 72) (f := x % 72 / 24) (i := x % 24) (by omega) (by omega) (by omega)
    rw [show 72 * (x / 72) + 24 * (x % 72 / 24) + x % 24 = x from by omega] at e
    rw [e]
    exact hI.ls (by omega) (by omega) _ (by omega)
  · rw [(h.pr x (by omega)).1]
    exact hI.cr x (by omega)
  · rw [(h.pr x (by omega)).2]
    exact hI.cc x (by omega)
  · rw [h.pa x hx]
    exact hI.ca x hx
end RA
theorem kpr_mrw {V : Nat → Nat → Nat} {L : Nat → Nat → Int64} (hI : jI V) (h : jRl V L) (zk zf zi : Int32) : mrw V zk zf zi = kpr V zk zf zi ∧ mhl V zk zf = kps V zk zf := by
  have h3 := hI.F
  have e : mhl V zk zf = kps V zk zf := by
    unfold mhl kps
    rw [h.F, show isf V zf = isn (V 0 4) zf from rfl]
    by_cases h1 : isn 4 zk = 0
    · rw [if_pos h1, if_pos h1]
    · rw [if_neg h1, if_neg h1]
      by_cases h2 : isn (V 0 4) zf = 0
      · rw [if_pos h2, if_pos h2]
      · rw [if_neg h2, if_neg h2]
        obtain ⟨k, hk, rfl⟩ := isn_of (by omega) h1
        obtain ⟨f, hf, rfl⟩ := isn_of (by omega) h2
        rw [nI_clamp (by omega), nI_clamp (by omega)]
        exact h.hs hk (by omega)
  refine ⟨?_, e⟩
  unfold mrw kpr
  rw [e]
  by_cases h1 : kps V zk zf = 0
  · rw [if_pos h1, if_pos h1]
  · rw [if_neg h1, if_neg h1]
    obtain ⟨k, f, hk, hf, rfl, rfl, hd⟩ := kps_of hI h1
    rw [nI_clamp (by omega), h.rs hI (by omega)]
