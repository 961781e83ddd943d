/-! gathering: the class and the model take the same rows -/
theorem lgk_mkk {V W : Nat → Nat → Nat} {L M : Nat → Nat → Int64} (hV : jInv V L) (hM : M 85 = L 85) (h89 : W 89 = V 89) (h90 : W 90 = V 90) (h91 : W 91 = V 91) {f i : Nat} (hf : f < V 0 4) (hi : i < 24) : mkk W M f i = lgk V f i := by
  unfold mkk lgk
  rw [mgd_igd hV hM h89 h90 h91 (show 0 < 4 by decide) hf hi, mgd_igd hV hM h89 h90 h91 (show 1 < 4 by decide) hf hi, mgd_igd hV hM h89 h90 h91 (show 2 < 4 by decide) hf hi, mgd_igd hV hM h89 h90 h91 (show 3 < 4 by decide) hf hi]
theorem igd_G {V W : Nat → Nat → Nat} (h : jG2 V W) {k f i : Nat} (hk : k < 4) (hf : f < 3) : igd W k f i = igd V k f i := by
  have e := h.1
  unfold igd
  rw [e (21 + 14 * k + 4 * f) (by omega) (by omega), e (24 + 14 * k + 4 * f) (by omega) (by omega), e (22 + 14 * k + 4 * f + 1) (by omega) (by omega), e (5 + 5 * f) (by omega) (by omega), e (4 + 5 * f) (by omega) (by omega)]
theorem lgk_G {V W : Nat → Nat → Nat} (h : jG2 V W) {f i : Nat} (hf : f < 3) : lgk W f i = lgk V f i := by
  unfold lgk
  rw [igd_G h (show 0 < 4 by decide) hf, igd_G h (show 1 < 4 by decide) hf, igd_G h (show 2 < 4 by decide) hf, igd_G h (show 3 < 4 by decide) hf]
theorem ggr_s (V : Nat → Nat → Nat) (f first t : Nat) : ggr V f first (t + 1) = if (ggr V f first t).2 < 4 ∧ lgk (ggr V f first t).1 f (first + t) < 4 then (tak (vu (ggr V f first t).1 84 t 1) 82 (22 + 14 * lgk (ggr V f first t).1 f (first + t) + 4 * f) (first + t), (ggr V f first t).2 + 1) else (vu (ggr V f first t).1 84 t 0, (ggr V f first t).2) := rfl
/-- of a group, as many rows are taken -/
theorem cnt_eq {V U W : Nat → Nat → Nat} {L M : Nat → Nat → Int64} (hV : jInv V L) (hU : jI U) (hG : jG2 V U) (hM : M 85 = L 85) (h89 : W 89 = V 89) (h90 : W 90 = V 90) (h91 : W 91 = V 91) {f q : Nat} (hf : f < V 0 4) (hq : q < 4) (S : Nat → Nat) : ∀ t, t ≤ 6 → (ggr U f (6 * q) t).2 = (mgr W M f q S t).2
  | 0, _ => rfl
  | t + 1, ht => by
    have ih := cnt_eq hV hU hG hM h89 h90 h91 hf hq S t (by omega)
    have h3 := hV.1.F
    have hg := (ggr_G (first := 6 * q) hU (show f < 3 by omega) (by omega) t (by omega)).1
    rw [ggr_s, mgr_s, lgk_G (hG.trans hg) (show f < 3 by omega), lgk_mkk hV hM h89 h90 h91 hf (show 6 * q + t < 24 by omega), ih]
    by_cases h : (mgr W M f q S t).2 < 4 ∧ lgk V f (6 * q + t) < 4
    · rw [if_pos h, if_pos h]
    · rw [if_neg h, if_neg h]
