/-! the law: every round, and from its entry to its end -/
theorem st_all (g : jG) (hb : jaN g < 2 ^ 31) (V : Nat → Nat → Nat) (L : Nat → Nat → Int64) (i : Nat) (hV : jInv V L) (hi : i + 6 ≤ jaN g) (c : Nat) (hc : c < 19) : jGo g jInv V L i (cpc c) := by
  rcases (show c = 0 ∨ c = 1 ∨ c = 2 ∨ c = 3 ∨ c = 4 ∨ c = 5 ∨ c = 6 ∨ c = 7 ∨ c = 8 ∨ c = 9 ∨ c = 10 ∨ c = 11 ∨ c = 12 ∨ c = 13 ∨ c = 14 ∨ c = 15 ∨ c = 16 ∨ c = 17 ∨ c = 18 by omega) with rfl | rfl | rfl | rfl | rfl | rfl | rfl | rfl | rfl | rfl | rfl | rfl | rfl | rfl | rfl | rfl | rfl | rfl | rfl
  · exact st_key g hb hV hi
  · exact st_word g hb hV hi
  · exact st_file g hb hV hi
  · exact st_place g hb hV hi
  · exact st_lose g hb hV hi
  · exact st_change g hb hV hi
  · exact st_challenge g hb hV hi
  · exact st_asked g hb hV hi
  · exact st_tamper g hb hV hi
  · exact st_judge g hb hV hi
  · exact st_locate g hb hV hi
  · exact st_found g hb hV hi
  · exact st_repair g hb hV hi
  · exact st_fetch g hb hV hi
  · exact st_fetched g hb hV hi
  · exact st_made g hb hV hi
  · exact st_kept g hb hV hi
  · exact st_rota g hb hV hi
  · exact st_score g hb hV hi
theorem law_run (g : jG) (hb : jaN g ≤ 3072) (φ : jΦ) (hφ : ∀ V L, φ (some (.int (nI 1))) V L) (mu : Nat → jE) : jJ (g, Y_W_law, (10, 388), 601024, 7293034, jVQ g φ) [(0, .ref (jaS g))] (0, mu, true, 0, 0) 0 [] :=
  law_init g 601024 7293034 φ (by decide) (by decide) mu (law_loop g jInv 601024 7293034 φ (by omega) hφ (fun V L i hV hi c hc => st_all g (by omega) V L i hV hi c hc) 512 0 104 5453 _ _ (by omega) (Nat.zero_le _) (by decide) (by decide) jInv_0)
