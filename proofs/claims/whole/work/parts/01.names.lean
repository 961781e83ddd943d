/-! names, by program out of javap's listing and the tables' words -/
def jT0 : u_T := fun k => match k with
  | 0 => ("AuditDesk", "keyA", "J", false)
  | 1 => ("AuditDesk", "keyB", "J", false)
  | 2 => ("AuditDesk", "buffer", "[I", true)
  | 3 => ("AuditDesk", "deposits", "[LAuditDesk$Deposit;", true)
  | 4 => ("AuditDesk", "fileCount", "I", false)
  | 5 => ("AuditDesk", "keepers", "[LAuditDesk$Keeper;", true)
  | 6 => ("AuditDesk", "latest", "LAuditDesk$Challenge;", true)
  | 7 => ("AuditDesk", "badRows", "[I", true)
  | 8 => ("AuditDesk", "badCount", "I", false)
  | 9 => ("AuditDesk", "fetchedWords", "[I", true)
  | 10 => ("AuditDesk", "fetchedCount", "I", false)
  | 11 => ("AuditDesk", "gathered", "LAuditDesk$Rows;", true)
  | _ => ("AuditDesk", "present", "[Z", true)
def jty0 : Nat → FieldType := fun k => match k with
  | 0 => .long
  | 1 => .long
  | 2 => .array .int
  | 3 => .array (.object "AuditDesk$Deposit")
  | 4 => .int
  | 5 => .array (.object "AuditDesk$Keeper")
  | 6 => .object "AuditDesk$Challenge"
  | 7 => .array .int
  | 8 => .int
  | 9 => .array .int
  | 10 => .int
  | 11 => .object "AuditDesk$Rows"
  | _ => .array .boolean
theorem jnm0 : ∀ a, a < 13 → ∀ b, b < 13 → a ≠ b → (jT0 a).2.1 ≠ (jT0 b).2.1 := by decide +kernel
theorem jtyok0 : ∀ k, k < 13 → parseFieldDescriptor (jT0 k).2.2.1 = some (jty0 k) := by decide +kernel
def jT1 : u_T := fun k => match k with
  | 0 => ("AuditDesk$Challenge", "posed", "Z", false)
  | 1 => ("AuditDesk$Challenge", "file", "I", false)
  | 2 => ("AuditDesk$Challenge", "keeper", "I", false)
  | 3 => ("AuditDesk$Challenge", "count", "I", false)
  | 4 => ("AuditDesk$Challenge", "rows", "[I", true)
  | 5 => ("AuditDesk$Challenge", "coefficients", "[I", true)
  | 6 => ("AuditDesk$Challenge", "answer", "[I", true)
  | _ => ("AuditDesk$Challenge", "drawn", "[Z", true)
def jty1 : Nat → FieldType := fun k => match k with
  | 0 => .boolean
  | 1 => .int
  | 2 => .int
  | 3 => .int
  | 4 => .array .int
  | 5 => .array .int
  | 6 => .array .int
  | _ => .array .boolean
theorem jnm1 : ∀ a, a < 8 → ∀ b, b < 8 → a ≠ b → (jT1 a).2.1 ≠ (jT1 b).2.1 := by decide +kernel
theorem jtyok1 : ∀ k, k < 8 → parseFieldDescriptor (jT1 k).2.2.1 = some (jty1 k) := by decide +kernel
def jT2 : u_T := fun k => match k with
  | 0 => ("AuditDesk$Copy", "had", "Z", false)
  | 1 => ("AuditDesk$Copy", "rows", "LAuditDesk$Rows;", true)
  | _ => ("AuditDesk$Copy", "lost", "[Z", true)
def jty2 : Nat → FieldType := fun k => match k with
  | 0 => .boolean
  | 1 => .object "AuditDesk$Rows"
  | _ => .array .boolean
theorem jnm2 : ∀ a, a < 3 → ∀ b, b < 3 → a ≠ b → (jT2 a).2.1 ≠ (jT2 b).2.1 := by decide +kernel
theorem jtyok2 : ∀ k, k < 3 → parseFieldDescriptor (jT2 k).2.2.1 = some (jty2 k) := by decide +kernel
def jT3 : u_T := fun k => match k with
  | 0 => ("AuditDesk$Deposit", "wordCount", "I", false)
  | 1 => ("AuditDesk$Deposit", "rowCount", "I", false)
  | 2 => ("AuditDesk$Deposit", "alphas", "[I", true)
  | 3 => ("AuditDesk$Deposit", "masks", "[I", true)
  | _ => ("AuditDesk$Deposit", "rows", "LAuditDesk$Rows;", true)
def jty3 : Nat → FieldType := fun k => match k with
  | 0 => .int
  | 1 => .int
  | 2 => .array .int
  | 3 => .array .int
  | _ => .object "AuditDesk$Rows"
theorem jnm3 : ∀ a, a < 5 → ∀ b, b < 5 → a ≠ b → (jT3 a).2.1 ≠ (jT3 b).2.1 := by decide +kernel
theorem jtyok3 : ∀ k, k < 5 → parseFieldDescriptor (jT3 k).2.2.1 = some (jty3 k) := by decide +kernel
def jT4 : u_T := fun k => match k with
  | 0 => ("AuditDesk$Keeper", "copies", "[LAuditDesk$Copy;", true)
  | 1 => ("AuditDesk$Keeper", "heldAnswers", "I", false)
  | 2 => ("AuditDesk$Keeper", "failedAnswers", "I", false)
  | _ => ("AuditDesk$Keeper", "repairedRows", "I", false)
def jty4 : Nat → FieldType := fun k => match k with
  | 0 => .array (.object "AuditDesk$Copy")
  | 1 => .int
  | 2 => .int
  | _ => .int
theorem jnm4 : ∀ a, a < 4 → ∀ b, b < 4 → a ≠ b → (jT4 a).2.1 ≠ (jT4 b).2.1 := by decide +kernel
theorem jtyok4 : ∀ k, k < 4 → parseFieldDescriptor (jT4 k).2.2.1 = some (jty4 k) := by decide +kernel
def jT5 : u_T := fun k => match k with
  | _ => ("AuditDesk$Rows", "numbers", "[I", true)
def jty5 : Nat → FieldType := fun k => match k with
  | _ => .array .int
theorem jnm5 : ∀ a, a < 1 → ∀ b, b < 1 → a ≠ b → (jT5 a).2.1 ≠ (jT5 b).2.1 := by decide +kernel
theorem jtyok5 : ∀ k, k < 1 → parseFieldDescriptor (jT5 k).2.2.1 = some (jty5 k) := by decide +kernel
def jT6 : u_T := fun k => match k with
  | 0 => ("AuditDeskModel", "thrown", "I", false)
  | 1 => ("AuditDeskModel", "keyA", "J", false)
  | 2 => ("AuditDeskModel", "keyB", "J", false)
  | 3 => ("AuditDeskModel", "buffer", "[I", true)
  | 4 => ("AuditDeskModel", "files", "I", false)
  | 5 => ("AuditDeskModel", "words", "[I", true)
  | 6 => ("AuditDeskModel", "made", "[I", true)
  | 7 => ("AuditDeskModel", "has", "[Z", true)
  | 8 => ("AuditDeskModel", "kept", "[I", true)
  | 9 => ("AuditDeskModel", "lost", "[Z", true)
  | 10 => ("AuditDeskModel", "held", "[I", true)
  | 11 => ("AuditDeskModel", "failed", "[I", true)
  | 12 => ("AuditDeskModel", "repaired", "[I", true)
  | 13 => ("AuditDeskModel", "asked", "I", false)
  | 14 => ("AuditDeskModel", "askedFile", "I", false)
  | 15 => ("AuditDeskModel", "askedKeeper", "I", false)
  | 16 => ("AuditDeskModel", "row", "[I", true)
  | 17 => ("AuditDeskModel", "coefficient", "[I", true)
  | 18 => ("AuditDeskModel", "answer", "[I", true)
  | 19 => ("AuditDeskModel", "found", "I", false)
  | 20 => ("AuditDeskModel", "bad", "[I", true)
  | 21 => ("AuditDeskModel", "fetched", "I", false)
  | 22 => ("AuditDeskModel", "fetch", "[I", true)
  | 23 => ("AuditDeskModel", "gathered", "[I", true)
  | 24 => ("AuditDeskModel", "sums", "[J", true)
  | _ => ("AuditDeskModel", "back", "[I", true)
def jty6 : Nat → FieldType := fun k => match k with
  | 0 => .int
  | 1 => .long
  | 2 => .long
  | 3 => .array .int
  | 4 => .int
  | 5 => .array .int
  | 6 => .array .int
  | 7 => .array .boolean
  | 8 => .array .int
  | 9 => .array .boolean
  | 10 => .array .int
  | 11 => .array .int
  | 12 => .array .int
  | 13 => .int
  | 14 => .int
  | 15 => .int
  | 16 => .array .int
  | 17 => .array .int
  | 18 => .array .int
  | 19 => .int
  | 20 => .array .int
  | 21 => .int
  | 22 => .array .int
  | 23 => .array .int
  | 24 => .array .long
  | _ => .array .int
theorem jnm6 : ∀ a, a < 26 → ∀ b, b < 26 → a ≠ b → (jT6 a).2.1 ≠ (jT6 b).2.1 := by decide +kernel
theorem jtyok6 : ∀ k, k < 26 → parseFieldDescriptor (jT6 k).2.2.1 = some (jty6 k) := by decide +kernel
def jcl : List vw_C := [("AuditDesk", jT0, 13), ("AuditDesk$Challenge", jT1, 8), ("AuditDesk$Copy", jT2, 3), ("AuditDesk$Deposit", jT3, 5), ("AuditDesk$Keeper", jT4, 4), ("AuditDesk$Rows", jT5, 1), ("AuditDeskModel", jT6, 26)]
def jcty (ci : Nat) : Nat → FieldType := match ci with
  | 0 => jty0
  | 1 => jty1
  | 2 => jty2
  | 3 => jty3
  | 4 => jty4
  | 5 => jty5
  | _ => jty6
def jfin (ci k : Nat) : Bool := match ci with
  | 0 => (jT0 k).2.2.2
  | 1 => (jT1 k).2.2.2
  | 2 => (jT2 k).2.2.2
  | 3 => (jT3 k).2.2.2
  | 4 => (jT4 k).2.2.2
  | 5 => (jT5 k).2.2.2
  | _ => (jT6 k).2.2.2
def jtyl : List FieldType := [.int, .boolean, .long, .object "AuditDesk$Deposit", .object "AuditDesk$Keeper", .object "AuditDesk$Copy"]
def jgood : Cond → Bool
  | .methodLinkNest .. => true
  | .fieldLinkNest .. => true
  | .castable .. => true
  | .declares .. => true
  | .arrayOver (.object _) => true
  | w => goodWord w
def jTab : List Cond := lw_tbl.filter jgood
theorem jTab_warm {w : Cond} {s U : State} {A : Array Value} (hw : w ∈ jTab) (hW : s.WarmedH U.vm) (h : ∀ A : Array Value, w.before A s = true) : w.before A U = true := by
  have hg := (List.mem_filter.mp hw).2
  unfold jgood at hg
  split at hg
  · exact va_Nw.use rfl (va_Nw.warmM hW (h #[]))
  · exact va_Nw.use rfl (va_Nw.warmF hW (h #[]))
  · exact va_Nw.use rfl (va_Nw.warmC hW (h #[]))
  · exact va_Nw.use rfl (va_Nw.warmD hW (h #[]))
  · exact va_AO.use (va_AO.moved hW.alike (va_AO.of (h #[])))
  · exact word_at hW (good_of_word hg) (h #[])
theorem jTab_in {w : Cond} (i : Nat) (h : tables_1[i]? = some w) (hg : jgood w = true) : w ∈ jTab := List.mem_filter.mpr ⟨List.mem_append_right _ (List.mem_of_getElem? h), hg⟩
theorem jTab_sel {y : MethodName} (i n : Nat) (h : lw_privs[i]? = some (y, n)) (hg : jgood (Cond.selects y.cls y y) = true) : Cond.selects y.cls y y ∈ jTab :=
  List.mem_filter.mpr ⟨List.mem_append_left _ (List.mem_map.mpr ⟨(y, n), List.mem_of_getElem? h, rfl⟩), hg⟩
theorem jin0 : ∀ w ∈ u_ws "AuditDesk" jT0 13, w ∈ jTab := by
  intro w hw
  obtain ⟨k, hk, rfl⟩ := List.mem_map.mp hw
  have hk := List.mem_range.mp hk
  match k, hk with
  | 0, _ => exact jTab_in 163 (by decide +kernel) (by decide +kernel)
  | 1, _ => exact jTab_in 165 (by decide +kernel) (by decide +kernel)
  | 2, _ => exact jTab_in 167 (by decide +kernel) (by decide +kernel)
  | 3, _ => exact jTab_in 169 (by decide +kernel) (by decide +kernel)
  | 4, _ => exact jTab_in 171 (by decide +kernel) (by decide +kernel)
  | 5, _ => exact jTab_in 173 (by decide +kernel) (by decide +kernel)
  | 6, _ => exact jTab_in 175 (by decide +kernel) (by decide +kernel)
  | 7, _ => exact jTab_in 177 (by decide +kernel) (by decide +kernel)
  | 8, _ => exact jTab_in 179 (by decide +kernel) (by decide +kernel)
  | 9, _ => exact jTab_in 181 (by decide +kernel) (by decide +kernel)
  | 10, _ => exact jTab_in 183 (by decide +kernel) (by decide +kernel)
  | 11, _ => exact jTab_in 185 (by decide +kernel) (by decide +kernel)
  | 12, _ => exact jTab_in 187 (by decide +kernel) (by decide +kernel)
theorem jin1 : ∀ w ∈ u_ws "AuditDesk$Challenge" jT1 8, w ∈ jTab := by
  intro w hw
  obtain ⟨k, hk, rfl⟩ := List.mem_map.mp hw
  have hk := List.mem_range.mp hk
  match k, hk with
  | 0, _ => exact jTab_in 131 (by decide +kernel) (by decide +kernel)
  | 1, _ => exact jTab_in 133 (by decide +kernel) (by decide +kernel)
  | 2, _ => exact jTab_in 135 (by decide +kernel) (by decide +kernel)
  | 3, _ => exact jTab_in 137 (by decide +kernel) (by decide +kernel)
  | 4, _ => exact jTab_in 139 (by decide +kernel) (by decide +kernel)
  | 5, _ => exact jTab_in 141 (by decide +kernel) (by decide +kernel)
  | 6, _ => exact jTab_in 143 (by decide +kernel) (by decide +kernel)
  | 7, _ => exact jTab_in 145 (by decide +kernel) (by decide +kernel)
theorem jin2 : ∀ w ∈ u_ws "AuditDesk$Copy" jT2 3, w ∈ jTab := by
  intro w hw
  obtain ⟨k, hk, rfl⟩ := List.mem_map.mp hw
  have hk := List.mem_range.mp hk
  match k, hk with
  | 0, _ => exact jTab_in 85 (by decide +kernel) (by decide +kernel)
  | 1, _ => exact jTab_in 87 (by decide +kernel) (by decide +kernel)
  | 2, _ => exact jTab_in 89 (by decide +kernel) (by decide +kernel)
theorem jin3 : ∀ w ∈ u_ws "AuditDesk$Deposit" jT3 5, w ∈ jTab := by
  intro w hw
  obtain ⟨k, hk, rfl⟩ := List.mem_map.mp hw
  have hk := List.mem_range.mp hk
  match k, hk with
  | 0, _ => exact jTab_in 52 (by decide +kernel) (by decide +kernel)
  | 1, _ => exact jTab_in 54 (by decide +kernel) (by decide +kernel)
  | 2, _ => exact jTab_in 56 (by decide +kernel) (by decide +kernel)
  | 3, _ => exact jTab_in 58 (by decide +kernel) (by decide +kernel)
  | 4, _ => exact jTab_in 60 (by decide +kernel) (by decide +kernel)
theorem jin4 : ∀ w ∈ u_ws "AuditDesk$Keeper" jT4 4, w ∈ jTab := by
  intro w hw
  obtain ⟨k, hk, rfl⟩ := List.mem_map.mp hw
  have hk := List.mem_range.mp hk
  match k, hk with
  | 0, _ => exact jTab_in 101 (by decide +kernel) (by decide +kernel)
  | 1, _ => exact jTab_in 103 (by decide +kernel) (by decide +kernel)
  | 2, _ => exact jTab_in 105 (by decide +kernel) (by decide +kernel)
  | 3, _ => exact jTab_in 107 (by decide +kernel) (by decide +kernel)
theorem jin5 : ∀ w ∈ u_ws "AuditDesk$Rows" jT5 1, w ∈ jTab := by
  intro w hw
  obtain ⟨k, hk, rfl⟩ := List.mem_map.mp hw
  have hk := List.mem_range.mp hk
  match k, hk with
  | 0, _ => exact jTab_in 38 (by decide +kernel) (by decide +kernel)
theorem jin6 : ∀ w ∈ u_ws "AuditDeskModel" jT6 26, w ∈ jTab := by
  intro w hw
  obtain ⟨k, hk, rfl⟩ := List.mem_map.mp hw
  have hk := List.mem_range.mp hk
  match k, hk with
  | 0, _ => exact jTab_in 629 (by decide +kernel) (by decide +kernel)
  | 1, _ => exact jTab_in 631 (by decide +kernel) (by decide +kernel)
  | 2, _ => exact jTab_in 633 (by decide +kernel) (by decide +kernel)
  | 3, _ => exact jTab_in 635 (by decide +kernel) (by decide +kernel)
  | 4, _ => exact jTab_in 637 (by decide +kernel) (by decide +kernel)
  | 5, _ => exact jTab_in 639 (by decide +kernel) (by decide +kernel)
  | 6, _ => exact jTab_in 641 (by decide +kernel) (by decide +kernel)
  | 7, _ => exact jTab_in 643 (by decide +kernel) (by decide +kernel)
  | 8, _ => exact jTab_in 645 (by decide +kernel) (by decide +kernel)
  | 9, _ => exact jTab_in 647 (by decide +kernel) (by decide +kernel)
  | 10, _ => exact jTab_in 649 (by decide +kernel) (by decide +kernel)
  | 11, _ => exact jTab_in 651 (by decide +kernel) (by decide +kernel)
  | 12, _ => exact jTab_in 653 (by decide +kernel) (by decide +kernel)
  | 13, _ => exact jTab_in 655 (by decide +kernel) (by decide +kernel)
  | 14, _ => exact jTab_in 657 (by decide +kernel) (by decide +kernel)
  | 15, _ => exact jTab_in 659 (by decide +kernel) (by decide +kernel)
  | 16, _ => exact jTab_in 661 (by decide +kernel) (by decide +kernel)
  | 17, _ => exact jTab_in 663 (by decide +kernel) (by decide +kernel)
  | 18, _ => exact jTab_in 665 (by decide +kernel) (by decide +kernel)
  | 19, _ => exact jTab_in 667 (by decide +kernel) (by decide +kernel)
  | 20, _ => exact jTab_in 669 (by decide +kernel) (by decide +kernel)
  | 21, _ => exact jTab_in 671 (by decide +kernel) (by decide +kernel)
  | 22, _ => exact jTab_in 673 (by decide +kernel) (by decide +kernel)
  | 23, _ => exact jTab_in 675 (by decide +kernel) (by decide +kernel)
  | 24, _ => exact jTab_in 677 (by decide +kernel) (by decide +kernel)
  | 25, _ => exact jTab_in 679 (by decide +kernel) (by decide +kernel)
  | k + 26, h => exact absurd h (by omega)
theorem jcl_in {ci : Nat} {C : String} {T : u_T} {N : Nat} (h : jcl[ci]? = some (C, T, N)) : ∀ w ∈ u_ws C T N, w ∈ jTab := by
  have hl : ci < 7 := (List.getElem?_eq_some_iff.mp h).1
  match ci, hl, h with
  | 0, _, h => cases h; exact jin0
  | 1, _, h => cases h; exact jin1
  | 2, _, h => cases h; exact jin2
  | 3, _, h => cases h; exact jin3
  | 4, _, h => cases h; exact jin4
  | 5, _, h => cases h; exact jin5
  | 6, _, h => cases h; exact jin6
theorem jcl_ty {ci : Nat} {C : String} {T : u_T} {N : Nat} (h : jcl[ci]? = some (C, T, N)) : ∀ k, k < N → parseFieldDescriptor (T k).2.2.1 = some (jcty ci k) := by
  have hl : ci < 7 := (List.getElem?_eq_some_iff.mp h).1
  match ci, hl, h with
  | 0, _, h => cases h; exact jtyok0
  | 1, _, h => cases h; exact jtyok1
  | 2, _, h => cases h; exact jtyok2
  | 3, _, h => cases h; exact jtyok3
  | 4, _, h => cases h; exact jtyok4
  | 5, _, h => cases h; exact jtyok5
  | 6, _, h => cases h; exact jtyok6
theorem jcl_nm {ci : Nat} {C : String} {T : u_T} {N : Nat} (h : jcl[ci]? = some (C, T, N)) : ∀ a, a < N → ∀ b, b < N → a ≠ b → (T a).2.1 ≠ (T b).2.1 := by
  have hl : ci < 7 := (List.getElem?_eq_some_iff.mp h).1
  match ci, hl, h with
  | 0, _, h => cases h; exact jnm0
  | 1, _, h => cases h; exact jnm1
  | 2, _, h => cases h; exact jnm2
  | 3, _, h => cases h; exact jnm3
  | 4, _, h => cases h; exact jnm4
  | 5, _, h => cases h; exact jnm5
  | 6, _, h => cases h; exact jnm6
theorem jcl_fin {ci k : Nat} {C : String} {T : u_T} {N : Nat} (h : jcl[ci]? = some (C, T, N)) (hk : k < N) : (T k).2.2.2 = jfin ci k := by
  have hl : ci < 7 := (List.getElem?_eq_some_iff.mp h).1
  match ci, hl, h with
  | 0, _, h => cases h; rfl
  | 1, _, h => cases h; rfl
  | 2, _, h => cases h; rfl
  | 3, _, h => cases h; rfl
  | 4, _, h => cases h; rfl
  | 5, _, h => cases h; rfl
  | 6, _, h => cases h; rfl
