section
-- ===== PART A: goes FIRST, ahead of the names: the tables' words, and 'selects' of the private methods out of them =====
/-- a private method of a class that the tables say can be made, by its rows of tables_1 -/
def lw_okq (q : MethodName × Nat) : Prop := (q.1.cls ≠ "java/lang/invoke/MethodHandle" ∧ q.1.cls ≠ "java/lang/invoke/VarHandle") ∧ Cond.instantiable q.1.cls q.2 ∈ tables_1 ∧ Cond.privateMethod q.1 ∈ tables_1 ∧ Cond.instanceMethod q.1 ∈ tables_1
theorem lw_p0 : lw_okq (⟨"AuditDesk", "countCopies", "()I"⟩, 13) := ⟨⟨by decide +kernel, by decide +kernel⟩, List.mem_of_getElem? (i := 17) (by decide +kernel), List.mem_of_getElem? (i := 226) (by decide +kernel), List.mem_of_getElem? (i := 227) (by decide +kernel)⟩
theorem lw_p1 : lw_okq (⟨"AuditDesk", "isFile", "(I)Z"⟩, 13) := ⟨⟨by decide +kernel, by decide +kernel⟩, List.mem_of_getElem? (i := 17) (by decide +kernel), List.mem_of_getElem? (i := 241) (by decide +kernel), List.mem_of_getElem? (i := 242) (by decide +kernel)⟩
theorem lw_p2 : lw_okq (⟨"java/lang/Throwable", "fillInStackTrace", "(I)Ljava/lang/Throwable;"⟩, 6) := ⟨⟨by decide +kernel, by decide +kernel⟩, List.mem_of_getElem? (i := 291) (by decide +kernel), List.mem_of_getElem? (i := 289) (by decide +kernel), List.mem_of_getElem? (i := 290) (by decide +kernel)⟩
theorem lw_p3 : lw_okq (⟨"AuditDesk$Rows", "codedWord", "(III)I"⟩, 1) := ⟨⟨by decide +kernel, by decide +kernel⟩, List.mem_of_getElem? (i := 32) (by decide +kernel), List.mem_of_getElem? (i := 375) (by decide +kernel), List.mem_of_getElem? (i := 376) (by decide +kernel)⟩
theorem lw_p4 : lw_okq (⟨"AuditDesk", "keepsRow", "(III)Z"⟩, 13) := ⟨⟨by decide +kernel, by decide +kernel⟩, List.mem_of_getElem? (i := 17) (by decide +kernel), List.mem_of_getElem? (i := 443) (by decide +kernel), List.mem_of_getElem? (i := 444) (by decide +kernel)⟩
theorem lw_p5 : lw_okq (⟨"AuditDesk", "keeps", "(II)Z"⟩, 13) := ⟨⟨by decide +kernel, by decide +kernel⟩, List.mem_of_getElem? (i := 17) (by decide +kernel), List.mem_of_getElem? (i := 447) (by decide +kernel), List.mem_of_getElem? (i := 448) (by decide +kernel)⟩
theorem lw_p6 : lw_okq (⟨"AuditDesk$Challenge", "nextUndrawn", "(II)I"⟩, 8) := ⟨⟨by decide +kernel, by decide +kernel⟩, List.mem_of_getElem? (i := 111) (by decide +kernel), List.mem_of_getElem? (i := 491) (by decide +kernel), List.mem_of_getElem? (i := 492) (by decide +kernel)⟩
theorem lw_p7 : lw_okq (⟨"AuditDesk", "isGood", "(III)Z"⟩, 13) := ⟨⟨by decide +kernel, by decide +kernel⟩, List.mem_of_getElem? (i := 17) (by decide +kernel), List.mem_of_getElem? (i := 523) (by decide +kernel), List.mem_of_getElem? (i := 524) (by decide +kernel)⟩
theorem lw_p8 : lw_okq (⟨"AuditDesk", "gather", "(I)Z"⟩, 13) := ⟨⟨by decide +kernel, by decide +kernel⟩, List.mem_of_getElem? (i := 17) (by decide +kernel), List.mem_of_getElem? (i := 535) (by decide +kernel), List.mem_of_getElem? (i := 536) (by decide +kernel)⟩
theorem lw_p9 : lw_okq (⟨"AuditDesk", "gatherGroup", "(II)Z"⟩, 13) := ⟨⟨by decide +kernel, by decide +kernel⟩, List.mem_of_getElem? (i := 17) (by decide +kernel), List.mem_of_getElem? (i := 539) (by decide +kernel), List.mem_of_getElem? (i := 540) (by decide +kernel)⟩
theorem lw_p10 : lw_okq (⟨"AuditDesk", "leastGoodKeeper", "(II)I"⟩, 13) := ⟨⟨by decide +kernel, by decide +kernel⟩, List.mem_of_getElem? (i := 17) (by decide +kernel), List.mem_of_getElem? (i := 543) (by decide +kernel), List.mem_of_getElem? (i := 544) (by decide +kernel)⟩
theorem lw_p11 : lw_okq (⟨"AuditDesk$Rows", "recoverOne", "(III)V"⟩, 1) := ⟨⟨by decide +kernel, by decide +kernel⟩, List.mem_of_getElem? (i := 32) (by decide +kernel), List.mem_of_getElem? (i := 556) (by decide +kernel), List.mem_of_getElem? (i := 557) (by decide +kernel)⟩
theorem lw_p12 : lw_okq (⟨"AuditDesk$Rows", "rest", "(III)I"⟩, 1) := ⟨⟨by decide +kernel, by decide +kernel⟩, List.mem_of_getElem? (i := 32) (by decide +kernel), List.mem_of_getElem? (i := 560) (by decide +kernel), List.mem_of_getElem? (i := 561) (by decide +kernel)⟩
theorem lw_p13 : lw_okq (⟨"AuditDesk$Rows", "recoverTwo", "(III)V"⟩, 1) := ⟨⟨by decide +kernel, by decide +kernel⟩, List.mem_of_getElem? (i := 32) (by decide +kernel), List.mem_of_getElem? (i := 567) (by decide +kernel), List.mem_of_getElem? (i := 568) (by decide +kernel)⟩
theorem lw_p14 : lw_okq (⟨"AuditDeskModel", "encode", "(I[I)V"⟩, 26) := ⟨⟨by decide +kernel, by decide +kernel⟩, List.mem_of_getElem? (i := 598) (by decide +kernel), List.mem_of_getElem? (i := 704) (by decide +kernel), List.mem_of_getElem? (i := 705) (by decide +kernel)⟩
theorem lw_p15 : lw_okq (⟨"AuditDeskModel", "rowsOf", "(I)I"⟩, 26) := ⟨⟨by decide +kernel, by decide +kernel⟩, List.mem_of_getElem? (i := 598) (by decide +kernel), List.mem_of_getElem? (i := 708) (by decide +kernel), List.mem_of_getElem? (i := 709) (by decide +kernel)⟩
def lw_privs_1 : List (MethodName × Nat) := [(⟨"AuditDesk", "countCopies", "()I"⟩, 13), (⟨"AuditDesk", "isFile", "(I)Z"⟩, 13), (⟨"java/lang/Throwable", "fillInStackTrace", "(I)Ljava/lang/Throwable;"⟩, 6), (⟨"AuditDesk$Rows", "codedWord", "(III)I"⟩, 1), (⟨"AuditDesk", "keepsRow", "(III)Z"⟩, 13), (⟨"AuditDesk", "keeps", "(II)Z"⟩, 13), (⟨"AuditDesk$Challenge", "nextUndrawn", "(II)I"⟩, 8), (⟨"AuditDesk", "isGood", "(III)Z"⟩, 13), (⟨"AuditDesk", "gather", "(I)Z"⟩, 13), (⟨"AuditDesk", "gatherGroup", "(II)Z"⟩, 13), (⟨"AuditDesk", "leastGoodKeeper", "(II)I"⟩, 13), (⟨"AuditDesk$Rows", "recoverOne", "(III)V"⟩, 1), (⟨"AuditDesk$Rows", "rest", "(III)I"⟩, 1), (⟨"AuditDesk$Rows", "recoverTwo", "(III)V"⟩, 1), (⟨"AuditDeskModel", "encode", "(I[I)V"⟩, 26), (⟨"AuditDeskModel", "rowsOf", "(I)I"⟩, 26)]
theorem lw_r1 : ∀ q ∈ lw_privs_1, lw_okq q := List.forall_mem_cons.mpr ⟨lw_p0, List.forall_mem_cons.mpr ⟨lw_p1, List.forall_mem_cons.mpr ⟨lw_p2, List.forall_mem_cons.mpr ⟨lw_p3, List.forall_mem_cons.mpr ⟨lw_p4, List.forall_mem_cons.mpr ⟨lw_p5, List.forall_mem_cons.mpr ⟨lw_p6, List.forall_mem_cons.mpr ⟨lw_p7, List.forall_mem_cons.mpr ⟨lw_p8, List.forall_mem_cons.mpr ⟨lw_p9, List.forall_mem_cons.mpr ⟨lw_p10, List.forall_mem_cons.mpr ⟨lw_p11, List.forall_mem_cons.mpr ⟨lw_p12, List.forall_mem_cons.mpr ⟨lw_p13, List.forall_mem_cons.mpr ⟨lw_p14, List.forall_mem_cons.mpr ⟨lw_p15, fun _ h => absurd h List.not_mem_nil⟩⟩⟩⟩⟩⟩⟩⟩⟩⟩⟩⟩⟩⟩⟩⟩
theorem lw_p16 : lw_okq (⟨"AuditDeskModel", "tag", "(II[II)J"⟩, 26) := ⟨⟨by decide +kernel, by decide +kernel⟩, List.mem_of_getElem? (i := 598) (by decide +kernel), List.mem_of_getElem? (i := 719) (by decide +kernel), List.mem_of_getElem? (i := 720) (by decide +kernel)⟩
theorem lw_p17 : lw_okq (⟨"AuditDeskModel", "secret", "(I)J"⟩, 26) := ⟨⟨by decide +kernel, by decide +kernel⟩, List.mem_of_getElem? (i := 598) (by decide +kernel), List.mem_of_getElem? (i := 723) (by decide +kernel), List.mem_of_getElem? (i := 724) (by decide +kernel)⟩
theorem lw_p18 : lw_okq (⟨"AuditDeskModel", "isFile", "(I)Z"⟩, 26) := ⟨⟨by decide +kernel, by decide +kernel⟩, List.mem_of_getElem? (i := 598) (by decide +kernel), List.mem_of_getElem? (i := 734) (by decide +kernel), List.mem_of_getElem? (i := 735) (by decide +kernel)⟩
theorem lw_p19 : lw_okq (⟨"AuditDeskModel", "put", "(III)V"⟩, 26) := ⟨⟨by decide +kernel, by decide +kernel⟩, List.mem_of_getElem? (i := 598) (by decide +kernel), List.mem_of_getElem? (i := 741) (by decide +kernel), List.mem_of_getElem? (i := 742) (by decide +kernel)⟩
theorem lw_p20 : lw_okq (⟨"AuditDeskModel", "isRow", "(III)Z"⟩, 26) := ⟨⟨by decide +kernel, by decide +kernel⟩, List.mem_of_getElem? (i := 598) (by decide +kernel), List.mem_of_getElem? (i := 755) (by decide +kernel), List.mem_of_getElem? (i := 756) (by decide +kernel)⟩
theorem lw_p21 : lw_okq (⟨"AuditDeskModel", "holds", "(II)Z"⟩, 26) := ⟨⟨by decide +kernel, by decide +kernel⟩, List.mem_of_getElem? (i := 598) (by decide +kernel), List.mem_of_getElem? (i := 759) (by decide +kernel), List.mem_of_getElem? (i := 760) (by decide +kernel)⟩
theorem lw_p22 : lw_okq (⟨"AuditDeskModel", "isAsked", "(II)Z"⟩, 26) := ⟨⟨by decide +kernel, by decide +kernel⟩, List.mem_of_getElem? (i := 598) (by decide +kernel), List.mem_of_getElem? (i := 772) (by decide +kernel), List.mem_of_getElem? (i := 773) (by decide +kernel)⟩
theorem lw_p23 : lw_okq (⟨"AuditDeskModel", "isGood", "(III)Z"⟩, 26) := ⟨⟨by decide +kernel, by decide +kernel⟩, List.mem_of_getElem? (i := 598) (by decide +kernel), List.mem_of_getElem? (i := 793) (by decide +kernel), List.mem_of_getElem? (i := 794) (by decide +kernel)⟩
theorem lw_p24 : lw_okq (⟨"AuditDeskModel", "gather", "(I)Z"⟩, 26) := ⟨⟨by decide +kernel, by decide +kernel⟩, List.mem_of_getElem? (i := 598) (by decide +kernel), List.mem_of_getElem? (i := 805) (by decide +kernel), List.mem_of_getElem? (i := 806) (by decide +kernel)⟩
theorem lw_p25 : lw_okq (⟨"AuditDeskModel", "keeperOf", "(II)I"⟩, 26) := ⟨⟨by decide +kernel, by decide +kernel⟩, List.mem_of_getElem? (i := 598) (by decide +kernel), List.mem_of_getElem? (i := 809) (by decide +kernel), List.mem_of_getElem? (i := 810) (by decide +kernel)⟩
theorem lw_p26 : lw_okq (⟨"AuditDeskModel", "sum", "(IIII)V"⟩, 26) := ⟨⟨by decide +kernel, by decide +kernel⟩, List.mem_of_getElem? (i := 598) (by decide +kernel), List.mem_of_getElem? (i := 813) (by decide +kernel), List.mem_of_getElem? (i := 814) (by decide +kernel)⟩
theorem lw_p27 : lw_okq (⟨"AuditDeskModel", "solve", "()V"⟩, 26) := ⟨⟨by decide +kernel, by decide +kernel⟩, List.mem_of_getElem? (i := 598) (by decide +kernel), List.mem_of_getElem? (i := 817) (by decide +kernel), List.mem_of_getElem? (i := 818) (by decide +kernel)⟩
theorem lw_p28 : lw_okq (⟨"AuditDeskModel", "differs", "(IIII)Z"⟩, 26) := ⟨⟨by decide +kernel, by decide +kernel⟩, List.mem_of_getElem? (i := 598) (by decide +kernel), List.mem_of_getElem? (i := 821) (by decide +kernel), List.mem_of_getElem? (i := 822) (by decide +kernel)⟩
def lw_privs_2 : List (MethodName × Nat) := [(⟨"AuditDeskModel", "tag", "(II[II)J"⟩, 26), (⟨"AuditDeskModel", "secret", "(I)J"⟩, 26), (⟨"AuditDeskModel", "isFile", "(I)Z"⟩, 26), (⟨"AuditDeskModel", "put", "(III)V"⟩, 26), (⟨"AuditDeskModel", "isRow", "(III)Z"⟩, 26), (⟨"AuditDeskModel", "holds", "(II)Z"⟩, 26), (⟨"AuditDeskModel", "isAsked", "(II)Z"⟩, 26), (⟨"AuditDeskModel", "isGood", "(III)Z"⟩, 26), (⟨"AuditDeskModel", "gather", "(I)Z"⟩, 26), (⟨"AuditDeskModel", "keeperOf", "(II)I"⟩, 26), (⟨"AuditDeskModel", "sum", "(IIII)V"⟩, 26), (⟨"AuditDeskModel", "solve", "()V"⟩, 26), (⟨"AuditDeskModel", "differs", "(IIII)Z"⟩, 26)]
theorem lw_r2 : ∀ q ∈ lw_privs_2, lw_okq q := List.forall_mem_cons.mpr ⟨lw_p16, List.forall_mem_cons.mpr ⟨lw_p17, List.forall_mem_cons.mpr ⟨lw_p18, List.forall_mem_cons.mpr ⟨lw_p19, List.forall_mem_cons.mpr ⟨lw_p20, List.forall_mem_cons.mpr ⟨lw_p21, List.forall_mem_cons.mpr ⟨lw_p22, List.forall_mem_cons.mpr ⟨lw_p23, List.forall_mem_cons.mpr ⟨lw_p24, List.forall_mem_cons.mpr ⟨lw_p25, List.forall_mem_cons.mpr ⟨lw_p26, List.forall_mem_cons.mpr ⟨lw_p27, List.forall_mem_cons.mpr ⟨lw_p28, fun _ h => absurd h List.not_mem_nil⟩⟩⟩⟩⟩⟩⟩⟩⟩⟩⟩⟩⟩
def lw_privs : List (MethodName × Nat) := lw_privs_1 ++ (lw_privs_2)
def lw_tbl : List Cond := k2_sels lw_privs ++ tables_1
theorem lw_privs_ok : ∀ q ∈ lw_privs, lw_okq q := by
  show ∀ q ∈ lw_privs_1 ++ (lw_privs_2), lw_okq q
  exact List.forall_mem_append.mpr ⟨lw_r1, lw_r2⟩
end
section
/-! names, by program out of javap's listing and the tables' words -/
def jT0 : u_T := fun k => match k with
  | 0 => ("AuditDesk", "keyA", "J", false)
  | 1 => ("AuditDesk", "keyB", "J", false)
  | 2 => ("AuditDesk", "buffer", "[I", true)
  | 3 => ("AuditDesk", "deposits", "[LAuditDesk$Deposit;", true)
  | 4 => ("AuditDesk", "fileCount", "I", false)
  | 5 => ("AuditDesk", "keepers", "[LAuditDesk$Keeper;", true)
  | 6 => ("AuditDesk", "latest", "LAuditDesk$Challenge;", true)
  | 7 => ("AuditDesk", "badRows", "[I", true)
  | 8 => ("AuditDesk", "badCount", "I", false)
  | 9 => ("AuditDesk", "fetchedWords", "[I", true)
  | 10 => ("AuditDesk", "fetchedCount", "I", false)
  | 11 => ("AuditDesk", "gathered", "LAuditDesk$Rows;", true)
  | _ => ("AuditDesk", "present", "[Z", true)
def jty0 : Nat → FieldType := fun k => match k with
  | 0 => .long
  | 1 => .long
  | 2 => .array .int
  | 3 => .array (.object "AuditDesk$Deposit")
  | 4 => .int
  | 5 => .array (.object "AuditDesk$Keeper")
  | 6 => .object "AuditDesk$Challenge"
  | 7 => .array .int
  | 8 => .int
  | 9 => .array .int
  | 10 => .int
  | 11 => .object "AuditDesk$Rows"
  | _ => .array .boolean
theorem jnm0 : ∀ a, a < 13 → ∀ b, b < 13 → a ≠ b → (jT0 a).2.1 ≠ (jT0 b).2.1 := by decide +kernel
theorem jtyok0 : ∀ k, k < 13 → parseFieldDescriptor (jT0 k).2.2.1 = some (jty0 k) := by decide +kernel
def jT1 : u_T := fun k => match k with
  | 0 => ("AuditDesk$Challenge", "posed", "Z", false)
  | 1 => ("AuditDesk$Challenge", "file", "I", false)
  | 2 => ("AuditDesk$Challenge", "keeper", "I", false)
  | 3 => ("AuditDesk$Challenge", "count", "I", false)
  | 4 => ("AuditDesk$Challenge", "rows", "[I", true)
  | 5 => ("AuditDesk$Challenge", "coefficients", "[I", true)
  | 6 => ("AuditDesk$Challenge", "answer", "[I", true)
  | _ => ("AuditDesk$Challenge", "drawn", "[Z", true)
def jty1 : Nat → FieldType := fun k => match k with
  | 0 => .boolean
  | 1 => .int
  | 2 => .int
  | 3 => .int
  | 4 => .array .int
  | 5 => .array .int
  | 6 => .array .int
  | _ => .array .boolean
theorem jnm1 : ∀ a, a < 8 → ∀ b, b < 8 → a ≠ b → (jT1 a).2.1 ≠ (jT1 b).2.1 := by decide +kernel
theorem jtyok1 : ∀ k, k < 8 → parseFieldDescriptor (jT1 k).2.2.1 = some (jty1 k) := by decide +kernel
def jT2 : u_T := fun k => match k with
  | 0 => ("AuditDesk$Copy", "had", "Z", false)
  | 1 => ("AuditDesk$Copy", "rows", "LAuditDesk$Rows;", true)
  | _ => ("AuditDesk$Copy", "lost", "[Z", true)
def jty2 : Nat → FieldType := fun k => match k with
  | 0 => .boolean
  | 1 => .object "AuditDesk$Rows"
  | _ => .array .boolean
theorem jnm2 : ∀ a, a < 3 → ∀ b, b < 3 → a ≠ b → (jT2 a).2.1 ≠ (jT2 b).2.1 := by decide +kernel
theorem jtyok2 : ∀ k, k < 3 → parseFieldDescriptor (jT2 k).2.2.1 = some (jty2 k) := by decide +kernel
def jT3 : u_T := fun k => match k with
  | 0 => ("AuditDesk$Deposit", "wordCount", "I", false)
  | 1 => ("AuditDesk$Deposit", "rowCount", "I", false)
  | 2 => ("AuditDesk$Deposit", "alphas", "[I", true)
  | 3 => ("AuditDesk$Deposit", "masks", "[I", true)
  | _ => ("AuditDesk$Deposit", "rows", "LAuditDesk$Rows;", true)
def jty3 : Nat → FieldType := fun k => match k with
  | 0 => .int
  | 1 => .int
  | 2 => .array .int
  | 3 => .array .int
  | _ => .object "AuditDesk$Rows"
theorem jnm3 : ∀ a, a < 5 → ∀ b, b < 5 → a ≠ b → (jT3 a).2.1 ≠ (jT3 b).2.1 := by decide +kernel
theorem jtyok3 : ∀ k, k < 5 → parseFieldDescriptor (jT3 k).2.2.1 = some (jty3 k) := by decide +kernel
def jT4 : u_T := fun k => match k with
  | 0 => ("AuditDesk$Keeper", "copies", "[LAuditDesk$Copy;", true)
  | 1 => ("AuditDesk$Keeper", "heldAnswers", "I", false)
  | 2 => ("AuditDesk$Keeper", "failedAnswers", "I", false)
  | _ => ("AuditDesk$Keeper", "repairedRows", "I", false)
def jty4 : Nat → FieldType := fun k => match k with
  | 0 => .array (.object "AuditDesk$Copy")
  | 1 => .int
  | 2 => .int
  | _ => .int
theorem jnm4 : ∀ a, a < 4 → ∀ b, b < 4 → a ≠ b → (jT4 a).2.1 ≠ (jT4 b).2.1 := by decide +kernel
theorem jtyok4 : ∀ k, k < 4 → parseFieldDescriptor (jT4 k).2.2.1 = some (jty4 k) := by decide +kernel
def jT5 : u_T := fun k => match k with
  | _ => ("AuditDesk$Rows", "numbers", "[I", true)
def jty5 : Nat → FieldType := fun k => match k with
  | _ => .array .int
theorem jnm5 : ∀ a, a < 1 → ∀ b, b < 1 → a ≠ b → (jT5 a).2.1 ≠ (jT5 b).2.1 := by decide +kernel
theorem jtyok5 : ∀ k, k < 1 → parseFieldDescriptor (jT5 k).2.2.1 = some (jty5 k) := by decide +kernel
def jT6 : u_T := fun k => match k with
  | 0 => ("AuditDeskModel", "thrown", "I", false)
  | 1 => ("AuditDeskModel", "keyA", "J", false)
  | 2 => ("AuditDeskModel", "keyB", "J", false)
  | 3 => ("AuditDeskModel", "buffer", "[I", true)
  | 4 => ("AuditDeskModel", "files", "I", false)
  | 5 => ("AuditDeskModel", "words", "[I", true)
  | 6 => ("AuditDeskModel", "made", "[I", true)
  | 7 => ("AuditDeskModel", "has", "[Z", true)
  | 8 => ("AuditDeskModel", "kept", "[I", true)
  | 9 => ("AuditDeskModel", "lost", "[Z", true)
  | 10 => ("AuditDeskModel", "held", "[I", true)
  | 11 => ("AuditDeskModel", "failed", "[I", true)
  | 12 => ("AuditDeskModel", "repaired", "[I", true)
  | 13 => ("AuditDeskModel", "asked", "I", false)
  | 14 => ("AuditDeskModel", "askedFile", "I", false)
  | 15 => ("AuditDeskModel", "askedKeeper", "I", false)
  | 16 => ("AuditDeskModel", "row", "[I", true)
  | 17 => ("AuditDeskModel", "coefficient", "[I", true)
  | 18 => ("AuditDeskModel", "answer", "[I", true)
  | 19 => ("AuditDeskModel", "found", "I", false)
  | 20 => ("AuditDeskModel", "bad", "[I", true)
  | 21 => ("AuditDeskModel", "fetched", "I", false)
  | 22 => ("AuditDeskModel", "fetch", "[I", true)
  | 23 => ("AuditDeskModel", "gathered", "[I", true)
  | 24 => ("AuditDeskModel", "sums", "[J", true)
  | _ => ("AuditDeskModel", "back", "[I", true)
def jty6 : Nat → FieldType := fun k => match k with
  | 0 => .int
  | 1 => .long
  | 2 => .long
  | 3 => .array .int
  | 4 => .int
  | 5 => .array .int
  | 6 => .array .int
  | 7 => .array .boolean
  | 8 => .array .int
  | 9 => .array .boolean
  | 10 => .array .int
  | 11 => .array .int
  | 12 => .array .int
  | 13 => .int
  | 14 => .int
  | 15 => .int
  | 16 => .array .int
  | 17 => .array .int
  | 18 => .array .int
  | 19 => .int
  | 20 => .array .int
  | 21 => .int
  | 22 => .array .int
  | 23 => .array .int
  | 24 => .array .long
  | _ => .array .int
theorem jnm6 : ∀ a, a < 26 → ∀ b, b < 26 → a ≠ b → (jT6 a).2.1 ≠ (jT6 b).2.1 := by decide +kernel
theorem jtyok6 : ∀ k, k < 26 → parseFieldDescriptor (jT6 k).2.2.1 = some (jty6 k) := by decide +kernel
def jcl : List vw_C := [("AuditDesk", jT0, 13), ("AuditDesk$Challenge", jT1, 8), ("AuditDesk$Copy", jT2, 3), ("AuditDesk$Deposit", jT3, 5), ("AuditDesk$Keeper", jT4, 4), ("AuditDesk$Rows", jT5, 1), ("AuditDeskModel", jT6, 26)]
def jcty (ci : Nat) : Nat → FieldType := match ci with
  | 0 => jty0
  | 1 => jty1
  | 2 => jty2
  | 3 => jty3
  | 4 => jty4
  | 5 => jty5
  | _ => jty6
def jfin (ci k : Nat) : Bool := match ci with
  | 0 => (jT0 k).2.2.2
  | 1 => (jT1 k).2.2.2
  | 2 => (jT2 k).2.2.2
  | 3 => (jT3 k).2.2.2
  | 4 => (jT4 k).2.2.2
  | 5 => (jT5 k).2.2.2
  | _ => (jT6 k).2.2.2
def jtyl : List FieldType := [.int, .boolean, .long, .object "AuditDesk$Deposit", .object "AuditDesk$Keeper", .object "AuditDesk$Copy"]
def jgood : Cond → Bool
  | .methodLinkNest .. => true
  | .fieldLinkNest .. => true
  | .castable .. => true
  | .declares .. => true
  | .arrayOver (.object _) => true
  | w => goodWord w
def jTab : List Cond := lw_tbl.filter jgood
theorem jTab_warm {w : Cond} {s U : State} {A : Array Value} (hw : w ∈ jTab) (hW : s.WarmedH U.vm) (h : ∀ A : Array Value, w.before A s = true) : w.before A U = true := by
  have hg := (List.mem_filter.mp hw).2
  unfold jgood at hg
  split at hg
  · exact va_Nw.use rfl (va_Nw.warmM hW (h #[]))
  · exact va_Nw.use rfl (va_Nw.warmF hW (h #[]))
  · exact va_Nw.use rfl (va_Nw.warmC hW (h #[]))
  · exact va_Nw.use rfl (va_Nw.warmD hW (h #[]))
  · exact va_AO.use (va_AO.moved hW.alike (va_AO.of (h #[])))
  · exact word_at hW (good_of_word hg) (h #[])
theorem jTab_in {w : Cond} (i : Nat) (h : tables_1[i]? = some w) (hg : jgood w = true) : w ∈ jTab := List.mem_filter.mpr ⟨List.mem_append_right _ (List.mem_of_getElem? h), hg⟩
theorem jTab_sel {y : MethodName} (i n : Nat) (h : lw_privs[i]? = some (y, n)) (hg : jgood (Cond.selects y.cls y y) = true) : Cond.selects y.cls y y ∈ jTab :=
  List.mem_filter.mpr ⟨List.mem_append_left _ (List.mem_map.mpr ⟨(y, n), List.mem_of_getElem? h, rfl⟩), hg⟩
theorem jin0 : ∀ w ∈ u_ws "AuditDesk" jT0 13, w ∈ jTab := by
  intro w hw
  obtain ⟨k, hk, rfl⟩ := List.mem_map.mp hw
  have hk := List.mem_range.mp hk
  match k, hk with
  | 0, _ => exact jTab_in 163 (by decide +kernel) (by decide +kernel)
  | 1, _ => exact jTab_in 165 (by decide +kernel) (by decide +kernel)
  | 2, _ => exact jTab_in 167 (by decide +kernel) (by decide +kernel)
  | 3, _ => exact jTab_in 169 (by decide +kernel) (by decide +kernel)
  | 4, _ => exact jTab_in 171 (by decide +kernel) (by decide +kernel)
  | 5, _ => exact jTab_in 173 (by decide +kernel) (by decide +kernel)
  | 6, _ => exact jTab_in 175 (by decide +kernel) (by decide +kernel)
  | 7, _ => exact jTab_in 177 (by decide +kernel) (by decide +kernel)
  | 8, _ => exact jTab_in 179 (by decide +kernel) (by decide +kernel)
  | 9, _ => exact jTab_in 181 (by decide +kernel) (by decide +kernel)
  | 10, _ => exact jTab_in 183 (by decide +kernel) (by decide +kernel)
  | 11, _ => exact jTab_in 185 (by decide +kernel) (by decide +kernel)
  | 12, _ => exact jTab_in 187 (by decide +kernel) (by decide +kernel)
theorem jin1 : ∀ w ∈ u_ws "AuditDesk$Challenge" jT1 8, w ∈ jTab := by
  intro w hw
  obtain ⟨k, hk, rfl⟩ := List.mem_map.mp hw
  have hk := List.mem_range.mp hk
  match k, hk with
  | 0, _ => exact jTab_in 131 (by decide +kernel) (by decide +kernel)
  | 1, _ => exact jTab_in 133 (by decide +kernel) (by decide +kernel)
  | 2, _ => exact jTab_in 135 (by decide +kernel) (by decide +kernel)
  | 3, _ => exact jTab_in 137 (by decide +kernel) (by decide +kernel)
  | 4, _ => exact jTab_in 139 (by decide +kernel) (by decide +kernel)
  | 5, _ => exact jTab_in 141 (by decide +kernel) (by decide +kernel)
  | 6, _ => exact jTab_in 143 (by decide +kernel) (by decide +kernel)
  | 7, _ => exact jTab_in 145 (by decide +kernel) (by decide +kernel)
theorem jin2 : ∀ w ∈ u_ws "AuditDesk$Copy" jT2 3, w ∈ jTab := by
  intro w hw
  obtain ⟨k, hk, rfl⟩ := List.mem_map.mp hw
  have hk := List.mem_range.mp hk
  match k, hk with
  | 0, _ => exact jTab_in 85 (by decide +kernel) (by decide +kernel)
  | 1, _ => exact jTab_in 87 (by decide +kernel) (by decide +kernel)
  | 2, _ => exact jTab_in 89 (by decide +kernel) (by decide +kernel)
theorem jin3 : ∀ w ∈ u_ws "AuditDesk$Deposit" jT3 5, w ∈ jTab := by
  intro w hw
  obtain ⟨k, hk, rfl⟩ := List.mem_map.mp hw
  have hk := List.mem_range.mp hk
  match k, hk with
  | 0, _ => exact jTab_in 52 (by decide +kernel) (by decide +kernel)
  | 1, _ => exact jTab_in 54 (by decide +kernel) (by decide +kernel)
  | 2, _ => exact jTab_in 56 (by decide +kernel) (by decide +kernel)
  | 3, _ => exact jTab_in 58 (by decide +kernel) (by decide +kernel)
  | 4, _ => exact jTab_in 60 (by decide +kernel) (by decide +kernel)
theorem jin4 : ∀ w ∈ u_ws "AuditDesk$Keeper" jT4 4, w ∈ jTab := by
  intro w hw
  obtain ⟨k, hk, rfl⟩ := List.mem_map.mp hw
  have hk := List.mem_range.mp hk
  match k, hk with
  | 0, _ => exact jTab_in 101 (by decide +kernel) (by decide +kernel)
  | 1, _ => exact jTab_in 103 (by decide +kernel) (by decide +kernel)
  | 2, _ => exact jTab_in 105 (by decide +kernel) (by decide +kernel)
  | 3, _ => exact jTab_in 107 (by decide +kernel) (by decide +kernel)
theorem jin5 : ∀ w ∈ u_ws "AuditDesk$Rows" jT5 1, w ∈ jTab := by
  intro w hw
  obtain ⟨k, hk, rfl⟩ := List.mem_map.mp hw
  have hk := List.mem_range.mp hk
  match k, hk with
  | 0, _ => exact jTab_in 38 (by decide +kernel) (by decide +kernel)
theorem jin6 : ∀ w ∈ u_ws "AuditDeskModel" jT6 26, w ∈ jTab := by
  intro w hw
  obtain ⟨k, hk, rfl⟩ := List.mem_map.mp hw
  have hk := List.mem_range.mp hk
  match k, hk with
  | 0, _ => exact jTab_in 629 (by decide +kernel) (by decide +kernel)
  | 1, _ => exact jTab_in 631 (by decide +kernel) (by decide +kernel)
  | 2, _ => exact jTab_in 633 (by decide +kernel) (by decide +kernel)
  | 3, _ => exact jTab_in 635 (by decide +kernel) (by decide +kernel)
  | 4, _ => exact jTab_in 637 (by decide +kernel) (by decide +kernel)
  | 5, _ => exact jTab_in 639 (by decide +kernel) (by decide +kernel)
  | 6, _ => exact jTab_in 641 (by decide +kernel) (by decide +kernel)
  | 7, _ => exact jTab_in 643 (by decide +kernel) (by decide +kernel)
  | 8, _ => exact jTab_in 645 (by decide +kernel) (by decide +kernel)
  | 9, _ => exact jTab_in 647 (by decide +kernel) (by decide +kernel)
  | 10, _ => exact jTab_in 649 (by decide +kernel) (by decide +kernel)
  | 11, _ => exact jTab_in 651 (by decide +kernel) (by decide +kernel)
  | 12, _ => exact jTab_in 653 (by decide +kernel) (by decide +kernel)
  | 13, _ => exact jTab_in 655 (by decide +kernel) (by decide +kernel)
  | 14, _ => exact jTab_in 657 (by decide +kernel) (by decide +kernel)
  | 15, _ => exact jTab_in 659 (by decide +kernel) (by decide +kernel)
  | 16, _ => exact jTab_in 661 (by decide +kernel) (by decide +kernel)
  | 17, _ => exact jTab_in 663 (by decide +kernel) (by decide +kernel)
  | 18, _ => exact jTab_in 665 (by decide +kernel) (by decide +kernel)
  | 19, _ => exact jTab_in 667 (by decide +kernel) (by decide +kernel)
  | 20, _ => exact jTab_in 669 (by decide +kernel) (by decide +kernel)
  | 21, _ => exact jTab_in 671 (by decide +kernel) (by decide +kernel)
  | 22, _ => exact jTab_in 673 (by decide +kernel) (by decide +kernel)
  | 23, _ => exact jTab_in 675 (by decide +kernel) (by decide +kernel)
  | 24, _ => exact jTab_in 677 (by decide +kernel) (by decide +kernel)
  | 25, _ => exact jTab_in 679 (by decide +kernel) (by decide +kernel)
  | k + 26, h => exact absurd h (by omega)
theorem jcl_in {ci : Nat} {C : String} {T : u_T} {N : Nat} (h : jcl[ci]? = some (C, T, N)) : ∀ w ∈ u_ws C T N, w ∈ jTab := by
  have hl : ci < 7 := (List.getElem?_eq_some_iff.mp h).1
  match ci, hl, h with
  | 0, _, h => cases h; exact jin0
  | 1, _, h => cases h; exact jin1
  | 2, _, h => cases h; exact jin2
  | 3, _, h => cases h; exact jin3
  | 4, _, h => cases h; exact jin4
  | 5, _, h => cases h; exact jin5
  | 6, _, h => cases h; exact jin6
theorem jcl_ty {ci : Nat} {C : String} {T : u_T} {N : Nat} (h : jcl[ci]? = some (C, T, N)) : ∀ k, k < N → parseFieldDescriptor (T k).2.2.1 = some (jcty ci k) := by
  have hl : ci < 7 := (List.getElem?_eq_some_iff.mp h).1
  match ci, hl, h with
  | 0, _, h => cases h; exact jtyok0
  | 1, _, h => cases h; exact jtyok1
  | 2, _, h => cases h; exact jtyok2
  | 3, _, h => cases h; exact jtyok3
  | 4, _, h => cases h; exact jtyok4
  | 5, _, h => cases h; exact jtyok5
  | 6, _, h => cases h; exact jtyok6
theorem jcl_nm {ci : Nat} {C : String} {T : u_T} {N : Nat} (h : jcl[ci]? = some (C, T, N)) : ∀ a, a < N → ∀ b, b < N → a ≠ b → (T a).2.1 ≠ (T b).2.1 := by
  have hl : ci < 7 := (List.getElem?_eq_some_iff.mp h).1
  match ci, hl, h with
  | 0, _, h => cases h; exact jnm0
  | 1, _, h => cases h; exact jnm1
  | 2, _, h => cases h; exact jnm2
  | 3, _, h => cases h; exact jnm3
  | 4, _, h => cases h; exact jnm4
  | 5, _, h => cases h; exact jnm5
  | 6, _, h => cases h; exact jnm6
theorem jcl_fin {ci k : Nat} {C : String} {T : u_T} {N : Nat} (h : jcl[ci]? = some (C, T, N)) (hk : k < N) : (T k).2.2.2 = jfin ci k := by
  have hl : ci < 7 := (List.getElem?_eq_some_iff.mp h).1
  match ci, hl, h with
  | 0, _, h => cases h; rfl
  | 1, _, h => cases h; rfl
  | 2, _, h => cases h; rfl
  | 3, _, h => cases h; rfl
  | 4, _, h => cases h; rfl
  | 5, _, h => cases h; rfl
  | 6, _, h => cases h; rfl
end
section
/-! the cells that the law makes, by number behind its start; one judgement for every method over them -/
abbrev jE : Type := (Nat × vp_A) ⊕ (Nat × List Value)
abbrev jG : Type := Launch × (Nat × Nat × Nat × Nat) × (Nat → Int32) × va_G × (Nat → ClassId)
def jl (g : jG) : Launch := g.1
def jb (g : jG) : Nat := g.2.1.1
def jaS (g : jG) : Nat := g.2.1.2.1
def jaN (g : jG) : Nat := g.2.1.2.2.1
def jaI (g : jG) : Nat := g.2.1.2.2.2
def jxs (g : jG) : Nat → Int32 := g.2.2.1
def jD (g : jG) : va_G := g.2.2.2.1
def jcA (g : jG) : Nat → ClassId := g.2.2.2.2
def jA (g : jG) : Nat → Prop := fun q => jb g ≤ q
def jre (g : jG) (e : jE) : va_E := match e with
  | .inl a => .inl (jcA g a.1, a.2)
  | .inr o => .inr o
def jpool (g : jG) (N : Nat) (mu : Nat → jE) : va_W := (List.range N).map (fun q => (jb g + q, jre g (mu q)))
theorem jpool_get {g : jG} {N : Nat} {mu : Nat → jE} {q : Nat} (h : q < N) : (jpool g N mu)[q]? = some (jb g + q, jre g (mu q)) := by
  simp [jpool, h]
theorem jpool_len {g : jG} {N : Nat} {mu : Nat → jE} : (jpool g N mu).length = N := by
  simp [jpool]
theorem jpool_at {g : jG} {N : Nat} {mu : Nat → jE} {i : Nat} {x : Nat × va_E} (h : (jpool g N mu)[i]? = some x) : i < N ∧ x = (jb g + i, jre g (mu i)) := by
  have hl : i < (jpool g N mu).length := (List.getElem?_eq_some_iff.mp h).1
  have hN : i < N := by rw [jpool_len] at hl; exact hl
  refine ⟨hN, ?_⟩
  rw [jpool_get hN] at h
  exact (Option.some.inj h).symm
theorem jpool_D (g : jG) (N : Nat) (mu : Nat → jE) : va_D (jA g) (jpool g N mu) := by
  refine ⟨fun i j x y hi hj hxy => ?_, fun k q hk => ?_⟩
  · obtain ⟨-, rfl⟩ := jpool_at hi
    obtain ⟨-, rfl⟩ := jpool_at hj
    have h : jb g + i = jb g + j := hxy
    omega
  · obtain ⟨-, rfl⟩ := jpool_at hk
    exact Nat.le_add_right _ _
theorem jpool_set {g : jG} {N : Nat} {mu : Nat → jE} {q : Nat} (h : q < N) (e : jE) : (jpool g N mu).set q (jb g + q, jre g e) = jpool g N (va_up mu q e) := by
  apply List.ext_getElem?
  intro i
  by_cases hi : i < N
  · by_cases hq : i = q
    · subst hq
      rw [List.getElem?_set_self (by rw [jpool_len]; exact hi), jpool_get hi]
      simp [va_up]
    · rw [List.getElem?_set_ne (Ne.symm hq), jpool_get hi, jpool_get hi]
      simp [va_up, hq]
  · rw [List.getElem?_eq_none (by rw [List.length_set, jpool_len]; omega), List.getElem?_eq_none (by rw [jpool_len]; omega)]
theorem jpool_push {g : jG} {N : Nat} {mu : Nat → jE} (e : jE) : jpool g N mu ++ [(jb g + N, jre g e)] = jpool g (N + 1) (va_up mu N e) := by
  unfold jpool
  rw [List.range_succ, List.map_append]
  congr 1
  · apply List.map_congr_left
    intro q hq
    have hlt := List.mem_range.mp hq
    simp [va_up, Nat.ne_of_lt hlt]
  · simp [va_up]
/-- a method: its class, name, code, number of locals, answer's type, handlers -/
abbrev jY : Type := String × MethodName × ByteArray × Nat × Option FieldType × List (Nat × Nat × Nat × Nat)
def jyo (y : jY) : String := y.1
def jyn (y : jY) : MethodName := y.2.1
def jyc (y : jY) : ByteArray := y.2.2.1
def jyL (y : jY) : Nat := y.2.2.2.1
def jyr (y : jY) : Option FieldType := y.2.2.2.2.1
def jyh (y : jY) : List (Nat × Nat × Nat × Nat) := y.2.2.2.2.2
def jcw (y : jY) : Cond := match jyh y with
  | [] => .code (jyn y) (jyc y) (jyL y) (jyr y)
  | _ => .codeWith (jyn y) (jyc y) (jyL y) (jyr y) (jyh y)
def jRm (d : Nat × Nat) (kC kS : Nat) : Room := { frames := d.1, cells := kC, slots := kS, locals := d.2 }
abbrev jRes : Type := Option Value ⊕ Nat
/-- N known cells, what they hold, whether they are all that was made, the cells and slots that this method has made -/
abbrev jS : Type := Nat × (Nat → jE) × Bool × Nat × Nat
abbrev jQ : Type := jRes → Nat → (Nat → jE) → Bool → Prop
def jSz (g : jG) (x : Bool) (N : Nat) (H : Heap) : Prop := x = true → H.size = jb g + N
def jex (x : Nat) : String := match x with
  | 0 => "java/lang/IllegalStateException"
  | 1 => "java/lang/IllegalArgumentException"
  | _ => "java/lang/IndexOutOfBoundsException"
def jOut (s t : State) (r : jRes) (o : Outcome) : Prop := match r with
  | .inl v => o = .returned v
  | .inr x => ∃ (a : Addr) (cell : Cell), o = .threw a ∧ t.heap[a]? = some cell ∧ cell.vm.isStatics = false ∧ s.vm.findClass (jex x) = some cell.cls
def jtys (g : jG) : List (ClassId × FieldType) := (List.range jtyl.length).map (fun t => (jcA g t, jtyl.getD t .int))
theorem jtys_get {g : jG} {t : Nat} {ty : FieldType} (h : jtyl[t]? = some ty) : (jtys g)[t]? = some (jcA g t, ty) := by
  have hl : t < jtyl.length := (List.getElem?_eq_some_iff.mp h).1
  simp [jtys, hl]
  exact (List.getElem?_eq_some_iff.mp h).2
def jP (g : jG) (N : Nat) (mu : Nat → jE) (H : Heap) : Prop := va_P (jD g) jcl (jpool g N mu) H
def jinv (j : Nat) : Int32 := match j with
  | 0 => 0
  | 1 => 1
  | 2 => 1073741824
  | 3 => 1431655765
  | 4 => 536870912
  | _ => 858993459
def jStr : List (Nat × String) := [(57, "there is a file"), (77, "a file has 1 to 64 words"), (80, "there are 3 files"), (98, "no such file or keeper"), (125, "no such row of a keeper"), (137, "no such number of a keeper's row, or d is not of the field"), (139, "the row is lost"), (157, "the keeper has no such file, or m is not 1 to its rows"), (184, "no challenge"), (202, "the keeper has no such file"), (213, "a group has not four good rows"), (218, "no such file"), (230, "no such number of a file's row"), (232, "no such number of a keeper's row")]
def jNos : List (String × String) := [("java/lang/IllegalStateException", "java/lang/IllegalArgumentException"), ("java/lang/IllegalStateException", "java/lang/IndexOutOfBoundsException")]
def jNo (a b : Nat) : Prop := (jex a, jex b) ∈ jNos
def jU : String := "[Ljava/lang/StackTraceElement;"
/-- the cells that were there before the law's start: the table of inverses, the two statics that a Throwable reads, the texts; classes that are none of another's -/
def jFor (g : jG) (s : State) : Prop := va_Z "AuditDesk$Field" "INVERSES" "[I" (.ref (jaI g)) (jA g) s s.heap ∧ va_T .int (jaI g) 6 (fun j => .int (jinv j)) (jA g) s s.heap ∧
  (va_Zq "java/lang/Throwable" "UNASSIGNED_STACK" jU (jA g) s s.heap ∧ va_Zq "java/lang/Throwable" "SUPPRESSED_SENTINEL" "Ljava/util/List;" (jA g) s s.heap) ∧
  (∀ q ∈ jStr, ∃ a, vk_R "AuditDesk" q.1 q.2 a s) ∧ ∀ q ∈ jNos, ∀ c t : ClassId, s.vm.findClass q.1 = some c → s.vm.findClass q.2 = some t → s.vm.assignable c t = false
theorem jFor_to {g : jG} {s U : State} (h : jFor g s) (hW : s.WarmedH U.vm) (hb : jb g ≤ s.heap.size) (ho : ∀ q : Nat, q < jb g → U.heap[q]? = s.heap[q]?) : jFor g U := by
  obtain ⟨h1, h2, ⟨h3, h4⟩, h5, h6⟩ := h
  have k : ∀ a : Nat, a < s.heap.size → ¬ jA g a → U.heap[a]? = s.heap[a]? := fun a _ hA => ho a (Nat.not_le.mp hA)
  have hal := hW.alike
  refine ⟨(h1.moved hal).kept k, (h2.moved hal).kept k, ⟨(h3.moved hal).kept k, (h4.moved hal).kept k⟩, fun q hq => ?_, fun q hq c t hc ht => ?_⟩
  · obtain ⟨a, ha⟩ := h5 q hq
    exact ⟨a, ha.warm hW⟩
  · rw [hal.findClass] at hc ht
    rw [hal.assignable]
    exact h6 q hq c t hc ht
theorem jisRef {C n d : String} {A : Nat → Prop} {U : State} {args : Array Value} (h : va_Zq C n d A U U.heap) : (Cond.isRef (.static C n d)).before args U = true := by
  rcases h with h | ⟨t, h⟩
  · obtain ⟨cf, kf, fi, f, a, cell, h1, h2, h3, h4, h5, h6, h7, -⟩ := h
    simp [Cond.before, Cond.holds, Cond.value, Term.eval, State.fieldNamed?, h1, h2, h4, h5, h6, h7]
  · obtain ⟨cf, kf, fi, f, a, cell, h1, h2, h3, h4, h5, h6, h7, -⟩ := h
    simp [Cond.before, Cond.holds, Cond.value, Term.eval, State.fieldNamed?, h1, h2, h4, h5, h6, h7]
/-- what every state of the run keeps: the tables' words, the numbers of the classes, the cells that were there before the law's start -/
def jHyp (g : jG) (s : State) : Prop :=
  (∀ w ∈ jTab, ∀ A : Array Value, w.before A s = true) ∧ va_K (jD g) jcl (jtys g) s ∧ jb g ≤ s.heap.size ∧ (jaS g < jb g ∧ va_X (jaS g) (jaN g) (jxs g) s s.heap) ∧ jFor g s ∧ ∀ e : Env, (jl g).admits e → e.platform.stackTraces = false
def jCx (g : jG) (y : jY) (p : Program) (s : State) (m : MethodId) (meth : Method) (c : Code) : Prop :=
  p.tables.exec = Jvm.exec ∧ c.code = jyc y ∧ c.maxLocals = jyL y ∧ s.vm.findClass (jyo y) = some m.cls ∧ jHyp g s ∧ meth.sig.returnType = jyr y ∧ meth.locks = false ∧ meth.name = (jyn y).name ∧
    c.exceptionTable.toList = tableOf (jyh y)
def jEnd (g : jG) (kC kS : Nat) (Q : jQ) (s : State) (o : Outcome) (t : State) : Prop :=
  s.WarmedH t.vm ∧ (∃ L, s.sameButNew ({ t with vm := s.vm } : State) L kC kS ∧ ∀ q ∈ L, jb g ≤ q.base) ∧ va_F (jA g) s t ∧
    ∃ (r : jRes) (N : Nat) (mu : Nat → jE) (x : Bool), Q r N mu x ∧ jOut s t r o ∧ jP g N mu t.heap ∧ jSz g x N t.heap
def jZ (g : jG) (below : List Frame) (kC kS : Nat) (Q : jQ) (s : State) : State → Prop := fun t => ∃ o, t.status = .running ∧ Ended t below o ∧ jEnd g kC kS Q s o t
/-- a walk's frame: the place, the method, its depth, the cells and slots that it may make, its end -/
abbrev jF : Type := jG × jY × (Nat × Nat) × Nat × Nat × jQ
def jJ (f : jF) (lv : List (Nat × Value)) (w : jS) (pc : Nat) (st : List Value) : Prop :=
  ∀ (p : Program) (e : Env) (s : State) (m : MethodId) (args : Array Value) (below : List Frame) (meth : Method) (c : Code), jCx f.1 f.2.1 p s m meth c →
    ∀ (ls : Array Slot) (H : Heap) (locs : List Loc), lv_has ls (jyL f.2.1) lv → jP f.1 w.1 w.2.1 H → jSz f.1 w.2.2.1 w.1 H → va_S (jA f.1) s.heap H locs →
      W p (jl f.1) e (jRm f.2.2.1 f.2.2.2.1 f.2.2.2.2.1) s m args below meth c H locs w.2.2.2.1 w.2.2.2.2 (jZ f.1 below f.2.2.2.1 f.2.2.2.2.1 f.2.2.2.2.2 s) (F0 m pc ls st)
/-- a method's contract at given arguments and cells -/
def jMet (g : jG) (y : jY) (d : Nat × Nat) (kC kS : Nat) (as : List Value) (N : Nat) (mu : Nat → jE) (x : Bool) (Q : jQ) : Prop :=
  MetFree (jl g) (jyn y) (headSpec [jcw y] (jRm d kC kS)) (fun a U => a = as.toArray ∧ jHyp g U ∧ jP g N mu U.heap ∧ jSz g x N U.heap) (fun _ _ _ _ _ => True) (fun _ s o t => jEnd g kC kS Q s o t)
theorem jMet.mono {g : jG} {y : jY} {d : Nat × Nat} {kC kS : Nat} {as : List Value} {N : Nat} {mu : Nat → jE} {x : Bool} {Q Q' : jQ} (h : jMet g y d kC kS as N mu x Q) (hQ : ∀ r N' mu' x', Q r N' mu' x' → Q' r N' mu' x') : jMet g y d kC kS as N mu x Q' := by
  intro p e h1 h2 h3 s m args below h4 h5 h6 h7
  obtain ⟨n, o, a1, a2, a3, b1, b2, b3, r, N', mu', x', c1, c2⟩ := h p e h1 h2 h3 s m args below h4 h5 h6 h7
  exact ⟨n, o, a1, a2, a3, b1, b2, b3, r, N', mu', x', hQ _ _ _ _ c1, c2⟩
end
section
/-! the simple instructions over jJ -/
theorem j_iconst {f : jF} {lv : List (Nat × Value)} {w : jS} {pc : Nat} {st : List Value} {n : Int} {v : Int32} (hd : decode (jyc f.2.1) pc = .ok (.iconst n, 1)) (hv : Int32.ofInt n = v) (kk : jJ f lv w (pc + 1) (.int v :: st)) : jJ f lv w pc st := by
  intro p e s m args below meth c C ls H locs hl hP hz hS
  exact lv_iconst C.1 C.2.1 hd hv (kk p e s m args below meth c C ls H locs hl hP hz hS)
theorem j_bipush {f : jF} {lv : List (Nat × Value)} {w : jS} {pc : Nat} {st : List Value} {n : Int} {v : Int32} (hd : decode (jyc f.2.1) pc = .ok (.bipush n, 2)) (hv : (Int8.ofInt n).toInt32 = v) (kk : jJ f lv w (pc + 2) (.int v :: st)) : jJ f lv w pc st := by
  intro p e s m args below meth c C ls H locs hl hP hz hS
  exact lv_bipush C.1 C.2.1 hd hv (kk p e s m args below meth c C ls H locs hl hP hz hS)
theorem j_sipush {f : jF} {lv : List (Nat × Value)} {w : jS} {pc : Nat} {st : List Value} {n : Int} {v : Int32} (hd : decode (jyc f.2.1) pc = .ok (.sipush n, 3)) (hv : (Int16.ofInt n).toInt32 = v) (kk : jJ f lv w (pc + 3) (.int v :: st)) : jJ f lv w pc st := by
  intro p e s m args below meth c C ls H locs hl hP hz hS
  exact lv_sipush C.1 C.2.1 hd hv (kk p e s m args below meth c C ls H locs hl hP hz hS)
theorem j_lconst {f : jF} {lv : List (Nat × Value)} {w : jS} {pc : Nat} {st : List Value} {n : Fin 2} {v : Int64} (hd : decode (jyc f.2.1) pc = .ok (.lconst n, 1)) (hv : Int64.ofNat (n : Nat) = v) (kk : jJ f lv w (pc + 1) (.long v :: st)) : jJ f lv w pc st := by
  intro p e s m args below meth c C ls H locs hl hP hz hS
  exact lv_lconst C.1 C.2.1 hd hv (kk p e s m args below meth c C ls H locs hl hP hz hS)
theorem j_iload_n {f : jF} {lv : List (Nat × Value)} {w : jS} {pc : Nat} {st : List Value} {j : Fin 4} {i : Nat} {x : Int32} (hd : decode (jyc f.2.1) pc = .ok (.iload_n j, 1)) (hi : (j : Nat) = i) (k : Nat) (hk : lv[k]? = some (i, .int x)) (kk : jJ f lv w (pc + 1) (.int x :: st)) : jJ f lv w pc st := by
  intro p e s m args below meth c C ls H locs hl hP hz hS
  exact lv_iload_n C.1 C.2.1 hd hi (lv_at hl k hk) (kk p e s m args below meth c C ls H locs hl hP hz hS)
theorem j_iload {f : jF} {lv : List (Nat × Value)} {w : jS} {pc : Nat} {st : List Value} {i : Nat} {x : Int32} (hd : decode (jyc f.2.1) pc = .ok (.iload i, 2)) (k : Nat) (hk : lv[k]? = some (i, .int x)) (kk : jJ f lv w (pc + 2) (.int x :: st)) : jJ f lv w pc st := by
  intro p e s m args below meth c C ls H locs hl hP hz hS
  exact lv_iload C.1 C.2.1 hd (lv_at hl k hk) (kk p e s m args below meth c C ls H locs hl hP hz hS)
theorem j_istore_n {f : jF} {lv : List (Nat × Value)} {w : jS} {pc : Nat} {st : List Value} {j : Fin 4} {i : Nat} {x : Int32} {lv' : List (Nat × Value)} (hd : decode (jyc f.2.1) pc = .ok (.istore_n j, 1)) (hi : (j : Nat) = i) (hn : i < jyL f.2.1) (hv : (i, Value.int x) :: lv.filter (fun q => !(q.1 == i) && !(q.1 + 1 == i && q.2.category == 2)) = lv') (kk : jJ f lv' w (pc + 1) st) : jJ f lv w pc (.int x :: st) := by
  intro p e s m args below meth c C ls H locs hl hP hz hS
  exact lv_istore_n C.1 C.2.1 hd hi hl hn hv (fun ls' hl' => kk p e s m args below meth c C ls' H locs hl' hP hz hS)
theorem j_istore {f : jF} {lv : List (Nat × Value)} {w : jS} {pc : Nat} {st : List Value} {i : Nat} {x : Int32} {lv' : List (Nat × Value)} (hd : decode (jyc f.2.1) pc = .ok (.istore i, 2)) (hn : i < jyL f.2.1) (hv : (i, Value.int x) :: lv.filter (fun q => !(q.1 == i) && !(q.1 + 1 == i && q.2.category == 2)) = lv') (kk : jJ f lv' w (pc + 2) st) : jJ f lv w pc (.int x :: st) := by
  intro p e s m args below meth c C ls H locs hl hP hz hS
  exact lv_istore C.1 C.2.1 hd hl hn hv (fun ls' hl' => kk p e s m args below meth c C ls' H locs hl' hP hz hS)
theorem j_lload_n {f : jF} {lv : List (Nat × Value)} {w : jS} {pc : Nat} {st : List Value} {j : Fin 4} {i : Nat} {x : Int64} (hd : decode (jyc f.2.1) pc = .ok (.lload_n j, 1)) (hi : (j : Nat) = i) (k : Nat) (hk : lv[k]? = some (i, .long x)) (kk : jJ f lv w (pc + 1) (.long x :: st)) : jJ f lv w pc st := by
  intro p e s m args below meth c C ls H locs hl hP hz hS
  exact lv_lload_n C.1 C.2.1 hd hi (lv_at hl k hk) (kk p e s m args below meth c C ls H locs hl hP hz hS)
theorem j_lload {f : jF} {lv : List (Nat × Value)} {w : jS} {pc : Nat} {st : List Value} {i : Nat} {x : Int64} (hd : decode (jyc f.2.1) pc = .ok (.lload i, 2)) (k : Nat) (hk : lv[k]? = some (i, .long x)) (kk : jJ f lv w (pc + 2) (.long x :: st)) : jJ f lv w pc st := by
  intro p e s m args below meth c C ls H locs hl hP hz hS
  exact lv_lload C.1 C.2.1 hd (lv_at hl k hk) (kk p e s m args below meth c C ls H locs hl hP hz hS)
theorem j_lstore_n {f : jF} {lv : List (Nat × Value)} {w : jS} {pc : Nat} {st : List Value} {j : Fin 4} {i : Nat} {x : Int64} {lv' : List (Nat × Value)} (hd : decode (jyc f.2.1) pc = .ok (.lstore_n j, 1)) (hi : (j : Nat) = i) (hn : i + 1 < jyL f.2.1) (hv : (i, Value.long x) :: lv.filter (fun q => !(q.1 == i) && (!(q.1 == i + 1) && !(q.1 + 1 == i && q.2.category == 2))) = lv') (kk : jJ f lv' w (pc + 1) st) : jJ f lv w pc (.long x :: st) := by
  intro p e s m args below meth c C ls H locs hl hP hz hS
  exact lv_lstore_n C.1 C.2.1 hd hi hl hn hv (fun ls' hl' => kk p e s m args below meth c C ls' H locs hl' hP hz hS)
theorem j_lstore {f : jF} {lv : List (Nat × Value)} {w : jS} {pc : Nat} {st : List Value} {i : Nat} {x : Int64} {lv' : List (Nat × Value)} (hd : decode (jyc f.2.1) pc = .ok (.lstore i, 2)) (hn : i + 1 < jyL f.2.1) (hv : (i, Value.long x) :: lv.filter (fun q => !(q.1 == i) && (!(q.1 == i + 1) && !(q.1 + 1 == i && q.2.category == 2))) = lv') (kk : jJ f lv' w (pc + 2) st) : jJ f lv w pc (.long x :: st) := by
  intro p e s m args below meth c C ls H locs hl hP hz hS
  exact lv_lstore C.1 C.2.1 hd hl hn hv (fun ls' hl' => kk p e s m args below meth c C ls' H locs hl' hP hz hS)
theorem j_aload_n {f : jF} {lv : List (Nat × Value)} {w : jS} {pc : Nat} {st : List Value} {j : Fin 4} {i : Nat} {x : Nat} (hd : decode (jyc f.2.1) pc = .ok (.aload_n j, 1)) (hi : (j : Nat) = i) (k : Nat) (hk : lv[k]? = some (i, .ref x)) (kk : jJ f lv w (pc + 1) (.ref x :: st)) : jJ f lv w pc st := by
  intro p e s m args below meth c C ls H locs hl hP hz hS
  exact lv_aload_n C.1 C.2.1 hd hi (lv_at hl k hk) (kk p e s m args below meth c C ls H locs hl hP hz hS)
theorem j_aload {f : jF} {lv : List (Nat × Value)} {w : jS} {pc : Nat} {st : List Value} {i : Nat} {x : Nat} (hd : decode (jyc f.2.1) pc = .ok (.aload i, 2)) (k : Nat) (hk : lv[k]? = some (i, .ref x)) (kk : jJ f lv w (pc + 2) (.ref x :: st)) : jJ f lv w pc st := by
  intro p e s m args below meth c C ls H locs hl hP hz hS
  exact lv_aload C.1 C.2.1 hd (lv_at hl k hk) (kk p e s m args below meth c C ls H locs hl hP hz hS)
theorem j_astore_n {f : jF} {lv : List (Nat × Value)} {w : jS} {pc : Nat} {st : List Value} {j : Fin 4} {i : Nat} {x : Nat} {lv' : List (Nat × Value)} (hd : decode (jyc f.2.1) pc = .ok (.astore_n j, 1)) (hi : (j : Nat) = i) (hn : i < jyL f.2.1) (hv : (i, Value.ref x) :: lv.filter (fun q => !(q.1 == i) && !(q.1 + 1 == i && q.2.category == 2)) = lv') (kk : jJ f lv' w (pc + 1) st) : jJ f lv w pc (.ref x :: st) := by
  intro p e s m args below meth c C ls H locs hl hP hz hS
  exact lv_astore_n C.1 C.2.1 hd hi hl hn hv (fun ls' hl' => kk p e s m args below meth c C ls' H locs hl' hP hz hS)
theorem j_astore {f : jF} {lv : List (Nat × Value)} {w : jS} {pc : Nat} {st : List Value} {i : Nat} {x : Nat} {lv' : List (Nat × Value)} (hd : decode (jyc f.2.1) pc = .ok (.astore i, 2)) (hn : i < jyL f.2.1) (hv : (i, Value.ref x) :: lv.filter (fun q => !(q.1 == i) && !(q.1 + 1 == i && q.2.category == 2)) = lv') (kk : jJ f lv' w (pc + 2) st) : jJ f lv w pc (.ref x :: st) := by
  intro p e s m args below meth c C ls H locs hl hP hz hS
  exact lv_astore C.1 C.2.1 hd hl hn hv (fun ls' hl' => kk p e s m args below meth c C ls' H locs hl' hP hz hS)
theorem j_iinc {f : jF} {lv : List (Nat × Value)} {w : jS} {pc : Nat} {st : List Value} {i : Nat} {n : Int} {x v : Int32} {lv' : List (Nat × Value)} (hd : decode (jyc f.2.1) pc = .ok (.iinc i n, 3)) (k : Nat) (hk : lv[k]? = some (i, .int x)) (hx : x + Int32.ofInt n = v) (hn : i < jyL f.2.1) (hv : (i, Value.int v) :: lv.filter (fun q => !(q.1 == i) && !(q.1 + 1 == i && q.2.category == 2)) = lv') (kk : jJ f lv' w (pc + 3) st) : jJ f lv w pc st := by
  intro p e s m args below meth c C ls H locs hl hP hz hS
  exact lv_iinc C.1 C.2.1 hd hl hk hx hn hv (fun ls' hl' => kk p e s m args below meth c C ls' H locs hl' hP hz hS)
theorem j_iadd {f : jF} {lv : List (Nat × Value)} {w : jS} {pc : Nat} {st : List Value} {x y : Int32} (hd : decode (jyc f.2.1) pc = .ok (.iadd, 1)) (kk : jJ f lv w (pc + 1) (.int (x + y) :: st)) : jJ f lv w pc (.int y :: .int x :: st) := by
  intro p e s m args below meth c C ls H locs hl hP hz hS
  exact lv_iadd C.1 C.2.1 hd (kk p e s m args below meth c C ls H locs hl hP hz hS)
theorem j_isub {f : jF} {lv : List (Nat × Value)} {w : jS} {pc : Nat} {st : List Value} {x y : Int32} (hd : decode (jyc f.2.1) pc = .ok (.isub, 1)) (kk : jJ f lv w (pc + 1) (.int (x - y) :: st)) : jJ f lv w pc (.int y :: .int x :: st) := by
  intro p e s m args below meth c C ls H locs hl hP hz hS
  exact lv_isub C.1 C.2.1 hd (kk p e s m args below meth c C ls H locs hl hP hz hS)
theorem j_imul {f : jF} {lv : List (Nat × Value)} {w : jS} {pc : Nat} {st : List Value} {x y : Int32} (hd : decode (jyc f.2.1) pc = .ok (.imul, 1)) (kk : jJ f lv w (pc + 1) (.int (x * y) :: st)) : jJ f lv w pc (.int y :: .int x :: st) := by
  intro p e s m args below meth c C ls H locs hl hP hz hS
  exact lv_imul C.1 C.2.1 hd (kk p e s m args below meth c C ls H locs hl hP hz hS)
theorem j_iand {f : jF} {lv : List (Nat × Value)} {w : jS} {pc : Nat} {st : List Value} {x y : Int32} (hd : decode (jyc f.2.1) pc = .ok (.iand, 1)) (kk : jJ f lv w (pc + 1) (.int (x &&& y) :: st)) : jJ f lv w pc (.int y :: .int x :: st) := by
  intro p e s m args below meth c C ls H locs hl hP hz hS
  exact lv_iand C.1 C.2.1 hd (kk p e s m args below meth c C ls H locs hl hP hz hS)
theorem j_ior {f : jF} {lv : List (Nat × Value)} {w : jS} {pc : Nat} {st : List Value} {x y : Int32} (hd : decode (jyc f.2.1) pc = .ok (.ior, 1)) (kk : jJ f lv w (pc + 1) (.int (x ||| y) :: st)) : jJ f lv w pc (.int y :: .int x :: st) := by
  intro p e s m args below meth c C ls H locs hl hP hz hS
  exact lv_ior C.1 C.2.1 hd (kk p e s m args below meth c C ls H locs hl hP hz hS)
theorem j_ixor {f : jF} {lv : List (Nat × Value)} {w : jS} {pc : Nat} {st : List Value} {x y : Int32} (hd : decode (jyc f.2.1) pc = .ok (.ixor, 1)) (kk : jJ f lv w (pc + 1) (.int (x ^^^ y) :: st)) : jJ f lv w pc (.int y :: .int x :: st) := by
  intro p e s m args below meth c C ls H locs hl hP hz hS
  exact lv_ixor C.1 C.2.1 hd (kk p e s m args below meth c C ls H locs hl hP hz hS)
theorem j_ishl {f : jF} {lv : List (Nat × Value)} {w : jS} {pc : Nat} {st : List Value} {x y : Int32} (hd : decode (jyc f.2.1) pc = .ok (.ishl, 1)) (kk : jJ f lv w (pc + 1) (.int (x <<< (y &&& 31)) :: st)) : jJ f lv w pc (.int y :: .int x :: st) := by
  intro p e s m args below meth c C ls H locs hl hP hz hS
  exact lv_ishl C.1 C.2.1 hd (kk p e s m args below meth c C ls H locs hl hP hz hS)
theorem j_ishr {f : jF} {lv : List (Nat × Value)} {w : jS} {pc : Nat} {st : List Value} {x y : Int32} (hd : decode (jyc f.2.1) pc = .ok (.ishr, 1)) (kk : jJ f lv w (pc + 1) (.int (x >>> (y &&& 31)) :: st)) : jJ f lv w pc (.int y :: .int x :: st) := by
  intro p e s m args below meth c C ls H locs hl hP hz hS
  exact lv_ishr C.1 C.2.1 hd (kk p e s m args below meth c C ls H locs hl hP hz hS)
theorem j_idiv {f : jF} {lv : List (Nat × Value)} {w : jS} {pc : Nat} {st : List Value} {x y : Int32} (hd : decode (jyc f.2.1) pc = .ok (.idiv, 1)) (hne : ¬ y = 0) (kk : jJ f lv w (pc + 1) (.int (x / y) :: st)) : jJ f lv w pc (.int y :: .int x :: st) := by
  intro p e s m args below meth c C ls H locs hl hP hz hS
  exact lv_idiv C.1 C.2.1 hd hne (kk p e s m args below meth c C ls H locs hl hP hz hS)
theorem j_irem {f : jF} {lv : List (Nat × Value)} {w : jS} {pc : Nat} {st : List Value} {x y : Int32} (hd : decode (jyc f.2.1) pc = .ok (.irem, 1)) (hne : ¬ y = 0) (kk : jJ f lv w (pc + 1) (.int (x - x / y * y) :: st)) : jJ f lv w pc (.int y :: .int x :: st) := by
  intro p e s m args below meth c C ls H locs hl hP hz hS
  exact lv_irem C.1 C.2.1 hd hne (kk p e s m args below meth c C ls H locs hl hP hz hS)
theorem j_ladd {f : jF} {lv : List (Nat × Value)} {w : jS} {pc : Nat} {st : List Value} {x y : Int64} (hd : decode (jyc f.2.1) pc = .ok (.ladd, 1)) (kk : jJ f lv w (pc + 1) (.long (x + y) :: st)) : jJ f lv w pc (.long y :: .long x :: st) := by
  intro p e s m args below meth c C ls H locs hl hP hz hS
  exact lv_ladd C.1 C.2.1 hd (kk p e s m args below meth c C ls H locs hl hP hz hS)
theorem j_lsub {f : jF} {lv : List (Nat × Value)} {w : jS} {pc : Nat} {st : List Value} {x y : Int64} (hd : decode (jyc f.2.1) pc = .ok (.lsub, 1)) (kk : jJ f lv w (pc + 1) (.long (x - y) :: st)) : jJ f lv w pc (.long y :: .long x :: st) := by
  intro p e s m args below meth c C ls H locs hl hP hz hS
  exact lv_lsub C.1 C.2.1 hd (kk p e s m args below meth c C ls H locs hl hP hz hS)
theorem j_lmul {f : jF} {lv : List (Nat × Value)} {w : jS} {pc : Nat} {st : List Value} {x y : Int64} (hd : decode (jyc f.2.1) pc = .ok (.lmul, 1)) (kk : jJ f lv w (pc + 1) (.long (x * y) :: st)) : jJ f lv w pc (.long y :: .long x :: st) := by
  intro p e s m args below meth c C ls H locs hl hP hz hS
  exact lv_lmul C.1 C.2.1 hd (kk p e s m args below meth c C ls H locs hl hP hz hS)
theorem j_land {f : jF} {lv : List (Nat × Value)} {w : jS} {pc : Nat} {st : List Value} {x y : Int64} (hd : decode (jyc f.2.1) pc = .ok (.land, 1)) (kk : jJ f lv w (pc + 1) (.long (x &&& y) :: st)) : jJ f lv w pc (.long y :: .long x :: st) := by
  intro p e s m args below meth c C ls H locs hl hP hz hS
  exact lv_land C.1 C.2.1 hd (kk p e s m args below meth c C ls H locs hl hP hz hS)
theorem j_lor {f : jF} {lv : List (Nat × Value)} {w : jS} {pc : Nat} {st : List Value} {x y : Int64} (hd : decode (jyc f.2.1) pc = .ok (.lor, 1)) (kk : jJ f lv w (pc + 1) (.long (x ||| y) :: st)) : jJ f lv w pc (.long y :: .long x :: st) := by
  intro p e s m args below meth c C ls H locs hl hP hz hS
  exact lv_lor C.1 C.2.1 hd (kk p e s m args below meth c C ls H locs hl hP hz hS)
theorem j_lxor {f : jF} {lv : List (Nat × Value)} {w : jS} {pc : Nat} {st : List Value} {x y : Int64} (hd : decode (jyc f.2.1) pc = .ok (.lxor, 1)) (kk : jJ f lv w (pc + 1) (.long (x ^^^ y) :: st)) : jJ f lv w pc (.long y :: .long x :: st) := by
  intro p e s m args below meth c C ls H locs hl hP hz hS
  exact lv_lxor C.1 C.2.1 hd (kk p e s m args below meth c C ls H locs hl hP hz hS)
theorem j_ldiv {f : jF} {lv : List (Nat × Value)} {w : jS} {pc : Nat} {st : List Value} {x y : Int64} (hd : decode (jyc f.2.1) pc = .ok (.ldiv, 1)) (hne : ¬ y = 0) (kk : jJ f lv w (pc + 1) (.long (x / y) :: st)) : jJ f lv w pc (.long y :: .long x :: st) := by
  intro p e s m args below meth c C ls H locs hl hP hz hS
  exact lv_ldiv C.1 C.2.1 hd hne (kk p e s m args below meth c C ls H locs hl hP hz hS)
theorem j_lrem {f : jF} {lv : List (Nat × Value)} {w : jS} {pc : Nat} {st : List Value} {x y : Int64} (hd : decode (jyc f.2.1) pc = .ok (.lrem, 1)) (hne : ¬ y = 0) (kk : jJ f lv w (pc + 1) (.long (x - x / y * y) :: st)) : jJ f lv w pc (.long y :: .long x :: st) := by
  intro p e s m args below meth c C ls H locs hl hP hz hS
  exact lv_lrem C.1 C.2.1 hd hne (kk p e s m args below meth c C ls H locs hl hP hz hS)
theorem j_ineg {f : jF} {lv : List (Nat × Value)} {w : jS} {pc : Nat} {st : List Value} {x : Int32} (hd : decode (jyc f.2.1) pc = .ok (.ineg, 1)) (kk : jJ f lv w (pc + 1) (.int (-x) :: st)) : jJ f lv w pc (.int x :: st) := by
  intro p e s m args below meth c C ls H locs hl hP hz hS
  exact lv_ineg C.1 C.2.1 hd (kk p e s m args below meth c C ls H locs hl hP hz hS)
theorem j_i2l {f : jF} {lv : List (Nat × Value)} {w : jS} {pc : Nat} {st : List Value} {x : Int32} {v : Int64} (hd : decode (jyc f.2.1) pc = .ok (.i2l, 1)) (hv : x.toInt64 = v) (kk : jJ f lv w (pc + 1) (.long v :: st)) : jJ f lv w pc (.int x :: st) := by
  intro p e s m args below meth c C ls H locs hl hP hz hS
  exact lv_i2l C.1 C.2.1 hd hv (kk p e s m args below meth c C ls H locs hl hP hz hS)
theorem j_l2i {f : jF} {lv : List (Nat × Value)} {w : jS} {pc : Nat} {st : List Value} {x : Int64} {v : Int32} (hd : decode (jyc f.2.1) pc = .ok (.l2i, 1)) (hv : x.toInt32 = v) (kk : jJ f lv w (pc + 1) (.int v :: st)) : jJ f lv w pc (.long x :: st) := by
  intro p e s m args below meth c C ls H locs hl hP hz hS
  exact lv_l2i C.1 C.2.1 hd hv (kk p e s m args below meth c C ls H locs hl hP hz hS)
theorem j_iushr {f : jF} {lv : List (Nat × Value)} {w : jS} {pc : Nat} {st : List Value} {x y v : Int32} (hd : decode (jyc f.2.1) pc = .ok (.iushr, 1)) (hv : (x.toUInt32 >>> (y.toUInt32 &&& Int32.toUInt32 31)).toInt32 = v) (kk : jJ f lv w (pc + 1) (.int v :: st)) : jJ f lv w pc (.int y :: .int x :: st) := by
  intro p e s m args below meth c C ls H locs hl hP hz hS
  exact lv_iushr C.1 C.2.1 hd hv (kk p e s m args below meth c C ls H locs hl hP hz hS)
theorem j_lushr {f : jF} {lv : List (Nat × Value)} {w : jS} {pc : Nat} {st : List Value} {x v : Int64} {y : Int32} (hd : decode (jyc f.2.1) pc = .ok (.lushr, 1)) (hv : (x.toUInt64 >>> (y.toInt64.toUInt64 &&& Int64.toUInt64 63)).toInt64 = v) (kk : jJ f lv w (pc + 1) (.long v :: st)) : jJ f lv w pc (.int y :: .long x :: st) := by
  intro p e s m args below meth c C ls H locs hl hP hz hS
  exact lv_lushr C.1 C.2.1 hd hv (kk p e s m args below meth c C ls H locs hl hP hz hS)
theorem j_lshl {f : jF} {lv : List (Nat × Value)} {w : jS} {pc : Nat} {st : List Value} {x v : Int64} {y : Int32} (hd : decode (jyc f.2.1) pc = .ok (.lshl, 1)) (hv : x <<< (y.toInt64 &&& 63) = v) (kk : jJ f lv w (pc + 1) (.long v :: st)) : jJ f lv w pc (.int y :: .long x :: st) := by
  intro p e s m args below meth c C ls H locs hl hP hz hS
  exact lv_lshl C.1 C.2.1 hd hv (kk p e s m args below meth c C ls H locs hl hP hz hS)
theorem j_lshr {f : jF} {lv : List (Nat × Value)} {w : jS} {pc : Nat} {st : List Value} {x v : Int64} {y : Int32} (hd : decode (jyc f.2.1) pc = .ok (.lshr, 1)) (hv : x >>> (y.toInt64 &&& 63) = v) (kk : jJ f lv w (pc + 1) (.long v :: st)) : jJ f lv w pc (.int y :: .long x :: st) := by
  intro p e s m args below meth c C ls H locs hl hP hz hS
  exact lv_lshr C.1 C.2.1 hd hv (kk p e s m args below meth c C ls H locs hl hP hz hS)
theorem j_lcmp {f : jF} {lv : List (Nat × Value)} {w : jS} {pc : Nat} {st : List Value} {x y : Int64} (hd : decode (jyc f.2.1) pc = .ok (.lcmp, 1)) (kk : jJ f lv w (pc + 1) (.int (lg_cmp x y) :: st)) : jJ f lv w pc (.long y :: .long x :: st) := by
  intro p e s m args below meth c C ls H locs hl hP hz hS
  exact W.lcmp C.1 C.2.1 hd (kk p e s m args below meth c C ls H locs hl hP hz hS)
theorem j_dup {f : jF} {lv : List (Nat × Value)} {w : jS} {pc : Nat} {st : List Value} {va : Value} (hd : decode (jyc f.2.1) pc = .ok (.dup, 1)) (h1 : va.category = 1) (kk : jJ f lv w (pc + 1) (va :: va :: st)) : jJ f lv w pc (va :: st) := by
  intro p e s m args below meth c C ls H locs hl hP hz hS
  exact lv_dup C.1 C.2.1 hd h1 (kk p e s m args below meth c C ls H locs hl hP hz hS)
theorem j_pop {f : jF} {lv : List (Nat × Value)} {w : jS} {pc : Nat} {st : List Value} {va : Value} (hd : decode (jyc f.2.1) pc = .ok (.pop, 1)) (h1 : va.category = 1) (kk : jJ f lv w (pc + 1) st) : jJ f lv w pc (va :: st) := by
  intro p e s m args below meth c C ls H locs hl hP hz hS
  exact lv_pop C.1 C.2.1 hd h1 (kk p e s m args below meth c C ls H locs hl hP hz hS)
theorem j_pop2_2 {f : jF} {lv : List (Nat × Value)} {w : jS} {pc : Nat} {st : List Value} {va : Value} (hd : decode (jyc f.2.1) pc = .ok (.pop2, 1)) (h1 : va.category = 2) (kk : jJ f lv w (pc + 1) st) : jJ f lv w pc (va :: st) := by
  intro p e s m args below meth c C ls H locs hl hP hz hS
  exact lv_pop2_2 C.1 C.2.1 hd h1 (kk p e s m args below meth c C ls H locs hl hP hz hS)
theorem j_dup_x1 {f : jF} {lv : List (Nat × Value)} {w : jS} {pc : Nat} {st : List Value} {va vb : Value} (hd : decode (jyc f.2.1) pc = .ok (.dup_x1, 1)) (h1 : va.category = 1) (h2 : vb.category = 1) (kk : jJ f lv w (pc + 1) (va :: vb :: va :: st)) : jJ f lv w pc (va :: vb :: st) := by
  intro p e s m args below meth c C ls H locs hl hP hz hS
  exact lv_dup_x1 C.1 C.2.1 hd h1 h2 (kk p e s m args below meth c C ls H locs hl hP hz hS)
theorem j_dup_x2 {f : jF} {lv : List (Nat × Value)} {w : jS} {pc : Nat} {st : List Value} {va vb vd : Value} (hd : decode (jyc f.2.1) pc = .ok (.dup_x2, 1)) (h1 : va.category = 1) (h2 : vb.category = 1) (h3 : vd.category = 1) (kk : jJ f lv w (pc + 1) (va :: vb :: vd :: va :: st)) : jJ f lv w pc (va :: vb :: vd :: st) := by
  intro p e s m args below meth c C ls H locs hl hP hz hS
  exact lv_dup_x2 C.1 C.2.1 hd h1 h2 h3 (kk p e s m args below meth c C ls H locs hl hP hz hS)
theorem j_dup2 {f : jF} {lv : List (Nat × Value)} {w : jS} {pc : Nat} {st : List Value} {va vb : Value} (hd : decode (jyc f.2.1) pc = .ok (.dup2, 1)) (h1 : va.category = 1) (h2 : vb.category = 1) (kk : jJ f lv w (pc + 1) (va :: vb :: va :: vb :: st)) : jJ f lv w pc (va :: vb :: st) := by
  intro p e s m args below meth c C ls H locs hl hP hz hS
  exact lv_dup2_11 C.1 C.2.1 hd h1 h2 (kk p e s m args below meth c C ls H locs hl hP hz hS)
theorem j_dup2_2 {f : jF} {lv : List (Nat × Value)} {w : jS} {pc : Nat} {st : List Value} {va : Value} (hd : decode (jyc f.2.1) pc = .ok (.dup2, 1)) (h1 : va.category = 2) (kk : jJ f lv w (pc + 1) (va :: va :: st)) : jJ f lv w pc (va :: st) := by
  intro p e s m args below meth c C ls H locs hl hP hz hS
  exact lv_dup2_2 C.1 C.2.1 hd h1 (kk p e s m args below meth c C ls H locs hl hP hz hS)
theorem j_if_eq {f : jF} {lv : List (Nat × Value)} {w : jS} {pc : Nat} {st : List Value} {x : Int32} {off : Int} (hd : decode (jyc f.2.1) pc = .ok (.ifCond .eq off, 3)) (tgt : Nat) (ht : (pc : Int) + off = (tgt : Int)) (kt : x = 0 → jJ f lv w tgt st) (kf : ¬ x = 0 → jJ f lv w (pc + 3) st) : jJ f lv w pc (.int x :: st) := by
  intro p e s m args below meth c C ls H locs hl hP hz hS
  exact lv_if_eq C.1 C.2.1 hd ht (fun h => kt h p e s m args below meth c C ls H locs hl hP hz hS) (fun h => kf h p e s m args below meth c C ls H locs hl hP hz hS)
theorem j_icmp_eq {f : jF} {lv : List (Nat × Value)} {w : jS} {pc : Nat} {st : List Value} {x y : Int32} {off : Int} (hd : decode (jyc f.2.1) pc = .ok (.if_icmp .eq off, 3)) (tgt : Nat) (ht : (pc : Int) + off = (tgt : Int)) (kt : x = y → jJ f lv w tgt st) (kf : ¬ x = y → jJ f lv w (pc + 3) st) : jJ f lv w pc (.int y :: .int x :: st) := by
  intro p e s m args below meth c C ls H locs hl hP hz hS
  exact lv_icmp_eq C.1 C.2.1 hd ht (fun h => kt h p e s m args below meth c C ls H locs hl hP hz hS) (fun h => kf h p e s m args below meth c C ls H locs hl hP hz hS)
theorem j_if_ne {f : jF} {lv : List (Nat × Value)} {w : jS} {pc : Nat} {st : List Value} {x : Int32} {off : Int} (hd : decode (jyc f.2.1) pc = .ok (.ifCond .ne off, 3)) (tgt : Nat) (ht : (pc : Int) + off = (tgt : Int)) (kt : ¬ x = 0 → jJ f lv w tgt st) (kf : x = 0 → jJ f lv w (pc + 3) st) : jJ f lv w pc (.int x :: st) := by
  intro p e s m args below meth c C ls H locs hl hP hz hS
  exact lv_if_ne C.1 C.2.1 hd ht (fun h => kt h p e s m args below meth c C ls H locs hl hP hz hS) (fun h => kf h p e s m args below meth c C ls H locs hl hP hz hS)
theorem j_icmp_ne {f : jF} {lv : List (Nat × Value)} {w : jS} {pc : Nat} {st : List Value} {x y : Int32} {off : Int} (hd : decode (jyc f.2.1) pc = .ok (.if_icmp .ne off, 3)) (tgt : Nat) (ht : (pc : Int) + off = (tgt : Int)) (kt : ¬ x = y → jJ f lv w tgt st) (kf : x = y → jJ f lv w (pc + 3) st) : jJ f lv w pc (.int y :: .int x :: st) := by
  intro p e s m args below meth c C ls H locs hl hP hz hS
  exact lv_icmp_ne C.1 C.2.1 hd ht (fun h => kt h p e s m args below meth c C ls H locs hl hP hz hS) (fun h => kf h p e s m args below meth c C ls H locs hl hP hz hS)
theorem j_if_lt {f : jF} {lv : List (Nat × Value)} {w : jS} {pc : Nat} {st : List Value} {x : Int32} {off : Int} (hd : decode (jyc f.2.1) pc = .ok (.ifCond .lt off, 3)) (tgt : Nat) (ht : (pc : Int) + off = (tgt : Int)) (kt : x < 0 → jJ f lv w tgt st) (kf : ¬ x < 0 → jJ f lv w (pc + 3) st) : jJ f lv w pc (.int x :: st) := by
  intro p e s m args below meth c C ls H locs hl hP hz hS
  exact lv_if_lt C.1 C.2.1 hd ht (fun h => kt h p e s m args below meth c C ls H locs hl hP hz hS) (fun h => kf h p e s m args below meth c C ls H locs hl hP hz hS)
theorem j_icmp_lt {f : jF} {lv : List (Nat × Value)} {w : jS} {pc : Nat} {st : List Value} {x y : Int32} {off : Int} (hd : decode (jyc f.2.1) pc = .ok (.if_icmp .lt off, 3)) (tgt : Nat) (ht : (pc : Int) + off = (tgt : Int)) (kt : x < y → jJ f lv w tgt st) (kf : ¬ x < y → jJ f lv w (pc + 3) st) : jJ f lv w pc (.int y :: .int x :: st) := by
  intro p e s m args below meth c C ls H locs hl hP hz hS
  exact lv_icmp_lt C.1 C.2.1 hd ht (fun h => kt h p e s m args below meth c C ls H locs hl hP hz hS) (fun h => kf h p e s m args below meth c C ls H locs hl hP hz hS)
theorem j_if_ge {f : jF} {lv : List (Nat × Value)} {w : jS} {pc : Nat} {st : List Value} {x : Int32} {off : Int} (hd : decode (jyc f.2.1) pc = .ok (.ifCond .ge off, 3)) (tgt : Nat) (ht : (pc : Int) + off = (tgt : Int)) (kt : 0 ≤ x → jJ f lv w tgt st) (kf : ¬ 0 ≤ x → jJ f lv w (pc + 3) st) : jJ f lv w pc (.int x :: st) := by
  intro p e s m args below meth c C ls H locs hl hP hz hS
  exact lv_if_ge C.1 C.2.1 hd ht (fun h => kt h p e s m args below meth c C ls H locs hl hP hz hS) (fun h => kf h p e s m args below meth c C ls H locs hl hP hz hS)
theorem j_icmp_ge {f : jF} {lv : List (Nat × Value)} {w : jS} {pc : Nat} {st : List Value} {x y : Int32} {off : Int} (hd : decode (jyc f.2.1) pc = .ok (.if_icmp .ge off, 3)) (tgt : Nat) (ht : (pc : Int) + off = (tgt : Int)) (kt : y ≤ x → jJ f lv w tgt st) (kf : ¬ y ≤ x → jJ f lv w (pc + 3) st) : jJ f lv w pc (.int y :: .int x :: st) := by
  intro p e s m args below meth c C ls H locs hl hP hz hS
  exact lv_icmp_ge C.1 C.2.1 hd ht (fun h => kt h p e s m args below meth c C ls H locs hl hP hz hS) (fun h => kf h p e s m args below meth c C ls H locs hl hP hz hS)
theorem j_if_gt {f : jF} {lv : List (Nat × Value)} {w : jS} {pc : Nat} {st : List Value} {x : Int32} {off : Int} (hd : decode (jyc f.2.1) pc = .ok (.ifCond .gt off, 3)) (tgt : Nat) (ht : (pc : Int) + off = (tgt : Int)) (kt : 0 < x → jJ f lv w tgt st) (kf : ¬ 0 < x → jJ f lv w (pc + 3) st) : jJ f lv w pc (.int x :: st) := by
  intro p e s m args below meth c C ls H locs hl hP hz hS
  exact lv_if_gt C.1 C.2.1 hd ht (fun h => kt h p e s m args below meth c C ls H locs hl hP hz hS) (fun h => kf h p e s m args below meth c C ls H locs hl hP hz hS)
theorem j_icmp_gt {f : jF} {lv : List (Nat × Value)} {w : jS} {pc : Nat} {st : List Value} {x y : Int32} {off : Int} (hd : decode (jyc f.2.1) pc = .ok (.if_icmp .gt off, 3)) (tgt : Nat) (ht : (pc : Int) + off = (tgt : Int)) (kt : y < x → jJ f lv w tgt st) (kf : ¬ y < x → jJ f lv w (pc + 3) st) : jJ f lv w pc (.int y :: .int x :: st) := by
  intro p e s m args below meth c C ls H locs hl hP hz hS
  exact lv_icmp_gt C.1 C.2.1 hd ht (fun h => kt h p e s m args below meth c C ls H locs hl hP hz hS) (fun h => kf h p e s m args below meth c C ls H locs hl hP hz hS)
theorem j_if_le {f : jF} {lv : List (Nat × Value)} {w : jS} {pc : Nat} {st : List Value} {x : Int32} {off : Int} (hd : decode (jyc f.2.1) pc = .ok (.ifCond .le off, 3)) (tgt : Nat) (ht : (pc : Int) + off = (tgt : Int)) (kt : x ≤ 0 → jJ f lv w tgt st) (kf : ¬ x ≤ 0 → jJ f lv w (pc + 3) st) : jJ f lv w pc (.int x :: st) := by
  intro p e s m args below meth c C ls H locs hl hP hz hS
  exact lv_if_le C.1 C.2.1 hd ht (fun h => kt h p e s m args below meth c C ls H locs hl hP hz hS) (fun h => kf h p e s m args below meth c C ls H locs hl hP hz hS)
theorem j_icmp_le {f : jF} {lv : List (Nat × Value)} {w : jS} {pc : Nat} {st : List Value} {x y : Int32} {off : Int} (hd : decode (jyc f.2.1) pc = .ok (.if_icmp .le off, 3)) (tgt : Nat) (ht : (pc : Int) + off = (tgt : Int)) (kt : x ≤ y → jJ f lv w tgt st) (kf : ¬ x ≤ y → jJ f lv w (pc + 3) st) : jJ f lv w pc (.int y :: .int x :: st) := by
  intro p e s m args below meth c C ls H locs hl hP hz hS
  exact lv_icmp_le C.1 C.2.1 hd ht (fun h => kt h p e s m args below meth c C ls H locs hl hP hz hS) (fun h => kf h p e s m args below meth c C ls H locs hl hP hz hS)
theorem j_goto {f : jF} {lv : List (Nat × Value)} {w : jS} {pc : Nat} {st : List Value} {off : Int} (hd : decode (jyc f.2.1) pc = .ok (.goto off, 3)) (tgt : Nat) (ht : (pc : Int) + off = (tgt : Int)) (kk : jJ f lv w tgt st) : jJ f lv w pc st := by
  intro p e s m args below meth c C ls H locs hl hP hz hS
  exact lv_goto C.1 C.2.1 hd ht (kk p e s m args below meth c C ls H locs hl hP hz hS)
theorem j_lookup {f : jF} {lv : List (Nat × Value)} {w : jS} {pc : Nat} {st : List Value} {dflt : Int} {ps : Array (Int × Int)} {len : Nat} {x : Int32} {off : Int} (hd : decode (jyc f.2.1) pc = .ok (.lookupswitch dflt ps, len)) (hp : (ps.toList.zip (ps.toList.drop 1)).all (fun (a, next) => a.1 < next.1) = true) (ho : Op.lookupswitch.offset ps.toList dflt x.toInt = off) (tgt : Nat) (ht : (pc : Int) + off = (tgt : Int)) (kk : jJ f lv w tgt st) : jJ f lv w pc (.int x :: st) := by
  intro p e s m args below meth c C ls H locs hl hP hz hS
  exact lv_lookup C.1 C.2.1 hd hp ho ht (kk p e s m args below meth c C ls H locs hl hP hz hS)
theorem j_tableOut {f : jF} {lv : List (Nat × Value)} {w : jS} {pc : Nat} {st : List Value} {dflt lo hi : Int} {offs : Array Int} {len : Nat} {x : Int32} (hd : decode (jyc f.2.1) pc = .ok (.tableswitch dflt lo hi offs, len)) (h : x.toInt < lo ∨ hi < x.toInt) (tgt : Nat) (ht : (pc : Int) + dflt = (tgt : Int)) (kk : jJ f lv w tgt st) : jJ f lv w pc (.int x :: st) := by
  intro p e s m args below meth c C ls H locs hl hP hz hS
  exact lv_tableOut C.1 C.2.1 hd h ht (kk p e s m args below meth c C ls H locs hl hP hz hS)
theorem j_tableIn {f : jF} {lv : List (Nat × Value)} {w : jS} {pc : Nat} {st : List Value} {dflt lo hi : Int} {offs : Array Int} {len : Nat} {x : Int32} {off : Int} (hd : decode (jyc f.2.1) pc = .ok (.tableswitch dflt lo hi offs, len)) (h1 : ¬ x.toInt < lo) (h2 : ¬ hi < x.toInt) (ho : offs[(x.toInt - lo).toNat]? = some off) (tgt : Nat) (ht : (pc : Int) + off = (tgt : Int)) (kk : jJ f lv w tgt st) : jJ f lv w pc (.int x :: st) := by
  intro p e s m args below meth c C ls H locs hl hP hz hS
  exact lv_tableIn C.1 C.2.1 hd h1 h2 ho ht (kk p e s m args below meth c C ls H locs hl hP hz hS)
theorem j_ldc {f : jF} {lv : List (Nat × Value)} {w : jS} {pc : Nat} {st : List Value} {index : Nat} {v : Int32} (hd : decode (jyc f.2.1) pc = .ok (.ldc index, 2)) (hw : Jvm.Cond.constant (jyo f.2.1) index v ∈ jTab) (kk : jJ f lv w (pc + 2) (.int v :: st)) : jJ f lv w pc st := by
  intro p e s m args below meth c C ls H locs hl hP hz hS
  exact lv_ldc C.1 C.2.1 C.2.2.2.1 (C.2.2.2.2.1.1 _ hw args) hd (kk p e s m args below meth c C ls H locs hl hP hz hS)
theorem j_ldcw {f : jF} {lv : List (Nat × Value)} {w : jS} {pc : Nat} {st : List Value} {index : Nat} {v : Int32} (hd : decode (jyc f.2.1) pc = .ok (.ldc_w index, 3)) (hw : Jvm.Cond.constant (jyo f.2.1) index v ∈ jTab) (kk : jJ f lv w (pc + 3) (.int v :: st)) : jJ f lv w pc st := by
  intro p e s m args below meth c C ls H locs hl hP hz hS
  exact lv_ldcw C.1 C.2.1 C.2.2.2.1 (C.2.2.2.2.1.1 _ hw args) hd (kk p e s m args below meth c C ls H locs hl hP hz hS)
theorem j_ldc2 {f : jF} {lv : List (Nat × Value)} {w : jS} {pc : Nat} {st : List Value} {index : Nat} {v : Int64} (hd : decode (jyc f.2.1) pc = .ok (.ldc2_w index, 3)) (hw : Jvm.Cond.constantLong (jyo f.2.1) index v ∈ jTab) (kk : jJ f lv w (pc + 3) (.long v :: st)) : jJ f lv w pc st := by
  intro p e s m args below meth c C ls H locs hl hP hz hS
  exact lv_ldc2 C.1 C.2.1 C.2.2.2.1 (C.2.2.2.2.1.1 _ hw args) hd (kk p e s m args below meth c C ls H locs hl hP hz hS)
theorem j_lv {f : jF} {lv lv' : List (Nat × Value)} {w : jS} {pc : Nat} {st : List Value} (ks : List Nat) (hs : lv_pick lv ks = lv') (kk : jJ f lv' w pc st) : jJ f lv w pc st := by
  intro p e s m args below meth c C ls H locs hl hP hz hS
  exact kk p e s m args below meth c C ls H locs (lv_sub hl ks hs) hP hz hS
end
section
/-! fields and arrays over jJ -/
def jFld (own : String) (idx ci k : Nat) : Prop := ∃ (C : String) (T : u_T) (N : Nat), jcl[ci]? = some (C, T, N) ∧ k < N ∧ (T k).1 = C ∧
  (Cond.fieldLink own idx C (T k).2.1 (T k).2.2.1 ∈ jTab ∨ ∃ host, Cond.fieldLinkNest own idx C (T k).2.1 (T k).2.2.1 host ∈ jTab)
theorem jre_r {g : jG} {mu : Nat → jE} {q ci : Nat} {fs : List Value} (h : mu q = .inr (ci, fs)) : jre g (mu q) = .inr (ci, fs) := by rw [h]; rfl
theorem jre_l {g : jG} {mu : Nat → jE} {q t : Nat} {a : vp_A} (h : mu q = .inl (t, a)) : jre g (mu q) = .inl (jcA g t, a) := by rw [h]; rfl
theorem jget_r {g : jG} {N : Nat} {mu : Nat → jE} {q ci : Nat} {fs : List Value} (hq : q < N) (h : mu q = .inr (ci, fs)) : (jpool g N mu)[q]? = some (jb g + q, .inr (ci, fs)) := by rw [jpool_get hq, jre_r h]
theorem jget_l {g : jG} {N : Nat} {mu : Nat → jE} {q t : Nat} {a : vp_A} (hq : q < N) (h : mu q = .inl (t, a)) : (jpool g N mu)[q]? = some (jb g + q, .inl (jcA g t, a)) := by rw [jpool_get hq, jre_l h]
theorem jset_r {g : jG} {N : Nat} {mu : Nat → jE} {q ci : Nat} {fs : List Value} {H : Heap} (hq : q < N) (h : va_P (jD g) jcl ((jpool g N mu).set q (jb g + q, .inr (ci, fs))) H) : jP g N (va_up mu q (.inr (ci, fs))) H := by
  unfold jP
  rw [← jpool_set hq]
  exact h
theorem jset_l {g : jG} {N : Nat} {mu : Nat → jE} {q t : Nat} {a : vp_A} {H : Heap} (hq : q < N) (h : va_P (jD g) jcl ((jpool g N mu).set q (jb g + q, .inl (jcA g t, a))) H) : jP g N (va_up mu q (.inl (t, a))) H := by
  unfold jP
  rw [← jpool_set hq]
  exact h
theorem jpush {g : jG} {N : Nat} {mu : Nat → jE} {e : jE} {H H1 : Heap} (hP : jP g N mu H) (ho : ∀ q : Nat, q < H.size → H1[q]? = H[q]?) (he : va_at (jD g) jcl (jb g + N, jre g e) H1) : jP g (N + 1) (va_up mu N e) H1 := by
  unfold jP
  rw [← jpool_push]
  refine va_P.app (va_P.kept hP (fun k q hk => ho q.1 ((hP k q hk).lt))) (fun k x hx => ?_)
  have hz : k < 1 := (List.getElem?_eq_some_iff.mp hx).1
  rw [show k = 0 by omega] at hx
  cases hx
  exact he
theorem jSz.keep {g : jG} {x : Bool} {N : Nat} {H H1 : Heap} (h : jSz g x N H) (e : H1.size = H.size) : jSz g x N H1 := fun hx => e.trans (h hx)
theorem jS_up {g : jG} {H0 H H1 : Heap} {locs : List Loc} (h : va_S (jA g) H0 H locs) (hz : H1.size = H.size + 1) (ho : ∀ q : Nat, q < H.size → H1[q]? = H[q]?) : va_S (jA g) H0 H1 locs :=
  ⟨Nat.le_trans h.1 (by omega), fun q h1 h2 => (ho q (Nat.lt_of_lt_of_le h1 h.1)).trans (h.2.1 q h1 h2), h.2.2⟩
section JM
variable {f : jF} {lv : List (Nat × Value)} {N k n : Nat} {x : Bool} {mu : Nat → jE} {pc : Nat} {st : List Value}
theorem j_getf {idx ci kf q : Nat} {fs : List Value} {v : Value} (hd : decode (jyc f.2.1) pc = .ok (.getfield idx, 3)) (hF : jFld (jyo f.2.1) idx ci kf) (hq : q < N) (hm : mu q = .inr (ci, fs)) (hv : fs[kf]? = some v)
    (kk : jJ f lv (N, mu, x, k, n) (pc + 3) (v :: st)) : jJ f lv (N, mu, x, k, n) pc (.ref (jb f.1 + q) :: st) := by
  intro p e s m args below meth c C ls H locs hl hP hz hS
  obtain ⟨Cn, T, NF, hc, hk, hown, hlink⟩ := hF
  have hts : ∀ w ∈ jTab, w.before args s = true := fun w h => C.2.2.2.2.1.1 w h args
  have hsame : ∀ x, s.fieldFound? (T kf).1 (T kf).2.1 (T kf).2.2.1 = some x → s.fieldFound? Cn (T kf).2.1 (T kf).2.2.1 = some x := fun x hx => by rw [hown] at hx; exact hx
  have k2 := kk p e s m args below meth c C ls H locs hl hP hz hS
  rcases hlink with h | ⟨host, h⟩
  · exact va_get C.1 C.2.1 hts (jcl_in hc) C.2.2.2.1 C.2.2.2.2.1.2.1 hP q (jget_r hq hm) hc kf hk (hts _ h) hsame hv hd k2
  · exact va_getN C.1 C.2.1 hts (jcl_in hc) C.2.2.2.1 C.2.2.2.2.1.2.1 hP q (jget_r hq hm) hc kf hk (hts _ h) hsame hv hd k2
theorem j_putf {idx ci kf q : Nat} {fs : List Value} {v : Value} (hd : decode (jyc f.2.1) pc = .ok (.putfield idx, 3)) (hF : jFld (jyo f.2.1) idx ci kf) (hq : q < N) (hm : mu q = .inr (ci, fs)) (hl2 : kf < fs.length) (hfin : jfin ci kf = false) (hn : narrow (jcty ci kf) v = v) (hfit : fits (jcty ci kf) v = true)
    (kk : jJ f lv (N, va_up mu q (.inr (ci, fs.set kf v)), x, k, n) (pc + 3) st) : jJ f lv (N, mu, x, k, n) pc (v :: .ref (jb f.1 + q) :: st) := by
  intro p e s m args below meth c C ls H locs hl hP hz hS
  obtain ⟨Cn, T, NF, hc, hk, hown, hlink⟩ := hF
  have hts : ∀ w ∈ jTab, w.before args s = true := fun w h => C.2.2.2.2.1.1 w h args
  have hK : va_K (jD f.1) jcl (jtys f.1) s := C.2.2.2.2.1.2.1
  have he := jget_r (g := f.1) hq hm
  have hD := jpool_D f.1 N mu
  have hap := va_apart (own := jyo f.2.1) hts (jcl_in hc) (jcty ci) (jcl_ty hc) (jcl_nm hc) hK hc
  obtain ⟨r, h1, cell, q1, q2, q3, q4⟩ := hP q _ he
  have hr : r = (Cn, T, NF) := Option.some.inj (h1.symm.trans hc)
  subst hr
  obtain ⟨hSl, hfc, kC, hkC, hkind⟩ := hK.1 ci _ hc
  obtain ⟨cf, kf', fi, fd, hi, hsl⟩ := hSl kf hk
  have hlay := hts _ (jcl_in hc _ (u_in_lay hk))
  unfold u_lay at hlay
  rw [if_neg (by rw [jcl_fin hc hk, hfin]; decide)] at hlay
  have hst := (u_facts hfc hkC (u_lays hts (jcl_in hc) hk) hi).1
  have h6 := u_store hfc hkC hkind hlay hi (jcl_ty hc kf hk) hn hfit
  have hi2 : s.fieldFound? Cn (T kf).2.1 (T kf).2.2.1 = some (cf, kf', fi, fd) := by rw [hown] at hi; exact hi
  have go : ∀ H' : Heap, H'[jb f.1 + q]? = some (cell.setSlot fd.slot v) → H'.size = H.size → (∀ q', q' ≠ jb f.1 + q → H'[q']? = H[q']?) → W p (jl f.1) e (jRm f.2.2.1 f.2.2.2.1 f.2.2.2.2.1) s m args below meth c H' (locs ++ [⟨jb f.1 + q, fd.slot⟩]) k n (jZ f.1 below f.2.2.2.1 f.2.2.2.2.1 f.2.2.2.2.2 s) (F0 m (pc + 3) ls st) := by
    intro H' e1 e2 e3
    rw [hsl] at e1 ⊢
    refine kk p e s m args below meth c C ls H' _ hl (jset_r hq (hP.set hD he ⟨_, hc, t_OB.to (V := updV (vp_V fs) kf v) ⟨_, e1, q2, q3, t_set q4 hap hk v⟩ (fun j _ => vp_updV_set hl2 v j)⟩ e3)) (hz.keep e2) (hS.put e2 e3 (Nat.le_add_right _ _))
  rcases hlink with h | ⟨host, h⟩
  · exact W.putK C.1 C.2.1 (f := fd) ⟨C.2.2.2.1, hts _ h, ⟨_, _, _, hi2⟩, hst⟩ (by rw [q2]; exact h6) q1 q3 (by rw [hsl]; exact k2_hasslot (q4 kf hk)) rfl rfl hd go
  · exact va_WputK C.1 C.2.1 (f := fd) C.2.2.2.1 (hts _ h) hi2 hst (by rw [q2]; exact h6) q1 q3 (by rw [hsl]; exact k2_hasslot (q4 kf hk)) rfl rfl hd go
/-- a final field, in its class's constructor -/
theorem j_putF {idx ci kf q : Nat} {fs : List Value} {v : Value} (hd : decode (jyc f.2.1) pc = .ok (.putfield idx, 3)) (hF : jFld (jyo f.2.1) idx ci kf) (hC : (jcl[ci]?).map (fun r => r.1) = some (jyo f.2.1)) (hnm : (jyn f.2.1).name = "<init>") (hq : q < N) (hm : mu q = .inr (ci, fs)) (hl2 : kf < fs.length) (hfin : jfin ci kf = true) (hn : narrow (jcty ci kf) v = v) (hfit : fits (jcty ci kf) v = true)
    (kk : jJ f lv (N, va_up mu q (.inr (ci, fs.set kf v)), x, k, n) (pc + 3) st) : jJ f lv (N, mu, x, k, n) pc (v :: .ref (jb f.1 + q) :: st) := by
  intro p e s m args below meth c C ls H locs hl hP hz hS
  obtain ⟨Cn, T, NF, hc, hk, hown, hlink⟩ := hF
  have hCn : Cn = jyo f.2.1 := by rw [hc] at hC; exact Option.some.inj hC
  have hts : ∀ w ∈ jTab, w.before args s = true := fun w h => C.2.2.2.2.1.1 w h args
  have hK : va_K (jD f.1) jcl (jtys f.1) s := C.2.2.2.2.1.2.1
  have he := jget_r (g := f.1) hq hm
  have hD := jpool_D f.1 N mu
  have hap := va_apart (own := jyo f.2.1) hts (jcl_in hc) (jcty ci) (jcl_ty hc) (jcl_nm hc) hK hc
  obtain ⟨r, h1, cell, q1, q2, q3, q4⟩ := hP q _ he
  have hr : r = (Cn, T, NF) := Option.some.inj (h1.symm.trans hc)
  subst hr
  obtain ⟨hSl, hfc, kC, hkC, hkind⟩ := hK.1 ci _ hc
  obtain ⟨cf, kf', fi, fd, hi, hsl⟩ := hSl kf hk
  have hlay := hts _ (jcl_in hc _ (u_in_lay hk))
  unfold u_lay at hlay
  rw [if_pos (by rw [jcl_fin hc hk, hfin])] at hlay
  have hst := (u_facts hfc hkC (u_lays hts (jcl_in hc) hk) hi).1
  have hcf : m.cls = cf := by
    obtain ⟨_, _, c', _, _, _, -, -, hf', -, -, -, hown2, -⟩ := Cond.laysFinal_spec hlay
    have e1 : c' = cf := by have := hi.symm.trans hf'; simp at this; exact this.1.symm
    rw [hown, hCn] at hown2
    rw [← e1]; exact Option.some.inj (C.2.2.2.1.symm.trans hown2)
  have h6 := u_fits hfc hkC hkind (Or.inr hlay) hi (jcl_ty hc kf hk) hn hfit
  have hi2 : s.fieldFound? Cn (T kf).2.1 (T kf).2.2.1 = some (cf, kf', fi, fd) := by rw [hown] at hi; exact hi
  have go : ∀ H' : Heap, H'[jb f.1 + q]? = some (cell.setSlot fd.slot v) → H'.size = H.size → (∀ q', q' ≠ jb f.1 + q → H'[q']? = H[q']?) → W p (jl f.1) e (jRm f.2.2.1 f.2.2.2.1 f.2.2.2.2.1) s m args below meth c H' (locs ++ [⟨jb f.1 + q, fd.slot⟩]) k n (jZ f.1 below f.2.2.2.1 f.2.2.2.2.1 f.2.2.2.2.2 s) (F0 m (pc + 3) ls st) := by
    intro H' e1 e2 e3
    rw [hsl] at e1 ⊢
    refine kk p e s m args below meth c C ls H' _ hl (jset_r hq (hP.set hD he ⟨_, hc, t_OB.to (V := updV (vp_V fs) kf v) ⟨_, e1, q2, q3, t_set q4 hap hk v⟩ (fun j _ => vp_updV_set hl2 v j)⟩ e3)) (hz.keep e2) (hS.put e2 e3 (Nat.le_add_right _ _))
  rcases hlink with h | ⟨host, h⟩
  · exact W.putFinK C.1 C.2.1 C.2.2.2.1 (hts _ h) hi2 hst hcf (C.2.2.2.2.2.2.2.1.trans hnm) (by rw [q2]; exact h6) q1 q3 (by rw [hsl]; exact k2_hasslot (q4 kf hk)) rfl rfl hd go
  · have ha : jb f.1 + q < H.size := (Array.getElem?_eq_some_iff.mp q1).1
    refine va_Wputf C.1 C.2.1 C.2.2.2.1 (hts _ h) hi2 hst (Or.inr ⟨hcf, C.2.2.2.2.2.2.2.1.trans hnm⟩) q1 (by rw [q3]; exact fun h => by cases h) (by rw [hsl]; exact k2_hasslot (q4 kf hk)) h6.1 (by rw [q2, q3]; exact h6.2) rfl rfl hd ?_
    refine go _ ?_ ?_ ?_
    · simp [Array.getElem?_setIfInBounds, ha]
    · simp
    · intro q' hq'
      simp [Array.getElem?_setIfInBounds, Ne.symm hq']
theorem j_iald {t q na : Nat} {a : Nat → Int32} {i : Int32} (hd : decode (jyc f.2.1) pc = .ok (.iaload, 1)) (hq : q < N) (hm : mu q = .inl (t, na, .inl a)) (ht : jtyl[t]? = some .int) (hi : vp_in i na)
    (kk : jJ f lv (N, mu, x, k, n) (pc + 1) (.int (a i.toNatClampNeg) :: st)) : jJ f lv (N, mu, x, k, n) pc (.int i :: .ref (jb f.1 + q) :: st) := by
  intro p e s m args below meth c C ls H locs hl hP hz hS
  exact va_iald C.1 C.2.1 C.2.2.2.2.1.2.1 hP q t (jget_l hq hm) (jtys_get ht) hi hd (kk p e s m args below meth c C ls H locs hl hP hz hS)
theorem j_zald {t q na : Nat} {a : Nat → Int32} {i : Int32} (hd : decode (jyc f.2.1) pc = .ok (.baload, 1)) (hq : q < N) (hm : mu q = .inl (t, na, .inl a)) (ht : jtyl[t]? = some .boolean) (hi : vp_in i na)
    (kk : jJ f lv (N, mu, x, k, n) (pc + 1) (.int (a i.toNatClampNeg) :: st)) : jJ f lv (N, mu, x, k, n) pc (.int i :: .ref (jb f.1 + q) :: st) := by
  intro p e s m args below meth c C ls H locs hl hP hz hS
  exact va_zald C.1 C.2.1 C.2.2.2.2.1.2.1 hP q t (jget_l hq hm) (jtys_get ht) hi hd (kk p e s m args below meth c C ls H locs hl hP hz hS)
theorem j_lald {t q na : Nat} {a : Nat → Int64} {i : Int32} (hd : decode (jyc f.2.1) pc = .ok (.laload, 1)) (hq : q < N) (hm : mu q = .inl (t, na, .inr (.inl a))) (ht : jtyl[t]? = some .long) (hi : vp_in i na)
    (kk : jJ f lv (N, mu, x, k, n) (pc + 1) (.long (a i.toNatClampNeg) :: st)) : jJ f lv (N, mu, x, k, n) pc (.int i :: .ref (jb f.1 + q) :: st) := by
  intro p e s m args below meth c C ls H locs hl hP hz hS
  exact va_lald C.1 C.2.1 C.2.2.2.2.1.2.1 hP q t (jget_l hq hm) (jtys_get ht) hi hd (kk p e s m args below meth c C ls H locs hl hP hz hS)
theorem j_aald {t q na : Nat} {Cn : String} {a : Nat → Option Nat} {i : Int32} (hd : decode (jyc f.2.1) pc = .ok (.aaload, 1)) (hq : q < N) (hm : mu q = .inl (t, na, .inr (.inr (.inr (.inr a))))) (ht : jtyl[t]? = some (.object Cn)) (hi : vp_in i na)
    (kk : jJ f lv (N, mu, x, k, n) (pc + 1) (va_rf (a i.toNatClampNeg) :: st)) : jJ f lv (N, mu, x, k, n) pc (.int i :: .ref (jb f.1 + q) :: st) := by
  intro p e s m args below meth c C ls H locs hl hP hz hS
  exact va_aldq C.1 C.2.1 C.2.2.2.2.1.2.1 hP q t (jget_l hq hm) (jtys_get ht) hi hd (kk p e s m args below meth c C ls H locs hl hP hz hS)
theorem j_alen {t q : Nat} {a : vp_A} {ty : FieldType} {v : Int32} (hd : decode (jyc f.2.1) pc = .ok (.arraylength, 1)) (hq : q < N) (hm : mu q = .inl (t, a)) (ht : jtyl[t]? = some ty) (hv : Int32.ofNat a.1 = v)
    (kk : jJ f lv (N, mu, x, k, n) (pc + 1) (.int v :: st)) : jJ f lv (N, mu, x, k, n) pc (.ref (jb f.1 + q) :: st) := by
  intro p e s m args below meth c C ls H locs hl hP hz hS
  exact va_alen C.1 C.2.1 C.2.2.2.2.1.2.1 hP q t (jget_l hq hm) (jtys_get ht) hv hd (kk p e s m args below meth c C ls H locs hl hP hz hS)
theorem j_iast {t q na : Nat} {a : Nat → Int32} {i v : Int32} (hd : decode (jyc f.2.1) pc = .ok (.iastore, 1)) (hq : q < N) (hm : mu q = .inl (t, na, .inl a)) (ht : jtyl[t]? = some .int) (hi : vp_in i na)
    (kk : jJ f lv (N, va_up mu q (.inl (t, na, .inl (upd a i.toNatClampNeg v))), x, k, n) (pc + 1) st) : jJ f lv (N, mu, x, k, n) pc (.int v :: .int i :: .ref (jb f.1 + q) :: st) := by
  intro p e s m args below meth c C ls H locs hl hP hz hS
  have he := jget_l (g := f.1) hq hm
  refine W.iast C.1 C.2.1 (hP q _ he) ((C.2.2.2.2.1.2.1.2 t _ (jtys_get ht)).1 na (fun j => .int (a j))) (fun q => by cases q) (by show ¬ (i < 0 ∨ (arrV _ _ _).slots.size ≤ _); rw [arrV_size]; exact hi) rfl rfl hd fun H1 e1 z oq => ?_
  refine kk p e s m args below meth c C ls H1 _ hl (jset_l hq (hP.set (jpool_D f.1 N mu) he ?_ oq)) (hz.keep z) (hS.put z oq (Nat.le_add_right _ _))
  show H1[jb f.1 + q]? = some (vp_cell _ _)
  rw [e1, vp_cell_i, vp_cell_i, arrV_store]
  congr 2
  funext j
  by_cases hj : j = i.toNatClampNeg
  · subst hj
    simp [updV, upd]
  · simp [updV, upd, hj]
theorem j_zast {t q na : Nat} {a : Nat → Int32} {i v : Int32} (hd : decode (jyc f.2.1) pc = .ok (.bastore, 1)) (hq : q < N) (hm : mu q = .inl (t, na, .inl a)) (ht : jtyl[t]? = some .boolean) (hi : vp_in i na) (hv : narrow .boolean (.int v) = .int v)
    (kk : jJ f lv (N, va_up mu q (.inl (t, na, .inl (upd a i.toNatClampNeg v))), x, k, n) (pc + 1) st) : jJ f lv (N, mu, x, k, n) pc (.int v :: .int i :: .ref (jb f.1 + q) :: st) := by
  intro p e s m args below meth c C ls H locs hl hP hz hS
  have he := jget_l (g := f.1) hq hm
  refine W.zast C.1 C.2.1 (hP q _ he) ((C.2.2.2.2.1.2.1.2 t _ (jtys_get ht)).1 na (fun j => .int (a j))) (fun q => by cases q) (by show ¬ (i < 0 ∨ (arrV _ _ _).slots.size ≤ _); rw [arrV_size]; exact hi) rfl rfl hd fun H1 e1 z oq => ?_
  rw [hv] at e1
  refine kk p e s m args below meth c C ls H1 _ hl (jset_l hq (hP.set (jpool_D f.1 N mu) he ?_ oq)) (hz.keep z) (hS.put z oq (Nat.le_add_right _ _))
  show H1[jb f.1 + q]? = some (vp_cell _ _)
  rw [e1, vp_cell_i, vp_cell_i, arrV_store]
  congr 2
  funext j
  by_cases hj : j = i.toNatClampNeg
  · subst hj
    simp [updV, upd]
  · simp [updV, upd, hj]
theorem j_last {t q na : Nat} {a : Nat → Int64} {i : Int32} {v : Int64} (hd : decode (jyc f.2.1) pc = .ok (.lastore, 1)) (hq : q < N) (hm : mu q = .inl (t, na, .inr (.inl a))) (ht : jtyl[t]? = some .long) (hi : vp_in i na)
    (kk : jJ f lv (N, va_up mu q (.inl (t, na, .inr (.inl (vp_updL a i.toNatClampNeg v)))), x, k, n) (pc + 1) st) : jJ f lv (N, mu, x, k, n) pc (.long v :: .int i :: .ref (jb f.1 + q) :: st) := by
  intro p e s m args below meth c C ls H locs hl hP hz hS
  have he := jget_l (g := f.1) hq hm
  refine W.last C.1 C.2.1 (hP q _ he) ((C.2.2.2.2.1.2.1.2 t _ (jtys_get ht)).1 na (fun j => .long (a j))) (fun q => by cases q) (by show ¬ (i < 0 ∨ (arrV _ _ _).slots.size ≤ _); rw [arrV_size]; exact hi) rfl rfl hd fun H1 e1 z oq => ?_
  refine kk p e s m args below meth c C ls H1 _ hl (jset_l hq (hP.set (jpool_D f.1 N mu) he ?_ oq)) (hz.keep z) (hS.put z oq (Nat.le_add_right _ _))
  show H1[jb f.1 + q]? = some (vp_cell _ _)
  rw [e1, vp_cell_l, vp_cell_l, arrV_store]
  congr 2
  funext j
  by_cases hj : j = i.toNatClampNeg
  · subst hj
    simp [updV, vp_updL]
  · simp [updV, vp_updL, hj]
theorem j_aast {t q na v ci : Nat} {r : vw_C} {vs : List Value} {a : Nat → Option Nat} {i : Int32} (hd : decode (jyc f.2.1) pc = .ok (.aastore, 1)) (hq : q < N) (hm : mu q = .inl (t, na, .inr (.inr (.inr (.inr a))))) (hv : v < N) (hmv : mu v = .inr (ci, vs)) (hc : jcl[ci]? = some r) (ht : jtyl[t]? = some (.object r.1)) (hi : vp_in i na)
    (kk : jJ f lv (N, va_up mu q (.inl (t, na, .inr (.inr (.inr (.inr (va_up a i.toNatClampNeg (some (jb f.1 + v)))))))), x, k, n) (pc + 1) st) : jJ f lv (N, mu, x, k, n) pc (.ref (jb f.1 + v) :: .int i :: .ref (jb f.1 + q) :: st) := by
  intro p e s m args below meth c C ls H locs hl hP hz hS
  have he := jget_l (g := f.1) hq hm
  have hK : va_K (jD f.1) jcl (jtys f.1) s := C.2.2.2.2.1.2.1
  have hlt : i.toNatClampNeg < na := Nat.not_le.mp fun q => hi (Or.inr q)
  have h0 : ¬ i < 0 := fun q => hi (Or.inl q)
  obtain ⟨r', hr', cellV, g1, g2, g3, -⟩ := hP v _ (jget_r (g := f.1) hv hmv)
  have hcls := (hK.1 ci r hc).2
  obtain ⟨kA, comp, k1, k2, k3, -⟩ := (hK.2 t _ (jtys_get ht)).2
  have hcomp : comp = (jD f.1).1 ci := Option.some.inj (k3.symm.trans hcls.1)
  subst hcomp
  obtain ⟨kC, hkC, -⟩ := hcls.2
  refine W.aast C.1 C.2.1 (hP q _ he) (fun q h => by cases h) (fun h => by cases h) k1 k2 rfl hkC ⟨h0, by show _ < (arrV _ _ _).slots.size; rw [arrV_size]; exact hlt⟩ g1 (fun q h => by rw [g3] at h; cases h) (by rw [g2]; exact hkC) (by rw [g2]; exact va_assign hcls) rfl rfl hd fun H1 e1 z oq => ?_
  refine kk p e s m args below meth c C ls H1 _ hl (jset_l hq (hP.set (jpool_D f.1 N mu) he ?_ oq)) (hz.keep z) (hS.put z oq (Nat.le_add_right _ _))
  show H1[jb f.1 + q]? = some (vp_cell _ _)
  rw [e1, vp_cell_q, vp_cell_q, arrV_store]
  congr 2
  funext j
  by_cases hj : j = i.toNatClampNeg
  · subst hj
    simp [updV, va_up, va_rf]
  · simp [updV, va_up, hj]
theorem j_new {idx ci nf : Nat} {Cn : String} {T : u_T} {fs : List Value} (hd : decode (jyc f.2.1) pc = .ok (.new idx, 3)) (hc : jcl[ci]? = some (Cn, T, nf)) (hl : Cond.classLink (jyo f.2.1) idx Cn ∈ jTab) (hi : Cond.instantiable Cn nf ∈ jTab) (hini : Cond.initialized Cn ∈ jTab) (hfs : ∀ j, j < nf → defaultValue (jcty ci j) = vp_V fs j) (hk : k + 1 ≤ f.2.2.2.1) (hn : n + nf ≤ f.2.2.2.2.1)
    (kk : jJ f lv (N + 1, va_up mu N (.inr (ci, fs)), true, k + 1, n + nf) (pc + 3) (.ref (jb f.1 + N) :: st)) : jJ f lv (N, mu, true, k, n) pc st := by
  intro p e s m args below meth c C ls H locs hlv hP hz hS
  have hts : ∀ w ∈ jTab, w.before args s = true := fun w h => C.2.2.2.2.1.1 w h args
  have hK : va_K (jD f.1) jcl (jtys f.1) s := C.2.2.2.2.1.2.1
  have hKn := hK.1 ci _ hc
  refine W.newcK C.1 C.2.1 C.2.2.2.1 (hts _ hl) (hts _ hi) (hts _ hini) rfl hd hk hn hKn.2.1 (hz rfl) fun H1 kC hkC e1 z1 o1 => ?_
  have o2 : ∀ q : Nat, q < H.size → H1[q]? = H[q]? := fun q hq => o1 q (by rw [← hz rfl]; exact hq)
  exact kk p e s m args below meth c C ls H1 locs hlv (jpush hP o2 ⟨_, hc, (u_born (jcty ci) hts (jcl_in hc) hKn hkC e1 (jcl_ty hc)).to hfs⟩) (fun _ => z1) (jS_up hS (by rw [z1, hz rfl]) o2)
theorem j_newa {at' : ArrayType} {t na : Nat} {ty : FieldType} {a0 : vp_A} {i : Int32} (hd : decode (jyc f.2.1) pc = .ok (.newarray at', 2)) (hty : newarray.typeOf at' = ty) (hw : Cond.arrayClass ty ∈ jTab) (ht : jtyl[t]? = some ty) (ha : ∀ cA : ClassId, vp_cell cA a0 = arrV cA na (fun _ => defaultValue ty)) (hi : ¬ i < 0) (hN : i.toNatClampNeg = na) (hby : na * componentBytes ty ≤ 536870912) (hk : k + 1 ≤ f.2.2.2.1) (hn : n + na ≤ f.2.2.2.2.1)
    (kk : jJ f lv (N + 1, va_up mu N (.inl (t, a0)), true, k + 1, n + na) (pc + 2) (.ref (jb f.1 + N) :: st)) : jJ f lv (N, mu, true, k, n) pc (.int i :: st) := by
  intro p e s m args below meth c C ls H locs hlv hP hz hS
  have hts : ∀ w ∈ jTab, w.before args s = true := fun w h => C.2.2.2.2.1.1 w h args
  have hK : va_K (jD f.1) jcl (jtys f.1) s := C.2.2.2.2.1.2.1
  subst hty
  refine va_newaK C.1 C.2.1 (hts _ hw) rfl hd rfl hi hN hby hk hn (hz rfl) fun H1 cA e1 z1 o1 hAr hNm => ?_
  have hcA : cA = jcA f.1 t := by
    have h2 := (hK.2 t _ (jtys_get ht)).2
    have h3 : s.vm.findClass ("[" ++ (newarray.typeOf at').toString) = some (jcA f.1 t) := by cases at' <;> exact h2
    exact Option.some.inj (hNm.symm.trans h3)
  subst hcA
  have o2 : ∀ q : Nat, q < H.size → H1[q]? = H[q]? := fun q hq => o1 q (by rw [← hz rfl]; exact hq)
  refine kk p e s m args below meth c C ls H1 locs hlv (jpush hP o2 ?_) (fun _ => z1) (jS_up hS (by rw [z1, hz rfl]) o2)
  show H1[jb f.1 + N]? = some (vp_cell _ _)
  rw [ha]
  exact e1
theorem j_anew {idx t na : Nat} {Cn : String} {i : Int32} (hd : decode (jyc f.2.1) pc = .ok (.anewarray idx, 3)) (hw : Cond.classLink (jyo f.2.1) idx Cn ∈ jTab) (hw2 : Cond.arrayOver (.object Cn) ∈ jTab) (ht : jtyl[t]? = some (.object Cn)) (hi : ¬ i < 0) (hN : i.toNatClampNeg = na) (hby : na * 4 ≤ 536870912) (hk : k + 1 ≤ f.2.2.2.1) (hn : n + na ≤ f.2.2.2.2.1)
    (kk : jJ f lv (N + 1, va_up mu N (.inl (t, na, .inr (.inr (.inr (.inr (fun _ => none)))))), true, k + 1, n + na) (pc + 3) (.ref (jb f.1 + N) :: st)) : jJ f lv (N, mu, true, k, n) pc (.int i :: st) := by
  intro p e s m args below meth c C ls H locs hlv hP hz hS
  have hts : ∀ w ∈ jTab, w.before args s = true := fun w h => C.2.2.2.2.1.1 w h args
  have hK : va_K (jD f.1) jcl (jtys f.1) s := C.2.2.2.2.1.2.1
  subst hN
  have hH := hz rfl
  refine W.anew C.1 C.2.1 C.2.2.2.1 (hts _ hw) (hts _ hw2) rfl hd rfl hi hby hk hn fun cA kA comp f1 f2 f3 f4 => ?_
  have hcA : cA = jcA f.1 t := by
    obtain ⟨kA', comp', g1, g2, g3, g4⟩ := (hK.2 t _ (jtys_get ht)).2
    exact Option.some.inj (f1.symm.trans g4)
  subst hcA
  generalize hH1 : H.push ({ cls := jcA f.1 t, slots := Array.replicate i.toNatClampNeg .null, vm := .none } : Cell) = H1
  have z1 : H1.size = H.size + 1 := by rw [← hH1, Array.size_push]
  have e1 : H1[H.size]? = some (arrV (jcA f.1 t) i.toNatClampNeg (fun _ => .null)) := by rw [← hH1, Array.getElem?_push_size, ← arrV_new]
  have o1 : ∀ q : Nat, q < H.size → H1[q]? = H[q]? := fun q hq => by rw [← hH1, Array.getElem?_push, if_neg (Nat.ne_of_lt hq)]
  rw [hH] at e1 ⊢
  refine kk p e s m args below meth c C ls H1 locs hlv (jpush hP o1 ?_) (fun _ => by rw [z1, hH]; rfl) (jS_up hS z1 o1)
  show H1[jb f.1 + N]? = some (vp_cell _ _)
  rw [vp_cell_q]
  exact e1
end JM
end
section
/-! a method's end and its beginning -/
theorem jW.mono {p : Program} {l : Launch} {e : Env} {R : Room} {s : State} {m : MethodId} {args : Array Value} {below : List Frame} {meth : Method} {c : Code} {H : Heap} {locs : List Loc} {cells slots : Nat} {Q Q' : State → Prop} {g : JFrame}
    (h : W p l e R s m args below meth c H locs cells slots Q g) (hQ : ∀ t, Q t → Q' t) : W p l e R s m args below meth c H locs cells slots Q' g := by
  intro T hT X
  obtain ⟨t, a, b⟩ := h T hT X
  exact ⟨t, a, hQ t b⟩
def jQc (g : jG) (Q : jQ) : Array Value → State → Outcome → State → Prop := fun _ s o t => va_F (jA g) s t ∧ ∃ (r : jRes) (N : Nat) (mu : Nat → jE) (x : Bool), Q r N mu x ∧ jOut s t r o ∧ jP g N mu t.heap ∧ jSz g x N t.heap
theorem jZ_of {g : jG} {below : List Frame} {Q : jQ} {args : Array Value} {s : State} {kC kS : Nat} (t : State) (h : MQ below (jQc g Q) args s kC kS (fun q => jb g ≤ q) t) : jZ g below kC kS Q s t := by
  obtain ⟨o, h1, h2, ⟨hF, hr⟩, L, ⟨-, hW, hsame⟩, hL⟩ := h
  exact ⟨o, h1, h2, hW, ⟨L, hsame, hL⟩, hF, hr⟩
section JR
variable {f : jF} {lv : List (Nat × Value)} {N k n : Nat} {x : Bool} {mu : Nat → jE} {pc : Nat}
theorem j_iret {v : Int32} (hd : decode (jyc f.2.1) pc = .ok (.ireturn, 1)) (hr : jyr f.2.1 = some .int) (hk : k ≤ f.2.2.2.1) (hn : n ≤ f.2.2.2.2.1) (hQ : f.2.2.2.2.2 (.inl (some (.int v))) N mu x) : jJ f lv (N, mu, x, k, n) pc [.int v] := by
  intro p e s m args below meth c C ls H locs hl hP hz hS
  refine W.widen hk hn (jW.mono (W.iret (Qc := jQc f.1 f.2.2.2.2.2) (free := fun q => jb f.1 ≤ q) C.1 C.2.1 (C.2.2.2.2.2.1.trans hr) (fun t ht hW => ⟨hS.F ht, _, _, _, _, hQ, rfl, ?_, ?_⟩) hS.2.2 hd C.2.2.2.2.2.2.1) jZ_of)
  · rw [ht]; exact hP
  · rw [ht]; exact hz
theorem j_zret {v : Int32} {ty : FieldType} (hd : decode (jyc f.2.1) pc = .ok (.ireturn, 1)) (hr : jyr f.2.1 = some ty) (hv : narrow ty (.int v) = .int v) (hk : k ≤ f.2.2.2.1) (hn : n ≤ f.2.2.2.2.1) (hQ : f.2.2.2.2.2 (.inl (some (.int v))) N mu x) : jJ f lv (N, mu, x, k, n) pc [.int v] := by
  intro p e s m args below meth c C ls H locs hl hP hz hS
  refine W.widen hk hn (jW.mono (W.zret (Qc := jQc f.1 f.2.2.2.2.2) (free := fun q => jb f.1 ≤ q) C.1 C.2.1 (C.2.2.2.2.2.1.trans hr) hv (fun t ht hW => ⟨hS.F ht, _, _, _, _, hQ, rfl, ?_, ?_⟩) hS.2.2 hd C.2.2.2.2.2.2.1) jZ_of)
  · rw [ht]; exact hP
  · rw [ht]; exact hz
theorem j_lret {v : Int64} (hd : decode (jyc f.2.1) pc = .ok (.lreturn, 1)) (hr : jyr f.2.1 = some .long) (hk : k ≤ f.2.2.2.1) (hn : n ≤ f.2.2.2.2.1) (hQ : f.2.2.2.2.2 (.inl (some (.long v))) N mu x) : jJ f lv (N, mu, x, k, n) pc [.long v] := by
  intro p e s m args below meth c C ls H locs hl hP hz hS
  refine W.widen hk hn (jW.mono (W.lret (Qc := jQc f.1 f.2.2.2.2.2) (free := fun q => jb f.1 ≤ q) C.1 C.2.1 (C.2.2.2.2.2.1.trans hr) (fun t ht hW => ⟨hS.F ht, _, _, _, _, hQ, rfl, ?_, ?_⟩) hS.2.2 hd C.2.2.2.2.2.2.1) jZ_of)
  · rw [ht]; exact hP
  · rw [ht]; exact hz
theorem j_vret (hd : decode (jyc f.2.1) pc = .ok (.return_, 1)) (hr : jyr f.2.1 = none) (hk : k ≤ f.2.2.2.1) (hn : n ≤ f.2.2.2.2.1) (hQ : f.2.2.2.2.2 (.inl none) N mu x) : jJ f lv (N, mu, x, k, n) pc [] := by
  intro p e s m args below meth c C ls H locs hl hP hz hS
  refine W.widen hk hn (jW.mono (W.vret (Qc := jQc f.1 f.2.2.2.2.2) (free := fun q => jb f.1 ≤ q) C.1 C.2.1 (C.2.2.2.2.2.1.trans hr) (fun t ht hW => ⟨hS.F ht, _, _, _, _, hQ, rfl, ?_, ?_⟩) hS.2.2 hd C.2.2.2.2.2.2.1) jZ_of)
  · rw [ht]; exact hP
  · rw [ht]; exact hz
end JR
theorem jcw_with {y : jY} {args : Array Value} {s : State} (h : (jcw y).before args s = true) : (Cond.codeWith (jyn y) (jyc y) (jyL y) (jyr y) (jyh y)).before args s = true := by
  unfold jcw at h
  split at h
  next hh =>
    have e1 : (Cond.code (jyn y) (jyc y) (jyL y) (jyr y)).before args s = (Cond.codeWith (jyn y) (jyc y) (jyL y) (jyr y) []).before args s := by simp only [Cond.before, Cond.holds, Cond.code_iff_codeWith_nil]
    rw [hh, ← e1]
    exact h
  next => exact h
/-- a method's walk from its entry is its contract -/
theorem j_entry {g : jG} {y : jY} {d : Nat × Nat} {kC kS : Nat} {as : List Value} {N : Nat} {mu : Nat → jE} {x : Bool} {Q : jQ} (hpl : plainName (jyn y).cls = true) (hown : (jyn y).cls = jyo y) (hlen : (lg_sl as).length ≤ jyL y)
    (hJ : jJ (g, y, d, kC, kS, Q) (lv_args 0 as) (N, mu, x, 0, 0) 0 []) : jMet g y d kC kS as N mu x Q := by
  refine MetFree.of_bodyS (code := jyc y) (maxLocals := jyL y) (ret := jyr y) hpl ?_ ?_
  · intro args s m h hn
    obtain ⟨m9, meth, c, hn9, h1, h2, h3, h4, -, h5, h6, -⟩ := Cond.codeWith_spec (jcw_with (atoms_spec (ws := [jcw y]) h _ List.mem_cons_self))
    cases hn.symm.trans hn9
    exact ⟨meth, c, h1, h2, h3, h4, h5, h6⟩
  · intro p e s m args below meth c s₁ B hml hP _
    obtain ⟨rfl, hH, hPo, hz⟩ := hP
    have hh0 : s₁.heap = s.heap := by rw [B.state]; rfl
    have X0 := Stand.of_body B
    obtain ⟨m9, meth', c', hn9, h1, h2, -, -, ht, -, -, -⟩ := Cond.codeWith_spec (jcw_with (atoms_spec (ws := [jcw y]) B.pre _ List.mem_cons_self))
    cases B.named.symm.trans hn9
    cases B.method.symm.trans h1
    cases X0.code.symm.trans h2
    have C : jCx g y p s m meth c := ⟨B.exec, B.bytes, hml, by rw [← hown]; exact findClass_of_methodNamed B.named, hH, B.returns, B.notSynchronized, (name_of_methodNamed B.named B.method).1, by rw [← table_eq c.exceptionTable.toList, ht]⟩
    have hl := lv_entry as hlen
    have hW := hJ p e s m as.toArray below meth c C _ s.heap [] hl hPo hz va_S.rf
    rw [← lg_entry_eq] at hW
    obtain ⟨t, a1, o, b1, b2, b3⟩ := hW s₁ hh0 X0
    exact ⟨t, o, a1, b1, b2, b3⟩
end
section
/-! calls of methods that return -/
theorem jHyp.to {g : jG} {s U : State} (h : jHyp g s) (hW : s.WarmedH U.vm) (hz : s.heap.size ≤ U.heap.size) (ho : ∀ q : Nat, q < jb g → U.heap[q]? = s.heap[q]?) : jHyp g U := by
  obtain ⟨h1, h2, h3, ⟨h4, h5⟩, h6, h7⟩ := h
  exact ⟨fun w hw A => jTab_warm hw hW (h1 w hw), va_K.moved hW.alike h2, Nat.le_trans h3 hz, ⟨h4, (h5.moved hW.alike).kept (ho _ h4)⟩, jFor_to h6 hW (Nat.le_trans h3 (Nat.le_refl _)) ho, h7⟩
theorem jHyp.calling {g : jG} {U : State} (h : jHyp g U) (fr : JFrame) (mk : MethodId) (a : Array Value) : jHyp g (U.calling fr mk a) :=
  h.to (U := U.calling fr mk a) (State.WarmedH.refl U) (Nat.le_refl _) (fun _ _ => rfl)
def jPc (g : jG) (as : List Value) (N : Nat) (mu : Nat → jE) (x : Bool) : Array Value → State → Prop := fun a U => a = as.toArray ∧ jHyp g U ∧ jP g N mu U.heap ∧ jSz g x N U.heap
theorem jPc_blind {g : jG} {as : List Value} {N : Nat} {mu : Nat → jE} {x : Bool} : FrameBlind (jPc g as N mu x) := fun _ U fr mk ⟨h1, h2, h3, h4⟩ => ⟨h1, h2.calling fr mk _, h3, h4⟩
theorem jMet.met {g : jG} {y : jY} {d : Nat × Nat} {kC kS : Nat} {as : List Value} {N : Nat} {mu : Nat → jE} {x : Bool} {Q : jQ} (hM : jMet g y d kC kS as N mu x Q) (hret : ∀ r N' mu' x', Q r N' mu' x' → ∃ v, r = .inl v) :
    Met (jl g) (jyn y) [jcw y] (jRm d kC kS) (jPc g as N mu x) (fun _ s o t => jEnd g kC kS Q s o t) kC kS (fun q => jb g ≤ q) := by
  intro p e h1 h2 h3 s m args below h4 h5 h6 h7
  obtain ⟨n, o, a1, a2, a3, hE⟩ := hM p e h1 h2 h3 s m args below h4 h5 h6 h7
  refine ⟨n, o, a1, a2, a3, hE, ?_⟩
  obtain ⟨b1, ⟨L, b2, b3⟩, b4, r, N', mu', x', c1, c2, -⟩ := hE
  obtain ⟨v, rfl⟩ := hret _ _ _ _ c1
  exact ⟨L, ⟨⟨v, c2⟩, b1, b2⟩, b3⟩
/-- what the tables say of a callee -/
def jMth (y : jY) (na : Nat) : Prop := jyh y = [] ∧ Cond.code (jyn y) (jyc y) (jyL y) (jyr y) ∈ jTab ∧ Cond.initialized (jyn y).cls ∈ jTab ∧ ((jyn y).cls ≠ "java/lang/invoke/MethodHandle" ∧ (jyn y).cls ≠ "java/lang/invoke/VarHandle") ∧
  (parseMethodDescriptor (jyn y).desc).map (fun d => d.parameters.length) = some na
def jLnk (own : String) (idx : Nat) (y : jY) : Prop := Cond.methodLink own idx (jyn y) ∈ jTab ∨ ∃ host, Cond.methodLinkNest own idx (jyn y) host ∈ jTab
section JC
variable {f : jF} {lv : List (Nat × Value)} {N k n : Nat} {x : Bool} {mu : Nat → jE} {pc : Nat} {st0 rest : List Value}
/-- behind a call: the callee's end -/
theorem j_run {kC' kS' : Nat} {Q' : jQ}
    (hr : ∀ (p : Program) (e : Env) (s : State) (m : MethodId) (args : Array Value) (below : List Frame) (meth : Method) (c : Code), jCx f.1 f.2.1 p s m meth c →
      ∀ (ls : Array Slot) (H : Heap) (locs : List Loc), ls.size = jyL f.2.1 → jP f.1 N mu H → jSz f.1 x N H → va_S (jA f.1) s.heap H locs →
        va_Run p (jl f.1) e (jRm f.2.2.1 f.2.2.2.1 f.2.2.2.2.1) s m args below meth c H locs k n kC' kS' (F0 m pc ls st0) rest (fun s o t => jEnd f.1 kC' kS' Q' s o t) (fun q => jb f.1 ≤ q))
    (kk : ∀ v N' mu' x', Q' (.inl v) N' mu' x' → jJ f lv (N', mu', x', k + kC', n + kS') (pc + 3) (v.toList ++ rest)) (hret : ∀ r N' mu' x', Q' r N' mu' x' → ∃ v, r = .inl v) : jJ f lv (N, mu, x, k, n) pc st0 := by
  intro p e s m args below meth c C ls H locs hl hP hz hS T hT X
  obtain ⟨v, st₀, t, T', L, h0, X', hL, e1, e2, hE, st⟩ := hr p e s m args below meth c C ls H locs hl.1 hP hz hS T hT X
  obtain ⟨-, -, ⟨hz2, hk2⟩, r, N', mu', x', c1, c2, c3, c4⟩ := hE
  obtain ⟨v', rfl⟩ := hret _ _ _ _ c1
  have hv : v = v' := by
    have h9 : Outcome.returned v = Outcome.returned v' := c2
    cases h9
    rfl
  subst hv
  rw [h0] at hz2 hk2
  have hS' : va_S (jA f.1) s.heap T'.heap (locs ++ L) := by
    refine ⟨Nat.le_trans hS.1 (by rw [e1]; exact hz2), fun q h1 h2 => ?_, fun q hq => ?_⟩
    · rw [e1, hk2 q (Nat.lt_of_lt_of_le h1 hS.1) h2]
      exact hS.2.1 q h1 h2
    · rcases List.mem_append.mp hq with h | h
      · exact hS.2.2 q h
      · exact hL q h
  obtain ⟨t2, a1, b1⟩ := kk v N' mu' x' c1 p e s m args below meth c C ls T'.heap (locs ++ L) hl (by rw [e1]; exact c3) (by rw [e1]; exact c4) hS' T' rfl X'
  exact ⟨t2, st t2 a1, b1⟩
theorem jpre {as : List Value} {p : Program} {s : State} {m : MethodId} {meth : Method} {c : Code} {H : Heap} {locs : List Loc} (C : jCx f.1 f.2.1 p s m meth c) (hP : jP f.1 N mu H) (hz : jSz f.1 x N H) (hS : va_S (jA f.1) s.heap H locs) (U : State) (hU : U.heap = H) (hW : s.WarmedH U.vm) : jPc f.1 as N mu x as.toArray U := by
  refine ⟨rfl, C.2.2.2.2.1.to hW (by rw [hU]; exact hS.1) (fun q hq => ?_), by rw [hU]; exact hP, by rw [hU]; exact hz⟩
  rw [hU]
  exact hS.2.1 q (Nat.lt_of_lt_of_le hq C.2.2.2.2.1.2.2.1) (fun h => Nat.not_lt.mpr h hq)
theorem jcode {y : jY} {s : State} {p : Program} {m : MethodId} {meth : Method} {c : Code} (C : jCx f.1 f.2.1 p s m meth c) (hh : jyh y = []) (hw : Cond.code (jyn y) (jyc y) (jyL y) (jyr y) ∈ jTab) :
    ∀ w ∈ [jcw y], ∀ (a' : Array Value) (U : State), s.WarmedH U.vm → w.before a' U = true := by
  intro w h a' U hW
  have e1 : w = Cond.code (jyn y) (jyc y) (jyL y) (jyr y) := by
    rw [List.mem_singleton.mp h]
    unfold jcw
    rw [hh]
  subst e1
  exact jTab_warm hw hW (C.2.2.2.2.1.1 _ hw)
theorem jcw_mem {y : jY} (hh : jyh y = []) : Cond.code (jyn y) (jyc y) (jyL y) (jyr y) ∈ [jcw y] := by
  unfold jcw
  rw [hh]
  exact List.mem_singleton.mpr rfl
theorem jlen {y : jY} {na : Nat} (h : (parseMethodDescriptor (jyn y).desc).map (fun d => d.parameters.length) = some na) : ∀ sig, parseMethodDescriptor (jyn y).desc = some sig → na = sig.parameters.length := by
  intro sig h2
  rw [h2] at h
  exact (Option.some.inj h).symm
theorem j_callV {y' : jY} {d' : Nat × Nat} {kC' kS' na idx q ci : Nat} {as : List Value} {fs : List Value} {r : vw_C} {Q' : jQ} (hd : decode (jyc f.2.1) pc = .ok (.invokevirtual idx, 3)) (hm : jMth y' na) (hlk : jLnk (jyo f.2.1) idx y') (hin : Cond.instanceMethod (jyn y') ∈ jTab) (hse : Cond.selects (jyn y').cls (jyn y') (jyn y') ∈ jTab)
    (hq : q < N) (hmu : mu q = .inr (ci, fs)) (hcl : jcl[ci]? = some r) (hrn : r.1 = (jyn y').cls) (hR : d'.1 + 1 ≤ f.2.2.1.1 ∧ 8 + (jyL y' + 11) + d'.2 ≤ f.2.2.1.2) (hk : k + kC' ≤ f.2.2.2.1) (hn : n + kS' ≤ f.2.2.2.2.1) (hW : (rest.map fun v => v.category).sum ≤ 8) (hna : as.length = na)
    (hM : jMet f.1 y' d' kC' kS' (.ref (jb f.1 + q) :: as) N mu x Q') (hret : ∀ r N' mu' x', Q' r N' mu' x' → ∃ v, r = .inl v)
    (hst : st0 = as.reverse ++ .ref (jb f.1 + q) :: rest) (kk : ∀ v N' mu' x', Q' (.inl v) N' mu' x' → jJ f lv (N', mu', x', k + kC', n + kS') (pc + 3) (v.toList ++ rest)) : jJ f lv (N, mu, x, k, n) pc st0 := by
  obtain ⟨hh, hcode, hini, hno, hdes⟩ := hm
  refine j_run (kC' := kC') (kS' := kS') (Q' := Q') (rest := rest) ?_ kk hret
  intro p e s m args below meth c C ls H locs hls hP hz hS
  have hts : ∀ w ∈ jTab, w.before args s = true := fun w h => C.2.2.2.2.1.1 w h args
  have hpre : PreV s H (jyn y').cls (jb f.1 + q) (jPc f.1 (.ref (jb f.1 + q) :: as) N mu x) as :=
    ⟨jPc_blind, by rw [← hrn]; exact va_recv C.2.2.2.2.1.2.1 hP hcl (jget_r hq hmu), fun U hU hW => jpre C hP hz hS U hU hW⟩
  rcases hlk with hl | ⟨host, hl⟩
  · exact va_runV (C := (jyn y').cls) (bytes := jyc y') (maxL := jyL y') (ret := jyr y') (nL := jyL f.2.1) (n := na) ⟨C.1, C.2.1, C.2.2.1, C.2.2.2.1, hts⟩ (hM.met hret)
      ⟨⟨rfl, rfl, hR.1, hR.2, jcode C hh hcode, jcw_mem hh, hts _ hcode, hts _ hini, hno, jlen hdes, hts _ hl⟩, hts _ hin, hts _ hse⟩ hpre rfl hna hls hst (lv_room hW) hd ⟨hk, hn⟩
  · exact va_runVN (C := (jyn y').cls) (bytes := jyc y') (maxL := jyL y') (ret := jyr y') (nL := jyL f.2.1) (n := na) ⟨C.1, C.2.1, C.2.2.1, C.2.2.2.1, hts⟩ (hM.met hret)
      ⟨⟨⟨rfl, rfl, hR.1, hR.2, jcode C hh hcode, jcw_mem hh⟩, hts _ hcode, hts _ hini, hno, jlen hdes, hts _ hl⟩, hts _ hin, hts _ hse⟩ hpre rfl hna hls hst (lv_room hW) hd ⟨hk, hn⟩
theorem j_callS {y' : jY} {d' : Nat × Nat} {kC' kS' na idx : Nat} {as : List Value} {Q' : jQ} (hd : decode (jyc f.2.1) pc = .ok (.invokestatic idx, 3)) (hm : jMth y' na) (hlk : jLnk (jyo f.2.1) idx y') (hsta : Cond.static (jyn y') ∈ jTab)
    (hR : d'.1 + 1 ≤ f.2.2.1.1 ∧ 8 + (jyL y' + 11) + d'.2 ≤ f.2.2.1.2) (hk : k + kC' ≤ f.2.2.2.1) (hn : n + kS' ≤ f.2.2.2.2.1) (hW : (rest.map fun v => v.category).sum ≤ 8) (hna : as.length = na)
    (hM : jMet f.1 y' d' kC' kS' as N mu x Q') (hret : ∀ r N' mu' x', Q' r N' mu' x' → ∃ v, r = .inl v)
    (hst : st0 = as.reverse ++ rest) (kk : ∀ v N' mu' x', Q' (.inl v) N' mu' x' → jJ f lv (N', mu', x', k + kC', n + kS') (pc + 3) (v.toList ++ rest)) : jJ f lv (N, mu, x, k, n) pc st0 := by
  obtain ⟨hh, hcode, hini, hno, hdes⟩ := hm
  refine j_run (kC' := kC') (kS' := kS') (Q' := Q') (rest := rest) ?_ kk hret
  intro p e s m args below meth c C ls H locs hls hP hz hS
  have hts : ∀ w ∈ jTab, w.before args s = true := fun w h => C.2.2.2.2.1.1 w h args
  have hpre : PreS s H (jPc f.1 as N mu x) as := ⟨jPc_blind, fun U hU hW => jpre C hP hz hS U hU hW⟩
  rcases hlk with hl | ⟨host, hl⟩
  · exact va_runS (bytes := jyc y') (maxL := jyL y') (ret := jyr y') (nL := jyL f.2.1) (n := na) ⟨C.1, C.2.1, C.2.2.1, C.2.2.2.1, hts⟩ (hM.met hret)
      ⟨⟨rfl, rfl, hR.1, hR.2, jcode C hh hcode, jcw_mem hh, hts _ hcode, hts _ hini, hno, jlen hdes, hts _ hl⟩, hts _ hsta⟩ hpre rfl hna hls hst (lv_room hW) hd ⟨hk, hn⟩
  · exact va_runSN (bytes := jyc y') (maxL := jyL y') (ret := jyr y') (nL := jyL f.2.1) (n := na) ⟨C.1, C.2.1, C.2.2.1, C.2.2.2.1, hts⟩ (hM.met hret)
      ⟨⟨⟨rfl, rfl, hR.1, hR.2, jcode C hh hcode, jcw_mem hh⟩, hts _ hcode, hts _ hini, hno, jlen hdes, hts _ hl⟩, hts _ hsta, trivial⟩ hpre rfl hna hls hst (lv_room hW) hd ⟨hk, hn⟩
theorem j_callI {y' : jY} {d' : Nat × Nat} {kC' kS' na idx a : Nat} {as : List Value} {Q' : jQ} (hd : decode (jyc f.2.1) pc = .ok (.invokespecial idx, 3)) (hm : jMth y' na) (hr0 : jyr y' = none) (hnm : (jyn y').name = "<init>") (hlk : jLnk (jyo f.2.1) idx y') (hin : Cond.instanceMethod (jyn y') ∈ jTab)
    (hR : d'.1 + 1 ≤ f.2.2.1.1 ∧ 8 + (jyL y' + 11) + d'.2 ≤ f.2.2.1.2) (hk : k + kC' ≤ f.2.2.2.1) (hn : n + kS' ≤ f.2.2.2.2.1) (hW : (rest.map fun v => v.category).sum ≤ 8) (hna : as.length = na)
    (hM : jMet f.1 y' d' kC' kS' (.ref a :: as) N mu x Q') (hret : ∀ r N' mu' x', Q' r N' mu' x' → ∃ v, r = .inl v)
    (hst : st0 = as.reverse ++ .ref a :: rest) (kk : ∀ v N' mu' x', Q' (.inl v) N' mu' x' → jJ f lv (N', mu', x', k + kC', n + kS') (pc + 3) (v.toList ++ rest)) : jJ f lv (N, mu, x, k, n) pc st0 := by
  obtain ⟨hh, hcode, hini, hno, hdes⟩ := hm
  refine j_run (kC' := kC') (kS' := kS') (Q' := Q') (rest := rest) ?_ kk hret
  intro p e s m args below meth c C ls H locs hls hP hz hS
  have hts : ∀ w ∈ jTab, w.before args s = true := fun w h => C.2.2.2.2.1.1 w h args
  have hpre : PreS s H (jPc f.1 (.ref a :: as) N mu x) (.ref a :: as) := ⟨jPc_blind, fun U hU hW => jpre C hP hz hS U hU hW⟩
  rw [hr0] at hcode
  have hcm : Cond.code (jyn y') (jyc y') (jyL y') none ∈ [jcw y'] := by rw [← hr0]; exact jcw_mem hh
  have hcj : ∀ w ∈ [jcw y'], ∀ (a' : Array Value) (U : State), s.WarmedH U.vm → w.before a' U = true := jcode C hh (by rw [hr0]; exact hcode)
  rcases hlk with hl | ⟨host, hl⟩
  · exact va_runI (bytes := jyc y') (maxL := jyL y') (nL := jyL f.2.1) (n := na) ⟨C.1, C.2.1, C.2.2.1, C.2.2.2.1, hts⟩ (hM.met hret)
      ⟨⟨rfl, rfl, hR.1, hR.2, hcj, hcm, hts _ hcode, hts _ hini, hno, jlen hdes, hts _ hl⟩, hnm, hts _ hin⟩ hpre rfl hna hls hst (lv_room hW) hd ⟨hk, hn⟩
  · exact va_runIN (bytes := jyc y') (maxL := jyL y') (nL := jyL f.2.1) (n := na) ⟨C.1, C.2.1, C.2.2.1, C.2.2.2.1, hts⟩ (hM.met hret)
      ⟨⟨⟨rfl, rfl, hR.1, hR.2, hcj, hcm⟩, hts _ hcode, hts _ hini, hno, jlen hdes, hts _ hl⟩, hnm, hts _ hin⟩ hpre rfl hna hls hst (lv_room hW) hd ⟨hk, hn⟩
theorem j_objInit {idx a : Nat} (hd : decode (jyc f.2.1) pc = .ok (.invokespecial idx, 3)) (hl : Cond.methodLink (jyo f.2.1) idx Lib.objectInit ∈ jTab) (hin : Cond.instanceMethod Lib.objectInit ∈ jTab) (hc : Cond.code Lib.objectInit ⟨#[0xb1]⟩ 1 none ∈ jTab) (hR : 1 ≤ f.2.2.1.1 ∧ 20 ≤ f.2.2.1.2) (hW : (rest.map fun v => v.category).sum ≤ 8)
    (kk : jJ f lv (N, mu, x, k, n) (pc + 3) rest) : jJ f lv (N, mu, x, k, n) pc (.ref a :: rest) := by
  intro p e s m args below meth c C ls H locs hlv hP hz hS
  have hts : ∀ w ∈ jTab, w.before args s = true := fun w h => C.2.2.2.2.1.1 w h args
  refine W.objInit C.1 C.2.1 C.2.2.2.1 (hts _ hl) (hts _ hin) (hts _ hc) rfl (by rw [C.2.2.1]; exact hlv.1) rfl hd hR.1 ?_ (kk p e s m args below meth c C ls H locs hlv hP hz hS)
  have h1 := lv_room (m := m) (pc := pc) (ls := ls) (rest := .ref a :: rest) hW
  have h2 := hR.2
  show _ + 12 ≤ f.2.2.1.2
  omega
end JC
end
section
/-! what each of the 104 cells is -/
abbrev jH : Type := (Nat × Nat) ⊕ (Nat × Nat) ⊕ (Nat × List Nat) ⊕ (Nat × List Nat)
abbrev jo (ci : Nat) (fl : List Nat) : jH := .inr (.inr (.inr (ci, fl)))
def jshp (q : Nat) : jH :=
  if q = 0 then jo 0 [1, 1, 3, 4, 0, 20, 77, 82, 0, 83, 0, 84, 86]
  else if q = 1 then .inl (0, 64)
  else if q = 2 then .inr (.inr (.inl (3, [3, 8, 13])))
  else if q < 18 then (match (q - 3) % 5 with
    | 0 => jo 3 [0, 0, q + 3, q + 4, q + 5]
    | 1 => .inl (0, 4)
    | 2 => .inl (0, 24)
    | 3 => jo 5 [q + 3]
    | _ => .inl (0, 120))
  else if q = 18 then .inr (.inr (.inl (4, [19, 33, 47, 61])))
  else if q < 75 then (if (q - 19) % 14 = 0 then jo 4 [q + 3, 0, 0, 0] else if (q - 19) % 14 = 1 then .inr (.inr (.inl (5, [q + 1, q + 5, q + 9]))) else (match ((q - 19) % 14 - 2) % 4 with
    | 0 => jo 2 [0, q + 3, q + 5]
    | 1 => jo 5 [q + 3]
    | 2 => .inl (0, 120)
    | _ => .inl (1, 24)))
  else (match q - 75 with
    | 0 => jo 1 [0, 0, 0, 0, 78, 79, 80, 81]
    | 1 => .inl (0, 24)
    | 2 => .inl (0, 24)
    | 3 => .inl (0, 5)
    | 4 => .inl (1, 24)
    | 5 => .inl (0, 24)
    | 6 => .inl (0, 64)
    | 7 => jo 5 [85]
    | 8 => .inl (0, 120)
    | 9 => .inl (1, 6)
    | 10 => jo 6 [0, 1, 1, 88, 0, 89, 90, 91, 92, 93, 94, 95, 96, 0, 0, 0, 97, 98, 99, 0, 100, 0, 101, 102, 103, 104]
    | 11 => .inl (0, 64)
    | 12 => .inl (0, 3)
    | 13 => .inl (0, 360)
    | 14 => .inl (1, 12)
    | 15 => .inl (0, 1440)
    | 16 => .inl (1, 288)
    | 17 => .inl (0, 4)
    | 18 => .inl (0, 4)
    | 19 => .inl (0, 4)
    | 20 => .inl (0, 24)
    | 21 => .inl (0, 24)
    | 22 => .inl (0, 5)
    | 23 => .inl (0, 24)
    | 24 => .inl (0, 64)
    | 25 => .inl (0, 64)
    | 26 => .inr (.inl (2, 32))
    | 27 => .inl (0, 360)
    | _ => .inr (.inl (2, 1)))
theorem jshp_E : ∀ f, f < 3 → jshp (3 + 5 * f) = jo 3 [0, 0, (4 + 5 * f) + 2, (5 + 5 * f) + 2, (6 + 5 * f) + 2] ∧ jshp (4 + 5 * f) = .inl (0, 4) ∧ jshp (5 + 5 * f) = .inl (0, 24) ∧ jshp (6 + 5 * f) = jo 5 [(7 + 5 * f) + 2] ∧ jshp (7 + 5 * f) = .inl (0, 120) := by
  intro f hf
  match f, hf with
  | 0, _ => exact ⟨rfl, rfl, rfl, rfl, rfl⟩
  | 1, _ => exact ⟨rfl, rfl, rfl, rfl, rfl⟩
  | 2, _ => exact ⟨rfl, rfl, rfl, rfl, rfl⟩
theorem jshp_K : ∀ k, k < 4 → jshp (19 + 14 * k) = jo 4 [(20 + 14 * k) + 2, 0, 0, 0] ∧ jshp (20 + 14 * k) = .inr (.inr (.inl (5, [21 + 14 * k, 25 + 14 * k, 29 + 14 * k]))) := by
  intro k hk
  match k, hk with
  | 0, _ => exact ⟨rfl, rfl⟩
  | 1, _ => exact ⟨rfl, rfl⟩
  | 2, _ => exact ⟨rfl, rfl⟩
  | 3, _ => exact ⟨rfl, rfl⟩
theorem jshp_Y : ∀ k, k < 4 → ∀ f, f < 3 → jshp (21 + 14 * k + 4 * f) = jo 2 [0, (22 + 14 * k + 4 * f) + 2, (24 + 14 * k + 4 * f) + 2] ∧ jshp (22 + 14 * k + 4 * f) = jo 5 [(23 + 14 * k + 4 * f) + 2] ∧ jshp (23 + 14 * k + 4 * f) = .inl (0, 120) ∧ jshp (24 + 14 * k + 4 * f) = .inl (1, 24) := by
  intro k hk f hf
  match k, hk, f, hf with
  | 0, _, 0, _ => exact ⟨rfl, rfl, rfl, rfl⟩
  | 0, _, 1, _ => exact ⟨rfl, rfl, rfl, rfl⟩
  | 0, _, 2, _ => exact ⟨rfl, rfl, rfl, rfl⟩
  | 1, _, 0, _ => exact ⟨rfl, rfl, rfl, rfl⟩
  | 1, _, 1, _ => exact ⟨rfl, rfl, rfl, rfl⟩
  | 1, _, 2, _ => exact ⟨rfl, rfl, rfl, rfl⟩
  | 2, _, 0, _ => exact ⟨rfl, rfl, rfl, rfl⟩
  | 2, _, 1, _ => exact ⟨rfl, rfl, rfl, rfl⟩
  | 2, _, 2, _ => exact ⟨rfl, rfl, rfl, rfl⟩
  | 3, _, 0, _ => exact ⟨rfl, rfl, rfl, rfl⟩
  | 3, _, 1, _ => exact ⟨rfl, rfl, rfl, rfl⟩
  | 3, _, 2, _ => exact ⟨rfl, rfl, rfl, rfl⟩
end
section
/-! a throw out of a method: the walk begun anew at the present heap -/
def jreb (s T : State) : State := { s with heap := T.heap, slotsUsed := T.slotsUsed }
section JT
variable {p : Program} {l : Launch} {e : Env} {R : Room} {s : State} {m : MethodId} {args : Array Value} {below : List Frame} {meth : Method} {c : Code} {T : State} {locs : List Loc} {cells slots : Nat}
theorem jreb_stand (X : Stand p l e R s m args below meth c T locs cells slots) (hc : cells ≤ R.cells) (hs : slots ≤ R.slots) :
    Stand p l e { R with cells := R.cells - cells, slots := R.slots - slots } (jreb s T) m args below meth c T [] 0 0 := by
  have hroom := X.room
  have h1 := X.heapSize
  have h2 := X.used
  have h3 := X.book
  refine ⟨X.admits, X.cas, X.clock, X.frames, ?_, X.hears, X.method, X.code, X.here, X.tail, X.warmed, X.limits, X.bytes, ?_⟩
  · simp only [State.hasRoom, Bool.and_eq_true, decide_eq_true_eq] at hroom ⊢
    obtain ⟨⟨⟨⟨r1, r2⟩, r3⟩, r4⟩, r5⟩ := hroom
    refine ⟨⟨⟨⟨r1, r2⟩, ?_⟩, ?_⟩, h3⟩
    · show T.heap.size + (R.cells - cells) ≤ _
      omega
    · show T.slotsUsed + (R.slots - slots) ≤ _
      omega
  · refine ⟨X.same.1, Nat.le_refl _, Nat.le_refl _, ?_, ?_, fun a cc h => ⟨cc, h, rfl, rfl, fun _ _ => rfl⟩⟩
    · show T.slotsUsed = T.slotsUsed + ((T.heap.toList.drop T.heap.size).map (·.slots.size)).sum
      rw [List.drop_of_length_le (by simp)]
      simp
    · show ((T.heap.toList.drop T.heap.size).map (·.slots.size)).sum ≤ 0
      rw [List.drop_of_length_le (by simp)]
      simp
theorem jreb_same (X : Stand p l e R s m args below meth c T locs cells slots) : s.sameButNew (jreb s T) locs cells slots := by
  obtain ⟨h1, h2, h3, h4, h5, h6⟩ := X.same
  refine ⟨?_, h2, h3, h4, h5, h6⟩
  obtain ⟨t, ht⟩ : ∃ t, s.threads[s.cur]? = some t := ⟨_, Array.getElem?_eq_getElem X.cur⟩
  show jreb s T = { s.setFrames s.frames with heap := T.heap, slotsUsed := T.slotsUsed }
  rw [State.setFrames_self ht]
  rfl
end JT
theorem jsame_heap {s u : State} {cells slots : Nat} (h : s.sameButNew u [] cells slots) {q : Nat} (hq : q < s.heap.size) : u.heap[q]? = s.heap[q]? := by
  obtain ⟨-, -, -, -, -, h6⟩ := h
  have hc : s.heap[q]? = some s.heap[q] := Array.getElem?_eq_getElem hq
  obtain ⟨c', e1, e2, e3, e4⟩ := h6 q _ hc
  have e5 : c'.slots = (s.heap[q]).slots := by
    apply Array.ext_getElem?
    intro i
    exact e4 i (by simp)
  rw [e1, hc, e2, e5]
def jThr (own : String) (ic is kd : Nat) (tx : String) : Prop := own = "AuditDesk" ∧ (is, tx) ∈ jStr ∧ ∀ w ∈ Bundle.ownAtoms own ic (jex kd) ["java/lang/RuntimeException", "java/lang/Exception"], w ∈ jTab ∨ w = Cond.isRef (.static "java/lang/Throwable" "UNASSIGNED_STACK" jU) ∨ w = Cond.isRef (.static "java/lang/Throwable" "SUPPRESSED_SENTINEL" "Ljava/util/List;")
theorem jThr_at {own : String} {ic is kd : Nat} {tx : String} {g : jG} {U : State} (h : jThr own ic is kd tx) (hH : jHyp g U) (args : Array Value) : (∀ a ∈ Bundle.ownAtoms own ic (jex kd) ["java/lang/RuntimeException", "java/lang/Exception"], a.before args U = true) ∧ ∃ q, vk_R own is tx q U := by
  obtain ⟨rfl, h2, h3⟩ := h
  obtain ⟨-, -, ⟨z1, z2⟩, z3, -⟩ := hH.2.2.2.2.1
  refine ⟨fun a ha => ?_, z3 _ h2⟩
  rcases h3 a ha with h | rfl | rfl
  · exact hH.1 a h args
  · exact jisRef z1
  · exact jisRef z2
section JT2
variable {f : jF} {lv : List (Nat × Value)} {N k n : Nat} {x : Bool} {mu : Nat → jE} {pc : Nat} {st : List Value}
theorem j_throw {ic is inw kd : Nat} {tx : String} (h0 : decode (jyc f.2.1) pc = .ok (.new inw, 3)) (h3 : decode (jyc f.2.1) (pc + 3) = .ok (.dup, 1)) (h4 : decode (jyc f.2.1) (pc + 3 + 1) = .ok (.ldc is, 2)) (h6 : decode (jyc f.2.1) (pc + 3 + 1 + 2) = .ok (.invokespecial ic, 3)) (h9 : decode (jyc f.2.1) (pc + 3 + 1 + 2 + 3) = .ok (.athrow, 1))
    (hh : jyh f.2.1 = []) (hw1 : Cond.classLink (jyo f.2.1) inw (jex kd) ∈ jTab) (hw2 : Cond.instantiable (jex kd) 6 ∈ jTab) (hw3 : Cond.initialized (jex kd) ∈ jTab) (hfit : Bundle.fit (jex kd) = true)
    (hown : jThr (jyo f.2.1) ic is kd tx) (hR : 5 < f.2.2.1.1 ∧ 86 ≤ f.2.2.1.2) (hst : (st.map fun v => v.category).sum ≤ 4) (hk : k + 1 ≤ f.2.2.2.1) (hn : n + 6 ≤ f.2.2.2.2.1) (hQ : f.2.2.2.2.2 (.inr kd) N mu false) : jJ f lv (N, mu, x, k, n) pc st := by
  intro p e s m args below meth c C ls H locs hl hP hz hS T hT X
  have hcells : k ≤ (jRm f.2.2.1 f.2.2.2.1 f.2.2.2.2.1).cells := Nat.le_trans (Nat.le_succ k) hk
  have hslots : n ≤ (jRm f.2.2.1 f.2.2.2.1 f.2.2.2.2.1).slots := Nat.le_trans (Nat.le_add_right n 6) hn
  have X' := jreb_stand X hcells hslots
  have hH' : jHyp f.1 (jreb s T) := C.2.2.2.2.1.to (U := jreb s T) (State.WarmedH.refl s) (by show s.heap.size ≤ T.heap.size; rw [hT]; exact hS.1) (fun q hq => by
    show T.heap[q]? = s.heap[q]?
    rw [hT]
    exact hS.2.1 q (Nat.lt_of_lt_of_le hq C.2.2.2.2.1.2.2.1) (fun h => Nat.not_lt.mpr h hq))
  have hts : ∀ w ∈ jTab, w.before args (jreb s T) = true := fun w h => hH'.1 w h args
  have hown' : (jreb s T).vm.findClass (jyo f.2.1) = some m.cls := C.2.2.2.1
  obtain ⟨cX, kX, hfX, hkX, -⟩ := Cond.instantiable_spec (hts _ hw2)
  obtain ⟨hatoms, q, hstr⟩ := jThr_at hown hH' args
  have w : W p (jl f.1) e { (jRm f.2.2.1 f.2.2.2.1 f.2.2.2.2.1) with cells := (jRm f.2.2.1 f.2.2.2.1 f.2.2.2.2.1).cells - k, slots := (jRm f.2.2.1 f.2.2.2.1 f.2.2.2.2.1).slots - n } (jreb s T) m args below meth c H [] 0 0
      (fun U => U.status = .running ∧ Ended U below (.threw H.size) ∧ s.WarmedH U.vm ∧ (jreb s T).sameButNew ({ U with vm := (jreb s T).vm } : State) [] 1 6 ∧ ∃ ce, U.heap[H.size]? = some ce ∧ ce.vm = .none ∧ s.vm.findClass (jex kd) = some ce.cls) (F0 m pc ls st) := by
    refine W.newcK C.1 C.2.1 hown' (hts _ hw1) (hts _ hw2) (hts _ hw3) rfl h0 (by show 0 + 1 ≤ f.2.2.2.1 - k; omega) (by show 0 + 6 ≤ f.2.2.2.2.1 - n; omega) hfX rfl fun H1 kC hkC e1 z1 o1 => ?_
    refine lv_dup C.1 C.2.1 h3 rfl ?_
    refine va_ldcS C.1 C.2.1 hown' hstr h4 ?_
    intro T2 hT2 X2
    obtain ⟨U, hs1, hs2, hs3, hs4, hs5, ce, hce, hO⟩ := X2.ctorThrowS C.1 (hH'.2.2.2.2.2 e X.admits) (names := ["java/lang/RuntimeException", "java/lang/Exception"]) hown' hfit (by decide +kernel) hatoms (fun _ h => by cases h) hfX hkC (by rw [hT2]; exact e1)
      (by show T.heap.size ≤ H.size; rw [hT]; exact Nat.le_refl _) (msg := .ref q) rfl (g := F0 m (pc + 3 + 1 + 2) ls (.ref q :: .ref H.size :: .ref H.size :: st)) rfl (by rw [C.2.2.1]; exact hl.1) rfl rfl (rest := st) rfl (by rw [C.2.1]; exact h6) (by rw [C.2.1]; exact h9)
      (fun y hy => by
        rw [C.2.2.2.2.2.2.2.2, hh] at hy
        cases hy)
      hR.1
      (by
        show 2 * 0 + ((Value.ref H.size :: st).map fun v => v.category).sum + (13 * (2 + 1) + 42) ≤ f.2.2.1.2
        have h7 := hR.2
        have h5 : ((Value.ref H.size :: st).map fun v => v.category).sum = 1 + (st.map fun v => v.category).sum := by simp [Value.category]
        omega)
      C.2.2.2.2.2.2.1
    exact ⟨U, hs1, hs2, hs3, hs4, hs5, ce, hce, hO.vm, hO.cls⟩
  obtain ⟨U, hs1, hs2, hs3, hs4, hs5, ce, hce, hv, hcl⟩ := w T hT X'
  have hkeep : ∀ q : Nat, q < H.size → U.heap[q]? = H[q]? := fun q hq => by
    have h := jsame_heap hs5 (q := q) (by show q < T.heap.size; rw [hT]; exact hq)
    have h' : U.heap[q]? = T.heap[q]? := h
    rw [h', hT]
  refine ⟨U, hs1, .threw H.size, hs2, hs3, hs4, ⟨locs, ?_, hS.2.2⟩, ⟨?_, fun q h1 h2 => ?_⟩, .inr kd, N, mu, false, hQ, ⟨H.size, ce, rfl, hce, by rw [hv]; rfl, hcl⟩, ?_, fun h => by cases h⟩
  · have h := (jreb_same X).trans hs5
    rw [List.append_nil] at h
    exact h.mono hk hn
  · have h9 : H.size < U.heap.size := (Array.getElem?_eq_some_iff.mp hce).1
    exact Nat.le_trans hS.1 (Nat.le_of_lt h9)
  · rw [hkeep q (Nat.lt_of_lt_of_le h1 hS.1)]
    exact hS.2.1 q h1 h2
  · exact va_P.kept hP (fun i q hi => hkeep q.1 ((hP i q hi).lt))
end JT2
end
section
/-! a call that throws, caught by the caller's own table -/
/-- what the tables say of an entry of the caller's own table, for an object of class t thrown at pc: passed by -/
def jBy (pl : Platform) (s : State) (d : ClassId) (pc : Nat) (t : ClassId) (y : ExceptionTableEntry) : Prop := covers y pc = false ∨ (covers y pc = true ∧ y.catchType ≠ 0 ∧ ∃ c, s.vm.ClassLinks pl d y.catchType c ∧ s.vm.assignable t c = false)
theorem jgo_one {e : Env} {S s : State} {fr : JFrame} {a : Addr} {cell : Cell} {y : ExceptionTableEntry} {r : List ExceptionTableEntry} {c : ClassId} {v : Bool} (hW : s.WarmedH S.vm) (hcell : S.heap[a]? = some cell) (hobj : ∀ k, cell.vm ≠ .statics k) (hk0 : ∃ k, s.vm.classes[cell.cls]? = some k)
    (hx : covers y fr.pc = true) (h0 : y.catchType ≠ 0) (hl : s.vm.ClassLinks e.platform fr.method.cls y.catchType c) (hv : s.vm.assignable cell.cls c = v) :
    s.WarmedH (S.vm.noted fr.method.cls y.catchType (.cls c)) ∧ ∀ (Q : Handler → Pre) (E : CtlPost) (d : Bool) (acts : List Action),
      wp (findHandler.go fr a (y :: r)) Q E e d acts S ↔ if v = true then Q (.found y.handlerPc) d acts (S.setVm (S.vm.noted fr.method.cls y.catchType (.cls c))) else wp (findHandler.go fr a r) Q E e d acts (S.setVm (S.vm.noted fr.method.cls y.catchType (.cls c))) := by
  obtain ⟨dk, _, _, kt, hd, _, _, _, _, hkt, _, hopen⟩ := hl.here
  refine ⟨hW.noted hd hopen (State.rightAt_cls hl), fun Q E d acts => ?_⟩
  simp only [covers] at hx
  have hlS := hW.classLinks hl
  obtain ⟨ha, ht⟩ := (resolveClass_links e.toSetting hlS).op (op := VmOp.resolveClass fr.method.cls y.catchType) rfl
  have hal : S.vm.Alike (S.vm.noted fr.method.cls y.catchType (.cls c)) := (Vm.Alike.refl S.vm).noted _ _ _
  have hal2 := hW.alike.trans hal
  obtain ⟨k1, hk1⟩ := hk0
  obtain ⟨k1', hk1', -⟩ := hal2.2.2 _ _ hk1
  obtain ⟨k2', hk2', -⟩ := hal2.2.2 _ _ hkt
  have hfit : (S.vm.noted fr.method.cls y.catchType (.cls c)).assignable cell.cls c = v := by rw [hal2.assignable]; exact hv
  cases v
  · simp [findHandler.go, hx, h0, ha, ht, hcell, hobj, hk1', hk2', hfit, VmOp.dirties, VmOp.acts]
  · simp [findHandler.go, hx, h0, ha, ht, hcell, hobj, hk1', hk2', hfit, VmOp.dirties, VmOp.acts]
theorem jgo {e : Env} {s : State} {fr : JFrame} {a : Addr} {cell : Cell} (hobj : ∀ k, cell.vm ≠ .statics k) (hk0 : ∃ k, s.vm.classes[cell.cls]? = some k) (y : ExceptionTableEntry) (r : List ExceptionTableEntry) {c : ClassId} (hx : covers y fr.pc = true) (h0 : y.catchType ≠ 0)
    (hl : s.vm.ClassLinks e.platform fr.method.cls y.catchType c) (hv : s.vm.assignable cell.cls c = true) : ∀ (pre : List ExceptionTableEntry) (S : State), s.WarmedH S.vm → S.heap[a]? = some cell → (∀ z ∈ pre, jBy e.platform s fr.method.cls fr.pc cell.cls z) →
      ∃ vm', s.WarmedH vm' ∧ ∀ (Q : Handler → Pre) (E : CtlPost) (d : Bool) (acts : List Action), wp (findHandler.go fr a (pre ++ y :: r)) Q E e d acts S ↔ Q (.found y.handlerPc) d acts (S.setVm vm') := by
  intro pre
  induction pre with
  | nil =>
    intro S hW hcell _
    obtain ⟨h1, h2⟩ := jgo_one (r := r) hW hcell hobj hk0 hx h0 hl hv
    exact ⟨_, h1, fun Q E d acts => by rw [List.nil_append, h2 Q E d acts, if_pos rfl]⟩
  | cons z zs ih =>
    intro S hW hcell hpass
    have hrest : ∀ w ∈ zs, jBy e.platform s fr.method.cls fr.pc cell.cls w := fun w hw => hpass w (List.mem_cons_of_mem _ hw)
    rcases hpass z List.mem_cons_self with h | ⟨g1, g2, cz, g3, g4⟩
    · obtain ⟨vm', hW', hq⟩ := ih S hW hcell hrest
      exact ⟨vm', hW', fun Q E d acts => by rw [List.cons_append, W.findHandler_go_skip h]; exact hq Q E d acts⟩
    · obtain ⟨h1, h2⟩ := jgo_one (r := zs ++ y :: r) hW hcell hobj hk0 g1 g2 g3 g4
      obtain ⟨vm', hW', hq⟩ := ih (S.setVm (S.vm.noted fr.method.cls z.catchType (.cls cz))) h1 hcell hrest
      refine ⟨vm', hW', fun Q E d acts => ?_⟩
      rw [List.cons_append, h2 Q E d acts, if_neg (by decide)]
      exact hq Q E d acts
theorem jcaught {tb : Tables} {e : Env} {s target : State} {fr : JFrame} {c : Code} {below : List Frame} {a : Addr} (h : At s fr.method c below) {pc : Nat} {vm' : Vm}
    (hfind : ∀ (Q : Handler → Pre) (E : CtlPost) (d : Bool) (acts : List Action), wp (findHandler fr a) Q E e d acts ((s.setTop fr).pushFrame (.throwing a)) ↔ Q (.found pc) d acts (((s.setTop fr).pushFrame (.throwing a)).setVm vm'))
    (hrest : Steps tb e below ((s.setVm vm').setTop { fr with pc := pc, stack := [.ref a] }) target) : Steps tb e below ((s.setTop fr).pushFrame (.throwing a)) target := by
  obtain ⟨hgo, hw⟩ := h.throwing a
  refine Steps.head hgo hw ?_
  have key : ∀ (S : State) (r : List Frame), (∀ (Q : Handler → Pre) (E : CtlPost) (d : Bool) (acts : List Action), wp (findHandler fr a) Q E e d acts S ↔ Q (.found pc) d acts (S.setVm vm')) → (stepThrowing e S a (.java fr :: r)).1 = (S.setVm vm').setFrames (.java { fr with pc := pc, stack := [.ref a] } :: r) := by
    intro S r hS
    simp only [stepThrowing, searchFrame, vmDo]
    generalize hr : Sem.go _ e false [] S = res
    obtain ⟨as, rfl, ha⟩ := Sem.eq_ok_of hr (a := Handler.found pc) (s' := S.setVm vm') (acts' := []) (by simp [hS _ _ _ _])
    rfl
  rw [stepThread_throwing (frames_entered h.top _), key _ _ hfind]
  obtain ⟨g₀, hg⟩ := Option.isSome_iff_exists.mp h.top
  obtain ⟨r, hr⟩ := State.topJava?_eq_some.mp hg
  have hr' : (s.setVm vm').frames = .java g₀ :: r := hr
  rw [State.setTop_of_frames _ hr'] at hrest
  have e0 : ∀ F G : List Frame, ((s.setFrames F).setVm vm').setFrames G = (s.setVm vm').setFrames G := fun F G => by
    show ((s.setVm vm').setFrames F).setFrames G = _
    rw [State.setFrames_setFrames]
  rw [hr, List.tail_cons, State.pushFrame, State.setTop_of_frames _ hr, State.setFrames_setFrames, e0]
  exact hrest
theorem jNo_at {a b : Nat} {g : jG} {s : State} {c t : ClassId} (h : jNo a b) (hH : jHyp g s) (hc : s.vm.findClass (jex a) = some c) (ht : s.vm.findClass (jex b) = some t) : s.vm.assignable c t = false :=
  hH.2.2.2.2.1.2.2.2.2 _ h c t hc ht
section JK
variable {f : jF} {lv : List (Nat × Value)} {N k n : Nat} {x : Bool} {mu : Nat → jE} {pc : Nat} {st0 rest : List Value}
theorem j_callT {y' : jY} {d' : Nat × Nat} {kC' kS' na idx q ci kd : Nat} {as : List Value} {fs : List Value} {r : vw_C} {Q' : jQ} (hd : decode (jyc f.2.1) pc = .ok (.invokevirtual idx, 3)) (hm : jMth y' na) (hlk : Cond.methodLink (jyo f.2.1) idx (jyn y') ∈ jTab) (hin : Cond.instanceMethod (jyn y') ∈ jTab) (hse : Cond.selects (jyn y').cls (jyn y') (jyn y') ∈ jTab)
    (hq : q < N) (hmu : mu q = .inr (ci, fs)) (hcl : jcl[ci]? = some r) (hrn : r.1 = (jyn y').cls) (hR : d'.1 + 1 ≤ f.2.2.1.1 ∧ 8 + (jyL y' + 11) + d'.2 ≤ f.2.2.1.2) (hk : k + kC' ≤ f.2.2.2.1) (hn : n + kS' ≤ f.2.2.2.2.1) (hW : (rest.map fun v => v.category).sum ≤ 8) (hna : as.length = na)
    (hM : jMet f.1 y' d' kC' kS' (.ref (jb f.1 + q) :: as) N mu x Q') (hthr : ∀ r N' mu' x', Q' r N' mu' x' → r = .inr kd)
    (pre post : List (Nat × Nat × Nat × Nat)) (h : Nat × Nat × Nat × Nat) (hsp : jyh f.2.1 = pre ++ h :: post) (hcov : (decide (h.1 ≤ pc) && decide (pc < h.2.1)) = true) (hct : h.2.2.2 ≠ 0) (hcw : Cond.classLink (jyo f.2.1) h.2.2.2 (jex kd) ∈ jTab) (hcs : Cond.castable (jex kd) (jex kd) ∈ jTab)
    (hby : ∀ z ∈ pre, ∃ kz, z.2.2.2 ≠ 0 ∧ (decide (z.1 ≤ pc) && decide (pc < z.2.1)) = true ∧ Cond.classLink (jyo f.2.1) z.2.2.2 (jex kz) ∈ jTab ∧ jNo kd kz)
    (hst : st0 = as.reverse ++ .ref (jb f.1 + q) :: rest) (kk : ∀ a N' mu' x', Q' (.inr kd) N' mu' x' → jJ f lv (N', mu', x', k + kC', n + kS') h.2.2.1 [.ref a]) : jJ f lv (N, mu, x, k, n) pc st0 := by
  obtain ⟨hh, hcode, hini, hno, hdes⟩ := hm
  intro p e s m args below meth c C ls H locs hl hP hz hS T hT X
  have hts : ∀ w ∈ jTab, w.before args s = true := fun w hw => C.2.2.2.2.1.1 w hw args
  have hpl : e.platform.magicAccessors = ({} : Platform).magicAccessors := by rw [X.admits.platform]
  -- the call
  obtain ⟨cellB, hcB, hoB, hclB⟩ := va_recv C.2.2.2.2.1.2.1 hP hcl (jget_r hq hmu)
  rw [hrn] at hclB
  obtain ⟨mk, methM, hnamed, hmethM, hstM, habM⟩ := Cond.instanceMethod_spec (hts _ hin)
  obtain ⟨methM', cM, hmethM', hcM, -, hlM, -, -, -, hsigM⟩ := Cond.code_spec hnamed (hts _ hcode)
  cases hmethM.symm.trans hmethM'
  obtain ⟨c2, r2, m2, q1, q2, q3, q4, kP, hkP, hkPi⟩ := Cond.selects_spec (hts _ hse)
  cases hclB.symm.trans q1
  cases (State.methodFound?_of_named hnamed hno).symm.trans q2
  cases hnamed.symm.trans q3
  have hselP : selectMethod e.platform s.vm cellB.cls mk = .method mk := by rw [Launch.admits_selectMethod X.admits]; exact q4
  subst hst
  have hdg : decode c.code (F0 m pc ls (as.reverse ++ .ref (jb f.1 + q) :: rest)).pc = .ok (.invokevirtual idx, 3) := by rw [C.2.1]; exact hd
  obtain ⟨vm₁, X₁, hstep₁⟩ := X.invokevirtual C.1 C.2.2.2.1 (hts _ hlk) hnamed hmethM hstM hkP hkPi hno (a := jb f.1 + q) (cell := cellB) (by rw [hT]; exact hcB)
    (fun z hz => by rw [hz] at hoB; cases hoB) hselP hmethM habM hkP hkPi (g := F0 m pc ls (as.reverse ++ .ref (jb f.1 + q) :: rest)) rfl (argsL := as) (rest := rest) (hna.trans (jlen hdes _ hsigM)) rfl hdg
  -- the callee
  have hW₁ := X₁.warmed
  have hn₁ : (T.setVm vm₁).methodNamed? (jyn y') = some mk := X₁.named hnamed
  have hpc : jPc f.1 (.ref (jb f.1 + q) :: as) N mu x (Value.ref (jb f.1 + q) :: as).toArray (T.setVm vm₁) := jpre C hP hz hS (T.setVm vm₁) hT hW₁
  have hini₁ : (Cond.initialized (jyn y').cls).before #[] (T.setVm vm₁) = true := jTab_warm hini hW₁ (C.2.2.2.2.1.1 _ hini)
  obtain ⟨kY, hkY, -⟩ := className_of_methodNamed hn₁
  have hinitY : kY.init = .initialized := Cond.initialized_spec (findClass_of_methodNamed hn₁) hkY hini₁
  have hcode₁ : (Cond.code (jyn y') (jyc y') (jyL y') (jyr y')).before #[] (T.setVm vm₁) = true := jTab_warm hcode hW₁ (C.2.2.2.2.1.1 _ hcode)
  obtain ⟨methY, cY, hmY, hcY, -, hlY, -, -, -, -⟩ := Cond.code_spec hn₁ hcode₁
  have hsz : (F0 m pc ls rest).locals.size = c.maxLocals := by rw [C.2.2.1]; exact hl.1
  have hdg2 : decode c.code (F0 m pc ls rest).pc = .ok (.invokevirtual idx, 3) := hdg
  have happ : (headSpec [jcw y'] (jRm d' kC' kS')).appliesLoose (jyn y') e.platform ((T.setVm vm₁).calling (F0 m pc ls rest) mk (Value.ref (jb f.1 + q) :: as).toArray) = true := by
    refine Spec.appliesLoose_calling (g := F0 m pc ls rest) X₁.here hdg2 hn₁ hkY hinitY (X₁.room_calling (g := F0 m pc ls rest) (R' := jRm d' kC' kS') hsz hmY hcY hR.1 ?_ hk hn) (atoms_intro fun w hw => jcode C hh hcode w hw _ _ hW₁)
    rw [hlY]
    have h9 := lv_room (m := m) (pc := pc) (ls := ls) (rest := rest) hW
    have h8 := hR.2
    exact Nat.le_trans (Nat.add_le_add_right (Nat.add_le_add_right h9 _) _) h8
  have hA : At (T.setVm vm₁) (F0 m pc ls rest).method c below := X₁.here
  obtain ⟨mid, hmid⟩ := hA.above
  have hfr : ((T.setVm vm₁).setTop (F0 m pc ls rest)).frames = (.java (F0 m pc ls rest) :: mid) ++ below := by rw [State.frames_setTop' _ hA.top, hmid]; rfl
  obtain ⟨o, s₂, hsteps, -, hend, hE⟩ := Steps.callFree hM p X.admits X.cas X.clock (acts := []) hfr happ (jPc_blind _ _ _ _ hpc) trivial
  have hE : jEnd f.1 kC' kS' Q' ((T.setVm vm₁).calling (F0 m pc ls rest) mk (Value.ref (jb f.1 + q) :: as).toArray) o s₂ := hE
  rw [State.frames_setTop' _ hA.top] at hend
  obtain ⟨hW₂, ⟨L, hsame, hLf⟩, ⟨hz2, hk2⟩, r', N', mu', x', c1, c2', c3, c4⟩ := hE
  cases hthr _ _ _ _ c1
  obtain ⟨a, cellX, rfl, hcX, hoX, hfX⟩ := c2'
  obtain ⟨e2, g2, g3, g4, g5, g6⟩ := id hsame
  have hf₂ : s₂.frames = .throwing a :: .java (F0 m pc ls rest) :: (T.setVm vm₁).frames.tail := hend
  have e3 : s₂ = ({ ((T.setVm vm₁).calling (F0 m pc ls rest) mk (Value.ref (jb f.1 + q) :: as).toArray).setFrames s₂.frames with heap := s₂.heap, slotsUsed := s₂.slotsUsed } : State).setVm s₂.vm := by
    have e4 : s₂ = ({ s₂ with vm := ((T.setVm vm₁).calling (F0 m pc ls rest) mk (Value.ref (jb f.1 + q) :: as).toArray).vm } : State).setVm s₂.vm := rfl
    rw [e2] at e4
    exact e4
  have hW' : (T.setVm vm₁).WarmedH s₂.vm := hW₂
  obtain ⟨g₀, hg0⟩ := Option.isSome_iff_exists.mp hA.top
  obtain ⟨rr, hrr⟩ := State.topJava?_eq_some.mp hg0
  generalize hUd : (({ T.setVm vm₁ with heap := s₂.heap, slotsUsed := s₂.slotsUsed } : State).setVm s₂.vm) = U
  have hs₂ : s₂ = (U.setTop (F0 m pc ls rest)).pushFrame (.throwing a) := by
    have hr' : U.frames = .java g₀ :: rr := by rw [← hUd]; exact hrr
    refine e3.trans ?_
    rw [hf₂, State.calling_eq hA.top, State.setFrames_setFrames, State.pushFrame, State.frames_setTop _ hr', State.setTop_of_frames _ hr', State.setFrames_setFrames, hrr, ← hUd]
    rfl
  have hsame2 : (T.setVm vm₁).sameButNew ({ T.setVm vm₁ with heap := s₂.heap, slotsUsed := s₂.slotsUsed } : State) L kC' kS' := by
    refine ⟨?_, g2, g3, g4, g5, g6⟩
    obtain ⟨t, ht, -⟩ := State.frames_cons hrr
    show ({ T.setVm vm₁ with heap := s₂.heap, slotsUsed := s₂.slotsUsed } : State) = { (T.setVm vm₁).setFrames (T.setVm vm₁).frames with heap := s₂.heap, slotsUsed := s₂.slotsUsed }
    rw [State.setFrames_self ht]
  have XU : Stand p (jl f.1) e (jRm f.2.2.1 f.2.2.2.1 f.2.2.2.2.1) s m args below meth c U (locs ++ L) (k + kC') (n + kS') := by
    rw [← hUd]
    exact ⟨X.admits, X.cas, X.clock, X.frames, X.room, X.hears, X.method, X.code, (X₁.here.setHeapUsed s₂.heap s₂.slotsUsed).setVm hW'.alike, X₁.tail, State.WarmedH.trans X₁.warmed hW', X₁.limits, X₁.bytes, X₁.same.trans (hsame2.setVm s.vm)⟩
  have hUh : U.heap = s₂.heap := by rw [← hUd]; rfl
  -- the handler
  have hfX' : s.vm.findClass (jex kd) = some cellX.cls := by
    have h1 : (T.setVm vm₁).vm.findClass (jex kd) = some cellX.cls := hfX
    rw [hW₁.alike.findClass] at h1
    exact h1
  obtain ⟨cT, hcT, hlT⟩ := Cond.classLink_spec C.2.2.2.1 (hts _ hcw) e.platform hpl
  have hcc : cT = cellX.cls := Option.some.inj (hcT.symm.trans hfX')
  subst hcc
  obtain ⟨c3', t3', w1, w2, w3⟩ := Cond.castable_spec (hts _ hcs)
  cases hfX'.symm.trans w1
  cases hfX'.symm.trans w2
  obtain ⟨kE, hkE, -⟩ := Vm.findClass_spec hfX'
  have htab : c.exceptionTable.toList = tableOf pre ++ (⟨h.1, h.2.1, h.2.2.1, h.2.2.2⟩ : ExceptionTableEntry) :: tableOf post := by
    rw [C.2.2.2.2.2.2.2.2, hsp]
    simp [tableOf]
  obtain ⟨vm', hWv, hfind⟩ := jgo (e := e) (s := s) (fr := F0 m pc ls rest) (a := a) (cell := cellX) (VmData.ne_statics_of hoX) ⟨kE, hkE⟩ (⟨h.1, h.2.1, h.2.2.1, h.2.2.2⟩ : ExceptionTableEntry) (tableOf post) (c := cellX.cls) hcov hct hlT w3 (tableOf pre) ((U.setTop (F0 m pc ls rest)).pushFrame (.throwing a)) XU.warmed (by
      show U.heap[a]? = some cellX
      rw [hUh]; exact hcX) (by
      intro z hz
      obtain ⟨z0, hz0, rfl⟩ := List.mem_map.mp hz
      obtain ⟨kz, y1, y2, y3, y4⟩ := hby z0 hz0
      obtain ⟨cz, hcz, hlz⟩ := Cond.classLink_spec C.2.2.2.1 (hts _ y3) e.platform hpl
      exact Or.inr ⟨y2, y1, cz, hlz, jNo_at y4 C.2.2.2.2.1 hfX' hcz⟩)
  have XV : Stand p (jl f.1) e (jRm f.2.2.1 f.2.2.2.1 f.2.2.2.2.1) s m args below meth c (U.setVm vm') (locs ++ L) (k + kC') (n + kS') := XU.noted hWv
  have hS' : va_S (jA f.1) s.heap (U.setVm vm').heap (locs ++ L) := by
    show va_S (jA f.1) s.heap U.heap (locs ++ L)
    have hz2' : H.size ≤ s₂.heap.size := by
      have h1 : T.heap.size ≤ s₂.heap.size := hz2
      rw [hT] at h1
      exact h1
    have hk2' : ∀ q : Nat, q < H.size → ¬ jA f.1 q → s₂.heap[q]? = H[q]? := by
      intro q h1 h2
      have h3 : s₂.heap[q]? = T.heap[q]? := hk2 q (by show q < T.heap.size; rw [hT]; exact h1) h2
      rw [h3, hT]
    rw [hUh]
    refine ⟨Nat.le_trans hS.1 hz2', fun q h1 h2 => ?_, fun q hq => ?_⟩
    · rw [hk2' q (Nat.lt_of_lt_of_le h1 hS.1) h2]
      exact hS.2.1 q h1 h2
    · rcases List.mem_append.mp hq with h1 | h1
      · exact hS.2.2 q h1
      · exact hLf q h1
  obtain ⟨t2, a1, b1⟩ := kk a N' mu' x' c1 p e s m args below meth c C ls (U.setVm vm').heap (locs ++ L) hl (by show jP f.1 N' mu' U.heap; rw [hUh]; exact c3) (by show jSz f.1 x' N' U.heap; rw [hUh]; exact c4) hS' (U.setVm vm') rfl XV
  refine ⟨t2, hstep₁ t2 (fun acts => ?_), b1⟩
  rw [doInvoke_state]
  refine hsteps.trans ?_
  rw [hs₂]
  exact jcaught (pc := h.2.2.1) (vm' := vm') (by exact XU.here) (fun Q E d acts => by rw [W.findHandler_eq (meth := meth) (code := c) XU.method' XU.code, htab]; exact hfind Q E d acts) a1
end JK
end
section
/-! behind the constructors: each cell's kind, its numbers in two flat functions -/

def jfv (b : Nat) (i : Nat → Int32) (l : Nat → Int64) : Nat → List Nat → List Value
  | _, [] => []
  | j, 0 :: r => .int (i j) :: jfv b i l (j + 1) r
  | j, 1 :: r => .long (l j) :: jfv b i l (j + 1) r
  | j, (a + 2) :: r => .ref (b + a) :: jfv b i l (j + 1) r
def jcell (b : Nat) (I : Nat → Nat → Int32) (L : Nat → Nat → Int64) (q : Nat) (h : jH) : jE := match h with
  | .inl (t, n) => .inl (t, n, .inl (I q))
  | .inr (.inl (t, n)) => .inl (t, n, .inr (.inl (L q)))
  | .inr (.inr (.inl (t, rs))) => .inl (t, rs.length, .inr (.inr (.inr (.inr (fun j => (rs[j]?).map (fun r => b + r))))))
  | .inr (.inr (.inr (ci, fl))) => .inr (ci, jfv b (I q) (L q) 0 fl)
def jmem (b : Nat) (I : Nat → Nat → Int32) (L : Nat → Nat → Int64) (q : Nat) : jE := jcell b I L q (jshp q)
def jup (I : Nat → Nat → Int32) (q j : Nat) (v : Int32) : Nat → Nat → Int32 := fun a => if a = q then upd (I q) j v else I a
def jupL (L : Nat → Nat → Int64) (q j : Nat) (v : Int64) : Nat → Nat → Int64 := fun a => if a = q then vp_updL (L q) j v else L a
theorem jup_q (I : Nat → Nat → Int32) (q j : Nat) (v : Int32) : jup I q j v q = upd (I q) j v := if_pos rfl
theorem jup_n (I : Nat → Nat → Int32) {q a : Nat} (j : Nat) (v : Int32) (h : a ≠ q) : jup I q j v a = I a := if_neg h
theorem jupL_q (L : Nat → Nat → Int64) (q j : Nat) (v : Int64) : jupL L q j v q = vp_updL (L q) j v := if_pos rfl
theorem jupL_n (L : Nat → Nat → Int64) {q a : Nat} (j : Nat) (v : Int64) (h : a ≠ q) : jupL L q j v a = L a := if_neg h
theorem jcell_eq {b : Nat} {I I' : Nat → Nat → Int32} {L L' : Nat → Nat → Int64} {q : Nat} (h : jH) (hI : I q = I' q) (hL : L q = L' q) : jcell b I L q h = jcell b I' L' q h := by
  unfold jcell
  rw [hI, hL]
theorem jfv_get (b : Nat) (i : Nat → Int32) (l : Nat → Int64) : ∀ (fl : List Nat) (j0 j : Nat), (jfv b i l j0 fl)[j]? = (fl[j]?).map (fun k => match k with
    | 0 => Value.int (i (j0 + j))
    | 1 => Value.long (l (j0 + j))
    | a + 2 => Value.ref (b + a))
  | [], _, _ => rfl
  | 0 :: r, j0, 0 => rfl
  | 1 :: r, j0, 0 => rfl
  | (a + 2) :: r, j0, 0 => rfl
  | 0 :: r, j0, j + 1 => by
    show (jfv b i l (j0 + 1) r)[j]? = _
    rw [jfv_get b i l r (j0 + 1) j, show j0 + 1 + j = j0 + (j + 1) by omega]
    rfl
  | 1 :: r, j0, j + 1 => by
    show (jfv b i l (j0 + 1) r)[j]? = _
    rw [jfv_get b i l r (j0 + 1) j, show j0 + 1 + j = j0 + (j + 1) by omega]
    rfl
  | (a + 2) :: r, j0, j + 1 => by
    show (jfv b i l (j0 + 1) r)[j]? = _
    rw [jfv_get b i l r (j0 + 1) j, show j0 + 1 + j = j0 + (j + 1) by omega]
    rfl
theorem jfv_len (b : Nat) (i : Nat → Int32) (l : Nat → Int64) : ∀ (fl : List Nat) (j0 : Nat), (jfv b i l j0 fl).length = fl.length
  | [], _ => rfl
  | 0 :: r, j0 => by show (jfv b i l (j0 + 1) r).length + 1 = _; rw [jfv_len]; rfl
  | 1 :: r, j0 => by show (jfv b i l (j0 + 1) r).length + 1 = _; rw [jfv_len]; rfl
  | (a + 2) :: r, j0 => by show (jfv b i l (j0 + 1) r).length + 1 = _; rw [jfv_len]; rfl
theorem jfv_setI {b : Nat} {i : Nat → Int32} {l : Nat → Int64} {fl : List Nat} {j : Nat} {v : Int32} (h : fl[j]? = some 0) : (jfv b i l 0 fl).set j (.int v) = jfv b (upd i j v) l 0 fl := by
  apply List.ext_getElem?
  intro a
  have hl : j < (jfv b i l 0 fl).length := by rw [jfv_len]; exact (List.getElem?_eq_some_iff.mp h).1
  by_cases ha : a = j
  · subst ha
    rw [List.getElem?_set_self hl, jfv_get, h]
    simp [upd]
  · rw [List.getElem?_set_ne (Ne.symm ha), jfv_get, jfv_get]
    simp [upd, ha]
theorem jfv_setL {b : Nat} {i : Nat → Int32} {l : Nat → Int64} {fl : List Nat} {j : Nat} {v : Int64} (h : fl[j]? = some 1) : (jfv b i l 0 fl).set j (.long v) = jfv b i (vp_updL l j v) 0 fl := by
  apply List.ext_getElem?
  intro a
  have hl : j < (jfv b i l 0 fl).length := by rw [jfv_len]; exact (List.getElem?_eq_some_iff.mp h).1
  by_cases ha : a = j
  · subst ha
    rw [List.getElem?_set_self hl, jfv_get, h]
    simp [vp_updL]
  · rw [List.getElem?_set_ne (Ne.symm ha), jfv_get, jfv_get]
    simp [vp_updL, ha]
theorem jmem_I {b : Nat} {I : Nat → Nat → Int32} {L : Nat → Nat → Int64} {q t n : Nat} (h : jshp q = .inl (t, n)) : jmem b I L q = .inl (t, n, .inl (I q)) := by
  unfold jmem
  rw [h]
  rfl
theorem jmem_L {b : Nat} {I : Nat → Nat → Int32} {L : Nat → Nat → Int64} {q t n : Nat} (h : jshp q = .inr (.inl (t, n))) : jmem b I L q = .inl (t, n, .inr (.inl (L q))) := by
  unfold jmem
  rw [h]
  rfl
theorem jmem_R {b : Nat} {I : Nat → Nat → Int32} {L : Nat → Nat → Int64} {q t : Nat} {rs : List Nat} (h : jshp q = .inr (.inr (.inl (t, rs)))) : jmem b I L q = .inl (t, rs.length, .inr (.inr (.inr (.inr (fun j => (rs[j]?).map (fun r => b + r)))))) := by
  unfold jmem
  rw [h]
  rfl
theorem jmem_O {b : Nat} {I : Nat → Nat → Int32} {L : Nat → Nat → Int64} {q ci : Nat} {fl : List Nat} (h : jshp q = .inr (.inr (.inr (ci, fl)))) : jmem b I L q = .inr (ci, jfv b (I q) (L q) 0 fl) := by
  unfold jmem
  rw [h]
  rfl
theorem jmem_up {b : Nat} {I I' : Nat → Nat → Int32} {L L' : Nat → Nat → Int64} {q : Nat} {e : jE} (he : jmem b I' L' q = e) (hI : ∀ a, a ≠ q → I' a = I a) (hL : ∀ a, a ≠ q → L' a = L a) : va_up (jmem b I L) q e = jmem b I' L' := by
  funext a
  unfold va_up
  split
  next h => rw [h]; exact he.symm
  next h => exact jcell_eq _ (hI a h).symm (hL a h).symm
theorem jmem_upI {b : Nat} {I : Nat → Nat → Int32} {L : Nat → Nat → Int64} {q t n j : Nat} {v : Int32} (h : jshp q = .inl (t, n)) : va_up (jmem b I L) q (.inl (t, n, .inl (upd (I q) j v))) = jmem b (jup I q j v) L :=
  jmem_up (by rw [jmem_I h, jup_q]) (fun a ha => jup_n I j v ha) (fun _ _ => rfl)
theorem jmem_upL {b : Nat} {I : Nat → Nat → Int32} {L : Nat → Nat → Int64} {q t n j : Nat} {v : Int64} (h : jshp q = .inr (.inl (t, n))) : va_up (jmem b I L) q (.inl (t, n, .inr (.inl (vp_updL (L q) j v)))) = jmem b I (jupL L q j v) :=
  jmem_up (by rw [jmem_L h, jupL_q]) (fun _ _ => rfl) (fun a ha => jupL_n L j v ha)
theorem jmem_upFI {b : Nat} {I : Nat → Nat → Int32} {L : Nat → Nat → Int64} {q ci j : Nat} {fl : List Nat} {v : Int32} (h : jshp q = .inr (.inr (.inr (ci, fl)))) (hj : fl[j]? = some 0) : va_up (jmem b I L) q (.inr (ci, (jfv b (I q) (L q) 0 fl).set j (.int v))) = jmem b (jup I q j v) L :=
  jmem_up (by rw [jmem_O h, jup_q, jfv_setI hj]) (fun a ha => jup_n I j v ha) (fun _ _ => rfl)
theorem jmem_upFL {b : Nat} {I : Nat → Nat → Int32} {L : Nat → Nat → Int64} {q ci j : Nat} {fl : List Nat} {v : Int64} (h : jshp q = .inr (.inr (.inr (ci, fl)))) (hj : fl[j]? = some 1) : va_up (jmem b I L) q (.inr (ci, (jfv b (I q) (L q) 0 fl).set j (.long v))) = jmem b I (jupL L q j v) :=
  jmem_up (by rw [jmem_O h, jupL_q, jfv_setL hj]) (fun _ _ => rfl) (fun a ha => jupL_n L j v ha)
end
section
/-! the rows over flat numbers -/
def jw (f : jF) (I : Nat → Nat → Int32) (L : Nat → Nat → Int64) (k n : Nat) : jS := (104, jmem (jb f.1) I L, false, k, n)
/-- a contract over flat numbers: the method returns, with an answer and numbers of which φ holds -/
def jCQ (g : jG) (φ : Option Value → (Nat → Nat → Int32) → (Nat → Nat → Int64) → Prop) : jQ := fun r N mu x => ∃ v I L, φ v I L ∧ r = .inl v ∧ N = 104 ∧ mu = jmem (jb g) I L ∧ x = false
def jC (g : jG) (y : jY) (d : Nat × Nat) (as : List Value) (I : Nat → Nat → Int32) (L : Nat → Nat → Int64) (φ : Option Value → (Nat → Nat → Int32) → (Nat → Nat → Int64) → Prop) : Prop :=
  jMet g y d 0 0 as 104 (jmem (jb g) I L) false (jCQ g φ)
theorem jCQ_ret {g : jG} {φ : Option Value → (Nat → Nat → Int32) → (Nat → Nat → Int64) → Prop} : ∀ r N mu x, jCQ g φ r N mu x → ∃ v, r = .inl v := fun _ _ _ _ ⟨v, _, _, _, h, _⟩ => ⟨v, h⟩
section JFR
variable {f : jF} {lv : List (Nat × Value)} {k n : Nat} {I : Nat → Nat → Int32} {L : Nat → Nat → Int64} {pc : Nat} {st : List Value}
theorem m_getI {idx q ci kf : Nat} {fl : List Nat} (hd : decode (jyc f.2.1) pc = .ok (.getfield idx, 3)) (hF : jFld (jyo f.2.1) idx ci kf) (hs : jshp q = .inr (.inr (.inr (ci, fl)))) (hq : q < 104) (hk : fl[kf]? = some 0)
    (kk : jJ f lv (jw f I L k n) (pc + 3) (.int (I q kf) :: st)) : jJ f lv (jw f I L k n) pc (.ref (jb f.1 + q) :: st) :=
  j_getf hd hF hq (jmem_O hs) (by rw [jfv_get, hk]; simp) kk
theorem m_getL {idx q ci kf : Nat} {fl : List Nat} (hd : decode (jyc f.2.1) pc = .ok (.getfield idx, 3)) (hF : jFld (jyo f.2.1) idx ci kf) (hs : jshp q = .inr (.inr (.inr (ci, fl)))) (hq : q < 104) (hk : fl[kf]? = some 1)
    (kk : jJ f lv (jw f I L k n) (pc + 3) (.long (L q kf) :: st)) : jJ f lv (jw f I L k n) pc (.ref (jb f.1 + q) :: st) :=
  j_getf hd hF hq (jmem_O hs) (by rw [jfv_get, hk]; simp) kk
theorem m_getR {idx q ci kf a : Nat} {fl : List Nat} (hd : decode (jyc f.2.1) pc = .ok (.getfield idx, 3)) (hF : jFld (jyo f.2.1) idx ci kf) (hs : jshp q = .inr (.inr (.inr (ci, fl)))) (hq : q < 104) (hk : fl[kf]? = some (a + 2))
    (kk : jJ f lv (jw f I L k n) (pc + 3) (.ref (jb f.1 + a) :: st)) : jJ f lv (jw f I L k n) pc (.ref (jb f.1 + q) :: st) :=
  j_getf hd hF hq (jmem_O hs) (by rw [jfv_get, hk]; simp) kk
theorem m_putI {idx q ci kf : Nat} {fl : List Nat} {v : Int32} (hd : decode (jyc f.2.1) pc = .ok (.putfield idx, 3)) (hF : jFld (jyo f.2.1) idx ci kf) (hs : jshp q = .inr (.inr (.inr (ci, fl)))) (hq : q < 104) (hk : fl[kf]? = some 0) (hfin : jfin ci kf = false) (hn : narrow (jcty ci kf) (.int v) = .int v) (hfit : fits (jcty ci kf) (.int v) = true)
    (kk : jJ f lv (jw f (jup I q kf v) L k n) (pc + 3) st) : jJ f lv (jw f I L k n) pc (.int v :: .ref (jb f.1 + q) :: st) :=
  j_putf hd hF hq (jmem_O hs) (by rw [jfv_len]; exact (List.getElem?_eq_some_iff.mp hk).1) hfin hn hfit (by rw [jmem_upFI hs hk]; exact kk)
theorem m_putL {idx q ci kf : Nat} {fl : List Nat} {v : Int64} (hd : decode (jyc f.2.1) pc = .ok (.putfield idx, 3)) (hF : jFld (jyo f.2.1) idx ci kf) (hs : jshp q = .inr (.inr (.inr (ci, fl)))) (hq : q < 104) (hk : fl[kf]? = some 1) (hfin : jfin ci kf = false) (hn : narrow (jcty ci kf) (.long v) = .long v) (hfit : fits (jcty ci kf) (.long v) = true)
    (kk : jJ f lv (jw f I (jupL L q kf v) k n) (pc + 3) st) : jJ f lv (jw f I L k n) pc (.long v :: .ref (jb f.1 + q) :: st) :=
  j_putf hd hF hq (jmem_O hs) (by rw [jfv_len]; exact (List.getElem?_eq_some_iff.mp hk).1) hfin hn hfit (by rw [jmem_upFL hs hk]; exact kk)
theorem m_ild {q t na i : Nat} {z : Int32} (hd : decode (jyc f.2.1) pc = .ok (.iaload, 1)) (hs : jshp q = .inl (t, na)) (ht : jtyl[t]? = some .int) (hq : q < 104) (hz : z = nI i) (hi : i < na) (hna : na < 2 ^ 31)
    (kk : jJ f lv (jw f I L k n) (pc + 1) (.int (I q i) :: st)) : jJ f lv (jw f I L k n) pc (.int z :: .ref (jb f.1 + q) :: st) := by
  subst hz
  refine j_iald hd hq (jmem_I hs) ht (vp_in_nI hi hna) ?_
  rw [nI_clamp (Nat.lt_trans hi hna)]
  exact kk
theorem m_zld {q t na i : Nat} {z : Int32} (hd : decode (jyc f.2.1) pc = .ok (.baload, 1)) (hs : jshp q = .inl (t, na)) (ht : jtyl[t]? = some .boolean) (hq : q < 104) (hz : z = nI i) (hi : i < na) (hna : na < 2 ^ 31)
    (kk : jJ f lv (jw f I L k n) (pc + 1) (.int (I q i) :: st)) : jJ f lv (jw f I L k n) pc (.int z :: .ref (jb f.1 + q) :: st) := by
  subst hz
  refine j_zald hd hq (jmem_I hs) ht (vp_in_nI hi hna) ?_
  rw [nI_clamp (Nat.lt_trans hi hna)]
  exact kk
theorem m_lld {q t na i : Nat} {z : Int32} (hd : decode (jyc f.2.1) pc = .ok (.laload, 1)) (hs : jshp q = .inr (.inl (t, na))) (ht : jtyl[t]? = some .long) (hq : q < 104) (hz : z = nI i) (hi : i < na) (hna : na < 2 ^ 31)
    (kk : jJ f lv (jw f I L k n) (pc + 1) (.long (L q i) :: st)) : jJ f lv (jw f I L k n) pc (.int z :: .ref (jb f.1 + q) :: st) := by
  subst hz
  refine j_lald hd hq (jmem_L hs) ht (vp_in_nI hi hna) ?_
  rw [nI_clamp (Nat.lt_trans hi hna)]
  exact kk
theorem m_ald {q t i a : Nat} {rs : List Nat} {Cn : String} {z : Int32} (hd : decode (jyc f.2.1) pc = .ok (.aaload, 1)) (hs : jshp q = .inr (.inr (.inl (t, rs)))) (ht : jtyl[t]? = some (.object Cn)) (hq : q < 104) (hz : z = nI i) (hr : rs[i]? = some a) (hna : rs.length < 2 ^ 31)
    (kk : jJ f lv (jw f I L k n) (pc + 1) (.ref (jb f.1 + a) :: st)) : jJ f lv (jw f I L k n) pc (.int z :: .ref (jb f.1 + q) :: st) := by
  subst hz
  have hi : i < rs.length := (List.getElem?_eq_some_iff.mp hr).1
  refine j_aald hd hq (jmem_R hs) ht (vp_in_nI hi hna) ?_
  rw [nI_clamp (Nat.lt_trans hi hna), hr]
  exact kk
theorem m_ist {q t na i : Nat} {z v : Int32} (hd : decode (jyc f.2.1) pc = .ok (.iastore, 1)) (hs : jshp q = .inl (t, na)) (ht : jtyl[t]? = some .int) (hq : q < 104) (hz : z = nI i) (hi : i < na) (hna : na < 2 ^ 31)
    (kk : jJ f lv (jw f (jup I q i v) L k n) (pc + 1) st) : jJ f lv (jw f I L k n) pc (.int v :: .int z :: .ref (jb f.1 + q) :: st) := by
  subst hz
  refine j_iast hd hq (jmem_I hs) ht (vp_in_nI hi hna) ?_
  rw [nI_clamp (Nat.lt_trans hi hna), jmem_upI hs]
  exact kk
theorem m_zst {q t na i : Nat} {z v : Int32} (hd : decode (jyc f.2.1) pc = .ok (.bastore, 1)) (hs : jshp q = .inl (t, na)) (ht : jtyl[t]? = some .boolean) (hq : q < 104) (hz : z = nI i) (hi : i < na) (hna : na < 2 ^ 31) (hv : narrow .boolean (.int v) = .int v)
    (kk : jJ f lv (jw f (jup I q i v) L k n) (pc + 1) st) : jJ f lv (jw f I L k n) pc (.int v :: .int z :: .ref (jb f.1 + q) :: st) := by
  subst hz
  refine j_zast hd hq (jmem_I hs) ht (vp_in_nI hi hna) hv ?_
  rw [nI_clamp (Nat.lt_trans hi hna), jmem_upI hs]
  exact kk
theorem m_lst {q t na i : Nat} {z : Int32} {v : Int64} (hd : decode (jyc f.2.1) pc = .ok (.lastore, 1)) (hs : jshp q = .inr (.inl (t, na))) (ht : jtyl[t]? = some .long) (hq : q < 104) (hz : z = nI i) (hi : i < na) (hna : na < 2 ^ 31)
    (kk : jJ f lv (jw f I (jupL L q i v) k n) (pc + 1) st) : jJ f lv (jw f I L k n) pc (.long v :: .int z :: .ref (jb f.1 + q) :: st) := by
  subst hz
  refine j_last hd hq (jmem_L hs) ht (vp_in_nI hi hna) ?_
  rw [nI_clamp (Nat.lt_trans hi hna), jmem_upL hs]
  exact kk
theorem m_iret {v : Int32} {φ : Option Value → (Nat → Nat → Int32) → (Nat → Nat → Int64) → Prop} (hd : decode (jyc f.2.1) pc = .ok (.ireturn, 1)) (hr : jyr f.2.1 = some .int) (hk : k ≤ f.2.2.2.1) (hn : n ≤ f.2.2.2.2.1) (hf : f.2.2.2.2.2 = jCQ f.1 φ) (hφ : φ (some (.int v)) I L) : jJ f lv (jw f I L k n) pc [.int v] :=
  j_iret hd hr hk hn (by rw [hf]; exact ⟨_, _, _, hφ, rfl, rfl, rfl, rfl⟩)
theorem m_zret {v : Int32} {φ : Option Value → (Nat → Nat → Int32) → (Nat → Nat → Int64) → Prop} (hd : decode (jyc f.2.1) pc = .ok (.ireturn, 1)) (hr : jyr f.2.1 = some .boolean) (hv : narrow .boolean (.int v) = .int v) (hk : k ≤ f.2.2.2.1) (hn : n ≤ f.2.2.2.2.1) (hf : f.2.2.2.2.2 = jCQ f.1 φ) (hφ : φ (some (.int v)) I L) : jJ f lv (jw f I L k n) pc [.int v] :=
  j_zret hd hr hv hk hn (by rw [hf]; exact ⟨_, _, _, hφ, rfl, rfl, rfl, rfl⟩)
theorem m_lret {v : Int64} {φ : Option Value → (Nat → Nat → Int32) → (Nat → Nat → Int64) → Prop} (hd : decode (jyc f.2.1) pc = .ok (.lreturn, 1)) (hr : jyr f.2.1 = some .long) (hk : k ≤ f.2.2.2.1) (hn : n ≤ f.2.2.2.2.1) (hf : f.2.2.2.2.2 = jCQ f.1 φ) (hφ : φ (some (.long v)) I L) : jJ f lv (jw f I L k n) pc [.long v] :=
  j_lret hd hr hk hn (by rw [hf]; exact ⟨_, _, _, hφ, rfl, rfl, rfl, rfl⟩)
theorem m_vret {φ : Option Value → (Nat → Nat → Int32) → (Nat → Nat → Int64) → Prop} (hd : decode (jyc f.2.1) pc = .ok (.return_, 1)) (hr : jyr f.2.1 = none) (hk : k ≤ f.2.2.2.1) (hn : n ≤ f.2.2.2.2.1) (hf : f.2.2.2.2.2 = jCQ f.1 φ) (hφ : φ none I L) : jJ f lv (jw f I L k n) pc [] :=
  j_vret hd hr hk hn (by rw [hf]; exact ⟨_, _, _, hφ, rfl, rfl, rfl, rfl⟩)
theorem m_callV {y' : jY} {d' : Nat × Nat} {na idx q ci : Nat} {as rest st0 : List Value} {fl : List Nat} {r : vw_C} {φ : Option Value → (Nat → Nat → Int32) → (Nat → Nat → Int64) → Prop} (hd : decode (jyc f.2.1) pc = .ok (.invokevirtual idx, 3)) (hm : jMth y' na) (hlk : jLnk (jyo f.2.1) idx y') (hin : Cond.instanceMethod (jyn y') ∈ jTab) (hse : Cond.selects (jyn y').cls (jyn y') (jyn y') ∈ jTab)
    (hs : jshp q = .inr (.inr (.inr (ci, fl)))) (hq : q < 104) (hcl : jcl[ci]? = some r) (hrn : r.1 = (jyn y').cls) (hR : d'.1 + 1 ≤ f.2.2.1.1 ∧ 8 + (jyL y' + 11) + d'.2 ≤ f.2.2.1.2) (hW : (rest.map fun v => v.category).sum ≤ 8) (hna : as.length = na) (hk : k ≤ f.2.2.2.1) (hn : n ≤ f.2.2.2.2.1)
    (hC : jC f.1 y' d' (.ref (jb f.1 + q) :: as) I L φ) (hst : st0 = as.reverse ++ .ref (jb f.1 + q) :: rest) (kk : ∀ v I' L', φ v I' L' → jJ f lv (jw f I' L' k n) (pc + 3) (v.toList ++ rest)) : jJ f lv (jw f I L k n) pc st0 := by
  refine j_callV hd hm hlk hin hse hq (jmem_O hs) hcl hrn hR hk hn hW hna hC jCQ_ret hst ?_
  rintro v N' mu' x' ⟨v', I', L', h1, h2, rfl, rfl, rfl⟩
  cases h2
  exact kk v I' L' h1
theorem m_callS {y' : jY} {d' : Nat × Nat} {na idx : Nat} {as rest st0 : List Value} {φ : Option Value → (Nat → Nat → Int32) → (Nat → Nat → Int64) → Prop} (hd : decode (jyc f.2.1) pc = .ok (.invokestatic idx, 3)) (hm : jMth y' na) (hlk : jLnk (jyo f.2.1) idx y') (hsta : Cond.static (jyn y') ∈ jTab)
    (hR : d'.1 + 1 ≤ f.2.2.1.1 ∧ 8 + (jyL y' + 11) + d'.2 ≤ f.2.2.1.2) (hW : (rest.map fun v => v.category).sum ≤ 8) (hna : as.length = na) (hk : k ≤ f.2.2.2.1) (hn : n ≤ f.2.2.2.2.1)
    (hC : jC f.1 y' d' as I L φ) (hst : st0 = as.reverse ++ rest) (kk : ∀ v I' L', φ v I' L' → jJ f lv (jw f I' L' k n) (pc + 3) (v.toList ++ rest)) : jJ f lv (jw f I L k n) pc st0 := by
  refine j_callS hd hm hlk hsta hR hk hn hW hna hC jCQ_ret hst ?_
  rintro v N' mu' x' ⟨v', I', L', h1, h2, rfl, rfl, rfl⟩
  cases h2
  exact kk v I' L' h1
end JFR
end
