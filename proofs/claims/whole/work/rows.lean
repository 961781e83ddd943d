section
-- ===== PART A: goes FIRST, ahead of the names: the tables' words, and 'selects' of the private methods out of them =====
/-- a private method of a class that the tables say can be made, by its rows of tables_1 -/
def lw_okq (q : MethodName × Nat) : Prop := (q.1.cls ≠ "java/lang/invoke/MethodHandle" ∧ q.1.cls ≠ "java/lang/invoke/VarHandle") ∧ Cond.instantiable q.1.cls q.2 ∈ tables_1 ∧ Cond.privateMethod q.1 ∈ tables_1 ∧ Cond.instanceMethod q.1 ∈ tables_1
theorem lw_p0 : lw_okq (⟨"AuditDesk", "countCopies", "()I"⟩, 13) := ⟨⟨by decide +kernel, by decide +kernel⟩, List.mem_of_getElem? (i := 17) (by decide +kernel), List.mem_of_getElem? (i := 226) (by decide +kernel), List.mem_of_getElem? (i := 227) (by decide +kernel)⟩
theorem lw_p1 : lw_okq (⟨"AuditDesk", "isFile", "(I)Z"⟩, 13) := ⟨⟨by decide +kernel, by decide +kernel⟩, List.mem_of_getElem? (i := 17) (by decide +kernel), List.mem_of_getElem? (i := 241) (by decide +kernel), List.mem_of_getElem? (i := 242) (by decide +kernel)⟩
theorem lw_p2 : lw_okq (⟨"java/lang/Throwable", "fillInStackTrace", "(I)Ljava/lang/Throwable;"⟩, 6) := ⟨⟨by decide +kernel, by decide +kernel⟩, List.mem_of_getElem? (i := 291) (by decide +kernel), List.mem_of_getElem? (i := 289) (by decide +kernel), List.mem_of_getElem? (i := 290) (by decide +kernel)⟩
theorem lw_p3 : lw_okq (⟨"AuditDesk$Rows", "codedWord", "(III)I"⟩, 1) := ⟨⟨by decide +kernel, by decide +kernel⟩, List.mem_of_getElem? (i := 32) (by decide +kernel), List.mem_of_getElem? (i := 375) (by decide +kernel), List.mem_of_getElem? (i := 376) (by decide +kernel)⟩
theorem lw_p4 : lw_okq (⟨"AuditDesk", "keepsRow", "(III)Z"⟩, 13) := ⟨⟨by decide +kernel, by decide +kernel⟩, List.mem_of_getElem? (i := 17) (by decide +kernel), List.mem_of_getElem? (i := 443) (by decide +kernel), List.mem_of_getElem? (i := 444) (by decide +kernel)⟩
theorem lw_p5 : lw_okq (⟨"AuditDesk", "keeps", "(II)Z"⟩, 13) := ⟨⟨by decide +kernel, by decide +kernel⟩, List.mem_of_getElem? (i := 17) (by decide +kernel), List.mem_of_getElem? (i := 447) (by decide +kernel), List.mem_of_getElem? (i := 448) (by decide +kernel)⟩
theorem lw_p6 : lw_okq (⟨"AuditDesk$Challenge", "nextUndrawn", "(II)I"⟩, 8) := ⟨⟨by decide +kernel, by decide +kernel⟩, List.mem_of_getElem? (i := 111) (by decide +kernel), List.mem_of_getElem? (i := 491) (by decide +kernel), List.mem_of_getElem? (i := 492) (by decide +kernel)⟩
theorem lw_p7 : lw_okq (⟨"AuditDesk", "isGood", "(III)Z"⟩, 13) := ⟨⟨by decide +kernel, by decide +kernel⟩, List.mem_of_getElem? (i := 17) (by decide +kernel), List.mem_of_getElem? (i := 523) (by decide +kernel), List.mem_of_getElem? (i := 524) (by decide +kernel)⟩
theorem lw_p8 : lw_okq (⟨"AuditDesk", "gather", "(I)Z"⟩, 13) := ⟨⟨by decide +kernel, by decide +kernel⟩, List.mem_of_getElem? (i := 17) (by decide +kernel), List.mem_of_getElem? (i := 535) (by decide +kernel), List.mem_of_getElem? (i := 536) (by decide +kernel)⟩
theorem lw_p9 : lw_okq (⟨"AuditDesk", "gatherGroup", "(II)Z"⟩, 13) := ⟨⟨by decide +kernel, by decide +kernel⟩, List.mem_of_getElem? (i := 17) (by decide +kernel), List.mem_of_getElem? (i := 539) (by decide +kernel), List.mem_of_getElem? (i := 540) (by decide +kernel)⟩
theorem lw_p10 : lw_okq (⟨"AuditDesk", "leastGoodKeeper", "(II)I"⟩, 13) := ⟨⟨by decide +kernel, by decide +kernel⟩, List.mem_of_getElem? (i := 17) (by decide +kernel), List.mem_of_getElem? (i := 543) (by decide +kernel), List.mem_of_getElem? (i := 544) (by decide +kernel)⟩
theorem lw_p11 : lw_okq (⟨"AuditDesk$Rows", "recoverOne", "(III)V"⟩, 1) := ⟨⟨by decide +kernel, by decide +kernel⟩, List.mem_of_getElem? (i := 32) (by decide +kernel), List.mem_of_getElem? (i := 556) (by decide +kernel), List.mem_of_getElem? (i := 557) (by decide +kernel)⟩
theorem lw_p12 : lw_okq (⟨"AuditDesk$Rows", "rest", "(III)I"⟩, 1) := ⟨⟨by decide +kernel, by decide +kernel⟩, List.mem_of_getElem? (i := 32) (by decide +kernel), List.mem_of_getElem? (i := 560) (by decide +kernel), List.mem_of_getElem? (i := 561) (by decide +kernel)⟩
theorem lw_p13 : lw_okq (⟨"AuditDesk$Rows", "recoverTwo", "(III)V"⟩, 1) := ⟨⟨by decide +kernel, by decide +kernel⟩, List.mem_of_getElem? (i := 32) (by decide +kernel), List.mem_of_getElem? (i := 567) (by decide +kernel), List.mem_of_getElem? (i := 568) (by decide +kernel)⟩
theorem lw_p14 : lw_okq (⟨"AuditDeskModel", "encode", "(I[I)V"⟩, 26) := ⟨⟨by decide +kernel, by decide +kernel⟩, List.mem_of_getElem? (i := 598) (by decide +kernel), List.mem_of_getElem? (i := 704) (by decide +kernel), List.mem_of_getElem? (i := 705) (by decide +kernel)⟩
theorem lw_p15 : lw_okq (⟨"AuditDeskModel", "rowsOf", "(I)I"⟩, 26) := ⟨⟨by decide +kernel, by decide +kernel⟩, List.mem_of_getElem? (i := 598) (by decide +kernel), List.mem_of_getElem? (i := 708) (by decide +kernel), List.mem_of_getElem? (i := 709) (by decide +kernel)⟩
def lw_privs_1 : List (MethodName × Nat) := [(⟨"AuditDesk", "countCopies", "()I"⟩, 13), (⟨"AuditDesk", "isFile", "(I)Z"⟩, 13), (⟨"java/lang/Throwable", "fillInStackTrace", "(I)Ljava/lang/Throwable;"⟩, 6), (⟨"AuditDesk$Rows", "codedWord", "(III)I"⟩, 1), (⟨"AuditDesk", "keepsRow", "(III)Z"⟩, 13), (⟨"AuditDesk", "keeps", "(II)Z"⟩, 13), (⟨"AuditDesk$Challenge", "nextUndrawn", "(II)I"⟩, 8), (⟨"AuditDesk", "isGood", "(III)Z"⟩, 13), (⟨"AuditDesk", "gather", "(I)Z"⟩, 13), (⟨"AuditDesk", "gatherGroup", "(II)Z"⟩, 13), (⟨"AuditDesk", "leastGoodKeeper", "(II)I"⟩, 13), (⟨"AuditDesk$Rows", "recoverOne", "(III)V"⟩, 1), (⟨"AuditDesk$Rows", "rest", "(III)I"⟩, 1), (⟨"AuditDesk$Rows", "recoverTwo", "(III)V"⟩, 1), (⟨"AuditDeskModel", "encode", "(I[I)V"⟩, 26), (⟨"AuditDeskModel", "rowsOf", "(I)I"⟩, 26)]
theorem lw_r1 : ∀ q ∈ lw_privs_1, lw_okq q := List.forall_mem_cons.mpr ⟨lw_p0, List.forall_mem_cons.mpr ⟨lw_p1, List.forall_mem_cons.mpr ⟨lw_p2, List.forall_mem_cons.mpr ⟨lw_p3, List.forall_mem_cons.mpr ⟨lw_p4, List.forall_mem_cons.mpr ⟨lw_p5, List.forall_mem_cons.mpr ⟨lw_p6, List.forall_mem_cons.mpr ⟨lw_p7, List.forall_mem_cons.mpr ⟨lw_p8, List.forall_mem_cons.mpr ⟨lw_p9, List.forall_mem_cons.mpr ⟨lw_p10, List.forall_mem_cons.mpr ⟨lw_p11, List.forall_mem_cons.mpr ⟨lw_p12, List.forall_mem_cons.mpr ⟨lw_p13, List.forall_mem_cons.mpr ⟨lw_p14, List.forall_mem_cons.mpr ⟨lw_p15, fun _ h => absurd h List.not_mem_nil⟩⟩⟩⟩⟩⟩⟩⟩⟩⟩⟩⟩⟩⟩⟩⟩
theorem lw_p16 : lw_okq (⟨"AuditDeskModel", "tag", "(II[II)J"⟩, 26) := ⟨⟨by decide +kernel, by decide +kernel⟩, List.mem_of_getElem? (i := 598) (by decide +kernel), List.mem_of_getElem? (i := 719) (by decide +kernel), List.mem_of_getElem? (i := 720) (by decide +kernel)⟩
theorem lw_p17 : lw_okq (⟨"AuditDeskModel", "secret", "(I)J"⟩, 26) := ⟨⟨by decide +kernel, by decide +kernel⟩, List.mem_of_getElem? (i := 598) (by decide +kernel), List.mem_of_getElem? (i := 723) (by decide +kernel), List.mem_of_getElem? (i := 724) (by decide +kernel)⟩
theorem lw_p18 : lw_okq (⟨"AuditDeskModel", "isFile", "(I)Z"⟩, 26) := ⟨⟨by decide +kernel, by decide +kernel⟩, List.mem_of_getElem? (i := 598) (by decide +kernel), List.mem_of_getElem? (i := 734) (by decide +kernel), List.mem_of_getElem? (i := 735) (by decide +kernel)⟩
theorem lw_p19 : lw_okq (⟨"AuditDeskModel", "put", "(III)V"⟩, 26) := ⟨⟨by decide +kernel, by decide +kernel⟩, List.mem_of_getElem? (i := 598) (by decide +kernel), List.mem_of_getElem? (i := 741) (by decide +kernel), List.mem_of_getElem? (i := 742) (by decide +kernel)⟩
theorem lw_p20 : lw_okq (⟨"AuditDeskModel", "isRow", "(III)Z"⟩, 26) := ⟨⟨by decide +kernel, by decide +kernel⟩, List.mem_of_getElem? (i := 598) (by decide +kernel), List.mem_of_getElem? (i := 755) (by decide +kernel), List.mem_of_getElem? (i := 756) (by decide +kernel)⟩
theorem lw_p21 : lw_okq (⟨"AuditDeskModel", "holds", "(II)Z"⟩, 26) := ⟨⟨by decide +kernel, by decide +kernel⟩, List.mem_of_getElem? (i := 598) (by decide +kernel), List.mem_of_getElem? (i := 759) (by decide +kernel), List.mem_of_getElem? (i := 760) (by decide +kernel)⟩
theorem lw_p22 : lw_okq (⟨"AuditDeskModel", "isAsked", "(II)Z"⟩, 26) := ⟨⟨by decide +kernel, by decide +kernel⟩, List.mem_of_getElem? (i := 598) (by decide +kernel), List.mem_of_getElem? (i := 772) (by decide +kernel), List.mem_of_getElem? (i := 773) (by decide +kernel)⟩
theorem lw_p23 : lw_okq (⟨"AuditDeskModel", "isGood", "(III)Z"⟩, 26) := ⟨⟨by decide +kernel, by decide +kernel⟩, List.mem_of_getElem? (i := 598) (by decide +kernel), List.mem_of_getElem? (i := 793) (by decide +kernel), List.mem_of_getElem? (i := 794) (by decide +kernel)⟩
theorem lw_p24 : lw_okq (⟨"AuditDeskModel", "gather", "(I)Z"⟩, 26) := ⟨⟨by decide +kernel, by decide +kernel⟩, List.mem_of_getElem? (i := 598) (by decide +kernel), List.mem_of_getElem? (i := 805) (by decide +kernel), List.mem_of_getElem? (i := 806) (by decide +kernel)⟩
theorem lw_p25 : lw_okq (⟨"AuditDeskModel", "keeperOf", "(II)I"⟩, 26) := ⟨⟨by decide +kernel, by decide +kernel⟩, List.mem_of_getElem? (i := 598) (by decide +kernel), List.mem_of_getElem? (i := 809) (by decide +kernel), List.mem_of_getElem? (i := 810) (by decide +kernel)⟩
theorem lw_p26 : lw_okq (⟨"AuditDeskModel", "sum", "(IIII)V"⟩, 26) := ⟨⟨by decide +kernel, by decide +kernel⟩, List.mem_of_getElem? (i := 598) (by decide +kernel), List.mem_of_getElem? (i := 813) (by decide +kernel), List.mem_of_getElem? (i := 814) (by decide +kernel)⟩
theorem lw_p27 : lw_okq (⟨"AuditDeskModel", "solve", "()V"⟩, 26) := ⟨⟨by decide +kernel, by decide +kernel⟩, List.mem_of_getElem? (i := 598) (by decide +kernel), List.mem_of_getElem? (i := 817) (by decide +kernel), List.mem_of_getElem? (i := 818) (by decide +kernel)⟩
theorem lw_p28 : lw_okq (⟨"AuditDeskModel", "differs", "(IIII)Z"⟩, 26) := ⟨⟨by decide +kernel, by decide +kernel⟩, List.mem_of_getElem? (i := 598) (by decide +kernel), List.mem_of_getElem? (i := 821) (by decide +kernel), List.mem_of_getElem? (i := 822) (by decide +kernel)⟩
def lw_privs_2 : List (MethodName × Nat) := [(⟨"AuditDeskModel", "tag", "(II[II)J"⟩, 26), (⟨"AuditDeskModel", "secret", "(I)J"⟩, 26), (⟨"AuditDeskModel", "isFile", "(I)Z"⟩, 26), (⟨"AuditDeskModel", "put", "(III)V"⟩, 26), (⟨"AuditDeskModel", "isRow", "(III)Z"⟩, 26), (⟨"AuditDeskModel", "holds", "(II)Z"⟩, 26), (⟨"AuditDeskModel", "isAsked", "(II)Z"⟩, 26), (⟨"AuditDeskModel", "isGood", "(III)Z"⟩, 26), (⟨"AuditDeskModel", "gather", "(I)Z"⟩, 26), (⟨"AuditDeskModel", "keeperOf", "(II)I"⟩, 26), (⟨"AuditDeskModel", "sum", "(IIII)V"⟩, 26), (⟨"AuditDeskModel", "solve", "()V"⟩, 26), (⟨"AuditDeskModel", "differs", "(IIII)Z"⟩, 26)]
theorem lw_r2 : ∀ q ∈ lw_privs_2, lw_okq q := List.forall_mem_cons.mpr ⟨lw_p16, List.forall_mem_cons.mpr ⟨lw_p17, List.forall_mem_cons.mpr ⟨lw_p18, List.forall_mem_cons.mpr ⟨lw_p19, List.forall_mem_cons.mpr ⟨lw_p20, List.forall_mem_cons.mpr ⟨lw_p21, List.forall_mem_cons.mpr ⟨lw_p22, List.forall_mem_cons.mpr ⟨lw_p23, List.forall_mem_cons.mpr ⟨lw_p24, List.forall_mem_cons.mpr ⟨lw_p25, List.forall_mem_cons.mpr ⟨lw_p26, List.forall_mem_cons.mpr ⟨lw_p27, List.forall_mem_cons.mpr ⟨lw_p28, fun _ h => absurd h List.not_mem_nil⟩⟩⟩⟩⟩⟩⟩⟩⟩⟩⟩⟩⟩
def lw_privs : List (MethodName × Nat) := lw_privs_1 ++ (lw_privs_2)
def lw_tbl : List Cond := k2_sels lw_privs ++ tables_1
theorem lw_privs_ok : ∀ q ∈ lw_privs, lw_okq q := by
  show ∀ q ∈ lw_privs_1 ++ (lw_privs_2), lw_okq q
  exact List.forall_mem_append.mpr ⟨lw_r1, lw_r2⟩
end
section
/-! names, by program out of javap's listing and the tables' words -/
def jT0 : u_T := fun k => match k with
  | 0 => ("AuditDesk", "keyA", "J", false)
  | 1 => ("AuditDesk", "keyB", "J", false)
  | 2 => ("AuditDesk", "buffer", "[I", true)
  | 3 => ("AuditDesk", "deposits", "[LAuditDesk$Deposit;", true)
  | 4 => ("AuditDesk", "fileCount", "I", false)
  | 5 => ("AuditDesk", "keepers", "[LAuditDesk$Keeper;", true)
  | 6 => ("AuditDesk", "latest", "LAuditDesk$Challenge;", true)
  | 7 => ("AuditDesk", "badRows", "[I", true)
  | 8 => ("AuditDesk", "badCount", "I", false)
  | 9 => ("AuditDesk", "fetchedWords", "[I", true)
  | 10 => ("AuditDesk", "fetchedCount", "I", false)
  | 11 => ("AuditDesk", "gathered", "LAuditDesk$Rows;", true)
  | _ => ("AuditDesk", "present", "[Z", true)
def jty0 : Nat → FieldType := fun k => match k with
  | 0 => .long
  | 1 => .long
  | 2 => .array .int
  | 3 => .array (.object "AuditDesk$Deposit")
  | 4 => .int
  | 5 => .array (.object "AuditDesk$Keeper")
  | 6 => .object "AuditDesk$Challenge"
  | 7 => .array .int
  | 8 => .int
  | 9 => .array .int
  | 10 => .int
  | 11 => .object "AuditDesk$Rows"
  | _ => .array .boolean
theorem jnm0 : ∀ a, a < 13 → ∀ b, b < 13 → a ≠ b → (jT0 a).2.1 ≠ (jT0 b).2.1 := by decide +kernel
theorem jtyok0 : ∀ k, k < 13 → parseFieldDescriptor (jT0 k).2.2.1 = some (jty0 k) := by decide +kernel
def jT1 : u_T := fun k => match k with
  | 0 => ("AuditDesk$Challenge", "posed", "Z", false)
  | 1 => ("AuditDesk$Challenge", "file", "I", false)
  | 2 => ("AuditDesk$Challenge", "keeper", "I", false)
  | 3 => ("AuditDesk$Challenge", "count", "I", false)
  | 4 => ("AuditDesk$Challenge", "rows", "[I", true)
  | 5 => ("AuditDesk$Challenge", "coefficients", "[I", true)
  | 6 => ("AuditDesk$Challenge", "answer", "[I", true)
  | _ => ("AuditDesk$Challenge", "drawn", "[Z", true)
def jty1 : Nat → FieldType := fun k => match k with
  | 0 => .boolean
  | 1 => .int
  | 2 => .int
  | 3 => .int
  | 4 => .array .int
  | 5 => .array .int
  | 6 => .array .int
  | _ => .array .boolean
theorem jnm1 : ∀ a, a < 8 → ∀ b, b < 8 → a ≠ b → (jT1 a).2.1 ≠ (jT1 b).2.1 := by decide +kernel
theorem jtyok1 : ∀ k, k < 8 → parseFieldDescriptor (jT1 k).2.2.1 = some (jty1 k) := by decide +kernel
def jT2 : u_T := fun k => match k with
  | 0 => ("AuditDesk$Copy", "had", "Z", false)
  | 1 => ("AuditDesk$Copy", "rows", "LAuditDesk$Rows;", true)
  | _ => ("AuditDesk$Copy", "lost", "[Z", true)
def jty2 : Nat → FieldType := fun k => match k with
  | 0 => .boolean
  | 1 => .object "AuditDesk$Rows"
  | _ => .array .boolean
theorem jnm2 : ∀ a, a < 3 → ∀ b, b < 3 → a ≠ b → (jT2 a).2.1 ≠ (jT2 b).2.1 := by decide +kernel
theorem jtyok2 : ∀ k, k < 3 → parseFieldDescriptor (jT2 k).2.2.1 = some (jty2 k) := by decide +kernel
def jT3 : u_T := fun k => match k with
  | 0 => ("AuditDesk$Deposit", "wordCount", "I", false)
  | 1 => ("AuditDesk$Deposit", "rowCount", "I", false)
  | 2 => ("AuditDesk$Deposit", "alphas", "[I", true)
  | 3 => ("AuditDesk$Deposit", "masks", "[I", true)
  | _ => ("AuditDesk$Deposit", "rows", "LAuditDesk$Rows;", true)
def jty3 : Nat → FieldType := fun k => match k with
  | 0 => .int
  | 1 => .int
  | 2 => .array .int
  | 3 => .array .int
  | _ => .object "AuditDesk$Rows"
theorem jnm3 : ∀ a, a < 5 → ∀ b, b < 5 → a ≠ b → (jT3 a).2.1 ≠ (jT3 b).2.1 := by decide +kernel
theorem jtyok3 : ∀ k, k < 5 → parseFieldDescriptor (jT3 k).2.2.1 = some (jty3 k) := by decide +kernel
def jT4 : u_T := fun k => match k with
  | 0 => ("AuditDesk$Keeper", "copies", "[LAuditDesk$Copy;", true)
  | 1 => ("AuditDesk$Keeper", "heldAnswers", "I", false)
  | 2 => ("AuditDesk$Keeper", "failedAnswers", "I", false)
  | _ => ("AuditDesk$Keeper", "repairedRows", "I", false)
def jty4 : Nat → FieldType := fun k => match k with
  | 0 => .array (.object "AuditDesk$Copy")
  | 1 => .int
  | 2 => .int
  | _ => .int
theorem jnm4 : ∀ a, a < 4 → ∀ b, b < 4 → a ≠ b → (jT4 a).2.1 ≠ (jT4 b).2.1 := by decide +kernel
theorem jtyok4 : ∀ k, k < 4 → parseFieldDescriptor (jT4 k).2.2.1 = some (jty4 k) := by decide +kernel
def jT5 : u_T := fun k => match k with
  | _ => ("AuditDesk$Rows", "numbers", "[I", true)
def jty5 : Nat → FieldType := fun k => match k with
  | _ => .array .int
theorem jnm5 : ∀ a, a < 1 → ∀ b, b < 1 → a ≠ b → (jT5 a).2.1 ≠ (jT5 b).2.1 := by decide +kernel
theorem jtyok5 : ∀ k, k < 1 → parseFieldDescriptor (jT5 k).2.2.1 = some (jty5 k) := by decide +kernel
def jT6 : u_T := fun k => match k with
  | 0 => ("AuditDeskModel", "thrown", "I", false)
  | 1 => ("AuditDeskModel", "keyA", "J", false)
  | 2 => ("AuditDeskModel", "keyB", "J", false)
  | 3 => ("AuditDeskModel", "buffer", "[I", true)
  | 4 => ("AuditDeskModel", "files", "I", false)
  | 5 => ("AuditDeskModel", "words", "[I", true)
  | 6 => ("AuditDeskModel", "made", "[I", true)
  | 7 => ("AuditDeskModel", "has", "[Z", true)
  | 8 => ("AuditDeskModel", "kept", "[I", true)
  | 9 => ("AuditDeskModel", "lost", "[Z", true)
  | 10 => ("AuditDeskModel", "held", "[I", true)
  | 11 => ("AuditDeskModel", "failed", "[I", true)
  | 12 => ("AuditDeskModel", "repaired", "[I", true)
  | 13 => ("AuditDeskModel", "asked", "I", false)
  | 14 => ("AuditDeskModel", "askedFile", "I", false)
  | 15 => ("AuditDeskModel", "askedKeeper", "I", false)
  | 16 => ("AuditDeskModel", "row", "[I", true)
  | 17 => ("AuditDeskModel", "coefficient", "[I", true)
  | 18 => ("AuditDeskModel", "answer", "[I", true)
  | 19 => ("AuditDeskModel", "found", "I", false)
  | 20 => ("AuditDeskModel", "bad", "[I", true)
  | 21 => ("AuditDeskModel", "fetched", "I", false)
  | 22 => ("AuditDeskModel", "fetch", "[I", true)
  | 23 => ("AuditDeskModel", "gathered", "[I", true)
  | 24 => ("AuditDeskModel", "sums", "[J", true)
  | _ => ("AuditDeskModel", "back", "[I", true)
def jty6 : Nat → FieldType := fun k => match k with
  | 0 => .int
  | 1 => .long
  | 2 => .long
  | 3 => .array .int
  | 4 => .int
  | 5 => .array .int
  | 6 => .array .int
  | 7 => .array .boolean
  | 8 => .array .int
  | 9 => .array .boolean
  | 10 => .array .int
  | 11 => .array .int
  | 12 => .array .int
  | 13 => .int
  | 14 => .int
  | 15 => .int
  | 16 => .array .int
  | 17 => .array .int
  | 18 => .array .int
  | 19 => .int
  | 20 => .array .int
  | 21 => .int
  | 22 => .array .int
  | 23 => .array .int
  | 24 => .array .long
  | _ => .array .int
theorem jnm6 : ∀ a, a < 26 → ∀ b, b < 26 → a ≠ b → (jT6 a).2.1 ≠ (jT6 b).2.1 := by decide +kernel
theorem jtyok6 : ∀ k, k < 26 → parseFieldDescriptor (jT6 k).2.2.1 = some (jty6 k) := by decide +kernel
def jcl : List vw_C := [("AuditDesk", jT0, 13), ("AuditDesk$Challenge", jT1, 8), ("AuditDesk$Copy", jT2, 3), ("AuditDesk$Deposit", jT3, 5), ("AuditDesk$Keeper", jT4, 4), ("AuditDesk$Rows", jT5, 1), ("AuditDeskModel", jT6, 26)]
def jcty (ci : Nat) : Nat → FieldType := match ci with
  | 0 => jty0
  | 1 => jty1
  | 2 => jty2
  | 3 => jty3
  | 4 => jty4
  | 5 => jty5
  | _ => jty6
def jfin (ci k : Nat) : Bool := match ci with
  | 0 => (jT0 k).2.2.2
  | 1 => (jT1 k).2.2.2
  | 2 => (jT2 k).2.2.2
  | 3 => (jT3 k).2.2.2
  | 4 => (jT4 k).2.2.2
  | 5 => (jT5 k).2.2.2
  | _ => (jT6 k).2.2.2
def jtyl : List FieldType := [.int, .boolean, .long, .object "AuditDesk$Deposit", .object "AuditDesk$Keeper", .object "AuditDesk$Copy"]
def jgood : Cond → Bool
  | .methodLinkNest .. => true
  | .fieldLinkNest .. => true
  | .castable .. => true
  | .declares .. => true
  | .arrayOver (.object _) => true
  | w => goodWord w
def jTab : List Cond := lw_tbl.filter jgood
theorem jTab_warm {w : Cond} {s U : State} {A : Array Value} (hw : w ∈ jTab) (hW : s.WarmedH U.vm) (h : ∀ A : Array Value, w.before A s = true) : w.before A U = true := by
  have hg := (List.mem_filter.mp hw).2
  unfold jgood at hg
  split at hg
  · exact va_Nw.use rfl (va_Nw.warmM hW (h #[]))
  · exact va_Nw.use rfl (va_Nw.warmF hW (h #[]))
  · exact va_Nw.use rfl (va_Nw.warmC hW (h #[]))
  · exact va_Nw.use rfl (va_Nw.warmD hW (h #[]))
  · exact va_AO.use (va_AO.moved hW.alike (va_AO.of (h #[])))
  · exact word_at hW (good_of_word hg) (h #[])
theorem jTab_in {w : Cond} (i : Nat) (h : tables_1[i]? = some w) (hg : jgood w = true) : w ∈ jTab := List.mem_filter.mpr ⟨List.mem_append_right _ (List.mem_of_getElem? h), hg⟩
theorem jTab_sel {y : MethodName} (i n : Nat) (h : lw_privs[i]? = some (y, n)) (hg : jgood (Cond.selects y.cls y y) = true) : Cond.selects y.cls y y ∈ jTab :=
  List.mem_filter.mpr ⟨List.mem_append_left _ (List.mem_map.mpr ⟨(y, n), List.mem_of_getElem? h, rfl⟩), hg⟩
theorem jin0 : ∀ w ∈ u_ws "AuditDesk" jT0 13, w ∈ jTab := by
  intro w hw
  obtain ⟨k, hk, rfl⟩ := List.mem_map.mp hw
  have hk := List.mem_range.mp hk
  match k, hk with
  | 0, _ => exact jTab_in 163 (by decide +kernel) (by decide +kernel)
  | 1, _ => exact jTab_in 165 (by decide +kernel) (by decide +kernel)
  | 2, _ => exact jTab_in 167 (by decide +kernel) (by decide +kernel)
  | 3, _ => exact jTab_in 169 (by decide +kernel) (by decide +kernel)
  | 4, _ => exact jTab_in 171 (by decide +kernel) (by decide +kernel)
  | 5, _ => exact jTab_in 173 (by decide +kernel) (by decide +kernel)
  | 6, _ => exact jTab_in 175 (by decide +kernel) (by decide +kernel)
  | 7, _ => exact jTab_in 177 (by decide +kernel) (by decide +kernel)
  | 8, _ => exact jTab_in 179 (by decide +kernel) (by decide +kernel)
  | 9, _ => exact jTab_in 181 (by decide +kernel) (by decide +kernel)
  | 10, _ => exact jTab_in 183 (by decide +kernel) (by decide +kernel)
  | 11, _ => exact jTab_in 185 (by decide +kernel) (by decide +kernel)
  | 12, _ => exact jTab_in 187 (by decide +kernel) (by decide +kernel)
theorem jin1 : ∀ w ∈ u_ws "AuditDesk$Challenge" jT1 8, w ∈ jTab := by
  intro w hw
  obtain ⟨k, hk, rfl⟩ := List.mem_map.mp hw
  have hk := List.mem_range.mp hk
  match k, hk with
  | 0, _ => exact jTab_in 131 (by decide +kernel) (by decide +kernel)
  | 1, _ => exact jTab_in 133 (by decide +kernel) (by decide +kernel)
  | 2, _ => exact jTab_in 135 (by decide +kernel) (by decide +kernel)
  | 3, _ => exact jTab_in 137 (by decide +kernel) (by decide +kernel)
  | 4, _ => exact jTab_in 139 (by decide +kernel) (by decide +kernel)
  | 5, _ => exact jTab_in 141 (by decide +kernel) (by decide +kernel)
  | 6, _ => exact jTab_in 143 (by decide +kernel) (by decide +kernel)
  | 7, _ => exact jTab_in 145 (by decide +kernel) (by decide +kernel)
theorem jin2 : ∀ w ∈ u_ws "AuditDesk$Copy" jT2 3, w ∈ jTab := by
  intro w hw
  obtain ⟨k, hk, rfl⟩ := List.mem_map.mp hw
  have hk := List.mem_range.mp hk
  match k, hk with
  | 0, _ => exact jTab_in 85 (by decide +kernel) (by decide +kernel)
  | 1, _ => exact jTab_in 87 (by decide +kernel) (by decide +kernel)
  | 2, _ => exact jTab_in 89 (by decide +kernel) (by decide +kernel)
theorem jin3 : ∀ w ∈ u_ws "AuditDesk$Deposit" jT3 5, w ∈ jTab := by
  intro w hw
  obtain ⟨k, hk, rfl⟩ := List.mem_map.mp hw
  have hk := List.mem_range.mp hk
  match k, hk with
  | 0, _ => exact jTab_in 52 (by decide +kernel) (by decide +kernel)
  | 1, _ => exact jTab_in 54 (by decide +kernel) (by decide +kernel)
  | 2, _ => exact jTab_in 56 (by decide +kernel) (by decide +kernel)
  | 3, _ => exact jTab_in 58 (by decide +kernel) (by decide +kernel)
  | 4, _ => exact jTab_in 60 (by decide +kernel) (by decide +kernel)
theorem jin4 : ∀ w ∈ u_ws "AuditDesk$Keeper" jT4 4, w ∈ jTab := by
  intro w hw
  obtain ⟨k, hk, rfl⟩ := List.mem_map.mp hw
  have hk := List.mem_range.mp hk
  match k, hk with
  | 0, _ => exact jTab_in 101 (by decide +kernel) (by decide +kernel)
  | 1, _ => exact jTab_in 103 (by decide +kernel) (by decide +kernel)
  | 2, _ => exact jTab_in 105 (by decide +kernel) (by decide +kernel)
  | 3, _ => exact jTab_in 107 (by decide +kernel) (by decide +kernel)
theorem jin5 : ∀ w ∈ u_ws "AuditDesk$Rows" jT5 1, w ∈ jTab := by
  intro w hw
  obtain ⟨k, hk, rfl⟩ := List.mem_map.mp hw
  have hk := List.mem_range.mp hk
  match k, hk with
  | 0, _ => exact jTab_in 38 (by decide +kernel) (by decide +kernel)
theorem jin6 : ∀ w ∈ u_ws "AuditDeskModel" jT6 26, w ∈ jTab := by
  intro w hw
  obtain ⟨k, hk, rfl⟩ := List.mem_map.mp hw
  have hk := List.mem_range.mp hk
  match k, hk with
  | 0, _ => exact jTab_in 629 (by decide +kernel) (by decide +kernel)
  | 1, _ => exact jTab_in 631 (by decide +kernel) (by decide +kernel)
  | 2, _ => exact jTab_in 633 (by decide +kernel) (by decide +kernel)
  | 3, _ => exact jTab_in 635 (by decide +kernel) (by decide +kernel)
  | 4, _ => exact jTab_in 637 (by decide +kernel) (by decide +kernel)
  | 5, _ => exact jTab_in 639 (by decide +kernel) (by decide +kernel)
  | 6, _ => exact jTab_in 641 (by decide +kernel) (by decide +kernel)
  | 7, _ => exact jTab_in 643 (by decide +kernel) (by decide +kernel)
  | 8, _ => exact jTab_in 645 (by decide +kernel) (by decide +kernel)
  | 9, _ => exact jTab_in 647 (by decide +kernel) (by decide +kernel)
  | 10, _ => exact jTab_in 649 (by decide +kernel) (by decide +kernel)
  | 11, _ => exact jTab_in 651 (by decide +kernel) (by decide +kernel)
  | 12, _ => exact jTab_in 653 (by decide +kernel) (by decide +kernel)
  | 13, _ => exact jTab_in 655 (by decide +kernel) (by decide +kernel)
  | 14, _ => exact jTab_in 657 (by decide +kernel) (by decide +kernel)
  | 15, _ => exact jTab_in 659 (by decide +kernel) (by decide +kernel)
  | 16, _ => exact jTab_in 661 (by decide +kernel) (by decide +kernel)
  | 17, _ => exact jTab_in 663 (by decide +kernel) (by decide +kernel)
  | 18, _ => exact jTab_in 665 (by decide +kernel) (by decide +kernel)
  | 19, _ => exact jTab_in 667 (by decide +kernel) (by decide +kernel)
  | 20, _ => exact jTab_in 669 (by decide +kernel) (by decide +kernel)
  | 21, _ => exact jTab_in 671 (by decide +kernel) (by decide +kernel)
  | 22, _ => exact jTab_in 673 (by decide +kernel) (by decide +kernel)
  | 23, _ => exact jTab_in 675 (by decide +kernel) (by decide +kernel)
  | 24, _ => exact jTab_in 677 (by decide +kernel) (by decide +kernel)
  | 25, _ => exact jTab_in 679 (by decide +kernel) (by decide +kernel)
  | k + 26, h => exact absurd h (by omega)
theorem jcl_in {ci : Nat} {C : String} {T : u_T} {N : Nat} (h : jcl[ci]? = some (C, T, N)) : ∀ w ∈ u_ws C T N, w ∈ jTab := by
  have hl : ci < 7 := (List.getElem?_eq_some_iff.mp h).1
  match ci, hl, h with
  | 0, _, h => cases h; exact jin0
  | 1, _, h => cases h; exact jin1
  | 2, _, h => cases h; exact jin2
  | 3, _, h => cases h; exact jin3
  | 4, _, h => cases h; exact jin4
  | 5, _, h => cases h; exact jin5
  | 6, _, h => cases h; exact jin6
theorem jcl_ty {ci : Nat} {C : String} {T : u_T} {N : Nat} (h : jcl[ci]? = some (C, T, N)) : ∀ k, k < N → parseFieldDescriptor (T k).2.2.1 = some (jcty ci k) := by
  have hl : ci < 7 := (List.getElem?_eq_some_iff.mp h).1
  match ci, hl, h with
  | 0, _, h => cases h; exact jtyok0
  | 1, _, h => cases h; exact jtyok1
  | 2, _, h => cases h; exact jtyok2
  | 3, _, h => cases h; exact jtyok3
  | 4, _, h => cases h; exact jtyok4
  | 5, _, h => cases h; exact jtyok5
  | 6, _, h => cases h; exact jtyok6
theorem jcl_nm {ci : Nat} {C : String} {T : u_T} {N : Nat} (h : jcl[ci]? = some (C, T, N)) : ∀ a, a < N → ∀ b, b < N → a ≠ b → (T a).2.1 ≠ (T b).2.1 := by
  have hl : ci < 7 := (List.getElem?_eq_some_iff.mp h).1
  match ci, hl, h with
  | 0, _, h => cases h; exact jnm0
  | 1, _, h => cases h; exact jnm1
  | 2, _, h => cases h; exact jnm2
  | 3, _, h => cases h; exact jnm3
  | 4, _, h => cases h; exact jnm4
  | 5, _, h => cases h; exact jnm5
  | 6, _, h => cases h; exact jnm6
theorem jcl_fin {ci k : Nat} {C : String} {T : u_T} {N : Nat} (h : jcl[ci]? = some (C, T, N)) (hk : k < N) : (T k).2.2.2 = jfin ci k := by
  have hl : ci < 7 := (List.getElem?_eq_some_iff.mp h).1
  match ci, hl, h with
  | 0, _, h => cases h; rfl
  | 1, _, h => cases h; rfl
  | 2, _, h => cases h; rfl
  | 3, _, h => cases h; rfl
  | 4, _, h => cases h; rfl
  | 5, _, h => cases h; rfl
  | 6, _, h => cases h; rfl
end
section
/-! the cells that the law makes, by number behind its start; one judgement for every method over them -/
abbrev jE : Type := (Nat × vp_A) ⊕ (Nat × List Value)
abbrev jG : Type := Launch × (Nat × Nat × Nat × Nat) × (Nat → Int32) × va_G × (Nat → ClassId)
def jl (g : jG) : Launch := g.1
def jb (g : jG) : Nat := g.2.1.1
def jaS (g : jG) : Nat := g.2.1.2.1
def jaN (g : jG) : Nat := g.2.1.2.2.1
def jaI (g : jG) : Nat := g.2.1.2.2.2
def jxs (g : jG) : Nat → Int32 := g.2.2.1
def jD (g : jG) : va_G := g.2.2.2.1
def jcA (g : jG) : Nat → ClassId := g.2.2.2.2
def jA (g : jG) : Nat → Prop := fun q => jb g ≤ q
def jre (g : jG) (e : jE) : va_E := match e with
  | .inl a => .inl (jcA g a.1, a.2)
  | .inr o => .inr o
def jpool (g : jG) (N : Nat) (mu : Nat → jE) : va_W := (List.range N).map (fun q => (jb g + q, jre g (mu q)))
theorem jpool_get {g : jG} {N : Nat} {mu : Nat → jE} {q : Nat} (h : q < N) : (jpool g N mu)[q]? = some (jb g + q, jre g (mu q)) := by
  simp [jpool, h]
theorem jpool_len {g : jG} {N : Nat} {mu : Nat → jE} : (jpool g N mu).length = N := by
  simp [jpool]
theorem jpool_at {g : jG} {N : Nat} {mu : Nat → jE} {i : Nat} {x : Nat × va_E} (h : (jpool g N mu)[i]? = some x) : i < N ∧ x = (jb g + i, jre g (mu i)) := by
  have hl : i < (jpool g N mu).length := (List.getElem?_eq_some_iff.mp h).1
  have hN : i < N := by rw [jpool_len] at hl; exact hl
  refine ⟨hN, ?_⟩
  rw [jpool_get hN] at h
  exact (Option.some.inj h).symm
theorem jpool_D (g : jG) (N : Nat) (mu : Nat → jE) : va_D (jA g) (jpool g N mu) := by
  refine ⟨fun i j x y hi hj hxy => ?_, fun k q hk => ?_⟩
  · obtain ⟨-, rfl⟩ := jpool_at hi
    obtain ⟨-, rfl⟩ := jpool_at hj
    have h : jb g + i = jb g + j := hxy
    omega
  · obtain ⟨-, rfl⟩ := jpool_at hk
    exact Nat.le_add_right _ _
theorem jpool_set {g : jG} {N : Nat} {mu : Nat → jE} {q : Nat} (h : q < N) (e : jE) : (jpool g N mu).set q (jb g + q, jre g e) = jpool g N (va_up mu q e) := by
  apply List.ext_getElem?
  intro i
  by_cases hi : i < N
  · by_cases hq : i = q
    · subst hq
      rw [List.getElem?_set_self (by rw [jpool_len]; exact hi), jpool_get hi]
      simp [va_up]
    · rw [List.getElem?_set_ne (Ne.symm hq), jpool_get hi, jpool_get hi]
      simp [va_up, hq]
  · rw [List.getElem?_eq_none (by rw [List.length_set, jpool_len]; omega), List.getElem?_eq_none (by rw [jpool_len]; omega)]
theorem jpool_push {g : jG} {N : Nat} {mu : Nat → jE} (e : jE) : jpool g N mu ++ [(jb g + N, jre g e)] = jpool g (N + 1) (va_up mu N e) := by
  unfold jpool
  rw [List.range_succ, List.map_append]
  congr 1
  · apply List.map_congr_left
    intro q hq
    have hlt := List.mem_range.mp hq
    simp [va_up, Nat.ne_of_lt hlt]
  · simp [va_up]
/-- a method: its class, name, code, number of locals, answer's type, handlers -/
abbrev jY : Type := String × MethodName × ByteArray × Nat × Option FieldType × List (Nat × Nat × Nat × Nat)
def jyo (y : jY) : String := y.1
def jyn (y : jY) : MethodName := y.2.1
def jyc (y : jY) : ByteArray := y.2.2.1
def jyL (y : jY) : Nat := y.2.2.2.1
def jyr (y : jY) : Option FieldType := y.2.2.2.2.1
def jyh (y : jY) : List (Nat × Nat × Nat × Nat) := y.2.2.2.2.2
def jcw (y : jY) : Cond := match jyh y with
  | [] => .code (jyn y) (jyc y) (jyL y) (jyr y)
  | _ => .codeWith (jyn y) (jyc y) (jyL y) (jyr y) (jyh y)
def jRm (d : Nat × Nat) (kC kS : Nat) : Room := { frames := d.1, cells := kC, slots := kS, locals := d.2 }
abbrev jRes : Type := Option Value ⊕ Nat
/-- N known cells, what they hold, whether they are all that was made, the cells and slots that this method has made -/
abbrev jS : Type := Nat × (Nat → jE) × Bool × Nat × Nat
abbrev jQ : Type := jRes → Nat → (Nat → jE) → Bool → Prop
def jSz (g : jG) (x : Bool) (N : Nat) (H : Heap) : Prop := x = true → H.size = jb g + N
def jex (x : Nat) : String := match x with
  | 0 => "java/lang/IllegalStateException"
  | 1 => "java/lang/IllegalArgumentException"
  | _ => "java/lang/IndexOutOfBoundsException"
def jOut (s t : State) (r : jRes) (o : Outcome) : Prop := match r with
  | .inl v => o = .returned v
  | .inr x => ∃ (a : Addr) (cell : Cell), o = .threw a ∧ t.heap[a]? = some cell ∧ cell.vm.isStatics = false ∧ s.vm.findClass (jex x) = some cell.cls
def jtys (g : jG) : List (ClassId × FieldType) := (List.range jtyl.length).map (fun t => (jcA g t, jtyl.getD t .int))
theorem jtys_get {g : jG} {t : Nat} {ty : FieldType} (h : jtyl[t]? = some ty) : (jtys g)[t]? = some (jcA g t, ty) := by
  have hl : t < jtyl.length := (List.getElem?_eq_some_iff.mp h).1
  simp [jtys, hl]
  exact (List.getElem?_eq_some_iff.mp h).2
def jP (g : jG) (N : Nat) (mu : Nat → jE) (H : Heap) : Prop := va_P (jD g) jcl (jpool g N mu) H
def jinv (j : Nat) : Int32 := match j with
  | 0 => 0
  | 1 => 1
  | 2 => 1073741824
  | 3 => 1431655765
  | 4 => 536870912
  | _ => 858993459
def jStr : List (Nat × String) := [(57, "there is a file"), (77, "a file has 1 to 64 words"), (80, "there are 3 files"), (98, "no such file or keeper"), (125, "no such row of a keeper"), (137, "no such number of a keeper's row, or d is not of the field"), (139, "the row is lost"), (157, "the keeper has no such file, or m is not 1 to its rows"), (184, "no challenge"), (202, "the keeper has no such file"), (213, "a group has not four good rows"), (218, "no such file"), (230, "no such number of a file's row"), (232, "no such number of a keeper's row")]
def jNos : List (String × String) := [("java/lang/IllegalStateException", "java/lang/IllegalArgumentException"), ("java/lang/IllegalStateException", "java/lang/IndexOutOfBoundsException")]
def jNo (a b : Nat) : Prop := (jex a, jex b) ∈ jNos
def jU : String := "[Ljava/lang/StackTraceElement;"
def jLs (g : jG) (s : State) (C n d : String) : Prop := ∃ a : Nat, a < jb g ∧ (∃ (k : Class) (c i : Nat) (f : Field), s.fieldFound? C n d = some (c, k, i, f) ∧ k.statics = some a) ∧ (Cond.laysStatic C n d).before #[] s = true
theorem jLs_to {g : jG} {s U : State} {C n d : String} (h : jLs g s C n d) (hW : s.WarmedH U.vm) (ho : ∀ q : Nat, q < jb g → U.heap[q]? = s.heap[q]?) : jLs g U C n d := by
  obtain ⟨a, ha, ⟨k, c, i, f, h1, h2⟩, hl⟩ := h
  obtain ⟨c', k', i', f', a', cell, q1, q2, q3, q4, q5, q6, q7, q8, q9⟩ := Cond.laysStatic_spec hl
  cases h1.symm.trans q2
  cases h2.symm.trans q4
  obtain ⟨k2, hi2, he⟩ := State.fieldFound?_setVm hW.alike q2
  have hi3 : U.fieldFound? C n d = some (c, k2, i, f) := hi2
  exact ⟨a, ha, ⟨k2, c, i, f, hi3, by rw [he]; exact q4⟩, Cond.laysStatic_of (by rw [hW.alike.findClass]; exact q1) hi3 q3 (by rw [he]; exact q4) (by rw [ho a ha]; exact q5) q6 q7 q8 (by rw [he]; exact q9)⟩
/-- the cells that were there before the law's start: the table of inverses, the two statics that a Throwable reads, the texts; classes that are none of another's -/
def jFor (g : jG) (s : State) : Prop := va_Z "AuditDesk$Field" "INVERSES" "[I" (.ref (jaI g)) (jA g) s s.heap ∧ va_T .int (jaI g) 6 (fun j => .int (jinv j)) (jA g) s s.heap ∧
  (va_Zq "java/lang/Throwable" "UNASSIGNED_STACK" jU (jA g) s s.heap ∧ va_Zq "java/lang/Throwable" "SUPPRESSED_SENTINEL" "Ljava/util/List;" (jA g) s s.heap) ∧
  (jLs g s "java/lang/Throwable" "UNASSIGNED_STACK" jU ∧ jLs g s "java/lang/Throwable" "SUPPRESSED_SENTINEL" "Ljava/util/List;") ∧ (∀ q ∈ jStr, ∃ a, vk_R "AuditDesk" q.1 q.2 a s) ∧ ∀ q ∈ jNos, ∀ c t : ClassId, s.vm.findClass q.1 = some c → s.vm.findClass q.2 = some t → s.vm.assignable c t = false
theorem jFor_to {g : jG} {s U : State} (h : jFor g s) (hW : s.WarmedH U.vm) (hb : jb g ≤ s.heap.size) (ho : ∀ q : Nat, q < jb g → U.heap[q]? = s.heap[q]?) : jFor g U := by
  obtain ⟨h1, h2, ⟨h3, h4⟩, ⟨l1, l2⟩, h5, h6⟩ := h
  have k : ∀ a : Nat, a < s.heap.size → ¬ jA g a → U.heap[a]? = s.heap[a]? := fun a _ hA => ho a (Nat.not_le.mp hA)
  have hal := hW.alike
  refine ⟨(h1.moved hal).kept k, (h2.moved hal).kept k, ⟨(h3.moved hal).kept k, (h4.moved hal).kept k⟩, ⟨jLs_to l1 hW ho, jLs_to l2 hW ho⟩, fun q hq => ?_, fun q hq c t hc ht => ?_⟩
  · obtain ⟨a, ha⟩ := h5 q hq
    exact ⟨a, ha.warm hW⟩
  · rw [hal.findClass] at hc ht
    rw [hal.assignable]
    exact h6 q hq c t hc ht
theorem jisRef {C n d : String} {A : Nat → Prop} {U : State} {args : Array Value} (h : va_Zq C n d A U U.heap) : (Cond.isRef (.static C n d)).before args U = true := by
  rcases h with h | ⟨t, h⟩
  · obtain ⟨cf, kf, fi, f, a, cell, h1, h2, h3, h4, h5, h6, h7, -⟩ := h
    simp [Cond.before, Cond.holds, Cond.value, Term.eval, State.fieldNamed?, h1, h2, h4, h5, h6, h7]
  · obtain ⟨cf, kf, fi, f, a, cell, h1, h2, h3, h4, h5, h6, h7, -⟩ := h
    simp [Cond.before, Cond.holds, Cond.value, Term.eval, State.fieldNamed?, h1, h2, h4, h5, h6, h7]
/-- what every state of the run keeps: the tables' words, the numbers of the classes, the cells that were there before the law's start -/
def jHyp (g : jG) (s : State) : Prop :=
  (∀ w ∈ jTab, ∀ A : Array Value, w.before A s = true) ∧ va_K (jD g) jcl (jtys g) s ∧ jb g ≤ s.heap.size ∧ (jaS g < jb g ∧ va_X (jaS g) (jaN g) (jxs g) s s.heap) ∧ jFor g s ∧ ∀ e : Env, (jl g).admits e → e.platform.stackTraces = false
def jCx (g : jG) (y : jY) (p : Program) (s : State) (m : MethodId) (meth : Method) (c : Code) : Prop :=
  p.tables.exec = Jvm.exec ∧ c.code = jyc y ∧ c.maxLocals = jyL y ∧ s.vm.findClass (jyo y) = some m.cls ∧ jHyp g s ∧ meth.sig.returnType = jyr y ∧ meth.locks = false ∧ meth.name = (jyn y).name ∧
    c.exceptionTable.toList = tableOf (jyh y)
def jEnd (g : jG) (kC kS : Nat) (Q : jQ) (s : State) (o : Outcome) (t : State) : Prop :=
  s.WarmedH t.vm ∧ (∃ L, s.sameButNew ({ t with vm := s.vm } : State) L kC kS ∧ ∀ q ∈ L, jb g ≤ q.base) ∧ va_F (jA g) s t ∧
    ∃ (r : jRes) (N : Nat) (mu : Nat → jE) (x : Bool), Q r N mu x ∧ jOut s t r o ∧ jP g N mu t.heap ∧ jSz g x N t.heap
def jZ (g : jG) (below : List Frame) (kC kS : Nat) (Q : jQ) (s : State) : State → Prop := fun t => ∃ o, t.status = .running ∧ Ended t below o ∧ jEnd g kC kS Q s o t
/-- a walk's frame: the place, the method, its depth, the cells and slots that it may make, its end -/
abbrev jF : Type := jG × jY × (Nat × Nat) × Nat × Nat × jQ
def jJ (f : jF) (lv : List (Nat × Value)) (w : jS) (pc : Nat) (st : List Value) : Prop :=
  ∀ (p : Program) (e : Env) (s : State) (m : MethodId) (args : Array Value) (below : List Frame) (meth : Method) (c : Code), jCx f.1 f.2.1 p s m meth c →
    ∀ (ls : Array Slot) (H : Heap) (locs : List Loc), lv_has ls (jyL f.2.1) lv → jP f.1 w.1 w.2.1 H → jSz f.1 w.2.2.1 w.1 H → va_S (jA f.1) s.heap H locs →
      W p (jl f.1) e (jRm f.2.2.1 f.2.2.2.1 f.2.2.2.2.1) s m args below meth c H locs w.2.2.2.1 w.2.2.2.2 (jZ f.1 below f.2.2.2.1 f.2.2.2.2.1 f.2.2.2.2.2 s) (F0 m pc ls st)
/-- a method's contract at given arguments and cells -/
def jMet (g : jG) (y : jY) (d : Nat × Nat) (kC kS : Nat) (as : List Value) (N : Nat) (mu : Nat → jE) (x : Bool) (Q : jQ) : Prop :=
  MetFree (jl g) (jyn y) (headSpec [jcw y] (jRm d kC kS)) (fun a U => a = as.toArray ∧ jHyp g U ∧ jP g N mu U.heap ∧ jSz g x N U.heap) (fun _ _ _ _ _ => True) (fun _ s o t => jEnd g kC kS Q s o t)
theorem jMet.mono {g : jG} {y : jY} {d : Nat × Nat} {kC kS : Nat} {as : List Value} {N : Nat} {mu : Nat → jE} {x : Bool} {Q Q' : jQ} (h : jMet g y d kC kS as N mu x Q) (hQ : ∀ r N' mu' x', Q r N' mu' x' → Q' r N' mu' x') : jMet g y d kC kS as N mu x Q' := by
  intro p e h1 h2 h3 s m args below h4 h5 h6 h7
  obtain ⟨n, o, a1, a2, a3, b1, b2, b3, r, N', mu', x', c1, c2⟩ := h p e h1 h2 h3 s m args below h4 h5 h6 h7
  exact ⟨n, o, a1, a2, a3, b1, b2, b3, r, N', mu', x', hQ _ _ _ _ c1, c2⟩
end
section
/-! the simple instructions over jJ -/
theorem j_iconst {f : jF} {lv : List (Nat × Value)} {w : jS} {pc : Nat} {st : List Value} {n : Int} {v : Int32} (hd : decode (jyc f.2.1) pc = .ok (.iconst n, 1)) (hv : Int32.ofInt n = v) (kk : jJ f lv w (pc + 1) (.int v :: st)) : jJ f lv w pc st := by
  intro p e s m args below meth c C ls H locs hl hP hz hS
  exact lv_iconst C.1 C.2.1 hd hv (kk p e s m args below meth c C ls H locs hl hP hz hS)
theorem j_bipush {f : jF} {lv : List (Nat × Value)} {w : jS} {pc : Nat} {st : List Value} {n : Int} {v : Int32} (hd : decode (jyc f.2.1) pc = .ok (.bipush n, 2)) (hv : (Int8.ofInt n).toInt32 = v) (kk : jJ f lv w (pc + 2) (.int v :: st)) : jJ f lv w pc st := by
  intro p e s m args below meth c C ls H locs hl hP hz hS
  exact lv_bipush C.1 C.2.1 hd hv (kk p e s m args below meth c C ls H locs hl hP hz hS)
theorem j_sipush {f : jF} {lv : List (Nat × Value)} {w : jS} {pc : Nat} {st : List Value} {n : Int} {v : Int32} (hd : decode (jyc f.2.1) pc = .ok (.sipush n, 3)) (hv : (Int16.ofInt n).toInt32 = v) (kk : jJ f lv w (pc + 3) (.int v :: st)) : jJ f lv w pc st := by
  intro p e s m args below meth c C ls H locs hl hP hz hS
  exact lv_sipush C.1 C.2.1 hd hv (kk p e s m args below meth c C ls H locs hl hP hz hS)
theorem j_lconst {f : jF} {lv : List (Nat × Value)} {w : jS} {pc : Nat} {st : List Value} {n : Fin 2} {v : Int64} (hd : decode (jyc f.2.1) pc = .ok (.lconst n, 1)) (hv : Int64.ofNat (n : Nat) = v) (kk : jJ f lv w (pc + 1) (.long v :: st)) : jJ f lv w pc st := by
  intro p e s m args below meth c C ls H locs hl hP hz hS
  exact lv_lconst C.1 C.2.1 hd hv (kk p e s m args below meth c C ls H locs hl hP hz hS)
theorem j_iload_n {f : jF} {lv : List (Nat × Value)} {w : jS} {pc : Nat} {st : List Value} {j : Fin 4} {i : Nat} {x : Int32} (hd : decode (jyc f.2.1) pc = .ok (.iload_n j, 1)) (hi : (j : Nat) = i) (k : Nat) (hk : lv[k]? = some (i, .int x)) (kk : jJ f lv w (pc + 1) (.int x :: st)) : jJ f lv w pc st := by
  intro p e s m args below meth c C ls H locs hl hP hz hS
  exact lv_iload_n C.1 C.2.1 hd hi (lv_at hl k hk) (kk p e s m args below meth c C ls H locs hl hP hz hS)
theorem j_iload {f : jF} {lv : List (Nat × Value)} {w : jS} {pc : Nat} {st : List Value} {i : Nat} {x : Int32} (hd : decode (jyc f.2.1) pc = .ok (.iload i, 2)) (k : Nat) (hk : lv[k]? = some (i, .int x)) (kk : jJ f lv w (pc + 2) (.int x :: st)) : jJ f lv w pc st := by
  intro p e s m args below meth c C ls H locs hl hP hz hS
  exact lv_iload C.1 C.2.1 hd (lv_at hl k hk) (kk p e s m args below meth c C ls H locs hl hP hz hS)
theorem j_istore_n {f : jF} {lv : List (Nat × Value)} {w : jS} {pc : Nat} {st : List Value} {j : Fin 4} {i : Nat} {x : Int32} {lv' : List (Nat × Value)} (hd : decode (jyc f.2.1) pc = .ok (.istore_n j, 1)) (hi : (j : Nat) = i) (hn : i < jyL f.2.1) (hv : (i, Value.int x) :: lv.filter (fun q => !(q.1 == i) && !(q.1 + 1 == i && q.2.category == 2)) = lv') (kk : jJ f lv' w (pc + 1) st) : jJ f lv w pc (.int x :: st) := by
  intro p e s m args below meth c C ls H locs hl hP hz hS
  exact lv_istore_n C.1 C.2.1 hd hi hl hn hv (fun ls' hl' => kk p e s m args below meth c C ls' H locs hl' hP hz hS)
theorem j_istore {f : jF} {lv : List (Nat × Value)} {w : jS} {pc : Nat} {st : List Value} {i : Nat} {x : Int32} {lv' : List (Nat × Value)} (hd : decode (jyc f.2.1) pc = .ok (.istore i, 2)) (hn : i < jyL f.2.1) (hv : (i, Value.int x) :: lv.filter (fun q => !(q.1 == i) && !(q.1 + 1 == i && q.2.category == 2)) = lv') (kk : jJ f lv' w (pc + 2) st) : jJ f lv w pc (.int x :: st) := by
  intro p e s m args below meth c C ls H locs hl hP hz hS
  exact lv_istore C.1 C.2.1 hd hl hn hv (fun ls' hl' => kk p e s m args below meth c C ls' H locs hl' hP hz hS)
theorem j_lload_n {f : jF} {lv : List (Nat × Value)} {w : jS} {pc : Nat} {st : List Value} {j : Fin 4} {i : Nat} {x : Int64} (hd : decode (jyc f.2.1) pc = .ok (.lload_n j, 1)) (hi : (j : Nat) = i) (k : Nat) (hk : lv[k]? = some (i, .long x)) (kk : jJ f lv w (pc + 1) (.long x :: st)) : jJ f lv w pc st := by
  intro p e s m args below meth c C ls H locs hl hP hz hS
  exact lv_lload_n C.1 C.2.1 hd hi (lv_at hl k hk) (kk p e s m args below meth c C ls H locs hl hP hz hS)
theorem j_lload {f : jF} {lv : List (Nat × Value)} {w : jS} {pc : Nat} {st : List Value} {i : Nat} {x : Int64} (hd : decode (jyc f.2.1) pc = .ok (.lload i, 2)) (k : Nat) (hk : lv[k]? = some (i, .long x)) (kk : jJ f lv w (pc + 2) (.long x :: st)) : jJ f lv w pc st := by
  intro p e s m args below meth c C ls H locs hl hP hz hS
  exact lv_lload C.1 C.2.1 hd (lv_at hl k hk) (kk p e s m args below meth c C ls H locs hl hP hz hS)
theorem j_lstore_n {f : jF} {lv : List (Nat × Value)} {w : jS} {pc : Nat} {st : List Value} {j : Fin 4} {i : Nat} {x : Int64} {lv' : List (Nat × Value)} (hd : decode (jyc f.2.1) pc = .ok (.lstore_n j, 1)) (hi : (j : Nat) = i) (hn : i + 1 < jyL f.2.1) (hv : (i, Value.long x) :: lv.filter (fun q => !(q.1 == i) && (!(q.1 == i + 1) && !(q.1 + 1 == i && q.2.category == 2))) = lv') (kk : jJ f lv' w (pc + 1) st) : jJ f lv w pc (.long x :: st) := by
  intro p e s m args below meth c C ls H locs hl hP hz hS
  exact lv_lstore_n C.1 C.2.1 hd hi hl hn hv (fun ls' hl' => kk p e s m args below meth c C ls' H locs hl' hP hz hS)
theorem j_lstore {f : jF} {lv : List (Nat × Value)} {w : jS} {pc : Nat} {st : List Value} {i : Nat} {x : Int64} {lv' : List (Nat × Value)} (hd : decode (jyc f.2.1) pc = .ok (.lstore i, 2)) (hn : i + 1 < jyL f.2.1) (hv : (i, Value.long x) :: lv.filter (fun q => !(q.1 == i) && (!(q.1 == i + 1) && !(q.1 + 1 == i && q.2.category == 2))) = lv') (kk : jJ f lv' w (pc + 2) st) : jJ f lv w pc (.long x :: st) := by
  intro p e s m args below meth c C ls H locs hl hP hz hS
  exact lv_lstore C.1 C.2.1 hd hl hn hv (fun ls' hl' => kk p e s m args below meth c C ls' H locs hl' hP hz hS)
theorem j_aload_n {f : jF} {lv : List (Nat × Value)} {w : jS} {pc : Nat} {st : List Value} {j : Fin 4} {i : Nat} {x : Nat} (hd : decode (jyc f.2.1) pc = .ok (.aload_n j, 1)) (hi : (j : Nat) = i) (k : Nat) (hk : lv[k]? = some (i, .ref x)) (kk : jJ f lv w (pc + 1) (.ref x :: st)) : jJ f lv w pc st := by
  intro p e s m args below meth c C ls H locs hl hP hz hS
  exact lv_aload_n C.1 C.2.1 hd hi (lv_at hl k hk) (kk p e s m args below meth c C ls H locs hl hP hz hS)
theorem j_aload {f : jF} {lv : List (Nat × Value)} {w : jS} {pc : Nat} {st : List Value} {i : Nat} {x : Nat} (hd : decode (jyc f.2.1) pc = .ok (.aload i, 2)) (k : Nat) (hk : lv[k]? = some (i, .ref x)) (kk : jJ f lv w (pc + 2) (.ref x :: st)) : jJ f lv w pc st := by
  intro p e s m args below meth c C ls H locs hl hP hz hS
  exact lv_aload C.1 C.2.1 hd (lv_at hl k hk) (kk p e s m args below meth c C ls H locs hl hP hz hS)
theorem j_astore_n {f : jF} {lv : List (Nat × Value)} {w : jS} {pc : Nat} {st : List Value} {j : Fin 4} {i : Nat} {x : Nat} {lv' : List (Nat × Value)} (hd : decode (jyc f.2.1) pc = .ok (.astore_n j, 1)) (hi : (j : Nat) = i) (hn : i < jyL f.2.1) (hv : (i, Value.ref x) :: lv.filter (fun q => !(q.1 == i) && !(q.1 + 1 == i && q.2.category == 2)) = lv') (kk : jJ f lv' w (pc + 1) st) : jJ f lv w pc (.ref x :: st) := by
  intro p e s m args below meth c C ls H locs hl hP hz hS
  exact lv_astore_n C.1 C.2.1 hd hi hl hn hv (fun ls' hl' => kk p e s m args below meth c C ls' H locs hl' hP hz hS)
theorem j_astore {f : jF} {lv : List (Nat × Value)} {w : jS} {pc : Nat} {st : List Value} {i : Nat} {x : Nat} {lv' : List (Nat × Value)} (hd : decode (jyc f.2.1) pc = .ok (.astore i, 2)) (hn : i < jyL f.2.1) (hv : (i, Value.ref x) :: lv.filter (fun q => !(q.1 == i) && !(q.1 + 1 == i && q.2.category == 2)) = lv') (kk : jJ f lv' w (pc + 2) st) : jJ f lv w pc (.ref x :: st) := by
  intro p e s m args below meth c C ls H locs hl hP hz hS
  exact lv_astore C.1 C.2.1 hd hl hn hv (fun ls' hl' => kk p e s m args below meth c C ls' H locs hl' hP hz hS)
theorem j_iinc {f : jF} {lv : List (Nat × Value)} {w : jS} {pc : Nat} {st : List Value} {i : Nat} {n : Int} {x v : Int32} {lv' : List (Nat × Value)} (hd : decode (jyc f.2.1) pc = .ok (.iinc i n, 3)) (k : Nat) (hk : lv[k]? = some (i, .int x)) (hx : x + Int32.ofInt n = v) (hn : i < jyL f.2.1) (hv : (i, Value.int v) :: lv.filter (fun q => !(q.1 == i) && !(q.1 + 1 == i && q.2.category == 2)) = lv') (kk : jJ f lv' w (pc + 3) st) : jJ f lv w pc st := by
  intro p e s m args below meth c C ls H locs hl hP hz hS
  exact lv_iinc C.1 C.2.1 hd hl hk hx hn hv (fun ls' hl' => kk p e s m args below meth c C ls' H locs hl' hP hz hS)
theorem j_iadd {f : jF} {lv : List (Nat × Value)} {w : jS} {pc : Nat} {st : List Value} {x y : Int32} (hd : decode (jyc f.2.1) pc = .ok (.iadd, 1)) (kk : jJ f lv w (pc + 1) (.int (x + y) :: st)) : jJ f lv w pc (.int y :: .int x :: st) := by
  intro p e s m args below meth c C ls H locs hl hP hz hS
  exact lv_iadd C.1 C.2.1 hd (kk p e s m args below meth c C ls H locs hl hP hz hS)
theorem j_isub {f : jF} {lv : List (Nat × Value)} {w : jS} {pc : Nat} {st : List Value} {x y : Int32} (hd : decode (jyc f.2.1) pc = .ok (.isub, 1)) (kk : jJ f lv w (pc + 1) (.int (x - y) :: st)) : jJ f lv w pc (.int y :: .int x :: st) := by
  intro p e s m args below meth c C ls H locs hl hP hz hS
  exact lv_isub C.1 C.2.1 hd (kk p e s m args below meth c C ls H locs hl hP hz hS)
theorem j_imul {f : jF} {lv : List (Nat × Value)} {w : jS} {pc : Nat} {st : List Value} {x y : Int32} (hd : decode (jyc f.2.1) pc = .ok (.imul, 1)) (kk : jJ f lv w (pc + 1) (.int (x * y) :: st)) : jJ f lv w pc (.int y :: .int x :: st) := by
  intro p e s m args below meth c C ls H locs hl hP hz hS
  exact lv_imul C.1 C.2.1 hd (kk p e s m args below meth c C ls H locs hl hP hz hS)
theorem j_iand {f : jF} {lv : List (Nat × Value)} {w : jS} {pc : Nat} {st : List Value} {x y : Int32} (hd : decode (jyc f.2.1) pc = .ok (.iand, 1)) (kk : jJ f lv w (pc + 1) (.int (x &&& y) :: st)) : jJ f lv w pc (.int y :: .int x :: st) := by
  intro p e s m args below meth c C ls H locs hl hP hz hS
  exact lv_iand C.1 C.2.1 hd (kk p e s m args below meth c C ls H locs hl hP hz hS)
theorem j_ior {f : jF} {lv : List (Nat × Value)} {w : jS} {pc : Nat} {st : List Value} {x y : Int32} (hd : decode (jyc f.2.1) pc = .ok (.ior, 1)) (kk : jJ f lv w (pc + 1) (.int (x ||| y) :: st)) : jJ f lv w pc (.int y :: .int x :: st) := by
  intro p e s m args below meth c C ls H locs hl hP hz hS
  exact lv_ior C.1 C.2.1 hd (kk p e s m args below meth c C ls H locs hl hP hz hS)
theorem j_ixor {f : jF} {lv : List (Nat × Value)} {w : jS} {pc : Nat} {st : List Value} {x y : Int32} (hd : decode (jyc f.2.1) pc = .ok (.ixor, 1)) (kk : jJ f lv w (pc + 1) (.int (x ^^^ y) :: st)) : jJ f lv w pc (.int y :: .int x :: st) := by
  intro p e s m args below meth c C ls H locs hl hP hz hS
  exact lv_ixor C.1 C.2.1 hd (kk p e s m args below meth c C ls H locs hl hP hz hS)
theorem j_ishl {f : jF} {lv : List (Nat × Value)} {w : jS} {pc : Nat} {st : List Value} {x y : Int32} (hd : decode (jyc f.2.1) pc = .ok (.ishl, 1)) (kk : jJ f lv w (pc + 1) (.int (x <<< (y &&& 31)) :: st)) : jJ f lv w pc (.int y :: .int x :: st) := by
  intro p e s m args below meth c C ls H locs hl hP hz hS
  exact lv_ishl C.1 C.2.1 hd (kk p e s m args below meth c C ls H locs hl hP hz hS)
theorem j_ishr {f : jF} {lv : List (Nat × Value)} {w : jS} {pc : Nat} {st : List Value} {x y : Int32} (hd : decode (jyc f.2.1) pc = .ok (.ishr, 1)) (kk : jJ f lv w (pc + 1) (.int (x >>> (y &&& 31)) :: st)) : jJ f lv w pc (.int y :: .int x :: st) := by
  intro p e s m args below meth c C ls H locs hl hP hz hS
  exact lv_ishr C.1 C.2.1 hd (kk p e s m args below meth c C ls H locs hl hP hz hS)
theorem j_idiv {f : jF} {lv : List (Nat × Value)} {w : jS} {pc : Nat} {st : List Value} {x y : Int32} (hd : decode (jyc f.2.1) pc = .ok (.idiv, 1)) (hne : ¬ y = 0) (kk : jJ f lv w (pc + 1) (.int (x / y) :: st)) : jJ f lv w pc (.int y :: .int x :: st) := by
  intro p e s m args below meth c C ls H locs hl hP hz hS
  exact lv_idiv C.1 C.2.1 hd hne (kk p e s m args below meth c C ls H locs hl hP hz hS)
theorem j_irem {f : jF} {lv : List (Nat × Value)} {w : jS} {pc : Nat} {st : List Value} {x y : Int32} (hd : decode (jyc f.2.1) pc = .ok (.irem, 1)) (hne : ¬ y = 0) (kk : jJ f lv w (pc + 1) (.int (x - x / y * y) :: st)) : jJ f lv w pc (.int y :: .int x :: st) := by
  intro p e s m args below meth c C ls H locs hl hP hz hS
  exact lv_irem C.1 C.2.1 hd hne (kk p e s m args below meth c C ls H locs hl hP hz hS)
theorem j_ladd {f : jF} {lv : List (Nat × Value)} {w : jS} {pc : Nat} {st : List Value} {x y : Int64} (hd : decode (jyc f.2.1) pc = .ok (.ladd, 1)) (kk : jJ f lv w (pc + 1) (.long (x + y) :: st)) : jJ f lv w pc (.long y :: .long x :: st) := by
  intro p e s m args below meth c C ls H locs hl hP hz hS
  exact lv_ladd C.1 C.2.1 hd (kk p e s m args below meth c C ls H locs hl hP hz hS)
theorem j_lsub {f : jF} {lv : List (Nat × Value)} {w : jS} {pc : Nat} {st : List Value} {x y : Int64} (hd : decode (jyc f.2.1) pc = .ok (.lsub, 1)) (kk : jJ f lv w (pc + 1) (.long (x - y) :: st)) : jJ f lv w pc (.long y :: .long x :: st) := by
  intro p e s m args below meth c C ls H locs hl hP hz hS
  exact lv_lsub C.1 C.2.1 hd (kk p e s m args below meth c C ls H locs hl hP hz hS)
theorem j_lmul {f : jF} {lv : List (Nat × Value)} {w : jS} {pc : Nat} {st : List Value} {x y : Int64} (hd : decode (jyc f.2.1) pc = .ok (.lmul, 1)) (kk : jJ f lv w (pc + 1) (.long (x * y) :: st)) : jJ f lv w pc (.long y :: .long x :: st) := by
  intro p e s m args below meth c C ls H locs hl hP hz hS
  exact lv_lmul C.1 C.2.1 hd (kk p e s m args below meth c C ls H locs hl hP hz hS)
theorem j_land {f : jF} {lv : List (Nat × Value)} {w : jS} {pc : Nat} {st : List Value} {x y : Int64} (hd : decode (jyc f.2.1) pc = .ok (.land, 1)) (kk : jJ f lv w (pc + 1) (.long (x &&& y) :: st)) : jJ f lv w pc (.long y :: .long x :: st) := by
  intro p e s m args below meth c C ls H locs hl hP hz hS
  exact lv_land C.1 C.2.1 hd (kk p e s m args below meth c C ls H locs hl hP hz hS)
theorem j_lor {f : jF} {lv : List (Nat × Value)} {w : jS} {pc : Nat} {st : List Value} {x y : Int64} (hd : decode (jyc f.2.1) pc = .ok (.lor, 1)) (kk : jJ f lv w (pc + 1) (.long (x ||| y) :: st)) : jJ f lv w pc (.long y :: .long x :: st) := by
  intro p e s m args below meth c C ls H locs hl hP hz hS
  exact lv_lor C.1 C.2.1 hd (kk p e s m args below meth c C ls H locs hl hP hz hS)
theorem j_lxor {f : jF} {lv : List (Nat × Value)} {w : jS} {pc : Nat} {st : List Value} {x y : Int64} (hd : decode (jyc f.2.1) pc = .ok (.lxor, 1)) (kk : jJ f lv w (pc + 1) (.long (x ^^^ y) :: st)) : jJ f lv w pc (.long y :: .long x :: st) := by
  intro p e s m args below meth c C ls H locs hl hP hz hS
  exact lv_lxor C.1 C.2.1 hd (kk p e s m args below meth c C ls H locs hl hP hz hS)
theorem j_ldiv {f : jF} {lv : List (Nat × Value)} {w : jS} {pc : Nat} {st : List Value} {x y : Int64} (hd : decode (jyc f.2.1) pc = .ok (.ldiv, 1)) (hne : ¬ y = 0) (kk : jJ f lv w (pc + 1) (.long (x / y) :: st)) : jJ f lv w pc (.long y :: .long x :: st) := by
  intro p e s m args below meth c C ls H locs hl hP hz hS
  exact lv_ldiv C.1 C.2.1 hd hne (kk p e s m args below meth c C ls H locs hl hP hz hS)
theorem j_lrem {f : jF} {lv : List (Nat × Value)} {w : jS} {pc : Nat} {st : List Value} {x y : Int64} (hd : decode (jyc f.2.1) pc = .ok (.lrem, 1)) (hne : ¬ y = 0) (kk : jJ f lv w (pc + 1) (.long (x - x / y * y) :: st)) : jJ f lv w pc (.long y :: .long x :: st) := by
  intro p e s m args below meth c C ls H locs hl hP hz hS
  exact lv_lrem C.1 C.2.1 hd hne (kk p e s m args below meth c C ls H locs hl hP hz hS)
theorem j_ineg {f : jF} {lv : List (Nat × Value)} {w : jS} {pc : Nat} {st : List Value} {x : Int32} (hd : decode (jyc f.2.1) pc = .ok (.ineg, 1)) (kk : jJ f lv w (pc + 1) (.int (-x) :: st)) : jJ f lv w pc (.int x :: st) := by
  intro p e s m args below meth c C ls H locs hl hP hz hS
  exact lv_ineg C.1 C.2.1 hd (kk p e s m args below meth c C ls H locs hl hP hz hS)
theorem j_i2l {f : jF} {lv : List (Nat × Value)} {w : jS} {pc : Nat} {st : List Value} {x : Int32} {v : Int64} (hd : decode (jyc f.2.1) pc = .ok (.i2l, 1)) (hv : x.toInt64 = v) (kk : jJ f lv w (pc + 1) (.long v :: st)) : jJ f lv w pc (.int x :: st) := by
  intro p e s m args below meth c C ls H locs hl hP hz hS
  exact lv_i2l C.1 C.2.1 hd hv (kk p e s m args below meth c C ls H locs hl hP hz hS)
theorem j_l2i {f : jF} {lv : List (Nat × Value)} {w : jS} {pc : Nat} {st : List Value} {x : Int64} {v : Int32} (hd : decode (jyc f.2.1) pc = .ok (.l2i, 1)) (hv : x.toInt32 = v) (kk : jJ f lv w (pc + 1) (.int v :: st)) : jJ f lv w pc (.long x :: st) := by
  intro p e s m args below meth c C ls H locs hl hP hz hS
  exact lv_l2i C.1 C.2.1 hd hv (kk p e s m args below meth c C ls H locs hl hP hz hS)
theorem j_iushr {f : jF} {lv : List (Nat × Value)} {w : jS} {pc : Nat} {st : List Value} {x y v : Int32} (hd : decode (jyc f.2.1) pc = .ok (.iushr, 1)) (hv : (x.toUInt32 >>> (y.toUInt32 &&& Int32.toUInt32 31)).toInt32 = v) (kk : jJ f lv w (pc + 1) (.int v :: st)) : jJ f lv w pc (.int y :: .int x :: st) := by
  intro p e s m args below meth c C ls H locs hl hP hz hS
  exact lv_iushr C.1 C.2.1 hd hv (kk p e s m args below meth c C ls H locs hl hP hz hS)
theorem j_lushr {f : jF} {lv : List (Nat × Value)} {w : jS} {pc : Nat} {st : List Value} {x v : Int64} {y : Int32} (hd : decode (jyc f.2.1) pc = .ok (.lushr, 1)) (hv : (x.toUInt64 >>> (y.toInt64.toUInt64 &&& Int64.toUInt64 63)).toInt64 = v) (kk : jJ f lv w (pc + 1) (.long v :: st)) : jJ f lv w pc (.int y :: .long x :: st) := by
  intro p e s m args below meth c C ls H locs hl hP hz hS
  exact lv_lushr C.1 C.2.1 hd hv (kk p e s m args below meth c C ls H locs hl hP hz hS)
theorem j_lshl {f : jF} {lv : List (Nat × Value)} {w : jS} {pc : Nat} {st : List Value} {x v : Int64} {y : Int32} (hd : decode (jyc f.2.1) pc = .ok (.lshl, 1)) (hv : x <<< (y.toInt64 &&& 63) = v) (kk : jJ f lv w (pc + 1) (.long v :: st)) : jJ f lv w pc (.int y :: .long x :: st) := by
  intro p e s m args below meth c C ls H locs hl hP hz hS
  exact lv_lshl C.1 C.2.1 hd hv (kk p e s m args below meth c C ls H locs hl hP hz hS)
theorem j_lshr {f : jF} {lv : List (Nat × Value)} {w : jS} {pc : Nat} {st : List Value} {x v : Int64} {y : Int32} (hd : decode (jyc f.2.1) pc = .ok (.lshr, 1)) (hv : x >>> (y.toInt64 &&& 63) = v) (kk : jJ f lv w (pc + 1) (.long v :: st)) : jJ f lv w pc (.int y :: .long x :: st) := by
  intro p e s m args below meth c C ls H locs hl hP hz hS
  exact lv_lshr C.1 C.2.1 hd hv (kk p e s m args below meth c C ls H locs hl hP hz hS)
theorem j_lcmp {f : jF} {lv : List (Nat × Value)} {w : jS} {pc : Nat} {st : List Value} {x y : Int64} (hd : decode (jyc f.2.1) pc = .ok (.lcmp, 1)) (kk : jJ f lv w (pc + 1) (.int (lg_cmp x y) :: st)) : jJ f lv w pc (.long y :: .long x :: st) := by
  intro p e s m args below meth c C ls H locs hl hP hz hS
  exact W.lcmp C.1 C.2.1 hd (kk p e s m args below meth c C ls H locs hl hP hz hS)
theorem j_dup {f : jF} {lv : List (Nat × Value)} {w : jS} {pc : Nat} {st : List Value} {va : Value} (hd : decode (jyc f.2.1) pc = .ok (.dup, 1)) (h1 : va.category = 1) (kk : jJ f lv w (pc + 1) (va :: va :: st)) : jJ f lv w pc (va :: st) := by
  intro p e s m args below meth c C ls H locs hl hP hz hS
  exact lv_dup C.1 C.2.1 hd h1 (kk p e s m args below meth c C ls H locs hl hP hz hS)
theorem j_pop {f : jF} {lv : List (Nat × Value)} {w : jS} {pc : Nat} {st : List Value} {va : Value} (hd : decode (jyc f.2.1) pc = .ok (.pop, 1)) (h1 : va.category = 1) (kk : jJ f lv w (pc + 1) st) : jJ f lv w pc (va :: st) := by
  intro p e s m args below meth c C ls H locs hl hP hz hS
  exact lv_pop C.1 C.2.1 hd h1 (kk p e s m args below meth c C ls H locs hl hP hz hS)
theorem j_pop2_2 {f : jF} {lv : List (Nat × Value)} {w : jS} {pc : Nat} {st : List Value} {va : Value} (hd : decode (jyc f.2.1) pc = .ok (.pop2, 1)) (h1 : va.category = 2) (kk : jJ f lv w (pc + 1) st) : jJ f lv w pc (va :: st) := by
  intro p e s m args below meth c C ls H locs hl hP hz hS
  exact lv_pop2_2 C.1 C.2.1 hd h1 (kk p e s m args below meth c C ls H locs hl hP hz hS)
theorem j_dup_x1 {f : jF} {lv : List (Nat × Value)} {w : jS} {pc : Nat} {st : List Value} {va vb : Value} (hd : decode (jyc f.2.1) pc = .ok (.dup_x1, 1)) (h1 : va.category = 1) (h2 : vb.category = 1) (kk : jJ f lv w (pc + 1) (va :: vb :: va :: st)) : jJ f lv w pc (va :: vb :: st) := by
  intro p e s m args below meth c C ls H locs hl hP hz hS
  exact lv_dup_x1 C.1 C.2.1 hd h1 h2 (kk p e s m args below meth c C ls H locs hl hP hz hS)
theorem j_dup_x2 {f : jF} {lv : List (Nat × Value)} {w : jS} {pc : Nat} {st : List Value} {va vb vd : Value} (hd : decode (jyc f.2.1) pc = .ok (.dup_x2, 1)) (h1 : va.category = 1) (h2 : vb.category = 1) (h3 : vd.category = 1) (kk : jJ f lv w (pc + 1) (va :: vb :: vd :: va :: st)) : jJ f lv w pc (va :: vb :: vd :: st) := by
  intro p e s m args below meth c C ls H locs hl hP hz hS
  exact lv_dup_x2 C.1 C.2.1 hd h1 h2 h3 (kk p e s m args below meth c C ls H locs hl hP hz hS)
theorem j_dup2 {f : jF} {lv : List (Nat × Value)} {w : jS} {pc : Nat} {st : List Value} {va vb : Value} (hd : decode (jyc f.2.1) pc = .ok (.dup2, 1)) (h1 : va.category = 1) (h2 : vb.category = 1) (kk : jJ f lv w (pc + 1) (va :: vb :: va :: vb :: st)) : jJ f lv w pc (va :: vb :: st) := by
  intro p e s m args below meth c C ls H locs hl hP hz hS
  exact lv_dup2_11 C.1 C.2.1 hd h1 h2 (kk p e s m args below meth c C ls H locs hl hP hz hS)
theorem j_dup2_2 {f : jF} {lv : List (Nat × Value)} {w : jS} {pc : Nat} {st : List Value} {va : Value} (hd : decode (jyc f.2.1) pc = .ok (.dup2, 1)) (h1 : va.category = 2) (kk : jJ f lv w (pc + 1) (va :: va :: st)) : jJ f lv w pc (va :: st) := by
  intro p e s m args below meth c C ls H locs hl hP hz hS
  exact lv_dup2_2 C.1 C.2.1 hd h1 (kk p e s m args below meth c C ls H locs hl hP hz hS)
theorem j_if_eq {f : jF} {lv : List (Nat × Value)} {w : jS} {pc : Nat} {st : List Value} {x : Int32} {off : Int} (hd : decode (jyc f.2.1) pc = .ok (.ifCond .eq off, 3)) (tgt : Nat) (ht : (pc : Int) + off = (tgt : Int)) (kt : x = 0 → jJ f lv w tgt st) (kf : ¬ x = 0 → jJ f lv w (pc + 3) st) : jJ f lv w pc (.int x :: st) := by
  intro p e s m args below meth c C ls H locs hl hP hz hS
  exact lv_if_eq C.1 C.2.1 hd ht (fun h => kt h p e s m args below meth c C ls H locs hl hP hz hS) (fun h => kf h p e s m args below meth c C ls H locs hl hP hz hS)
theorem j_icmp_eq {f : jF} {lv : List (Nat × Value)} {w : jS} {pc : Nat} {st : List Value} {x y : Int32} {off : Int} (hd : decode (jyc f.2.1) pc = .ok (.if_icmp .eq off, 3)) (tgt : Nat) (ht : (pc : Int) + off = (tgt : Int)) (kt : x = y → jJ f lv w tgt st) (kf : ¬ x = y → jJ f lv w (pc + 3) st) : jJ f lv w pc (.int y :: .int x :: st) := by
  intro p e s m args below meth c C ls H locs hl hP hz hS
  exact lv_icmp_eq C.1 C.2.1 hd ht (fun h => kt h p e s m args below meth c C ls H locs hl hP hz hS) (fun h => kf h p e s m args below meth c C ls H locs hl hP hz hS)
theorem j_if_ne {f : jF} {lv : List (Nat × Value)} {w : jS} {pc : Nat} {st : List Value} {x : Int32} {off : Int} (hd : decode (jyc f.2.1) pc = .ok (.ifCond .ne off, 3)) (tgt : Nat) (ht : (pc : Int) + off = (tgt : Int)) (kt : ¬ x = 0 → jJ f lv w tgt st) (kf : x = 0 → jJ f lv w (pc + 3) st) : jJ f lv w pc (.int x :: st) := by
  intro p e s m args below meth c C ls H locs hl hP hz hS
  exact lv_if_ne C.1 C.2.1 hd ht (fun h => kt h p e s m args below meth c C ls H locs hl hP hz hS) (fun h => kf h p e s m args below meth c C ls H locs hl hP hz hS)
theorem j_icmp_ne {f : jF} {lv : List (Nat × Value)} {w : jS} {pc : Nat} {st : List Value} {x y : Int32} {off : Int} (hd : decode (jyc f.2.1) pc = .ok (.if_icmp .ne off, 3)) (tgt : Nat) (ht : (pc : Int) + off = (tgt : Int)) (kt : ¬ x = y → jJ f lv w tgt st) (kf : x = y → jJ f lv w (pc + 3) st) : jJ f lv w pc (.int y :: .int x :: st) := by
  intro p e s m args below meth c C ls H locs hl hP hz hS
  exact lv_icmp_ne C.1 C.2.1 hd ht (fun h => kt h p e s m args below meth c C ls H locs hl hP hz hS) (fun h => kf h p e s m args below meth c C ls H locs hl hP hz hS)
theorem j_if_lt {f : jF} {lv : List (Nat × Value)} {w : jS} {pc : Nat} {st : List Value} {x : Int32} {off : Int} (hd : decode (jyc f.2.1) pc = .ok (.ifCond .lt off, 3)) (tgt : Nat) (ht : (pc : Int) + off = (tgt : Int)) (kt : x < 0 → jJ f lv w tgt st) (kf : ¬ x < 0 → jJ f lv w (pc + 3) st) : jJ f lv w pc (.int x :: st) := by
  intro p e s m args below meth c C ls H locs hl hP hz hS
  exact lv_if_lt C.1 C.2.1 hd ht (fun h => kt h p e s m args below meth c C ls H locs hl hP hz hS) (fun h => kf h p e s m args below meth c C ls H locs hl hP hz hS)
theorem j_icmp_lt {f : jF} {lv : List (Nat × Value)} {w : jS} {pc : Nat} {st : List Value} {x y : Int32} {off : Int} (hd : decode (jyc f.2.1) pc = .ok (.if_icmp .lt off, 3)) (tgt : Nat) (ht : (pc : Int) + off = (tgt : Int)) (kt : x < y → jJ f lv w tgt st) (kf : ¬ x < y → jJ f lv w (pc + 3) st) : jJ f lv w pc (.int y :: .int x :: st) := by
  intro p e s m args below meth c C ls H locs hl hP hz hS
  exact lv_icmp_lt C.1 C.2.1 hd ht (fun h => kt h p e s m args below meth c C ls H locs hl hP hz hS) (fun h => kf h p e s m args below meth c C ls H locs hl hP hz hS)
theorem j_if_ge {f : jF} {lv : List (Nat × Value)} {w : jS} {pc : Nat} {st : List Value} {x : Int32} {off : Int} (hd : decode (jyc f.2.1) pc = .ok (.ifCond .ge off, 3)) (tgt : Nat) (ht : (pc : Int) + off = (tgt : Int)) (kt : 0 ≤ x → jJ f lv w tgt st) (kf : ¬ 0 ≤ x → jJ f lv w (pc + 3) st) : jJ f lv w pc (.int x :: st) := by
  intro p e s m args below meth c C ls H locs hl hP hz hS
  exact lv_if_ge C.1 C.2.1 hd ht (fun h => kt h p e s m args below meth c C ls H locs hl hP hz hS) (fun h => kf h p e s m args below meth c C ls H locs hl hP hz hS)
theorem j_icmp_ge {f : jF} {lv : List (Nat × Value)} {w : jS} {pc : Nat} {st : List Value} {x y : Int32} {off : Int} (hd : decode (jyc f.2.1) pc = .ok (.if_icmp .ge off, 3)) (tgt : Nat) (ht : (pc : Int) + off = (tgt : Int)) (kt : y ≤ x → jJ f lv w tgt st) (kf : ¬ y ≤ x → jJ f lv w (pc + 3) st) : jJ f lv w pc (.int y :: .int x :: st) := by
  intro p e s m args below meth c C ls H locs hl hP hz hS
  exact lv_icmp_ge C.1 C.2.1 hd ht (fun h => kt h p e s m args below meth c C ls H locs hl hP hz hS) (fun h => kf h p e s m args below meth c C ls H locs hl hP hz hS)
theorem j_if_gt {f : jF} {lv : List (Nat × Value)} {w : jS} {pc : Nat} {st : List Value} {x : Int32} {off : Int} (hd : decode (jyc f.2.1) pc = .ok (.ifCond .gt off, 3)) (tgt : Nat) (ht : (pc : Int) + off = (tgt : Int)) (kt : 0 < x → jJ f lv w tgt st) (kf : ¬ 0 < x → jJ f lv w (pc + 3) st) : jJ f lv w pc (.int x :: st) := by
  intro p e s m args below meth c C ls H locs hl hP hz hS
  exact lv_if_gt C.1 C.2.1 hd ht (fun h => kt h p e s m args below meth c C ls H locs hl hP hz hS) (fun h => kf h p e s m args below meth c C ls H locs hl hP hz hS)
theorem j_icmp_gt {f : jF} {lv : List (Nat × Value)} {w : jS} {pc : Nat} {st : List Value} {x y : Int32} {off : Int} (hd : decode (jyc f.2.1) pc = .ok (.if_icmp .gt off, 3)) (tgt : Nat) (ht : (pc : Int) + off = (tgt : Int)) (kt : y < x → jJ f lv w tgt st) (kf : ¬ y < x → jJ f lv w (pc + 3) st) : jJ f lv w pc (.int y :: .int x :: st) := by
  intro p e s m args below meth c C ls H locs hl hP hz hS
  exact lv_icmp_gt C.1 C.2.1 hd ht (fun h => kt h p e s m args below meth c C ls H locs hl hP hz hS) (fun h => kf h p e s m args below meth c C ls H locs hl hP hz hS)
theorem j_if_le {f : jF} {lv : List (Nat × Value)} {w : jS} {pc : Nat} {st : List Value} {x : Int32} {off : Int} (hd : decode (jyc f.2.1) pc = .ok (.ifCond .le off, 3)) (tgt : Nat) (ht : (pc : Int) + off = (tgt : Int)) (kt : x ≤ 0 → jJ f lv w tgt st) (kf : ¬ x ≤ 0 → jJ f lv w (pc + 3) st) : jJ f lv w pc (.int x :: st) := by
  intro p e s m args below meth c C ls H locs hl hP hz hS
  exact lv_if_le C.1 C.2.1 hd ht (fun h => kt h p e s m args below meth c C ls H locs hl hP hz hS) (fun h => kf h p e s m args below meth c C ls H locs hl hP hz hS)
theorem j_icmp_le {f : jF} {lv : List (Nat × Value)} {w : jS} {pc : Nat} {st : List Value} {x y : Int32} {off : Int} (hd : decode (jyc f.2.1) pc = .ok (.if_icmp .le off, 3)) (tgt : Nat) (ht : (pc : Int) + off = (tgt : Int)) (kt : x ≤ y → jJ f lv w tgt st) (kf : ¬ x ≤ y → jJ f lv w (pc + 3) st) : jJ f lv w pc (.int y :: .int x :: st) := by
  intro p e s m args below meth c C ls H locs hl hP hz hS
  exact lv_icmp_le C.1 C.2.1 hd ht (fun h => kt h p e s m args below meth c C ls H locs hl hP hz hS) (fun h => kf h p e s m args below meth c C ls H locs hl hP hz hS)
theorem j_goto {f : jF} {lv : List (Nat × Value)} {w : jS} {pc : Nat} {st : List Value} {off : Int} (hd : decode (jyc f.2.1) pc = .ok (.goto off, 3)) (tgt : Nat) (ht : (pc : Int) + off = (tgt : Int)) (kk : jJ f lv w tgt st) : jJ f lv w pc st := by
  intro p e s m args below meth c C ls H locs hl hP hz hS
  exact lv_goto C.1 C.2.1 hd ht (kk p e s m args below meth c C ls H locs hl hP hz hS)
theorem j_lookup {f : jF} {lv : List (Nat × Value)} {w : jS} {pc : Nat} {st : List Value} {dflt : Int} {ps : Array (Int × Int)} {len : Nat} {x : Int32} {off : Int} (hd : decode (jyc f.2.1) pc = .ok (.lookupswitch dflt ps, len)) (hp : (ps.toList.zip (ps.toList.drop 1)).all (fun (a, next) => a.1 < next.1) = true) (ho : Op.lookupswitch.offset ps.toList dflt x.toInt = off) (tgt : Nat) (ht : (pc : Int) + off = (tgt : Int)) (kk : jJ f lv w tgt st) : jJ f lv w pc (.int x :: st) := by
  intro p e s m args below meth c C ls H locs hl hP hz hS
  exact lv_lookup C.1 C.2.1 hd hp ho ht (kk p e s m args below meth c C ls H locs hl hP hz hS)
theorem j_tableOut {f : jF} {lv : List (Nat × Value)} {w : jS} {pc : Nat} {st : List Value} {dflt lo hi : Int} {offs : Array Int} {len : Nat} {x : Int32} (hd : decode (jyc f.2.1) pc = .ok (.tableswitch dflt lo hi offs, len)) (h : x.toInt < lo ∨ hi < x.toInt) (tgt : Nat) (ht : (pc : Int) + dflt = (tgt : Int)) (kk : jJ f lv w tgt st) : jJ f lv w pc (.int x :: st) := by
  intro p e s m args below meth c C ls H locs hl hP hz hS
  exact lv_tableOut C.1 C.2.1 hd h ht (kk p e s m args below meth c C ls H locs hl hP hz hS)
theorem j_tableIn {f : jF} {lv : List (Nat × Value)} {w : jS} {pc : Nat} {st : List Value} {dflt lo hi : Int} {offs : Array Int} {len : Nat} {x : Int32} {off : Int} (hd : decode (jyc f.2.1) pc = .ok (.tableswitch dflt lo hi offs, len)) (h1 : ¬ x.toInt < lo) (h2 : ¬ hi < x.toInt) (ho : offs[(x.toInt - lo).toNat]? = some off) (tgt : Nat) (ht : (pc : Int) + off = (tgt : Int)) (kk : jJ f lv w tgt st) : jJ f lv w pc (.int x :: st) := by
  intro p e s m args below meth c C ls H locs hl hP hz hS
  exact lv_tableIn C.1 C.2.1 hd h1 h2 ho ht (kk p e s m args below meth c C ls H locs hl hP hz hS)
theorem j_ldc {f : jF} {lv : List (Nat × Value)} {w : jS} {pc : Nat} {st : List Value} {index : Nat} {v : Int32} (hd : decode (jyc f.2.1) pc = .ok (.ldc index, 2)) (hw : Jvm.Cond.constant (jyo f.2.1) index v ∈ jTab) (kk : jJ f lv w (pc + 2) (.int v :: st)) : jJ f lv w pc st := by
  intro p e s m args below meth c C ls H locs hl hP hz hS
  exact lv_ldc C.1 C.2.1 C.2.2.2.1 (C.2.2.2.2.1.1 _ hw args) hd (kk p e s m args below meth c C ls H locs hl hP hz hS)
theorem j_ldcw {f : jF} {lv : List (Nat × Value)} {w : jS} {pc : Nat} {st : List Value} {index : Nat} {v : Int32} (hd : decode (jyc f.2.1) pc = .ok (.ldc_w index, 3)) (hw : Jvm.Cond.constant (jyo f.2.1) index v ∈ jTab) (kk : jJ f lv w (pc + 3) (.int v :: st)) : jJ f lv w pc st := by
  intro p e s m args below meth c C ls H locs hl hP hz hS
  exact lv_ldcw C.1 C.2.1 C.2.2.2.1 (C.2.2.2.2.1.1 _ hw args) hd (kk p e s m args below meth c C ls H locs hl hP hz hS)
theorem j_ldc2 {f : jF} {lv : List (Nat × Value)} {w : jS} {pc : Nat} {st : List Value} {index : Nat} {v : Int64} (hd : decode (jyc f.2.1) pc = .ok (.ldc2_w index, 3)) (hw : Jvm.Cond.constantLong (jyo f.2.1) index v ∈ jTab) (kk : jJ f lv w (pc + 3) (.long v :: st)) : jJ f lv w pc st := by
  intro p e s m args below meth c C ls H locs hl hP hz hS
  exact lv_ldc2 C.1 C.2.1 C.2.2.2.1 (C.2.2.2.2.1.1 _ hw args) hd (kk p e s m args below meth c C ls H locs hl hP hz hS)
theorem j_lv {f : jF} {lv lv' : List (Nat × Value)} {w : jS} {pc : Nat} {st : List Value} (ks : List Nat) (hs : lv_pick lv ks = lv') (kk : jJ f lv' w pc st) : jJ f lv w pc st := by
  intro p e s m args below meth c C ls H locs hl hP hz hS
  exact kk p e s m args below meth c C ls H locs (lv_sub hl ks hs) hP hz hS
end
section
/-! fields and arrays over jJ -/
def jFld (own : String) (idx ci k : Nat) : Prop := ∃ (C : String) (T : u_T) (N : Nat), jcl[ci]? = some (C, T, N) ∧ k < N ∧ (T k).1 = C ∧
  (Cond.fieldLink own idx C (T k).2.1 (T k).2.2.1 ∈ jTab ∨ ∃ host, Cond.fieldLinkNest own idx C (T k).2.1 (T k).2.2.1 host ∈ jTab)
theorem jre_r {g : jG} {mu : Nat → jE} {q ci : Nat} {fs : List Value} (h : mu q = .inr (ci, fs)) : jre g (mu q) = .inr (ci, fs) := by rw [h]; rfl
theorem jre_l {g : jG} {mu : Nat → jE} {q t : Nat} {a : vp_A} (h : mu q = .inl (t, a)) : jre g (mu q) = .inl (jcA g t, a) := by rw [h]; rfl
theorem jget_r {g : jG} {N : Nat} {mu : Nat → jE} {q ci : Nat} {fs : List Value} (hq : q < N) (h : mu q = .inr (ci, fs)) : (jpool g N mu)[q]? = some (jb g + q, .inr (ci, fs)) := by rw [jpool_get hq, jre_r h]
theorem jget_l {g : jG} {N : Nat} {mu : Nat → jE} {q t : Nat} {a : vp_A} (hq : q < N) (h : mu q = .inl (t, a)) : (jpool g N mu)[q]? = some (jb g + q, .inl (jcA g t, a)) := by rw [jpool_get hq, jre_l h]
theorem jset_r {g : jG} {N : Nat} {mu : Nat → jE} {q ci : Nat} {fs : List Value} {H : Heap} (hq : q < N) (h : va_P (jD g) jcl ((jpool g N mu).set q (jb g + q, .inr (ci, fs))) H) : jP g N (va_up mu q (.inr (ci, fs))) H := by
  unfold jP
  rw [← jpool_set hq]
  exact h
theorem jset_l {g : jG} {N : Nat} {mu : Nat → jE} {q t : Nat} {a : vp_A} {H : Heap} (hq : q < N) (h : va_P (jD g) jcl ((jpool g N mu).set q (jb g + q, .inl (jcA g t, a))) H) : jP g N (va_up mu q (.inl (t, a))) H := by
  unfold jP
  rw [← jpool_set hq]
  exact h
theorem jpush {g : jG} {N : Nat} {mu : Nat → jE} {e : jE} {H H1 : Heap} (hP : jP g N mu H) (ho : ∀ q : Nat, q < H.size → H1[q]? = H[q]?) (he : va_at (jD g) jcl (jb g + N, jre g e) H1) : jP g (N + 1) (va_up mu N e) H1 := by
  unfold jP
  rw [← jpool_push]
  refine va_P.app (va_P.kept hP (fun k q hk => ho q.1 ((hP k q hk).lt))) (fun k x hx => ?_)
  have hz : k < 1 := (List.getElem?_eq_some_iff.mp hx).1
  rw [show k = 0 by omega] at hx
  cases hx
  exact he
theorem jSz.keep {g : jG} {x : Bool} {N : Nat} {H H1 : Heap} (h : jSz g x N H) (e : H1.size = H.size) : jSz g x N H1 := fun hx => e.trans (h hx)
theorem jS_up {g : jG} {H0 H H1 : Heap} {locs : List Loc} (h : va_S (jA g) H0 H locs) (hz : H1.size = H.size + 1) (ho : ∀ q : Nat, q < H.size → H1[q]? = H[q]?) : va_S (jA g) H0 H1 locs :=
  ⟨Nat.le_trans h.1 (by omega), fun q h1 h2 => (ho q (Nat.lt_of_lt_of_le h1 h.1)).trans (h.2.1 q h1 h2), h.2.2⟩
section JM
variable {f : jF} {lv : List (Nat × Value)} {N k n : Nat} {x : Bool} {mu : Nat → jE} {pc : Nat} {st : List Value}
theorem j_getf {idx ci kf q : Nat} {fs : List Value} {v : Value} (hd : decode (jyc f.2.1) pc = .ok (.getfield idx, 3)) (hF : jFld (jyo f.2.1) idx ci kf) (hq : q < N) (hm : mu q = .inr (ci, fs)) (hv : fs[kf]? = some v)
    (kk : jJ f lv (N, mu, x, k, n) (pc + 3) (v :: st)) : jJ f lv (N, mu, x, k, n) pc (.ref (jb f.1 + q) :: st) := by
  intro p e s m args below meth c C ls H locs hl hP hz hS
  obtain ⟨Cn, T, NF, hc, hk, hown, hlink⟩ := hF
  have hts : ∀ w ∈ jTab, w.before args s = true := fun w h => C.2.2.2.2.1.1 w h args
  have hsame : ∀ x, s.fieldFound? (T kf).1 (T kf).2.1 (T kf).2.2.1 = some x → s.fieldFound? Cn (T kf).2.1 (T kf).2.2.1 = some x := fun x hx => by rw [hown] at hx; exact hx
  have k2 := kk p e s m args below meth c C ls H locs hl hP hz hS
  rcases hlink with h | ⟨host, h⟩
  · exact va_get C.1 C.2.1 hts (jcl_in hc) C.2.2.2.1 C.2.2.2.2.1.2.1 hP q (jget_r hq hm) hc kf hk (hts _ h) hsame hv hd k2
  · exact va_getN C.1 C.2.1 hts (jcl_in hc) C.2.2.2.1 C.2.2.2.2.1.2.1 hP q (jget_r hq hm) hc kf hk (hts _ h) hsame hv hd k2
theorem j_putf {idx ci kf q : Nat} {fs : List Value} {v : Value} (hd : decode (jyc f.2.1) pc = .ok (.putfield idx, 3)) (hF : jFld (jyo f.2.1) idx ci kf) (hq : q < N) (hm : mu q = .inr (ci, fs)) (hl2 : kf < fs.length) (hfin : jfin ci kf = false) (hn : narrow (jcty ci kf) v = v) (hfit : fits (jcty ci kf) v = true)
    (kk : jJ f lv (N, va_up mu q (.inr (ci, fs.set kf v)), x, k, n) (pc + 3) st) : jJ f lv (N, mu, x, k, n) pc (v :: .ref (jb f.1 + q) :: st) := by
  intro p e s m args below meth c C ls H locs hl hP hz hS
  obtain ⟨Cn, T, NF, hc, hk, hown, hlink⟩ := hF
  have hts : ∀ w ∈ jTab, w.before args s = true := fun w h => C.2.2.2.2.1.1 w h args
  have hK : va_K (jD f.1) jcl (jtys f.1) s := C.2.2.2.2.1.2.1
  have he := jget_r (g := f.1) hq hm
  have hD := jpool_D f.1 N mu
  have hap := va_apart (own := jyo f.2.1) hts (jcl_in hc) (jcty ci) (jcl_ty hc) (jcl_nm hc) hK hc
  obtain ⟨r, h1, cell, q1, q2, q3, q4⟩ := hP q _ he
  have hr : r = (Cn, T, NF) := Option.some.inj (h1.symm.trans hc)
  subst hr
  obtain ⟨hSl, hfc, kC, hkC, hkind⟩ := hK.1 ci _ hc
  obtain ⟨cf, kf', fi, fd, hi, hsl⟩ := hSl kf hk
  have hlay := hts _ (jcl_in hc _ (u_in_lay hk))
  unfold u_lay at hlay
  rw [if_neg (by rw [jcl_fin hc hk, hfin]; decide)] at hlay
  have hst := (u_facts hfc hkC (u_lays hts (jcl_in hc) hk) hi).1
  have h6 := u_store hfc hkC hkind hlay hi (jcl_ty hc kf hk) hn hfit
  have hi2 : s.fieldFound? Cn (T kf).2.1 (T kf).2.2.1 = some (cf, kf', fi, fd) := by rw [hown] at hi; exact hi
  have go : ∀ H' : Heap, H'[jb f.1 + q]? = some (cell.setSlot fd.slot v) → H'.size = H.size → (∀ q', q' ≠ jb f.1 + q → H'[q']? = H[q']?) → W p (jl f.1) e (jRm f.2.2.1 f.2.2.2.1 f.2.2.2.2.1) s m args below meth c H' (locs ++ [⟨jb f.1 + q, fd.slot⟩]) k n (jZ f.1 below f.2.2.2.1 f.2.2.2.2.1 f.2.2.2.2.2 s) (F0 m (pc + 3) ls st) := by
    intro H' e1 e2 e3
    rw [hsl] at e1 ⊢
    refine kk p e s m args below meth c C ls H' _ hl (jset_r hq (hP.set hD he ⟨_, hc, t_OB.to (V := updV (vp_V fs) kf v) ⟨_, e1, q2, q3, t_set q4 hap hk v⟩ (fun j _ => vp_updV_set hl2 v j)⟩ e3)) (hz.keep e2) (hS.put e2 e3 (Nat.le_add_right _ _))
  rcases hlink with h | ⟨host, h⟩
  · exact W.putK C.1 C.2.1 (f := fd) ⟨C.2.2.2.1, hts _ h, ⟨_, _, _, hi2⟩, hst⟩ (by rw [q2]; exact h6) q1 q3 (by rw [hsl]; exact k2_hasslot (q4 kf hk)) rfl rfl hd go
  · exact va_WputK C.1 C.2.1 (f := fd) C.2.2.2.1 (hts _ h) hi2 hst (by rw [q2]; exact h6) q1 q3 (by rw [hsl]; exact k2_hasslot (q4 kf hk)) rfl rfl hd go
/-- a final field, in its class's constructor -/
theorem j_putF {idx ci kf q : Nat} {fs : List Value} {v : Value} (hd : decode (jyc f.2.1) pc = .ok (.putfield idx, 3)) (hF : jFld (jyo f.2.1) idx ci kf) (hC : (jcl[ci]?).map (fun r => r.1) = some (jyo f.2.1)) (hnm : (jyn f.2.1).name = "<init>") (hq : q < N) (hm : mu q = .inr (ci, fs)) (hl2 : kf < fs.length) (hfin : jfin ci kf = true) (hn : narrow (jcty ci kf) v = v) (hfit : fits (jcty ci kf) v = true)
    (kk : jJ f lv (N, va_up mu q (.inr (ci, fs.set kf v)), x, k, n) (pc + 3) st) : jJ f lv (N, mu, x, k, n) pc (v :: .ref (jb f.1 + q) :: st) := by
  intro p e s m args below meth c C ls H locs hl hP hz hS
  obtain ⟨Cn, T, NF, hc, hk, hown, hlink⟩ := hF
  have hCn : Cn = jyo f.2.1 := by rw [hc] at hC; exact Option.some.inj hC
  have hts : ∀ w ∈ jTab, w.before args s = true := fun w h => C.2.2.2.2.1.1 w h args
  have hK : va_K (jD f.1) jcl (jtys f.1) s := C.2.2.2.2.1.2.1
  have he := jget_r (g := f.1) hq hm
  have hD := jpool_D f.1 N mu
  have hap := va_apart (own := jyo f.2.1) hts (jcl_in hc) (jcty ci) (jcl_ty hc) (jcl_nm hc) hK hc
  obtain ⟨r, h1, cell, q1, q2, q3, q4⟩ := hP q _ he
  have hr : r = (Cn, T, NF) := Option.some.inj (h1.symm.trans hc)
  subst hr
  obtain ⟨hSl, hfc, kC, hkC, hkind⟩ := hK.1 ci _ hc
  obtain ⟨cf, kf', fi, fd, hi, hsl⟩ := hSl kf hk
  have hlay := hts _ (jcl_in hc _ (u_in_lay hk))
  unfold u_lay at hlay
  rw [if_pos (by rw [jcl_fin hc hk, hfin])] at hlay
  have hst := (u_facts hfc hkC (u_lays hts (jcl_in hc) hk) hi).1
  have hcf : m.cls = cf := by
    obtain ⟨_, _, c', _, _, _, -, -, hf', -, -, -, hown2, -⟩ := Cond.laysFinal_spec hlay
    have e1 : c' = cf := by have := hi.symm.trans hf'; simp at this; exact this.1.symm
    rw [hown, hCn] at hown2
    rw [← e1]; exact Option.some.inj (C.2.2.2.1.symm.trans hown2)
  have h6 := u_fits hfc hkC hkind (Or.inr hlay) hi (jcl_ty hc kf hk) hn hfit
  have hi2 : s.fieldFound? Cn (T kf).2.1 (T kf).2.2.1 = some (cf, kf', fi, fd) := by rw [hown] at hi; exact hi
  have go : ∀ H' : Heap, H'[jb f.1 + q]? = some (cell.setSlot fd.slot v) → H'.size = H.size → (∀ q', q' ≠ jb f.1 + q → H'[q']? = H[q']?) → W p (jl f.1) e (jRm f.2.2.1 f.2.2.2.1 f.2.2.2.2.1) s m args below meth c H' (locs ++ [⟨jb f.1 + q, fd.slot⟩]) k n (jZ f.1 below f.2.2.2.1 f.2.2.2.2.1 f.2.2.2.2.2 s) (F0 m (pc + 3) ls st) := by
    intro H' e1 e2 e3
    rw [hsl] at e1 ⊢
    refine kk p e s m args below meth c C ls H' _ hl (jset_r hq (hP.set hD he ⟨_, hc, t_OB.to (V := updV (vp_V fs) kf v) ⟨_, e1, q2, q3, t_set q4 hap hk v⟩ (fun j _ => vp_updV_set hl2 v j)⟩ e3)) (hz.keep e2) (hS.put e2 e3 (Nat.le_add_right _ _))
  rcases hlink with h | ⟨host, h⟩
  · exact W.putFinK C.1 C.2.1 C.2.2.2.1 (hts _ h) hi2 hst hcf (C.2.2.2.2.2.2.2.1.trans hnm) (by rw [q2]; exact h6) q1 q3 (by rw [hsl]; exact k2_hasslot (q4 kf hk)) rfl rfl hd go
  · have ha : jb f.1 + q < H.size := (Array.getElem?_eq_some_iff.mp q1).1
    refine va_Wputf C.1 C.2.1 C.2.2.2.1 (hts _ h) hi2 hst (Or.inr ⟨hcf, C.2.2.2.2.2.2.2.1.trans hnm⟩) q1 (by rw [q3]; exact fun h => by cases h) (by rw [hsl]; exact k2_hasslot (q4 kf hk)) h6.1 (by rw [q2, q3]; exact h6.2) rfl rfl hd ?_
    refine go _ ?_ ?_ ?_
    · simp [Array.getElem?_setIfInBounds, ha]
    · simp
    · intro q' hq'
      simp [Array.getElem?_setIfInBounds, Ne.symm hq']
theorem j_iald {t q na : Nat} {a : Nat → Int32} {i : Int32} (hd : decode (jyc f.2.1) pc = .ok (.iaload, 1)) (hq : q < N) (hm : mu q = .inl (t, na, .inl a)) (ht : jtyl[t]? = some .int) (hi : vp_in i na)
    (kk : jJ f lv (N, mu, x, k, n) (pc + 1) (.int (a i.toNatClampNeg) :: st)) : jJ f lv (N, mu, x, k, n) pc (.int i :: .ref (jb f.1 + q) :: st) := by
  intro p e s m args below meth c C ls H locs hl hP hz hS
  exact va_iald C.1 C.2.1 C.2.2.2.2.1.2.1 hP q t (jget_l hq hm) (jtys_get ht) hi hd (kk p e s m args below meth c C ls H locs hl hP hz hS)
theorem j_zald {t q na : Nat} {a : Nat → Int32} {i : Int32} (hd : decode (jyc f.2.1) pc = .ok (.baload, 1)) (hq : q < N) (hm : mu q = .inl (t, na, .inl a)) (ht : jtyl[t]? = some .boolean) (hi : vp_in i na)
    (kk : jJ f lv (N, mu, x, k, n) (pc + 1) (.int (a i.toNatClampNeg) :: st)) : jJ f lv (N, mu, x, k, n) pc (.int i :: .ref (jb f.1 + q) :: st) := by
  intro p e s m args below meth c C ls H locs hl hP hz hS
  exact va_zald C.1 C.2.1 C.2.2.2.2.1.2.1 hP q t (jget_l hq hm) (jtys_get ht) hi hd (kk p e s m args below meth c C ls H locs hl hP hz hS)
theorem j_lald {t q na : Nat} {a : Nat → Int64} {i : Int32} (hd : decode (jyc f.2.1) pc = .ok (.laload, 1)) (hq : q < N) (hm : mu q = .inl (t, na, .inr (.inl a))) (ht : jtyl[t]? = some .long) (hi : vp_in i na)
    (kk : jJ f lv (N, mu, x, k, n) (pc + 1) (.long (a i.toNatClampNeg) :: st)) : jJ f lv (N, mu, x, k, n) pc (.int i :: .ref (jb f.1 + q) :: st) := by
  intro p e s m args below meth c C ls H locs hl hP hz hS
  exact va_lald C.1 C.2.1 C.2.2.2.2.1.2.1 hP q t (jget_l hq hm) (jtys_get ht) hi hd (kk p e s m args below meth c C ls H locs hl hP hz hS)
theorem j_aald {t q na : Nat} {Cn : String} {a : Nat → Option Nat} {i : Int32} (hd : decode (jyc f.2.1) pc = .ok (.aaload, 1)) (hq : q < N) (hm : mu q = .inl (t, na, .inr (.inr (.inr (.inr a))))) (ht : jtyl[t]? = some (.object Cn)) (hi : vp_in i na)
    (kk : jJ f lv (N, mu, x, k, n) (pc + 1) (va_rf (a i.toNatClampNeg) :: st)) : jJ f lv (N, mu, x, k, n) pc (.int i :: .ref (jb f.1 + q) :: st) := by
  intro p e s m args below meth c C ls H locs hl hP hz hS
  exact va_aldq C.1 C.2.1 C.2.2.2.2.1.2.1 hP q t (jget_l hq hm) (jtys_get ht) hi hd (kk p e s m args below meth c C ls H locs hl hP hz hS)
theorem j_alen {t q : Nat} {a : vp_A} {ty : FieldType} {v : Int32} (hd : decode (jyc f.2.1) pc = .ok (.arraylength, 1)) (hq : q < N) (hm : mu q = .inl (t, a)) (ht : jtyl[t]? = some ty) (hv : Int32.ofNat a.1 = v)
    (kk : jJ f lv (N, mu, x, k, n) (pc + 1) (.int v :: st)) : jJ f lv (N, mu, x, k, n) pc (.ref (jb f.1 + q) :: st) := by
  intro p e s m args below meth c C ls H locs hl hP hz hS
  exact va_alen C.1 C.2.1 C.2.2.2.2.1.2.1 hP q t (jget_l hq hm) (jtys_get ht) hv hd (kk p e s m args below meth c C ls H locs hl hP hz hS)
theorem j_iast {t q na : Nat} {a : Nat → Int32} {i v : Int32} (hd : decode (jyc f.2.1) pc = .ok (.iastore, 1)) (hq : q < N) (hm : mu q = .inl (t, na, .inl a)) (ht : jtyl[t]? = some .int) (hi : vp_in i na)
    (kk : jJ f lv (N, va_up mu q (.inl (t, na, .inl (upd a i.toNatClampNeg v))), x, k, n) (pc + 1) st) : jJ f lv (N, mu, x, k, n) pc (.int v :: .int i :: .ref (jb f.1 + q) :: st) := by
  intro p e s m args below meth c C ls H locs hl hP hz hS
  have he := jget_l (g := f.1) hq hm
  refine W.iast C.1 C.2.1 (hP q _ he) ((C.2.2.2.2.1.2.1.2 t _ (jtys_get ht)).1 na (fun j => .int (a j))) (fun q => by cases q) (by show ¬ (i < 0 ∨ (arrV _ _ _).slots.size ≤ _); rw [arrV_size]; exact hi) rfl rfl hd fun H1 e1 z oq => ?_
  refine kk p e s m args below meth c C ls H1 _ hl (jset_l hq (hP.set (jpool_D f.1 N mu) he ?_ oq)) (hz.keep z) (hS.put z oq (Nat.le_add_right _ _))
  show H1[jb f.1 + q]? = some (vp_cell _ _)
  rw [e1, vp_cell_i, vp_cell_i, arrV_store]
  congr 2
  funext j
  by_cases hj : j = i.toNatClampNeg
  · subst hj
    simp [updV, upd]
  · simp [updV, upd, hj]
theorem j_zast {t q na : Nat} {a : Nat → Int32} {i v : Int32} (hd : decode (jyc f.2.1) pc = .ok (.bastore, 1)) (hq : q < N) (hm : mu q = .inl (t, na, .inl a)) (ht : jtyl[t]? = some .boolean) (hi : vp_in i na) (hv : narrow .boolean (.int v) = .int v)
    (kk : jJ f lv (N, va_up mu q (.inl (t, na, .inl (upd a i.toNatClampNeg v))), x, k, n) (pc + 1) st) : jJ f lv (N, mu, x, k, n) pc (.int v :: .int i :: .ref (jb f.1 + q) :: st) := by
  intro p e s m args below meth c C ls H locs hl hP hz hS
  have he := jget_l (g := f.1) hq hm
  refine W.zast C.1 C.2.1 (hP q _ he) ((C.2.2.2.2.1.2.1.2 t _ (jtys_get ht)).1 na (fun j => .int (a j))) (fun q => by cases q) (by show ¬ (i < 0 ∨ (arrV _ _ _).slots.size ≤ _); rw [arrV_size]; exact hi) rfl rfl hd fun H1 e1 z oq => ?_
  rw [hv] at e1
  refine kk p e s m args below meth c C ls H1 _ hl (jset_l hq (hP.set (jpool_D f.1 N mu) he ?_ oq)) (hz.keep z) (hS.put z oq (Nat.le_add_right _ _))
  show H1[jb f.1 + q]? = some (vp_cell _ _)
  rw [e1, vp_cell_i, vp_cell_i, arrV_store]
  congr 2
  funext j
  by_cases hj : j = i.toNatClampNeg
  · subst hj
    simp [updV, upd]
  · simp [updV, upd, hj]
theorem j_last {t q na : Nat} {a : Nat → Int64} {i : Int32} {v : Int64} (hd : decode (jyc f.2.1) pc = .ok (.lastore, 1)) (hq : q < N) (hm : mu q = .inl (t, na, .inr (.inl a))) (ht : jtyl[t]? = some .long) (hi : vp_in i na)
    (kk : jJ f lv (N, va_up mu q (.inl (t, na, .inr (.inl (vp_updL a i.toNatClampNeg v)))), x, k, n) (pc + 1) st) : jJ f lv (N, mu, x, k, n) pc (.long v :: .int i :: .ref (jb f.1 + q) :: st) := by
  intro p e s m args below meth c C ls H locs hl hP hz hS
  have he := jget_l (g := f.1) hq hm
  refine W.last C.1 C.2.1 (hP q _ he) ((C.2.2.2.2.1.2.1.2 t _ (jtys_get ht)).1 na (fun j => .long (a j))) (fun q => by cases q) (by show ¬ (i < 0 ∨ (arrV _ _ _).slots.size ≤ _); rw [arrV_size]; exact hi) rfl rfl hd fun H1 e1 z oq => ?_
  refine kk p e s m args below meth c C ls H1 _ hl (jset_l hq (hP.set (jpool_D f.1 N mu) he ?_ oq)) (hz.keep z) (hS.put z oq (Nat.le_add_right _ _))
  show H1[jb f.1 + q]? = some (vp_cell _ _)
  rw [e1, vp_cell_l, vp_cell_l, arrV_store]
  congr 2
  funext j
  by_cases hj : j = i.toNatClampNeg
  · subst hj
    simp [updV, vp_updL]
  · simp [updV, vp_updL, hj]
theorem j_aast {t q na v ci : Nat} {r : vw_C} {vs : List Value} {a : Nat → Option Nat} {i : Int32} (hd : decode (jyc f.2.1) pc = .ok (.aastore, 1)) (hq : q < N) (hm : mu q = .inl (t, na, .inr (.inr (.inr (.inr a))))) (hv : v < N) (hmv : mu v = .inr (ci, vs)) (hc : jcl[ci]? = some r) (ht : jtyl[t]? = some (.object r.1)) (hi : vp_in i na)
    (kk : jJ f lv (N, va_up mu q (.inl (t, na, .inr (.inr (.inr (.inr (va_up a i.toNatClampNeg (some (jb f.1 + v)))))))), x, k, n) (pc + 1) st) : jJ f lv (N, mu, x, k, n) pc (.ref (jb f.1 + v) :: .int i :: .ref (jb f.1 + q) :: st) := by
  intro p e s m args below meth c C ls H locs hl hP hz hS
  have he := jget_l (g := f.1) hq hm
  have hK : va_K (jD f.1) jcl (jtys f.1) s := C.2.2.2.2.1.2.1
  have hlt : i.toNatClampNeg < na := Nat.not_le.mp fun q => hi (Or.inr q)
  have h0 : ¬ i < 0 := fun q => hi (Or.inl q)
  obtain ⟨r', hr', cellV, g1, g2, g3, -⟩ := hP v _ (jget_r (g := f.1) hv hmv)
  have hcls := (hK.1 ci r hc).2
  obtain ⟨kA, comp, k1, k2, k3, -⟩ := (hK.2 t _ (jtys_get ht)).2
  have hcomp : comp = (jD f.1).1 ci := Option.some.inj (k3.symm.trans hcls.1)
  subst hcomp
  obtain ⟨kC, hkC, -⟩ := hcls.2
  refine W.aast C.1 C.2.1 (hP q _ he) (fun q h => by cases h) (fun h => by cases h) k1 k2 rfl hkC ⟨h0, by show _ < (arrV _ _ _).slots.size; rw [arrV_size]; exact hlt⟩ g1 (fun q h => by rw [g3] at h; cases h) (by rw [g2]; exact hkC) (by rw [g2]; exact va_assign hcls) rfl rfl hd fun H1 e1 z oq => ?_
  refine kk p e s m args below meth c C ls H1 _ hl (jset_l hq (hP.set (jpool_D f.1 N mu) he ?_ oq)) (hz.keep z) (hS.put z oq (Nat.le_add_right _ _))
  show H1[jb f.1 + q]? = some (vp_cell _ _)
  rw [e1, vp_cell_q, vp_cell_q, arrV_store]
  congr 2
  funext j
  by_cases hj : j = i.toNatClampNeg
  · subst hj
    simp [updV, va_up, va_rf]
  · simp [updV, va_up, hj]
theorem j_new {idx ci nf : Nat} {Cn : String} {T : u_T} {fs : List Value} (hd : decode (jyc f.2.1) pc = .ok (.new idx, 3)) (hc : jcl[ci]? = some (Cn, T, nf)) (hl : Cond.classLink (jyo f.2.1) idx Cn ∈ jTab) (hi : Cond.instantiable Cn nf ∈ jTab) (hini : Cond.initialized Cn ∈ jTab) (hfs : ∀ j, j < nf → defaultValue (jcty ci j) = vp_V fs j) (hk : k + 1 ≤ f.2.2.2.1) (hn : n + nf ≤ f.2.2.2.2.1)
    (kk : jJ f lv (N + 1, va_up mu N (.inr (ci, fs)), true, k + 1, n + nf) (pc + 3) (.ref (jb f.1 + N) :: st)) : jJ f lv (N, mu, true, k, n) pc st := by
  intro p e s m args below meth c C ls H locs hlv hP hz hS
  have hts : ∀ w ∈ jTab, w.before args s = true := fun w h => C.2.2.2.2.1.1 w h args
  have hK : va_K (jD f.1) jcl (jtys f.1) s := C.2.2.2.2.1.2.1
  have hKn := hK.1 ci _ hc
  refine W.newcK C.1 C.2.1 C.2.2.2.1 (hts _ hl) (hts _ hi) (hts _ hini) rfl hd hk hn hKn.2.1 (hz rfl) fun H1 kC hkC e1 z1 o1 => ?_
  have o2 : ∀ q : Nat, q < H.size → H1[q]? = H[q]? := fun q hq => o1 q (by rw [← hz rfl]; exact hq)
  exact kk p e s m args below meth c C ls H1 locs hlv (jpush hP o2 ⟨_, hc, (u_born (jcty ci) hts (jcl_in hc) hKn hkC e1 (jcl_ty hc)).to hfs⟩) (fun _ => z1) (jS_up hS (by rw [z1, hz rfl]) o2)
theorem j_newa {at' : ArrayType} {t na : Nat} {ty : FieldType} {a0 : vp_A} {i : Int32} (hd : decode (jyc f.2.1) pc = .ok (.newarray at', 2)) (hty : newarray.typeOf at' = ty) (hw : Cond.arrayClass ty ∈ jTab) (ht : jtyl[t]? = some ty) (ha : ∀ cA : ClassId, vp_cell cA a0 = arrV cA na (fun _ => defaultValue ty)) (hi : ¬ i < 0) (hN : i.toNatClampNeg = na) (hby : na * componentBytes ty ≤ 536870912) (hk : k + 1 ≤ f.2.2.2.1) (hn : n + na ≤ f.2.2.2.2.1)
    (kk : jJ f lv (N + 1, va_up mu N (.inl (t, a0)), true, k + 1, n + na) (pc + 2) (.ref (jb f.1 + N) :: st)) : jJ f lv (N, mu, true, k, n) pc (.int i :: st) := by
  intro p e s m args below meth c C ls H locs hlv hP hz hS
  have hts : ∀ w ∈ jTab, w.before args s = true := fun w h => C.2.2.2.2.1.1 w h args
  have hK : va_K (jD f.1) jcl (jtys f.1) s := C.2.2.2.2.1.2.1
  subst hty
  refine va_newaK C.1 C.2.1 (hts _ hw) rfl hd rfl hi hN hby hk hn (hz rfl) fun H1 cA e1 z1 o1 hAr hNm => ?_
  have hcA : cA = jcA f.1 t := by
    have h2 := (hK.2 t _ (jtys_get ht)).2
    have h3 : s.vm.findClass ("[" ++ (newarray.typeOf at').toString) = some (jcA f.1 t) := by cases at' <;> exact h2
    exact Option.some.inj (hNm.symm.trans h3)
  subst hcA
  have o2 : ∀ q : Nat, q < H.size → H1[q]? = H[q]? := fun q hq => o1 q (by rw [← hz rfl]; exact hq)
  refine kk p e s m args below meth c C ls H1 locs hlv (jpush hP o2 ?_) (fun _ => z1) (jS_up hS (by rw [z1, hz rfl]) o2)
  show H1[jb f.1 + N]? = some (vp_cell _ _)
  rw [ha]
  exact e1
theorem j_anew {idx t na : Nat} {Cn : String} {i : Int32} (hd : decode (jyc f.2.1) pc = .ok (.anewarray idx, 3)) (hw : Cond.classLink (jyo f.2.1) idx Cn ∈ jTab) (hw2 : Cond.arrayOver (.object Cn) ∈ jTab) (ht : jtyl[t]? = some (.object Cn)) (hi : ¬ i < 0) (hN : i.toNatClampNeg = na) (hby : na * 4 ≤ 536870912) (hk : k + 1 ≤ f.2.2.2.1) (hn : n + na ≤ f.2.2.2.2.1)
    (kk : jJ f lv (N + 1, va_up mu N (.inl (t, na, .inr (.inr (.inr (.inr (fun _ => none)))))), true, k + 1, n + na) (pc + 3) (.ref (jb f.1 + N) :: st)) : jJ f lv (N, mu, true, k, n) pc (.int i :: st) := by
  intro p e s m args below meth c C ls H locs hlv hP hz hS
  have hts : ∀ w ∈ jTab, w.before args s = true := fun w h => C.2.2.2.2.1.1 w h args
  have hK : va_K (jD f.1) jcl (jtys f.1) s := C.2.2.2.2.1.2.1
  subst hN
  have hH := hz rfl
  refine W.anew C.1 C.2.1 C.2.2.2.1 (hts _ hw) (hts _ hw2) rfl hd rfl hi hby hk hn fun cA kA comp f1 f2 f3 f4 => ?_
  have hcA : cA = jcA f.1 t := by
    obtain ⟨kA', comp', g1, g2, g3, g4⟩ := (hK.2 t _ (jtys_get ht)).2
    exact Option.some.inj (f1.symm.trans g4)
  subst hcA
  generalize hH1 : H.push ({ cls := jcA f.1 t, slots := Array.replicate i.toNatClampNeg .null, vm := .none } : Cell) = H1
  have z1 : H1.size = H.size + 1 := by rw [← hH1, Array.size_push]
  have e1 : H1[H.size]? = some (arrV (jcA f.1 t) i.toNatClampNeg (fun _ => .null)) := by rw [← hH1, Array.getElem?_push_size, ← arrV_new]
  have o1 : ∀ q : Nat, q < H.size → H1[q]? = H[q]? := fun q hq => by rw [← hH1, Array.getElem?_push, if_neg (Nat.ne_of_lt hq)]
  rw [hH] at e1 ⊢
  refine kk p e s m args below meth c C ls H1 locs hlv (jpush hP o1 ?_) (fun _ => by rw [z1, hH]; rfl) (jS_up hS z1 o1)
  show H1[jb f.1 + N]? = some (vp_cell _ _)
  rw [vp_cell_q]
  exact e1
end JM
end
section
/-! a method's end and its beginning -/
theorem jW.mono {p : Program} {l : Launch} {e : Env} {R : Room} {s : State} {m : MethodId} {args : Array Value} {below : List Frame} {meth : Method} {c : Code} {H : Heap} {locs : List Loc} {cells slots : Nat} {Q Q' : State → Prop} {g : JFrame}
    (h : W p l e R s m args below meth c H locs cells slots Q g) (hQ : ∀ t, Q t → Q' t) : W p l e R s m args below meth c H locs cells slots Q' g := by
  intro T hT X
  obtain ⟨t, a, b⟩ := h T hT X
  exact ⟨t, a, hQ t b⟩
def jQc (g : jG) (Q : jQ) : Array Value → State → Outcome → State → Prop := fun _ s o t => va_F (jA g) s t ∧ ∃ (r : jRes) (N : Nat) (mu : Nat → jE) (x : Bool), Q r N mu x ∧ jOut s t r o ∧ jP g N mu t.heap ∧ jSz g x N t.heap
theorem jZ_of {g : jG} {below : List Frame} {Q : jQ} {args : Array Value} {s : State} {kC kS : Nat} (t : State) (h : MQ below (jQc g Q) args s kC kS (fun q => jb g ≤ q) t) : jZ g below kC kS Q s t := by
  obtain ⟨o, h1, h2, ⟨hF, hr⟩, L, ⟨-, hW, hsame⟩, hL⟩ := h
  exact ⟨o, h1, h2, hW, ⟨L, hsame, hL⟩, hF, hr⟩
section JR
variable {f : jF} {lv : List (Nat × Value)} {N k n : Nat} {x : Bool} {mu : Nat → jE} {pc : Nat}
theorem j_iret {v : Int32} (hd : decode (jyc f.2.1) pc = .ok (.ireturn, 1)) (hr : jyr f.2.1 = some .int) (hk : k ≤ f.2.2.2.1) (hn : n ≤ f.2.2.2.2.1) (hQ : f.2.2.2.2.2 (.inl (some (.int v))) N mu x) : jJ f lv (N, mu, x, k, n) pc [.int v] := by
  intro p e s m args below meth c C ls H locs hl hP hz hS
  refine W.widen hk hn (jW.mono (W.iret (Qc := jQc f.1 f.2.2.2.2.2) (free := fun q => jb f.1 ≤ q) C.1 C.2.1 (C.2.2.2.2.2.1.trans hr) (fun t ht hW => ⟨hS.F ht, _, _, _, _, hQ, rfl, ?_, ?_⟩) hS.2.2 hd C.2.2.2.2.2.2.1) jZ_of)
  · rw [ht]; exact hP
  · rw [ht]; exact hz
theorem j_zret {v : Int32} {ty : FieldType} (hd : decode (jyc f.2.1) pc = .ok (.ireturn, 1)) (hr : jyr f.2.1 = some ty) (hv : narrow ty (.int v) = .int v) (hk : k ≤ f.2.2.2.1) (hn : n ≤ f.2.2.2.2.1) (hQ : f.2.2.2.2.2 (.inl (some (.int v))) N mu x) : jJ f lv (N, mu, x, k, n) pc [.int v] := by
  intro p e s m args below meth c C ls H locs hl hP hz hS
  refine W.widen hk hn (jW.mono (W.zret (Qc := jQc f.1 f.2.2.2.2.2) (free := fun q => jb f.1 ≤ q) C.1 C.2.1 (C.2.2.2.2.2.1.trans hr) hv (fun t ht hW => ⟨hS.F ht, _, _, _, _, hQ, rfl, ?_, ?_⟩) hS.2.2 hd C.2.2.2.2.2.2.1) jZ_of)
  · rw [ht]; exact hP
  · rw [ht]; exact hz
theorem j_lret {v : Int64} (hd : decode (jyc f.2.1) pc = .ok (.lreturn, 1)) (hr : jyr f.2.1 = some .long) (hk : k ≤ f.2.2.2.1) (hn : n ≤ f.2.2.2.2.1) (hQ : f.2.2.2.2.2 (.inl (some (.long v))) N mu x) : jJ f lv (N, mu, x, k, n) pc [.long v] := by
  intro p e s m args below meth c C ls H locs hl hP hz hS
  refine W.widen hk hn (jW.mono (W.lret (Qc := jQc f.1 f.2.2.2.2.2) (free := fun q => jb f.1 ≤ q) C.1 C.2.1 (C.2.2.2.2.2.1.trans hr) (fun t ht hW => ⟨hS.F ht, _, _, _, _, hQ, rfl, ?_, ?_⟩) hS.2.2 hd C.2.2.2.2.2.2.1) jZ_of)
  · rw [ht]; exact hP
  · rw [ht]; exact hz
theorem j_vret (hd : decode (jyc f.2.1) pc = .ok (.return_, 1)) (hr : jyr f.2.1 = none) (hk : k ≤ f.2.2.2.1) (hn : n ≤ f.2.2.2.2.1) (hQ : f.2.2.2.2.2 (.inl none) N mu x) : jJ f lv (N, mu, x, k, n) pc [] := by
  intro p e s m args below meth c C ls H locs hl hP hz hS
  refine W.widen hk hn (jW.mono (W.vret (Qc := jQc f.1 f.2.2.2.2.2) (free := fun q => jb f.1 ≤ q) C.1 C.2.1 (C.2.2.2.2.2.1.trans hr) (fun t ht hW => ⟨hS.F ht, _, _, _, _, hQ, rfl, ?_, ?_⟩) hS.2.2 hd C.2.2.2.2.2.2.1) jZ_of)
  · rw [ht]; exact hP
  · rw [ht]; exact hz
end JR
theorem jcw_with {y : jY} {args : Array Value} {s : State} (h : (jcw y).before args s = true) : (Cond.codeWith (jyn y) (jyc y) (jyL y) (jyr y) (jyh y)).before args s = true := by
  unfold jcw at h
  split at h
  next hh =>
    have e1 : (Cond.code (jyn y) (jyc y) (jyL y) (jyr y)).before args s = (Cond.codeWith (jyn y) (jyc y) (jyL y) (jyr y) []).before args s := by simp only [Cond.before, Cond.holds, Cond.code_iff_codeWith_nil]
    rw [hh, ← e1]
    exact h
  next => exact h
/-- a method's walk from its entry is its contract -/
theorem j_entry {g : jG} {y : jY} {d : Nat × Nat} {kC kS : Nat} {as : List Value} {N : Nat} {mu : Nat → jE} {x : Bool} {Q : jQ} (hpl : plainName (jyn y).cls = true) (hown : (jyn y).cls = jyo y) (hlen : (lg_sl as).length ≤ jyL y)
    (hJ : jJ (g, y, d, kC, kS, Q) (lv_args 0 as) (N, mu, x, 0, 0) 0 []) : jMet g y d kC kS as N mu x Q := by
  refine MetFree.of_bodyS (code := jyc y) (maxLocals := jyL y) (ret := jyr y) hpl ?_ ?_
  · intro args s m h hn
    obtain ⟨m9, meth, c, hn9, h1, h2, h3, h4, -, h5, h6, -⟩ := Cond.codeWith_spec (jcw_with (atoms_spec (ws := [jcw y]) h _ List.mem_cons_self))
    cases hn.symm.trans hn9
    exact ⟨meth, c, h1, h2, h3, h4, h5, h6⟩
  · intro p e s m args below meth c s₁ B hml hP _
    obtain ⟨rfl, hH, hPo, hz⟩ := hP
    have hh0 : s₁.heap = s.heap := by rw [B.state]; rfl
    have X0 := Stand.of_body B
    obtain ⟨m9, meth', c', hn9, h1, h2, -, -, ht, -, -, -⟩ := Cond.codeWith_spec (jcw_with (atoms_spec (ws := [jcw y]) B.pre _ List.mem_cons_self))
    cases B.named.symm.trans hn9
    cases B.method.symm.trans h1
    cases X0.code.symm.trans h2
    have C : jCx g y p s m meth c := ⟨B.exec, B.bytes, hml, by rw [← hown]; exact findClass_of_methodNamed B.named, hH, B.returns, B.notSynchronized, (name_of_methodNamed B.named B.method).1, by rw [← table_eq c.exceptionTable.toList, ht]⟩
    have hl := lv_entry as hlen
    have hW := hJ p e s m as.toArray below meth c C _ s.heap [] hl hPo hz va_S.rf
    rw [← lg_entry_eq] at hW
    obtain ⟨t, a1, o, b1, b2, b3⟩ := hW s₁ hh0 X0
    exact ⟨t, o, a1, b1, b2, b3⟩
end
section
/-! calls of methods that return -/
theorem jHyp.to {g : jG} {s U : State} (h : jHyp g s) (hW : s.WarmedH U.vm) (hz : s.heap.size ≤ U.heap.size) (ho : ∀ q : Nat, q < jb g → U.heap[q]? = s.heap[q]?) : jHyp g U := by
  obtain ⟨h1, h2, h3, ⟨h4, h5⟩, h6, h7⟩ := h
  exact ⟨fun w hw A => jTab_warm hw hW (h1 w hw), va_K.moved hW.alike h2, Nat.le_trans h3 hz, ⟨h4, (h5.moved hW.alike).kept (ho _ h4)⟩, jFor_to h6 hW (Nat.le_trans h3 (Nat.le_refl _)) ho, h7⟩
theorem jHyp.calling {g : jG} {U : State} (h : jHyp g U) (fr : JFrame) (mk : MethodId) (a : Array Value) : jHyp g (U.calling fr mk a) :=
  h.to (U := U.calling fr mk a) (State.WarmedH.refl U) (Nat.le_refl _) (fun _ _ => rfl)
def jPc (g : jG) (as : List Value) (N : Nat) (mu : Nat → jE) (x : Bool) : Array Value → State → Prop := fun a U => a = as.toArray ∧ jHyp g U ∧ jP g N mu U.heap ∧ jSz g x N U.heap
theorem jPc_blind {g : jG} {as : List Value} {N : Nat} {mu : Nat → jE} {x : Bool} : FrameBlind (jPc g as N mu x) := fun _ U fr mk ⟨h1, h2, h3, h4⟩ => ⟨h1, h2.calling fr mk _, h3, h4⟩
theorem jMet.met {g : jG} {y : jY} {d : Nat × Nat} {kC kS : Nat} {as : List Value} {N : Nat} {mu : Nat → jE} {x : Bool} {Q : jQ} (hM : jMet g y d kC kS as N mu x Q) (hret : ∀ r N' mu' x', Q r N' mu' x' → ∃ v, r = .inl v) :
    Met (jl g) (jyn y) [jcw y] (jRm d kC kS) (jPc g as N mu x) (fun _ s o t => jEnd g kC kS Q s o t) kC kS (fun q => jb g ≤ q) := by
  intro p e h1 h2 h3 s m args below h4 h5 h6 h7
  obtain ⟨n, o, a1, a2, a3, hE⟩ := hM p e h1 h2 h3 s m args below h4 h5 h6 h7
  refine ⟨n, o, a1, a2, a3, hE, ?_⟩
  obtain ⟨b1, ⟨L, b2, b3⟩, b4, r, N', mu', x', c1, c2, -⟩ := hE
  obtain ⟨v, rfl⟩ := hret _ _ _ _ c1
  exact ⟨L, ⟨⟨v, c2⟩, b1, b2⟩, b3⟩
/-- what the tables say of a callee -/
def jMth (y : jY) (na : Nat) : Prop := jyh y = [] ∧ Cond.code (jyn y) (jyc y) (jyL y) (jyr y) ∈ jTab ∧ Cond.initialized (jyn y).cls ∈ jTab ∧ ((jyn y).cls ≠ "java/lang/invoke/MethodHandle" ∧ (jyn y).cls ≠ "java/lang/invoke/VarHandle") ∧
  (parseMethodDescriptor (jyn y).desc).map (fun d => d.parameters.length) = some na
def jLnk (own : String) (idx : Nat) (y : jY) : Prop := Cond.methodLink own idx (jyn y) ∈ jTab ∨ ∃ host, Cond.methodLinkNest own idx (jyn y) host ∈ jTab
section JC
variable {f : jF} {lv : List (Nat × Value)} {N k n : Nat} {x : Bool} {mu : Nat → jE} {pc : Nat} {st0 rest : List Value}
/-- behind a call: the callee's end -/
theorem j_run {kC' kS' : Nat} {Q' : jQ}
    (hr : ∀ (p : Program) (e : Env) (s : State) (m : MethodId) (args : Array Value) (below : List Frame) (meth : Method) (c : Code), jCx f.1 f.2.1 p s m meth c →
      ∀ (ls : Array Slot) (H : Heap) (locs : List Loc), ls.size = jyL f.2.1 → jP f.1 N mu H → jSz f.1 x N H → va_S (jA f.1) s.heap H locs →
        va_Run p (jl f.1) e (jRm f.2.2.1 f.2.2.2.1 f.2.2.2.2.1) s m args below meth c H locs k n kC' kS' (F0 m pc ls st0) rest (fun s o t => jEnd f.1 kC' kS' Q' s o t) (fun q => jb f.1 ≤ q))
    (kk : ∀ v N' mu' x', Q' (.inl v) N' mu' x' → jJ f lv (N', mu', x', k + kC', n + kS') (pc + 3) (v.toList ++ rest)) (hret : ∀ r N' mu' x', Q' r N' mu' x' → ∃ v, r = .inl v) : jJ f lv (N, mu, x, k, n) pc st0 := by
  intro p e s m args below meth c C ls H locs hl hP hz hS T hT X
  obtain ⟨v, st₀, t, T', L, h0, X', hL, e1, e2, hE, st⟩ := hr p e s m args below meth c C ls H locs hl.1 hP hz hS T hT X
  obtain ⟨-, -, ⟨hz2, hk2⟩, r, N', mu', x', c1, c2, c3, c4⟩ := hE
  obtain ⟨v', rfl⟩ := hret _ _ _ _ c1
  have hv : v = v' := by
    have h9 : Outcome.returned v = Outcome.returned v' := c2
    cases h9
    rfl
  subst hv
  rw [h0] at hz2 hk2
  have hS' : va_S (jA f.1) s.heap T'.heap (locs ++ L) := by
    refine ⟨Nat.le_trans hS.1 (by rw [e1]; exact hz2), fun q h1 h2 => ?_, fun q hq => ?_⟩
    · rw [e1, hk2 q (Nat.lt_of_lt_of_le h1 hS.1) h2]
      exact hS.2.1 q h1 h2
    · rcases List.mem_append.mp hq with h | h
      · exact hS.2.2 q h
      · exact hL q h
  obtain ⟨t2, a1, b1⟩ := kk v N' mu' x' c1 p e s m args below meth c C ls T'.heap (locs ++ L) hl (by rw [e1]; exact c3) (by rw [e1]; exact c4) hS' T' rfl X'
  exact ⟨t2, st t2 a1, b1⟩
theorem jpre {as : List Value} {p : Program} {s : State} {m : MethodId} {meth : Method} {c : Code} {H : Heap} {locs : List Loc} (C : jCx f.1 f.2.1 p s m meth c) (hP : jP f.1 N mu H) (hz : jSz f.1 x N H) (hS : va_S (jA f.1) s.heap H locs) (U : State) (hU : U.heap = H) (hW : s.WarmedH U.vm) : jPc f.1 as N mu x as.toArray U := by
  refine ⟨rfl, C.2.2.2.2.1.to hW (by rw [hU]; exact hS.1) (fun q hq => ?_), by rw [hU]; exact hP, by rw [hU]; exact hz⟩
  rw [hU]
  exact hS.2.1 q (Nat.lt_of_lt_of_le hq C.2.2.2.2.1.2.2.1) (fun h => Nat.not_lt.mpr h hq)
theorem jcode {y : jY} {s : State} {p : Program} {m : MethodId} {meth : Method} {c : Code} (C : jCx f.1 f.2.1 p s m meth c) (hh : jyh y = []) (hw : Cond.code (jyn y) (jyc y) (jyL y) (jyr y) ∈ jTab) :
    ∀ w ∈ [jcw y], ∀ (a' : Array Value) (U : State), s.WarmedH U.vm → w.before a' U = true := by
  intro w h a' U hW
  have e1 : w = Cond.code (jyn y) (jyc y) (jyL y) (jyr y) := by
    rw [List.mem_singleton.mp h]
    unfold jcw
    rw [hh]
  subst e1
  exact jTab_warm hw hW (C.2.2.2.2.1.1 _ hw)
theorem jcw_mem {y : jY} (hh : jyh y = []) : Cond.code (jyn y) (jyc y) (jyL y) (jyr y) ∈ [jcw y] := by
  unfold jcw
  rw [hh]
  exact List.mem_singleton.mpr rfl
theorem jlen {y : jY} {na : Nat} (h : (parseMethodDescriptor (jyn y).desc).map (fun d => d.parameters.length) = some na) : ∀ sig, parseMethodDescriptor (jyn y).desc = some sig → na = sig.parameters.length := by
  intro sig h2
  rw [h2] at h
  exact (Option.some.inj h).symm
theorem j_callV {y' : jY} {d' : Nat × Nat} {kC' kS' na idx q ci : Nat} {as : List Value} {fs : List Value} {r : vw_C} {Q' : jQ} (hd : decode (jyc f.2.1) pc = .ok (.invokevirtual idx, 3)) (hm : jMth y' na) (hlk : jLnk (jyo f.2.1) idx y') (hin : Cond.instanceMethod (jyn y') ∈ jTab) (hse : Cond.selects (jyn y').cls (jyn y') (jyn y') ∈ jTab)
    (hq : q < N) (hmu : mu q = .inr (ci, fs)) (hcl : jcl[ci]? = some r) (hrn : r.1 = (jyn y').cls) (hR : d'.1 + 1 ≤ f.2.2.1.1 ∧ 8 + (jyL y' + 11) + d'.2 ≤ f.2.2.1.2) (hk : k + kC' ≤ f.2.2.2.1) (hn : n + kS' ≤ f.2.2.2.2.1) (hW : (rest.map fun v => v.category).sum ≤ 8) (hna : as.length = na)
    (hM : jMet f.1 y' d' kC' kS' (.ref (jb f.1 + q) :: as) N mu x Q') (hret : ∀ r N' mu' x', Q' r N' mu' x' → ∃ v, r = .inl v)
    (hst : st0 = as.reverse ++ .ref (jb f.1 + q) :: rest) (kk : ∀ v N' mu' x', Q' (.inl v) N' mu' x' → jJ f lv (N', mu', x', k + kC', n + kS') (pc + 3) (v.toList ++ rest)) : jJ f lv (N, mu, x, k, n) pc st0 := by
  obtain ⟨hh, hcode, hini, hno, hdes⟩ := hm
  refine j_run (kC' := kC') (kS' := kS') (Q' := Q') (rest := rest) ?_ kk hret
  intro p e s m args below meth c C ls H locs hls hP hz hS
  have hts : ∀ w ∈ jTab, w.before args s = true := fun w h => C.2.2.2.2.1.1 w h args
  have hpre : PreV s H (jyn y').cls (jb f.1 + q) (jPc f.1 (.ref (jb f.1 + q) :: as) N mu x) as :=
    ⟨jPc_blind, by rw [← hrn]; exact va_recv C.2.2.2.2.1.2.1 hP hcl (jget_r hq hmu), fun U hU hW => jpre C hP hz hS U hU hW⟩
  rcases hlk with hl | ⟨host, hl⟩
  · exact va_runV (C := (jyn y').cls) (bytes := jyc y') (maxL := jyL y') (ret := jyr y') (nL := jyL f.2.1) (n := na) ⟨C.1, C.2.1, C.2.2.1, C.2.2.2.1, hts⟩ (hM.met hret)
      ⟨⟨rfl, rfl, hR.1, hR.2, jcode C hh hcode, jcw_mem hh, hts _ hcode, hts _ hini, hno, jlen hdes, hts _ hl⟩, hts _ hin, hts _ hse⟩ hpre rfl hna hls hst (lv_room hW) hd ⟨hk, hn⟩
  · exact va_runVN (C := (jyn y').cls) (bytes := jyc y') (maxL := jyL y') (ret := jyr y') (nL := jyL f.2.1) (n := na) ⟨C.1, C.2.1, C.2.2.1, C.2.2.2.1, hts⟩ (hM.met hret)
      ⟨⟨⟨rfl, rfl, hR.1, hR.2, jcode C hh hcode, jcw_mem hh⟩, hts _ hcode, hts _ hini, hno, jlen hdes, hts _ hl⟩, hts _ hin, hts _ hse⟩ hpre rfl hna hls hst (lv_room hW) hd ⟨hk, hn⟩
theorem j_callS {y' : jY} {d' : Nat × Nat} {kC' kS' na idx : Nat} {as : List Value} {Q' : jQ} (hd : decode (jyc f.2.1) pc = .ok (.invokestatic idx, 3)) (hm : jMth y' na) (hlk : jLnk (jyo f.2.1) idx y') (hsta : Cond.static (jyn y') ∈ jTab)
    (hR : d'.1 + 1 ≤ f.2.2.1.1 ∧ 8 + (jyL y' + 11) + d'.2 ≤ f.2.2.1.2) (hk : k + kC' ≤ f.2.2.2.1) (hn : n + kS' ≤ f.2.2.2.2.1) (hW : (rest.map fun v => v.category).sum ≤ 8) (hna : as.length = na)
    (hM : jMet f.1 y' d' kC' kS' as N mu x Q') (hret : ∀ r N' mu' x', Q' r N' mu' x' → ∃ v, r = .inl v)
    (hst : st0 = as.reverse ++ rest) (kk : ∀ v N' mu' x', Q' (.inl v) N' mu' x' → jJ f lv (N', mu', x', k + kC', n + kS') (pc + 3) (v.toList ++ rest)) : jJ f lv (N, mu, x, k, n) pc st0 := by
  obtain ⟨hh, hcode, hini, hno, hdes⟩ := hm
  refine j_run (kC' := kC') (kS' := kS') (Q' := Q') (rest := rest) ?_ kk hret
  intro p e s m args below meth c C ls H locs hls hP hz hS
  have hts : ∀ w ∈ jTab, w.before args s = true := fun w h => C.2.2.2.2.1.1 w h args
  have hpre : PreS s H (jPc f.1 as N mu x) as := ⟨jPc_blind, fun U hU hW => jpre C hP hz hS U hU hW⟩
  rcases hlk with hl | ⟨host, hl⟩
  · exact va_runS (bytes := jyc y') (maxL := jyL y') (ret := jyr y') (nL := jyL f.2.1) (n := na) ⟨C.1, C.2.1, C.2.2.1, C.2.2.2.1, hts⟩ (hM.met hret)
      ⟨⟨rfl, rfl, hR.1, hR.2, jcode C hh hcode, jcw_mem hh, hts _ hcode, hts _ hini, hno, jlen hdes, hts _ hl⟩, hts _ hsta⟩ hpre rfl hna hls hst (lv_room hW) hd ⟨hk, hn⟩
  · exact va_runSN (bytes := jyc y') (maxL := jyL y') (ret := jyr y') (nL := jyL f.2.1) (n := na) ⟨C.1, C.2.1, C.2.2.1, C.2.2.2.1, hts⟩ (hM.met hret)
      ⟨⟨⟨rfl, rfl, hR.1, hR.2, jcode C hh hcode, jcw_mem hh⟩, hts _ hcode, hts _ hini, hno, jlen hdes, hts _ hl⟩, hts _ hsta, trivial⟩ hpre rfl hna hls hst (lv_room hW) hd ⟨hk, hn⟩
theorem j_callI {y' : jY} {d' : Nat × Nat} {kC' kS' na idx a : Nat} {as : List Value} {Q' : jQ} (hd : decode (jyc f.2.1) pc = .ok (.invokespecial idx, 3)) (hm : jMth y' na) (hr0 : jyr y' = none) (hnm : (jyn y').name = "<init>") (hlk : jLnk (jyo f.2.1) idx y') (hin : Cond.instanceMethod (jyn y') ∈ jTab)
    (hR : d'.1 + 1 ≤ f.2.2.1.1 ∧ 8 + (jyL y' + 11) + d'.2 ≤ f.2.2.1.2) (hk : k + kC' ≤ f.2.2.2.1) (hn : n + kS' ≤ f.2.2.2.2.1) (hW : (rest.map fun v => v.category).sum ≤ 8) (hna : as.length = na)
    (hM : jMet f.1 y' d' kC' kS' (.ref a :: as) N mu x Q') (hret : ∀ r N' mu' x', Q' r N' mu' x' → ∃ v, r = .inl v)
    (hst : st0 = as.reverse ++ .ref a :: rest) (kk : ∀ v N' mu' x', Q' (.inl v) N' mu' x' → jJ f lv (N', mu', x', k + kC', n + kS') (pc + 3) (v.toList ++ rest)) : jJ f lv (N, mu, x, k, n) pc st0 := by
  obtain ⟨hh, hcode, hini, hno, hdes⟩ := hm
  refine j_run (kC' := kC') (kS' := kS') (Q' := Q') (rest := rest) ?_ kk hret
  intro p e s m args below meth c C ls H locs hls hP hz hS
  have hts : ∀ w ∈ jTab, w.before args s = true := fun w h => C.2.2.2.2.1.1 w h args
  have hpre : PreS s H (jPc f.1 (.ref a :: as) N mu x) (.ref a :: as) := ⟨jPc_blind, fun U hU hW => jpre C hP hz hS U hU hW⟩
  rw [hr0] at hcode
  have hcm : Cond.code (jyn y') (jyc y') (jyL y') none ∈ [jcw y'] := by rw [← hr0]; exact jcw_mem hh
  have hcj : ∀ w ∈ [jcw y'], ∀ (a' : Array Value) (U : State), s.WarmedH U.vm → w.before a' U = true := jcode C hh (by rw [hr0]; exact hcode)
  rcases hlk with hl | ⟨host, hl⟩
  · exact va_runI (bytes := jyc y') (maxL := jyL y') (nL := jyL f.2.1) (n := na) ⟨C.1, C.2.1, C.2.2.1, C.2.2.2.1, hts⟩ (hM.met hret)
      ⟨⟨rfl, rfl, hR.1, hR.2, hcj, hcm, hts _ hcode, hts _ hini, hno, jlen hdes, hts _ hl⟩, hnm, hts _ hin⟩ hpre rfl hna hls hst (lv_room hW) hd ⟨hk, hn⟩
  · exact va_runIN (bytes := jyc y') (maxL := jyL y') (nL := jyL f.2.1) (n := na) ⟨C.1, C.2.1, C.2.2.1, C.2.2.2.1, hts⟩ (hM.met hret)
      ⟨⟨⟨rfl, rfl, hR.1, hR.2, hcj, hcm⟩, hts _ hcode, hts _ hini, hno, jlen hdes, hts _ hl⟩, hnm, hts _ hin⟩ hpre rfl hna hls hst (lv_room hW) hd ⟨hk, hn⟩
theorem j_objInit {idx a : Nat} (hd : decode (jyc f.2.1) pc = .ok (.invokespecial idx, 3)) (hl : Cond.methodLink (jyo f.2.1) idx Lib.objectInit ∈ jTab) (hin : Cond.instanceMethod Lib.objectInit ∈ jTab) (hc : Cond.code Lib.objectInit ⟨#[0xb1]⟩ 1 none ∈ jTab) (hR : 1 ≤ f.2.2.1.1 ∧ 20 ≤ f.2.2.1.2) (hW : (rest.map fun v => v.category).sum ≤ 8)
    (kk : jJ f lv (N, mu, x, k, n) (pc + 3) rest) : jJ f lv (N, mu, x, k, n) pc (.ref a :: rest) := by
  intro p e s m args below meth c C ls H locs hlv hP hz hS
  have hts : ∀ w ∈ jTab, w.before args s = true := fun w h => C.2.2.2.2.1.1 w h args
  refine W.objInit C.1 C.2.1 C.2.2.2.1 (hts _ hl) (hts _ hin) (hts _ hc) rfl (by rw [C.2.2.1]; exact hlv.1) rfl hd hR.1 ?_ (kk p e s m args below meth c C ls H locs hlv hP hz hS)
  have h1 := lv_room (m := m) (pc := pc) (ls := ls) (rest := .ref a :: rest) hW
  have h2 := hR.2
  show _ + 12 ≤ f.2.2.1.2
  omega
end JC
end
section
/-! what each of the 104 cells is -/
abbrev jH : Type := (Nat × Nat) ⊕ (Nat × Nat) ⊕ (Nat × List Nat) ⊕ (Nat × List Nat)
abbrev jo (ci : Nat) (fl : List Nat) : jH := .inr (.inr (.inr (ci, fl)))
def jshp (q : Nat) : jH :=
  if q = 0 then jo 0 [1, 1, 3, 4, 0, 20, 77, 82, 0, 83, 0, 84, 86]
  else if q = 1 then .inl (0, 64)
  else if q = 2 then .inr (.inr (.inl (3, [3, 8, 13])))
  else if q < 18 then (match (q - 3) % 5 with
    | 0 => jo 3 [0, 0, q + 3, q + 4, q + 5]
    | 1 => .inl (0, 4)
    | 2 => .inl (0, 24)
    | 3 => jo 5 [q + 3]
    | _ => .inl (0, 120))
  else if q = 18 then .inr (.inr (.inl (4, [19, 33, 47, 61])))
  else if q < 75 then (if (q - 19) % 14 = 0 then jo 4 [q + 3, 0, 0, 0] else if (q - 19) % 14 = 1 then .inr (.inr (.inl (5, [q + 1, q + 5, q + 9]))) else (match ((q - 19) % 14 - 2) % 4 with
    | 0 => jo 2 [0, q + 3, q + 5]
    | 1 => jo 5 [q + 3]
    | 2 => .inl (0, 120)
    | _ => .inl (1, 24)))
  else (match q - 75 with
    | 0 => jo 1 [0, 0, 0, 0, 78, 79, 80, 81]
    | 1 => .inl (0, 24)
    | 2 => .inl (0, 24)
    | 3 => .inl (0, 5)
    | 4 => .inl (1, 24)
    | 5 => .inl (0, 24)
    | 6 => .inl (0, 64)
    | 7 => jo 5 [85]
    | 8 => .inl (0, 120)
    | 9 => .inl (1, 6)
    | 10 => jo 6 [0, 1, 1, 88, 0, 89, 90, 91, 92, 93, 94, 95, 96, 0, 0, 0, 97, 98, 99, 0, 100, 0, 101, 102, 103, 104]
    | 11 => .inl (0, 64)
    | 12 => .inl (0, 3)
    | 13 => .inl (0, 360)
    | 14 => .inl (1, 12)
    | 15 => .inl (0, 1440)
    | 16 => .inl (1, 288)
    | 17 => .inl (0, 4)
    | 18 => .inl (0, 4)
    | 19 => .inl (0, 4)
    | 20 => .inl (0, 24)
    | 21 => .inl (0, 24)
    | 22 => .inl (0, 5)
    | 23 => .inl (0, 24)
    | 24 => .inl (0, 64)
    | 25 => .inl (0, 64)
    | 26 => .inr (.inl (2, 32))
    | 27 => .inl (0, 360)
    | _ => .inr (.inl (2, 1)))
theorem jshp_E : ∀ f, f < 3 → jshp (3 + 5 * f) = jo 3 [0, 0, (4 + 5 * f) + 2, (5 + 5 * f) + 2, (6 + 5 * f) + 2] ∧ jshp (4 + 5 * f) = .inl (0, 4) ∧ jshp (5 + 5 * f) = .inl (0, 24) ∧ jshp (6 + 5 * f) = jo 5 [(7 + 5 * f) + 2] ∧ jshp (7 + 5 * f) = .inl (0, 120) := by
  intro f hf
  match f, hf with
  | 0, _ => exact ⟨rfl, rfl, rfl, rfl, rfl⟩
  | 1, _ => exact ⟨rfl, rfl, rfl, rfl, rfl⟩
  | 2, _ => exact ⟨rfl, rfl, rfl, rfl, rfl⟩
theorem jshp_K : ∀ k, k < 4 → jshp (19 + 14 * k) = jo 4 [(20 + 14 * k) + 2, 0, 0, 0] ∧ jshp (20 + 14 * k) = .inr (.inr (.inl (5, [21 + 14 * k, 25 + 14 * k, 29 + 14 * k]))) := by
  intro k hk
  match k, hk with
  | 0, _ => exact ⟨rfl, rfl⟩
  | 1, _ => exact ⟨rfl, rfl⟩
  | 2, _ => exact ⟨rfl, rfl⟩
  | 3, _ => exact ⟨rfl, rfl⟩
theorem jshp_Y : ∀ k, k < 4 → ∀ f, f < 3 → jshp (21 + 14 * k + 4 * f) = jo 2 [0, (22 + 14 * k + 4 * f) + 2, (24 + 14 * k + 4 * f) + 2] ∧ jshp (22 + 14 * k + 4 * f) = jo 5 [(23 + 14 * k + 4 * f) + 2] ∧ jshp (23 + 14 * k + 4 * f) = .inl (0, 120) ∧ jshp (24 + 14 * k + 4 * f) = .inl (1, 24) := by
  intro k hk f hf
  match k, hk, f, hf with
  | 0, _, 0, _ => exact ⟨rfl, rfl, rfl, rfl⟩
  | 0, _, 1, _ => exact ⟨rfl, rfl, rfl, rfl⟩
  | 0, _, 2, _ => exact ⟨rfl, rfl, rfl, rfl⟩
  | 1, _, 0, _ => exact ⟨rfl, rfl, rfl, rfl⟩
  | 1, _, 1, _ => exact ⟨rfl, rfl, rfl, rfl⟩
  | 1, _, 2, _ => exact ⟨rfl, rfl, rfl, rfl⟩
  | 2, _, 0, _ => exact ⟨rfl, rfl, rfl, rfl⟩
  | 2, _, 1, _ => exact ⟨rfl, rfl, rfl, rfl⟩
  | 2, _, 2, _ => exact ⟨rfl, rfl, rfl, rfl⟩
  | 3, _, 0, _ => exact ⟨rfl, rfl, rfl, rfl⟩
  | 3, _, 1, _ => exact ⟨rfl, rfl, rfl, rfl⟩
  | 3, _, 2, _ => exact ⟨rfl, rfl, rfl, rfl⟩
end
section
/-! a throw out of a method: the walk begun anew at the present heap -/
def jreb (s T : State) : State := { s with heap := T.heap, slotsUsed := T.slotsUsed }
section JT
variable {p : Program} {l : Launch} {e : Env} {R : Room} {s : State} {m : MethodId} {args : Array Value} {below : List Frame} {meth : Method} {c : Code} {T : State} {locs : List Loc} {cells slots : Nat}
theorem jreb_stand (X : Stand p l e R s m args below meth c T locs cells slots) (hc : cells ≤ R.cells) (hs : slots ≤ R.slots) :
    Stand p l e { R with cells := R.cells - cells, slots := R.slots - slots } (jreb s T) m args below meth c T [] 0 0 := by
  have hroom := X.room
  have h1 := X.heapSize
  have h2 := X.used
  have h3 := X.book
  refine ⟨X.admits, X.cas, X.clock, X.frames, ?_, X.hears, X.method, X.code, X.here, X.tail, X.warmed, X.limits, X.bytes, ?_⟩
  · simp only [State.hasRoom, Bool.and_eq_true, decide_eq_true_eq] at hroom ⊢
    obtain ⟨⟨⟨⟨r1, r2⟩, r3⟩, r4⟩, r5⟩ := hroom
    refine ⟨⟨⟨⟨r1, r2⟩, ?_⟩, ?_⟩, h3⟩
    · show T.heap.size + (R.cells - cells) ≤ _
      omega
    · show T.slotsUsed + (R.slots - slots) ≤ _
      omega
  · refine ⟨X.same.1, Nat.le_refl _, Nat.le_refl _, ?_, ?_, fun a cc h => ⟨cc, h, rfl, rfl, fun _ _ => rfl⟩⟩
    · show T.slotsUsed = T.slotsUsed + ((T.heap.toList.drop T.heap.size).map (·.slots.size)).sum
      rw [List.drop_of_length_le (by simp)]
      simp
    · show ((T.heap.toList.drop T.heap.size).map (·.slots.size)).sum ≤ 0
      rw [List.drop_of_length_le (by simp)]
      simp
theorem jreb_same (X : Stand p l e R s m args below meth c T locs cells slots) : s.sameButNew (jreb s T) locs cells slots := by
  obtain ⟨h1, h2, h3, h4, h5, h6⟩ := X.same
  refine ⟨?_, h2, h3, h4, h5, h6⟩
  obtain ⟨t, ht⟩ : ∃ t, s.threads[s.cur]? = some t := ⟨_, Array.getElem?_eq_getElem X.cur⟩
  show jreb s T = { s.setFrames s.frames with heap := T.heap, slotsUsed := T.slotsUsed }
  rw [State.setFrames_self ht]
  rfl
end JT
theorem jsame_heap {s u : State} {cells slots : Nat} (h : s.sameButNew u [] cells slots) {q : Nat} (hq : q < s.heap.size) : u.heap[q]? = s.heap[q]? := by
  obtain ⟨-, -, -, -, -, h6⟩ := h
  have hc : s.heap[q]? = some s.heap[q] := Array.getElem?_eq_getElem hq
  obtain ⟨c', e1, e2, e3, e4⟩ := h6 q _ hc
  have e5 : c'.slots = (s.heap[q]).slots := by
    apply Array.ext_getElem?
    intro i
    exact e4 i (by simp)
  rw [e1, hc, e2, e5]
def jXw : List Cond := [Cond.isRef (.static "java/lang/Throwable" "UNASSIGNED_STACK" jU), Cond.isRef (.static "java/lang/Throwable" "SUPPRESSED_SENTINEL" "Ljava/util/List;"), Cond.laysStatic "java/lang/Throwable" "UNASSIGNED_STACK" jU, Cond.laysStatic "java/lang/Throwable" "SUPPRESSED_SENTINEL" "Ljava/util/List;"]
def jThr (own : String) (ic is kd : Nat) (tx : String) : Prop := own = "AuditDesk" ∧ (is, tx) ∈ jStr ∧ ∀ w ∈ Bundle.ownAtoms own ic (jex kd) ["java/lang/RuntimeException", "java/lang/Exception"], w ∈ jTab ∨ w ∈ jXw
theorem jls_any {C n d : String} {A : Array Value} {U : State} (h : (Cond.laysStatic C n d).before #[] U = true) : (Cond.laysStatic C n d).before A U = true := h
theorem jThr_at {own : String} {ic is kd : Nat} {tx : String} {g : jG} {U : State} (h : jThr own ic is kd tx) (hH : jHyp g U) (args : Array Value) : (∀ a ∈ Bundle.ownAtoms own ic (jex kd) ["java/lang/RuntimeException", "java/lang/Exception"], a.before args U = true) ∧ ∃ q, vk_R own is tx q U := by
  obtain ⟨rfl, h2, h3⟩ := h
  obtain ⟨-, -, ⟨z1, z2⟩, ⟨⟨_, _, _, l1⟩, ⟨_, _, _, l2⟩⟩, z3, -⟩ := hH.2.2.2.2.1
  refine ⟨fun a ha => ?_, z3 _ h2⟩
  rcases h3 a ha with h | h
  · exact hH.1 a h args
  · rcases List.mem_cons.mp h with rfl | h
    · exact jisRef z1
    rcases List.mem_cons.mp h with rfl | h
    · exact jisRef z2
    rcases List.mem_cons.mp h with rfl | h
    · exact jls_any l1
    · rw [List.mem_singleton.mp h]
      exact jls_any l2
section JT2
variable {f : jF} {lv : List (Nat × Value)} {N k n : Nat} {x : Bool} {mu : Nat → jE} {pc : Nat} {st : List Value}
theorem j_throw {ic is inw kd : Nat} {tx : String} (h0 : decode (jyc f.2.1) pc = .ok (.new inw, 3)) (h3 : decode (jyc f.2.1) (pc + 3) = .ok (.dup, 1)) (h4 : decode (jyc f.2.1) (pc + 3 + 1) = .ok (.ldc is, 2)) (h6 : decode (jyc f.2.1) (pc + 3 + 1 + 2) = .ok (.invokespecial ic, 3)) (h9 : decode (jyc f.2.1) (pc + 3 + 1 + 2 + 3) = .ok (.athrow, 1))
    (hh : jyh f.2.1 = []) (hw1 : Cond.classLink (jyo f.2.1) inw (jex kd) ∈ jTab) (hw2 : Cond.instantiable (jex kd) 6 ∈ jTab) (hw3 : Cond.initialized (jex kd) ∈ jTab) (hfit : Bundle.fit (jex kd) = true)
    (hown : jThr (jyo f.2.1) ic is kd tx) (hR : 5 < f.2.2.1.1 ∧ 86 ≤ f.2.2.1.2) (hst : (st.map fun v => v.category).sum ≤ 4) (hk : k + 1 ≤ f.2.2.2.1) (hn : n + 6 ≤ f.2.2.2.2.1) (hQ : f.2.2.2.2.2 (.inr kd) N mu false) : jJ f lv (N, mu, x, k, n) pc st := by
  intro p e s m args below meth c C ls H locs hl hP hz hS T hT X
  have hcells : k ≤ (jRm f.2.2.1 f.2.2.2.1 f.2.2.2.2.1).cells := Nat.le_trans (Nat.le_succ k) hk
  have hslots : n ≤ (jRm f.2.2.1 f.2.2.2.1 f.2.2.2.2.1).slots := Nat.le_trans (Nat.le_add_right n 6) hn
  have X' := jreb_stand X hcells hslots
  have hH' : jHyp f.1 (jreb s T) := C.2.2.2.2.1.to (U := jreb s T) (State.WarmedH.refl s) (by show s.heap.size ≤ T.heap.size; rw [hT]; exact hS.1) (fun q hq => by
    show T.heap[q]? = s.heap[q]?
    rw [hT]
    exact hS.2.1 q (Nat.lt_of_lt_of_le hq C.2.2.2.2.1.2.2.1) (fun h => Nat.not_lt.mpr h hq))
  have hts : ∀ w ∈ jTab, w.before args (jreb s T) = true := fun w h => hH'.1 w h args
  have hown' : (jreb s T).vm.findClass (jyo f.2.1) = some m.cls := C.2.2.2.1
  obtain ⟨cX, kX, hfX, hkX, -⟩ := Cond.instantiable_spec (hts _ hw2)
  obtain ⟨hatoms, q, hstr⟩ := jThr_at hown hH' args
  have w : W p (jl f.1) e { (jRm f.2.2.1 f.2.2.2.1 f.2.2.2.2.1) with cells := (jRm f.2.2.1 f.2.2.2.1 f.2.2.2.2.1).cells - k, slots := (jRm f.2.2.1 f.2.2.2.1 f.2.2.2.2.1).slots - n } (jreb s T) m args below meth c H [] 0 0
      (fun U => U.status = .running ∧ Ended U below (.threw H.size) ∧ s.WarmedH U.vm ∧ (jreb s T).sameButNew ({ U with vm := (jreb s T).vm } : State) [] 1 6 ∧ ∃ ce, U.heap[H.size]? = some ce ∧ ce.vm = .none ∧ s.vm.findClass (jex kd) = some ce.cls) (F0 m pc ls st) := by
    refine W.newcK C.1 C.2.1 hown' (hts _ hw1) (hts _ hw2) (hts _ hw3) rfl h0 (by show 0 + 1 ≤ f.2.2.2.1 - k; omega) (by show 0 + 6 ≤ f.2.2.2.2.1 - n; omega) hfX rfl fun H1 kC hkC e1 z1 o1 => ?_
    refine lv_dup C.1 C.2.1 h3 rfl ?_
    refine va_ldcS C.1 C.2.1 hown' hstr h4 ?_
    intro T2 hT2 X2
    obtain ⟨U, hs1, hs2, hs3, hs4, hs5, ce, hce, hO⟩ := X2.ctorThrowS C.1 (hH'.2.2.2.2.2 e X.admits) (names := ["java/lang/RuntimeException", "java/lang/Exception"]) hown' hfit (by decide +kernel) hatoms (fun _ h => by cases h) hfX hkC (by rw [hT2]; exact e1)
      (by show T.heap.size ≤ H.size; rw [hT]; exact Nat.le_refl _) (msg := .ref q) rfl (g := F0 m (pc + 3 + 1 + 2) ls (.ref q :: .ref H.size :: .ref H.size :: st)) rfl (by rw [C.2.2.1]; exact hl.1) rfl rfl (rest := st) rfl (by rw [C.2.1]; exact h6) (by rw [C.2.1]; exact h9)
      (fun y hy => by
        rw [C.2.2.2.2.2.2.2.2, hh] at hy
        cases hy)
      hR.1
      (by
        show 2 * 0 + ((Value.ref H.size :: st).map fun v => v.category).sum + (13 * (2 + 1) + 42) ≤ f.2.2.1.2
        have h7 := hR.2
        have h5 : ((Value.ref H.size :: st).map fun v => v.category).sum = 1 + (st.map fun v => v.category).sum := by simp [Value.category]
        omega)
      C.2.2.2.2.2.2.1
    exact ⟨U, hs1, hs2, hs3, hs4, hs5, ce, hce, hO.vm, hO.cls⟩
  obtain ⟨U, hs1, hs2, hs3, hs4, hs5, ce, hce, hv, hcl⟩ := w T hT X'
  have hkeep : ∀ q : Nat, q < H.size → U.heap[q]? = H[q]? := fun q hq => by
    have h := jsame_heap hs5 (q := q) (by show q < T.heap.size; rw [hT]; exact hq)
    have h' : U.heap[q]? = T.heap[q]? := h
    rw [h', hT]
  refine ⟨U, hs1, .threw H.size, hs2, hs3, hs4, ⟨locs, ?_, hS.2.2⟩, ⟨?_, fun q h1 h2 => ?_⟩, .inr kd, N, mu, false, hQ, ⟨H.size, ce, rfl, hce, by rw [hv]; rfl, hcl⟩, ?_, fun h => by cases h⟩
  · have h := (jreb_same X).trans hs5
    rw [List.append_nil] at h
    exact h.mono hk hn
  · have h9 : H.size < U.heap.size := (Array.getElem?_eq_some_iff.mp hce).1
    exact Nat.le_trans hS.1 (Nat.le_of_lt h9)
  · rw [hkeep q (Nat.lt_of_lt_of_le h1 hS.1)]
    exact hS.2.1 q h1 h2
  · exact va_P.kept hP (fun i q hi => hkeep q.1 ((hP i q hi).lt))
end JT2
end
section
/-! a call that throws, caught by the caller's own table -/
/-- what the tables say of an entry of the caller's own table, for an object of class t thrown at pc: passed by -/
def jBy (pl : Platform) (s : State) (d : ClassId) (pc : Nat) (t : ClassId) (y : ExceptionTableEntry) : Prop := covers y pc = false ∨ (covers y pc = true ∧ y.catchType ≠ 0 ∧ ∃ c, s.vm.ClassLinks pl d y.catchType c ∧ s.vm.assignable t c = false)
theorem jgo_one {e : Env} {S s : State} {fr : JFrame} {a : Addr} {cell : Cell} {y : ExceptionTableEntry} {r : List ExceptionTableEntry} {c : ClassId} {v : Bool} (hW : s.WarmedH S.vm) (hcell : S.heap[a]? = some cell) (hobj : ∀ k, cell.vm ≠ .statics k) (hk0 : ∃ k, s.vm.classes[cell.cls]? = some k)
    (hx : covers y fr.pc = true) (h0 : y.catchType ≠ 0) (hl : s.vm.ClassLinks e.platform fr.method.cls y.catchType c) (hv : s.vm.assignable cell.cls c = v) :
    s.WarmedH (S.vm.noted fr.method.cls y.catchType (.cls c)) ∧ ∀ (Q : Handler → Pre) (E : CtlPost) (d : Bool) (acts : List Action),
      wp (findHandler.go fr a (y :: r)) Q E e d acts S ↔ if v = true then Q (.found y.handlerPc) d acts (S.setVm (S.vm.noted fr.method.cls y.catchType (.cls c))) else wp (findHandler.go fr a r) Q E e d acts (S.setVm (S.vm.noted fr.method.cls y.catchType (.cls c))) := by
  obtain ⟨dk, _, _, kt, hd, _, _, _, _, hkt, _, hopen⟩ := hl.here
  refine ⟨hW.noted hd hopen (State.rightAt_cls hl), fun Q E d acts => ?_⟩
  simp only [covers] at hx
  have hlS := hW.classLinks hl
  obtain ⟨ha, ht⟩ := (resolveClass_links e.toSetting hlS).op (op := VmOp.resolveClass fr.method.cls y.catchType) rfl
  have hal : S.vm.Alike (S.vm.noted fr.method.cls y.catchType (.cls c)) := (Vm.Alike.refl S.vm).noted _ _ _
  have hal2 := hW.alike.trans hal
  obtain ⟨k1, hk1⟩ := hk0
  obtain ⟨k1', hk1', -⟩ := hal2.2.2 _ _ hk1
  obtain ⟨k2', hk2', -⟩ := hal2.2.2 _ _ hkt
  have hfit : (S.vm.noted fr.method.cls y.catchType (.cls c)).assignable cell.cls c = v := by rw [hal2.assignable]; exact hv
  cases v
  · simp [findHandler.go, hx, h0, ha, ht, hcell, hobj, hk1', hk2', hfit, VmOp.dirties, VmOp.acts]
  · simp [findHandler.go, hx, h0, ha, ht, hcell, hobj, hk1', hk2', hfit, VmOp.dirties, VmOp.acts]
theorem jgo {e : Env} {s : State} {fr : JFrame} {a : Addr} {cell : Cell} (hobj : ∀ k, cell.vm ≠ .statics k) (hk0 : ∃ k, s.vm.classes[cell.cls]? = some k) (y : ExceptionTableEntry) (r : List ExceptionTableEntry) {c : ClassId} (hx : covers y fr.pc = true) (h0 : y.catchType ≠ 0)
    (hl : s.vm.ClassLinks e.platform fr.method.cls y.catchType c) (hv : s.vm.assignable cell.cls c = true) : ∀ (pre : List ExceptionTableEntry) (S : State), s.WarmedH S.vm → S.heap[a]? = some cell → (∀ z ∈ pre, jBy e.platform s fr.method.cls fr.pc cell.cls z) →
      ∃ vm', s.WarmedH vm' ∧ ∀ (Q : Handler → Pre) (E : CtlPost) (d : Bool) (acts : List Action), wp (findHandler.go fr a (pre ++ y :: r)) Q E e d acts S ↔ Q (.found y.handlerPc) d acts (S.setVm vm') := by
  intro pre
  induction pre with
  | nil =>
    intro S hW hcell _
    obtain ⟨h1, h2⟩ := jgo_one (r := r) hW hcell hobj hk0 hx h0 hl hv
    exact ⟨_, h1, fun Q E d acts => by rw [List.nil_append, h2 Q E d acts, if_pos rfl]⟩
  | cons z zs ih =>
    intro S hW hcell hpass
    have hrest : ∀ w ∈ zs, jBy e.platform s fr.method.cls fr.pc cell.cls w := fun w hw => hpass w (List.mem_cons_of_mem _ hw)
    rcases hpass z List.mem_cons_self with h | ⟨g1, g2, cz, g3, g4⟩
    · obtain ⟨vm', hW', hq⟩ := ih S hW hcell hrest
      exact ⟨vm', hW', fun Q E d acts => by rw [List.cons_append, W.findHandler_go_skip h]; exact hq Q E d acts⟩
    · obtain ⟨h1, h2⟩ := jgo_one (r := zs ++ y :: r) hW hcell hobj hk0 g1 g2 g3 g4
      obtain ⟨vm', hW', hq⟩ := ih (S.setVm (S.vm.noted fr.method.cls z.catchType (.cls cz))) h1 hcell hrest
      refine ⟨vm', hW', fun Q E d acts => ?_⟩
      rw [List.cons_append, h2 Q E d acts, if_neg (by decide)]
      exact hq Q E d acts
theorem jcaught {tb : Tables} {e : Env} {s target : State} {fr : JFrame} {c : Code} {below : List Frame} {a : Addr} (h : At s fr.method c below) {pc : Nat} {vm' : Vm}
    (hfind : ∀ (Q : Handler → Pre) (E : CtlPost) (d : Bool) (acts : List Action), wp (findHandler fr a) Q E e d acts ((s.setTop fr).pushFrame (.throwing a)) ↔ Q (.found pc) d acts (((s.setTop fr).pushFrame (.throwing a)).setVm vm'))
    (hrest : Steps tb e below ((s.setVm vm').setTop { fr with pc := pc, stack := [.ref a] }) target) : Steps tb e below ((s.setTop fr).pushFrame (.throwing a)) target := by
  obtain ⟨hgo, hw⟩ := h.throwing a
  refine Steps.head hgo hw ?_
  have key : ∀ (S : State) (r : List Frame), (∀ (Q : Handler → Pre) (E : CtlPost) (d : Bool) (acts : List Action), wp (findHandler fr a) Q E e d acts S ↔ Q (.found pc) d acts (S.setVm vm')) → (stepThrowing e S a (.java fr :: r)).1 = (S.setVm vm').setFrames (.java { fr with pc := pc, stack := [.ref a] } :: r) := by
    intro S r hS
    simp only [stepThrowing, searchFrame, vmDo]
    generalize hr : Sem.go _ e false [] S = res
    obtain ⟨as, rfl, ha⟩ := Sem.eq_ok_of hr (a := Handler.found pc) (s' := S.setVm vm') (acts' := []) (by simp [hS _ _ _ _])
    rfl
  rw [stepThread_throwing (frames_entered h.top _), key _ _ hfind]
  obtain ⟨g₀, hg⟩ := Option.isSome_iff_exists.mp h.top
  obtain ⟨r, hr⟩ := State.topJava?_eq_some.mp hg
  have hr' : (s.setVm vm').frames = .java g₀ :: r := hr
  rw [State.setTop_of_frames _ hr'] at hrest
  have e0 : ∀ F G : List Frame, ((s.setFrames F).setVm vm').setFrames G = (s.setVm vm').setFrames G := fun F G => by
    show ((s.setVm vm').setFrames F).setFrames G = _
    rw [State.setFrames_setFrames]
  rw [hr, List.tail_cons, State.pushFrame, State.setTop_of_frames _ hr, State.setFrames_setFrames, e0]
  exact hrest
theorem jNo_at {a b : Nat} {g : jG} {s : State} {c t : ClassId} (h : jNo a b) (hH : jHyp g s) (hc : s.vm.findClass (jex a) = some c) (ht : s.vm.findClass (jex b) = some t) : s.vm.assignable c t = false :=
  hH.2.2.2.2.1.2.2.2.2.2 _ h c t hc ht
section JK
variable {f : jF} {lv : List (Nat × Value)} {N k n : Nat} {x : Bool} {mu : Nat → jE} {pc : Nat} {st0 rest : List Value}
theorem j_callT {y' : jY} {d' : Nat × Nat} {kC' kS' na idx q ci kd : Nat} {as : List Value} {fs : List Value} {r : vw_C} {Q' : jQ} (hd : decode (jyc f.2.1) pc = .ok (.invokevirtual idx, 3)) (hm : jMth y' na) (hlk : Cond.methodLink (jyo f.2.1) idx (jyn y') ∈ jTab) (hin : Cond.instanceMethod (jyn y') ∈ jTab) (hse : Cond.selects (jyn y').cls (jyn y') (jyn y') ∈ jTab)
    (hq : q < N) (hmu : mu q = .inr (ci, fs)) (hcl : jcl[ci]? = some r) (hrn : r.1 = (jyn y').cls) (hR : d'.1 + 1 ≤ f.2.2.1.1 ∧ 8 + (jyL y' + 11) + d'.2 ≤ f.2.2.1.2) (hk : k + kC' ≤ f.2.2.2.1) (hn : n + kS' ≤ f.2.2.2.2.1) (hW : (rest.map fun v => v.category).sum ≤ 8) (hna : as.length = na)
    (hM : jMet f.1 y' d' kC' kS' (.ref (jb f.1 + q) :: as) N mu x Q') (hthr : ∀ r N' mu' x', Q' r N' mu' x' → r = .inr kd)
    (pre post : List (Nat × Nat × Nat × Nat)) (h : Nat × Nat × Nat × Nat) (hsp : jyh f.2.1 = pre ++ h :: post) (hcov : (decide (h.1 ≤ pc) && decide (pc < h.2.1)) = true) (hct : h.2.2.2 ≠ 0) (hcw : Cond.classLink (jyo f.2.1) h.2.2.2 (jex kd) ∈ jTab) (hcs : Cond.castable (jex kd) (jex kd) ∈ jTab)
    (hby : ∀ z ∈ pre, ∃ kz, z.2.2.2 ≠ 0 ∧ (decide (z.1 ≤ pc) && decide (pc < z.2.1)) = true ∧ Cond.classLink (jyo f.2.1) z.2.2.2 (jex kz) ∈ jTab ∧ jNo kd kz)
    (hst : st0 = as.reverse ++ .ref (jb f.1 + q) :: rest) (kk : ∀ a N' mu' x', Q' (.inr kd) N' mu' x' → jJ f lv (N', mu', x', k + kC', n + kS') h.2.2.1 [.ref a]) : jJ f lv (N, mu, x, k, n) pc st0 := by
  obtain ⟨hh, hcode, hini, hno, hdes⟩ := hm
  intro p e s m args below meth c C ls H locs hl hP hz hS T hT X
  have hts : ∀ w ∈ jTab, w.before args s = true := fun w hw => C.2.2.2.2.1.1 w hw args
  have hpl : e.platform.magicAccessors = ({} : Platform).magicAccessors := by rw [X.admits.platform]
  -- the call
  obtain ⟨cellB, hcB, hoB, hclB⟩ := va_recv C.2.2.2.2.1.2.1 hP hcl (jget_r hq hmu)
  rw [hrn] at hclB
  obtain ⟨mk, methM, hnamed, hmethM, hstM, habM⟩ := Cond.instanceMethod_spec (hts _ hin)
  obtain ⟨methM', cM, hmethM', hcM, -, hlM, -, -, -, hsigM⟩ := Cond.code_spec hnamed (hts _ hcode)
  cases hmethM.symm.trans hmethM'
  obtain ⟨c2, r2, m2, q1, q2, q3, q4, kP, hkP, hkPi⟩ := Cond.selects_spec (hts _ hse)
  cases hclB.symm.trans q1
  cases (State.methodFound?_of_named hnamed hno).symm.trans q2
  cases hnamed.symm.trans q3
  have hselP : selectMethod e.platform s.vm cellB.cls mk = .method mk := by rw [Launch.admits_selectMethod X.admits]; exact q4
  subst hst
  have hdg : decode c.code (F0 m pc ls (as.reverse ++ .ref (jb f.1 + q) :: rest)).pc = .ok (.invokevirtual idx, 3) := by rw [C.2.1]; exact hd
  obtain ⟨vm₁, X₁, hstep₁⟩ := X.invokevirtual C.1 C.2.2.2.1 (hts _ hlk) hnamed hmethM hstM hkP hkPi hno (a := jb f.1 + q) (cell := cellB) (by rw [hT]; exact hcB)
    (fun z hz => by rw [hz] at hoB; cases hoB) hselP hmethM habM hkP hkPi (g := F0 m pc ls (as.reverse ++ .ref (jb f.1 + q) :: rest)) rfl (argsL := as) (rest := rest) (hna.trans (jlen hdes _ hsigM)) rfl hdg
  -- the callee
  have hW₁ := X₁.warmed
  have hn₁ : (T.setVm vm₁).methodNamed? (jyn y') = some mk := X₁.named hnamed
  have hpc : jPc f.1 (.ref (jb f.1 + q) :: as) N mu x (Value.ref (jb f.1 + q) :: as).toArray (T.setVm vm₁) := jpre C hP hz hS (T.setVm vm₁) hT hW₁
  have hini₁ : (Cond.initialized (jyn y').cls).before #[] (T.setVm vm₁) = true := jTab_warm hini hW₁ (C.2.2.2.2.1.1 _ hini)
  obtain ⟨kY, hkY, -⟩ := className_of_methodNamed hn₁
  have hinitY : kY.init = .initialized := Cond.initialized_spec (findClass_of_methodNamed hn₁) hkY hini₁
  have hcode₁ : (Cond.code (jyn y') (jyc y') (jyL y') (jyr y')).before #[] (T.setVm vm₁) = true := jTab_warm hcode hW₁ (C.2.2.2.2.1.1 _ hcode)
  obtain ⟨methY, cY, hmY, hcY, -, hlY, -, -, -, -⟩ := Cond.code_spec hn₁ hcode₁
  have hsz : (F0 m pc ls rest).locals.size = c.maxLocals := by rw [C.2.2.1]; exact hl.1
  have hdg2 : decode c.code (F0 m pc ls rest).pc = .ok (.invokevirtual idx, 3) := hdg
  have happ : (headSpec [jcw y'] (jRm d' kC' kS')).appliesLoose (jyn y') e.platform ((T.setVm vm₁).calling (F0 m pc ls rest) mk (Value.ref (jb f.1 + q) :: as).toArray) = true := by
    refine Spec.appliesLoose_calling (g := F0 m pc ls rest) X₁.here hdg2 hn₁ hkY hinitY (X₁.room_calling (g := F0 m pc ls rest) (R' := jRm d' kC' kS') hsz hmY hcY hR.1 ?_ hk hn) (atoms_intro fun w hw => jcode C hh hcode w hw _ _ hW₁)
    rw [hlY]
    have h9 := lv_room (m := m) (pc := pc) (ls := ls) (rest := rest) hW
    have h8 := hR.2
    exact Nat.le_trans (Nat.add_le_add_right (Nat.add_le_add_right h9 _) _) h8
  have hA : At (T.setVm vm₁) (F0 m pc ls rest).method c below := X₁.here
  obtain ⟨mid, hmid⟩ := hA.above
  have hfr : ((T.setVm vm₁).setTop (F0 m pc ls rest)).frames = (.java (F0 m pc ls rest) :: mid) ++ below := by rw [State.frames_setTop' _ hA.top, hmid]; rfl
  obtain ⟨o, s₂, hsteps, -, hend, hE⟩ := Steps.callFree hM p X.admits X.cas X.clock (acts := []) hfr happ (jPc_blind _ _ _ _ hpc) trivial
  have hE : jEnd f.1 kC' kS' Q' ((T.setVm vm₁).calling (F0 m pc ls rest) mk (Value.ref (jb f.1 + q) :: as).toArray) o s₂ := hE
  rw [State.frames_setTop' _ hA.top] at hend
  obtain ⟨hW₂, ⟨L, hsame, hLf⟩, ⟨hz2, hk2⟩, r', N', mu', x', c1, c2', c3, c4⟩ := hE
  cases hthr _ _ _ _ c1
  obtain ⟨a, cellX, rfl, hcX, hoX, hfX⟩ := c2'
  obtain ⟨e2, g2, g3, g4, g5, g6⟩ := id hsame
  have hf₂ : s₂.frames = .throwing a :: .java (F0 m pc ls rest) :: (T.setVm vm₁).frames.tail := hend
  have e3 : s₂ = ({ ((T.setVm vm₁).calling (F0 m pc ls rest) mk (Value.ref (jb f.1 + q) :: as).toArray).setFrames s₂.frames with heap := s₂.heap, slotsUsed := s₂.slotsUsed } : State).setVm s₂.vm := by
    have e4 : s₂ = ({ s₂ with vm := ((T.setVm vm₁).calling (F0 m pc ls rest) mk (Value.ref (jb f.1 + q) :: as).toArray).vm } : State).setVm s₂.vm := rfl
    rw [e2] at e4
    exact e4
  have hW' : (T.setVm vm₁).WarmedH s₂.vm := hW₂
  obtain ⟨g₀, hg0⟩ := Option.isSome_iff_exists.mp hA.top
  obtain ⟨rr, hrr⟩ := State.topJava?_eq_some.mp hg0
  generalize hUd : (({ T.setVm vm₁ with heap := s₂.heap, slotsUsed := s₂.slotsUsed } : State).setVm s₂.vm) = U
  have hs₂ : s₂ = (U.setTop (F0 m pc ls rest)).pushFrame (.throwing a) := by
    have hr' : U.frames = .java g₀ :: rr := by rw [← hUd]; exact hrr
    refine e3.trans ?_
    rw [hf₂, State.calling_eq hA.top, State.setFrames_setFrames, State.pushFrame, State.frames_setTop _ hr', State.setTop_of_frames _ hr', State.setFrames_setFrames, hrr, ← hUd]
    rfl
  have hsame2 : (T.setVm vm₁).sameButNew ({ T.setVm vm₁ with heap := s₂.heap, slotsUsed := s₂.slotsUsed } : State) L kC' kS' := by
    refine ⟨?_, g2, g3, g4, g5, g6⟩
    obtain ⟨t, ht, -⟩ := State.frames_cons hrr
    show ({ T.setVm vm₁ with heap := s₂.heap, slotsUsed := s₂.slotsUsed } : State) = { (T.setVm vm₁).setFrames (T.setVm vm₁).frames with heap := s₂.heap, slotsUsed := s₂.slotsUsed }
    rw [State.setFrames_self ht]
  have XU : Stand p (jl f.1) e (jRm f.2.2.1 f.2.2.2.1 f.2.2.2.2.1) s m args below meth c U (locs ++ L) (k + kC') (n + kS') := by
    rw [← hUd]
    exact ⟨X.admits, X.cas, X.clock, X.frames, X.room, X.hears, X.method, X.code, (X₁.here.setHeapUsed s₂.heap s₂.slotsUsed).setVm hW'.alike, X₁.tail, State.WarmedH.trans X₁.warmed hW', X₁.limits, X₁.bytes, X₁.same.trans (hsame2.setVm s.vm)⟩
  have hUh : U.heap = s₂.heap := by rw [← hUd]; rfl
  -- the handler
  have hfX' : s.vm.findClass (jex kd) = some cellX.cls := by
    have h1 : (T.setVm vm₁).vm.findClass (jex kd) = some cellX.cls := hfX
    rw [hW₁.alike.findClass] at h1
    exact h1
  obtain ⟨cT, hcT, hlT⟩ := Cond.classLink_spec C.2.2.2.1 (hts _ hcw) e.platform hpl
  have hcc : cT = cellX.cls := Option.some.inj (hcT.symm.trans hfX')
  subst hcc
  obtain ⟨c3', t3', w1, w2, w3⟩ := Cond.castable_spec (hts _ hcs)
  cases hfX'.symm.trans w1
  cases hfX'.symm.trans w2
  obtain ⟨kE, hkE, -⟩ := Vm.findClass_spec hfX'
  have htab : c.exceptionTable.toList = tableOf pre ++ (⟨h.1, h.2.1, h.2.2.1, h.2.2.2⟩ : ExceptionTableEntry) :: tableOf post := by
    rw [C.2.2.2.2.2.2.2.2, hsp]
    simp [tableOf]
  obtain ⟨vm', hWv, hfind⟩ := jgo (e := e) (s := s) (fr := F0 m pc ls rest) (a := a) (cell := cellX) (VmData.ne_statics_of hoX) ⟨kE, hkE⟩ (⟨h.1, h.2.1, h.2.2.1, h.2.2.2⟩ : ExceptionTableEntry) (tableOf post) (c := cellX.cls) hcov hct hlT w3 (tableOf pre) ((U.setTop (F0 m pc ls rest)).pushFrame (.throwing a)) XU.warmed (by
      show U.heap[a]? = some cellX
      rw [hUh]; exact hcX) (by
      intro z hz
      obtain ⟨z0, hz0, rfl⟩ := List.mem_map.mp hz
      obtain ⟨kz, y1, y2, y3, y4⟩ := hby z0 hz0
      obtain ⟨cz, hcz, hlz⟩ := Cond.classLink_spec C.2.2.2.1 (hts _ y3) e.platform hpl
      exact Or.inr ⟨y2, y1, cz, hlz, jNo_at y4 C.2.2.2.2.1 hfX' hcz⟩)
  have XV : Stand p (jl f.1) e (jRm f.2.2.1 f.2.2.2.1 f.2.2.2.2.1) s m args below meth c (U.setVm vm') (locs ++ L) (k + kC') (n + kS') := XU.noted hWv
  have hS' : va_S (jA f.1) s.heap (U.setVm vm').heap (locs ++ L) := by
    show va_S (jA f.1) s.heap U.heap (locs ++ L)
    have hz2' : H.size ≤ s₂.heap.size := by
      have h1 : T.heap.size ≤ s₂.heap.size := hz2
      rw [hT] at h1
      exact h1
    have hk2' : ∀ q : Nat, q < H.size → ¬ jA f.1 q → s₂.heap[q]? = H[q]? := by
      intro q h1 h2
      have h3 : s₂.heap[q]? = T.heap[q]? := hk2 q (by show q < T.heap.size; rw [hT]; exact h1) h2
      rw [h3, hT]
    rw [hUh]
    refine ⟨Nat.le_trans hS.1 hz2', fun q h1 h2 => ?_, fun q hq => ?_⟩
    · rw [hk2' q (Nat.lt_of_lt_of_le h1 hS.1) h2]
      exact hS.2.1 q h1 h2
    · rcases List.mem_append.mp hq with h1 | h1
      · exact hS.2.2 q h1
      · exact hLf q h1
  obtain ⟨t2, a1, b1⟩ := kk a N' mu' x' c1 p e s m args below meth c C ls (U.setVm vm').heap (locs ++ L) hl (by show jP f.1 N' mu' U.heap; rw [hUh]; exact c3) (by show jSz f.1 x' N' U.heap; rw [hUh]; exact c4) hS' (U.setVm vm') rfl XV
  refine ⟨t2, hstep₁ t2 (fun acts => ?_), b1⟩
  rw [doInvoke_state]
  refine hsteps.trans ?_
  rw [hs₂]
  exact jcaught (pc := h.2.2.1) (vm' := vm') (by exact XU.here) (fun Q E d acts => by rw [W.findHandler_eq (meth := meth) (code := c) XU.method' XU.code, htab]; exact hfind Q E d acts) a1
end JK
end
section
/-! behind the constructors: each cell's kind, its numbers in two flat functions -/

def jfv (b : Nat) (i : Nat → Int32) (l : Nat → Int64) : Nat → List Nat → List Value
  | _, [] => []
  | j, 0 :: r => .int (i j) :: jfv b i l (j + 1) r
  | j, 1 :: r => .long (l j) :: jfv b i l (j + 1) r
  | j, (a + 2) :: r => .ref (b + a) :: jfv b i l (j + 1) r
def jcell (b : Nat) (I : Nat → Nat → Int32) (L : Nat → Nat → Int64) (q : Nat) (h : jH) : jE := match h with
  | .inl (t, n) => .inl (t, n, .inl (I q))
  | .inr (.inl (t, n)) => .inl (t, n, .inr (.inl (L q)))
  | .inr (.inr (.inl (t, rs))) => .inl (t, rs.length, .inr (.inr (.inr (.inr (fun j => (rs[j]?).map (fun r => b + r))))))
  | .inr (.inr (.inr (ci, fl))) => .inr (ci, jfv b (I q) (L q) 0 fl)
def jmem (b : Nat) (I : Nat → Nat → Int32) (L : Nat → Nat → Int64) (q : Nat) : jE := jcell b I L q (jshp q)
def jup (I : Nat → Nat → Int32) (q j : Nat) (v : Int32) : Nat → Nat → Int32 := fun a => if a = q then upd (I q) j v else I a
def jupL (L : Nat → Nat → Int64) (q j : Nat) (v : Int64) : Nat → Nat → Int64 := fun a => if a = q then vp_updL (L q) j v else L a
theorem jup_q (I : Nat → Nat → Int32) (q j : Nat) (v : Int32) : jup I q j v q = upd (I q) j v := if_pos rfl
theorem jup_n (I : Nat → Nat → Int32) {q a : Nat} (j : Nat) (v : Int32) (h : a ≠ q) : jup I q j v a = I a := if_neg h
theorem jupL_q (L : Nat → Nat → Int64) (q j : Nat) (v : Int64) : jupL L q j v q = vp_updL (L q) j v := if_pos rfl
theorem jupL_n (L : Nat → Nat → Int64) {q a : Nat} (j : Nat) (v : Int64) (h : a ≠ q) : jupL L q j v a = L a := if_neg h
theorem jcell_eq {b : Nat} {I I' : Nat → Nat → Int32} {L L' : Nat → Nat → Int64} {q : Nat} (h : jH) (hI : I q = I' q) (hL : L q = L' q) : jcell b I L q h = jcell b I' L' q h := by
  unfold jcell
  rw [hI, hL]
theorem jfv_get (b : Nat) (i : Nat → Int32) (l : Nat → Int64) : ∀ (fl : List Nat) (j0 j : Nat), (jfv b i l j0 fl)[j]? = (fl[j]?).map (fun k => match k with
    | 0 => Value.int (i (j0 + j))
    | 1 => Value.long (l (j0 + j))
    | a + 2 => Value.ref (b + a))
  | [], _, _ => rfl
  | 0 :: r, j0, 0 => rfl
  | 1 :: r, j0, 0 => rfl
  | (a + 2) :: r, j0, 0 => rfl
  | 0 :: r, j0, j + 1 => by
    show (jfv b i l (j0 + 1) r)[j]? = _
    rw [jfv_get b i l r (j0 + 1) j, show j0 + 1 + j = j0 + (j + 1) by omega]
    rfl
  | 1 :: r, j0, j + 1 => by
    show (jfv b i l (j0 + 1) r)[j]? = _
    rw [jfv_get b i l r (j0 + 1) j, show j0 + 1 + j = j0 + (j + 1) by omega]
    rfl
  | (a + 2) :: r, j0, j + 1 => by
    show (jfv b i l (j0 + 1) r)[j]? = _
    rw [jfv_get b i l r (j0 + 1) j, show j0 + 1 + j = j0 + (j + 1) by omega]
    rfl
theorem jfv_len (b : Nat) (i : Nat → Int32) (l : Nat → Int64) : ∀ (fl : List Nat) (j0 : Nat), (jfv b i l j0 fl).length = fl.length
  | [], _ => rfl
  | 0 :: r, j0 => by show (jfv b i l (j0 + 1) r).length + 1 = _; rw [jfv_len]; rfl
  | 1 :: r, j0 => by show (jfv b i l (j0 + 1) r).length + 1 = _; rw [jfv_len]; rfl
  | (a + 2) :: r, j0 => by show (jfv b i l (j0 + 1) r).length + 1 = _; rw [jfv_len]; rfl
theorem jfv_setI {b : Nat} {i : Nat → Int32} {l : Nat → Int64} {fl : List Nat} {j : Nat} {v : Int32} (h : fl[j]? = some 0) : (jfv b i l 0 fl).set j (.int v) = jfv b (upd i j v) l 0 fl := by
  apply List.ext_getElem?
  intro a
  have hl : j < (jfv b i l 0 fl).length := by rw [jfv_len]; exact (List.getElem?_eq_some_iff.mp h).1
  by_cases ha : a = j
  · subst ha
    rw [List.getElem?_set_self hl, jfv_get, h]
    simp [upd]
  · rw [List.getElem?_set_ne (Ne.symm ha), jfv_get, jfv_get]
    simp [upd, ha]
theorem jfv_setL {b : Nat} {i : Nat → Int32} {l : Nat → Int64} {fl : List Nat} {j : Nat} {v : Int64} (h : fl[j]? = some 1) : (jfv b i l 0 fl).set j (.long v) = jfv b i (vp_updL l j v) 0 fl := by
  apply List.ext_getElem?
  intro a
  have hl : j < (jfv b i l 0 fl).length := by rw [jfv_len]; exact (List.getElem?_eq_some_iff.mp h).1
  by_cases ha : a = j
  · subst ha
    rw [List.getElem?_set_self hl, jfv_get, h]
    simp [vp_updL]
  · rw [List.getElem?_set_ne (Ne.symm ha), jfv_get, jfv_get]
    simp [vp_updL, ha]
theorem jmem_I {b : Nat} {I : Nat → Nat → Int32} {L : Nat → Nat → Int64} {q t n : Nat} (h : jshp q = .inl (t, n)) : jmem b I L q = .inl (t, n, .inl (I q)) := by
  unfold jmem
  rw [h]
  rfl
theorem jmem_L {b : Nat} {I : Nat → Nat → Int32} {L : Nat → Nat → Int64} {q t n : Nat} (h : jshp q = .inr (.inl (t, n))) : jmem b I L q = .inl (t, n, .inr (.inl (L q))) := by
  unfold jmem
  rw [h]
  rfl
theorem jmem_R {b : Nat} {I : Nat → Nat → Int32} {L : Nat → Nat → Int64} {q t : Nat} {rs : List Nat} (h : jshp q = .inr (.inr (.inl (t, rs)))) : jmem b I L q = .inl (t, rs.length, .inr (.inr (.inr (.inr (fun j => (rs[j]?).map (fun r => b + r)))))) := by
  unfold jmem
  rw [h]
  rfl
theorem jmem_O {b : Nat} {I : Nat → Nat → Int32} {L : Nat → Nat → Int64} {q ci : Nat} {fl : List Nat} (h : jshp q = .inr (.inr (.inr (ci, fl)))) : jmem b I L q = .inr (ci, jfv b (I q) (L q) 0 fl) := by
  unfold jmem
  rw [h]
  rfl
theorem jmem_up {b : Nat} {I I' : Nat → Nat → Int32} {L L' : Nat → Nat → Int64} {q : Nat} {e : jE} (he : jmem b I' L' q = e) (hI : ∀ a, a ≠ q → I' a = I a) (hL : ∀ a, a ≠ q → L' a = L a) : va_up (jmem b I L) q e = jmem b I' L' := by
  funext a
  unfold va_up
  split
  next h => rw [h]; exact he.symm
  next h => exact jcell_eq _ (hI a h).symm (hL a h).symm
theorem jmem_upI {b : Nat} {I : Nat → Nat → Int32} {L : Nat → Nat → Int64} {q t n j : Nat} {v : Int32} (h : jshp q = .inl (t, n)) : va_up (jmem b I L) q (.inl (t, n, .inl (upd (I q) j v))) = jmem b (jup I q j v) L :=
  jmem_up (by rw [jmem_I h, jup_q]) (fun a ha => jup_n I j v ha) (fun _ _ => rfl)
theorem jmem_upL {b : Nat} {I : Nat → Nat → Int32} {L : Nat → Nat → Int64} {q t n j : Nat} {v : Int64} (h : jshp q = .inr (.inl (t, n))) : va_up (jmem b I L) q (.inl (t, n, .inr (.inl (vp_updL (L q) j v)))) = jmem b I (jupL L q j v) :=
  jmem_up (by rw [jmem_L h, jupL_q]) (fun _ _ => rfl) (fun a ha => jupL_n L j v ha)
theorem jmem_upFI {b : Nat} {I : Nat → Nat → Int32} {L : Nat → Nat → Int64} {q ci j : Nat} {fl : List Nat} {v : Int32} (h : jshp q = .inr (.inr (.inr (ci, fl)))) (hj : fl[j]? = some 0) : va_up (jmem b I L) q (.inr (ci, (jfv b (I q) (L q) 0 fl).set j (.int v))) = jmem b (jup I q j v) L :=
  jmem_up (by rw [jmem_O h, jup_q, jfv_setI hj]) (fun a ha => jup_n I j v ha) (fun _ _ => rfl)
theorem jmem_upFL {b : Nat} {I : Nat → Nat → Int32} {L : Nat → Nat → Int64} {q ci j : Nat} {fl : List Nat} {v : Int64} (h : jshp q = .inr (.inr (.inr (ci, fl)))) (hj : fl[j]? = some 1) : va_up (jmem b I L) q (.inr (ci, (jfv b (I q) (L q) 0 fl).set j (.long v))) = jmem b I (jupL L q j v) :=
  jmem_up (by rw [jmem_O h, jupL_q, jfv_setL hj]) (fun _ _ => rfl) (fun a ha => jupL_n L j v ha)
end
section
/-! the rows over flat numbers -/
def jw (f : jF) (I : Nat → Nat → Int32) (L : Nat → Nat → Int64) (k n : Nat) : jS := (104, jmem (jb f.1) I L, false, k, n)
/-- a contract over flat numbers: the method returns, with an answer and numbers of which φ holds -/
def jCQ (g : jG) (φ : Option Value → (Nat → Nat → Int32) → (Nat → Nat → Int64) → Prop) : jQ := fun r N mu x => ∃ v I L, φ v I L ∧ r = .inl v ∧ N = 104 ∧ mu = jmem (jb g) I L ∧ x = false
def jC (g : jG) (y : jY) (d : Nat × Nat) (as : List Value) (I : Nat → Nat → Int32) (L : Nat → Nat → Int64) (φ : Option Value → (Nat → Nat → Int32) → (Nat → Nat → Int64) → Prop) : Prop :=
  jMet g y d 0 0 as 104 (jmem (jb g) I L) false (jCQ g φ)
theorem jCQ_ret {g : jG} {φ : Option Value → (Nat → Nat → Int32) → (Nat → Nat → Int64) → Prop} : ∀ r N mu x, jCQ g φ r N mu x → ∃ v, r = .inl v := fun _ _ _ _ ⟨v, _, _, _, h, _⟩ => ⟨v, h⟩
section JFR
variable {f : jF} {lv : List (Nat × Value)} {k n : Nat} {I : Nat → Nat → Int32} {L : Nat → Nat → Int64} {pc : Nat} {st : List Value}
theorem m_getI {idx q ci kf : Nat} {fl : List Nat} (hd : decode (jyc f.2.1) pc = .ok (.getfield idx, 3)) (hF : jFld (jyo f.2.1) idx ci kf) (hs : jshp q = .inr (.inr (.inr (ci, fl)))) (hq : q < 104) (hk : fl[kf]? = some 0)
    (kk : jJ f lv (jw f I L k n) (pc + 3) (.int (I q kf) :: st)) : jJ f lv (jw f I L k n) pc (.ref (jb f.1 + q) :: st) :=
  j_getf hd hF hq (jmem_O hs) (by rw [jfv_get, hk]; simp) kk
theorem m_getL {idx q ci kf : Nat} {fl : List Nat} (hd : decode (jyc f.2.1) pc = .ok (.getfield idx, 3)) (hF : jFld (jyo f.2.1) idx ci kf) (hs : jshp q = .inr (.inr (.inr (ci, fl)))) (hq : q < 104) (hk : fl[kf]? = some 1)
    (kk : jJ f lv (jw f I L k n) (pc + 3) (.long (L q kf) :: st)) : jJ f lv (jw f I L k n) pc (.ref (jb f.1 + q) :: st) :=
  j_getf hd hF hq (jmem_O hs) (by rw [jfv_get, hk]; simp) kk
theorem m_getR {idx q ci kf a : Nat} {fl : List Nat} (hd : decode (jyc f.2.1) pc = .ok (.getfield idx, 3)) (hF : jFld (jyo f.2.1) idx ci kf) (hs : jshp q = .inr (.inr (.inr (ci, fl)))) (hq : q < 104) (hk : fl[kf]? = some (a + 2))
    (kk : jJ f lv (jw f I L k n) (pc + 3) (.ref (jb f.1 + a) :: st)) : jJ f lv (jw f I L k n) pc (.ref (jb f.1 + q) :: st) :=
  j_getf hd hF hq (jmem_O hs) (by rw [jfv_get, hk]; simp) kk
theorem m_putI {idx q ci kf : Nat} {fl : List Nat} {v : Int32} (hd : decode (jyc f.2.1) pc = .ok (.putfield idx, 3)) (hF : jFld (jyo f.2.1) idx ci kf) (hs : jshp q = .inr (.inr (.inr (ci, fl)))) (hq : q < 104) (hk : fl[kf]? = some 0) (hfin : jfin ci kf = false) (hn : narrow (jcty ci kf) (.int v) = .int v) (hfit : fits (jcty ci kf) (.int v) = true)
    (kk : jJ f lv (jw f (jup I q kf v) L k n) (pc + 3) st) : jJ f lv (jw f I L k n) pc (.int v :: .ref (jb f.1 + q) :: st) :=
  j_putf hd hF hq (jmem_O hs) (by rw [jfv_len]; exact (List.getElem?_eq_some_iff.mp hk).1) hfin hn hfit (by rw [jmem_upFI hs hk]; exact kk)
theorem m_putL {idx q ci kf : Nat} {fl : List Nat} {v : Int64} (hd : decode (jyc f.2.1) pc = .ok (.putfield idx, 3)) (hF : jFld (jyo f.2.1) idx ci kf) (hs : jshp q = .inr (.inr (.inr (ci, fl)))) (hq : q < 104) (hk : fl[kf]? = some 1) (hfin : jfin ci kf = false) (hn : narrow (jcty ci kf) (.long v) = .long v) (hfit : fits (jcty ci kf) (.long v) = true)
    (kk : jJ f lv (jw f I (jupL L q kf v) k n) (pc + 3) st) : jJ f lv (jw f I L k n) pc (.long v :: .ref (jb f.1 + q) :: st) :=
  j_putf hd hF hq (jmem_O hs) (by rw [jfv_len]; exact (List.getElem?_eq_some_iff.mp hk).1) hfin hn hfit (by rw [jmem_upFL hs hk]; exact kk)
theorem m_ild {q t na i : Nat} {z : Int32} (hd : decode (jyc f.2.1) pc = .ok (.iaload, 1)) (hs : jshp q = .inl (t, na)) (ht : jtyl[t]? = some .int) (hq : q < 104) (hz : z = nI i) (hi : i < na) (hna : na < 2 ^ 31)
    (kk : jJ f lv (jw f I L k n) (pc + 1) (.int (I q i) :: st)) : jJ f lv (jw f I L k n) pc (.int z :: .ref (jb f.1 + q) :: st) := by
  subst hz
  refine j_iald hd hq (jmem_I hs) ht (vp_in_nI hi hna) ?_
  rw [nI_clamp (Nat.lt_trans hi hna)]
  exact kk
theorem m_zld {q t na i : Nat} {z : Int32} (hd : decode (jyc f.2.1) pc = .ok (.baload, 1)) (hs : jshp q = .inl (t, na)) (ht : jtyl[t]? = some .boolean) (hq : q < 104) (hz : z = nI i) (hi : i < na) (hna : na < 2 ^ 31)
    (kk : jJ f lv (jw f I L k n) (pc + 1) (.int (I q i) :: st)) : jJ f lv (jw f I L k n) pc (.int z :: .ref (jb f.1 + q) :: st) := by
  subst hz
  refine j_zald hd hq (jmem_I hs) ht (vp_in_nI hi hna) ?_
  rw [nI_clamp (Nat.lt_trans hi hna)]
  exact kk
theorem m_lld {q t na i : Nat} {z : Int32} (hd : decode (jyc f.2.1) pc = .ok (.laload, 1)) (hs : jshp q = .inr (.inl (t, na))) (ht : jtyl[t]? = some .long) (hq : q < 104) (hz : z = nI i) (hi : i < na) (hna : na < 2 ^ 31)
    (kk : jJ f lv (jw f I L k n) (pc + 1) (.long (L q i) :: st)) : jJ f lv (jw f I L k n) pc (.int z :: .ref (jb f.1 + q) :: st) := by
  subst hz
  refine j_lald hd hq (jmem_L hs) ht (vp_in_nI hi hna) ?_
  rw [nI_clamp (Nat.lt_trans hi hna)]
  exact kk
theorem m_ald {q t i a : Nat} {rs : List Nat} {Cn : String} {z : Int32} (hd : decode (jyc f.2.1) pc = .ok (.aaload, 1)) (hs : jshp q = .inr (.inr (.inl (t, rs)))) (ht : jtyl[t]? = some (.object Cn)) (hq : q < 104) (hz : z = nI i) (hr : rs[i]? = some a) (hna : rs.length < 2 ^ 31)
    (kk : jJ f lv (jw f I L k n) (pc + 1) (.ref (jb f.1 + a) :: st)) : jJ f lv (jw f I L k n) pc (.int z :: .ref (jb f.1 + q) :: st) := by
  subst hz
  have hi : i < rs.length := (List.getElem?_eq_some_iff.mp hr).1
  refine j_aald hd hq (jmem_R hs) ht (vp_in_nI hi hna) ?_
  rw [nI_clamp (Nat.lt_trans hi hna), hr]
  exact kk
theorem m_ist {q t na i : Nat} {z v : Int32} (hd : decode (jyc f.2.1) pc = .ok (.iastore, 1)) (hs : jshp q = .inl (t, na)) (ht : jtyl[t]? = some .int) (hq : q < 104) (hz : z = nI i) (hi : i < na) (hna : na < 2 ^ 31)
    (kk : jJ f lv (jw f (jup I q i v) L k n) (pc + 1) st) : jJ f lv (jw f I L k n) pc (.int v :: .int z :: .ref (jb f.1 + q) :: st) := by
  subst hz
  refine j_iast hd hq (jmem_I hs) ht (vp_in_nI hi hna) ?_
  rw [nI_clamp (Nat.lt_trans hi hna), jmem_upI hs]
  exact kk
theorem m_zst {q t na i : Nat} {z v : Int32} (hd : decode (jyc f.2.1) pc = .ok (.bastore, 1)) (hs : jshp q = .inl (t, na)) (ht : jtyl[t]? = some .boolean) (hq : q < 104) (hz : z = nI i) (hi : i < na) (hna : na < 2 ^ 31) (hv : narrow .boolean (.int v) = .int v)
    (kk : jJ f lv (jw f (jup I q i v) L k n) (pc + 1) st) : jJ f lv (jw f I L k n) pc (.int v :: .int z :: .ref (jb f.1 + q) :: st) := by
  subst hz
  refine j_zast hd hq (jmem_I hs) ht (vp_in_nI hi hna) hv ?_
  rw [nI_clamp (Nat.lt_trans hi hna), jmem_upI hs]
  exact kk
theorem m_lst {q t na i : Nat} {z : Int32} {v : Int64} (hd : decode (jyc f.2.1) pc = .ok (.lastore, 1)) (hs : jshp q = .inr (.inl (t, na))) (ht : jtyl[t]? = some .long) (hq : q < 104) (hz : z = nI i) (hi : i < na) (hna : na < 2 ^ 31)
    (kk : jJ f lv (jw f I (jupL L q i v) k n) (pc + 1) st) : jJ f lv (jw f I L k n) pc (.long v :: .int z :: .ref (jb f.1 + q) :: st) := by
  subst hz
  refine j_last hd hq (jmem_L hs) ht (vp_in_nI hi hna) ?_
  rw [nI_clamp (Nat.lt_trans hi hna), jmem_upL hs]
  exact kk
theorem m_iret {v : Int32} {φ : Option Value → (Nat → Nat → Int32) → (Nat → Nat → Int64) → Prop} (hd : decode (jyc f.2.1) pc = .ok (.ireturn, 1)) (hr : jyr f.2.1 = some .int) (hk : k ≤ f.2.2.2.1) (hn : n ≤ f.2.2.2.2.1) (hf : f.2.2.2.2.2 = jCQ f.1 φ) (hφ : φ (some (.int v)) I L) : jJ f lv (jw f I L k n) pc [.int v] :=
  j_iret hd hr hk hn (by rw [hf]; exact ⟨_, _, _, hφ, rfl, rfl, rfl, rfl⟩)
theorem m_zret {v : Int32} {φ : Option Value → (Nat → Nat → Int32) → (Nat → Nat → Int64) → Prop} (hd : decode (jyc f.2.1) pc = .ok (.ireturn, 1)) (hr : jyr f.2.1 = some .boolean) (hv : narrow .boolean (.int v) = .int v) (hk : k ≤ f.2.2.2.1) (hn : n ≤ f.2.2.2.2.1) (hf : f.2.2.2.2.2 = jCQ f.1 φ) (hφ : φ (some (.int v)) I L) : jJ f lv (jw f I L k n) pc [.int v] :=
  j_zret hd hr hv hk hn (by rw [hf]; exact ⟨_, _, _, hφ, rfl, rfl, rfl, rfl⟩)
theorem m_lret {v : Int64} {φ : Option Value → (Nat → Nat → Int32) → (Nat → Nat → Int64) → Prop} (hd : decode (jyc f.2.1) pc = .ok (.lreturn, 1)) (hr : jyr f.2.1 = some .long) (hk : k ≤ f.2.2.2.1) (hn : n ≤ f.2.2.2.2.1) (hf : f.2.2.2.2.2 = jCQ f.1 φ) (hφ : φ (some (.long v)) I L) : jJ f lv (jw f I L k n) pc [.long v] :=
  j_lret hd hr hk hn (by rw [hf]; exact ⟨_, _, _, hφ, rfl, rfl, rfl, rfl⟩)
theorem m_vret {φ : Option Value → (Nat → Nat → Int32) → (Nat → Nat → Int64) → Prop} (hd : decode (jyc f.2.1) pc = .ok (.return_, 1)) (hr : jyr f.2.1 = none) (hk : k ≤ f.2.2.2.1) (hn : n ≤ f.2.2.2.2.1) (hf : f.2.2.2.2.2 = jCQ f.1 φ) (hφ : φ none I L) : jJ f lv (jw f I L k n) pc [] :=
  j_vret hd hr hk hn (by rw [hf]; exact ⟨_, _, _, hφ, rfl, rfl, rfl, rfl⟩)
theorem m_callV {y' : jY} {d' : Nat × Nat} {na idx q ci : Nat} {as rest st0 : List Value} {fl : List Nat} {r : vw_C} {φ : Option Value → (Nat → Nat → Int32) → (Nat → Nat → Int64) → Prop} (hd : decode (jyc f.2.1) pc = .ok (.invokevirtual idx, 3)) (hm : jMth y' na) (hlk : jLnk (jyo f.2.1) idx y') (hin : Cond.instanceMethod (jyn y') ∈ jTab) (hse : Cond.selects (jyn y').cls (jyn y') (jyn y') ∈ jTab)
    (hs : jshp q = .inr (.inr (.inr (ci, fl)))) (hq : q < 104) (hcl : jcl[ci]? = some r) (hrn : r.1 = (jyn y').cls) (hR : d'.1 + 1 ≤ f.2.2.1.1 ∧ 8 + (jyL y' + 11) + d'.2 ≤ f.2.2.1.2) (hW : (rest.map fun v => v.category).sum ≤ 8) (hna : as.length = na) (hk : k ≤ f.2.2.2.1) (hn : n ≤ f.2.2.2.2.1)
    (hC : jC f.1 y' d' (.ref (jb f.1 + q) :: as) I L φ) (hst : st0 = as.reverse ++ .ref (jb f.1 + q) :: rest) (kk : ∀ v I' L', φ v I' L' → jJ f lv (jw f I' L' k n) (pc + 3) (v.toList ++ rest)) : jJ f lv (jw f I L k n) pc st0 := by
  refine j_callV hd hm hlk hin hse hq (jmem_O hs) hcl hrn hR hk hn hW hna hC jCQ_ret hst ?_
  rintro v N' mu' x' ⟨v', I', L', h1, h2, rfl, rfl, rfl⟩
  cases h2
  exact kk v I' L' h1
theorem m_callS {y' : jY} {d' : Nat × Nat} {na idx : Nat} {as rest st0 : List Value} {φ : Option Value → (Nat → Nat → Int32) → (Nat → Nat → Int64) → Prop} (hd : decode (jyc f.2.1) pc = .ok (.invokestatic idx, 3)) (hm : jMth y' na) (hlk : jLnk (jyo f.2.1) idx y') (hsta : Cond.static (jyn y') ∈ jTab)
    (hR : d'.1 + 1 ≤ f.2.2.1.1 ∧ 8 + (jyL y' + 11) + d'.2 ≤ f.2.2.1.2) (hW : (rest.map fun v => v.category).sum ≤ 8) (hna : as.length = na) (hk : k ≤ f.2.2.2.1) (hn : n ≤ f.2.2.2.2.1)
    (hC : jC f.1 y' d' as I L φ) (hst : st0 = as.reverse ++ rest) (kk : ∀ v I' L', φ v I' L' → jJ f lv (jw f I' L' k n) (pc + 3) (v.toList ++ rest)) : jJ f lv (jw f I L k n) pc st0 := by
  refine j_callS hd hm hlk hsta hR hk hn hW hna hC jCQ_ret hst ?_
  rintro v N' mu' x' ⟨v', I', L', h1, h2, rfl, rfl, rfl⟩
  cases h2
  exact kk v I' L' h1
end JFR
end
section
/-! the script, the table of inverses, System.arraycopy -/
section JX
variable {f : jF} {lv : List (Nat × Value)} {N k n : Nat} {x : Bool} {mu : Nat → jE} {w : jS} {pc : Nat} {st : List Value}
theorem j_sld {i : Int32} (hd : decode (jyc f.2.1) pc = .ok (.iaload, 1)) (hi : vp_in i (jaN f.1)) (kk : jJ f lv w (pc + 1) (.int (jxs f.1 i.toNatClampNeg) :: st)) : jJ f lv w pc (.int i :: .ref (jaS f.1) :: st) := by
  intro p e s m args below meth c C ls H locs hl hP hz hS
  obtain ⟨h1, h2⟩ := C.2.2.2.2.1.2.2.2.1
  exact va_sld C.1 C.2.1 h2 (Nat.lt_of_lt_of_le h1 C.2.2.2.2.1.2.2.1) (fun h => Nat.not_lt.mpr h h1) hS hi hd (kk p e s m args below meth c C ls H locs hl hP hz hS)
theorem j_slen (hd : decode (jyc f.2.1) pc = .ok (.arraylength, 1)) (kk : jJ f lv w (pc + 1) (.int (Int32.ofNat (jaN f.1)) :: st)) : jJ f lv w pc (.ref (jaS f.1) :: st) := by
  intro p e s m args below meth c C ls H locs hl hP hz hS
  obtain ⟨h1, h2⟩ := C.2.2.2.2.1.2.2.2.1
  exact va_slen C.1 C.2.1 h2 (Nat.lt_of_lt_of_le h1 C.2.2.2.2.1.2.2.1) (fun h => Nat.not_lt.mpr h h1) hS hd (kk p e s m args below meth c C ls H locs hl hP hz hS)
theorem j_gets {idx : Nat} (hd : decode (jyc f.2.1) pc = .ok (.getstatic idx, 3)) (hw : Cond.fieldLink (jyo f.2.1) idx "AuditDesk$Field" "INVERSES" "[I" ∈ jTab) (kk : jJ f lv w (pc + 3) (.ref (jaI f.1) :: st)) : jJ f lv w pc st := by
  intro p e s m args below meth c C ls H locs hl hP hz hS
  exact va_gets C.1 C.2.1 C.2.2.2.2.1.2.2.2.2.1.1 hS C.2.2.2.1 (C.2.2.2.2.1.1 _ hw args) (fun _ h => h) hd (kk p e s m args below meth c C ls H locs hl hP hz hS)
theorem j_inv {i : Nat} {z : Int32} (hd : decode (jyc f.2.1) pc = .ok (.iaload, 1)) (hz' : z = nI i) (hi : i < 6) (kk : jJ f lv w (pc + 1) (.int (jinv i) :: st)) : jJ f lv w pc (.int z :: .ref (jaI f.1) :: st) := by
  intro p e s m args below meth c C ls H locs hl hP hz hS
  obtain ⟨cell, h1, h2, h3, h4, -, h6, h7⟩ := C.2.2.2.2.1.2.2.2.2.1.2.1
  subst hz'
  have hcl : (nI i).toNatClampNeg = i := nI_clamp (by omega)
  refine W.iald (v := .int (jinv i)) C.1 C.2.1 (by rw [hS.2.1 _ (Array.getElem?_eq_some_iff.mp h1).1 h7]; exact h1) h2 h3 ?_ (by rw [hcl]; exact h6 i hi) rfl rfl hd (kk p e s m args below meth c C ls H locs hl hP hz hS)
  rw [hcl]
  rintro (h | h)
  · exact nI_pos (by omega) h
  · omega
theorem j_copy {idx q0 q1 t n0 n1 sp dp nn : Nat} {a0 a1 : Nat → Int32} {zs zd zn : Int32} (hd : decode (jyc f.2.1) pc = .ok (.invokestatic idx, 3)) (hl1 : Cond.methodLink (jyo f.2.1) idx arraycopyName ∈ jTab) (hl2 : Cond.native arraycopyName ∈ jTab) (hl3 : Cond.static arraycopyName ∈ jTab) (hl4 : Cond.initialized "java/lang/System" ∈ jTab)
    (hq0 : q0 < N) (hm0 : mu q0 = .inl (t, n0, .inl a0)) (hq1 : q1 < N) (hm1 : mu q1 = .inl (t, n1, .inl a1)) (ht : jtyl[t]? = some .int) (hs : zs = nI sp) (hdp : zd = nI dp) (hnn : zn = nI nn) (h0 : n0 < 2 ^ 31) (h1 : n1 < 2 ^ 31) (h4 : sp + nn ≤ n0) (h5 : dp + nn ≤ n1)
    (hR : 1 ≤ f.2.2.1.1 ∧ 26 ≤ f.2.2.1.2) (hW : (st.map fun v => v.category).sum ≤ 8)
    (kk : jJ f lv (N, va_up mu q1 (.inl (t, n1, .inl (va_cpy a0 a1 sp dp nn))), false, k, n) (pc + 3) st) : jJ f lv (N, mu, x, k, n) pc (.int zn :: .int zd :: .ref (jb f.1 + q1) :: .int zs :: .ref (jb f.1 + q0) :: st) := by
  intro p e s m args below meth c C ls H locs hl hP hz hS
  subst hs; subst hdp; subst hnn
  have hts : ∀ w ∈ jTab, w.before args s = true := fun w h => C.2.2.2.2.1.1 w h args
  have c1 : (nI sp).toNatClampNeg = sp := nI_clamp (by omega)
  have c2 : (nI dp).toNatClampNeg = dp := nI_clamp (by omega)
  have c3 : (nI nn).toNatClampNeg = nn := nI_clamp (by omega)
  refine va_copyi C.1 C.2.1 (by rw [C.2.2.1]; exact hl.1.symm) C.2.2.2.1 (hts _ hl1) (hts _ hl2) (hts _ hl3) (hts _ hl4) C.2.2.2.2.1.2.1 hP (jpool_D f.1 N mu) hS q0 q1 t t (jget_l hq0 hm0) (jget_l hq1 hm1) (jtys_get ht) (jtys_get ht) rfl (nI_pos (by omega)) (nI_pos (by omega)) (nI_pos (by omega)) (by rw [c1, c3]; exact h4) (by rw [c2, c3]; exact h5) (fun _ _ => rfl) hR.1 ?_ hd ?_
  · have h9 : nativeFrameWords "java/lang/System" "arraycopy" 5 = 7 := by decide +kernel
    rw [h9]
    have h8 := hR.2
    show _ + (7 + 11) ≤ f.2.2.1.2
    omega
  · intro H1 locs1 hP1 hD1 hS1
    rw [c1, c2, c3] at hP1
    exact kk p e s m args below meth c C ls H1 locs1 hl (jset_l hq1 hP1) (fun h => by cases h) hS1
end JX
end
section
/-! the methods -/
def Y_D_init : jY := ("AuditDesk", ⟨"AuditDesk", "<init>", "()V"⟩, prog_1_method_1_code, 2, none, [])
def Y_D_key : jY := ("AuditDesk", ⟨"AuditDesk", "key", "(JJ)V"⟩, prog_1_method_2_code, 5, none, [])
def Y_D_word : jY := ("AuditDesk", ⟨"AuditDesk", "word", "(II)Z"⟩, prog_1_method_3_code, 3, some .boolean, [])
def Y_D_file : jY := ("AuditDesk", ⟨"AuditDesk", "file", "(I)I"⟩, prog_1_method_4_code, 3, some .int, [])
def Y_D_place : jY := ("AuditDesk", ⟨"AuditDesk", "place", "(II)Z"⟩, prog_1_method_5_code, 4, some .boolean, [])
def Y_D_lose : jY := ("AuditDesk", ⟨"AuditDesk", "lose", "(III)Z"⟩, prog_1_method_6_code, 5, some .boolean, [])
def Y_D_change : jY := ("AuditDesk", ⟨"AuditDesk", "change", "(IIIII)I"⟩, prog_1_method_7_code, 8, some .int, [])
def Y_D_challenge : jY := ("AuditDesk", ⟨"AuditDesk", "challenge", "(IIII)I"⟩, prog_1_method_8_code, 5, some .int, [])
def Y_D_asked : jY := ("AuditDesk", ⟨"AuditDesk", "asked", "(II)I"⟩, prog_1_method_9_code, 3, some .int, [])
def Y_D_tamper : jY := ("AuditDesk", ⟨"AuditDesk", "tamper", "(II)Z"⟩, prog_1_method_10_code, 3, some .boolean, [])
def Y_D_judge : jY := ("AuditDesk", ⟨"AuditDesk", "judge", "()Z"⟩, prog_1_method_11_code, 2, some .boolean, [])
def Y_D_locate : jY := ("AuditDesk", ⟨"AuditDesk", "locate", "(II)I"⟩, prog_1_method_12_code, 4, some .int, [])
def Y_D_found : jY := ("AuditDesk", ⟨"AuditDesk", "found", "(I)I"⟩, prog_1_method_13_code, 2, some .int, [])
def Y_D_repair : jY := ("AuditDesk", ⟨"AuditDesk", "repair", "(II)I"⟩, prog_1_method_14_code, 4, some .int, [])
def Y_D_fetch : jY := ("AuditDesk", ⟨"AuditDesk", "fetch", "(I)I"⟩, prog_1_method_15_code, 3, some .int, [])
def Y_D_fetched : jY := ("AuditDesk", ⟨"AuditDesk", "fetched", "(I)I"⟩, prog_1_method_16_code, 2, some .int, [])
def Y_D_made : jY := ("AuditDesk", ⟨"AuditDesk", "made", "(III)I"⟩, prog_1_method_17_code, 4, some .int, [])
def Y_D_kept : jY := ("AuditDesk", ⟨"AuditDesk", "kept", "(IIII)I"⟩, prog_1_method_18_code, 6, some .int, [])
def Y_D_rota : jY := ("AuditDesk", ⟨"AuditDesk", "rota", "(I)I"⟩, prog_1_method_19_code, 6, some .int, [])
def Y_D_score : jY := ("AuditDesk", ⟨"AuditDesk", "score", "(II)I"⟩, prog_1_method_20_code, 4, some .int, [])
def Y_D_isFile : jY := ("AuditDesk", ⟨"AuditDesk", "isFile", "(I)Z"⟩, prog_1_method_21_code, 2, some .boolean, [])
def Y_D_isKeeper : jY := ("AuditDesk", ⟨"AuditDesk", "isKeeper", "(I)Z"⟩, prog_1_method_22_code, 1, some .boolean, [])
def Y_D_isRowNumber : jY := ("AuditDesk", ⟨"AuditDesk", "isRowNumber", "(I)Z"⟩, prog_1_method_23_code, 1, some .boolean, [])
def Y_D_keeps : jY := ("AuditDesk", ⟨"AuditDesk", "keeps", "(II)Z"⟩, prog_1_method_24_code, 3, some .boolean, [])
def Y_D_keepsRow : jY := ("AuditDesk", ⟨"AuditDesk", "keepsRow", "(III)Z"⟩, prog_1_method_25_code, 4, some .boolean, [])
def Y_D_isGood : jY := ("AuditDesk", ⟨"AuditDesk", "isGood", "(III)Z"⟩, prog_1_method_26_code, 5, some .boolean, [])
def Y_D_countCopies : jY := ("AuditDesk", ⟨"AuditDesk", "countCopies", "()I"⟩, prog_1_method_27_code, 4, some .int, [])
def Y_D_gather : jY := ("AuditDesk", ⟨"AuditDesk", "gather", "(I)Z"⟩, prog_1_method_28_code, 4, some .boolean, [])
def Y_D_gatherGroup : jY := ("AuditDesk", ⟨"AuditDesk", "gatherGroup", "(II)Z"⟩, prog_1_method_29_code, 6, some .boolean, [])
def Y_D_leastGoodKeeper : jY := ("AuditDesk", ⟨"AuditDesk", "leastGoodKeeper", "(II)I"⟩, prog_1_method_30_code, 4, some .int, [])
def Y_M_init : jY := ("AuditDeskModel", ⟨"AuditDeskModel", "<init>", "()V"⟩, prog_9_method_1_code, 1, none, [])
def Y_M_thrown : jY := ("AuditDeskModel", ⟨"AuditDeskModel", "thrown", "()I"⟩, prog_9_method_2_code, 1, some .int, [])
def Y_M_power : jY := ("AuditDeskModel", ⟨"AuditDeskModel", "power", "(JJ)J"⟩, prog_9_method_3_code, 10, some .long, [])
def Y_M_over : jY := ("AuditDeskModel", ⟨"AuditDeskModel", "over", "(J)J"⟩, prog_9_method_4_code, 2, some .long, [])
def Y_M_secret : jY := ("AuditDeskModel", ⟨"AuditDeskModel", "secret", "(I)J"⟩, prog_9_method_5_code, 5, some .long, [])
def Y_M_isNumber : jY := ("AuditDeskModel", ⟨"AuditDeskModel", "isNumber", "(I)Z"⟩, prog_9_method_6_code, 1, some .boolean, [])
def Y_M_key : jY := ("AuditDeskModel", ⟨"AuditDeskModel", "key", "(JJ)V"⟩, prog_9_method_7_code, 5, none, [])
def Y_M_word : jY := ("AuditDeskModel", ⟨"AuditDeskModel", "word", "(II)Z"⟩, prog_9_method_8_code, 3, some .boolean, [])
def Y_M_rowsOf : jY := ("AuditDeskModel", ⟨"AuditDeskModel", "rowsOf", "(I)I"⟩, prog_9_method_9_code, 2, some .int, [])
def Y_M_tag : jY := ("AuditDeskModel", ⟨"AuditDeskModel", "tag", "(II[II)J"⟩, prog_9_method_10_code, 8, some .long, [])
def Y_M_encode : jY := ("AuditDeskModel", ⟨"AuditDeskModel", "encode", "(I[I)V"⟩, prog_9_method_11_code, 11, none, [])
def Y_M_file : jY := ("AuditDeskModel", ⟨"AuditDeskModel", "file", "(I)I"⟩, prog_9_method_12_code, 3, some .int, [])
def Y_M_isFile : jY := ("AuditDeskModel", ⟨"AuditDeskModel", "isFile", "(I)Z"⟩, prog_9_method_13_code, 2, some .boolean, [])
def Y_M_isKeeper : jY := ("AuditDeskModel", ⟨"AuditDeskModel", "isKeeper", "(I)Z"⟩, prog_9_method_14_code, 1, some .boolean, [])
def Y_M_holds : jY := ("AuditDeskModel", ⟨"AuditDeskModel", "holds", "(II)Z"⟩, prog_9_method_15_code, 3, some .boolean, [])
def Y_M_spot : jY := ("AuditDeskModel", ⟨"AuditDeskModel", "spot", "(III)I"⟩, prog_9_method_16_code, 3, some .int, [])
def Y_M_mark : jY := ("AuditDeskModel", ⟨"AuditDeskModel", "mark", "(III)I"⟩, prog_9_method_17_code, 3, some .int, [])
def Y_M_place : jY := ("AuditDeskModel", ⟨"AuditDeskModel", "place", "(II)Z"⟩, prog_9_method_18_code, 4, some .boolean, [])
def Y_M_put : jY := ("AuditDeskModel", ⟨"AuditDeskModel", "put", "(III)V"⟩, prog_9_method_19_code, 5, none, [])
def Y_M_isRow : jY := ("AuditDeskModel", ⟨"AuditDeskModel", "isRow", "(III)Z"⟩, prog_9_method_20_code, 4, some .boolean, [])
def Y_M_lose : jY := ("AuditDeskModel", ⟨"AuditDeskModel", "lose", "(III)Z"⟩, prog_9_method_21_code, 5, some .boolean, [])
def Y_M_change : jY := ("AuditDeskModel", ⟨"AuditDeskModel", "change", "(IIIII)I"⟩, prog_9_method_22_code, 7, some .int, [])
def Y_M_challenge : jY := ("AuditDeskModel", ⟨"AuditDeskModel", "challenge", "(IIII)I"⟩, prog_9_method_23_code, 10, some .int, [])
def Y_M_isAsked : jY := ("AuditDeskModel", ⟨"AuditDeskModel", "isAsked", "(II)Z"⟩, prog_9_method_24_code, 5, some .boolean, [])
def Y_M_asked : jY := ("AuditDeskModel", ⟨"AuditDeskModel", "asked", "(II)I"⟩, prog_9_method_25_code, 3, some .int, [])
def Y_M_tamper : jY := ("AuditDeskModel", ⟨"AuditDeskModel", "tamper", "(II)Z"⟩, prog_9_method_26_code, 3, some .boolean, [])
def Y_M_judge : jY := ("AuditDeskModel", ⟨"AuditDeskModel", "judge", "()Z"⟩, prog_9_method_27_code, 4, some .boolean, [])
def Y_M_isGood : jY := ("AuditDeskModel", ⟨"AuditDeskModel", "isGood", "(III)Z"⟩, prog_9_method_28_code, 5, some .boolean, [])
def Y_M_locate : jY := ("AuditDeskModel", ⟨"AuditDeskModel", "locate", "(II)I"⟩, prog_9_method_29_code, 4, some .int, [])
def Y_M_found : jY := ("AuditDeskModel", ⟨"AuditDeskModel", "found", "(I)I"⟩, prog_9_method_30_code, 2, some .int, [])
def Y_M_keeperOf : jY := ("AuditDeskModel", ⟨"AuditDeskModel", "keeperOf", "(II)I"⟩, prog_9_method_31_code, 4, some .int, [])
def Y_M_sum : jY := ("AuditDeskModel", ⟨"AuditDeskModel", "sum", "(IIII)V"⟩, prog_9_method_32_code, 7, none, [])
def Y_M_solve : jY := ("AuditDeskModel", ⟨"AuditDeskModel", "solve", "()V"⟩, prog_9_method_33_code, 9, none, [])
def Y_M_gather : jY := ("AuditDeskModel", ⟨"AuditDeskModel", "gather", "(I)Z"⟩, prog_9_method_34_code, 6, some .boolean, [])
def Y_M_differs : jY := ("AuditDeskModel", ⟨"AuditDeskModel", "differs", "(IIII)Z"⟩, prog_9_method_35_code, 7, some .boolean, [])
def Y_M_repair : jY := ("AuditDeskModel", ⟨"AuditDeskModel", "repair", "(II)I"⟩, prog_9_method_36_code, 5, some .int, [])
def Y_M_fetch : jY := ("AuditDeskModel", ⟨"AuditDeskModel", "fetch", "(I)I"⟩, prog_9_method_37_code, 3, some .int, [])
def Y_M_fetched : jY := ("AuditDeskModel", ⟨"AuditDeskModel", "fetched", "(I)I"⟩, prog_9_method_38_code, 2, some .int, [])
def Y_M_made : jY := ("AuditDeskModel", ⟨"AuditDeskModel", "made", "(III)I"⟩, prog_9_method_39_code, 4, some .int, [])
def Y_M_kept : jY := ("AuditDeskModel", ⟨"AuditDeskModel", "kept", "(IIII)I"⟩, prog_9_method_40_code, 5, some .int, [])
def Y_M_rota : jY := ("AuditDeskModel", ⟨"AuditDeskModel", "rota", "(I)I"⟩, prog_9_method_41_code, 6, some .int, [])
def Y_M_score : jY := ("AuditDeskModel", ⟨"AuditDeskModel", "score", "(II)I"⟩, prog_9_method_42_code, 4, some .int, [])
def Y_C_init : jY := ("AuditDesk$Challenge", ⟨"AuditDesk$Challenge", "<init>", "()V"⟩, prog_2_method_1_code, 1, none, [])
def Y_C_pose : jY := ("AuditDesk$Challenge", ⟨"AuditDesk$Challenge", "pose", "(II)V"⟩, prog_2_method_2_code, 3, none, [])
def Y_C_draw : jY := ("AuditDesk$Challenge", ⟨"AuditDesk$Challenge", "draw", "(III)V"⟩, prog_2_method_3_code, 6, none, [])
def Y_C_step : jY := ("AuditDesk$Challenge", ⟨"AuditDesk$Challenge", "step", "(I)I"⟩, prog_2_method_4_code, 1, some .int, [])
def Y_C_nextUndrawn : jY := ("AuditDesk$Challenge", ⟨"AuditDesk$Challenge", "nextUndrawn", "(II)I"⟩, prog_2_method_5_code, 5, some .int, [])
def Y_C_answerFrom : jY := ("AuditDesk$Challenge", ⟨"AuditDesk$Challenge", "answerFrom", "(LAuditDesk$Rows;)V"⟩, prog_2_method_6_code, 5, none, [])
def Y_C_holds : jY := ("AuditDesk$Challenge", ⟨"AuditDesk$Challenge", "holds", "(LAuditDesk$Deposit;)Z"⟩, prog_2_method_7_code, 4, some .boolean, [])
def Y_Y_init : jY := ("AuditDesk$Copy", ⟨"AuditDesk$Copy", "<init>", "()V"⟩, prog_3_method_1_code, 1, none, [])
def Y_Y_drop : jY := ("AuditDesk$Copy", ⟨"AuditDesk$Copy", "drop", "(I)V"⟩, prog_3_method_2_code, 2, none, [])
def Y_Y_become : jY := ("AuditDesk$Copy", ⟨"AuditDesk$Copy", "become", "(LAuditDesk$Rows;I)I"⟩, prog_3_method_3_code, 5, some .int, [])
def Y_E_init : jY := ("AuditDesk$Deposit", ⟨"AuditDesk$Deposit", "<init>", "()V"⟩, prog_4_method_1_code, 1, none, [])
def Y_E_drawSecrets : jY := ("AuditDesk$Deposit", ⟨"AuditDesk$Deposit", "drawSecrets", "(JJI)V"⟩, prog_4_method_2_code, 7, none, [])
def Y_E_make : jY := ("AuditDesk$Deposit", ⟨"AuditDesk$Deposit", "make", "([II)V"⟩, prog_4_method_3_code, 4, none, [])
def Y_E_complete : jY := ("AuditDesk$Deposit", ⟨"AuditDesk$Deposit", "complete", "(LAuditDesk$Rows;)V"⟩, prog_4_method_4_code, 3, none, [])
def Y_E_tagOf : jY := ("AuditDesk$Deposit", ⟨"AuditDesk$Deposit", "tagOf", "(LAuditDesk$Rows;I)I"⟩, prog_4_method_5_code, 5, some .int, [])
def Y_F_has : jY := ("AuditDesk$Field", ⟨"AuditDesk$Field", "has", "(I)Z"⟩, prog_5_method_2_code, 1, some .boolean, [])
def Y_F_plus : jY := ("AuditDesk$Field", ⟨"AuditDesk$Field", "plus", "(II)I"⟩, prog_5_method_3_code, 2, some .int, [])
def Y_F_minus : jY := ("AuditDesk$Field", ⟨"AuditDesk$Field", "minus", "(II)I"⟩, prog_5_method_4_code, 2, some .int, [])
def Y_F_times : jY := ("AuditDesk$Field", ⟨"AuditDesk$Field", "times", "(II)I"⟩, prog_5_method_5_code, 2, some .int, [])
def Y_F_secret : jY := ("AuditDesk$Field", ⟨"AuditDesk$Field", "secret", "(JJI)I"⟩, prog_5_method_6_code, 8, some .int, [])
def Y_K_init : jY := ("AuditDesk$Keeper", ⟨"AuditDesk$Keeper", "<init>", "()V"⟩, prog_6_method_1_code, 2, none, [])
def Y_K_tally : jY := ("AuditDesk$Keeper", ⟨"AuditDesk$Keeper", "tally", "(I)I"⟩, prog_6_method_2_code, 2, some .int, [])
def Y_R_init : jY := ("AuditDesk$Rows", ⟨"AuditDesk$Rows", "<init>", "()V"⟩, prog_7_method_1_code, 1, none, [])
def Y_R_rowOfWord : jY := ("AuditDesk$Rows", ⟨"AuditDesk$Rows", "rowOfWord", "(I)I"⟩, prog_7_method_2_code, 1, some .int, [])
def Y_R_get : jY := ("AuditDesk$Rows", ⟨"AuditDesk$Rows", "get", "(II)I"⟩, prog_7_method_3_code, 3, some .int, [])
def Y_R_set : jY := ("AuditDesk$Rows", ⟨"AuditDesk$Rows", "set", "(III)V"⟩, prog_7_method_4_code, 4, none, [])
def Y_R_takeRow : jY := ("AuditDesk$Rows", ⟨"AuditDesk$Rows", "takeRow", "(LAuditDesk$Rows;I)V"⟩, prog_7_method_5_code, 3, none, [])
def Y_R_clearRow : jY := ("AuditDesk$Rows", ⟨"AuditDesk$Rows", "clearRow", "(I)V"⟩, prog_7_method_6_code, 3, none, [])
def Y_R_sameRow : jY := ("AuditDesk$Rows", ⟨"AuditDesk$Rows", "sameRow", "(LAuditDesk$Rows;I)Z"⟩, prog_7_method_7_code, 4, some .boolean, [])
def Y_R_spread : jY := ("AuditDesk$Rows", ⟨"AuditDesk$Rows", "spread", "(I)V"⟩, prog_7_method_8_code, 4, none, [])
def Y_R_codedWord : jY := ("AuditDesk$Rows", ⟨"AuditDesk$Rows", "codedWord", "(III)I"⟩, prog_7_method_9_code, 6, some .int, [])
def Y_R_recover : jY := ("AuditDesk$Rows", ⟨"AuditDesk$Rows", "recover", "(I[Z)V"⟩, prog_7_method_10_code, 5, none, [])
def Y_R_nextMissing : jY := ("AuditDesk$Rows", ⟨"AuditDesk$Rows", "nextMissing", "([ZI)I"⟩, prog_7_method_11_code, 3, some .int, [])
def Y_R_recoverOne : jY := ("AuditDesk$Rows", ⟨"AuditDesk$Rows", "recoverOne", "(III)V"⟩, prog_7_method_12_code, 5, none, [])
def Y_R_recoverTwo : jY := ("AuditDesk$Rows", ⟨"AuditDesk$Rows", "recoverTwo", "(III)V"⟩, prog_7_method_13_code, 10, none, [])
def Y_R_rest : jY := ("AuditDesk$Rows", ⟨"AuditDesk$Rows", "rest", "(III)I"⟩, prog_7_method_14_code, 4, some .int, [])
def Y_W_key : jY := ("AuditDeskLaw", ⟨"AuditDeskLaw", "key", "(LAuditDesk;JJ)I"⟩, method_3_code, 6, some .int, [(0, 6, 9, 13)])
def Y_W_file : jY := ("AuditDeskLaw", ⟨"AuditDeskLaw", "file", "(LAuditDesk;I[J)I"⟩, method_4_code, 4, some .int, [(0, 9, 12, 19), (0, 9, 15, 13)])
def Y_W_place : jY := ("AuditDeskLaw", ⟨"AuditDeskLaw", "place", "(LAuditDesk;II[J)I"⟩, method_5_code, 5, some .int, [(0, 17, 20, 25)])
def Y_W_lose : jY := ("AuditDeskLaw", ⟨"AuditDeskLaw", "lose", "(LAuditDesk;III[J)I"⟩, method_6_code, 6, some .int, [(0, 19, 22, 19)])
def Y_W_change : jY := ("AuditDeskLaw", ⟨"AuditDeskLaw", "change", "(LAuditDesk;IIIII[J)I"⟩, method_7_code, 8, some .int, [(0, 16, 19, 19), (0, 16, 23, 13)])
def Y_W_challenge : jY := ("AuditDeskLaw", ⟨"AuditDeskLaw", "challenge", "(LAuditDesk;IIII[J)I"⟩, method_8_code, 7, some .int, [(0, 14, 17, 19)])
def Y_W_judge : jY := ("AuditDeskLaw", ⟨"AuditDeskLaw", "judge", "(LAuditDesk;[J)I"⟩, method_9_code, 3, some .int, [(0, 15, 18, 13)])
def Y_W_locate : jY := ("AuditDeskLaw", ⟨"AuditDeskLaw", "locate", "(LAuditDesk;II[J)I"⟩, method_10_code, 5, some .int, [(0, 10, 13, 19)])
def Y_W_repair : jY := ("AuditDeskLaw", ⟨"AuditDeskLaw", "repair", "(LAuditDesk;II[J)I"⟩, method_11_code, 5, some .int, [(0, 10, 13, 25), (0, 10, 17, 13)])
def Y_W_fetch : jY := ("AuditDeskLaw", ⟨"AuditDeskLaw", "fetch", "(LAuditDesk;I[J)I"⟩, method_12_code, 4, some .int, [(0, 9, 12, 25), (0, 9, 15, 13)])
def Y_W_made : jY := ("AuditDeskLaw", ⟨"AuditDeskLaw", "made", "(LAuditDesk;III[J)I"⟩, method_13_code, 6, some .int, [(0, 12, 15, 25)])
def Y_W_kept : jY := ("AuditDeskLaw", ⟨"AuditDeskLaw", "kept", "(LAuditDesk;IIII[J)I"⟩, method_14_code, 7, some .int, [(0, 14, 17, 19)])
def Y_W_law : jY := ("AuditDeskLaw", ⟨"AuditDeskLaw", "law", "([I)Z"⟩, code, 7, some .boolean, [])
end
section
/-! what each instruction is, part 0 -/
theorem d_D_init_0 : decode (jyc Y_D_init) 0 = .ok (.aload_n 0, 1) := by decide +kernel
theorem d_D_init_1 : decode (jyc Y_D_init) 1 = .ok (.invokespecial 1, 3) := by decide +kernel
theorem d_D_init_4 : decode (jyc Y_D_init) 4 = .ok (.aload_n 0, 1) := by decide +kernel
theorem d_D_init_5 : decode (jyc Y_D_init) 5 = .ok (.bipush 64, 2) := by decide +kernel
theorem d_D_init_7 : decode (jyc Y_D_init) 7 = .ok (.newarray .int, 2) := by decide +kernel
theorem d_D_init_9 : decode (jyc Y_D_init) 9 = .ok (.putfield 9, 3) := by decide +kernel
theorem d_D_init_12 : decode (jyc Y_D_init) 12 = .ok (.aload_n 0, 1) := by decide +kernel
theorem d_D_init_13 : decode (jyc Y_D_init) 13 = .ok (.iconst 3, 1) := by decide +kernel
theorem d_D_init_14 : decode (jyc Y_D_init) 14 = .ok (.anewarray 13, 3) := by decide +kernel
theorem d_D_init_17 : decode (jyc Y_D_init) 17 = .ok (.putfield 15, 3) := by decide +kernel
theorem d_D_init_20 : decode (jyc Y_D_init) 20 = .ok (.iconst 0, 1) := by decide +kernel
theorem d_D_init_21 : decode (jyc Y_D_init) 21 = .ok (.istore_n 1, 1) := by decide +kernel
theorem d_D_init_22 : decode (jyc Y_D_init) 22 = .ok (.iload_n 1, 1) := by decide +kernel
theorem d_D_init_23 : decode (jyc Y_D_init) 23 = .ok (.iconst 3, 1) := by decide +kernel
theorem d_D_init_24 : decode (jyc Y_D_init) 24 = .ok (.if_icmp .ge 22, 3) := by decide +kernel
theorem d_D_init_27 : decode (jyc Y_D_init) 27 = .ok (.aload_n 0, 1) := by decide +kernel
theorem d_D_init_28 : decode (jyc Y_D_init) 28 = .ok (.getfield 15, 3) := by decide +kernel
theorem d_D_init_31 : decode (jyc Y_D_init) 31 = .ok (.iload_n 1, 1) := by decide +kernel
theorem d_D_init_32 : decode (jyc Y_D_init) 32 = .ok (.new 13, 3) := by decide +kernel
theorem d_D_init_35 : decode (jyc Y_D_init) 35 = .ok (.dup, 1) := by decide +kernel
theorem d_D_init_36 : decode (jyc Y_D_init) 36 = .ok (.invokespecial 19, 3) := by decide +kernel
theorem d_D_init_39 : decode (jyc Y_D_init) 39 = .ok (.aastore, 1) := by decide +kernel
theorem d_D_init_40 : decode (jyc Y_D_init) 40 = .ok (.iinc 1 1, 3) := by decide +kernel
theorem d_D_init_43 : decode (jyc Y_D_init) 43 = .ok (.goto (-21), 3) := by decide +kernel
theorem d_D_init_46 : decode (jyc Y_D_init) 46 = .ok (.aload_n 0, 1) := by decide +kernel
theorem d_D_init_47 : decode (jyc Y_D_init) 47 = .ok (.iconst 4, 1) := by decide +kernel
theorem d_D_init_48 : decode (jyc Y_D_init) 48 = .ok (.anewarray 20, 3) := by decide +kernel
theorem d_D_init_51 : decode (jyc Y_D_init) 51 = .ok (.putfield 22, 3) := by decide +kernel
theorem d_D_init_54 : decode (jyc Y_D_init) 54 = .ok (.iconst 0, 1) := by decide +kernel
theorem d_D_init_55 : decode (jyc Y_D_init) 55 = .ok (.istore_n 1, 1) := by decide +kernel
theorem d_D_init_56 : decode (jyc Y_D_init) 56 = .ok (.iload_n 1, 1) := by decide +kernel
theorem d_D_init_57 : decode (jyc Y_D_init) 57 = .ok (.iconst 4, 1) := by decide +kernel
theorem d_D_init_58 : decode (jyc Y_D_init) 58 = .ok (.if_icmp .ge 22, 3) := by decide +kernel
theorem d_D_init_61 : decode (jyc Y_D_init) 61 = .ok (.aload_n 0, 1) := by decide +kernel
theorem d_D_init_62 : decode (jyc Y_D_init) 62 = .ok (.getfield 22, 3) := by decide +kernel
theorem d_D_init_65 : decode (jyc Y_D_init) 65 = .ok (.iload_n 1, 1) := by decide +kernel
theorem d_D_init_66 : decode (jyc Y_D_init) 66 = .ok (.new 20, 3) := by decide +kernel
theorem d_D_init_69 : decode (jyc Y_D_init) 69 = .ok (.dup, 1) := by decide +kernel
theorem d_D_init_70 : decode (jyc Y_D_init) 70 = .ok (.invokespecial 26, 3) := by decide +kernel
theorem d_D_init_73 : decode (jyc Y_D_init) 73 = .ok (.aastore, 1) := by decide +kernel
theorem d_D_init_74 : decode (jyc Y_D_init) 74 = .ok (.iinc 1 1, 3) := by decide +kernel
theorem d_D_init_77 : decode (jyc Y_D_init) 77 = .ok (.goto (-21), 3) := by decide +kernel
theorem d_D_init_80 : decode (jyc Y_D_init) 80 = .ok (.aload_n 0, 1) := by decide +kernel
theorem d_D_init_81 : decode (jyc Y_D_init) 81 = .ok (.new 27, 3) := by decide +kernel
theorem d_D_init_84 : decode (jyc Y_D_init) 84 = .ok (.dup, 1) := by decide +kernel
theorem d_D_init_85 : decode (jyc Y_D_init) 85 = .ok (.invokespecial 29, 3) := by decide +kernel
theorem d_D_init_88 : decode (jyc Y_D_init) 88 = .ok (.putfield 30, 3) := by decide +kernel
theorem d_D_init_91 : decode (jyc Y_D_init) 91 = .ok (.aload_n 0, 1) := by decide +kernel
theorem d_D_init_92 : decode (jyc Y_D_init) 92 = .ok (.bipush 24, 2) := by decide +kernel
theorem d_D_init_94 : decode (jyc Y_D_init) 94 = .ok (.newarray .int, 2) := by decide +kernel
theorem d_D_init_96 : decode (jyc Y_D_init) 96 = .ok (.putfield 34, 3) := by decide +kernel
theorem d_D_init_99 : decode (jyc Y_D_init) 99 = .ok (.aload_n 0, 1) := by decide +kernel
theorem d_D_init_100 : decode (jyc Y_D_init) 100 = .ok (.bipush 64, 2) := by decide +kernel
theorem d_D_init_102 : decode (jyc Y_D_init) 102 = .ok (.newarray .int, 2) := by decide +kernel
theorem d_D_init_104 : decode (jyc Y_D_init) 104 = .ok (.putfield 37, 3) := by decide +kernel
theorem d_D_init_107 : decode (jyc Y_D_init) 107 = .ok (.aload_n 0, 1) := by decide +kernel
theorem d_D_init_108 : decode (jyc Y_D_init) 108 = .ok (.new 40, 3) := by decide +kernel
theorem d_D_init_111 : decode (jyc Y_D_init) 111 = .ok (.dup, 1) := by decide +kernel
theorem d_D_init_112 : decode (jyc Y_D_init) 112 = .ok (.invokespecial 42, 3) := by decide +kernel
theorem d_D_init_115 : decode (jyc Y_D_init) 115 = .ok (.putfield 43, 3) := by decide +kernel
theorem d_D_init_118 : decode (jyc Y_D_init) 118 = .ok (.aload_n 0, 1) := by decide +kernel
theorem d_D_init_119 : decode (jyc Y_D_init) 119 = .ok (.bipush 6, 2) := by decide +kernel
theorem d_D_init_121 : decode (jyc Y_D_init) 121 = .ok (.newarray .boolean, 2) := by decide +kernel
theorem d_D_init_123 : decode (jyc Y_D_init) 123 = .ok (.putfield 47, 3) := by decide +kernel
theorem d_D_init_126 : decode (jyc Y_D_init) 126 = .ok (.return_, 1) := by decide +kernel
theorem d_D_key_0 : decode (jyc Y_D_key) 0 = .ok (.aload_n 0, 1) := by decide +kernel
theorem d_D_key_1 : decode (jyc Y_D_key) 1 = .ok (.getfield 51, 3) := by decide +kernel
theorem d_D_key_4 : decode (jyc Y_D_key) 4 = .ok (.ifCond .le 13, 3) := by decide +kernel
theorem d_D_key_7 : decode (jyc Y_D_key) 7 = .ok (.new 55, 3) := by decide +kernel
theorem d_D_key_10 : decode (jyc Y_D_key) 10 = .ok (.dup, 1) := by decide +kernel
theorem d_D_key_11 : decode (jyc Y_D_key) 11 = .ok (.ldc 57, 2) := by decide +kernel
theorem d_D_key_13 : decode (jyc Y_D_key) 13 = .ok (.invokespecial 59, 3) := by decide +kernel
theorem d_D_key_16 : decode (jyc Y_D_key) 16 = .ok (.athrow, 1) := by decide +kernel
theorem d_D_key_17 : decode (jyc Y_D_key) 17 = .ok (.aload_n 0, 1) := by decide +kernel
theorem d_D_key_18 : decode (jyc Y_D_key) 18 = .ok (.lload_n 1, 1) := by decide +kernel
theorem d_D_key_19 : decode (jyc Y_D_key) 19 = .ok (.putfield 62, 3) := by decide +kernel
theorem d_D_key_22 : decode (jyc Y_D_key) 22 = .ok (.aload_n 0, 1) := by decide +kernel
theorem d_D_key_23 : decode (jyc Y_D_key) 23 = .ok (.lload_n 3, 1) := by decide +kernel
theorem d_D_key_24 : decode (jyc Y_D_key) 24 = .ok (.putfield 66, 3) := by decide +kernel
theorem d_D_key_27 : decode (jyc Y_D_key) 27 = .ok (.return_, 1) := by decide +kernel
theorem d_D_word_0 : decode (jyc Y_D_word) 0 = .ok (.iload_n 1, 1) := by decide +kernel
theorem d_D_word_1 : decode (jyc Y_D_word) 1 = .ok (.ifCond .lt 16, 3) := by decide +kernel
theorem d_D_word_4 : decode (jyc Y_D_word) 4 = .ok (.iload_n 1, 1) := by decide +kernel
theorem d_D_word_5 : decode (jyc Y_D_word) 5 = .ok (.bipush 64, 2) := by decide +kernel
theorem d_D_word_7 : decode (jyc Y_D_word) 7 = .ok (.if_icmp .ge 10, 3) := by decide +kernel
theorem d_D_word_10 : decode (jyc Y_D_word) 10 = .ok (.iload_n 2, 1) := by decide +kernel
theorem d_D_word_11 : decode (jyc Y_D_word) 11 = .ok (.invokestatic 69, 3) := by decide +kernel
theorem d_D_word_14 : decode (jyc Y_D_word) 14 = .ok (.ifCond .ne 5, 3) := by decide +kernel
theorem d_D_word_17 : decode (jyc Y_D_word) 17 = .ok (.iconst 0, 1) := by decide +kernel
theorem d_D_word_18 : decode (jyc Y_D_word) 18 = .ok (.ireturn, 1) := by decide +kernel
theorem d_D_word_19 : decode (jyc Y_D_word) 19 = .ok (.aload_n 0, 1) := by decide +kernel
theorem d_D_word_20 : decode (jyc Y_D_word) 20 = .ok (.getfield 9, 3) := by decide +kernel
theorem d_D_word_23 : decode (jyc Y_D_word) 23 = .ok (.iload_n 1, 1) := by decide +kernel
theorem d_D_word_24 : decode (jyc Y_D_word) 24 = .ok (.iload_n 2, 1) := by decide +kernel
theorem d_D_word_25 : decode (jyc Y_D_word) 25 = .ok (.iastore, 1) := by decide +kernel
theorem d_D_word_26 : decode (jyc Y_D_word) 26 = .ok (.iconst 1, 1) := by decide +kernel
theorem d_D_word_27 : decode (jyc Y_D_word) 27 = .ok (.ireturn, 1) := by decide +kernel
theorem d_D_file_0 : decode (jyc Y_D_file) 0 = .ok (.iload_n 1, 1) := by decide +kernel
theorem d_D_file_1 : decode (jyc Y_D_file) 1 = .ok (.iconst 1, 1) := by decide +kernel
theorem d_D_file_2 : decode (jyc Y_D_file) 2 = .ok (.if_icmp .lt 9, 3) := by decide +kernel
theorem d_D_file_5 : decode (jyc Y_D_file) 5 = .ok (.iload_n 1, 1) := by decide +kernel
theorem d_D_file_6 : decode (jyc Y_D_file) 6 = .ok (.bipush 64, 2) := by decide +kernel
theorem d_D_file_8 : decode (jyc Y_D_file) 8 = .ok (.if_icmp .le 13, 3) := by decide +kernel
theorem d_D_file_11 : decode (jyc Y_D_file) 11 = .ok (.new 75, 3) := by decide +kernel
theorem d_D_file_14 : decode (jyc Y_D_file) 14 = .ok (.dup, 1) := by decide +kernel
theorem d_D_file_15 : decode (jyc Y_D_file) 15 = .ok (.ldc 77, 2) := by decide +kernel
theorem d_D_file_17 : decode (jyc Y_D_file) 17 = .ok (.invokespecial 79, 3) := by decide +kernel
theorem d_D_file_20 : decode (jyc Y_D_file) 20 = .ok (.athrow, 1) := by decide +kernel
theorem d_D_file_21 : decode (jyc Y_D_file) 21 = .ok (.aload_n 0, 1) := by decide +kernel
theorem d_D_file_22 : decode (jyc Y_D_file) 22 = .ok (.getfield 51, 3) := by decide +kernel
theorem d_D_file_25 : decode (jyc Y_D_file) 25 = .ok (.iconst 3, 1) := by decide +kernel
theorem d_D_file_26 : decode (jyc Y_D_file) 26 = .ok (.if_icmp .lt 13, 3) := by decide +kernel
theorem d_D_file_29 : decode (jyc Y_D_file) 29 = .ok (.new 55, 3) := by decide +kernel
theorem d_D_file_32 : decode (jyc Y_D_file) 32 = .ok (.dup, 1) := by decide +kernel
theorem d_D_file_33 : decode (jyc Y_D_file) 33 = .ok (.ldc 80, 2) := by decide +kernel
theorem d_D_file_35 : decode (jyc Y_D_file) 35 = .ok (.invokespecial 59, 3) := by decide +kernel
theorem d_D_file_38 : decode (jyc Y_D_file) 38 = .ok (.athrow, 1) := by decide +kernel
theorem d_D_file_39 : decode (jyc Y_D_file) 39 = .ok (.aload_n 0, 1) := by decide +kernel
theorem d_D_file_40 : decode (jyc Y_D_file) 40 = .ok (.getfield 51, 3) := by decide +kernel
theorem d_D_file_43 : decode (jyc Y_D_file) 43 = .ok (.istore_n 2, 1) := by decide +kernel
theorem d_D_file_44 : decode (jyc Y_D_file) 44 = .ok (.aload_n 0, 1) := by decide +kernel
theorem d_D_file_45 : decode (jyc Y_D_file) 45 = .ok (.getfield 15, 3) := by decide +kernel
theorem d_D_file_48 : decode (jyc Y_D_file) 48 = .ok (.iload_n 2, 1) := by decide +kernel
theorem d_D_file_49 : decode (jyc Y_D_file) 49 = .ok (.aaload, 1) := by decide +kernel
theorem d_D_file_50 : decode (jyc Y_D_file) 50 = .ok (.aload_n 0, 1) := by decide +kernel
theorem d_D_file_51 : decode (jyc Y_D_file) 51 = .ok (.getfield 62, 3) := by decide +kernel
theorem d_D_file_54 : decode (jyc Y_D_file) 54 = .ok (.aload_n 0, 1) := by decide +kernel
theorem d_D_file_55 : decode (jyc Y_D_file) 55 = .ok (.getfield 66, 3) := by decide +kernel
theorem d_D_file_58 : decode (jyc Y_D_file) 58 = .ok (.iload_n 2, 1) := by decide +kernel
theorem d_D_file_59 : decode (jyc Y_D_file) 59 = .ok (.invokevirtual 82, 3) := by decide +kernel
theorem d_D_file_62 : decode (jyc Y_D_file) 62 = .ok (.aload_n 0, 1) := by decide +kernel
theorem d_D_file_63 : decode (jyc Y_D_file) 63 = .ok (.getfield 15, 3) := by decide +kernel
theorem d_D_file_66 : decode (jyc Y_D_file) 66 = .ok (.iload_n 2, 1) := by decide +kernel
theorem d_D_file_67 : decode (jyc Y_D_file) 67 = .ok (.aaload, 1) := by decide +kernel
theorem d_D_file_68 : decode (jyc Y_D_file) 68 = .ok (.aload_n 0, 1) := by decide +kernel
theorem d_D_file_69 : decode (jyc Y_D_file) 69 = .ok (.getfield 9, 3) := by decide +kernel
theorem d_D_file_72 : decode (jyc Y_D_file) 72 = .ok (.iload_n 1, 1) := by decide +kernel
theorem d_D_file_73 : decode (jyc Y_D_file) 73 = .ok (.invokevirtual 86, 3) := by decide +kernel
theorem d_D_file_76 : decode (jyc Y_D_file) 76 = .ok (.aload_n 0, 1) := by decide +kernel
theorem d_D_file_77 : decode (jyc Y_D_file) 77 = .ok (.iload_n 2, 1) := by decide +kernel
theorem d_D_file_78 : decode (jyc Y_D_file) 78 = .ok (.iconst 1, 1) := by decide +kernel
theorem d_D_file_79 : decode (jyc Y_D_file) 79 = .ok (.iadd, 1) := by decide +kernel
theorem d_D_file_80 : decode (jyc Y_D_file) 80 = .ok (.putfield 51, 3) := by decide +kernel
theorem d_D_file_83 : decode (jyc Y_D_file) 83 = .ok (.iload_n 2, 1) := by decide +kernel
theorem d_D_file_84 : decode (jyc Y_D_file) 84 = .ok (.ireturn, 1) := by decide +kernel
theorem d_D_place_0 : decode (jyc Y_D_place) 0 = .ok (.aload_n 0, 1) := by decide +kernel
theorem d_D_place_1 : decode (jyc Y_D_place) 1 = .ok (.iload_n 1, 1) := by decide +kernel
theorem d_D_place_2 : decode (jyc Y_D_place) 2 = .ok (.invokevirtual 90, 3) := by decide +kernel
theorem d_D_place_5 : decode (jyc Y_D_place) 5 = .ok (.ifCond .eq 10, 3) := by decide +kernel
theorem d_D_place_8 : decode (jyc Y_D_place) 8 = .ok (.iload_n 2, 1) := by decide +kernel
theorem d_D_place_9 : decode (jyc Y_D_place) 9 = .ok (.invokestatic 93, 3) := by decide +kernel
theorem d_D_place_12 : decode (jyc Y_D_place) 12 = .ok (.ifCond .ne 13, 3) := by decide +kernel
theorem d_D_place_15 : decode (jyc Y_D_place) 15 = .ok (.new 96, 3) := by decide +kernel
theorem d_D_place_18 : decode (jyc Y_D_place) 18 = .ok (.dup, 1) := by decide +kernel
theorem d_D_place_19 : decode (jyc Y_D_place) 19 = .ok (.ldc 98, 2) := by decide +kernel
theorem d_D_place_21 : decode (jyc Y_D_place) 21 = .ok (.invokespecial 100, 3) := by decide +kernel
theorem d_D_place_24 : decode (jyc Y_D_place) 24 = .ok (.athrow, 1) := by decide +kernel
theorem d_D_place_25 : decode (jyc Y_D_place) 25 = .ok (.aload_n 0, 1) := by decide +kernel
theorem d_D_place_26 : decode (jyc Y_D_place) 26 = .ok (.getfield 22, 3) := by decide +kernel
theorem d_D_place_29 : decode (jyc Y_D_place) 29 = .ok (.iload_n 2, 1) := by decide +kernel
theorem d_D_place_30 : decode (jyc Y_D_place) 30 = .ok (.aaload, 1) := by decide +kernel
theorem d_D_place_31 : decode (jyc Y_D_place) 31 = .ok (.getfield 101, 3) := by decide +kernel
theorem d_D_place_34 : decode (jyc Y_D_place) 34 = .ok (.iload_n 1, 1) := by decide +kernel
theorem d_D_place_35 : decode (jyc Y_D_place) 35 = .ok (.aaload, 1) := by decide +kernel
theorem d_D_place_36 : decode (jyc Y_D_place) 36 = .ok (.astore_n 3, 1) := by decide +kernel
theorem d_D_place_37 : decode (jyc Y_D_place) 37 = .ok (.aload_n 3, 1) := by decide +kernel
theorem d_D_place_38 : decode (jyc Y_D_place) 38 = .ok (.getfield 105, 3) := by decide +kernel
theorem d_D_place_41 : decode (jyc Y_D_place) 41 = .ok (.ifCond .eq 5, 3) := by decide +kernel
theorem d_D_place_44 : decode (jyc Y_D_place) 44 = .ok (.iconst 0, 1) := by decide +kernel
theorem d_D_place_45 : decode (jyc Y_D_place) 45 = .ok (.ireturn, 1) := by decide +kernel
theorem d_D_place_46 : decode (jyc Y_D_place) 46 = .ok (.aload_n 3, 1) := by decide +kernel
theorem d_D_place_47 : decode (jyc Y_D_place) 47 = .ok (.aload_n 0, 1) := by decide +kernel
theorem d_D_place_48 : decode (jyc Y_D_place) 48 = .ok (.getfield 15, 3) := by decide +kernel
theorem d_D_place_51 : decode (jyc Y_D_place) 51 = .ok (.iload_n 1, 1) := by decide +kernel
theorem d_D_place_52 : decode (jyc Y_D_place) 52 = .ok (.aaload, 1) := by decide +kernel
theorem d_D_place_53 : decode (jyc Y_D_place) 53 = .ok (.getfield 111, 3) := by decide +kernel
theorem d_D_place_56 : decode (jyc Y_D_place) 56 = .ok (.aload_n 0, 1) := by decide +kernel
theorem d_D_place_57 : decode (jyc Y_D_place) 57 = .ok (.getfield 15, 3) := by decide +kernel
theorem d_D_place_60 : decode (jyc Y_D_place) 60 = .ok (.iload_n 1, 1) := by decide +kernel
theorem d_D_place_61 : decode (jyc Y_D_place) 61 = .ok (.aaload, 1) := by decide +kernel
theorem d_D_place_62 : decode (jyc Y_D_place) 62 = .ok (.getfield 114, 3) := by decide +kernel
theorem d_D_place_65 : decode (jyc Y_D_place) 65 = .ok (.invokevirtual 117, 3) := by decide +kernel
theorem d_D_place_68 : decode (jyc Y_D_place) 68 = .ok (.pop, 1) := by decide +kernel
theorem d_D_place_69 : decode (jyc Y_D_place) 69 = .ok (.iconst 1, 1) := by decide +kernel
theorem d_D_place_70 : decode (jyc Y_D_place) 70 = .ok (.ireturn, 1) := by decide +kernel
theorem d_D_lose_0 : decode (jyc Y_D_lose) 0 = .ok (.aload_n 0, 1) := by decide +kernel
theorem d_D_lose_1 : decode (jyc Y_D_lose) 1 = .ok (.iload_n 1, 1) := by decide +kernel
theorem d_D_lose_2 : decode (jyc Y_D_lose) 2 = .ok (.iload_n 2, 1) := by decide +kernel
theorem d_D_lose_3 : decode (jyc Y_D_lose) 3 = .ok (.iload_n 3, 1) := by decide +kernel
theorem d_D_lose_4 : decode (jyc Y_D_lose) 4 = .ok (.invokevirtual 121, 3) := by decide +kernel
theorem d_D_lose_7 : decode (jyc Y_D_lose) 7 = .ok (.ifCond .ne 13, 3) := by decide +kernel
theorem d_D_lose_10 : decode (jyc Y_D_lose) 10 = .ok (.new 75, 3) := by decide +kernel
theorem d_D_lose_13 : decode (jyc Y_D_lose) 13 = .ok (.dup, 1) := by decide +kernel
theorem d_D_lose_14 : decode (jyc Y_D_lose) 14 = .ok (.ldc 125, 2) := by decide +kernel
theorem d_D_lose_16 : decode (jyc Y_D_lose) 16 = .ok (.invokespecial 79, 3) := by decide +kernel
theorem d_D_lose_19 : decode (jyc Y_D_lose) 19 = .ok (.athrow, 1) := by decide +kernel
theorem d_D_lose_20 : decode (jyc Y_D_lose) 20 = .ok (.aload_n 0, 1) := by decide +kernel
theorem d_D_lose_21 : decode (jyc Y_D_lose) 21 = .ok (.getfield 22, 3) := by decide +kernel
theorem d_D_lose_24 : decode (jyc Y_D_lose) 24 = .ok (.iload_n 1, 1) := by decide +kernel
theorem d_D_lose_25 : decode (jyc Y_D_lose) 25 = .ok (.aaload, 1) := by decide +kernel
theorem d_D_lose_26 : decode (jyc Y_D_lose) 26 = .ok (.getfield 101, 3) := by decide +kernel
theorem d_D_lose_29 : decode (jyc Y_D_lose) 29 = .ok (.iload_n 2, 1) := by decide +kernel
theorem d_D_lose_30 : decode (jyc Y_D_lose) 30 = .ok (.aaload, 1) := by decide +kernel
theorem d_D_lose_31 : decode (jyc Y_D_lose) 31 = .ok (.astore 4, 2) := by decide +kernel
theorem d_D_lose_33 : decode (jyc Y_D_lose) 33 = .ok (.aload 4, 2) := by decide +kernel
theorem d_D_lose_35 : decode (jyc Y_D_lose) 35 = .ok (.getfield 127, 3) := by decide +kernel
theorem d_D_lose_38 : decode (jyc Y_D_lose) 38 = .ok (.iload_n 3, 1) := by decide +kernel
theorem d_D_lose_39 : decode (jyc Y_D_lose) 39 = .ok (.baload, 1) := by decide +kernel
theorem d_D_lose_40 : decode (jyc Y_D_lose) 40 = .ok (.ifCond .eq 5, 3) := by decide +kernel
theorem d_D_lose_43 : decode (jyc Y_D_lose) 43 = .ok (.iconst 0, 1) := by decide +kernel
theorem d_D_lose_44 : decode (jyc Y_D_lose) 44 = .ok (.ireturn, 1) := by decide +kernel
theorem d_D_lose_45 : decode (jyc Y_D_lose) 45 = .ok (.aload 4, 2) := by decide +kernel
theorem d_D_lose_47 : decode (jyc Y_D_lose) 47 = .ok (.iload_n 3, 1) := by decide +kernel
theorem d_D_lose_48 : decode (jyc Y_D_lose) 48 = .ok (.invokevirtual 130, 3) := by decide +kernel
theorem d_D_lose_51 : decode (jyc Y_D_lose) 51 = .ok (.iconst 1, 1) := by decide +kernel
theorem d_D_lose_52 : decode (jyc Y_D_lose) 52 = .ok (.ireturn, 1) := by decide +kernel
theorem d_D_change_0 : decode (jyc Y_D_change) 0 = .ok (.aload_n 0, 1) := by decide +kernel
theorem d_D_change_1 : decode (jyc Y_D_change) 1 = .ok (.iload_n 1, 1) := by decide +kernel
theorem d_D_change_2 : decode (jyc Y_D_change) 2 = .ok (.iload_n 2, 1) := by decide +kernel
theorem d_D_change_3 : decode (jyc Y_D_change) 3 = .ok (.iload_n 3, 1) := by decide +kernel
theorem d_D_change_4 : decode (jyc Y_D_change) 4 = .ok (.invokevirtual 121, 3) := by decide +kernel
theorem d_D_change_7 : decode (jyc Y_D_change) 7 = .ok (.ifCond .eq 19, 3) := by decide +kernel
theorem d_D_change_10 : decode (jyc Y_D_change) 10 = .ok (.iload 4, 2) := by decide +kernel
theorem d_D_change_12 : decode (jyc Y_D_change) 12 = .ok (.invokestatic 134, 3) := by decide +kernel
theorem d_D_change_15 : decode (jyc Y_D_change) 15 = .ok (.ifCond .eq 11, 3) := by decide +kernel
theorem d_D_change_18 : decode (jyc Y_D_change) 18 = .ok (.iload 5, 2) := by decide +kernel
theorem d_D_change_20 : decode (jyc Y_D_change) 20 = .ok (.invokestatic 69, 3) := by decide +kernel
theorem d_D_change_23 : decode (jyc Y_D_change) 23 = .ok (.ifCond .ne 13, 3) := by decide +kernel
theorem d_D_change_26 : decode (jyc Y_D_change) 26 = .ok (.new 75, 3) := by decide +kernel
theorem d_D_change_29 : decode (jyc Y_D_change) 29 = .ok (.dup, 1) := by decide +kernel
theorem d_D_change_30 : decode (jyc Y_D_change) 30 = .ok (.ldc 137, 2) := by decide +kernel
theorem d_D_change_32 : decode (jyc Y_D_change) 32 = .ok (.invokespecial 79, 3) := by decide +kernel
theorem d_D_change_35 : decode (jyc Y_D_change) 35 = .ok (.athrow, 1) := by decide +kernel
theorem d_D_change_36 : decode (jyc Y_D_change) 36 = .ok (.aload_n 0, 1) := by decide +kernel
theorem d_D_change_37 : decode (jyc Y_D_change) 37 = .ok (.getfield 22, 3) := by decide +kernel
theorem d_D_change_40 : decode (jyc Y_D_change) 40 = .ok (.iload_n 1, 1) := by decide +kernel
theorem d_D_change_41 : decode (jyc Y_D_change) 41 = .ok (.aaload, 1) := by decide +kernel
theorem d_D_change_42 : decode (jyc Y_D_change) 42 = .ok (.getfield 101, 3) := by decide +kernel
theorem d_D_change_45 : decode (jyc Y_D_change) 45 = .ok (.iload_n 2, 1) := by decide +kernel
theorem d_D_change_46 : decode (jyc Y_D_change) 46 = .ok (.aaload, 1) := by decide +kernel
theorem d_D_change_47 : decode (jyc Y_D_change) 47 = .ok (.astore 6, 2) := by decide +kernel
theorem d_D_change_49 : decode (jyc Y_D_change) 49 = .ok (.aload 6, 2) := by decide +kernel
theorem d_D_change_51 : decode (jyc Y_D_change) 51 = .ok (.getfield 127, 3) := by decide +kernel
theorem d_D_change_54 : decode (jyc Y_D_change) 54 = .ok (.iload_n 3, 1) := by decide +kernel
theorem d_D_change_55 : decode (jyc Y_D_change) 55 = .ok (.baload, 1) := by decide +kernel
theorem d_D_change_56 : decode (jyc Y_D_change) 56 = .ok (.ifCond .eq 13, 3) := by decide +kernel
theorem d_D_change_59 : decode (jyc Y_D_change) 59 = .ok (.new 55, 3) := by decide +kernel
theorem d_D_change_62 : decode (jyc Y_D_change) 62 = .ok (.dup, 1) := by decide +kernel
theorem d_D_change_63 : decode (jyc Y_D_change) 63 = .ok (.ldc 139, 2) := by decide +kernel
theorem d_D_change_65 : decode (jyc Y_D_change) 65 = .ok (.invokespecial 59, 3) := by decide +kernel
theorem d_D_change_68 : decode (jyc Y_D_change) 68 = .ok (.athrow, 1) := by decide +kernel
theorem d_D_change_69 : decode (jyc Y_D_change) 69 = .ok (.aload 6, 2) := by decide +kernel
theorem d_D_change_71 : decode (jyc Y_D_change) 71 = .ok (.getfield 141, 3) := by decide +kernel
theorem d_D_change_74 : decode (jyc Y_D_change) 74 = .ok (.iload_n 3, 1) := by decide +kernel
theorem d_D_change_75 : decode (jyc Y_D_change) 75 = .ok (.iload 4, 2) := by decide +kernel
theorem d_D_change_77 : decode (jyc Y_D_change) 77 = .ok (.invokevirtual 142, 3) := by decide +kernel
theorem d_D_change_80 : decode (jyc Y_D_change) 80 = .ok (.iload 5, 2) := by decide +kernel
theorem d_D_change_82 : decode (jyc Y_D_change) 82 = .ok (.invokestatic 146, 3) := by decide +kernel
theorem d_D_change_85 : decode (jyc Y_D_change) 85 = .ok (.istore 7, 2) := by decide +kernel
theorem d_D_change_87 : decode (jyc Y_D_change) 87 = .ok (.aload 6, 2) := by decide +kernel
theorem d_D_change_89 : decode (jyc Y_D_change) 89 = .ok (.getfield 141, 3) := by decide +kernel
theorem d_D_change_92 : decode (jyc Y_D_change) 92 = .ok (.iload_n 3, 1) := by decide +kernel
theorem d_D_change_93 : decode (jyc Y_D_change) 93 = .ok (.iload 4, 2) := by decide +kernel
theorem d_D_change_95 : decode (jyc Y_D_change) 95 = .ok (.iload 7, 2) := by decide +kernel
theorem d_D_change_97 : decode (jyc Y_D_change) 97 = .ok (.invokevirtual 149, 3) := by decide +kernel
theorem d_D_change_100 : decode (jyc Y_D_change) 100 = .ok (.iload 7, 2) := by decide +kernel
theorem d_D_change_102 : decode (jyc Y_D_change) 102 = .ok (.ireturn, 1) := by decide +kernel
theorem d_D_challenge_0 : decode (jyc Y_D_challenge) 0 = .ok (.aload_n 0, 1) := by decide +kernel
theorem d_D_challenge_1 : decode (jyc Y_D_challenge) 1 = .ok (.iload_n 2, 1) := by decide +kernel
theorem d_D_challenge_2 : decode (jyc Y_D_challenge) 2 = .ok (.iload_n 1, 1) := by decide +kernel
theorem d_D_challenge_3 : decode (jyc Y_D_challenge) 3 = .ok (.invokevirtual 153, 3) := by decide +kernel
theorem d_D_challenge_6 : decode (jyc Y_D_challenge) 6 = .ok (.ifCond .eq 23, 3) := by decide +kernel
theorem d_D_challenge_9 : decode (jyc Y_D_challenge) 9 = .ok (.iload 4, 2) := by decide +kernel
theorem d_D_challenge_11 : decode (jyc Y_D_challenge) 11 = .ok (.iconst 1, 1) := by decide +kernel
theorem d_D_challenge_12 : decode (jyc Y_D_challenge) 12 = .ok (.if_icmp .lt 17, 3) := by decide +kernel
theorem d_D_challenge_15 : decode (jyc Y_D_challenge) 15 = .ok (.iload 4, 2) := by decide +kernel
theorem d_D_challenge_17 : decode (jyc Y_D_challenge) 17 = .ok (.aload_n 0, 1) := by decide +kernel
theorem d_D_challenge_18 : decode (jyc Y_D_challenge) 18 = .ok (.getfield 15, 3) := by decide +kernel
theorem d_D_challenge_21 : decode (jyc Y_D_challenge) 21 = .ok (.iload_n 1, 1) := by decide +kernel
theorem d_D_challenge_22 : decode (jyc Y_D_challenge) 22 = .ok (.aaload, 1) := by decide +kernel
theorem d_D_challenge_23 : decode (jyc Y_D_challenge) 23 = .ok (.getfield 114, 3) := by decide +kernel
theorem d_D_challenge_26 : decode (jyc Y_D_challenge) 26 = .ok (.if_icmp .le 13, 3) := by decide +kernel
theorem d_D_challenge_29 : decode (jyc Y_D_challenge) 29 = .ok (.new 75, 3) := by decide +kernel
theorem d_D_challenge_32 : decode (jyc Y_D_challenge) 32 = .ok (.dup, 1) := by decide +kernel
theorem d_D_challenge_33 : decode (jyc Y_D_challenge) 33 = .ok (.ldc 157, 2) := by decide +kernel
theorem d_D_challenge_35 : decode (jyc Y_D_challenge) 35 = .ok (.invokespecial 79, 3) := by decide +kernel
theorem d_D_challenge_38 : decode (jyc Y_D_challenge) 38 = .ok (.athrow, 1) := by decide +kernel
theorem d_D_challenge_39 : decode (jyc Y_D_challenge) 39 = .ok (.aload_n 0, 1) := by decide +kernel
theorem d_D_challenge_40 : decode (jyc Y_D_challenge) 40 = .ok (.getfield 30, 3) := by decide +kernel
theorem d_D_challenge_43 : decode (jyc Y_D_challenge) 43 = .ok (.iload_n 1, 1) := by decide +kernel
theorem d_D_challenge_44 : decode (jyc Y_D_challenge) 44 = .ok (.iload_n 2, 1) := by decide +kernel
theorem d_D_challenge_45 : decode (jyc Y_D_challenge) 45 = .ok (.invokevirtual 159, 3) := by decide +kernel
theorem d_D_challenge_48 : decode (jyc Y_D_challenge) 48 = .ok (.aload_n 0, 1) := by decide +kernel
theorem d_D_challenge_49 : decode (jyc Y_D_challenge) 49 = .ok (.getfield 30, 3) := by decide +kernel
theorem d_D_challenge_52 : decode (jyc Y_D_challenge) 52 = .ok (.iload_n 3, 1) := by decide +kernel
theorem d_D_challenge_53 : decode (jyc Y_D_challenge) 53 = .ok (.iload 4, 2) := by decide +kernel
theorem d_D_challenge_55 : decode (jyc Y_D_challenge) 55 = .ok (.aload_n 0, 1) := by decide +kernel
theorem d_D_challenge_56 : decode (jyc Y_D_challenge) 56 = .ok (.getfield 15, 3) := by decide +kernel
theorem d_D_challenge_59 : decode (jyc Y_D_challenge) 59 = .ok (.iload_n 1, 1) := by decide +kernel
theorem d_D_challenge_60 : decode (jyc Y_D_challenge) 60 = .ok (.aaload, 1) := by decide +kernel
theorem d_D_challenge_61 : decode (jyc Y_D_challenge) 61 = .ok (.getfield 114, 3) := by decide +kernel
theorem d_D_challenge_64 : decode (jyc Y_D_challenge) 64 = .ok (.invokevirtual 163, 3) := by decide +kernel
theorem d_D_challenge_67 : decode (jyc Y_D_challenge) 67 = .ok (.aload_n 0, 1) := by decide +kernel
theorem d_D_challenge_68 : decode (jyc Y_D_challenge) 68 = .ok (.getfield 30, 3) := by decide +kernel
theorem d_D_challenge_71 : decode (jyc Y_D_challenge) 71 = .ok (.aload_n 0, 1) := by decide +kernel
theorem d_D_challenge_72 : decode (jyc Y_D_challenge) 72 = .ok (.getfield 22, 3) := by decide +kernel
theorem d_D_challenge_75 : decode (jyc Y_D_challenge) 75 = .ok (.iload_n 2, 1) := by decide +kernel
theorem d_D_challenge_76 : decode (jyc Y_D_challenge) 76 = .ok (.aaload, 1) := by decide +kernel
theorem d_D_challenge_77 : decode (jyc Y_D_challenge) 77 = .ok (.getfield 101, 3) := by decide +kernel
theorem d_D_challenge_80 : decode (jyc Y_D_challenge) 80 = .ok (.iload_n 1, 1) := by decide +kernel
theorem d_D_challenge_81 : decode (jyc Y_D_challenge) 81 = .ok (.aaload, 1) := by decide +kernel
theorem d_D_challenge_82 : decode (jyc Y_D_challenge) 82 = .ok (.getfield 141, 3) := by decide +kernel
theorem d_D_challenge_85 : decode (jyc Y_D_challenge) 85 = .ok (.invokevirtual 166, 3) := by decide +kernel
theorem d_D_challenge_88 : decode (jyc Y_D_challenge) 88 = .ok (.aload_n 0, 1) := by decide +kernel
theorem d_D_challenge_89 : decode (jyc Y_D_challenge) 89 = .ok (.getfield 30, 3) := by decide +kernel
theorem d_D_challenge_92 : decode (jyc Y_D_challenge) 92 = .ok (.getfield 170, 3) := by decide +kernel
theorem d_D_challenge_95 : decode (jyc Y_D_challenge) 95 = .ok (.iconst 0, 1) := by decide +kernel
theorem d_D_challenge_96 : decode (jyc Y_D_challenge) 96 = .ok (.iaload, 1) := by decide +kernel
theorem d_D_challenge_97 : decode (jyc Y_D_challenge) 97 = .ok (.ireturn, 1) := by decide +kernel
theorem d_D_asked_0 : decode (jyc Y_D_asked) 0 = .ok (.aload_n 0, 1) := by decide +kernel
theorem d_D_asked_1 : decode (jyc Y_D_asked) 1 = .ok (.getfield 30, 3) := by decide +kernel
theorem d_D_asked_4 : decode (jyc Y_D_asked) 4 = .ok (.getfield 172, 3) := by decide +kernel
theorem d_D_asked_7 : decode (jyc Y_D_asked) 7 = .ok (.ifCond .eq 7, 3) := by decide +kernel
theorem d_D_asked_10 : decode (jyc Y_D_asked) 10 = .ok (.iload_n 2, 1) := by decide +kernel
theorem d_D_asked_11 : decode (jyc Y_D_asked) 11 = .ok (.ifCond .ge 5, 3) := by decide +kernel
theorem d_D_asked_14 : decode (jyc Y_D_asked) 14 = .ok (.iconst (-1), 1) := by decide +kernel
theorem d_D_asked_15 : decode (jyc Y_D_asked) 15 = .ok (.ireturn, 1) := by decide +kernel
theorem d_D_asked_16 : decode (jyc Y_D_asked) 16 = .ok (.iload_n 1, 1) := by decide +kernel
theorem d_D_asked_17 : decode (jyc Y_D_asked) 17 = .ok (.ifCond .ne 24, 3) := by decide +kernel
theorem d_D_asked_20 : decode (jyc Y_D_asked) 20 = .ok (.iload_n 2, 1) := by decide +kernel
theorem d_D_asked_21 : decode (jyc Y_D_asked) 21 = .ok (.aload_n 0, 1) := by decide +kernel
theorem d_D_asked_22 : decode (jyc Y_D_asked) 22 = .ok (.getfield 30, 3) := by decide +kernel
theorem d_D_asked_25 : decode (jyc Y_D_asked) 25 = .ok (.getfield 175, 3) := by decide +kernel
theorem d_D_asked_28 : decode (jyc Y_D_asked) 28 = .ok (.if_icmp .ge 13, 3) := by decide +kernel
theorem d_D_asked_31 : decode (jyc Y_D_asked) 31 = .ok (.aload_n 0, 1) := by decide +kernel
theorem d_D_asked_32 : decode (jyc Y_D_asked) 32 = .ok (.getfield 30, 3) := by decide +kernel
theorem d_D_asked_35 : decode (jyc Y_D_asked) 35 = .ok (.getfield 170, 3) := by decide +kernel
theorem d_D_asked_38 : decode (jyc Y_D_asked) 38 = .ok (.iload_n 2, 1) := by decide +kernel
theorem d_D_asked_39 : decode (jyc Y_D_asked) 39 = .ok (.iaload, 1) := by decide +kernel
theorem d_D_asked_40 : decode (jyc Y_D_asked) 40 = .ok (.ireturn, 1) := by decide +kernel
theorem d_D_asked_41 : decode (jyc Y_D_asked) 41 = .ok (.iload_n 1, 1) := by decide +kernel
theorem d_D_asked_42 : decode (jyc Y_D_asked) 42 = .ok (.iconst 1, 1) := by decide +kernel
theorem d_D_asked_43 : decode (jyc Y_D_asked) 43 = .ok (.if_icmp .ne 24, 3) := by decide +kernel
theorem d_D_asked_46 : decode (jyc Y_D_asked) 46 = .ok (.iload_n 2, 1) := by decide +kernel
theorem d_D_asked_47 : decode (jyc Y_D_asked) 47 = .ok (.aload_n 0, 1) := by decide +kernel
theorem d_D_asked_48 : decode (jyc Y_D_asked) 48 = .ok (.getfield 30, 3) := by decide +kernel
theorem d_D_asked_51 : decode (jyc Y_D_asked) 51 = .ok (.getfield 175, 3) := by decide +kernel
theorem d_D_asked_54 : decode (jyc Y_D_asked) 54 = .ok (.if_icmp .ge 13, 3) := by decide +kernel
theorem d_D_asked_57 : decode (jyc Y_D_asked) 57 = .ok (.aload_n 0, 1) := by decide +kernel
theorem d_D_asked_58 : decode (jyc Y_D_asked) 58 = .ok (.getfield 30, 3) := by decide +kernel
theorem d_D_asked_61 : decode (jyc Y_D_asked) 61 = .ok (.getfield 178, 3) := by decide +kernel
theorem d_D_asked_64 : decode (jyc Y_D_asked) 64 = .ok (.iload_n 2, 1) := by decide +kernel
theorem d_D_asked_65 : decode (jyc Y_D_asked) 65 = .ok (.iaload, 1) := by decide +kernel
theorem d_D_asked_66 : decode (jyc Y_D_asked) 66 = .ok (.ireturn, 1) := by decide +kernel
theorem d_D_asked_67 : decode (jyc Y_D_asked) 67 = .ok (.iload_n 1, 1) := by decide +kernel
theorem d_D_asked_68 : decode (jyc Y_D_asked) 68 = .ok (.iconst 2, 1) := by decide +kernel
theorem d_D_asked_69 : decode (jyc Y_D_asked) 69 = .ok (.if_icmp .ne 18, 3) := by decide +kernel
theorem d_D_asked_72 : decode (jyc Y_D_asked) 72 = .ok (.iload_n 2, 1) := by decide +kernel
theorem d_D_asked_73 : decode (jyc Y_D_asked) 73 = .ok (.iconst 5, 1) := by decide +kernel
theorem d_D_asked_74 : decode (jyc Y_D_asked) 74 = .ok (.if_icmp .ge 13, 3) := by decide +kernel
theorem d_D_asked_77 : decode (jyc Y_D_asked) 77 = .ok (.aload_n 0, 1) := by decide +kernel
theorem d_D_asked_78 : decode (jyc Y_D_asked) 78 = .ok (.getfield 30, 3) := by decide +kernel
theorem d_D_asked_81 : decode (jyc Y_D_asked) 81 = .ok (.getfield 181, 3) := by decide +kernel
theorem d_D_asked_84 : decode (jyc Y_D_asked) 84 = .ok (.iload_n 2, 1) := by decide +kernel
theorem d_D_asked_85 : decode (jyc Y_D_asked) 85 = .ok (.iaload, 1) := by decide +kernel
theorem d_D_asked_86 : decode (jyc Y_D_asked) 86 = .ok (.ireturn, 1) := by decide +kernel
theorem d_D_asked_87 : decode (jyc Y_D_asked) 87 = .ok (.iconst (-1), 1) := by decide +kernel
theorem d_D_asked_88 : decode (jyc Y_D_asked) 88 = .ok (.ireturn, 1) := by decide +kernel
theorem d_D_tamper_0 : decode (jyc Y_D_tamper) 0 = .ok (.aload_n 0, 1) := by decide +kernel
theorem d_D_tamper_1 : decode (jyc Y_D_tamper) 1 = .ok (.getfield 30, 3) := by decide +kernel
theorem d_D_tamper_4 : decode (jyc Y_D_tamper) 4 = .ok (.getfield 172, 3) := by decide +kernel
theorem d_D_tamper_7 : decode (jyc Y_D_tamper) 7 = .ok (.ifCond .eq 17, 3) := by decide +kernel
theorem d_D_tamper_10 : decode (jyc Y_D_tamper) 10 = .ok (.iload_n 1, 1) := by decide +kernel
theorem d_D_tamper_11 : decode (jyc Y_D_tamper) 11 = .ok (.invokestatic 134, 3) := by decide +kernel
theorem d_D_tamper_14 : decode (jyc Y_D_tamper) 14 = .ok (.ifCond .eq 10, 3) := by decide +kernel
theorem d_D_tamper_17 : decode (jyc Y_D_tamper) 17 = .ok (.iload_n 2, 1) := by decide +kernel
theorem d_D_tamper_18 : decode (jyc Y_D_tamper) 18 = .ok (.invokestatic 69, 3) := by decide +kernel
theorem d_D_tamper_21 : decode (jyc Y_D_tamper) 21 = .ok (.ifCond .ne 5, 3) := by decide +kernel
theorem d_D_tamper_24 : decode (jyc Y_D_tamper) 24 = .ok (.iconst 0, 1) := by decide +kernel
theorem d_D_tamper_25 : decode (jyc Y_D_tamper) 25 = .ok (.ireturn, 1) := by decide +kernel
theorem d_D_tamper_26 : decode (jyc Y_D_tamper) 26 = .ok (.aload_n 0, 1) := by decide +kernel
theorem d_D_tamper_27 : decode (jyc Y_D_tamper) 27 = .ok (.getfield 30, 3) := by decide +kernel
theorem d_D_tamper_30 : decode (jyc Y_D_tamper) 30 = .ok (.getfield 181, 3) := by decide +kernel
theorem d_D_tamper_33 : decode (jyc Y_D_tamper) 33 = .ok (.iload_n 1, 1) := by decide +kernel
theorem d_D_tamper_34 : decode (jyc Y_D_tamper) 34 = .ok (.aload_n 0, 1) := by decide +kernel
theorem d_D_tamper_35 : decode (jyc Y_D_tamper) 35 = .ok (.getfield 30, 3) := by decide +kernel
theorem d_D_tamper_38 : decode (jyc Y_D_tamper) 38 = .ok (.getfield 181, 3) := by decide +kernel
theorem d_D_tamper_41 : decode (jyc Y_D_tamper) 41 = .ok (.iload_n 1, 1) := by decide +kernel
theorem d_D_tamper_42 : decode (jyc Y_D_tamper) 42 = .ok (.iaload, 1) := by decide +kernel
theorem d_D_tamper_43 : decode (jyc Y_D_tamper) 43 = .ok (.iload_n 2, 1) := by decide +kernel
theorem d_D_tamper_44 : decode (jyc Y_D_tamper) 44 = .ok (.invokestatic 146, 3) := by decide +kernel
theorem d_D_tamper_47 : decode (jyc Y_D_tamper) 47 = .ok (.iastore, 1) := by decide +kernel
theorem d_D_tamper_48 : decode (jyc Y_D_tamper) 48 = .ok (.iconst 1, 1) := by decide +kernel
theorem d_D_tamper_49 : decode (jyc Y_D_tamper) 49 = .ok (.ireturn, 1) := by decide +kernel
theorem d_D_judge_0 : decode (jyc Y_D_judge) 0 = .ok (.aload_n 0, 1) := by decide +kernel
theorem d_D_judge_1 : decode (jyc Y_D_judge) 1 = .ok (.getfield 30, 3) := by decide +kernel
theorem d_D_judge_4 : decode (jyc Y_D_judge) 4 = .ok (.getfield 172, 3) := by decide +kernel
theorem d_D_judge_7 : decode (jyc Y_D_judge) 7 = .ok (.ifCond .ne 13, 3) := by decide +kernel
theorem d_D_judge_10 : decode (jyc Y_D_judge) 10 = .ok (.new 55, 3) := by decide +kernel
theorem d_D_judge_13 : decode (jyc Y_D_judge) 13 = .ok (.dup, 1) := by decide +kernel
theorem d_D_judge_14 : decode (jyc Y_D_judge) 14 = .ok (.ldc 184, 2) := by decide +kernel
theorem d_D_judge_16 : decode (jyc Y_D_judge) 16 = .ok (.invokespecial 59, 3) := by decide +kernel
theorem d_D_judge_19 : decode (jyc Y_D_judge) 19 = .ok (.athrow, 1) := by decide +kernel
theorem d_D_judge_20 : decode (jyc Y_D_judge) 20 = .ok (.aload_n 0, 1) := by decide +kernel
theorem d_D_judge_21 : decode (jyc Y_D_judge) 21 = .ok (.getfield 30, 3) := by decide +kernel
theorem d_D_judge_24 : decode (jyc Y_D_judge) 24 = .ok (.aload_n 0, 1) := by decide +kernel
theorem d_D_judge_25 : decode (jyc Y_D_judge) 25 = .ok (.getfield 15, 3) := by decide +kernel
theorem d_D_judge_28 : decode (jyc Y_D_judge) 28 = .ok (.aload_n 0, 1) := by decide +kernel
theorem d_D_judge_29 : decode (jyc Y_D_judge) 29 = .ok (.getfield 30, 3) := by decide +kernel
theorem d_D_judge_32 : decode (jyc Y_D_judge) 32 = .ok (.getfield 186, 3) := by decide +kernel
theorem d_D_judge_35 : decode (jyc Y_D_judge) 35 = .ok (.aaload, 1) := by decide +kernel
theorem d_D_judge_36 : decode (jyc Y_D_judge) 36 = .ok (.invokevirtual 189, 3) := by decide +kernel
theorem d_D_judge_39 : decode (jyc Y_D_judge) 39 = .ok (.istore_n 1, 1) := by decide +kernel
theorem d_D_judge_40 : decode (jyc Y_D_judge) 40 = .ok (.iload_n 1, 1) := by decide +kernel
theorem d_D_judge_41 : decode (jyc Y_D_judge) 41 = .ok (.ifCond .eq 27, 3) := by decide +kernel
theorem d_D_judge_44 : decode (jyc Y_D_judge) 44 = .ok (.aload_n 0, 1) := by decide +kernel
theorem d_D_judge_45 : decode (jyc Y_D_judge) 45 = .ok (.getfield 22, 3) := by decide +kernel
theorem d_D_judge_48 : decode (jyc Y_D_judge) 48 = .ok (.aload_n 0, 1) := by decide +kernel
theorem d_D_judge_49 : decode (jyc Y_D_judge) 49 = .ok (.getfield 30, 3) := by decide +kernel
theorem d_D_judge_52 : decode (jyc Y_D_judge) 52 = .ok (.getfield 193, 3) := by decide +kernel
theorem d_D_judge_55 : decode (jyc Y_D_judge) 55 = .ok (.aaload, 1) := by decide +kernel
theorem d_D_judge_56 : decode (jyc Y_D_judge) 56 = .ok (.dup, 1) := by decide +kernel
theorem d_D_judge_57 : decode (jyc Y_D_judge) 57 = .ok (.getfield 196, 3) := by decide +kernel
theorem d_D_judge_60 : decode (jyc Y_D_judge) 60 = .ok (.iconst 1, 1) := by decide +kernel
theorem d_D_judge_61 : decode (jyc Y_D_judge) 61 = .ok (.iadd, 1) := by decide +kernel
theorem d_D_judge_62 : decode (jyc Y_D_judge) 62 = .ok (.putfield 196, 3) := by decide +kernel
theorem d_D_judge_65 : decode (jyc Y_D_judge) 65 = .ok (.goto 24, 3) := by decide +kernel
theorem d_D_judge_68 : decode (jyc Y_D_judge) 68 = .ok (.aload_n 0, 1) := by decide +kernel
theorem d_D_judge_69 : decode (jyc Y_D_judge) 69 = .ok (.getfield 22, 3) := by decide +kernel
theorem d_D_judge_72 : decode (jyc Y_D_judge) 72 = .ok (.aload_n 0, 1) := by decide +kernel
theorem d_D_judge_73 : decode (jyc Y_D_judge) 73 = .ok (.getfield 30, 3) := by decide +kernel
theorem d_D_judge_76 : decode (jyc Y_D_judge) 76 = .ok (.getfield 193, 3) := by decide +kernel
theorem d_D_judge_79 : decode (jyc Y_D_judge) 79 = .ok (.aaload, 1) := by decide +kernel
theorem d_D_judge_80 : decode (jyc Y_D_judge) 80 = .ok (.dup, 1) := by decide +kernel
theorem d_D_judge_81 : decode (jyc Y_D_judge) 81 = .ok (.getfield 199, 3) := by decide +kernel
theorem d_D_judge_84 : decode (jyc Y_D_judge) 84 = .ok (.iconst 1, 1) := by decide +kernel
theorem d_D_judge_85 : decode (jyc Y_D_judge) 85 = .ok (.iadd, 1) := by decide +kernel
theorem d_D_judge_86 : decode (jyc Y_D_judge) 86 = .ok (.putfield 199, 3) := by decide +kernel
theorem d_D_judge_89 : decode (jyc Y_D_judge) 89 = .ok (.iload_n 1, 1) := by decide +kernel
theorem d_D_judge_90 : decode (jyc Y_D_judge) 90 = .ok (.ireturn, 1) := by decide +kernel
theorem d_D_locate_0 : decode (jyc Y_D_locate) 0 = .ok (.aload_n 0, 1) := by decide +kernel
theorem d_D_locate_1 : decode (jyc Y_D_locate) 1 = .ok (.iload_n 2, 1) := by decide +kernel
theorem d_D_locate_2 : decode (jyc Y_D_locate) 2 = .ok (.iload_n 1, 1) := by decide +kernel
theorem d_D_locate_3 : decode (jyc Y_D_locate) 3 = .ok (.invokevirtual 153, 3) := by decide +kernel
theorem d_D_locate_6 : decode (jyc Y_D_locate) 6 = .ok (.ifCond .ne 13, 3) := by decide +kernel
theorem d_D_locate_9 : decode (jyc Y_D_locate) 9 = .ok (.new 75, 3) := by decide +kernel
theorem d_D_locate_12 : decode (jyc Y_D_locate) 12 = .ok (.dup, 1) := by decide +kernel
theorem d_D_locate_13 : decode (jyc Y_D_locate) 13 = .ok (.ldc 202, 2) := by decide +kernel
theorem d_D_locate_15 : decode (jyc Y_D_locate) 15 = .ok (.invokespecial 79, 3) := by decide +kernel
theorem d_D_locate_18 : decode (jyc Y_D_locate) 18 = .ok (.athrow, 1) := by decide +kernel
theorem d_D_locate_19 : decode (jyc Y_D_locate) 19 = .ok (.aload_n 0, 1) := by decide +kernel
theorem d_D_locate_20 : decode (jyc Y_D_locate) 20 = .ok (.iconst 0, 1) := by decide +kernel
theorem d_D_locate_21 : decode (jyc Y_D_locate) 21 = .ok (.putfield 204, 3) := by decide +kernel
theorem d_D_locate_24 : decode (jyc Y_D_locate) 24 = .ok (.iconst 0, 1) := by decide +kernel
theorem d_D_locate_25 : decode (jyc Y_D_locate) 25 = .ok (.istore_n 3, 1) := by decide +kernel
theorem d_D_locate_26 : decode (jyc Y_D_locate) 26 = .ok (.iload_n 3, 1) := by decide +kernel
theorem d_D_locate_27 : decode (jyc Y_D_locate) 27 = .ok (.aload_n 0, 1) := by decide +kernel
theorem d_D_locate_28 : decode (jyc Y_D_locate) 28 = .ok (.getfield 15, 3) := by decide +kernel
theorem d_D_locate_31 : decode (jyc Y_D_locate) 31 = .ok (.iload_n 1, 1) := by decide +kernel
theorem d_D_locate_32 : decode (jyc Y_D_locate) 32 = .ok (.aaload, 1) := by decide +kernel
theorem d_D_locate_33 : decode (jyc Y_D_locate) 33 = .ok (.getfield 114, 3) := by decide +kernel
theorem d_D_locate_36 : decode (jyc Y_D_locate) 36 = .ok (.if_icmp .ge 39, 3) := by decide +kernel
theorem d_D_locate_39 : decode (jyc Y_D_locate) 39 = .ok (.aload_n 0, 1) := by decide +kernel
theorem d_D_locate_40 : decode (jyc Y_D_locate) 40 = .ok (.iload_n 2, 1) := by decide +kernel
theorem d_D_locate_41 : decode (jyc Y_D_locate) 41 = .ok (.iload_n 1, 1) := by decide +kernel
theorem d_D_locate_42 : decode (jyc Y_D_locate) 42 = .ok (.iload_n 3, 1) := by decide +kernel
theorem d_D_locate_43 : decode (jyc Y_D_locate) 43 = .ok (.invokevirtual 207, 3) := by decide +kernel
theorem d_D_locate_46 : decode (jyc Y_D_locate) 46 = .ok (.ifCond .ne 23, 3) := by decide +kernel
theorem d_D_locate_49 : decode (jyc Y_D_locate) 49 = .ok (.aload_n 0, 1) := by decide +kernel
theorem d_D_locate_50 : decode (jyc Y_D_locate) 50 = .ok (.getfield 34, 3) := by decide +kernel
theorem d_D_locate_53 : decode (jyc Y_D_locate) 53 = .ok (.aload_n 0, 1) := by decide +kernel
theorem d_D_locate_54 : decode (jyc Y_D_locate) 54 = .ok (.getfield 204, 3) := by decide +kernel
theorem d_D_locate_57 : decode (jyc Y_D_locate) 57 = .ok (.iload_n 3, 1) := by decide +kernel
theorem d_D_locate_58 : decode (jyc Y_D_locate) 58 = .ok (.iastore, 1) := by decide +kernel
theorem d_D_locate_59 : decode (jyc Y_D_locate) 59 = .ok (.aload_n 0, 1) := by decide +kernel
theorem d_D_locate_60 : decode (jyc Y_D_locate) 60 = .ok (.dup, 1) := by decide +kernel
theorem d_D_locate_61 : decode (jyc Y_D_locate) 61 = .ok (.getfield 204, 3) := by decide +kernel
theorem d_D_locate_64 : decode (jyc Y_D_locate) 64 = .ok (.iconst 1, 1) := by decide +kernel
theorem d_D_locate_65 : decode (jyc Y_D_locate) 65 = .ok (.iadd, 1) := by decide +kernel
theorem d_D_locate_66 : decode (jyc Y_D_locate) 66 = .ok (.putfield 204, 3) := by decide +kernel
theorem d_D_locate_69 : decode (jyc Y_D_locate) 69 = .ok (.iinc 3 1, 3) := by decide +kernel
theorem d_D_locate_72 : decode (jyc Y_D_locate) 72 = .ok (.goto (-46), 3) := by decide +kernel
theorem d_D_locate_75 : decode (jyc Y_D_locate) 75 = .ok (.aload_n 0, 1) := by decide +kernel
theorem d_D_locate_76 : decode (jyc Y_D_locate) 76 = .ok (.getfield 204, 3) := by decide +kernel
theorem d_D_locate_79 : decode (jyc Y_D_locate) 79 = .ok (.ireturn, 1) := by decide +kernel
theorem d_D_found_0 : decode (jyc Y_D_found) 0 = .ok (.iload_n 1, 1) := by decide +kernel
theorem d_D_found_1 : decode (jyc Y_D_found) 1 = .ok (.ifCond .lt 20, 3) := by decide +kernel
theorem d_D_found_4 : decode (jyc Y_D_found) 4 = .ok (.iload_n 1, 1) := by decide +kernel
theorem d_D_found_5 : decode (jyc Y_D_found) 5 = .ok (.aload_n 0, 1) := by decide +kernel
theorem d_D_found_6 : decode (jyc Y_D_found) 6 = .ok (.getfield 204, 3) := by decide +kernel
theorem d_D_found_9 : decode (jyc Y_D_found) 9 = .ok (.if_icmp .ge 12, 3) := by decide +kernel
theorem d_D_found_12 : decode (jyc Y_D_found) 12 = .ok (.aload_n 0, 1) := by decide +kernel
theorem d_D_found_13 : decode (jyc Y_D_found) 13 = .ok (.getfield 34, 3) := by decide +kernel
theorem d_D_found_16 : decode (jyc Y_D_found) 16 = .ok (.iload_n 1, 1) := by decide +kernel
theorem d_D_found_17 : decode (jyc Y_D_found) 17 = .ok (.iaload, 1) := by decide +kernel
theorem d_D_found_18 : decode (jyc Y_D_found) 18 = .ok (.goto 4, 3) := by decide +kernel
theorem d_D_found_21 : decode (jyc Y_D_found) 21 = .ok (.iconst (-1), 1) := by decide +kernel
theorem d_D_found_22 : decode (jyc Y_D_found) 22 = .ok (.ireturn, 1) := by decide +kernel
theorem d_D_repair_0 : decode (jyc Y_D_repair) 0 = .ok (.aload_n 0, 1) := by decide +kernel
theorem d_D_repair_1 : decode (jyc Y_D_repair) 1 = .ok (.iload_n 1, 1) := by decide +kernel
theorem d_D_repair_2 : decode (jyc Y_D_repair) 2 = .ok (.invokevirtual 90, 3) := by decide +kernel
theorem d_D_repair_5 : decode (jyc Y_D_repair) 5 = .ok (.ifCond .eq 10, 3) := by decide +kernel
theorem d_D_repair_8 : decode (jyc Y_D_repair) 8 = .ok (.iload_n 2, 1) := by decide +kernel
theorem d_D_repair_9 : decode (jyc Y_D_repair) 9 = .ok (.invokestatic 93, 3) := by decide +kernel
theorem d_D_repair_12 : decode (jyc Y_D_repair) 12 = .ok (.ifCond .ne 13, 3) := by decide +kernel
theorem d_D_repair_15 : decode (jyc Y_D_repair) 15 = .ok (.new 96, 3) := by decide +kernel
theorem d_D_repair_18 : decode (jyc Y_D_repair) 18 = .ok (.dup, 1) := by decide +kernel
theorem d_D_repair_19 : decode (jyc Y_D_repair) 19 = .ok (.ldc 98, 2) := by decide +kernel
theorem d_D_repair_21 : decode (jyc Y_D_repair) 21 = .ok (.invokespecial 100, 3) := by decide +kernel
theorem d_D_repair_24 : decode (jyc Y_D_repair) 24 = .ok (.athrow, 1) := by decide +kernel
theorem d_D_repair_25 : decode (jyc Y_D_repair) 25 = .ok (.aload_n 0, 1) := by decide +kernel
theorem d_D_repair_26 : decode (jyc Y_D_repair) 26 = .ok (.iload_n 1, 1) := by decide +kernel
theorem d_D_repair_27 : decode (jyc Y_D_repair) 27 = .ok (.invokevirtual 210, 3) := by decide +kernel
theorem d_D_repair_30 : decode (jyc Y_D_repair) 30 = .ok (.ifCond .ne 13, 3) := by decide +kernel
theorem d_D_repair_33 : decode (jyc Y_D_repair) 33 = .ok (.new 55, 3) := by decide +kernel
theorem d_D_repair_36 : decode (jyc Y_D_repair) 36 = .ok (.dup, 1) := by decide +kernel
theorem d_D_repair_37 : decode (jyc Y_D_repair) 37 = .ok (.ldc 213, 2) := by decide +kernel
theorem d_D_repair_39 : decode (jyc Y_D_repair) 39 = .ok (.invokespecial 59, 3) := by decide +kernel
theorem d_D_repair_42 : decode (jyc Y_D_repair) 42 = .ok (.athrow, 1) := by decide +kernel
theorem d_D_repair_43 : decode (jyc Y_D_repair) 43 = .ok (.aload_n 0, 1) := by decide +kernel
theorem d_D_repair_44 : decode (jyc Y_D_repair) 44 = .ok (.getfield 22, 3) := by decide +kernel
theorem d_D_repair_47 : decode (jyc Y_D_repair) 47 = .ok (.iload_n 2, 1) := by decide +kernel
theorem d_D_repair_48 : decode (jyc Y_D_repair) 48 = .ok (.aaload, 1) := by decide +kernel
theorem d_D_repair_49 : decode (jyc Y_D_repair) 49 = .ok (.getfield 101, 3) := by decide +kernel
theorem d_D_repair_52 : decode (jyc Y_D_repair) 52 = .ok (.iload_n 1, 1) := by decide +kernel
theorem d_D_repair_53 : decode (jyc Y_D_repair) 53 = .ok (.aaload, 1) := by decide +kernel
theorem d_D_repair_54 : decode (jyc Y_D_repair) 54 = .ok (.aload_n 0, 1) := by decide +kernel
theorem d_D_repair_55 : decode (jyc Y_D_repair) 55 = .ok (.getfield 43, 3) := by decide +kernel
theorem d_D_repair_58 : decode (jyc Y_D_repair) 58 = .ok (.aload_n 0, 1) := by decide +kernel
theorem d_D_repair_59 : decode (jyc Y_D_repair) 59 = .ok (.getfield 15, 3) := by decide +kernel
theorem d_D_repair_62 : decode (jyc Y_D_repair) 62 = .ok (.iload_n 1, 1) := by decide +kernel
theorem d_D_repair_63 : decode (jyc Y_D_repair) 63 = .ok (.aaload, 1) := by decide +kernel
theorem d_D_repair_64 : decode (jyc Y_D_repair) 64 = .ok (.getfield 114, 3) := by decide +kernel
theorem d_D_repair_67 : decode (jyc Y_D_repair) 67 = .ok (.invokevirtual 117, 3) := by decide +kernel
theorem d_D_repair_70 : decode (jyc Y_D_repair) 70 = .ok (.istore_n 3, 1) := by decide +kernel
theorem d_D_repair_71 : decode (jyc Y_D_repair) 71 = .ok (.aload_n 0, 1) := by decide +kernel
theorem d_D_repair_72 : decode (jyc Y_D_repair) 72 = .ok (.getfield 22, 3) := by decide +kernel
theorem d_D_repair_75 : decode (jyc Y_D_repair) 75 = .ok (.iload_n 2, 1) := by decide +kernel
theorem d_D_repair_76 : decode (jyc Y_D_repair) 76 = .ok (.aaload, 1) := by decide +kernel
theorem d_D_repair_77 : decode (jyc Y_D_repair) 77 = .ok (.dup, 1) := by decide +kernel
theorem d_D_repair_78 : decode (jyc Y_D_repair) 78 = .ok (.getfield 215, 3) := by decide +kernel
theorem d_D_repair_81 : decode (jyc Y_D_repair) 81 = .ok (.iload_n 3, 1) := by decide +kernel
theorem d_D_repair_82 : decode (jyc Y_D_repair) 82 = .ok (.iadd, 1) := by decide +kernel
theorem d_D_repair_83 : decode (jyc Y_D_repair) 83 = .ok (.putfield 215, 3) := by decide +kernel
theorem d_D_repair_86 : decode (jyc Y_D_repair) 86 = .ok (.iload_n 3, 1) := by decide +kernel
theorem d_D_repair_87 : decode (jyc Y_D_repair) 87 = .ok (.ireturn, 1) := by decide +kernel
theorem d_D_fetch_0 : decode (jyc Y_D_fetch) 0 = .ok (.aload_n 0, 1) := by decide +kernel
theorem d_D_fetch_1 : decode (jyc Y_D_fetch) 1 = .ok (.iload_n 1, 1) := by decide +kernel
theorem d_D_fetch_2 : decode (jyc Y_D_fetch) 2 = .ok (.invokevirtual 90, 3) := by decide +kernel
theorem d_D_fetch_5 : decode (jyc Y_D_fetch) 5 = .ok (.ifCond .ne 13, 3) := by decide +kernel
theorem d_D_fetch_8 : decode (jyc Y_D_fetch) 8 = .ok (.new 96, 3) := by decide +kernel
theorem d_D_fetch_11 : decode (jyc Y_D_fetch) 11 = .ok (.dup, 1) := by decide +kernel
theorem d_D_fetch_12 : decode (jyc Y_D_fetch) 12 = .ok (.ldc 218, 2) := by decide +kernel
theorem d_D_fetch_14 : decode (jyc Y_D_fetch) 14 = .ok (.invokespecial 100, 3) := by decide +kernel
theorem d_D_fetch_17 : decode (jyc Y_D_fetch) 17 = .ok (.athrow, 1) := by decide +kernel
theorem d_D_fetch_18 : decode (jyc Y_D_fetch) 18 = .ok (.aload_n 0, 1) := by decide +kernel
theorem d_D_fetch_19 : decode (jyc Y_D_fetch) 19 = .ok (.iload_n 1, 1) := by decide +kernel
theorem d_D_fetch_20 : decode (jyc Y_D_fetch) 20 = .ok (.invokevirtual 210, 3) := by decide +kernel
theorem d_D_fetch_23 : decode (jyc Y_D_fetch) 23 = .ok (.ifCond .ne 13, 3) := by decide +kernel
theorem d_D_fetch_26 : decode (jyc Y_D_fetch) 26 = .ok (.new 55, 3) := by decide +kernel
theorem d_D_fetch_29 : decode (jyc Y_D_fetch) 29 = .ok (.dup, 1) := by decide +kernel
theorem d_D_fetch_30 : decode (jyc Y_D_fetch) 30 = .ok (.ldc 213, 2) := by decide +kernel
theorem d_D_fetch_32 : decode (jyc Y_D_fetch) 32 = .ok (.invokespecial 59, 3) := by decide +kernel
theorem d_D_fetch_35 : decode (jyc Y_D_fetch) 35 = .ok (.athrow, 1) := by decide +kernel
theorem d_D_fetch_36 : decode (jyc Y_D_fetch) 36 = .ok (.aload_n 0, 1) := by decide +kernel
theorem d_D_fetch_37 : decode (jyc Y_D_fetch) 37 = .ok (.aload_n 0, 1) := by decide +kernel
theorem d_D_fetch_38 : decode (jyc Y_D_fetch) 38 = .ok (.getfield 15, 3) := by decide +kernel
theorem d_D_fetch_41 : decode (jyc Y_D_fetch) 41 = .ok (.iload_n 1, 1) := by decide +kernel
theorem d_D_fetch_42 : decode (jyc Y_D_fetch) 42 = .ok (.aaload, 1) := by decide +kernel
theorem d_D_fetch_43 : decode (jyc Y_D_fetch) 43 = .ok (.getfield 220, 3) := by decide +kernel
theorem d_D_fetch_46 : decode (jyc Y_D_fetch) 46 = .ok (.putfield 223, 3) := by decide +kernel
theorem d_D_fetch_49 : decode (jyc Y_D_fetch) 49 = .ok (.iconst 0, 1) := by decide +kernel
theorem d_D_fetch_50 : decode (jyc Y_D_fetch) 50 = .ok (.istore_n 2, 1) := by decide +kernel
theorem d_D_fetch_51 : decode (jyc Y_D_fetch) 51 = .ok (.iload_n 2, 1) := by decide +kernel
theorem d_D_fetch_52 : decode (jyc Y_D_fetch) 52 = .ok (.aload_n 0, 1) := by decide +kernel
theorem d_D_fetch_53 : decode (jyc Y_D_fetch) 53 = .ok (.getfield 223, 3) := by decide +kernel
theorem d_D_fetch_56 : decode (jyc Y_D_fetch) 56 = .ok (.if_icmp .ge 29, 3) := by decide +kernel
theorem d_D_fetch_59 : decode (jyc Y_D_fetch) 59 = .ok (.aload_n 0, 1) := by decide +kernel
theorem d_D_fetch_60 : decode (jyc Y_D_fetch) 60 = .ok (.getfield 37, 3) := by decide +kernel
theorem d_D_fetch_63 : decode (jyc Y_D_fetch) 63 = .ok (.iload_n 2, 1) := by decide +kernel
theorem d_D_fetch_64 : decode (jyc Y_D_fetch) 64 = .ok (.aload_n 0, 1) := by decide +kernel
theorem d_D_fetch_65 : decode (jyc Y_D_fetch) 65 = .ok (.getfield 43, 3) := by decide +kernel
theorem d_D_fetch_68 : decode (jyc Y_D_fetch) 68 = .ok (.iload_n 2, 1) := by decide +kernel
theorem d_D_fetch_69 : decode (jyc Y_D_fetch) 69 = .ok (.invokestatic 226, 3) := by decide +kernel
theorem d_D_fetch_72 : decode (jyc Y_D_fetch) 72 = .ok (.iload_n 2, 1) := by decide +kernel
theorem d_D_fetch_73 : decode (jyc Y_D_fetch) 73 = .ok (.iconst 4, 1) := by decide +kernel
theorem d_D_fetch_74 : decode (jyc Y_D_fetch) 74 = .ok (.irem, 1) := by decide +kernel
theorem d_D_fetch_75 : decode (jyc Y_D_fetch) 75 = .ok (.invokevirtual 142, 3) := by decide +kernel
theorem d_D_fetch_78 : decode (jyc Y_D_fetch) 78 = .ok (.iastore, 1) := by decide +kernel
theorem d_D_fetch_79 : decode (jyc Y_D_fetch) 79 = .ok (.iinc 2 1, 3) := by decide +kernel
theorem d_D_fetch_82 : decode (jyc Y_D_fetch) 82 = .ok (.goto (-31), 3) := by decide +kernel
theorem d_D_fetch_85 : decode (jyc Y_D_fetch) 85 = .ok (.aload_n 0, 1) := by decide +kernel
theorem d_D_fetch_86 : decode (jyc Y_D_fetch) 86 = .ok (.getfield 223, 3) := by decide +kernel
theorem d_D_fetch_89 : decode (jyc Y_D_fetch) 89 = .ok (.ireturn, 1) := by decide +kernel
theorem d_D_fetched_0 : decode (jyc Y_D_fetched) 0 = .ok (.iload_n 1, 1) := by decide +kernel
theorem d_D_fetched_1 : decode (jyc Y_D_fetched) 1 = .ok (.ifCond .lt 20, 3) := by decide +kernel
theorem d_D_fetched_4 : decode (jyc Y_D_fetched) 4 = .ok (.iload_n 1, 1) := by decide +kernel
theorem d_D_fetched_5 : decode (jyc Y_D_fetched) 5 = .ok (.aload_n 0, 1) := by decide +kernel
theorem d_D_fetched_6 : decode (jyc Y_D_fetched) 6 = .ok (.getfield 223, 3) := by decide +kernel
theorem d_D_fetched_9 : decode (jyc Y_D_fetched) 9 = .ok (.if_icmp .ge 12, 3) := by decide +kernel
theorem d_D_fetched_12 : decode (jyc Y_D_fetched) 12 = .ok (.aload_n 0, 1) := by decide +kernel
theorem d_D_fetched_13 : decode (jyc Y_D_fetched) 13 = .ok (.getfield 37, 3) := by decide +kernel
theorem d_D_fetched_16 : decode (jyc Y_D_fetched) 16 = .ok (.iload_n 1, 1) := by decide +kernel
theorem d_D_fetched_17 : decode (jyc Y_D_fetched) 17 = .ok (.iaload, 1) := by decide +kernel
theorem d_D_fetched_18 : decode (jyc Y_D_fetched) 18 = .ok (.goto 4, 3) := by decide +kernel
theorem d_D_fetched_21 : decode (jyc Y_D_fetched) 21 = .ok (.iconst (-1), 1) := by decide +kernel
theorem d_D_fetched_22 : decode (jyc Y_D_fetched) 22 = .ok (.ireturn, 1) := by decide +kernel
theorem d_D_made_0 : decode (jyc Y_D_made) 0 = .ok (.aload_n 0, 1) := by decide +kernel
theorem d_D_made_1 : decode (jyc Y_D_made) 1 = .ok (.iload_n 1, 1) := by decide +kernel
theorem d_D_made_2 : decode (jyc Y_D_made) 2 = .ok (.invokevirtual 90, 3) := by decide +kernel
theorem d_D_made_5 : decode (jyc Y_D_made) 5 = .ok (.ifCond .eq 27, 3) := by decide +kernel
theorem d_D_made_8 : decode (jyc Y_D_made) 8 = .ok (.iload_n 2, 1) := by decide +kernel
theorem d_D_made_9 : decode (jyc Y_D_made) 9 = .ok (.ifCond .lt 23, 3) := by decide +kernel
theorem d_D_made_12 : decode (jyc Y_D_made) 12 = .ok (.iload_n 2, 1) := by decide +kernel
theorem d_D_made_13 : decode (jyc Y_D_made) 13 = .ok (.aload_n 0, 1) := by decide +kernel
theorem d_D_made_14 : decode (jyc Y_D_made) 14 = .ok (.getfield 15, 3) := by decide +kernel
theorem d_D_made_17 : decode (jyc Y_D_made) 17 = .ok (.iload_n 1, 1) := by decide +kernel
theorem d_D_made_18 : decode (jyc Y_D_made) 18 = .ok (.aaload, 1) := by decide +kernel
theorem d_D_made_19 : decode (jyc Y_D_made) 19 = .ok (.getfield 114, 3) := by decide +kernel
theorem d_D_made_22 : decode (jyc Y_D_made) 22 = .ok (.if_icmp .ge 10, 3) := by decide +kernel
theorem d_D_made_25 : decode (jyc Y_D_made) 25 = .ok (.iload_n 3, 1) := by decide +kernel
theorem d_D_made_26 : decode (jyc Y_D_made) 26 = .ok (.invokestatic 134, 3) := by decide +kernel
theorem d_D_made_29 : decode (jyc Y_D_made) 29 = .ok (.ifCond .ne 13, 3) := by decide +kernel
theorem d_D_made_32 : decode (jyc Y_D_made) 32 = .ok (.new 96, 3) := by decide +kernel
theorem d_D_made_35 : decode (jyc Y_D_made) 35 = .ok (.dup, 1) := by decide +kernel
theorem d_D_made_36 : decode (jyc Y_D_made) 36 = .ok (.ldc 230, 2) := by decide +kernel
theorem d_D_made_38 : decode (jyc Y_D_made) 38 = .ok (.invokespecial 100, 3) := by decide +kernel
theorem d_D_made_41 : decode (jyc Y_D_made) 41 = .ok (.athrow, 1) := by decide +kernel
theorem d_D_made_42 : decode (jyc Y_D_made) 42 = .ok (.aload_n 0, 1) := by decide +kernel
theorem d_D_made_43 : decode (jyc Y_D_made) 43 = .ok (.getfield 15, 3) := by decide +kernel
theorem d_D_made_46 : decode (jyc Y_D_made) 46 = .ok (.iload_n 1, 1) := by decide +kernel
theorem d_D_made_47 : decode (jyc Y_D_made) 47 = .ok (.aaload, 1) := by decide +kernel
theorem d_D_made_48 : decode (jyc Y_D_made) 48 = .ok (.getfield 111, 3) := by decide +kernel
theorem d_D_made_51 : decode (jyc Y_D_made) 51 = .ok (.iload_n 2, 1) := by decide +kernel
theorem d_D_made_52 : decode (jyc Y_D_made) 52 = .ok (.iload_n 3, 1) := by decide +kernel
theorem d_D_made_53 : decode (jyc Y_D_made) 53 = .ok (.invokevirtual 142, 3) := by decide +kernel
theorem d_D_made_56 : decode (jyc Y_D_made) 56 = .ok (.ireturn, 1) := by decide +kernel
theorem d_D_kept_0 : decode (jyc Y_D_kept) 0 = .ok (.aload_n 0, 1) := by decide +kernel
theorem d_D_kept_1 : decode (jyc Y_D_kept) 1 = .ok (.iload_n 1, 1) := by decide +kernel
theorem d_D_kept_2 : decode (jyc Y_D_kept) 2 = .ok (.iload_n 2, 1) := by decide +kernel
theorem d_D_kept_3 : decode (jyc Y_D_kept) 3 = .ok (.iload_n 3, 1) := by decide +kernel
theorem d_D_kept_4 : decode (jyc Y_D_kept) 4 = .ok (.invokevirtual 121, 3) := by decide +kernel
theorem d_D_kept_7 : decode (jyc Y_D_kept) 7 = .ok (.ifCond .eq 17, 3) := by decide +kernel
theorem d_D_kept_10 : decode (jyc Y_D_kept) 10 = .ok (.iload 4, 2) := by decide +kernel
theorem d_D_kept_12 : decode (jyc Y_D_kept) 12 = .ok (.invokestatic 134, 3) := by decide +kernel
theorem d_D_kept_15 : decode (jyc Y_D_kept) 15 = .ok (.ifCond .ne 19, 3) := by decide +kernel
theorem d_D_kept_18 : decode (jyc Y_D_kept) 18 = .ok (.iload 4, 2) := by decide +kernel
theorem d_D_kept_20 : decode (jyc Y_D_kept) 20 = .ok (.iconst 5, 1) := by decide +kernel
theorem d_D_kept_21 : decode (jyc Y_D_kept) 21 = .ok (.if_icmp .eq 13, 3) := by decide +kernel
theorem d_D_kept_24 : decode (jyc Y_D_kept) 24 = .ok (.new 75, 3) := by decide +kernel
theorem d_D_kept_27 : decode (jyc Y_D_kept) 27 = .ok (.dup, 1) := by decide +kernel
theorem d_D_kept_28 : decode (jyc Y_D_kept) 28 = .ok (.ldc 232, 2) := by decide +kernel
theorem d_D_kept_30 : decode (jyc Y_D_kept) 30 = .ok (.invokespecial 79, 3) := by decide +kernel
theorem d_D_kept_33 : decode (jyc Y_D_kept) 33 = .ok (.athrow, 1) := by decide +kernel
theorem d_D_kept_34 : decode (jyc Y_D_kept) 34 = .ok (.aload_n 0, 1) := by decide +kernel
theorem d_D_kept_35 : decode (jyc Y_D_kept) 35 = .ok (.getfield 22, 3) := by decide +kernel
theorem d_D_kept_38 : decode (jyc Y_D_kept) 38 = .ok (.iload_n 1, 1) := by decide +kernel
theorem d_D_kept_39 : decode (jyc Y_D_kept) 39 = .ok (.aaload, 1) := by decide +kernel
theorem d_D_kept_40 : decode (jyc Y_D_kept) 40 = .ok (.getfield 101, 3) := by decide +kernel
theorem d_D_kept_43 : decode (jyc Y_D_kept) 43 = .ok (.iload_n 2, 1) := by decide +kernel
theorem d_D_kept_44 : decode (jyc Y_D_kept) 44 = .ok (.aaload, 1) := by decide +kernel
theorem d_D_kept_45 : decode (jyc Y_D_kept) 45 = .ok (.astore 5, 2) := by decide +kernel
theorem d_D_kept_47 : decode (jyc Y_D_kept) 47 = .ok (.iload 4, 2) := by decide +kernel
theorem d_D_kept_49 : decode (jyc Y_D_kept) 49 = .ok (.iconst 5, 1) := by decide +kernel
theorem d_D_kept_50 : decode (jyc Y_D_kept) 50 = .ok (.if_icmp .ne 19, 3) := by decide +kernel
theorem d_D_kept_53 : decode (jyc Y_D_kept) 53 = .ok (.aload 5, 2) := by decide +kernel
theorem d_D_kept_55 : decode (jyc Y_D_kept) 55 = .ok (.getfield 127, 3) := by decide +kernel
theorem d_D_kept_58 : decode (jyc Y_D_kept) 58 = .ok (.iload_n 3, 1) := by decide +kernel
theorem d_D_kept_59 : decode (jyc Y_D_kept) 59 = .ok (.baload, 1) := by decide +kernel
theorem d_D_kept_60 : decode (jyc Y_D_kept) 60 = .ok (.ifCond .eq 7, 3) := by decide +kernel
theorem d_D_kept_63 : decode (jyc Y_D_kept) 63 = .ok (.iconst 1, 1) := by decide +kernel
theorem d_D_kept_64 : decode (jyc Y_D_kept) 64 = .ok (.goto 4, 3) := by decide +kernel
theorem d_D_kept_67 : decode (jyc Y_D_kept) 67 = .ok (.iconst 0, 1) := by decide +kernel
theorem d_D_kept_68 : decode (jyc Y_D_kept) 68 = .ok (.ireturn, 1) := by decide +kernel
theorem d_D_kept_69 : decode (jyc Y_D_kept) 69 = .ok (.aload 5, 2) := by decide +kernel
theorem d_D_kept_71 : decode (jyc Y_D_kept) 71 = .ok (.getfield 141, 3) := by decide +kernel
theorem d_D_kept_74 : decode (jyc Y_D_kept) 74 = .ok (.iload_n 3, 1) := by decide +kernel
theorem d_D_kept_75 : decode (jyc Y_D_kept) 75 = .ok (.iload 4, 2) := by decide +kernel
theorem d_D_kept_77 : decode (jyc Y_D_kept) 77 = .ok (.invokevirtual 142, 3) := by decide +kernel
theorem d_D_kept_80 : decode (jyc Y_D_kept) 80 = .ok (.ireturn, 1) := by decide +kernel
theorem d_D_rota_0 : decode (jyc Y_D_rota) 0 = .ok (.aload_n 0, 1) := by decide +kernel
theorem d_D_rota_1 : decode (jyc Y_D_rota) 1 = .ok (.invokevirtual 234, 3) := by decide +kernel
theorem d_D_rota_4 : decode (jyc Y_D_rota) 4 = .ok (.istore_n 2, 1) := by decide +kernel
theorem d_D_rota_5 : decode (jyc Y_D_rota) 5 = .ok (.iload_n 1, 1) := by decide +kernel
theorem d_D_rota_6 : decode (jyc Y_D_rota) 6 = .ok (.ifCond .lt 7, 3) := by decide +kernel
theorem d_D_rota_9 : decode (jyc Y_D_rota) 9 = .ok (.iload_n 2, 1) := by decide +kernel
theorem d_D_rota_10 : decode (jyc Y_D_rota) 10 = .ok (.ifCond .ne 5, 3) := by decide +kernel
theorem d_D_rota_13 : decode (jyc Y_D_rota) 13 = .ok (.iconst (-1), 1) := by decide +kernel
theorem d_D_rota_14 : decode (jyc Y_D_rota) 14 = .ok (.ireturn, 1) := by decide +kernel
theorem d_D_rota_15 : decode (jyc Y_D_rota) 15 = .ok (.iload_n 1, 1) := by decide +kernel
theorem d_D_rota_16 : decode (jyc Y_D_rota) 16 = .ok (.iload_n 2, 1) := by decide +kernel
theorem d_D_rota_17 : decode (jyc Y_D_rota) 17 = .ok (.irem, 1) := by decide +kernel
theorem d_D_rota_18 : decode (jyc Y_D_rota) 18 = .ok (.istore_n 3, 1) := by decide +kernel
theorem d_D_rota_19 : decode (jyc Y_D_rota) 19 = .ok (.iconst 0, 1) := by decide +kernel
theorem d_D_rota_20 : decode (jyc Y_D_rota) 20 = .ok (.istore 4, 2) := by decide +kernel
theorem d_D_rota_22 : decode (jyc Y_D_rota) 22 = .ok (.iload 4, 2) := by decide +kernel
theorem d_D_rota_24 : decode (jyc Y_D_rota) 24 = .ok (.aload_n 0, 1) := by decide +kernel
theorem d_D_rota_25 : decode (jyc Y_D_rota) 25 = .ok (.getfield 51, 3) := by decide +kernel
theorem d_D_rota_28 : decode (jyc Y_D_rota) 28 = .ok (.if_icmp .ge 62, 3) := by decide +kernel
theorem d_D_rota_31 : decode (jyc Y_D_rota) 31 = .ok (.iconst 0, 1) := by decide +kernel
theorem d_D_rota_32 : decode (jyc Y_D_rota) 32 = .ok (.istore 5, 2) := by decide +kernel
theorem d_D_rota_34 : decode (jyc Y_D_rota) 34 = .ok (.iload 5, 2) := by decide +kernel
theorem d_D_rota_36 : decode (jyc Y_D_rota) 36 = .ok (.iconst 4, 1) := by decide +kernel
theorem d_D_rota_37 : decode (jyc Y_D_rota) 37 = .ok (.if_icmp .ge 47, 3) := by decide +kernel
theorem d_D_rota_40 : decode (jyc Y_D_rota) 40 = .ok (.aload_n 0, 1) := by decide +kernel
theorem d_D_rota_41 : decode (jyc Y_D_rota) 41 = .ok (.getfield 22, 3) := by decide +kernel
theorem d_D_rota_44 : decode (jyc Y_D_rota) 44 = .ok (.iload 5, 2) := by decide +kernel
theorem d_D_rota_46 : decode (jyc Y_D_rota) 46 = .ok (.aaload, 1) := by decide +kernel
theorem d_D_rota_47 : decode (jyc Y_D_rota) 47 = .ok (.getfield 101, 3) := by decide +kernel
theorem d_D_rota_50 : decode (jyc Y_D_rota) 50 = .ok (.iload 4, 2) := by decide +kernel
theorem d_D_rota_52 : decode (jyc Y_D_rota) 52 = .ok (.aaload, 1) := by decide +kernel
theorem d_D_rota_53 : decode (jyc Y_D_rota) 53 = .ok (.getfield 105, 3) := by decide +kernel
theorem d_D_rota_56 : decode (jyc Y_D_rota) 56 = .ok (.ifCond .ne 6, 3) := by decide +kernel
theorem d_D_rota_59 : decode (jyc Y_D_rota) 59 = .ok (.goto 19, 3) := by decide +kernel
theorem d_D_rota_62 : decode (jyc Y_D_rota) 62 = .ok (.iload_n 3, 1) := by decide +kernel
theorem d_D_rota_63 : decode (jyc Y_D_rota) 63 = .ok (.ifCond .ne 12, 3) := by decide +kernel
theorem d_D_rota_66 : decode (jyc Y_D_rota) 66 = .ok (.bipush 8, 2) := by decide +kernel
theorem d_D_rota_68 : decode (jyc Y_D_rota) 68 = .ok (.iload 4, 2) := by decide +kernel
theorem d_D_rota_70 : decode (jyc Y_D_rota) 70 = .ok (.imul, 1) := by decide +kernel
theorem d_D_rota_71 : decode (jyc Y_D_rota) 71 = .ok (.iload 5, 2) := by decide +kernel
theorem d_D_rota_73 : decode (jyc Y_D_rota) 73 = .ok (.iadd, 1) := by decide +kernel
theorem d_D_rota_74 : decode (jyc Y_D_rota) 74 = .ok (.ireturn, 1) := by decide +kernel
theorem d_D_rota_75 : decode (jyc Y_D_rota) 75 = .ok (.iinc 3 (-1), 3) := by decide +kernel
theorem d_D_rota_78 : decode (jyc Y_D_rota) 78 = .ok (.iinc 5 1, 3) := by decide +kernel
theorem d_D_rota_81 : decode (jyc Y_D_rota) 81 = .ok (.goto (-47), 3) := by decide +kernel
theorem d_D_rota_84 : decode (jyc Y_D_rota) 84 = .ok (.iinc 4 1, 3) := by decide +kernel
theorem d_D_rota_87 : decode (jyc Y_D_rota) 87 = .ok (.goto (-65), 3) := by decide +kernel
theorem d_D_rota_90 : decode (jyc Y_D_rota) 90 = .ok (.iconst (-1), 1) := by decide +kernel
theorem d_D_rota_91 : decode (jyc Y_D_rota) 91 = .ok (.ireturn, 1) := by decide +kernel
theorem d_D_score_0 : decode (jyc Y_D_score) 0 = .ok (.iload_n 1, 1) := by decide +kernel
theorem d_D_score_1 : decode (jyc Y_D_score) 1 = .ok (.invokestatic 93, 3) := by decide +kernel
theorem d_D_score_4 : decode (jyc Y_D_score) 4 = .ok (.ifCond .eq 14, 3) := by decide +kernel
theorem d_D_score_7 : decode (jyc Y_D_score) 7 = .ok (.aload_n 0, 1) := by decide +kernel
theorem d_D_score_8 : decode (jyc Y_D_score) 8 = .ok (.getfield 22, 3) := by decide +kernel
theorem d_D_score_11 : decode (jyc Y_D_score) 11 = .ok (.iload_n 1, 1) := by decide +kernel
theorem d_D_score_12 : decode (jyc Y_D_score) 12 = .ok (.aaload, 1) := by decide +kernel
theorem d_D_score_13 : decode (jyc Y_D_score) 13 = .ok (.iload_n 2, 1) := by decide +kernel
theorem d_D_score_14 : decode (jyc Y_D_score) 14 = .ok (.invokevirtual 238, 3) := by decide +kernel
theorem d_D_score_17 : decode (jyc Y_D_score) 17 = .ok (.ireturn, 1) := by decide +kernel
theorem d_D_score_18 : decode (jyc Y_D_score) 18 = .ok (.iconst (-1), 1) := by decide +kernel
theorem d_D_score_19 : decode (jyc Y_D_score) 19 = .ok (.iload_n 1, 1) := by decide +kernel
theorem d_D_score_20 : decode (jyc Y_D_score) 20 = .ok (.isub, 1) := by decide +kernel
theorem d_D_score_21 : decode (jyc Y_D_score) 21 = .ok (.istore_n 3, 1) := by decide +kernel
theorem d_D_score_22 : decode (jyc Y_D_score) 22 = .ok (.aload_n 0, 1) := by decide +kernel
theorem d_D_score_23 : decode (jyc Y_D_score) 23 = .ok (.iload_n 3, 1) := by decide +kernel
theorem d_D_score_24 : decode (jyc Y_D_score) 24 = .ok (.invokevirtual 90, 3) := by decide +kernel
theorem d_D_score_27 : decode (jyc Y_D_score) 27 = .ok (.ifCond .ne 5, 3) := by decide +kernel
theorem d_D_score_30 : decode (jyc Y_D_score) 30 = .ok (.iconst (-1), 1) := by decide +kernel
theorem d_D_score_31 : decode (jyc Y_D_score) 31 = .ok (.ireturn, 1) := by decide +kernel
theorem d_D_score_32 : decode (jyc Y_D_score) 32 = .ok (.iload_n 2, 1) := by decide +kernel
theorem d_D_score_33 : decode (jyc Y_D_score) 33 = .ok (.ifCond .ne 13, 3) := by decide +kernel
theorem d_D_score_36 : decode (jyc Y_D_score) 36 = .ok (.aload_n 0, 1) := by decide +kernel
theorem d_D_score_37 : decode (jyc Y_D_score) 37 = .ok (.getfield 15, 3) := by decide +kernel
theorem d_D_score_40 : decode (jyc Y_D_score) 40 = .ok (.iload_n 3, 1) := by decide +kernel
theorem d_D_score_41 : decode (jyc Y_D_score) 41 = .ok (.aaload, 1) := by decide +kernel
theorem d_D_score_42 : decode (jyc Y_D_score) 42 = .ok (.getfield 220, 3) := by decide +kernel
theorem d_D_score_45 : decode (jyc Y_D_score) 45 = .ok (.ireturn, 1) := by decide +kernel
theorem d_D_score_46 : decode (jyc Y_D_score) 46 = .ok (.iload_n 2, 1) := by decide +kernel
theorem d_D_score_47 : decode (jyc Y_D_score) 47 = .ok (.iconst 1, 1) := by decide +kernel
theorem d_D_score_48 : decode (jyc Y_D_score) 48 = .ok (.if_icmp .ne 15, 3) := by decide +kernel
theorem d_D_score_51 : decode (jyc Y_D_score) 51 = .ok (.aload_n 0, 1) := by decide +kernel
theorem d_D_score_52 : decode (jyc Y_D_score) 52 = .ok (.getfield 15, 3) := by decide +kernel
theorem d_D_score_55 : decode (jyc Y_D_score) 55 = .ok (.iload_n 3, 1) := by decide +kernel
theorem d_D_score_56 : decode (jyc Y_D_score) 56 = .ok (.aaload, 1) := by decide +kernel
theorem d_D_score_57 : decode (jyc Y_D_score) 57 = .ok (.getfield 114, 3) := by decide +kernel
theorem d_D_score_60 : decode (jyc Y_D_score) 60 = .ok (.goto 4, 3) := by decide +kernel
theorem d_D_score_63 : decode (jyc Y_D_score) 63 = .ok (.iconst (-1), 1) := by decide +kernel
theorem d_D_score_64 : decode (jyc Y_D_score) 64 = .ok (.ireturn, 1) := by decide +kernel
theorem d_D_isFile_0 : decode (jyc Y_D_isFile) 0 = .ok (.iload_n 1, 1) := by decide +kernel
theorem d_D_isFile_1 : decode (jyc Y_D_isFile) 1 = .ok (.ifCond .lt 15, 3) := by decide +kernel
theorem d_D_isFile_4 : decode (jyc Y_D_isFile) 4 = .ok (.iload_n 1, 1) := by decide +kernel
theorem d_D_isFile_5 : decode (jyc Y_D_isFile) 5 = .ok (.aload_n 0, 1) := by decide +kernel
theorem d_D_isFile_6 : decode (jyc Y_D_isFile) 6 = .ok (.getfield 51, 3) := by decide +kernel
theorem d_D_isFile_9 : decode (jyc Y_D_isFile) 9 = .ok (.if_icmp .ge 7, 3) := by decide +kernel
theorem d_D_isFile_12 : decode (jyc Y_D_isFile) 12 = .ok (.iconst 1, 1) := by decide +kernel
theorem d_D_isFile_13 : decode (jyc Y_D_isFile) 13 = .ok (.goto 4, 3) := by decide +kernel
theorem d_D_isFile_16 : decode (jyc Y_D_isFile) 16 = .ok (.iconst 0, 1) := by decide +kernel
theorem d_D_isFile_17 : decode (jyc Y_D_isFile) 17 = .ok (.ireturn, 1) := by decide +kernel
theorem d_D_isKeeper_0 : decode (jyc Y_D_isKeeper) 0 = .ok (.iload_n 0, 1) := by decide +kernel
theorem d_D_isKeeper_1 : decode (jyc Y_D_isKeeper) 1 = .ok (.ifCond .lt 12, 3) := by decide +kernel
theorem d_D_isKeeper_4 : decode (jyc Y_D_isKeeper) 4 = .ok (.iload_n 0, 1) := by decide +kernel
theorem d_D_isKeeper_5 : decode (jyc Y_D_isKeeper) 5 = .ok (.iconst 4, 1) := by decide +kernel
theorem d_D_isKeeper_6 : decode (jyc Y_D_isKeeper) 6 = .ok (.if_icmp .ge 7, 3) := by decide +kernel
theorem d_D_isKeeper_9 : decode (jyc Y_D_isKeeper) 9 = .ok (.iconst 1, 1) := by decide +kernel
theorem d_D_isKeeper_10 : decode (jyc Y_D_isKeeper) 10 = .ok (.goto 4, 3) := by decide +kernel
theorem d_D_isKeeper_13 : decode (jyc Y_D_isKeeper) 13 = .ok (.iconst 0, 1) := by decide +kernel
theorem d_D_isKeeper_14 : decode (jyc Y_D_isKeeper) 14 = .ok (.ireturn, 1) := by decide +kernel
theorem d_D_isRowNumber_0 : decode (jyc Y_D_isRowNumber) 0 = .ok (.iload_n 0, 1) := by decide +kernel
theorem d_D_isRowNumber_1 : decode (jyc Y_D_isRowNumber) 1 = .ok (.ifCond .lt 12, 3) := by decide +kernel
theorem d_D_isRowNumber_4 : decode (jyc Y_D_isRowNumber) 4 = .ok (.iload_n 0, 1) := by decide +kernel
theorem d_D_isRowNumber_5 : decode (jyc Y_D_isRowNumber) 5 = .ok (.iconst 5, 1) := by decide +kernel
theorem d_D_isRowNumber_6 : decode (jyc Y_D_isRowNumber) 6 = .ok (.if_icmp .ge 7, 3) := by decide +kernel
theorem d_D_isRowNumber_9 : decode (jyc Y_D_isRowNumber) 9 = .ok (.iconst 1, 1) := by decide +kernel
theorem d_D_isRowNumber_10 : decode (jyc Y_D_isRowNumber) 10 = .ok (.goto 4, 3) := by decide +kernel
theorem d_D_isRowNumber_13 : decode (jyc Y_D_isRowNumber) 13 = .ok (.iconst 0, 1) := by decide +kernel
theorem d_D_isRowNumber_14 : decode (jyc Y_D_isRowNumber) 14 = .ok (.ireturn, 1) := by decide +kernel
theorem d_D_keeps_0 : decode (jyc Y_D_keeps) 0 = .ok (.iload_n 1, 1) := by decide +kernel
theorem d_D_keeps_1 : decode (jyc Y_D_keeps) 1 = .ok (.invokestatic 93, 3) := by decide +kernel
theorem d_D_keeps_4 : decode (jyc Y_D_keeps) 4 = .ok (.ifCond .eq 32, 3) := by decide +kernel
theorem d_D_keeps_7 : decode (jyc Y_D_keeps) 7 = .ok (.aload_n 0, 1) := by decide +kernel
theorem d_D_keeps_8 : decode (jyc Y_D_keeps) 8 = .ok (.iload_n 2, 1) := by decide +kernel
theorem d_D_keeps_9 : decode (jyc Y_D_keeps) 9 = .ok (.invokevirtual 90, 3) := by decide +kernel
theorem d_D_keeps_12 : decode (jyc Y_D_keeps) 12 = .ok (.ifCond .eq 24, 3) := by decide +kernel
theorem d_D_keeps_15 : decode (jyc Y_D_keeps) 15 = .ok (.aload_n 0, 1) := by decide +kernel
theorem d_D_keeps_16 : decode (jyc Y_D_keeps) 16 = .ok (.getfield 22, 3) := by decide +kernel
theorem d_D_keeps_19 : decode (jyc Y_D_keeps) 19 = .ok (.iload_n 1, 1) := by decide +kernel
theorem d_D_keeps_20 : decode (jyc Y_D_keeps) 20 = .ok (.aaload, 1) := by decide +kernel
theorem d_D_keeps_21 : decode (jyc Y_D_keeps) 21 = .ok (.getfield 101, 3) := by decide +kernel
theorem d_D_keeps_24 : decode (jyc Y_D_keeps) 24 = .ok (.iload_n 2, 1) := by decide +kernel
theorem d_D_keeps_25 : decode (jyc Y_D_keeps) 25 = .ok (.aaload, 1) := by decide +kernel
theorem d_D_keeps_26 : decode (jyc Y_D_keeps) 26 = .ok (.getfield 105, 3) := by decide +kernel
theorem d_D_keeps_29 : decode (jyc Y_D_keeps) 29 = .ok (.ifCond .eq 7, 3) := by decide +kernel
theorem d_D_keeps_32 : decode (jyc Y_D_keeps) 32 = .ok (.iconst 1, 1) := by decide +kernel
theorem d_D_keeps_33 : decode (jyc Y_D_keeps) 33 = .ok (.goto 4, 3) := by decide +kernel
theorem d_D_keeps_36 : decode (jyc Y_D_keeps) 36 = .ok (.iconst 0, 1) := by decide +kernel
theorem d_D_keeps_37 : decode (jyc Y_D_keeps) 37 = .ok (.ireturn, 1) := by decide +kernel
theorem d_D_keepsRow_0 : decode (jyc Y_D_keepsRow) 0 = .ok (.aload_n 0, 1) := by decide +kernel
theorem d_D_keepsRow_1 : decode (jyc Y_D_keepsRow) 1 = .ok (.iload_n 1, 1) := by decide +kernel
theorem d_D_keepsRow_2 : decode (jyc Y_D_keepsRow) 2 = .ok (.iload_n 2, 1) := by decide +kernel
theorem d_D_keepsRow_3 : decode (jyc Y_D_keepsRow) 3 = .ok (.invokevirtual 153, 3) := by decide +kernel
theorem d_D_keepsRow_6 : decode (jyc Y_D_keepsRow) 6 = .ok (.ifCond .eq 24, 3) := by decide +kernel
theorem d_D_keepsRow_9 : decode (jyc Y_D_keepsRow) 9 = .ok (.iload_n 3, 1) := by decide +kernel
theorem d_D_keepsRow_10 : decode (jyc Y_D_keepsRow) 10 = .ok (.ifCond .lt 20, 3) := by decide +kernel
theorem d_D_keepsRow_13 : decode (jyc Y_D_keepsRow) 13 = .ok (.iload_n 3, 1) := by decide +kernel
theorem d_D_keepsRow_14 : decode (jyc Y_D_keepsRow) 14 = .ok (.aload_n 0, 1) := by decide +kernel
theorem d_D_keepsRow_15 : decode (jyc Y_D_keepsRow) 15 = .ok (.getfield 15, 3) := by decide +kernel
theorem d_D_keepsRow_18 : decode (jyc Y_D_keepsRow) 18 = .ok (.iload_n 2, 1) := by decide +kernel
theorem d_D_keepsRow_19 : decode (jyc Y_D_keepsRow) 19 = .ok (.aaload, 1) := by decide +kernel
theorem d_D_keepsRow_20 : decode (jyc Y_D_keepsRow) 20 = .ok (.getfield 114, 3) := by decide +kernel
theorem d_D_keepsRow_23 : decode (jyc Y_D_keepsRow) 23 = .ok (.if_icmp .ge 7, 3) := by decide +kernel
theorem d_D_keepsRow_26 : decode (jyc Y_D_keepsRow) 26 = .ok (.iconst 1, 1) := by decide +kernel
theorem d_D_keepsRow_27 : decode (jyc Y_D_keepsRow) 27 = .ok (.goto 4, 3) := by decide +kernel
theorem d_D_keepsRow_30 : decode (jyc Y_D_keepsRow) 30 = .ok (.iconst 0, 1) := by decide +kernel
theorem d_D_keepsRow_31 : decode (jyc Y_D_keepsRow) 31 = .ok (.ireturn, 1) := by decide +kernel
theorem d_D_isGood_0 : decode (jyc Y_D_isGood) 0 = .ok (.aload_n 0, 1) := by decide +kernel
theorem d_D_isGood_1 : decode (jyc Y_D_isGood) 1 = .ok (.getfield 22, 3) := by decide +kernel
theorem d_D_isGood_4 : decode (jyc Y_D_isGood) 4 = .ok (.iload_n 1, 1) := by decide +kernel
theorem d_D_isGood_5 : decode (jyc Y_D_isGood) 5 = .ok (.aaload, 1) := by decide +kernel
theorem d_D_isGood_6 : decode (jyc Y_D_isGood) 6 = .ok (.getfield 101, 3) := by decide +kernel
theorem d_D_isGood_9 : decode (jyc Y_D_isGood) 9 = .ok (.iload_n 2, 1) := by decide +kernel
theorem d_D_isGood_10 : decode (jyc Y_D_isGood) 10 = .ok (.aaload, 1) := by decide +kernel
theorem d_D_isGood_11 : decode (jyc Y_D_isGood) 11 = .ok (.astore 4, 2) := by decide +kernel
theorem d_D_isGood_13 : decode (jyc Y_D_isGood) 13 = .ok (.aload 4, 2) := by decide +kernel
theorem d_D_isGood_15 : decode (jyc Y_D_isGood) 15 = .ok (.getfield 105, 3) := by decide +kernel
theorem d_D_isGood_18 : decode (jyc Y_D_isGood) 18 = .ok (.ifCond .eq 45, 3) := by decide +kernel
theorem d_D_isGood_21 : decode (jyc Y_D_isGood) 21 = .ok (.aload 4, 2) := by decide +kernel
theorem d_D_isGood_23 : decode (jyc Y_D_isGood) 23 = .ok (.getfield 127, 3) := by decide +kernel
theorem d_D_isGood_26 : decode (jyc Y_D_isGood) 26 = .ok (.iload_n 3, 1) := by decide +kernel
theorem d_D_isGood_27 : decode (jyc Y_D_isGood) 27 = .ok (.baload, 1) := by decide +kernel
theorem d_D_isGood_28 : decode (jyc Y_D_isGood) 28 = .ok (.ifCond .ne 35, 3) := by decide +kernel
theorem d_D_isGood_31 : decode (jyc Y_D_isGood) 31 = .ok (.aload 4, 2) := by decide +kernel
theorem d_D_isGood_33 : decode (jyc Y_D_isGood) 33 = .ok (.getfield 141, 3) := by decide +kernel
theorem d_D_isGood_36 : decode (jyc Y_D_isGood) 36 = .ok (.iload_n 3, 1) := by decide +kernel
theorem d_D_isGood_37 : decode (jyc Y_D_isGood) 37 = .ok (.iconst 4, 1) := by decide +kernel
theorem d_D_isGood_38 : decode (jyc Y_D_isGood) 38 = .ok (.invokevirtual 142, 3) := by decide +kernel
theorem d_D_isGood_41 : decode (jyc Y_D_isGood) 41 = .ok (.aload_n 0, 1) := by decide +kernel
theorem d_D_isGood_42 : decode (jyc Y_D_isGood) 42 = .ok (.getfield 15, 3) := by decide +kernel
theorem d_D_isGood_45 : decode (jyc Y_D_isGood) 45 = .ok (.iload_n 2, 1) := by decide +kernel
theorem d_D_isGood_46 : decode (jyc Y_D_isGood) 46 = .ok (.aaload, 1) := by decide +kernel
theorem d_D_isGood_47 : decode (jyc Y_D_isGood) 47 = .ok (.aload 4, 2) := by decide +kernel
theorem d_D_isGood_49 : decode (jyc Y_D_isGood) 49 = .ok (.getfield 141, 3) := by decide +kernel
theorem d_D_isGood_52 : decode (jyc Y_D_isGood) 52 = .ok (.iload_n 3, 1) := by decide +kernel
theorem d_D_isGood_53 : decode (jyc Y_D_isGood) 53 = .ok (.invokevirtual 241, 3) := by decide +kernel
theorem d_D_isGood_56 : decode (jyc Y_D_isGood) 56 = .ok (.if_icmp .ne 7, 3) := by decide +kernel
theorem d_D_isGood_59 : decode (jyc Y_D_isGood) 59 = .ok (.iconst 1, 1) := by decide +kernel
theorem d_D_isGood_60 : decode (jyc Y_D_isGood) 60 = .ok (.goto 4, 3) := by decide +kernel
theorem d_D_isGood_63 : decode (jyc Y_D_isGood) 63 = .ok (.iconst 0, 1) := by decide +kernel
theorem d_D_isGood_64 : decode (jyc Y_D_isGood) 64 = .ok (.ireturn, 1) := by decide +kernel
theorem d_D_countCopies_0 : decode (jyc Y_D_countCopies) 0 = .ok (.iconst 0, 1) := by decide +kernel
theorem d_D_countCopies_1 : decode (jyc Y_D_countCopies) 1 = .ok (.istore_n 1, 1) := by decide +kernel
theorem d_D_countCopies_2 : decode (jyc Y_D_countCopies) 2 = .ok (.iconst 0, 1) := by decide +kernel
theorem d_D_countCopies_3 : decode (jyc Y_D_countCopies) 3 = .ok (.istore_n 2, 1) := by decide +kernel
theorem d_D_countCopies_4 : decode (jyc Y_D_countCopies) 4 = .ok (.iload_n 2, 1) := by decide +kernel
theorem d_D_countCopies_5 : decode (jyc Y_D_countCopies) 5 = .ok (.aload_n 0, 1) := by decide +kernel
theorem d_D_countCopies_6 : decode (jyc Y_D_countCopies) 6 = .ok (.getfield 51, 3) := by decide +kernel
theorem d_D_countCopies_9 : decode (jyc Y_D_countCopies) 9 = .ok (.if_icmp .ge 42, 3) := by decide +kernel
theorem d_D_countCopies_12 : decode (jyc Y_D_countCopies) 12 = .ok (.iconst 0, 1) := by decide +kernel
theorem d_D_countCopies_13 : decode (jyc Y_D_countCopies) 13 = .ok (.istore_n 3, 1) := by decide +kernel
theorem d_D_countCopies_14 : decode (jyc Y_D_countCopies) 14 = .ok (.iload_n 3, 1) := by decide +kernel
theorem d_D_countCopies_15 : decode (jyc Y_D_countCopies) 15 = .ok (.iconst 4, 1) := by decide +kernel
theorem d_D_countCopies_16 : decode (jyc Y_D_countCopies) 16 = .ok (.if_icmp .ge 29, 3) := by decide +kernel
theorem d_D_countCopies_19 : decode (jyc Y_D_countCopies) 19 = .ok (.aload_n 0, 1) := by decide +kernel
theorem d_D_countCopies_20 : decode (jyc Y_D_countCopies) 20 = .ok (.getfield 22, 3) := by decide +kernel
theorem d_D_countCopies_23 : decode (jyc Y_D_countCopies) 23 = .ok (.iload_n 3, 1) := by decide +kernel
theorem d_D_countCopies_24 : decode (jyc Y_D_countCopies) 24 = .ok (.aaload, 1) := by decide +kernel
theorem d_D_countCopies_25 : decode (jyc Y_D_countCopies) 25 = .ok (.getfield 101, 3) := by decide +kernel
theorem d_D_countCopies_28 : decode (jyc Y_D_countCopies) 28 = .ok (.iload_n 2, 1) := by decide +kernel
theorem d_D_countCopies_29 : decode (jyc Y_D_countCopies) 29 = .ok (.aaload, 1) := by decide +kernel
theorem d_D_countCopies_30 : decode (jyc Y_D_countCopies) 30 = .ok (.getfield 105, 3) := by decide +kernel
theorem d_D_countCopies_33 : decode (jyc Y_D_countCopies) 33 = .ok (.ifCond .eq 6, 3) := by decide +kernel
theorem d_D_countCopies_36 : decode (jyc Y_D_countCopies) 36 = .ok (.iinc 1 1, 3) := by decide +kernel
theorem d_D_countCopies_39 : decode (jyc Y_D_countCopies) 39 = .ok (.iinc 3 1, 3) := by decide +kernel
theorem d_D_countCopies_42 : decode (jyc Y_D_countCopies) 42 = .ok (.goto (-28), 3) := by decide +kernel
theorem d_D_countCopies_45 : decode (jyc Y_D_countCopies) 45 = .ok (.iinc 2 1, 3) := by decide +kernel
theorem d_D_countCopies_48 : decode (jyc Y_D_countCopies) 48 = .ok (.goto (-44), 3) := by decide +kernel
theorem d_D_countCopies_51 : decode (jyc Y_D_countCopies) 51 = .ok (.iload_n 1, 1) := by decide +kernel
theorem d_D_countCopies_52 : decode (jyc Y_D_countCopies) 52 = .ok (.ireturn, 1) := by decide +kernel
theorem d_D_gather_0 : decode (jyc Y_D_gather) 0 = .ok (.aload_n 0, 1) := by decide +kernel
theorem d_D_gather_1 : decode (jyc Y_D_gather) 1 = .ok (.getfield 15, 3) := by decide +kernel
theorem d_D_gather_4 : decode (jyc Y_D_gather) 4 = .ok (.iload_n 1, 1) := by decide +kernel
theorem d_D_gather_5 : decode (jyc Y_D_gather) 5 = .ok (.aaload, 1) := by decide +kernel
theorem d_D_gather_6 : decode (jyc Y_D_gather) 6 = .ok (.astore_n 2, 1) := by decide +kernel
theorem d_D_gather_7 : decode (jyc Y_D_gather) 7 = .ok (.iconst 0, 1) := by decide +kernel
theorem d_D_gather_8 : decode (jyc Y_D_gather) 8 = .ok (.istore_n 3, 1) := by decide +kernel
theorem d_D_gather_9 : decode (jyc Y_D_gather) 9 = .ok (.iload_n 3, 1) := by decide +kernel
theorem d_D_gather_10 : decode (jyc Y_D_gather) 10 = .ok (.aload_n 2, 1) := by decide +kernel
theorem d_D_gather_11 : decode (jyc Y_D_gather) 11 = .ok (.getfield 114, 3) := by decide +kernel
theorem d_D_gather_14 : decode (jyc Y_D_gather) 14 = .ok (.if_icmp .ge 32, 3) := by decide +kernel
theorem d_D_gather_17 : decode (jyc Y_D_gather) 17 = .ok (.aload_n 0, 1) := by decide +kernel
theorem d_D_gather_18 : decode (jyc Y_D_gather) 18 = .ok (.iload_n 1, 1) := by decide +kernel
theorem d_D_gather_19 : decode (jyc Y_D_gather) 19 = .ok (.iload_n 3, 1) := by decide +kernel
theorem d_D_gather_20 : decode (jyc Y_D_gather) 20 = .ok (.invokevirtual 244, 3) := by decide +kernel
theorem d_D_gather_23 : decode (jyc Y_D_gather) 23 = .ok (.ifCond .ne 5, 3) := by decide +kernel
theorem d_D_gather_26 : decode (jyc Y_D_gather) 26 = .ok (.iconst 0, 1) := by decide +kernel
theorem d_D_gather_27 : decode (jyc Y_D_gather) 27 = .ok (.ireturn, 1) := by decide +kernel
theorem d_D_gather_28 : decode (jyc Y_D_gather) 28 = .ok (.aload_n 0, 1) := by decide +kernel
theorem d_D_gather_29 : decode (jyc Y_D_gather) 29 = .ok (.getfield 43, 3) := by decide +kernel
theorem d_D_gather_32 : decode (jyc Y_D_gather) 32 = .ok (.iload_n 3, 1) := by decide +kernel
theorem d_D_gather_33 : decode (jyc Y_D_gather) 33 = .ok (.aload_n 0, 1) := by decide +kernel
theorem d_D_gather_34 : decode (jyc Y_D_gather) 34 = .ok (.getfield 47, 3) := by decide +kernel
theorem d_D_gather_37 : decode (jyc Y_D_gather) 37 = .ok (.invokevirtual 247, 3) := by decide +kernel
theorem d_D_gather_40 : decode (jyc Y_D_gather) 40 = .ok (.iinc 3 6, 3) := by decide +kernel
theorem d_D_gather_43 : decode (jyc Y_D_gather) 43 = .ok (.goto (-34), 3) := by decide +kernel
theorem d_D_gather_46 : decode (jyc Y_D_gather) 46 = .ok (.aload_n 2, 1) := by decide +kernel
theorem d_D_gather_47 : decode (jyc Y_D_gather) 47 = .ok (.aload_n 0, 1) := by decide +kernel
theorem d_D_gather_48 : decode (jyc Y_D_gather) 48 = .ok (.getfield 43, 3) := by decide +kernel
theorem d_D_gather_51 : decode (jyc Y_D_gather) 51 = .ok (.invokevirtual 251, 3) := by decide +kernel
theorem d_D_gather_54 : decode (jyc Y_D_gather) 54 = .ok (.iconst 1, 1) := by decide +kernel
theorem d_D_gather_55 : decode (jyc Y_D_gather) 55 = .ok (.ireturn, 1) := by decide +kernel
theorem d_D_gatherGroup_0 : decode (jyc Y_D_gatherGroup) 0 = .ok (.iconst 0, 1) := by decide +kernel
theorem d_D_gatherGroup_1 : decode (jyc Y_D_gatherGroup) 1 = .ok (.istore_n 3, 1) := by decide +kernel
theorem d_D_gatherGroup_2 : decode (jyc Y_D_gatherGroup) 2 = .ok (.iconst 0, 1) := by decide +kernel
theorem d_D_gatherGroup_3 : decode (jyc Y_D_gatherGroup) 3 = .ok (.istore 4, 2) := by decide +kernel
theorem d_D_gatherGroup_5 : decode (jyc Y_D_gatherGroup) 5 = .ok (.iload 4, 2) := by decide +kernel
theorem d_D_gatherGroup_7 : decode (jyc Y_D_gatherGroup) 7 = .ok (.bipush 6, 2) := by decide +kernel
theorem d_D_gatherGroup_9 : decode (jyc Y_D_gatherGroup) 9 = .ok (.if_icmp .ge 86, 3) := by decide +kernel
theorem d_D_gatherGroup_12 : decode (jyc Y_D_gatherGroup) 12 = .ok (.iload_n 3, 1) := by decide +kernel
theorem d_D_gatherGroup_13 : decode (jyc Y_D_gatherGroup) 13 = .ok (.iconst 4, 1) := by decide +kernel
theorem d_D_gatherGroup_14 : decode (jyc Y_D_gatherGroup) 14 = .ok (.if_icmp .ge 15, 3) := by decide +kernel
theorem d_D_gatherGroup_17 : decode (jyc Y_D_gatherGroup) 17 = .ok (.aload_n 0, 1) := by decide +kernel
theorem d_D_gatherGroup_18 : decode (jyc Y_D_gatherGroup) 18 = .ok (.iload_n 1, 1) := by decide +kernel
theorem d_D_gatherGroup_19 : decode (jyc Y_D_gatherGroup) 19 = .ok (.iload_n 2, 1) := by decide +kernel
theorem d_D_gatherGroup_20 : decode (jyc Y_D_gatherGroup) 20 = .ok (.iload 4, 2) := by decide +kernel
theorem d_D_gatherGroup_22 : decode (jyc Y_D_gatherGroup) 22 = .ok (.iadd, 1) := by decide +kernel
theorem d_D_gatherGroup_23 : decode (jyc Y_D_gatherGroup) 23 = .ok (.invokevirtual 254, 3) := by decide +kernel
theorem d_D_gatherGroup_26 : decode (jyc Y_D_gatherGroup) 26 = .ok (.goto 4, 3) := by decide +kernel
theorem d_D_gatherGroup_29 : decode (jyc Y_D_gatherGroup) 29 = .ok (.iconst (-1), 1) := by decide +kernel
theorem d_D_gatherGroup_30 : decode (jyc Y_D_gatherGroup) 30 = .ok (.istore 5, 2) := by decide +kernel
theorem d_D_gatherGroup_32 : decode (jyc Y_D_gatherGroup) 32 = .ok (.aload_n 0, 1) := by decide +kernel
theorem d_D_gatherGroup_33 : decode (jyc Y_D_gatherGroup) 33 = .ok (.getfield 47, 3) := by decide +kernel
theorem d_D_gatherGroup_36 : decode (jyc Y_D_gatherGroup) 36 = .ok (.iload 4, 2) := by decide +kernel
theorem d_D_gatherGroup_38 : decode (jyc Y_D_gatherGroup) 38 = .ok (.iload 5, 2) := by decide +kernel
theorem d_D_gatherGroup_40 : decode (jyc Y_D_gatherGroup) 40 = .ok (.iconst (-1), 1) := by decide +kernel
theorem d_D_gatherGroup_41 : decode (jyc Y_D_gatherGroup) 41 = .ok (.if_icmp .eq 7, 3) := by decide +kernel
theorem d_D_gatherGroup_44 : decode (jyc Y_D_gatherGroup) 44 = .ok (.iconst 1, 1) := by decide +kernel
theorem d_D_gatherGroup_45 : decode (jyc Y_D_gatherGroup) 45 = .ok (.goto 4, 3) := by decide +kernel
theorem d_D_gatherGroup_48 : decode (jyc Y_D_gatherGroup) 48 = .ok (.iconst 0, 1) := by decide +kernel
theorem d_D_gatherGroup_49 : decode (jyc Y_D_gatherGroup) 49 = .ok (.bastore, 1) := by decide +kernel
theorem d_D_gatherGroup_50 : decode (jyc Y_D_gatherGroup) 50 = .ok (.aload_n 0, 1) := by decide +kernel
theorem d_D_gatherGroup_51 : decode (jyc Y_D_gatherGroup) 51 = .ok (.getfield 47, 3) := by decide +kernel
theorem d_D_gatherGroup_54 : decode (jyc Y_D_gatherGroup) 54 = .ok (.iload 4, 2) := by decide +kernel
theorem d_D_gatherGroup_56 : decode (jyc Y_D_gatherGroup) 56 = .ok (.baload, 1) := by decide +kernel
theorem d_D_gatherGroup_57 : decode (jyc Y_D_gatherGroup) 57 = .ok (.ifCond .eq 32, 3) := by decide +kernel
theorem d_D_gatherGroup_60 : decode (jyc Y_D_gatherGroup) 60 = .ok (.aload_n 0, 1) := by decide +kernel
theorem d_D_gatherGroup_61 : decode (jyc Y_D_gatherGroup) 61 = .ok (.getfield 43, 3) := by decide +kernel
theorem d_D_gatherGroup_64 : decode (jyc Y_D_gatherGroup) 64 = .ok (.aload_n 0, 1) := by decide +kernel
theorem d_D_gatherGroup_65 : decode (jyc Y_D_gatherGroup) 65 = .ok (.getfield 22, 3) := by decide +kernel
theorem d_D_gatherGroup_68 : decode (jyc Y_D_gatherGroup) 68 = .ok (.iload 5, 2) := by decide +kernel
theorem d_D_gatherGroup_70 : decode (jyc Y_D_gatherGroup) 70 = .ok (.aaload, 1) := by decide +kernel
theorem d_D_gatherGroup_71 : decode (jyc Y_D_gatherGroup) 71 = .ok (.getfield 101, 3) := by decide +kernel
theorem d_D_gatherGroup_74 : decode (jyc Y_D_gatherGroup) 74 = .ok (.iload_n 1, 1) := by decide +kernel
theorem d_D_gatherGroup_75 : decode (jyc Y_D_gatherGroup) 75 = .ok (.aaload, 1) := by decide +kernel
theorem d_D_gatherGroup_76 : decode (jyc Y_D_gatherGroup) 76 = .ok (.getfield 141, 3) := by decide +kernel
theorem d_D_gatherGroup_79 : decode (jyc Y_D_gatherGroup) 79 = .ok (.iload_n 2, 1) := by decide +kernel
theorem d_D_gatherGroup_80 : decode (jyc Y_D_gatherGroup) 80 = .ok (.iload 4, 2) := by decide +kernel
theorem d_D_gatherGroup_82 : decode (jyc Y_D_gatherGroup) 82 = .ok (.iadd, 1) := by decide +kernel
theorem d_D_gatherGroup_83 : decode (jyc Y_D_gatherGroup) 83 = .ok (.invokevirtual 257, 3) := by decide +kernel
theorem d_D_gatherGroup_86 : decode (jyc Y_D_gatherGroup) 86 = .ok (.iinc 3 1, 3) := by decide +kernel
theorem d_D_gatherGroup_89 : decode (jyc Y_D_gatherGroup) 89 = .ok (.iinc 4 1, 3) := by decide +kernel
theorem d_D_gatherGroup_92 : decode (jyc Y_D_gatherGroup) 92 = .ok (.goto (-87), 3) := by decide +kernel
theorem d_D_gatherGroup_95 : decode (jyc Y_D_gatherGroup) 95 = .ok (.iload_n 3, 1) := by decide +kernel
theorem d_D_gatherGroup_96 : decode (jyc Y_D_gatherGroup) 96 = .ok (.iconst 4, 1) := by decide +kernel
theorem d_D_gatherGroup_97 : decode (jyc Y_D_gatherGroup) 97 = .ok (.if_icmp .ne 7, 3) := by decide +kernel
theorem d_D_gatherGroup_100 : decode (jyc Y_D_gatherGroup) 100 = .ok (.iconst 1, 1) := by decide +kernel
theorem d_D_gatherGroup_101 : decode (jyc Y_D_gatherGroup) 101 = .ok (.goto 4, 3) := by decide +kernel
theorem d_D_gatherGroup_104 : decode (jyc Y_D_gatherGroup) 104 = .ok (.iconst 0, 1) := by decide +kernel
theorem d_D_gatherGroup_105 : decode (jyc Y_D_gatherGroup) 105 = .ok (.ireturn, 1) := by decide +kernel
theorem d_D_leastGoodKeeper_0 : decode (jyc Y_D_leastGoodKeeper) 0 = .ok (.iconst 0, 1) := by decide +kernel
theorem d_D_leastGoodKeeper_1 : decode (jyc Y_D_leastGoodKeeper) 1 = .ok (.istore_n 3, 1) := by decide +kernel
theorem d_D_leastGoodKeeper_2 : decode (jyc Y_D_leastGoodKeeper) 2 = .ok (.iload_n 3, 1) := by decide +kernel
theorem d_D_leastGoodKeeper_3 : decode (jyc Y_D_leastGoodKeeper) 3 = .ok (.iconst 4, 1) := by decide +kernel
theorem d_D_leastGoodKeeper_4 : decode (jyc Y_D_leastGoodKeeper) 4 = .ok (.if_icmp .ge 21, 3) := by decide +kernel
theorem d_D_leastGoodKeeper_7 : decode (jyc Y_D_leastGoodKeeper) 7 = .ok (.aload_n 0, 1) := by decide +kernel
theorem d_D_leastGoodKeeper_8 : decode (jyc Y_D_leastGoodKeeper) 8 = .ok (.iload_n 3, 1) := by decide +kernel
theorem d_D_leastGoodKeeper_9 : decode (jyc Y_D_leastGoodKeeper) 9 = .ok (.iload_n 1, 1) := by decide +kernel
theorem d_D_leastGoodKeeper_10 : decode (jyc Y_D_leastGoodKeeper) 10 = .ok (.iload_n 2, 1) := by decide +kernel
theorem d_D_leastGoodKeeper_11 : decode (jyc Y_D_leastGoodKeeper) 11 = .ok (.invokevirtual 207, 3) := by decide +kernel
theorem d_D_leastGoodKeeper_14 : decode (jyc Y_D_leastGoodKeeper) 14 = .ok (.ifCond .eq 5, 3) := by decide +kernel
theorem d_D_leastGoodKeeper_17 : decode (jyc Y_D_leastGoodKeeper) 17 = .ok (.iload_n 3, 1) := by decide +kernel
theorem d_D_leastGoodKeeper_18 : decode (jyc Y_D_leastGoodKeeper) 18 = .ok (.ireturn, 1) := by decide +kernel
theorem d_D_leastGoodKeeper_19 : decode (jyc Y_D_leastGoodKeeper) 19 = .ok (.iinc 3 1, 3) := by decide +kernel
theorem d_D_leastGoodKeeper_22 : decode (jyc Y_D_leastGoodKeeper) 22 = .ok (.goto (-20), 3) := by decide +kernel
theorem d_D_leastGoodKeeper_25 : decode (jyc Y_D_leastGoodKeeper) 25 = .ok (.iconst (-1), 1) := by decide +kernel
theorem d_D_leastGoodKeeper_26 : decode (jyc Y_D_leastGoodKeeper) 26 = .ok (.ireturn, 1) := by decide +kernel
theorem d_M_init_0 : decode (jyc Y_M_init) 0 = .ok (.aload_n 0, 1) := by decide +kernel
theorem d_M_init_1 : decode (jyc Y_M_init) 1 = .ok (.invokespecial 1, 3) := by decide +kernel
theorem d_M_init_4 : decode (jyc Y_M_init) 4 = .ok (.aload_n 0, 1) := by decide +kernel
theorem d_M_init_5 : decode (jyc Y_M_init) 5 = .ok (.bipush 64, 2) := by decide +kernel
theorem d_M_init_7 : decode (jyc Y_M_init) 7 = .ok (.newarray .int, 2) := by decide +kernel
theorem d_M_init_9 : decode (jyc Y_M_init) 9 = .ok (.putfield 7, 3) := by decide +kernel
theorem d_M_init_12 : decode (jyc Y_M_init) 12 = .ok (.aload_n 0, 1) := by decide +kernel
theorem d_M_init_13 : decode (jyc Y_M_init) 13 = .ok (.iconst 3, 1) := by decide +kernel
theorem d_M_init_14 : decode (jyc Y_M_init) 14 = .ok (.newarray .int, 2) := by decide +kernel
theorem d_M_init_16 : decode (jyc Y_M_init) 16 = .ok (.putfield 13, 3) := by decide +kernel
theorem d_M_init_19 : decode (jyc Y_M_init) 19 = .ok (.aload_n 0, 1) := by decide +kernel
theorem d_M_init_20 : decode (jyc Y_M_init) 20 = .ok (.sipush 360, 3) := by decide +kernel
theorem d_M_init_23 : decode (jyc Y_M_init) 23 = .ok (.newarray .int, 2) := by decide +kernel
theorem d_M_init_25 : decode (jyc Y_M_init) 25 = .ok (.putfield 16, 3) := by decide +kernel
theorem d_M_init_28 : decode (jyc Y_M_init) 28 = .ok (.aload_n 0, 1) := by decide +kernel
theorem d_M_init_29 : decode (jyc Y_M_init) 29 = .ok (.bipush 12, 2) := by decide +kernel
theorem d_M_init_31 : decode (jyc Y_M_init) 31 = .ok (.newarray .boolean, 2) := by decide +kernel
theorem d_M_init_33 : decode (jyc Y_M_init) 33 = .ok (.putfield 19, 3) := by decide +kernel
theorem d_M_init_36 : decode (jyc Y_M_init) 36 = .ok (.aload_n 0, 1) := by decide +kernel
theorem d_M_init_37 : decode (jyc Y_M_init) 37 = .ok (.sipush 1440, 3) := by decide +kernel
theorem d_M_init_40 : decode (jyc Y_M_init) 40 = .ok (.newarray .int, 2) := by decide +kernel
theorem d_M_init_42 : decode (jyc Y_M_init) 42 = .ok (.putfield 23, 3) := by decide +kernel
theorem d_M_init_45 : decode (jyc Y_M_init) 45 = .ok (.aload_n 0, 1) := by decide +kernel
theorem d_M_init_46 : decode (jyc Y_M_init) 46 = .ok (.sipush 288, 3) := by decide +kernel
theorem d_M_init_49 : decode (jyc Y_M_init) 49 = .ok (.newarray .boolean, 2) := by decide +kernel
theorem d_M_init_51 : decode (jyc Y_M_init) 51 = .ok (.putfield 26, 3) := by decide +kernel
theorem d_M_init_54 : decode (jyc Y_M_init) 54 = .ok (.aload_n 0, 1) := by decide +kernel
theorem d_M_init_55 : decode (jyc Y_M_init) 55 = .ok (.iconst 4, 1) := by decide +kernel
theorem d_M_init_56 : decode (jyc Y_M_init) 56 = .ok (.newarray .int, 2) := by decide +kernel
theorem d_M_init_58 : decode (jyc Y_M_init) 58 = .ok (.putfield 29, 3) := by decide +kernel
theorem d_M_init_61 : decode (jyc Y_M_init) 61 = .ok (.aload_n 0, 1) := by decide +kernel
theorem d_M_init_62 : decode (jyc Y_M_init) 62 = .ok (.iconst 4, 1) := by decide +kernel
theorem d_M_init_63 : decode (jyc Y_M_init) 63 = .ok (.newarray .int, 2) := by decide +kernel
theorem d_M_init_65 : decode (jyc Y_M_init) 65 = .ok (.putfield 32, 3) := by decide +kernel
theorem d_M_init_68 : decode (jyc Y_M_init) 68 = .ok (.aload_n 0, 1) := by decide +kernel
theorem d_M_init_69 : decode (jyc Y_M_init) 69 = .ok (.iconst 4, 1) := by decide +kernel
theorem d_M_init_70 : decode (jyc Y_M_init) 70 = .ok (.newarray .int, 2) := by decide +kernel
theorem d_M_init_72 : decode (jyc Y_M_init) 72 = .ok (.putfield 35, 3) := by decide +kernel
theorem d_M_init_75 : decode (jyc Y_M_init) 75 = .ok (.aload_n 0, 1) := by decide +kernel
theorem d_M_init_76 : decode (jyc Y_M_init) 76 = .ok (.bipush 24, 2) := by decide +kernel
theorem d_M_init_78 : decode (jyc Y_M_init) 78 = .ok (.newarray .int, 2) := by decide +kernel
theorem d_M_init_80 : decode (jyc Y_M_init) 80 = .ok (.putfield 38, 3) := by decide +kernel
theorem d_M_init_83 : decode (jyc Y_M_init) 83 = .ok (.aload_n 0, 1) := by decide +kernel
theorem d_M_init_84 : decode (jyc Y_M_init) 84 = .ok (.bipush 24, 2) := by decide +kernel
theorem d_M_init_86 : decode (jyc Y_M_init) 86 = .ok (.newarray .int, 2) := by decide +kernel
theorem d_M_init_88 : decode (jyc Y_M_init) 88 = .ok (.putfield 41, 3) := by decide +kernel
theorem d_M_init_91 : decode (jyc Y_M_init) 91 = .ok (.aload_n 0, 1) := by decide +kernel
theorem d_M_init_92 : decode (jyc Y_M_init) 92 = .ok (.iconst 5, 1) := by decide +kernel
theorem d_M_init_93 : decode (jyc Y_M_init) 93 = .ok (.newarray .int, 2) := by decide +kernel
theorem d_M_init_95 : decode (jyc Y_M_init) 95 = .ok (.putfield 44, 3) := by decide +kernel
theorem d_M_init_98 : decode (jyc Y_M_init) 98 = .ok (.aload_n 0, 1) := by decide +kernel
theorem d_M_init_99 : decode (jyc Y_M_init) 99 = .ok (.bipush 24, 2) := by decide +kernel
theorem d_M_init_101 : decode (jyc Y_M_init) 101 = .ok (.newarray .int, 2) := by decide +kernel
theorem d_M_init_103 : decode (jyc Y_M_init) 103 = .ok (.putfield 47, 3) := by decide +kernel
theorem d_M_init_106 : decode (jyc Y_M_init) 106 = .ok (.aload_n 0, 1) := by decide +kernel
theorem d_M_init_107 : decode (jyc Y_M_init) 107 = .ok (.bipush 64, 2) := by decide +kernel
theorem d_M_init_109 : decode (jyc Y_M_init) 109 = .ok (.newarray .int, 2) := by decide +kernel
theorem d_M_init_111 : decode (jyc Y_M_init) 111 = .ok (.putfield 50, 3) := by decide +kernel
theorem d_M_init_114 : decode (jyc Y_M_init) 114 = .ok (.aload_n 0, 1) := by decide +kernel
theorem d_M_init_115 : decode (jyc Y_M_init) 115 = .ok (.bipush 64, 2) := by decide +kernel
theorem d_M_init_117 : decode (jyc Y_M_init) 117 = .ok (.newarray .int, 2) := by decide +kernel
theorem d_M_init_119 : decode (jyc Y_M_init) 119 = .ok (.putfield 53, 3) := by decide +kernel
theorem d_M_init_122 : decode (jyc Y_M_init) 122 = .ok (.aload_n 0, 1) := by decide +kernel
theorem d_M_init_123 : decode (jyc Y_M_init) 123 = .ok (.bipush 32, 2) := by decide +kernel
theorem d_M_init_125 : decode (jyc Y_M_init) 125 = .ok (.newarray .long, 2) := by decide +kernel
theorem d_M_init_127 : decode (jyc Y_M_init) 127 = .ok (.putfield 56, 3) := by decide +kernel
theorem d_M_init_130 : decode (jyc Y_M_init) 130 = .ok (.aload_n 0, 1) := by decide +kernel
theorem d_M_init_131 : decode (jyc Y_M_init) 131 = .ok (.sipush 360, 3) := by decide +kernel
theorem d_M_init_134 : decode (jyc Y_M_init) 134 = .ok (.newarray .int, 2) := by decide +kernel
theorem d_M_init_136 : decode (jyc Y_M_init) 136 = .ok (.putfield 60, 3) := by decide +kernel
theorem d_M_init_139 : decode (jyc Y_M_init) 139 = .ok (.return_, 1) := by decide +kernel
theorem d_M_thrown_0 : decode (jyc Y_M_thrown) 0 = .ok (.aload_n 0, 1) := by decide +kernel
theorem d_M_thrown_1 : decode (jyc Y_M_thrown) 1 = .ok (.getfield 63, 3) := by decide +kernel
theorem d_M_thrown_4 : decode (jyc Y_M_thrown) 4 = .ok (.ireturn, 1) := by decide +kernel
theorem d_M_power_0 : decode (jyc Y_M_power) 0 = .ok (.lconst 1, 1) := by decide +kernel
theorem d_M_power_1 : decode (jyc Y_M_power) 1 = .ok (.lstore 4, 2) := by decide +kernel
theorem d_M_power_3 : decode (jyc Y_M_power) 3 = .ok (.lload_n 0, 1) := by decide +kernel
theorem d_M_power_4 : decode (jyc Y_M_power) 4 = .ok (.ldc2_w 67, 3) := by decide +kernel
theorem d_M_power_7 : decode (jyc Y_M_power) 7 = .ok (.lrem, 1) := by decide +kernel
theorem d_M_power_8 : decode (jyc Y_M_power) 8 = .ok (.lstore 6, 2) := by decide +kernel
theorem d_M_power_10 : decode (jyc Y_M_power) 10 = .ok (.lload_n 2, 1) := by decide +kernel
theorem d_M_power_11 : decode (jyc Y_M_power) 11 = .ok (.lstore 8, 2) := by decide +kernel
theorem d_M_power_13 : decode (jyc Y_M_power) 13 = .ok (.lload 8, 2) := by decide +kernel
theorem d_M_power_15 : decode (jyc Y_M_power) 15 = .ok (.lconst 0, 1) := by decide +kernel
theorem d_M_power_16 : decode (jyc Y_M_power) 16 = .ok (.lcmp, 1) := by decide +kernel
theorem d_M_power_17 : decode (jyc Y_M_power) 17 = .ok (.ifCond .le 48, 3) := by decide +kernel
theorem d_M_power_20 : decode (jyc Y_M_power) 20 = .ok (.lload 8, 2) := by decide +kernel
theorem d_M_power_22 : decode (jyc Y_M_power) 22 = .ok (.lconst 1, 1) := by decide +kernel
theorem d_M_power_23 : decode (jyc Y_M_power) 23 = .ok (.land, 1) := by decide +kernel
theorem d_M_power_24 : decode (jyc Y_M_power) 24 = .ok (.lconst 1, 1) := by decide +kernel
theorem d_M_power_25 : decode (jyc Y_M_power) 25 = .ok (.lcmp, 1) := by decide +kernel
theorem d_M_power_26 : decode (jyc Y_M_power) 26 = .ok (.ifCond .ne 15, 3) := by decide +kernel
theorem d_M_power_29 : decode (jyc Y_M_power) 29 = .ok (.lload 4, 2) := by decide +kernel
theorem d_M_power_31 : decode (jyc Y_M_power) 31 = .ok (.lload 6, 2) := by decide +kernel
theorem d_M_power_33 : decode (jyc Y_M_power) 33 = .ok (.lmul, 1) := by decide +kernel
theorem d_M_power_34 : decode (jyc Y_M_power) 34 = .ok (.ldc2_w 67, 3) := by decide +kernel
theorem d_M_power_37 : decode (jyc Y_M_power) 37 = .ok (.lrem, 1) := by decide +kernel
theorem d_M_power_38 : decode (jyc Y_M_power) 38 = .ok (.goto 5, 3) := by decide +kernel
theorem d_M_power_41 : decode (jyc Y_M_power) 41 = .ok (.lload 4, 2) := by decide +kernel
theorem d_M_power_43 : decode (jyc Y_M_power) 43 = .ok (.lstore 4, 2) := by decide +kernel
theorem d_M_power_45 : decode (jyc Y_M_power) 45 = .ok (.lload 6, 2) := by decide +kernel
theorem d_M_power_47 : decode (jyc Y_M_power) 47 = .ok (.lload 6, 2) := by decide +kernel
theorem d_M_power_49 : decode (jyc Y_M_power) 49 = .ok (.lmul, 1) := by decide +kernel
theorem d_M_power_50 : decode (jyc Y_M_power) 50 = .ok (.ldc2_w 67, 3) := by decide +kernel
theorem d_M_power_53 : decode (jyc Y_M_power) 53 = .ok (.lrem, 1) := by decide +kernel
theorem d_M_power_54 : decode (jyc Y_M_power) 54 = .ok (.lstore 6, 2) := by decide +kernel
theorem d_M_power_56 : decode (jyc Y_M_power) 56 = .ok (.lload 8, 2) := by decide +kernel
theorem d_M_power_58 : decode (jyc Y_M_power) 58 = .ok (.iconst 1, 1) := by decide +kernel
theorem d_M_power_59 : decode (jyc Y_M_power) 59 = .ok (.lshr, 1) := by decide +kernel
theorem d_M_power_60 : decode (jyc Y_M_power) 60 = .ok (.lstore 8, 2) := by decide +kernel
theorem d_M_power_62 : decode (jyc Y_M_power) 62 = .ok (.goto (-49), 3) := by decide +kernel
theorem d_M_power_65 : decode (jyc Y_M_power) 65 = .ok (.lload 4, 2) := by decide +kernel
theorem d_M_power_67 : decode (jyc Y_M_power) 67 = .ok (.lreturn, 1) := by decide +kernel
theorem d_M_over_0 : decode (jyc Y_M_over) 0 = .ok (.lload_n 0, 1) := by decide +kernel
theorem d_M_over_1 : decode (jyc Y_M_over) 1 = .ok (.ldc2_w 69, 3) := by decide +kernel
theorem d_M_over_4 : decode (jyc Y_M_over) 4 = .ok (.invokestatic 71, 3) := by decide +kernel
theorem d_M_over_7 : decode (jyc Y_M_over) 7 = .ok (.lreturn, 1) := by decide +kernel
theorem d_M_secret_0 : decode (jyc Y_M_secret) 0 = .ok (.aload_n 0, 1) := by decide +kernel
theorem d_M_secret_1 : decode (jyc Y_M_secret) 1 = .ok (.getfield 75, 3) := by decide +kernel
theorem d_M_secret_4 : decode (jyc Y_M_secret) 4 = .ok (.iload_n 1, 1) := by decide +kernel
theorem d_M_secret_5 : decode (jyc Y_M_secret) 5 = .ok (.i2l, 1) := by decide +kernel
theorem d_M_secret_6 : decode (jyc Y_M_secret) 6 = .ok (.ldc2_w 79, 3) := by decide +kernel
theorem d_M_secret_9 : decode (jyc Y_M_secret) 9 = .ok (.lmul, 1) := by decide +kernel
theorem d_M_secret_10 : decode (jyc Y_M_secret) 10 = .ok (.ladd, 1) := by decide +kernel
theorem d_M_secret_11 : decode (jyc Y_M_secret) 11 = .ok (.lstore_n 2, 1) := by decide +kernel
theorem d_M_secret_12 : decode (jyc Y_M_secret) 12 = .ok (.iconst 0, 1) := by decide +kernel
theorem d_M_secret_13 : decode (jyc Y_M_secret) 13 = .ok (.istore 4, 2) := by decide +kernel
theorem d_M_secret_15 : decode (jyc Y_M_secret) 15 = .ok (.iload 4, 2) := by decide +kernel
theorem d_M_secret_17 : decode (jyc Y_M_secret) 17 = .ok (.iconst 4, 1) := by decide +kernel
theorem d_M_secret_18 : decode (jyc Y_M_secret) 18 = .ok (.if_icmp .ge 43, 3) := by decide +kernel
theorem d_M_secret_21 : decode (jyc Y_M_secret) 21 = .ok (.lload_n 2, 1) := by decide +kernel
theorem d_M_secret_22 : decode (jyc Y_M_secret) 22 = .ok (.lload_n 2, 1) := by decide +kernel
theorem d_M_secret_23 : decode (jyc Y_M_secret) 23 = .ok (.bipush 30, 2) := by decide +kernel
theorem d_M_secret_25 : decode (jyc Y_M_secret) 25 = .ok (.lushr, 1) := by decide +kernel
theorem d_M_secret_26 : decode (jyc Y_M_secret) 26 = .ok (.lxor, 1) := by decide +kernel
theorem d_M_secret_27 : decode (jyc Y_M_secret) 27 = .ok (.ldc2_w 81, 3) := by decide +kernel
theorem d_M_secret_30 : decode (jyc Y_M_secret) 30 = .ok (.lmul, 1) := by decide +kernel
theorem d_M_secret_31 : decode (jyc Y_M_secret) 31 = .ok (.lstore_n 2, 1) := by decide +kernel
theorem d_M_secret_32 : decode (jyc Y_M_secret) 32 = .ok (.lload_n 2, 1) := by decide +kernel
theorem d_M_secret_33 : decode (jyc Y_M_secret) 33 = .ok (.lload_n 2, 1) := by decide +kernel
theorem d_M_secret_34 : decode (jyc Y_M_secret) 34 = .ok (.bipush 27, 2) := by decide +kernel
theorem d_M_secret_36 : decode (jyc Y_M_secret) 36 = .ok (.lushr, 1) := by decide +kernel
theorem d_M_secret_37 : decode (jyc Y_M_secret) 37 = .ok (.lxor, 1) := by decide +kernel
theorem d_M_secret_38 : decode (jyc Y_M_secret) 38 = .ok (.ldc2_w 83, 3) := by decide +kernel
theorem d_M_secret_41 : decode (jyc Y_M_secret) 41 = .ok (.lmul, 1) := by decide +kernel
theorem d_M_secret_42 : decode (jyc Y_M_secret) 42 = .ok (.lstore_n 2, 1) := by decide +kernel
theorem d_M_secret_43 : decode (jyc Y_M_secret) 43 = .ok (.lload_n 2, 1) := by decide +kernel
theorem d_M_secret_44 : decode (jyc Y_M_secret) 44 = .ok (.lload_n 2, 1) := by decide +kernel
theorem d_M_secret_45 : decode (jyc Y_M_secret) 45 = .ok (.bipush 31, 2) := by decide +kernel
theorem d_M_secret_47 : decode (jyc Y_M_secret) 47 = .ok (.lushr, 1) := by decide +kernel
theorem d_M_secret_48 : decode (jyc Y_M_secret) 48 = .ok (.lxor, 1) := by decide +kernel
theorem d_M_secret_49 : decode (jyc Y_M_secret) 49 = .ok (.aload_n 0, 1) := by decide +kernel
theorem d_M_secret_50 : decode (jyc Y_M_secret) 50 = .ok (.getfield 85, 3) := by decide +kernel
theorem d_M_secret_53 : decode (jyc Y_M_secret) 53 = .ok (.ladd, 1) := by decide +kernel
theorem d_M_secret_54 : decode (jyc Y_M_secret) 54 = .ok (.lstore_n 2, 1) := by decide +kernel
theorem d_M_secret_55 : decode (jyc Y_M_secret) 55 = .ok (.iinc 4 1, 3) := by decide +kernel
theorem d_M_secret_58 : decode (jyc Y_M_secret) 58 = .ok (.goto (-43), 3) := by decide +kernel
theorem d_M_secret_61 : decode (jyc Y_M_secret) 61 = .ok (.lload_n 2, 1) := by decide +kernel
theorem d_M_secret_62 : decode (jyc Y_M_secret) 62 = .ok (.bipush 33, 2) := by decide +kernel
theorem d_M_secret_64 : decode (jyc Y_M_secret) 64 = .ok (.lushr, 1) := by decide +kernel
theorem d_M_secret_65 : decode (jyc Y_M_secret) 65 = .ok (.ldc2_w 67, 3) := by decide +kernel
theorem d_M_secret_68 : decode (jyc Y_M_secret) 68 = .ok (.lrem, 1) := by decide +kernel
theorem d_M_secret_69 : decode (jyc Y_M_secret) 69 = .ok (.lreturn, 1) := by decide +kernel
theorem d_M_isNumber_0 : decode (jyc Y_M_isNumber) 0 = .ok (.iload_n 0, 1) := by decide +kernel
theorem d_M_isNumber_1 : decode (jyc Y_M_isNumber) 1 = .ok (.ifCond .lt 16, 3) := by decide +kernel
theorem d_M_isNumber_4 : decode (jyc Y_M_isNumber) 4 = .ok (.iload_n 0, 1) := by decide +kernel
theorem d_M_isNumber_5 : decode (jyc Y_M_isNumber) 5 = .ok (.i2l, 1) := by decide +kernel
theorem d_M_isNumber_6 : decode (jyc Y_M_isNumber) 6 = .ok (.ldc2_w 67, 3) := by decide +kernel
theorem d_M_isNumber_9 : decode (jyc Y_M_isNumber) 9 = .ok (.lcmp, 1) := by decide +kernel
theorem d_M_isNumber_10 : decode (jyc Y_M_isNumber) 10 = .ok (.ifCond .ge 7, 3) := by decide +kernel
theorem d_M_isNumber_13 : decode (jyc Y_M_isNumber) 13 = .ok (.iconst 1, 1) := by decide +kernel
theorem d_M_isNumber_14 : decode (jyc Y_M_isNumber) 14 = .ok (.goto 4, 3) := by decide +kernel
theorem d_M_isNumber_17 : decode (jyc Y_M_isNumber) 17 = .ok (.iconst 0, 1) := by decide +kernel
theorem d_M_isNumber_18 : decode (jyc Y_M_isNumber) 18 = .ok (.ireturn, 1) := by decide +kernel
theorem d_M_key_0 : decode (jyc Y_M_key) 0 = .ok (.aload_n 0, 1) := by decide +kernel
theorem d_M_key_1 : decode (jyc Y_M_key) 1 = .ok (.aload_n 0, 1) := by decide +kernel
theorem d_M_key_2 : decode (jyc Y_M_key) 2 = .ok (.getfield 88, 3) := by decide +kernel
theorem d_M_key_5 : decode (jyc Y_M_key) 5 = .ok (.ifCond .le 7, 3) := by decide +kernel
theorem d_M_key_8 : decode (jyc Y_M_key) 8 = .ok (.iconst 1, 1) := by decide +kernel
theorem d_M_key_9 : decode (jyc Y_M_key) 9 = .ok (.goto 4, 3) := by decide +kernel
theorem d_M_key_12 : decode (jyc Y_M_key) 12 = .ok (.iconst 0, 1) := by decide +kernel
theorem d_M_key_13 : decode (jyc Y_M_key) 13 = .ok (.putfield 63, 3) := by decide +kernel
theorem d_M_key_16 : decode (jyc Y_M_key) 16 = .ok (.aload_n 0, 1) := by decide +kernel
theorem d_M_key_17 : decode (jyc Y_M_key) 17 = .ok (.getfield 63, 3) := by decide +kernel
theorem d_M_key_20 : decode (jyc Y_M_key) 20 = .ok (.ifCond .ne 13, 3) := by decide +kernel
theorem d_M_key_23 : decode (jyc Y_M_key) 23 = .ok (.aload_n 0, 1) := by decide +kernel
theorem d_M_key_24 : decode (jyc Y_M_key) 24 = .ok (.lload_n 1, 1) := by decide +kernel
theorem d_M_key_25 : decode (jyc Y_M_key) 25 = .ok (.putfield 75, 3) := by decide +kernel
theorem d_M_key_28 : decode (jyc Y_M_key) 28 = .ok (.aload_n 0, 1) := by decide +kernel
theorem d_M_key_29 : decode (jyc Y_M_key) 29 = .ok (.lload_n 3, 1) := by decide +kernel
theorem d_M_key_30 : decode (jyc Y_M_key) 30 = .ok (.putfield 85, 3) := by decide +kernel
theorem d_M_key_33 : decode (jyc Y_M_key) 33 = .ok (.return_, 1) := by decide +kernel
theorem d_M_word_0 : decode (jyc Y_M_word) 0 = .ok (.aload_n 0, 1) := by decide +kernel
theorem d_M_word_1 : decode (jyc Y_M_word) 1 = .ok (.iconst 0, 1) := by decide +kernel
theorem d_M_word_2 : decode (jyc Y_M_word) 2 = .ok (.putfield 63, 3) := by decide +kernel
theorem d_M_word_5 : decode (jyc Y_M_word) 5 = .ok (.iload_n 1, 1) := by decide +kernel
theorem d_M_word_6 : decode (jyc Y_M_word) 6 = .ok (.ifCond .lt 16, 3) := by decide +kernel
theorem d_M_word_9 : decode (jyc Y_M_word) 9 = .ok (.iload_n 1, 1) := by decide +kernel
theorem d_M_word_10 : decode (jyc Y_M_word) 10 = .ok (.bipush 63, 2) := by decide +kernel
theorem d_M_word_12 : decode (jyc Y_M_word) 12 = .ok (.if_icmp .gt 10, 3) := by decide +kernel
theorem d_M_word_15 : decode (jyc Y_M_word) 15 = .ok (.iload_n 2, 1) := by decide +kernel
theorem d_M_word_16 : decode (jyc Y_M_word) 16 = .ok (.invokestatic 91, 3) := by decide +kernel
theorem d_M_word_19 : decode (jyc Y_M_word) 19 = .ok (.ifCond .ne 5, 3) := by decide +kernel
theorem d_M_word_22 : decode (jyc Y_M_word) 22 = .ok (.iconst 0, 1) := by decide +kernel
theorem d_M_word_23 : decode (jyc Y_M_word) 23 = .ok (.ireturn, 1) := by decide +kernel
theorem d_M_word_24 : decode (jyc Y_M_word) 24 = .ok (.aload_n 0, 1) := by decide +kernel
theorem d_M_word_25 : decode (jyc Y_M_word) 25 = .ok (.getfield 7, 3) := by decide +kernel
theorem d_M_word_28 : decode (jyc Y_M_word) 28 = .ok (.iload_n 1, 1) := by decide +kernel
theorem d_M_word_29 : decode (jyc Y_M_word) 29 = .ok (.iload_n 2, 1) := by decide +kernel
theorem d_M_word_30 : decode (jyc Y_M_word) 30 = .ok (.iastore, 1) := by decide +kernel
theorem d_M_word_31 : decode (jyc Y_M_word) 31 = .ok (.iconst 1, 1) := by decide +kernel
theorem d_M_word_32 : decode (jyc Y_M_word) 32 = .ok (.ireturn, 1) := by decide +kernel
theorem d_M_rowsOf_0 : decode (jyc Y_M_rowsOf) 0 = .ok (.bipush 6, 2) := by decide +kernel
theorem d_M_rowsOf_2 : decode (jyc Y_M_rowsOf) 2 = .ok (.aload_n 0, 1) := by decide +kernel
theorem d_M_rowsOf_3 : decode (jyc Y_M_rowsOf) 3 = .ok (.getfield 13, 3) := by decide +kernel
theorem d_M_rowsOf_6 : decode (jyc Y_M_rowsOf) 6 = .ok (.iload_n 1, 1) := by decide +kernel
theorem d_M_rowsOf_7 : decode (jyc Y_M_rowsOf) 7 = .ok (.iaload, 1) := by decide +kernel
theorem d_M_rowsOf_8 : decode (jyc Y_M_rowsOf) 8 = .ok (.bipush 15, 2) := by decide +kernel
theorem d_M_rowsOf_10 : decode (jyc Y_M_rowsOf) 10 = .ok (.iadd, 1) := by decide +kernel
theorem d_M_rowsOf_11 : decode (jyc Y_M_rowsOf) 11 = .ok (.bipush 16, 2) := by decide +kernel
theorem d_M_rowsOf_13 : decode (jyc Y_M_rowsOf) 13 = .ok (.idiv, 1) := by decide +kernel
theorem d_M_rowsOf_14 : decode (jyc Y_M_rowsOf) 14 = .ok (.imul, 1) := by decide +kernel
theorem d_M_rowsOf_15 : decode (jyc Y_M_rowsOf) 15 = .ok (.ireturn, 1) := by decide +kernel
theorem d_M_tag_0 : decode (jyc Y_M_tag) 0 = .ok (.aload_n 0, 1) := by decide +kernel
theorem d_M_tag_1 : decode (jyc Y_M_tag) 1 = .ok (.bipush 64, 2) := by decide +kernel
theorem d_M_tag_3 : decode (jyc Y_M_tag) 3 = .ok (.iload_n 1, 1) := by decide +kernel
theorem d_M_tag_4 : decode (jyc Y_M_tag) 4 = .ok (.imul, 1) := by decide +kernel
theorem d_M_tag_5 : decode (jyc Y_M_tag) 5 = .ok (.bipush 8, 2) := by decide +kernel
theorem d_M_tag_7 : decode (jyc Y_M_tag) 7 = .ok (.iadd, 1) := by decide +kernel
theorem d_M_tag_8 : decode (jyc Y_M_tag) 8 = .ok (.iload_n 2, 1) := by decide +kernel
theorem d_M_tag_9 : decode (jyc Y_M_tag) 9 = .ok (.iadd, 1) := by decide +kernel
theorem d_M_tag_10 : decode (jyc Y_M_tag) 10 = .ok (.invokevirtual 95, 3) := by decide +kernel
theorem d_M_tag_13 : decode (jyc Y_M_tag) 13 = .ok (.lstore 5, 2) := by decide +kernel
theorem d_M_tag_15 : decode (jyc Y_M_tag) 15 = .ok (.iconst 0, 1) := by decide +kernel
theorem d_M_tag_16 : decode (jyc Y_M_tag) 16 = .ok (.istore 7, 2) := by decide +kernel
theorem d_M_tag_18 : decode (jyc Y_M_tag) 18 = .ok (.iload 7, 2) := by decide +kernel
theorem d_M_tag_20 : decode (jyc Y_M_tag) 20 = .ok (.iconst 4, 1) := by decide +kernel
theorem d_M_tag_21 : decode (jyc Y_M_tag) 21 = .ok (.if_icmp .ge 38, 3) := by decide +kernel
theorem d_M_tag_24 : decode (jyc Y_M_tag) 24 = .ok (.lload 5, 2) := by decide +kernel
theorem d_M_tag_26 : decode (jyc Y_M_tag) 26 = .ok (.aload_n 0, 1) := by decide +kernel
theorem d_M_tag_27 : decode (jyc Y_M_tag) 27 = .ok (.bipush 64, 2) := by decide +kernel
theorem d_M_tag_29 : decode (jyc Y_M_tag) 29 = .ok (.iload_n 1, 1) := by decide +kernel
theorem d_M_tag_30 : decode (jyc Y_M_tag) 30 = .ok (.imul, 1) := by decide +kernel
theorem d_M_tag_31 : decode (jyc Y_M_tag) 31 = .ok (.iload 7, 2) := by decide +kernel
theorem d_M_tag_33 : decode (jyc Y_M_tag) 33 = .ok (.iadd, 1) := by decide +kernel
theorem d_M_tag_34 : decode (jyc Y_M_tag) 34 = .ok (.invokevirtual 95, 3) := by decide +kernel
end
section
/-! what each instruction is, part 1 -/
theorem d_M_tag_37 : decode (jyc Y_M_tag) 37 = .ok (.aload_n 3, 1) := by decide +kernel
theorem d_M_tag_38 : decode (jyc Y_M_tag) 38 = .ok (.iload 4, 2) := by decide +kernel
theorem d_M_tag_40 : decode (jyc Y_M_tag) 40 = .ok (.iload 7, 2) := by decide +kernel
theorem d_M_tag_42 : decode (jyc Y_M_tag) 42 = .ok (.iadd, 1) := by decide +kernel
theorem d_M_tag_43 : decode (jyc Y_M_tag) 43 = .ok (.iaload, 1) := by decide +kernel
theorem d_M_tag_44 : decode (jyc Y_M_tag) 44 = .ok (.i2l, 1) := by decide +kernel
theorem d_M_tag_45 : decode (jyc Y_M_tag) 45 = .ok (.lmul, 1) := by decide +kernel
theorem d_M_tag_46 : decode (jyc Y_M_tag) 46 = .ok (.ladd, 1) := by decide +kernel
theorem d_M_tag_47 : decode (jyc Y_M_tag) 47 = .ok (.ldc2_w 67, 3) := by decide +kernel
theorem d_M_tag_50 : decode (jyc Y_M_tag) 50 = .ok (.lrem, 1) := by decide +kernel
theorem d_M_tag_51 : decode (jyc Y_M_tag) 51 = .ok (.lstore 5, 2) := by decide +kernel
theorem d_M_tag_53 : decode (jyc Y_M_tag) 53 = .ok (.iinc 7 1, 3) := by decide +kernel
theorem d_M_tag_56 : decode (jyc Y_M_tag) 56 = .ok (.goto (-38), 3) := by decide +kernel
theorem d_M_tag_59 : decode (jyc Y_M_tag) 59 = .ok (.lload 5, 2) := by decide +kernel
theorem d_M_tag_61 : decode (jyc Y_M_tag) 61 = .ok (.lreturn, 1) := by decide +kernel
theorem d_M_encode_0 : decode (jyc Y_M_encode) 0 = .ok (.iconst 0, 1) := by decide +kernel
theorem d_M_encode_1 : decode (jyc Y_M_encode) 1 = .ok (.istore_n 3, 1) := by decide +kernel
theorem d_M_encode_2 : decode (jyc Y_M_encode) 2 = .ok (.iload_n 3, 1) := by decide +kernel
theorem d_M_encode_3 : decode (jyc Y_M_encode) 3 = .ok (.aload_n 0, 1) := by decide +kernel
theorem d_M_encode_4 : decode (jyc Y_M_encode) 4 = .ok (.iload_n 1, 1) := by decide +kernel
theorem d_M_encode_5 : decode (jyc Y_M_encode) 5 = .ok (.invokevirtual 99, 3) := by decide +kernel
theorem d_M_encode_8 : decode (jyc Y_M_encode) 8 = .ok (.if_icmp .ge 174, 3) := by decide +kernel
theorem d_M_encode_11 : decode (jyc Y_M_encode) 11 = .ok (.iconst 5, 1) := by decide +kernel
theorem d_M_encode_12 : decode (jyc Y_M_encode) 12 = .ok (.bipush 24, 2) := by decide +kernel
theorem d_M_encode_14 : decode (jyc Y_M_encode) 14 = .ok (.iload_n 1, 1) := by decide +kernel
theorem d_M_encode_15 : decode (jyc Y_M_encode) 15 = .ok (.imul, 1) := by decide +kernel
theorem d_M_encode_16 : decode (jyc Y_M_encode) 16 = .ok (.iload_n 3, 1) := by decide +kernel
theorem d_M_encode_17 : decode (jyc Y_M_encode) 17 = .ok (.iadd, 1) := by decide +kernel
theorem d_M_encode_18 : decode (jyc Y_M_encode) 18 = .ok (.imul, 1) := by decide +kernel
theorem d_M_encode_19 : decode (jyc Y_M_encode) 19 = .ok (.istore 4, 2) := by decide +kernel
theorem d_M_encode_21 : decode (jyc Y_M_encode) 21 = .ok (.iload_n 3, 1) := by decide +kernel
theorem d_M_encode_22 : decode (jyc Y_M_encode) 22 = .ok (.bipush 6, 2) := by decide +kernel
theorem d_M_encode_24 : decode (jyc Y_M_encode) 24 = .ok (.idiv, 1) := by decide +kernel
theorem d_M_encode_25 : decode (jyc Y_M_encode) 25 = .ok (.istore 5, 2) := by decide +kernel
theorem d_M_encode_27 : decode (jyc Y_M_encode) 27 = .ok (.iload_n 3, 1) := by decide +kernel
theorem d_M_encode_28 : decode (jyc Y_M_encode) 28 = .ok (.bipush 6, 2) := by decide +kernel
theorem d_M_encode_30 : decode (jyc Y_M_encode) 30 = .ok (.irem, 1) := by decide +kernel
theorem d_M_encode_31 : decode (jyc Y_M_encode) 31 = .ok (.istore 6, 2) := by decide +kernel
theorem d_M_encode_33 : decode (jyc Y_M_encode) 33 = .ok (.iconst 0, 1) := by decide +kernel
theorem d_M_encode_34 : decode (jyc Y_M_encode) 34 = .ok (.istore 7, 2) := by decide +kernel
theorem d_M_encode_36 : decode (jyc Y_M_encode) 36 = .ok (.iload 7, 2) := by decide +kernel
theorem d_M_encode_38 : decode (jyc Y_M_encode) 38 = .ok (.iconst 4, 1) := by decide +kernel
theorem d_M_encode_39 : decode (jyc Y_M_encode) 39 = .ok (.if_icmp .ge 115, 3) := by decide +kernel
theorem d_M_encode_42 : decode (jyc Y_M_encode) 42 = .ok (.lconst 0, 1) := by decide +kernel
theorem d_M_encode_43 : decode (jyc Y_M_encode) 43 = .ok (.lstore 8, 2) := by decide +kernel
theorem d_M_encode_45 : decode (jyc Y_M_encode) 45 = .ok (.iconst 0, 1) := by decide +kernel
theorem d_M_encode_46 : decode (jyc Y_M_encode) 46 = .ok (.istore 10, 2) := by decide +kernel
theorem d_M_encode_48 : decode (jyc Y_M_encode) 48 = .ok (.iload 10, 2) := by decide +kernel
theorem d_M_encode_50 : decode (jyc Y_M_encode) 50 = .ok (.iconst 4, 1) := by decide +kernel
theorem d_M_encode_51 : decode (jyc Y_M_encode) 51 = .ok (.if_icmp .ge 50, 3) := by decide +kernel
theorem d_M_encode_54 : decode (jyc Y_M_encode) 54 = .ok (.iload 6, 2) := by decide +kernel
theorem d_M_encode_56 : decode (jyc Y_M_encode) 56 = .ok (.iconst 3, 1) := by decide +kernel
theorem d_M_encode_57 : decode (jyc Y_M_encode) 57 = .ok (.if_icmp .le 44, 3) := by decide +kernel
theorem d_M_encode_60 : decode (jyc Y_M_encode) 60 = .ok (.lload 8, 2) := by decide +kernel
theorem d_M_encode_62 : decode (jyc Y_M_encode) 62 = .ok (.aload_n 2, 1) := by decide +kernel
theorem d_M_encode_63 : decode (jyc Y_M_encode) 63 = .ok (.bipush 16, 2) := by decide +kernel
theorem d_M_encode_65 : decode (jyc Y_M_encode) 65 = .ok (.iload 5, 2) := by decide +kernel
theorem d_M_encode_67 : decode (jyc Y_M_encode) 67 = .ok (.imul, 1) := by decide +kernel
theorem d_M_encode_68 : decode (jyc Y_M_encode) 68 = .ok (.iconst 4, 1) := by decide +kernel
theorem d_M_encode_69 : decode (jyc Y_M_encode) 69 = .ok (.iload 10, 2) := by decide +kernel
theorem d_M_encode_71 : decode (jyc Y_M_encode) 71 = .ok (.imul, 1) := by decide +kernel
theorem d_M_encode_72 : decode (jyc Y_M_encode) 72 = .ok (.iadd, 1) := by decide +kernel
theorem d_M_encode_73 : decode (jyc Y_M_encode) 73 = .ok (.iload 7, 2) := by decide +kernel
theorem d_M_encode_75 : decode (jyc Y_M_encode) 75 = .ok (.iadd, 1) := by decide +kernel
theorem d_M_encode_76 : decode (jyc Y_M_encode) 76 = .ok (.iaload, 1) := by decide +kernel
theorem d_M_encode_77 : decode (jyc Y_M_encode) 77 = .ok (.i2l, 1) := by decide +kernel
theorem d_M_encode_78 : decode (jyc Y_M_encode) 78 = .ok (.iload 6, 2) := by decide +kernel
theorem d_M_encode_80 : decode (jyc Y_M_encode) 80 = .ok (.iload 10, 2) := by decide +kernel
theorem d_M_encode_82 : decode (jyc Y_M_encode) 82 = .ok (.isub, 1) := by decide +kernel
theorem d_M_encode_83 : decode (jyc Y_M_encode) 83 = .ok (.i2l, 1) := by decide +kernel
theorem d_M_encode_84 : decode (jyc Y_M_encode) 84 = .ok (.invokestatic 103, 3) := by decide +kernel
theorem d_M_encode_87 : decode (jyc Y_M_encode) 87 = .ok (.lmul, 1) := by decide +kernel
theorem d_M_encode_88 : decode (jyc Y_M_encode) 88 = .ok (.ladd, 1) := by decide +kernel
theorem d_M_encode_89 : decode (jyc Y_M_encode) 89 = .ok (.ldc2_w 67, 3) := by decide +kernel
theorem d_M_encode_92 : decode (jyc Y_M_encode) 92 = .ok (.lrem, 1) := by decide +kernel
theorem d_M_encode_93 : decode (jyc Y_M_encode) 93 = .ok (.lstore 8, 2) := by decide +kernel
theorem d_M_encode_95 : decode (jyc Y_M_encode) 95 = .ok (.iinc 10 1, 3) := by decide +kernel
theorem d_M_encode_98 : decode (jyc Y_M_encode) 98 = .ok (.goto (-50), 3) := by decide +kernel
theorem d_M_encode_101 : decode (jyc Y_M_encode) 101 = .ok (.aload_n 0, 1) := by decide +kernel
theorem d_M_encode_102 : decode (jyc Y_M_encode) 102 = .ok (.getfield 16, 3) := by decide +kernel
theorem d_M_encode_105 : decode (jyc Y_M_encode) 105 = .ok (.iload 4, 2) := by decide +kernel
theorem d_M_encode_107 : decode (jyc Y_M_encode) 107 = .ok (.iload 7, 2) := by decide +kernel
theorem d_M_encode_109 : decode (jyc Y_M_encode) 109 = .ok (.iadd, 1) := by decide +kernel
theorem d_M_encode_110 : decode (jyc Y_M_encode) 110 = .ok (.iload 6, 2) := by decide +kernel
theorem d_M_encode_112 : decode (jyc Y_M_encode) 112 = .ok (.iconst 4, 1) := by decide +kernel
theorem d_M_encode_113 : decode (jyc Y_M_encode) 113 = .ok (.if_icmp .ge 31, 3) := by decide +kernel
theorem d_M_encode_116 : decode (jyc Y_M_encode) 116 = .ok (.aload_n 2, 1) := by decide +kernel
theorem d_M_encode_117 : decode (jyc Y_M_encode) 117 = .ok (.bipush 16, 2) := by decide +kernel
theorem d_M_encode_119 : decode (jyc Y_M_encode) 119 = .ok (.iload 5, 2) := by decide +kernel
theorem d_M_encode_121 : decode (jyc Y_M_encode) 121 = .ok (.imul, 1) := by decide +kernel
theorem d_M_encode_122 : decode (jyc Y_M_encode) 122 = .ok (.iconst 4, 1) := by decide +kernel
theorem d_M_encode_123 : decode (jyc Y_M_encode) 123 = .ok (.iload 6, 2) := by decide +kernel
theorem d_M_encode_125 : decode (jyc Y_M_encode) 125 = .ok (.iconst 4, 1) := by decide +kernel
theorem d_M_encode_126 : decode (jyc Y_M_encode) 126 = .ok (.if_icmp .ge 8, 3) := by decide +kernel
theorem d_M_encode_129 : decode (jyc Y_M_encode) 129 = .ok (.iload 6, 2) := by decide +kernel
theorem d_M_encode_131 : decode (jyc Y_M_encode) 131 = .ok (.goto 4, 3) := by decide +kernel
theorem d_M_encode_134 : decode (jyc Y_M_encode) 134 = .ok (.iconst 0, 1) := by decide +kernel
theorem d_M_encode_135 : decode (jyc Y_M_encode) 135 = .ok (.imul, 1) := by decide +kernel
theorem d_M_encode_136 : decode (jyc Y_M_encode) 136 = .ok (.iadd, 1) := by decide +kernel
theorem d_M_encode_137 : decode (jyc Y_M_encode) 137 = .ok (.iload 7, 2) := by decide +kernel
theorem d_M_encode_139 : decode (jyc Y_M_encode) 139 = .ok (.iadd, 1) := by decide +kernel
theorem d_M_encode_140 : decode (jyc Y_M_encode) 140 = .ok (.iaload, 1) := by decide +kernel
theorem d_M_encode_141 : decode (jyc Y_M_encode) 141 = .ok (.goto 6, 3) := by decide +kernel
theorem d_M_encode_144 : decode (jyc Y_M_encode) 144 = .ok (.lload 8, 2) := by decide +kernel
theorem d_M_encode_146 : decode (jyc Y_M_encode) 146 = .ok (.l2i, 1) := by decide +kernel
theorem d_M_encode_147 : decode (jyc Y_M_encode) 147 = .ok (.iastore, 1) := by decide +kernel
theorem d_M_encode_148 : decode (jyc Y_M_encode) 148 = .ok (.iinc 7 1, 3) := by decide +kernel
theorem d_M_encode_151 : decode (jyc Y_M_encode) 151 = .ok (.goto (-115), 3) := by decide +kernel
theorem d_M_encode_154 : decode (jyc Y_M_encode) 154 = .ok (.aload_n 0, 1) := by decide +kernel
theorem d_M_encode_155 : decode (jyc Y_M_encode) 155 = .ok (.getfield 16, 3) := by decide +kernel
theorem d_M_encode_158 : decode (jyc Y_M_encode) 158 = .ok (.iload 4, 2) := by decide +kernel
theorem d_M_encode_160 : decode (jyc Y_M_encode) 160 = .ok (.iconst 4, 1) := by decide +kernel
theorem d_M_encode_161 : decode (jyc Y_M_encode) 161 = .ok (.iadd, 1) := by decide +kernel
theorem d_M_encode_162 : decode (jyc Y_M_encode) 162 = .ok (.aload_n 0, 1) := by decide +kernel
theorem d_M_encode_163 : decode (jyc Y_M_encode) 163 = .ok (.iload_n 1, 1) := by decide +kernel
theorem d_M_encode_164 : decode (jyc Y_M_encode) 164 = .ok (.iload_n 3, 1) := by decide +kernel
theorem d_M_encode_165 : decode (jyc Y_M_encode) 165 = .ok (.aload_n 0, 1) := by decide +kernel
theorem d_M_encode_166 : decode (jyc Y_M_encode) 166 = .ok (.getfield 16, 3) := by decide +kernel
theorem d_M_encode_169 : decode (jyc Y_M_encode) 169 = .ok (.iload 4, 2) := by decide +kernel
theorem d_M_encode_171 : decode (jyc Y_M_encode) 171 = .ok (.invokevirtual 107, 3) := by decide +kernel
theorem d_M_encode_174 : decode (jyc Y_M_encode) 174 = .ok (.l2i, 1) := by decide +kernel
theorem d_M_encode_175 : decode (jyc Y_M_encode) 175 = .ok (.iastore, 1) := by decide +kernel
theorem d_M_encode_176 : decode (jyc Y_M_encode) 176 = .ok (.iinc 3 1, 3) := by decide +kernel
theorem d_M_encode_179 : decode (jyc Y_M_encode) 179 = .ok (.goto (-177), 3) := by decide +kernel
theorem d_M_encode_182 : decode (jyc Y_M_encode) 182 = .ok (.return_, 1) := by decide +kernel
theorem d_M_file_0 : decode (jyc Y_M_file) 0 = .ok (.aload_n 0, 1) := by decide +kernel
theorem d_M_file_1 : decode (jyc Y_M_file) 1 = .ok (.iload_n 1, 1) := by decide +kernel
theorem d_M_file_2 : decode (jyc Y_M_file) 2 = .ok (.iconst 1, 1) := by decide +kernel
theorem d_M_file_3 : decode (jyc Y_M_file) 3 = .ok (.if_icmp .lt 9, 3) := by decide +kernel
theorem d_M_file_6 : decode (jyc Y_M_file) 6 = .ok (.iload_n 1, 1) := by decide +kernel
theorem d_M_file_7 : decode (jyc Y_M_file) 7 = .ok (.bipush 64, 2) := by decide +kernel
theorem d_M_file_9 : decode (jyc Y_M_file) 9 = .ok (.if_icmp .le 7, 3) := by decide +kernel
theorem d_M_file_12 : decode (jyc Y_M_file) 12 = .ok (.iconst 1, 1) := by decide +kernel
theorem d_M_file_13 : decode (jyc Y_M_file) 13 = .ok (.goto 16, 3) := by decide +kernel
theorem d_M_file_16 : decode (jyc Y_M_file) 16 = .ok (.aload_n 0, 1) := by decide +kernel
theorem d_M_file_17 : decode (jyc Y_M_file) 17 = .ok (.getfield 88, 3) := by decide +kernel
theorem d_M_file_20 : decode (jyc Y_M_file) 20 = .ok (.iconst 3, 1) := by decide +kernel
theorem d_M_file_21 : decode (jyc Y_M_file) 21 = .ok (.if_icmp .ne 7, 3) := by decide +kernel
theorem d_M_file_24 : decode (jyc Y_M_file) 24 = .ok (.iconst 2, 1) := by decide +kernel
theorem d_M_file_25 : decode (jyc Y_M_file) 25 = .ok (.goto 4, 3) := by decide +kernel
theorem d_M_file_28 : decode (jyc Y_M_file) 28 = .ok (.iconst 0, 1) := by decide +kernel
theorem d_M_file_29 : decode (jyc Y_M_file) 29 = .ok (.putfield 63, 3) := by decide +kernel
theorem d_M_file_32 : decode (jyc Y_M_file) 32 = .ok (.aload_n 0, 1) := by decide +kernel
theorem d_M_file_33 : decode (jyc Y_M_file) 33 = .ok (.getfield 63, 3) := by decide +kernel
theorem d_M_file_36 : decode (jyc Y_M_file) 36 = .ok (.ifCond .le 5, 3) := by decide +kernel
theorem d_M_file_39 : decode (jyc Y_M_file) 39 = .ok (.iconst 0, 1) := by decide +kernel
theorem d_M_file_40 : decode (jyc Y_M_file) 40 = .ok (.ireturn, 1) := by decide +kernel
theorem d_M_file_41 : decode (jyc Y_M_file) 41 = .ok (.aload_n 0, 1) := by decide +kernel
theorem d_M_file_42 : decode (jyc Y_M_file) 42 = .ok (.getfield 13, 3) := by decide +kernel
theorem d_M_file_45 : decode (jyc Y_M_file) 45 = .ok (.aload_n 0, 1) := by decide +kernel
theorem d_M_file_46 : decode (jyc Y_M_file) 46 = .ok (.getfield 88, 3) := by decide +kernel
theorem d_M_file_49 : decode (jyc Y_M_file) 49 = .ok (.iload_n 1, 1) := by decide +kernel
theorem d_M_file_50 : decode (jyc Y_M_file) 50 = .ok (.iastore, 1) := by decide +kernel
theorem d_M_file_51 : decode (jyc Y_M_file) 51 = .ok (.iconst 0, 1) := by decide +kernel
theorem d_M_file_52 : decode (jyc Y_M_file) 52 = .ok (.istore_n 2, 1) := by decide +kernel
theorem d_M_file_53 : decode (jyc Y_M_file) 53 = .ok (.iload_n 2, 1) := by decide +kernel
theorem d_M_file_54 : decode (jyc Y_M_file) 54 = .ok (.bipush 64, 2) := by decide +kernel
theorem d_M_file_56 : decode (jyc Y_M_file) 56 = .ok (.if_icmp .ge 30, 3) := by decide +kernel
theorem d_M_file_59 : decode (jyc Y_M_file) 59 = .ok (.aload_n 0, 1) := by decide +kernel
theorem d_M_file_60 : decode (jyc Y_M_file) 60 = .ok (.getfield 53, 3) := by decide +kernel
theorem d_M_file_63 : decode (jyc Y_M_file) 63 = .ok (.iload_n 2, 1) := by decide +kernel
theorem d_M_file_64 : decode (jyc Y_M_file) 64 = .ok (.iload_n 2, 1) := by decide +kernel
theorem d_M_file_65 : decode (jyc Y_M_file) 65 = .ok (.iload_n 1, 1) := by decide +kernel
theorem d_M_file_66 : decode (jyc Y_M_file) 66 = .ok (.if_icmp .ge 12, 3) := by decide +kernel
theorem d_M_file_69 : decode (jyc Y_M_file) 69 = .ok (.aload_n 0, 1) := by decide +kernel
theorem d_M_file_70 : decode (jyc Y_M_file) 70 = .ok (.getfield 7, 3) := by decide +kernel
theorem d_M_file_73 : decode (jyc Y_M_file) 73 = .ok (.iload_n 2, 1) := by decide +kernel
theorem d_M_file_74 : decode (jyc Y_M_file) 74 = .ok (.iaload, 1) := by decide +kernel
theorem d_M_file_75 : decode (jyc Y_M_file) 75 = .ok (.goto 4, 3) := by decide +kernel
theorem d_M_file_78 : decode (jyc Y_M_file) 78 = .ok (.iconst 0, 1) := by decide +kernel
theorem d_M_file_79 : decode (jyc Y_M_file) 79 = .ok (.iastore, 1) := by decide +kernel
theorem d_M_file_80 : decode (jyc Y_M_file) 80 = .ok (.iinc 2 1, 3) := by decide +kernel
theorem d_M_file_83 : decode (jyc Y_M_file) 83 = .ok (.goto (-30), 3) := by decide +kernel
theorem d_M_file_86 : decode (jyc Y_M_file) 86 = .ok (.aload_n 0, 1) := by decide +kernel
theorem d_M_file_87 : decode (jyc Y_M_file) 87 = .ok (.dup, 1) := by decide +kernel
theorem d_M_file_88 : decode (jyc Y_M_file) 88 = .ok (.getfield 88, 3) := by decide +kernel
theorem d_M_file_91 : decode (jyc Y_M_file) 91 = .ok (.iconst 1, 1) := by decide +kernel
theorem d_M_file_92 : decode (jyc Y_M_file) 92 = .ok (.iadd, 1) := by decide +kernel
theorem d_M_file_93 : decode (jyc Y_M_file) 93 = .ok (.putfield 88, 3) := by decide +kernel
theorem d_M_file_96 : decode (jyc Y_M_file) 96 = .ok (.aload_n 0, 1) := by decide +kernel
theorem d_M_file_97 : decode (jyc Y_M_file) 97 = .ok (.aload_n 0, 1) := by decide +kernel
theorem d_M_file_98 : decode (jyc Y_M_file) 98 = .ok (.getfield 88, 3) := by decide +kernel
theorem d_M_file_101 : decode (jyc Y_M_file) 101 = .ok (.iconst 1, 1) := by decide +kernel
theorem d_M_file_102 : decode (jyc Y_M_file) 102 = .ok (.isub, 1) := by decide +kernel
theorem d_M_file_103 : decode (jyc Y_M_file) 103 = .ok (.aload_n 0, 1) := by decide +kernel
theorem d_M_file_104 : decode (jyc Y_M_file) 104 = .ok (.getfield 53, 3) := by decide +kernel
theorem d_M_file_107 : decode (jyc Y_M_file) 107 = .ok (.invokevirtual 111, 3) := by decide +kernel
theorem d_M_file_110 : decode (jyc Y_M_file) 110 = .ok (.aload_n 0, 1) := by decide +kernel
theorem d_M_file_111 : decode (jyc Y_M_file) 111 = .ok (.getfield 88, 3) := by decide +kernel
theorem d_M_file_114 : decode (jyc Y_M_file) 114 = .ok (.iconst 1, 1) := by decide +kernel
theorem d_M_file_115 : decode (jyc Y_M_file) 115 = .ok (.isub, 1) := by decide +kernel
theorem d_M_file_116 : decode (jyc Y_M_file) 116 = .ok (.ireturn, 1) := by decide +kernel
theorem d_M_isFile_0 : decode (jyc Y_M_isFile) 0 = .ok (.iload_n 1, 1) := by decide +kernel
theorem d_M_isFile_1 : decode (jyc Y_M_isFile) 1 = .ok (.ifCond .lt 15, 3) := by decide +kernel
theorem d_M_isFile_4 : decode (jyc Y_M_isFile) 4 = .ok (.iload_n 1, 1) := by decide +kernel
theorem d_M_isFile_5 : decode (jyc Y_M_isFile) 5 = .ok (.aload_n 0, 1) := by decide +kernel
theorem d_M_isFile_6 : decode (jyc Y_M_isFile) 6 = .ok (.getfield 88, 3) := by decide +kernel
theorem d_M_isFile_9 : decode (jyc Y_M_isFile) 9 = .ok (.if_icmp .ge 7, 3) := by decide +kernel
theorem d_M_isFile_12 : decode (jyc Y_M_isFile) 12 = .ok (.iconst 1, 1) := by decide +kernel
theorem d_M_isFile_13 : decode (jyc Y_M_isFile) 13 = .ok (.goto 4, 3) := by decide +kernel
theorem d_M_isFile_16 : decode (jyc Y_M_isFile) 16 = .ok (.iconst 0, 1) := by decide +kernel
theorem d_M_isFile_17 : decode (jyc Y_M_isFile) 17 = .ok (.ireturn, 1) := by decide +kernel
theorem d_M_isKeeper_0 : decode (jyc Y_M_isKeeper) 0 = .ok (.iload_n 0, 1) := by decide +kernel
theorem d_M_isKeeper_1 : decode (jyc Y_M_isKeeper) 1 = .ok (.ifCond .lt 12, 3) := by decide +kernel
theorem d_M_isKeeper_4 : decode (jyc Y_M_isKeeper) 4 = .ok (.iload_n 0, 1) := by decide +kernel
theorem d_M_isKeeper_5 : decode (jyc Y_M_isKeeper) 5 = .ok (.iconst 4, 1) := by decide +kernel
theorem d_M_isKeeper_6 : decode (jyc Y_M_isKeeper) 6 = .ok (.if_icmp .ge 7, 3) := by decide +kernel
theorem d_M_isKeeper_9 : decode (jyc Y_M_isKeeper) 9 = .ok (.iconst 1, 1) := by decide +kernel
theorem d_M_isKeeper_10 : decode (jyc Y_M_isKeeper) 10 = .ok (.goto 4, 3) := by decide +kernel
theorem d_M_isKeeper_13 : decode (jyc Y_M_isKeeper) 13 = .ok (.iconst 0, 1) := by decide +kernel
theorem d_M_isKeeper_14 : decode (jyc Y_M_isKeeper) 14 = .ok (.ireturn, 1) := by decide +kernel
theorem d_M_holds_0 : decode (jyc Y_M_holds) 0 = .ok (.iload_n 1, 1) := by decide +kernel
theorem d_M_holds_1 : decode (jyc Y_M_holds) 1 = .ok (.invokestatic 115, 3) := by decide +kernel
theorem d_M_holds_4 : decode (jyc Y_M_holds) 4 = .ok (.ifCond .eq 47, 3) := by decide +kernel
theorem d_M_holds_7 : decode (jyc Y_M_holds) 7 = .ok (.aload_n 0, 1) := by decide +kernel
theorem d_M_holds_8 : decode (jyc Y_M_holds) 8 = .ok (.iload_n 2, 1) := by decide +kernel
theorem d_M_holds_9 : decode (jyc Y_M_holds) 9 = .ok (.invokevirtual 118, 3) := by decide +kernel
theorem d_M_holds_12 : decode (jyc Y_M_holds) 12 = .ok (.ifCond .eq 39, 3) := by decide +kernel
theorem d_M_holds_15 : decode (jyc Y_M_holds) 15 = .ok (.aload_n 0, 1) := by decide +kernel
theorem d_M_holds_16 : decode (jyc Y_M_holds) 16 = .ok (.getfield 19, 3) := by decide +kernel
theorem d_M_holds_19 : decode (jyc Y_M_holds) 19 = .ok (.iload_n 1, 1) := by decide +kernel
theorem d_M_holds_20 : decode (jyc Y_M_holds) 20 = .ok (.invokestatic 115, 3) := by decide +kernel
theorem d_M_holds_23 : decode (jyc Y_M_holds) 23 = .ok (.ifCond .eq 19, 3) := by decide +kernel
theorem d_M_holds_26 : decode (jyc Y_M_holds) 26 = .ok (.aload_n 0, 1) := by decide +kernel
theorem d_M_holds_27 : decode (jyc Y_M_holds) 27 = .ok (.iload_n 2, 1) := by decide +kernel
theorem d_M_holds_28 : decode (jyc Y_M_holds) 28 = .ok (.invokevirtual 118, 3) := by decide +kernel
theorem d_M_holds_31 : decode (jyc Y_M_holds) 31 = .ok (.ifCond .eq 11, 3) := by decide +kernel
theorem d_M_holds_34 : decode (jyc Y_M_holds) 34 = .ok (.iconst 3, 1) := by decide +kernel
theorem d_M_holds_35 : decode (jyc Y_M_holds) 35 = .ok (.iload_n 1, 1) := by decide +kernel
theorem d_M_holds_36 : decode (jyc Y_M_holds) 36 = .ok (.imul, 1) := by decide +kernel
theorem d_M_holds_37 : decode (jyc Y_M_holds) 37 = .ok (.iload_n 2, 1) := by decide +kernel
theorem d_M_holds_38 : decode (jyc Y_M_holds) 38 = .ok (.iadd, 1) := by decide +kernel
theorem d_M_holds_39 : decode (jyc Y_M_holds) 39 = .ok (.goto 4, 3) := by decide +kernel
theorem d_M_holds_42 : decode (jyc Y_M_holds) 42 = .ok (.iconst 0, 1) := by decide +kernel
theorem d_M_holds_43 : decode (jyc Y_M_holds) 43 = .ok (.baload, 1) := by decide +kernel
theorem d_M_holds_44 : decode (jyc Y_M_holds) 44 = .ok (.ifCond .eq 7, 3) := by decide +kernel
theorem d_M_holds_47 : decode (jyc Y_M_holds) 47 = .ok (.iconst 1, 1) := by decide +kernel
theorem d_M_holds_48 : decode (jyc Y_M_holds) 48 = .ok (.goto 4, 3) := by decide +kernel
theorem d_M_holds_51 : decode (jyc Y_M_holds) 51 = .ok (.iconst 0, 1) := by decide +kernel
theorem d_M_holds_52 : decode (jyc Y_M_holds) 52 = .ok (.ireturn, 1) := by decide +kernel
theorem d_M_spot_0 : decode (jyc Y_M_spot) 0 = .ok (.sipush 360, 3) := by decide +kernel
theorem d_M_spot_3 : decode (jyc Y_M_spot) 3 = .ok (.iload_n 0, 1) := by decide +kernel
theorem d_M_spot_4 : decode (jyc Y_M_spot) 4 = .ok (.imul, 1) := by decide +kernel
theorem d_M_spot_5 : decode (jyc Y_M_spot) 5 = .ok (.iconst 5, 1) := by decide +kernel
theorem d_M_spot_6 : decode (jyc Y_M_spot) 6 = .ok (.bipush 24, 2) := by decide +kernel
theorem d_M_spot_8 : decode (jyc Y_M_spot) 8 = .ok (.iload_n 1, 1) := by decide +kernel
theorem d_M_spot_9 : decode (jyc Y_M_spot) 9 = .ok (.imul, 1) := by decide +kernel
theorem d_M_spot_10 : decode (jyc Y_M_spot) 10 = .ok (.iload_n 2, 1) := by decide +kernel
theorem d_M_spot_11 : decode (jyc Y_M_spot) 11 = .ok (.iadd, 1) := by decide +kernel
theorem d_M_spot_12 : decode (jyc Y_M_spot) 12 = .ok (.imul, 1) := by decide +kernel
theorem d_M_spot_13 : decode (jyc Y_M_spot) 13 = .ok (.iadd, 1) := by decide +kernel
theorem d_M_spot_14 : decode (jyc Y_M_spot) 14 = .ok (.ireturn, 1) := by decide +kernel
theorem d_M_mark_0 : decode (jyc Y_M_mark) 0 = .ok (.bipush 72, 2) := by decide +kernel
theorem d_M_mark_2 : decode (jyc Y_M_mark) 2 = .ok (.iload_n 0, 1) := by decide +kernel
theorem d_M_mark_3 : decode (jyc Y_M_mark) 3 = .ok (.imul, 1) := by decide +kernel
theorem d_M_mark_4 : decode (jyc Y_M_mark) 4 = .ok (.bipush 24, 2) := by decide +kernel
theorem d_M_mark_6 : decode (jyc Y_M_mark) 6 = .ok (.iload_n 1, 1) := by decide +kernel
theorem d_M_mark_7 : decode (jyc Y_M_mark) 7 = .ok (.imul, 1) := by decide +kernel
theorem d_M_mark_8 : decode (jyc Y_M_mark) 8 = .ok (.iadd, 1) := by decide +kernel
theorem d_M_mark_9 : decode (jyc Y_M_mark) 9 = .ok (.iload_n 2, 1) := by decide +kernel
theorem d_M_mark_10 : decode (jyc Y_M_mark) 10 = .ok (.iadd, 1) := by decide +kernel
theorem d_M_mark_11 : decode (jyc Y_M_mark) 11 = .ok (.ireturn, 1) := by decide +kernel
theorem d_M_place_0 : decode (jyc Y_M_place) 0 = .ok (.aload_n 0, 1) := by decide +kernel
theorem d_M_place_1 : decode (jyc Y_M_place) 1 = .ok (.aload_n 0, 1) := by decide +kernel
theorem d_M_place_2 : decode (jyc Y_M_place) 2 = .ok (.iload_n 1, 1) := by decide +kernel
theorem d_M_place_3 : decode (jyc Y_M_place) 3 = .ok (.invokevirtual 118, 3) := by decide +kernel
theorem d_M_place_6 : decode (jyc Y_M_place) 6 = .ok (.ifCond .eq 14, 3) := by decide +kernel
theorem d_M_place_9 : decode (jyc Y_M_place) 9 = .ok (.iload_n 2, 1) := by decide +kernel
theorem d_M_place_10 : decode (jyc Y_M_place) 10 = .ok (.invokestatic 115, 3) := by decide +kernel
theorem d_M_place_13 : decode (jyc Y_M_place) 13 = .ok (.ifCond .eq 7, 3) := by decide +kernel
theorem d_M_place_16 : decode (jyc Y_M_place) 16 = .ok (.iconst 0, 1) := by decide +kernel
theorem d_M_place_17 : decode (jyc Y_M_place) 17 = .ok (.goto 4, 3) := by decide +kernel
theorem d_M_place_20 : decode (jyc Y_M_place) 20 = .ok (.iconst 1, 1) := by decide +kernel
theorem d_M_place_21 : decode (jyc Y_M_place) 21 = .ok (.putfield 63, 3) := by decide +kernel
theorem d_M_place_24 : decode (jyc Y_M_place) 24 = .ok (.aload_n 0, 1) := by decide +kernel
theorem d_M_place_25 : decode (jyc Y_M_place) 25 = .ok (.getfield 63, 3) := by decide +kernel
theorem d_M_place_28 : decode (jyc Y_M_place) 28 = .ok (.ifCond .le 5, 3) := by decide +kernel
theorem d_M_place_31 : decode (jyc Y_M_place) 31 = .ok (.iconst 0, 1) := by decide +kernel
theorem d_M_place_32 : decode (jyc Y_M_place) 32 = .ok (.ireturn, 1) := by decide +kernel
theorem d_M_place_33 : decode (jyc Y_M_place) 33 = .ok (.aload_n 0, 1) := by decide +kernel
theorem d_M_place_34 : decode (jyc Y_M_place) 34 = .ok (.getfield 19, 3) := by decide +kernel
theorem d_M_place_37 : decode (jyc Y_M_place) 37 = .ok (.iconst 3, 1) := by decide +kernel
theorem d_M_place_38 : decode (jyc Y_M_place) 38 = .ok (.iload_n 2, 1) := by decide +kernel
theorem d_M_place_39 : decode (jyc Y_M_place) 39 = .ok (.imul, 1) := by decide +kernel
theorem d_M_place_40 : decode (jyc Y_M_place) 40 = .ok (.iload_n 1, 1) := by decide +kernel
theorem d_M_place_41 : decode (jyc Y_M_place) 41 = .ok (.iadd, 1) := by decide +kernel
theorem d_M_place_42 : decode (jyc Y_M_place) 42 = .ok (.baload, 1) := by decide +kernel
theorem d_M_place_43 : decode (jyc Y_M_place) 43 = .ok (.ifCond .eq 5, 3) := by decide +kernel
theorem d_M_place_46 : decode (jyc Y_M_place) 46 = .ok (.iconst 0, 1) := by decide +kernel
theorem d_M_place_47 : decode (jyc Y_M_place) 47 = .ok (.ireturn, 1) := by decide +kernel
theorem d_M_place_48 : decode (jyc Y_M_place) 48 = .ok (.aload_n 0, 1) := by decide +kernel
theorem d_M_place_49 : decode (jyc Y_M_place) 49 = .ok (.getfield 19, 3) := by decide +kernel
theorem d_M_place_52 : decode (jyc Y_M_place) 52 = .ok (.iconst 3, 1) := by decide +kernel
theorem d_M_place_53 : decode (jyc Y_M_place) 53 = .ok (.iload_n 2, 1) := by decide +kernel
theorem d_M_place_54 : decode (jyc Y_M_place) 54 = .ok (.imul, 1) := by decide +kernel
theorem d_M_place_55 : decode (jyc Y_M_place) 55 = .ok (.iload_n 1, 1) := by decide +kernel
theorem d_M_place_56 : decode (jyc Y_M_place) 56 = .ok (.iadd, 1) := by decide +kernel
theorem d_M_place_57 : decode (jyc Y_M_place) 57 = .ok (.iconst 1, 1) := by decide +kernel
theorem d_M_place_58 : decode (jyc Y_M_place) 58 = .ok (.bastore, 1) := by decide +kernel
theorem d_M_place_59 : decode (jyc Y_M_place) 59 = .ok (.iconst 0, 1) := by decide +kernel
theorem d_M_place_60 : decode (jyc Y_M_place) 60 = .ok (.istore_n 3, 1) := by decide +kernel
theorem d_M_place_61 : decode (jyc Y_M_place) 61 = .ok (.iload_n 3, 1) := by decide +kernel
theorem d_M_place_62 : decode (jyc Y_M_place) 62 = .ok (.aload_n 0, 1) := by decide +kernel
theorem d_M_place_63 : decode (jyc Y_M_place) 63 = .ok (.iload_n 1, 1) := by decide +kernel
theorem d_M_place_64 : decode (jyc Y_M_place) 64 = .ok (.invokevirtual 99, 3) := by decide +kernel
theorem d_M_place_67 : decode (jyc Y_M_place) 67 = .ok (.if_icmp .ge 16, 3) := by decide +kernel
theorem d_M_place_70 : decode (jyc Y_M_place) 70 = .ok (.aload_n 0, 1) := by decide +kernel
theorem d_M_place_71 : decode (jyc Y_M_place) 71 = .ok (.iload_n 2, 1) := by decide +kernel
theorem d_M_place_72 : decode (jyc Y_M_place) 72 = .ok (.iload_n 1, 1) := by decide +kernel
theorem d_M_place_73 : decode (jyc Y_M_place) 73 = .ok (.iload_n 3, 1) := by decide +kernel
theorem d_M_place_74 : decode (jyc Y_M_place) 74 = .ok (.invokevirtual 121, 3) := by decide +kernel
theorem d_M_place_77 : decode (jyc Y_M_place) 77 = .ok (.iinc 3 1, 3) := by decide +kernel
theorem d_M_place_80 : decode (jyc Y_M_place) 80 = .ok (.goto (-19), 3) := by decide +kernel
theorem d_M_place_83 : decode (jyc Y_M_place) 83 = .ok (.iconst 1, 1) := by decide +kernel
theorem d_M_place_84 : decode (jyc Y_M_place) 84 = .ok (.ireturn, 1) := by decide +kernel
theorem d_M_put_0 : decode (jyc Y_M_put) 0 = .ok (.iconst 0, 1) := by decide +kernel
theorem d_M_put_1 : decode (jyc Y_M_put) 1 = .ok (.istore 4, 2) := by decide +kernel
theorem d_M_put_3 : decode (jyc Y_M_put) 3 = .ok (.iload 4, 2) := by decide +kernel
theorem d_M_put_5 : decode (jyc Y_M_put) 5 = .ok (.iconst 5, 1) := by decide +kernel
theorem d_M_put_6 : decode (jyc Y_M_put) 6 = .ok (.if_icmp .ge 39, 3) := by decide +kernel
theorem d_M_put_9 : decode (jyc Y_M_put) 9 = .ok (.aload_n 0, 1) := by decide +kernel
theorem d_M_put_10 : decode (jyc Y_M_put) 10 = .ok (.getfield 23, 3) := by decide +kernel
theorem d_M_put_13 : decode (jyc Y_M_put) 13 = .ok (.iload_n 1, 1) := by decide +kernel
theorem d_M_put_14 : decode (jyc Y_M_put) 14 = .ok (.iload_n 2, 1) := by decide +kernel
theorem d_M_put_15 : decode (jyc Y_M_put) 15 = .ok (.iload_n 3, 1) := by decide +kernel
theorem d_M_put_16 : decode (jyc Y_M_put) 16 = .ok (.invokestatic 125, 3) := by decide +kernel
theorem d_M_put_19 : decode (jyc Y_M_put) 19 = .ok (.iload 4, 2) := by decide +kernel
theorem d_M_put_21 : decode (jyc Y_M_put) 21 = .ok (.iadd, 1) := by decide +kernel
theorem d_M_put_22 : decode (jyc Y_M_put) 22 = .ok (.aload_n 0, 1) := by decide +kernel
theorem d_M_put_23 : decode (jyc Y_M_put) 23 = .ok (.getfield 16, 3) := by decide +kernel
theorem d_M_put_26 : decode (jyc Y_M_put) 26 = .ok (.iconst 5, 1) := by decide +kernel
theorem d_M_put_27 : decode (jyc Y_M_put) 27 = .ok (.bipush 24, 2) := by decide +kernel
theorem d_M_put_29 : decode (jyc Y_M_put) 29 = .ok (.iload_n 2, 1) := by decide +kernel
theorem d_M_put_30 : decode (jyc Y_M_put) 30 = .ok (.imul, 1) := by decide +kernel
theorem d_M_put_31 : decode (jyc Y_M_put) 31 = .ok (.iload_n 3, 1) := by decide +kernel
theorem d_M_put_32 : decode (jyc Y_M_put) 32 = .ok (.iadd, 1) := by decide +kernel
theorem d_M_put_33 : decode (jyc Y_M_put) 33 = .ok (.imul, 1) := by decide +kernel
theorem d_M_put_34 : decode (jyc Y_M_put) 34 = .ok (.iload 4, 2) := by decide +kernel
theorem d_M_put_36 : decode (jyc Y_M_put) 36 = .ok (.iadd, 1) := by decide +kernel
theorem d_M_put_37 : decode (jyc Y_M_put) 37 = .ok (.iaload, 1) := by decide +kernel
theorem d_M_put_38 : decode (jyc Y_M_put) 38 = .ok (.iastore, 1) := by decide +kernel
theorem d_M_put_39 : decode (jyc Y_M_put) 39 = .ok (.iinc 4 1, 3) := by decide +kernel
theorem d_M_put_42 : decode (jyc Y_M_put) 42 = .ok (.goto (-39), 3) := by decide +kernel
theorem d_M_put_45 : decode (jyc Y_M_put) 45 = .ok (.aload_n 0, 1) := by decide +kernel
theorem d_M_put_46 : decode (jyc Y_M_put) 46 = .ok (.getfield 26, 3) := by decide +kernel
theorem d_M_put_49 : decode (jyc Y_M_put) 49 = .ok (.iload_n 1, 1) := by decide +kernel
theorem d_M_put_50 : decode (jyc Y_M_put) 50 = .ok (.iload_n 2, 1) := by decide +kernel
theorem d_M_put_51 : decode (jyc Y_M_put) 51 = .ok (.iload_n 3, 1) := by decide +kernel
theorem d_M_put_52 : decode (jyc Y_M_put) 52 = .ok (.invokestatic 129, 3) := by decide +kernel
theorem d_M_put_55 : decode (jyc Y_M_put) 55 = .ok (.iconst 0, 1) := by decide +kernel
theorem d_M_put_56 : decode (jyc Y_M_put) 56 = .ok (.bastore, 1) := by decide +kernel
theorem d_M_put_57 : decode (jyc Y_M_put) 57 = .ok (.return_, 1) := by decide +kernel
theorem d_M_isRow_0 : decode (jyc Y_M_isRow) 0 = .ok (.aload_n 0, 1) := by decide +kernel
theorem d_M_isRow_1 : decode (jyc Y_M_isRow) 1 = .ok (.iload_n 1, 1) := by decide +kernel
theorem d_M_isRow_2 : decode (jyc Y_M_isRow) 2 = .ok (.iload_n 2, 1) := by decide +kernel
theorem d_M_isRow_3 : decode (jyc Y_M_isRow) 3 = .ok (.invokevirtual 132, 3) := by decide +kernel
theorem d_M_isRow_6 : decode (jyc Y_M_isRow) 6 = .ok (.ifCond .eq 32, 3) := by decide +kernel
theorem d_M_isRow_9 : decode (jyc Y_M_isRow) 9 = .ok (.iload_n 3, 1) := by decide +kernel
theorem d_M_isRow_10 : decode (jyc Y_M_isRow) 10 = .ok (.ifCond .lt 28, 3) := by decide +kernel
theorem d_M_isRow_13 : decode (jyc Y_M_isRow) 13 = .ok (.iload_n 3, 1) := by decide +kernel
theorem d_M_isRow_14 : decode (jyc Y_M_isRow) 14 = .ok (.aload_n 0, 1) := by decide +kernel
theorem d_M_isRow_15 : decode (jyc Y_M_isRow) 15 = .ok (.aload_n 0, 1) := by decide +kernel
theorem d_M_isRow_16 : decode (jyc Y_M_isRow) 16 = .ok (.iload_n 2, 1) := by decide +kernel
theorem d_M_isRow_17 : decode (jyc Y_M_isRow) 17 = .ok (.invokevirtual 118, 3) := by decide +kernel
theorem d_M_isRow_20 : decode (jyc Y_M_isRow) 20 = .ok (.ifCond .eq 7, 3) := by decide +kernel
theorem d_M_isRow_23 : decode (jyc Y_M_isRow) 23 = .ok (.iload_n 2, 1) := by decide +kernel
theorem d_M_isRow_24 : decode (jyc Y_M_isRow) 24 = .ok (.goto 4, 3) := by decide +kernel
theorem d_M_isRow_27 : decode (jyc Y_M_isRow) 27 = .ok (.iconst 0, 1) := by decide +kernel
theorem d_M_isRow_28 : decode (jyc Y_M_isRow) 28 = .ok (.invokevirtual 99, 3) := by decide +kernel
theorem d_M_isRow_31 : decode (jyc Y_M_isRow) 31 = .ok (.if_icmp .ge 7, 3) := by decide +kernel
theorem d_M_isRow_34 : decode (jyc Y_M_isRow) 34 = .ok (.iconst 1, 1) := by decide +kernel
theorem d_M_isRow_35 : decode (jyc Y_M_isRow) 35 = .ok (.goto 4, 3) := by decide +kernel
theorem d_M_isRow_38 : decode (jyc Y_M_isRow) 38 = .ok (.iconst 0, 1) := by decide +kernel
theorem d_M_isRow_39 : decode (jyc Y_M_isRow) 39 = .ok (.ireturn, 1) := by decide +kernel
theorem d_M_lose_0 : decode (jyc Y_M_lose) 0 = .ok (.aload_n 0, 1) := by decide +kernel
theorem d_M_lose_1 : decode (jyc Y_M_lose) 1 = .ok (.aload_n 0, 1) := by decide +kernel
theorem d_M_lose_2 : decode (jyc Y_M_lose) 2 = .ok (.iload_n 1, 1) := by decide +kernel
theorem d_M_lose_3 : decode (jyc Y_M_lose) 3 = .ok (.iload_n 2, 1) := by decide +kernel
theorem d_M_lose_4 : decode (jyc Y_M_lose) 4 = .ok (.iload_n 3, 1) := by decide +kernel
theorem d_M_lose_5 : decode (jyc Y_M_lose) 5 = .ok (.invokevirtual 136, 3) := by decide +kernel
theorem d_M_lose_8 : decode (jyc Y_M_lose) 8 = .ok (.ifCond .eq 7, 3) := by decide +kernel
theorem d_M_lose_11 : decode (jyc Y_M_lose) 11 = .ok (.iconst 0, 1) := by decide +kernel
theorem d_M_lose_12 : decode (jyc Y_M_lose) 12 = .ok (.goto 4, 3) := by decide +kernel
theorem d_M_lose_15 : decode (jyc Y_M_lose) 15 = .ok (.iconst 1, 1) := by decide +kernel
theorem d_M_lose_16 : decode (jyc Y_M_lose) 16 = .ok (.putfield 63, 3) := by decide +kernel
theorem d_M_lose_19 : decode (jyc Y_M_lose) 19 = .ok (.aload_n 0, 1) := by decide +kernel
theorem d_M_lose_20 : decode (jyc Y_M_lose) 20 = .ok (.getfield 63, 3) := by decide +kernel
theorem d_M_lose_23 : decode (jyc Y_M_lose) 23 = .ok (.ifCond .gt 17, 3) := by decide +kernel
theorem d_M_lose_26 : decode (jyc Y_M_lose) 26 = .ok (.aload_n 0, 1) := by decide +kernel
theorem d_M_lose_27 : decode (jyc Y_M_lose) 27 = .ok (.getfield 26, 3) := by decide +kernel
theorem d_M_lose_30 : decode (jyc Y_M_lose) 30 = .ok (.iload_n 1, 1) := by decide +kernel
theorem d_M_lose_31 : decode (jyc Y_M_lose) 31 = .ok (.iload_n 2, 1) := by decide +kernel
theorem d_M_lose_32 : decode (jyc Y_M_lose) 32 = .ok (.iload_n 3, 1) := by decide +kernel
theorem d_M_lose_33 : decode (jyc Y_M_lose) 33 = .ok (.invokestatic 129, 3) := by decide +kernel
theorem d_M_lose_36 : decode (jyc Y_M_lose) 36 = .ok (.baload, 1) := by decide +kernel
theorem d_M_lose_37 : decode (jyc Y_M_lose) 37 = .ok (.ifCond .eq 5, 3) := by decide +kernel
theorem d_M_lose_40 : decode (jyc Y_M_lose) 40 = .ok (.iconst 0, 1) := by decide +kernel
theorem d_M_lose_41 : decode (jyc Y_M_lose) 41 = .ok (.ireturn, 1) := by decide +kernel
theorem d_M_lose_42 : decode (jyc Y_M_lose) 42 = .ok (.aload_n 0, 1) := by decide +kernel
theorem d_M_lose_43 : decode (jyc Y_M_lose) 43 = .ok (.getfield 26, 3) := by decide +kernel
theorem d_M_lose_46 : decode (jyc Y_M_lose) 46 = .ok (.iload_n 1, 1) := by decide +kernel
theorem d_M_lose_47 : decode (jyc Y_M_lose) 47 = .ok (.iload_n 2, 1) := by decide +kernel
theorem d_M_lose_48 : decode (jyc Y_M_lose) 48 = .ok (.iload_n 3, 1) := by decide +kernel
theorem d_M_lose_49 : decode (jyc Y_M_lose) 49 = .ok (.invokestatic 129, 3) := by decide +kernel
theorem d_M_lose_52 : decode (jyc Y_M_lose) 52 = .ok (.iconst 1, 1) := by decide +kernel
theorem d_M_lose_53 : decode (jyc Y_M_lose) 53 = .ok (.bastore, 1) := by decide +kernel
theorem d_M_lose_54 : decode (jyc Y_M_lose) 54 = .ok (.iconst 0, 1) := by decide +kernel
theorem d_M_lose_55 : decode (jyc Y_M_lose) 55 = .ok (.istore 4, 2) := by decide +kernel
theorem d_M_lose_57 : decode (jyc Y_M_lose) 57 = .ok (.iload 4, 2) := by decide +kernel
theorem d_M_lose_59 : decode (jyc Y_M_lose) 59 = .ok (.iconst 5, 1) := by decide +kernel
theorem d_M_lose_60 : decode (jyc Y_M_lose) 60 = .ok (.if_icmp .ge 24, 3) := by decide +kernel
theorem d_M_lose_63 : decode (jyc Y_M_lose) 63 = .ok (.aload_n 0, 1) := by decide +kernel
theorem d_M_lose_64 : decode (jyc Y_M_lose) 64 = .ok (.getfield 23, 3) := by decide +kernel
theorem d_M_lose_67 : decode (jyc Y_M_lose) 67 = .ok (.iload_n 1, 1) := by decide +kernel
theorem d_M_lose_68 : decode (jyc Y_M_lose) 68 = .ok (.iload_n 2, 1) := by decide +kernel
theorem d_M_lose_69 : decode (jyc Y_M_lose) 69 = .ok (.iload_n 3, 1) := by decide +kernel
theorem d_M_lose_70 : decode (jyc Y_M_lose) 70 = .ok (.invokestatic 125, 3) := by decide +kernel
theorem d_M_lose_73 : decode (jyc Y_M_lose) 73 = .ok (.iload 4, 2) := by decide +kernel
theorem d_M_lose_75 : decode (jyc Y_M_lose) 75 = .ok (.iadd, 1) := by decide +kernel
theorem d_M_lose_76 : decode (jyc Y_M_lose) 76 = .ok (.iconst 0, 1) := by decide +kernel
theorem d_M_lose_77 : decode (jyc Y_M_lose) 77 = .ok (.iastore, 1) := by decide +kernel
theorem d_M_lose_78 : decode (jyc Y_M_lose) 78 = .ok (.iinc 4 1, 3) := by decide +kernel
theorem d_M_lose_81 : decode (jyc Y_M_lose) 81 = .ok (.goto (-24), 3) := by decide +kernel
theorem d_M_lose_84 : decode (jyc Y_M_lose) 84 = .ok (.iconst 1, 1) := by decide +kernel
theorem d_M_lose_85 : decode (jyc Y_M_lose) 85 = .ok (.ireturn, 1) := by decide +kernel
theorem d_M_change_0 : decode (jyc Y_M_change) 0 = .ok (.aload_n 0, 1) := by decide +kernel
theorem d_M_change_1 : decode (jyc Y_M_change) 1 = .ok (.aload_n 0, 1) := by decide +kernel
theorem d_M_change_2 : decode (jyc Y_M_change) 2 = .ok (.iload_n 1, 1) := by decide +kernel
theorem d_M_change_3 : decode (jyc Y_M_change) 3 = .ok (.iload_n 2, 1) := by decide +kernel
theorem d_M_change_4 : decode (jyc Y_M_change) 4 = .ok (.iload_n 3, 1) := by decide +kernel
theorem d_M_change_5 : decode (jyc Y_M_change) 5 = .ok (.invokevirtual 136, 3) := by decide +kernel
theorem d_M_change_8 : decode (jyc Y_M_change) 8 = .ok (.ifCond .eq 26, 3) := by decide +kernel
theorem d_M_change_11 : decode (jyc Y_M_change) 11 = .ok (.iload 4, 2) := by decide +kernel
theorem d_M_change_13 : decode (jyc Y_M_change) 13 = .ok (.ifCond .lt 21, 3) := by decide +kernel
theorem d_M_change_16 : decode (jyc Y_M_change) 16 = .ok (.iload 4, 2) := by decide +kernel
theorem d_M_change_18 : decode (jyc Y_M_change) 18 = .ok (.iconst 5, 1) := by decide +kernel
theorem d_M_change_19 : decode (jyc Y_M_change) 19 = .ok (.if_icmp .ge 15, 3) := by decide +kernel
theorem d_M_change_22 : decode (jyc Y_M_change) 22 = .ok (.iload 5, 2) := by decide +kernel
theorem d_M_change_24 : decode (jyc Y_M_change) 24 = .ok (.invokestatic 91, 3) := by decide +kernel
theorem d_M_change_27 : decode (jyc Y_M_change) 27 = .ok (.ifCond .eq 7, 3) := by decide +kernel
theorem d_M_change_30 : decode (jyc Y_M_change) 30 = .ok (.iconst 0, 1) := by decide +kernel
theorem d_M_change_31 : decode (jyc Y_M_change) 31 = .ok (.goto 4, 3) := by decide +kernel
theorem d_M_change_34 : decode (jyc Y_M_change) 34 = .ok (.iconst 1, 1) := by decide +kernel
theorem d_M_change_35 : decode (jyc Y_M_change) 35 = .ok (.putfield 63, 3) := by decide +kernel
theorem d_M_change_38 : decode (jyc Y_M_change) 38 = .ok (.aload_n 0, 1) := by decide +kernel
theorem d_M_change_39 : decode (jyc Y_M_change) 39 = .ok (.getfield 63, 3) := by decide +kernel
theorem d_M_change_42 : decode (jyc Y_M_change) 42 = .ok (.ifCond .le 5, 3) := by decide +kernel
theorem d_M_change_45 : decode (jyc Y_M_change) 45 = .ok (.iconst 0, 1) := by decide +kernel
theorem d_M_change_46 : decode (jyc Y_M_change) 46 = .ok (.ireturn, 1) := by decide +kernel
theorem d_M_change_47 : decode (jyc Y_M_change) 47 = .ok (.aload_n 0, 1) := by decide +kernel
theorem d_M_change_48 : decode (jyc Y_M_change) 48 = .ok (.aload_n 0, 1) := by decide +kernel
theorem d_M_change_49 : decode (jyc Y_M_change) 49 = .ok (.getfield 26, 3) := by decide +kernel
theorem d_M_change_52 : decode (jyc Y_M_change) 52 = .ok (.iload_n 1, 1) := by decide +kernel
theorem d_M_change_53 : decode (jyc Y_M_change) 53 = .ok (.iload_n 2, 1) := by decide +kernel
theorem d_M_change_54 : decode (jyc Y_M_change) 54 = .ok (.iload_n 3, 1) := by decide +kernel
theorem d_M_change_55 : decode (jyc Y_M_change) 55 = .ok (.invokestatic 129, 3) := by decide +kernel
theorem d_M_change_58 : decode (jyc Y_M_change) 58 = .ok (.baload, 1) := by decide +kernel
theorem d_M_change_59 : decode (jyc Y_M_change) 59 = .ok (.ifCond .eq 7, 3) := by decide +kernel
theorem d_M_change_62 : decode (jyc Y_M_change) 62 = .ok (.iconst 2, 1) := by decide +kernel
theorem d_M_change_63 : decode (jyc Y_M_change) 63 = .ok (.goto 4, 3) := by decide +kernel
theorem d_M_change_66 : decode (jyc Y_M_change) 66 = .ok (.iconst 0, 1) := by decide +kernel
theorem d_M_change_67 : decode (jyc Y_M_change) 67 = .ok (.putfield 63, 3) := by decide +kernel
theorem d_M_change_70 : decode (jyc Y_M_change) 70 = .ok (.aload_n 0, 1) := by decide +kernel
theorem d_M_change_71 : decode (jyc Y_M_change) 71 = .ok (.getfield 63, 3) := by decide +kernel
theorem d_M_change_74 : decode (jyc Y_M_change) 74 = .ok (.ifCond .le 5, 3) := by decide +kernel
theorem d_M_change_77 : decode (jyc Y_M_change) 77 = .ok (.iconst 0, 1) := by decide +kernel
theorem d_M_change_78 : decode (jyc Y_M_change) 78 = .ok (.ireturn, 1) := by decide +kernel
theorem d_M_change_79 : decode (jyc Y_M_change) 79 = .ok (.iload_n 1, 1) := by decide +kernel
theorem d_M_change_80 : decode (jyc Y_M_change) 80 = .ok (.iload_n 2, 1) := by decide +kernel
theorem d_M_change_81 : decode (jyc Y_M_change) 81 = .ok (.iload_n 3, 1) := by decide +kernel
theorem d_M_change_82 : decode (jyc Y_M_change) 82 = .ok (.invokestatic 125, 3) := by decide +kernel
theorem d_M_change_85 : decode (jyc Y_M_change) 85 = .ok (.iload 4, 2) := by decide +kernel
theorem d_M_change_87 : decode (jyc Y_M_change) 87 = .ok (.iadd, 1) := by decide +kernel
theorem d_M_change_88 : decode (jyc Y_M_change) 88 = .ok (.istore 6, 2) := by decide +kernel
theorem d_M_change_90 : decode (jyc Y_M_change) 90 = .ok (.aload_n 0, 1) := by decide +kernel
theorem d_M_change_91 : decode (jyc Y_M_change) 91 = .ok (.getfield 23, 3) := by decide +kernel
theorem d_M_change_94 : decode (jyc Y_M_change) 94 = .ok (.iload 6, 2) := by decide +kernel
theorem d_M_change_96 : decode (jyc Y_M_change) 96 = .ok (.aload_n 0, 1) := by decide +kernel
theorem d_M_change_97 : decode (jyc Y_M_change) 97 = .ok (.getfield 23, 3) := by decide +kernel
theorem d_M_change_100 : decode (jyc Y_M_change) 100 = .ok (.iload 6, 2) := by decide +kernel
theorem d_M_change_102 : decode (jyc Y_M_change) 102 = .ok (.iaload, 1) := by decide +kernel
theorem d_M_change_103 : decode (jyc Y_M_change) 103 = .ok (.i2l, 1) := by decide +kernel
theorem d_M_change_104 : decode (jyc Y_M_change) 104 = .ok (.iload 5, 2) := by decide +kernel
theorem d_M_change_106 : decode (jyc Y_M_change) 106 = .ok (.i2l, 1) := by decide +kernel
theorem d_M_change_107 : decode (jyc Y_M_change) 107 = .ok (.ladd, 1) := by decide +kernel
theorem d_M_change_108 : decode (jyc Y_M_change) 108 = .ok (.ldc2_w 67, 3) := by decide +kernel
theorem d_M_change_111 : decode (jyc Y_M_change) 111 = .ok (.lrem, 1) := by decide +kernel
theorem d_M_change_112 : decode (jyc Y_M_change) 112 = .ok (.l2i, 1) := by decide +kernel
theorem d_M_change_113 : decode (jyc Y_M_change) 113 = .ok (.iastore, 1) := by decide +kernel
theorem d_M_change_114 : decode (jyc Y_M_change) 114 = .ok (.aload_n 0, 1) := by decide +kernel
theorem d_M_change_115 : decode (jyc Y_M_change) 115 = .ok (.getfield 23, 3) := by decide +kernel
theorem d_M_change_118 : decode (jyc Y_M_change) 118 = .ok (.iload 6, 2) := by decide +kernel
theorem d_M_change_120 : decode (jyc Y_M_change) 120 = .ok (.iaload, 1) := by decide +kernel
theorem d_M_change_121 : decode (jyc Y_M_change) 121 = .ok (.ireturn, 1) := by decide +kernel
theorem d_M_challenge_0 : decode (jyc Y_M_challenge) 0 = .ok (.aload_n 0, 1) := by decide +kernel
theorem d_M_challenge_1 : decode (jyc Y_M_challenge) 1 = .ok (.aload_n 0, 1) := by decide +kernel
theorem d_M_challenge_2 : decode (jyc Y_M_challenge) 2 = .ok (.iload_n 2, 1) := by decide +kernel
theorem d_M_challenge_3 : decode (jyc Y_M_challenge) 3 = .ok (.iload_n 1, 1) := by decide +kernel
theorem d_M_challenge_4 : decode (jyc Y_M_challenge) 4 = .ok (.invokevirtual 132, 3) := by decide +kernel
theorem d_M_challenge_7 : decode (jyc Y_M_challenge) 7 = .ok (.ifCond .eq 35, 3) := by decide +kernel
theorem d_M_challenge_10 : decode (jyc Y_M_challenge) 10 = .ok (.iload 4, 2) := by decide +kernel
theorem d_M_challenge_12 : decode (jyc Y_M_challenge) 12 = .ok (.iconst 1, 1) := by decide +kernel
theorem d_M_challenge_13 : decode (jyc Y_M_challenge) 13 = .ok (.if_icmp .lt 29, 3) := by decide +kernel
theorem d_M_challenge_16 : decode (jyc Y_M_challenge) 16 = .ok (.iload 4, 2) := by decide +kernel
theorem d_M_challenge_18 : decode (jyc Y_M_challenge) 18 = .ok (.aload_n 0, 1) := by decide +kernel
theorem d_M_challenge_19 : decode (jyc Y_M_challenge) 19 = .ok (.aload_n 0, 1) := by decide +kernel
theorem d_M_challenge_20 : decode (jyc Y_M_challenge) 20 = .ok (.iload_n 1, 1) := by decide +kernel
theorem d_M_challenge_21 : decode (jyc Y_M_challenge) 21 = .ok (.invokevirtual 118, 3) := by decide +kernel
theorem d_M_challenge_24 : decode (jyc Y_M_challenge) 24 = .ok (.ifCond .eq 7, 3) := by decide +kernel
theorem d_M_challenge_27 : decode (jyc Y_M_challenge) 27 = .ok (.iload_n 1, 1) := by decide +kernel
theorem d_M_challenge_28 : decode (jyc Y_M_challenge) 28 = .ok (.goto 4, 3) := by decide +kernel
theorem d_M_challenge_31 : decode (jyc Y_M_challenge) 31 = .ok (.iconst 0, 1) := by decide +kernel
theorem d_M_challenge_32 : decode (jyc Y_M_challenge) 32 = .ok (.invokevirtual 99, 3) := by decide +kernel
theorem d_M_challenge_35 : decode (jyc Y_M_challenge) 35 = .ok (.if_icmp .gt 7, 3) := by decide +kernel
theorem d_M_challenge_38 : decode (jyc Y_M_challenge) 38 = .ok (.iconst 0, 1) := by decide +kernel
theorem d_M_challenge_39 : decode (jyc Y_M_challenge) 39 = .ok (.goto 4, 3) := by decide +kernel
theorem d_M_challenge_42 : decode (jyc Y_M_challenge) 42 = .ok (.iconst 1, 1) := by decide +kernel
theorem d_M_challenge_43 : decode (jyc Y_M_challenge) 43 = .ok (.putfield 63, 3) := by decide +kernel
theorem d_M_challenge_46 : decode (jyc Y_M_challenge) 46 = .ok (.aload_n 0, 1) := by decide +kernel
theorem d_M_challenge_47 : decode (jyc Y_M_challenge) 47 = .ok (.getfield 63, 3) := by decide +kernel
theorem d_M_challenge_50 : decode (jyc Y_M_challenge) 50 = .ok (.ifCond .le 5, 3) := by decide +kernel
theorem d_M_challenge_53 : decode (jyc Y_M_challenge) 53 = .ok (.iconst 0, 1) := by decide +kernel
theorem d_M_challenge_54 : decode (jyc Y_M_challenge) 54 = .ok (.ireturn, 1) := by decide +kernel
theorem d_M_challenge_55 : decode (jyc Y_M_challenge) 55 = .ok (.aload_n 0, 1) := by decide +kernel
theorem d_M_challenge_56 : decode (jyc Y_M_challenge) 56 = .ok (.iload 4, 2) := by decide +kernel
theorem d_M_challenge_58 : decode (jyc Y_M_challenge) 58 = .ok (.putfield 140, 3) := by decide +kernel
theorem d_M_challenge_61 : decode (jyc Y_M_challenge) 61 = .ok (.aload_n 0, 1) := by decide +kernel
theorem d_M_challenge_62 : decode (jyc Y_M_challenge) 62 = .ok (.iload_n 1, 1) := by decide +kernel
theorem d_M_challenge_63 : decode (jyc Y_M_challenge) 63 = .ok (.putfield 143, 3) := by decide +kernel
theorem d_M_challenge_66 : decode (jyc Y_M_challenge) 66 = .ok (.aload_n 0, 1) := by decide +kernel
theorem d_M_challenge_67 : decode (jyc Y_M_challenge) 67 = .ok (.iload_n 2, 1) := by decide +kernel
theorem d_M_challenge_68 : decode (jyc Y_M_challenge) 68 = .ok (.putfield 146, 3) := by decide +kernel
theorem d_M_challenge_71 : decode (jyc Y_M_challenge) 71 = .ok (.iload_n 3, 1) := by decide +kernel
theorem d_M_challenge_72 : decode (jyc Y_M_challenge) 72 = .ok (.istore 5, 2) := by decide +kernel
theorem d_M_challenge_74 : decode (jyc Y_M_challenge) 74 = .ok (.aload_n 0, 1) := by decide +kernel
theorem d_M_challenge_75 : decode (jyc Y_M_challenge) 75 = .ok (.iload_n 1, 1) := by decide +kernel
theorem d_M_challenge_76 : decode (jyc Y_M_challenge) 76 = .ok (.invokevirtual 99, 3) := by decide +kernel
theorem d_M_challenge_79 : decode (jyc Y_M_challenge) 79 = .ok (.istore 6, 2) := by decide +kernel
theorem d_M_challenge_81 : decode (jyc Y_M_challenge) 81 = .ok (.iconst 0, 1) := by decide +kernel
theorem d_M_challenge_82 : decode (jyc Y_M_challenge) 82 = .ok (.istore 7, 2) := by decide +kernel
theorem d_M_challenge_84 : decode (jyc Y_M_challenge) 84 = .ok (.iload 7, 2) := by decide +kernel
theorem d_M_challenge_86 : decode (jyc Y_M_challenge) 86 = .ok (.iconst 5, 1) := by decide +kernel
theorem d_M_challenge_87 : decode (jyc Y_M_challenge) 87 = .ok (.if_icmp .ge 17, 3) := by decide +kernel
theorem d_M_challenge_90 : decode (jyc Y_M_challenge) 90 = .ok (.aload_n 0, 1) := by decide +kernel
theorem d_M_challenge_91 : decode (jyc Y_M_challenge) 91 = .ok (.getfield 44, 3) := by decide +kernel
theorem d_M_challenge_94 : decode (jyc Y_M_challenge) 94 = .ok (.iload 7, 2) := by decide +kernel
theorem d_M_challenge_96 : decode (jyc Y_M_challenge) 96 = .ok (.iconst 0, 1) := by decide +kernel
theorem d_M_challenge_97 : decode (jyc Y_M_challenge) 97 = .ok (.iastore, 1) := by decide +kernel
theorem d_M_challenge_98 : decode (jyc Y_M_challenge) 98 = .ok (.iinc 7 1, 3) := by decide +kernel
theorem d_M_challenge_101 : decode (jyc Y_M_challenge) 101 = .ok (.goto (-17), 3) := by decide +kernel
theorem d_M_challenge_104 : decode (jyc Y_M_challenge) 104 = .ok (.iconst 0, 1) := by decide +kernel
theorem d_M_challenge_105 : decode (jyc Y_M_challenge) 105 = .ok (.istore 7, 2) := by decide +kernel
theorem d_M_challenge_107 : decode (jyc Y_M_challenge) 107 = .ok (.iload 7, 2) := by decide +kernel
theorem d_M_challenge_109 : decode (jyc Y_M_challenge) 109 = .ok (.iload 4, 2) := by decide +kernel
theorem d_M_challenge_111 : decode (jyc Y_M_challenge) 111 = .ok (.if_icmp .ge 163, 3) := by decide +kernel
theorem d_M_challenge_114 : decode (jyc Y_M_challenge) 114 = .ok (.iload 5, 2) := by decide +kernel
theorem d_M_challenge_116 : decode (jyc Y_M_challenge) 116 = .ok (.ldc 149, 2) := by decide +kernel
theorem d_M_challenge_118 : decode (jyc Y_M_challenge) 118 = .ok (.imul, 1) := by decide +kernel
theorem d_M_challenge_119 : decode (jyc Y_M_challenge) 119 = .ok (.sipush 12345, 3) := by decide +kernel
theorem d_M_challenge_122 : decode (jyc Y_M_challenge) 122 = .ok (.iadd, 1) := by decide +kernel
theorem d_M_challenge_123 : decode (jyc Y_M_challenge) 123 = .ok (.istore 5, 2) := by decide +kernel
theorem d_M_challenge_125 : decode (jyc Y_M_challenge) 125 = .ok (.iload 5, 2) := by decide +kernel
theorem d_M_challenge_127 : decode (jyc Y_M_challenge) 127 = .ok (.bipush 16, 2) := by decide +kernel
theorem d_M_challenge_129 : decode (jyc Y_M_challenge) 129 = .ok (.iushr, 1) := by decide +kernel
theorem d_M_challenge_130 : decode (jyc Y_M_challenge) 130 = .ok (.iload 6, 2) := by decide +kernel
theorem d_M_challenge_132 : decode (jyc Y_M_challenge) 132 = .ok (.irem, 1) := by decide +kernel
theorem d_M_challenge_133 : decode (jyc Y_M_challenge) 133 = .ok (.istore 8, 2) := by decide +kernel
theorem d_M_challenge_135 : decode (jyc Y_M_challenge) 135 = .ok (.aload_n 0, 1) := by decide +kernel
theorem d_M_challenge_136 : decode (jyc Y_M_challenge) 136 = .ok (.iload 8, 2) := by decide +kernel
theorem d_M_challenge_138 : decode (jyc Y_M_challenge) 138 = .ok (.iload 7, 2) := by decide +kernel
theorem d_M_challenge_140 : decode (jyc Y_M_challenge) 140 = .ok (.invokevirtual 150, 3) := by decide +kernel
theorem d_M_challenge_143 : decode (jyc Y_M_challenge) 143 = .ok (.ifCond .eq 25, 3) := by decide +kernel
theorem d_M_challenge_146 : decode (jyc Y_M_challenge) 146 = .ok (.iload 8, 2) := by decide +kernel
theorem d_M_challenge_148 : decode (jyc Y_M_challenge) 148 = .ok (.iconst 1, 1) := by decide +kernel
theorem d_M_challenge_149 : decode (jyc Y_M_challenge) 149 = .ok (.iadd, 1) := by decide +kernel
theorem d_M_challenge_150 : decode (jyc Y_M_challenge) 150 = .ok (.iload 6, 2) := by decide +kernel
theorem d_M_challenge_152 : decode (jyc Y_M_challenge) 152 = .ok (.if_icmp .ne 7, 3) := by decide +kernel
theorem d_M_challenge_155 : decode (jyc Y_M_challenge) 155 = .ok (.iconst 0, 1) := by decide +kernel
theorem d_M_challenge_156 : decode (jyc Y_M_challenge) 156 = .ok (.goto 7, 3) := by decide +kernel
theorem d_M_challenge_159 : decode (jyc Y_M_challenge) 159 = .ok (.iload 8, 2) := by decide +kernel
theorem d_M_challenge_161 : decode (jyc Y_M_challenge) 161 = .ok (.iconst 1, 1) := by decide +kernel
theorem d_M_challenge_162 : decode (jyc Y_M_challenge) 162 = .ok (.iadd, 1) := by decide +kernel
theorem d_M_challenge_163 : decode (jyc Y_M_challenge) 163 = .ok (.istore 8, 2) := by decide +kernel
theorem d_M_challenge_165 : decode (jyc Y_M_challenge) 165 = .ok (.goto (-30), 3) := by decide +kernel
theorem d_M_challenge_168 : decode (jyc Y_M_challenge) 168 = .ok (.aload_n 0, 1) := by decide +kernel
theorem d_M_challenge_169 : decode (jyc Y_M_challenge) 169 = .ok (.getfield 38, 3) := by decide +kernel
theorem d_M_challenge_172 : decode (jyc Y_M_challenge) 172 = .ok (.iload 7, 2) := by decide +kernel
theorem d_M_challenge_174 : decode (jyc Y_M_challenge) 174 = .ok (.iload 8, 2) := by decide +kernel
theorem d_M_challenge_176 : decode (jyc Y_M_challenge) 176 = .ok (.iastore, 1) := by decide +kernel
theorem d_M_challenge_177 : decode (jyc Y_M_challenge) 177 = .ok (.iload 5, 2) := by decide +kernel
theorem d_M_challenge_179 : decode (jyc Y_M_challenge) 179 = .ok (.ldc 149, 2) := by decide +kernel
theorem d_M_challenge_181 : decode (jyc Y_M_challenge) 181 = .ok (.imul, 1) := by decide +kernel
theorem d_M_challenge_182 : decode (jyc Y_M_challenge) 182 = .ok (.sipush 12345, 3) := by decide +kernel
theorem d_M_challenge_185 : decode (jyc Y_M_challenge) 185 = .ok (.iadd, 1) := by decide +kernel
theorem d_M_challenge_186 : decode (jyc Y_M_challenge) 186 = .ok (.istore 5, 2) := by decide +kernel
theorem d_M_challenge_188 : decode (jyc Y_M_challenge) 188 = .ok (.aload_n 0, 1) := by decide +kernel
theorem d_M_challenge_189 : decode (jyc Y_M_challenge) 189 = .ok (.getfield 41, 3) := by decide +kernel
theorem d_M_challenge_192 : decode (jyc Y_M_challenge) 192 = .ok (.iload 7, 2) := by decide +kernel
theorem d_M_challenge_194 : decode (jyc Y_M_challenge) 194 = .ok (.lconst 1, 1) := by decide +kernel
theorem d_M_challenge_195 : decode (jyc Y_M_challenge) 195 = .ok (.iload 5, 2) := by decide +kernel
theorem d_M_challenge_197 : decode (jyc Y_M_challenge) 197 = .ok (.iconst 1, 1) := by decide +kernel
theorem d_M_challenge_198 : decode (jyc Y_M_challenge) 198 = .ok (.iushr, 1) := by decide +kernel
theorem d_M_challenge_199 : decode (jyc Y_M_challenge) 199 = .ok (.i2l, 1) := by decide +kernel
theorem d_M_challenge_200 : decode (jyc Y_M_challenge) 200 = .ok (.ldc2_w 153, 3) := by decide +kernel
theorem d_M_challenge_203 : decode (jyc Y_M_challenge) 203 = .ok (.lrem, 1) := by decide +kernel
theorem d_M_challenge_204 : decode (jyc Y_M_challenge) 204 = .ok (.ladd, 1) := by decide +kernel
theorem d_M_challenge_205 : decode (jyc Y_M_challenge) 205 = .ok (.l2i, 1) := by decide +kernel
theorem d_M_challenge_206 : decode (jyc Y_M_challenge) 206 = .ok (.iastore, 1) := by decide +kernel
theorem d_M_challenge_207 : decode (jyc Y_M_challenge) 207 = .ok (.iconst 0, 1) := by decide +kernel
theorem d_M_challenge_208 : decode (jyc Y_M_challenge) 208 = .ok (.istore 9, 2) := by decide +kernel
theorem d_M_challenge_210 : decode (jyc Y_M_challenge) 210 = .ok (.iload 9, 2) := by decide +kernel
theorem d_M_challenge_212 : decode (jyc Y_M_challenge) 212 = .ok (.iconst 5, 1) := by decide +kernel
theorem d_M_challenge_213 : decode (jyc Y_M_challenge) 213 = .ok (.if_icmp .ge 55, 3) := by decide +kernel
theorem d_M_challenge_216 : decode (jyc Y_M_challenge) 216 = .ok (.aload_n 0, 1) := by decide +kernel
theorem d_M_challenge_217 : decode (jyc Y_M_challenge) 217 = .ok (.getfield 44, 3) := by decide +kernel
theorem d_M_challenge_220 : decode (jyc Y_M_challenge) 220 = .ok (.iload 9, 2) := by decide +kernel
theorem d_M_challenge_222 : decode (jyc Y_M_challenge) 222 = .ok (.aload_n 0, 1) := by decide +kernel
theorem d_M_challenge_223 : decode (jyc Y_M_challenge) 223 = .ok (.getfield 44, 3) := by decide +kernel
theorem d_M_challenge_226 : decode (jyc Y_M_challenge) 226 = .ok (.iload 9, 2) := by decide +kernel
theorem d_M_challenge_228 : decode (jyc Y_M_challenge) 228 = .ok (.iaload, 1) := by decide +kernel
theorem d_M_challenge_229 : decode (jyc Y_M_challenge) 229 = .ok (.i2l, 1) := by decide +kernel
theorem d_M_challenge_230 : decode (jyc Y_M_challenge) 230 = .ok (.aload_n 0, 1) := by decide +kernel
theorem d_M_challenge_231 : decode (jyc Y_M_challenge) 231 = .ok (.getfield 41, 3) := by decide +kernel
theorem d_M_challenge_234 : decode (jyc Y_M_challenge) 234 = .ok (.iload 7, 2) := by decide +kernel
theorem d_M_challenge_236 : decode (jyc Y_M_challenge) 236 = .ok (.iaload, 1) := by decide +kernel
theorem d_M_challenge_237 : decode (jyc Y_M_challenge) 237 = .ok (.i2l, 1) := by decide +kernel
theorem d_M_challenge_238 : decode (jyc Y_M_challenge) 238 = .ok (.aload_n 0, 1) := by decide +kernel
theorem d_M_challenge_239 : decode (jyc Y_M_challenge) 239 = .ok (.getfield 23, 3) := by decide +kernel
theorem d_M_challenge_242 : decode (jyc Y_M_challenge) 242 = .ok (.iload_n 2, 1) := by decide +kernel
theorem d_M_challenge_243 : decode (jyc Y_M_challenge) 243 = .ok (.iload_n 1, 1) := by decide +kernel
theorem d_M_challenge_244 : decode (jyc Y_M_challenge) 244 = .ok (.iload 8, 2) := by decide +kernel
theorem d_M_challenge_246 : decode (jyc Y_M_challenge) 246 = .ok (.invokestatic 125, 3) := by decide +kernel
theorem d_M_challenge_249 : decode (jyc Y_M_challenge) 249 = .ok (.iload 9, 2) := by decide +kernel
theorem d_M_challenge_251 : decode (jyc Y_M_challenge) 251 = .ok (.iadd, 1) := by decide +kernel
theorem d_M_challenge_252 : decode (jyc Y_M_challenge) 252 = .ok (.iaload, 1) := by decide +kernel
theorem d_M_challenge_253 : decode (jyc Y_M_challenge) 253 = .ok (.i2l, 1) := by decide +kernel
theorem d_M_challenge_254 : decode (jyc Y_M_challenge) 254 = .ok (.lmul, 1) := by decide +kernel
theorem d_M_challenge_255 : decode (jyc Y_M_challenge) 255 = .ok (.ladd, 1) := by decide +kernel
theorem d_M_challenge_256 : decode (jyc Y_M_challenge) 256 = .ok (.ldc2_w 67, 3) := by decide +kernel
theorem d_M_challenge_259 : decode (jyc Y_M_challenge) 259 = .ok (.lrem, 1) := by decide +kernel
theorem d_M_challenge_260 : decode (jyc Y_M_challenge) 260 = .ok (.l2i, 1) := by decide +kernel
theorem d_M_challenge_261 : decode (jyc Y_M_challenge) 261 = .ok (.iastore, 1) := by decide +kernel
theorem d_M_challenge_262 : decode (jyc Y_M_challenge) 262 = .ok (.iinc 9 1, 3) := by decide +kernel
theorem d_M_challenge_265 : decode (jyc Y_M_challenge) 265 = .ok (.goto (-55), 3) := by decide +kernel
theorem d_M_challenge_268 : decode (jyc Y_M_challenge) 268 = .ok (.iinc 7 1, 3) := by decide +kernel
theorem d_M_challenge_271 : decode (jyc Y_M_challenge) 271 = .ok (.goto (-164), 3) := by decide +kernel
theorem d_M_challenge_274 : decode (jyc Y_M_challenge) 274 = .ok (.aload_n 0, 1) := by decide +kernel
theorem d_M_challenge_275 : decode (jyc Y_M_challenge) 275 = .ok (.getfield 38, 3) := by decide +kernel
theorem d_M_challenge_278 : decode (jyc Y_M_challenge) 278 = .ok (.iconst 0, 1) := by decide +kernel
theorem d_M_challenge_279 : decode (jyc Y_M_challenge) 279 = .ok (.iaload, 1) := by decide +kernel
theorem d_M_challenge_280 : decode (jyc Y_M_challenge) 280 = .ok (.ireturn, 1) := by decide +kernel
theorem d_M_isAsked_0 : decode (jyc Y_M_isAsked) 0 = .ok (.iconst 0, 1) := by decide +kernel
theorem d_M_isAsked_1 : decode (jyc Y_M_isAsked) 1 = .ok (.istore_n 3, 1) := by decide +kernel
theorem d_M_isAsked_2 : decode (jyc Y_M_isAsked) 2 = .ok (.iconst 0, 1) := by decide +kernel
theorem d_M_isAsked_3 : decode (jyc Y_M_isAsked) 3 = .ok (.istore 4, 2) := by decide +kernel
theorem d_M_isAsked_5 : decode (jyc Y_M_isAsked) 5 = .ok (.iload 4, 2) := by decide +kernel
theorem d_M_isAsked_7 : decode (jyc Y_M_isAsked) 7 = .ok (.iload_n 2, 1) := by decide +kernel
theorem d_M_isAsked_8 : decode (jyc Y_M_isAsked) 8 = .ok (.if_icmp .ge 30, 3) := by decide +kernel
theorem d_M_isAsked_11 : decode (jyc Y_M_isAsked) 11 = .ok (.iload_n 3, 1) := by decide +kernel
theorem d_M_isAsked_12 : decode (jyc Y_M_isAsked) 12 = .ok (.ifCond .ne 14, 3) := by decide +kernel
theorem d_M_isAsked_15 : decode (jyc Y_M_isAsked) 15 = .ok (.aload_n 0, 1) := by decide +kernel
theorem d_M_isAsked_16 : decode (jyc Y_M_isAsked) 16 = .ok (.getfield 38, 3) := by decide +kernel
theorem d_M_isAsked_19 : decode (jyc Y_M_isAsked) 19 = .ok (.iload 4, 2) := by decide +kernel
theorem d_M_isAsked_21 : decode (jyc Y_M_isAsked) 21 = .ok (.iaload, 1) := by decide +kernel
theorem d_M_isAsked_22 : decode (jyc Y_M_isAsked) 22 = .ok (.iload_n 1, 1) := by decide +kernel
theorem d_M_isAsked_23 : decode (jyc Y_M_isAsked) 23 = .ok (.if_icmp .ne 7, 3) := by decide +kernel
theorem d_M_isAsked_26 : decode (jyc Y_M_isAsked) 26 = .ok (.iconst 1, 1) := by decide +kernel
theorem d_M_isAsked_27 : decode (jyc Y_M_isAsked) 27 = .ok (.goto 4, 3) := by decide +kernel
theorem d_M_isAsked_30 : decode (jyc Y_M_isAsked) 30 = .ok (.iconst 0, 1) := by decide +kernel
theorem d_M_isAsked_31 : decode (jyc Y_M_isAsked) 31 = .ok (.istore_n 3, 1) := by decide +kernel
theorem d_M_isAsked_32 : decode (jyc Y_M_isAsked) 32 = .ok (.iinc 4 1, 3) := by decide +kernel
theorem d_M_isAsked_35 : decode (jyc Y_M_isAsked) 35 = .ok (.goto (-30), 3) := by decide +kernel
theorem d_M_isAsked_38 : decode (jyc Y_M_isAsked) 38 = .ok (.iload_n 3, 1) := by decide +kernel
theorem d_M_isAsked_39 : decode (jyc Y_M_isAsked) 39 = .ok (.ireturn, 1) := by decide +kernel
theorem d_M_asked_0 : decode (jyc Y_M_asked) 0 = .ok (.aload_n 0, 1) := by decide +kernel
theorem d_M_asked_1 : decode (jyc Y_M_asked) 1 = .ok (.iconst 0, 1) := by decide +kernel
theorem d_M_asked_2 : decode (jyc Y_M_asked) 2 = .ok (.putfield 63, 3) := by decide +kernel
theorem d_M_asked_5 : decode (jyc Y_M_asked) 5 = .ok (.aload_n 0, 1) := by decide +kernel
theorem d_M_asked_6 : decode (jyc Y_M_asked) 6 = .ok (.getfield 140, 3) := by decide +kernel
theorem d_M_asked_9 : decode (jyc Y_M_asked) 9 = .ok (.ifCond .eq 33, 3) := by decide +kernel
theorem d_M_asked_12 : decode (jyc Y_M_asked) 12 = .ok (.iload_n 1, 1) := by decide +kernel
theorem d_M_asked_13 : decode (jyc Y_M_asked) 13 = .ok (.ifCond .lt 29, 3) := by decide +kernel
theorem d_M_asked_16 : decode (jyc Y_M_asked) 16 = .ok (.iload_n 1, 1) := by decide +kernel
theorem d_M_asked_17 : decode (jyc Y_M_asked) 17 = .ok (.iconst 2, 1) := by decide +kernel
theorem d_M_asked_18 : decode (jyc Y_M_asked) 18 = .ok (.if_icmp .gt 24, 3) := by decide +kernel
theorem d_M_asked_21 : decode (jyc Y_M_asked) 21 = .ok (.iload_n 2, 1) := by decide +kernel
theorem d_M_asked_22 : decode (jyc Y_M_asked) 22 = .ok (.ifCond .lt 20, 3) := by decide +kernel
theorem d_M_asked_25 : decode (jyc Y_M_asked) 25 = .ok (.iload_n 2, 1) := by decide +kernel
theorem d_M_asked_26 : decode (jyc Y_M_asked) 26 = .ok (.iload_n 1, 1) := by decide +kernel
theorem d_M_asked_27 : decode (jyc Y_M_asked) 27 = .ok (.iconst 2, 1) := by decide +kernel
theorem d_M_asked_28 : decode (jyc Y_M_asked) 28 = .ok (.if_icmp .ge 10, 3) := by decide +kernel
theorem d_M_asked_31 : decode (jyc Y_M_asked) 31 = .ok (.aload_n 0, 1) := by decide +kernel
theorem d_M_asked_32 : decode (jyc Y_M_asked) 32 = .ok (.getfield 140, 3) := by decide +kernel
theorem d_M_asked_35 : decode (jyc Y_M_asked) 35 = .ok (.goto 4, 3) := by decide +kernel
theorem d_M_asked_38 : decode (jyc Y_M_asked) 38 = .ok (.iconst 5, 1) := by decide +kernel
theorem d_M_asked_39 : decode (jyc Y_M_asked) 39 = .ok (.if_icmp .lt 5, 3) := by decide +kernel
theorem d_M_asked_42 : decode (jyc Y_M_asked) 42 = .ok (.iconst (-1), 1) := by decide +kernel
theorem d_M_asked_43 : decode (jyc Y_M_asked) 43 = .ok (.ireturn, 1) := by decide +kernel
theorem d_M_asked_44 : decode (jyc Y_M_asked) 44 = .ok (.iload_n 1, 1) := by decide +kernel
theorem d_M_asked_45 : decode (jyc Y_M_asked) 45 = .ok (.ifCond .ne 12, 3) := by decide +kernel
theorem d_M_asked_48 : decode (jyc Y_M_asked) 48 = .ok (.aload_n 0, 1) := by decide +kernel
theorem d_M_asked_49 : decode (jyc Y_M_asked) 49 = .ok (.getfield 38, 3) := by decide +kernel
theorem d_M_asked_52 : decode (jyc Y_M_asked) 52 = .ok (.iload_n 2, 1) := by decide +kernel
theorem d_M_asked_53 : decode (jyc Y_M_asked) 53 = .ok (.iaload, 1) := by decide +kernel
theorem d_M_asked_54 : decode (jyc Y_M_asked) 54 = .ok (.goto 23, 3) := by decide +kernel
theorem d_M_asked_57 : decode (jyc Y_M_asked) 57 = .ok (.iload_n 1, 1) := by decide +kernel
theorem d_M_asked_58 : decode (jyc Y_M_asked) 58 = .ok (.iconst 1, 1) := by decide +kernel
theorem d_M_asked_59 : decode (jyc Y_M_asked) 59 = .ok (.if_icmp .ne 12, 3) := by decide +kernel
theorem d_M_asked_62 : decode (jyc Y_M_asked) 62 = .ok (.aload_n 0, 1) := by decide +kernel
theorem d_M_asked_63 : decode (jyc Y_M_asked) 63 = .ok (.getfield 41, 3) := by decide +kernel
theorem d_M_asked_66 : decode (jyc Y_M_asked) 66 = .ok (.iload_n 2, 1) := by decide +kernel
theorem d_M_asked_67 : decode (jyc Y_M_asked) 67 = .ok (.iaload, 1) := by decide +kernel
theorem d_M_asked_68 : decode (jyc Y_M_asked) 68 = .ok (.goto 9, 3) := by decide +kernel
theorem d_M_asked_71 : decode (jyc Y_M_asked) 71 = .ok (.aload_n 0, 1) := by decide +kernel
theorem d_M_asked_72 : decode (jyc Y_M_asked) 72 = .ok (.getfield 44, 3) := by decide +kernel
theorem d_M_asked_75 : decode (jyc Y_M_asked) 75 = .ok (.iload_n 2, 1) := by decide +kernel
theorem d_M_asked_76 : decode (jyc Y_M_asked) 76 = .ok (.iaload, 1) := by decide +kernel
theorem d_M_asked_77 : decode (jyc Y_M_asked) 77 = .ok (.ireturn, 1) := by decide +kernel
theorem d_M_tamper_0 : decode (jyc Y_M_tamper) 0 = .ok (.aload_n 0, 1) := by decide +kernel
theorem d_M_tamper_1 : decode (jyc Y_M_tamper) 1 = .ok (.iconst 0, 1) := by decide +kernel
theorem d_M_tamper_2 : decode (jyc Y_M_tamper) 2 = .ok (.putfield 63, 3) := by decide +kernel
theorem d_M_tamper_5 : decode (jyc Y_M_tamper) 5 = .ok (.aload_n 0, 1) := by decide +kernel
theorem d_M_tamper_6 : decode (jyc Y_M_tamper) 6 = .ok (.getfield 140, 3) := by decide +kernel
theorem d_M_tamper_9 : decode (jyc Y_M_tamper) 9 = .ok (.ifCond .eq 19, 3) := by decide +kernel
theorem d_M_tamper_12 : decode (jyc Y_M_tamper) 12 = .ok (.iload_n 1, 1) := by decide +kernel
theorem d_M_tamper_13 : decode (jyc Y_M_tamper) 13 = .ok (.ifCond .lt 15, 3) := by decide +kernel
theorem d_M_tamper_16 : decode (jyc Y_M_tamper) 16 = .ok (.iload_n 1, 1) := by decide +kernel
theorem d_M_tamper_17 : decode (jyc Y_M_tamper) 17 = .ok (.iconst 4, 1) := by decide +kernel
theorem d_M_tamper_18 : decode (jyc Y_M_tamper) 18 = .ok (.if_icmp .gt 10, 3) := by decide +kernel
theorem d_M_tamper_21 : decode (jyc Y_M_tamper) 21 = .ok (.iload_n 2, 1) := by decide +kernel
theorem d_M_tamper_22 : decode (jyc Y_M_tamper) 22 = .ok (.invokestatic 91, 3) := by decide +kernel
theorem d_M_tamper_25 : decode (jyc Y_M_tamper) 25 = .ok (.ifCond .ne 5, 3) := by decide +kernel
theorem d_M_tamper_28 : decode (jyc Y_M_tamper) 28 = .ok (.iconst 0, 1) := by decide +kernel
theorem d_M_tamper_29 : decode (jyc Y_M_tamper) 29 = .ok (.ireturn, 1) := by decide +kernel
theorem d_M_tamper_30 : decode (jyc Y_M_tamper) 30 = .ok (.aload_n 0, 1) := by decide +kernel
theorem d_M_tamper_31 : decode (jyc Y_M_tamper) 31 = .ok (.getfield 44, 3) := by decide +kernel
theorem d_M_tamper_34 : decode (jyc Y_M_tamper) 34 = .ok (.iload_n 1, 1) := by decide +kernel
theorem d_M_tamper_35 : decode (jyc Y_M_tamper) 35 = .ok (.aload_n 0, 1) := by decide +kernel
theorem d_M_tamper_36 : decode (jyc Y_M_tamper) 36 = .ok (.getfield 44, 3) := by decide +kernel
theorem d_M_tamper_39 : decode (jyc Y_M_tamper) 39 = .ok (.iload_n 1, 1) := by decide +kernel
theorem d_M_tamper_40 : decode (jyc Y_M_tamper) 40 = .ok (.iaload, 1) := by decide +kernel
theorem d_M_tamper_41 : decode (jyc Y_M_tamper) 41 = .ok (.i2l, 1) := by decide +kernel
theorem d_M_tamper_42 : decode (jyc Y_M_tamper) 42 = .ok (.iload_n 2, 1) := by decide +kernel
theorem d_M_tamper_43 : decode (jyc Y_M_tamper) 43 = .ok (.i2l, 1) := by decide +kernel
theorem d_M_tamper_44 : decode (jyc Y_M_tamper) 44 = .ok (.ladd, 1) := by decide +kernel
theorem d_M_tamper_45 : decode (jyc Y_M_tamper) 45 = .ok (.ldc2_w 67, 3) := by decide +kernel
theorem d_M_tamper_48 : decode (jyc Y_M_tamper) 48 = .ok (.lrem, 1) := by decide +kernel
theorem d_M_tamper_49 : decode (jyc Y_M_tamper) 49 = .ok (.l2i, 1) := by decide +kernel
theorem d_M_tamper_50 : decode (jyc Y_M_tamper) 50 = .ok (.iastore, 1) := by decide +kernel
theorem d_M_tamper_51 : decode (jyc Y_M_tamper) 51 = .ok (.iconst 1, 1) := by decide +kernel
theorem d_M_tamper_52 : decode (jyc Y_M_tamper) 52 = .ok (.ireturn, 1) := by decide +kernel
theorem d_M_judge_0 : decode (jyc Y_M_judge) 0 = .ok (.aload_n 0, 1) := by decide +kernel
theorem d_M_judge_1 : decode (jyc Y_M_judge) 1 = .ok (.aload_n 0, 1) := by decide +kernel
theorem d_M_judge_2 : decode (jyc Y_M_judge) 2 = .ok (.getfield 140, 3) := by decide +kernel
theorem d_M_judge_5 : decode (jyc Y_M_judge) 5 = .ok (.ifCond .ne 7, 3) := by decide +kernel
theorem d_M_judge_8 : decode (jyc Y_M_judge) 8 = .ok (.iconst 1, 1) := by decide +kernel
theorem d_M_judge_9 : decode (jyc Y_M_judge) 9 = .ok (.goto 4, 3) := by decide +kernel
theorem d_M_judge_12 : decode (jyc Y_M_judge) 12 = .ok (.iconst 0, 1) := by decide +kernel
theorem d_M_judge_13 : decode (jyc Y_M_judge) 13 = .ok (.putfield 63, 3) := by decide +kernel
theorem d_M_judge_16 : decode (jyc Y_M_judge) 16 = .ok (.aload_n 0, 1) := by decide +kernel
theorem d_M_judge_17 : decode (jyc Y_M_judge) 17 = .ok (.getfield 63, 3) := by decide +kernel
theorem d_M_judge_20 : decode (jyc Y_M_judge) 20 = .ok (.ifCond .le 5, 3) := by decide +kernel
theorem d_M_judge_23 : decode (jyc Y_M_judge) 23 = .ok (.iconst 0, 1) := by decide +kernel
theorem d_M_judge_24 : decode (jyc Y_M_judge) 24 = .ok (.ireturn, 1) := by decide +kernel
theorem d_M_judge_25 : decode (jyc Y_M_judge) 25 = .ok (.lconst 0, 1) := by decide +kernel
theorem d_M_judge_26 : decode (jyc Y_M_judge) 26 = .ok (.lstore_n 1, 1) := by decide +kernel
theorem d_M_judge_27 : decode (jyc Y_M_judge) 27 = .ok (.iconst 0, 1) := by decide +kernel
theorem d_M_judge_28 : decode (jyc Y_M_judge) 28 = .ok (.istore_n 3, 1) := by decide +kernel
theorem d_M_judge_29 : decode (jyc Y_M_judge) 29 = .ok (.iload_n 3, 1) := by decide +kernel
theorem d_M_judge_30 : decode (jyc Y_M_judge) 30 = .ok (.aload_n 0, 1) := by decide +kernel
theorem d_M_judge_31 : decode (jyc Y_M_judge) 31 = .ok (.getfield 140, 3) := by decide +kernel
theorem d_M_judge_34 : decode (jyc Y_M_judge) 34 = .ok (.if_icmp .ge 45, 3) := by decide +kernel
theorem d_M_judge_37 : decode (jyc Y_M_judge) 37 = .ok (.lload_n 1, 1) := by decide +kernel
theorem d_M_judge_38 : decode (jyc Y_M_judge) 38 = .ok (.aload_n 0, 1) := by decide +kernel
theorem d_M_judge_39 : decode (jyc Y_M_judge) 39 = .ok (.getfield 41, 3) := by decide +kernel
theorem d_M_judge_42 : decode (jyc Y_M_judge) 42 = .ok (.iload_n 3, 1) := by decide +kernel
theorem d_M_judge_43 : decode (jyc Y_M_judge) 43 = .ok (.iaload, 1) := by decide +kernel
theorem d_M_judge_44 : decode (jyc Y_M_judge) 44 = .ok (.i2l, 1) := by decide +kernel
theorem d_M_judge_45 : decode (jyc Y_M_judge) 45 = .ok (.aload_n 0, 1) := by decide +kernel
theorem d_M_judge_46 : decode (jyc Y_M_judge) 46 = .ok (.bipush 64, 2) := by decide +kernel
theorem d_M_judge_48 : decode (jyc Y_M_judge) 48 = .ok (.aload_n 0, 1) := by decide +kernel
theorem d_M_judge_49 : decode (jyc Y_M_judge) 49 = .ok (.getfield 143, 3) := by decide +kernel
theorem d_M_judge_52 : decode (jyc Y_M_judge) 52 = .ok (.imul, 1) := by decide +kernel
theorem d_M_judge_53 : decode (jyc Y_M_judge) 53 = .ok (.bipush 8, 2) := by decide +kernel
theorem d_M_judge_55 : decode (jyc Y_M_judge) 55 = .ok (.iadd, 1) := by decide +kernel
theorem d_M_judge_56 : decode (jyc Y_M_judge) 56 = .ok (.aload_n 0, 1) := by decide +kernel
theorem d_M_judge_57 : decode (jyc Y_M_judge) 57 = .ok (.getfield 38, 3) := by decide +kernel
theorem d_M_judge_60 : decode (jyc Y_M_judge) 60 = .ok (.iload_n 3, 1) := by decide +kernel
theorem d_M_judge_61 : decode (jyc Y_M_judge) 61 = .ok (.iaload, 1) := by decide +kernel
theorem d_M_judge_62 : decode (jyc Y_M_judge) 62 = .ok (.iadd, 1) := by decide +kernel
theorem d_M_judge_63 : decode (jyc Y_M_judge) 63 = .ok (.invokevirtual 95, 3) := by decide +kernel
theorem d_M_judge_66 : decode (jyc Y_M_judge) 66 = .ok (.lmul, 1) := by decide +kernel
theorem d_M_judge_67 : decode (jyc Y_M_judge) 67 = .ok (.ladd, 1) := by decide +kernel
theorem d_M_judge_68 : decode (jyc Y_M_judge) 68 = .ok (.ldc2_w 67, 3) := by decide +kernel
theorem d_M_judge_71 : decode (jyc Y_M_judge) 71 = .ok (.lrem, 1) := by decide +kernel
theorem d_M_judge_72 : decode (jyc Y_M_judge) 72 = .ok (.lstore_n 1, 1) := by decide +kernel
theorem d_M_judge_73 : decode (jyc Y_M_judge) 73 = .ok (.iinc 3 1, 3) := by decide +kernel
theorem d_M_judge_76 : decode (jyc Y_M_judge) 76 = .ok (.goto (-47), 3) := by decide +kernel
theorem d_M_judge_79 : decode (jyc Y_M_judge) 79 = .ok (.iconst 0, 1) := by decide +kernel
theorem d_M_judge_80 : decode (jyc Y_M_judge) 80 = .ok (.istore_n 3, 1) := by decide +kernel
theorem d_M_judge_81 : decode (jyc Y_M_judge) 81 = .ok (.iload_n 3, 1) := by decide +kernel
theorem d_M_judge_82 : decode (jyc Y_M_judge) 82 = .ok (.iconst 4, 1) := by decide +kernel
theorem d_M_judge_83 : decode (jyc Y_M_judge) 83 = .ok (.if_icmp .ge 37, 3) := by decide +kernel
theorem d_M_judge_86 : decode (jyc Y_M_judge) 86 = .ok (.lload_n 1, 1) := by decide +kernel
theorem d_M_judge_87 : decode (jyc Y_M_judge) 87 = .ok (.aload_n 0, 1) := by decide +kernel
theorem d_M_judge_88 : decode (jyc Y_M_judge) 88 = .ok (.bipush 64, 2) := by decide +kernel
theorem d_M_judge_90 : decode (jyc Y_M_judge) 90 = .ok (.aload_n 0, 1) := by decide +kernel
theorem d_M_judge_91 : decode (jyc Y_M_judge) 91 = .ok (.getfield 143, 3) := by decide +kernel
theorem d_M_judge_94 : decode (jyc Y_M_judge) 94 = .ok (.imul, 1) := by decide +kernel
theorem d_M_judge_95 : decode (jyc Y_M_judge) 95 = .ok (.iload_n 3, 1) := by decide +kernel
theorem d_M_judge_96 : decode (jyc Y_M_judge) 96 = .ok (.iadd, 1) := by decide +kernel
theorem d_M_judge_97 : decode (jyc Y_M_judge) 97 = .ok (.invokevirtual 95, 3) := by decide +kernel
theorem d_M_judge_100 : decode (jyc Y_M_judge) 100 = .ok (.aload_n 0, 1) := by decide +kernel
theorem d_M_judge_101 : decode (jyc Y_M_judge) 101 = .ok (.getfield 44, 3) := by decide +kernel
theorem d_M_judge_104 : decode (jyc Y_M_judge) 104 = .ok (.iload_n 3, 1) := by decide +kernel
theorem d_M_judge_105 : decode (jyc Y_M_judge) 105 = .ok (.iaload, 1) := by decide +kernel
theorem d_M_judge_106 : decode (jyc Y_M_judge) 106 = .ok (.i2l, 1) := by decide +kernel
theorem d_M_judge_107 : decode (jyc Y_M_judge) 107 = .ok (.lmul, 1) := by decide +kernel
theorem d_M_judge_108 : decode (jyc Y_M_judge) 108 = .ok (.ladd, 1) := by decide +kernel
theorem d_M_judge_109 : decode (jyc Y_M_judge) 109 = .ok (.ldc2_w 67, 3) := by decide +kernel
theorem d_M_judge_112 : decode (jyc Y_M_judge) 112 = .ok (.lrem, 1) := by decide +kernel
theorem d_M_judge_113 : decode (jyc Y_M_judge) 113 = .ok (.lstore_n 1, 1) := by decide +kernel
theorem d_M_judge_114 : decode (jyc Y_M_judge) 114 = .ok (.iinc 3 1, 3) := by decide +kernel
theorem d_M_judge_117 : decode (jyc Y_M_judge) 117 = .ok (.goto (-36), 3) := by decide +kernel
theorem d_M_judge_120 : decode (jyc Y_M_judge) 120 = .ok (.lload_n 1, 1) := by decide +kernel
theorem d_M_judge_121 : decode (jyc Y_M_judge) 121 = .ok (.aload_n 0, 1) := by decide +kernel
theorem d_M_judge_122 : decode (jyc Y_M_judge) 122 = .ok (.getfield 44, 3) := by decide +kernel
theorem d_M_judge_125 : decode (jyc Y_M_judge) 125 = .ok (.iconst 4, 1) := by decide +kernel
theorem d_M_judge_126 : decode (jyc Y_M_judge) 126 = .ok (.iaload, 1) := by decide +kernel
theorem d_M_judge_127 : decode (jyc Y_M_judge) 127 = .ok (.i2l, 1) := by decide +kernel
theorem d_M_judge_128 : decode (jyc Y_M_judge) 128 = .ok (.lcmp, 1) := by decide +kernel
theorem d_M_judge_129 : decode (jyc Y_M_judge) 129 = .ok (.ifCond .ne 7, 3) := by decide +kernel
theorem d_M_judge_132 : decode (jyc Y_M_judge) 132 = .ok (.iconst 1, 1) := by decide +kernel
theorem d_M_judge_133 : decode (jyc Y_M_judge) 133 = .ok (.goto 4, 3) := by decide +kernel
theorem d_M_judge_136 : decode (jyc Y_M_judge) 136 = .ok (.iconst 0, 1) := by decide +kernel
theorem d_M_judge_137 : decode (jyc Y_M_judge) 137 = .ok (.istore_n 3, 1) := by decide +kernel
theorem d_M_judge_138 : decode (jyc Y_M_judge) 138 = .ok (.aload_n 0, 1) := by decide +kernel
theorem d_M_judge_139 : decode (jyc Y_M_judge) 139 = .ok (.getfield 29, 3) := by decide +kernel
theorem d_M_judge_142 : decode (jyc Y_M_judge) 142 = .ok (.aload_n 0, 1) := by decide +kernel
theorem d_M_judge_143 : decode (jyc Y_M_judge) 143 = .ok (.getfield 146, 3) := by decide +kernel
theorem d_M_judge_146 : decode (jyc Y_M_judge) 146 = .ok (.dup2, 1) := by decide +kernel
theorem d_M_judge_147 : decode (jyc Y_M_judge) 147 = .ok (.iaload, 1) := by decide +kernel
theorem d_M_judge_148 : decode (jyc Y_M_judge) 148 = .ok (.iload_n 3, 1) := by decide +kernel
theorem d_M_judge_149 : decode (jyc Y_M_judge) 149 = .ok (.ifCond .eq 7, 3) := by decide +kernel
theorem d_M_judge_152 : decode (jyc Y_M_judge) 152 = .ok (.iconst 1, 1) := by decide +kernel
theorem d_M_judge_153 : decode (jyc Y_M_judge) 153 = .ok (.goto 4, 3) := by decide +kernel
theorem d_M_judge_156 : decode (jyc Y_M_judge) 156 = .ok (.iconst 0, 1) := by decide +kernel
theorem d_M_judge_157 : decode (jyc Y_M_judge) 157 = .ok (.iadd, 1) := by decide +kernel
theorem d_M_judge_158 : decode (jyc Y_M_judge) 158 = .ok (.iastore, 1) := by decide +kernel
theorem d_M_judge_159 : decode (jyc Y_M_judge) 159 = .ok (.aload_n 0, 1) := by decide +kernel
theorem d_M_judge_160 : decode (jyc Y_M_judge) 160 = .ok (.getfield 32, 3) := by decide +kernel
theorem d_M_judge_163 : decode (jyc Y_M_judge) 163 = .ok (.aload_n 0, 1) := by decide +kernel
theorem d_M_judge_164 : decode (jyc Y_M_judge) 164 = .ok (.getfield 146, 3) := by decide +kernel
theorem d_M_judge_167 : decode (jyc Y_M_judge) 167 = .ok (.dup2, 1) := by decide +kernel
theorem d_M_judge_168 : decode (jyc Y_M_judge) 168 = .ok (.iaload, 1) := by decide +kernel
theorem d_M_judge_169 : decode (jyc Y_M_judge) 169 = .ok (.iload_n 3, 1) := by decide +kernel
theorem d_M_judge_170 : decode (jyc Y_M_judge) 170 = .ok (.ifCond .eq 7, 3) := by decide +kernel
theorem d_M_judge_173 : decode (jyc Y_M_judge) 173 = .ok (.iconst 0, 1) := by decide +kernel
theorem d_M_judge_174 : decode (jyc Y_M_judge) 174 = .ok (.goto 4, 3) := by decide +kernel
theorem d_M_judge_177 : decode (jyc Y_M_judge) 177 = .ok (.iconst 1, 1) := by decide +kernel
theorem d_M_judge_178 : decode (jyc Y_M_judge) 178 = .ok (.iadd, 1) := by decide +kernel
theorem d_M_judge_179 : decode (jyc Y_M_judge) 179 = .ok (.iastore, 1) := by decide +kernel
theorem d_M_judge_180 : decode (jyc Y_M_judge) 180 = .ok (.iload_n 3, 1) := by decide +kernel
theorem d_M_judge_181 : decode (jyc Y_M_judge) 181 = .ok (.ireturn, 1) := by decide +kernel
theorem d_M_isGood_0 : decode (jyc Y_M_isGood) 0 = .ok (.iload_n 1, 1) := by decide +kernel
theorem d_M_isGood_1 : decode (jyc Y_M_isGood) 1 = .ok (.iload_n 2, 1) := by decide +kernel
theorem d_M_isGood_2 : decode (jyc Y_M_isGood) 2 = .ok (.iload_n 3, 1) := by decide +kernel
theorem d_M_isGood_3 : decode (jyc Y_M_isGood) 3 = .ok (.invokestatic 125, 3) := by decide +kernel
theorem d_M_isGood_6 : decode (jyc Y_M_isGood) 6 = .ok (.istore 4, 2) := by decide +kernel
theorem d_M_isGood_8 : decode (jyc Y_M_isGood) 8 = .ok (.aload_n 0, 1) := by decide +kernel
theorem d_M_isGood_9 : decode (jyc Y_M_isGood) 9 = .ok (.iload_n 1, 1) := by decide +kernel
theorem d_M_isGood_10 : decode (jyc Y_M_isGood) 10 = .ok (.iload_n 2, 1) := by decide +kernel
theorem d_M_isGood_11 : decode (jyc Y_M_isGood) 11 = .ok (.invokevirtual 132, 3) := by decide +kernel
theorem d_M_isGood_14 : decode (jyc Y_M_isGood) 14 = .ok (.ifCond .eq 47, 3) := by decide +kernel
theorem d_M_isGood_17 : decode (jyc Y_M_isGood) 17 = .ok (.aload_n 0, 1) := by decide +kernel
theorem d_M_isGood_18 : decode (jyc Y_M_isGood) 18 = .ok (.getfield 26, 3) := by decide +kernel
theorem d_M_isGood_21 : decode (jyc Y_M_isGood) 21 = .ok (.iload_n 1, 1) := by decide +kernel
theorem d_M_isGood_22 : decode (jyc Y_M_isGood) 22 = .ok (.iload_n 2, 1) := by decide +kernel
theorem d_M_isGood_23 : decode (jyc Y_M_isGood) 23 = .ok (.iload_n 3, 1) := by decide +kernel
theorem d_M_isGood_24 : decode (jyc Y_M_isGood) 24 = .ok (.invokestatic 129, 3) := by decide +kernel
theorem d_M_isGood_27 : decode (jyc Y_M_isGood) 27 = .ok (.baload, 1) := by decide +kernel
theorem d_M_isGood_28 : decode (jyc Y_M_isGood) 28 = .ok (.ifCond .ne 33, 3) := by decide +kernel
theorem d_M_isGood_31 : decode (jyc Y_M_isGood) 31 = .ok (.aload_n 0, 1) := by decide +kernel
theorem d_M_isGood_32 : decode (jyc Y_M_isGood) 32 = .ok (.iload_n 2, 1) := by decide +kernel
theorem d_M_isGood_33 : decode (jyc Y_M_isGood) 33 = .ok (.iload_n 3, 1) := by decide +kernel
theorem d_M_isGood_34 : decode (jyc Y_M_isGood) 34 = .ok (.aload_n 0, 1) := by decide +kernel
theorem d_M_isGood_35 : decode (jyc Y_M_isGood) 35 = .ok (.getfield 23, 3) := by decide +kernel
theorem d_M_isGood_38 : decode (jyc Y_M_isGood) 38 = .ok (.iload 4, 2) := by decide +kernel
theorem d_M_isGood_40 : decode (jyc Y_M_isGood) 40 = .ok (.invokevirtual 107, 3) := by decide +kernel
theorem d_M_isGood_43 : decode (jyc Y_M_isGood) 43 = .ok (.aload_n 0, 1) := by decide +kernel
theorem d_M_isGood_44 : decode (jyc Y_M_isGood) 44 = .ok (.getfield 23, 3) := by decide +kernel
theorem d_M_isGood_47 : decode (jyc Y_M_isGood) 47 = .ok (.iload 4, 2) := by decide +kernel
theorem d_M_isGood_49 : decode (jyc Y_M_isGood) 49 = .ok (.iconst 4, 1) := by decide +kernel
theorem d_M_isGood_50 : decode (jyc Y_M_isGood) 50 = .ok (.iadd, 1) := by decide +kernel
theorem d_M_isGood_51 : decode (jyc Y_M_isGood) 51 = .ok (.iaload, 1) := by decide +kernel
theorem d_M_isGood_52 : decode (jyc Y_M_isGood) 52 = .ok (.i2l, 1) := by decide +kernel
theorem d_M_isGood_53 : decode (jyc Y_M_isGood) 53 = .ok (.lcmp, 1) := by decide +kernel
theorem d_M_isGood_54 : decode (jyc Y_M_isGood) 54 = .ok (.ifCond .ne 7, 3) := by decide +kernel
theorem d_M_isGood_57 : decode (jyc Y_M_isGood) 57 = .ok (.iconst 1, 1) := by decide +kernel
theorem d_M_isGood_58 : decode (jyc Y_M_isGood) 58 = .ok (.goto 4, 3) := by decide +kernel
theorem d_M_isGood_61 : decode (jyc Y_M_isGood) 61 = .ok (.iconst 0, 1) := by decide +kernel
theorem d_M_isGood_62 : decode (jyc Y_M_isGood) 62 = .ok (.ireturn, 1) := by decide +kernel
theorem d_M_locate_0 : decode (jyc Y_M_locate) 0 = .ok (.aload_n 0, 1) := by decide +kernel
theorem d_M_locate_1 : decode (jyc Y_M_locate) 1 = .ok (.aload_n 0, 1) := by decide +kernel
theorem d_M_locate_2 : decode (jyc Y_M_locate) 2 = .ok (.iload_n 2, 1) := by decide +kernel
theorem d_M_locate_3 : decode (jyc Y_M_locate) 3 = .ok (.iload_n 1, 1) := by decide +kernel
theorem d_M_locate_4 : decode (jyc Y_M_locate) 4 = .ok (.invokevirtual 132, 3) := by decide +kernel
theorem d_M_locate_7 : decode (jyc Y_M_locate) 7 = .ok (.ifCond .eq 7, 3) := by decide +kernel
theorem d_M_locate_10 : decode (jyc Y_M_locate) 10 = .ok (.iconst 0, 1) := by decide +kernel
theorem d_M_locate_11 : decode (jyc Y_M_locate) 11 = .ok (.goto 4, 3) := by decide +kernel
theorem d_M_locate_14 : decode (jyc Y_M_locate) 14 = .ok (.iconst 1, 1) := by decide +kernel
theorem d_M_locate_15 : decode (jyc Y_M_locate) 15 = .ok (.putfield 63, 3) := by decide +kernel
theorem d_M_locate_18 : decode (jyc Y_M_locate) 18 = .ok (.aload_n 0, 1) := by decide +kernel
theorem d_M_locate_19 : decode (jyc Y_M_locate) 19 = .ok (.getfield 63, 3) := by decide +kernel
theorem d_M_locate_22 : decode (jyc Y_M_locate) 22 = .ok (.ifCond .le 5, 3) := by decide +kernel
theorem d_M_locate_25 : decode (jyc Y_M_locate) 25 = .ok (.iconst 0, 1) := by decide +kernel
theorem d_M_locate_26 : decode (jyc Y_M_locate) 26 = .ok (.ireturn, 1) := by decide +kernel
theorem d_M_locate_27 : decode (jyc Y_M_locate) 27 = .ok (.aload_n 0, 1) := by decide +kernel
theorem d_M_locate_28 : decode (jyc Y_M_locate) 28 = .ok (.iconst 0, 1) := by decide +kernel
theorem d_M_locate_29 : decode (jyc Y_M_locate) 29 = .ok (.putfield 155, 3) := by decide +kernel
theorem d_M_locate_32 : decode (jyc Y_M_locate) 32 = .ok (.iconst 0, 1) := by decide +kernel
theorem d_M_locate_33 : decode (jyc Y_M_locate) 33 = .ok (.istore_n 3, 1) := by decide +kernel
theorem d_M_locate_34 : decode (jyc Y_M_locate) 34 = .ok (.iload_n 3, 1) := by decide +kernel
theorem d_M_locate_35 : decode (jyc Y_M_locate) 35 = .ok (.aload_n 0, 1) := by decide +kernel
theorem d_M_locate_36 : decode (jyc Y_M_locate) 36 = .ok (.iload_n 1, 1) := by decide +kernel
theorem d_M_locate_37 : decode (jyc Y_M_locate) 37 = .ok (.invokevirtual 99, 3) := by decide +kernel
theorem d_M_locate_40 : decode (jyc Y_M_locate) 40 = .ok (.if_icmp .ge 39, 3) := by decide +kernel
theorem d_M_locate_43 : decode (jyc Y_M_locate) 43 = .ok (.aload_n 0, 1) := by decide +kernel
theorem d_M_locate_44 : decode (jyc Y_M_locate) 44 = .ok (.iload_n 2, 1) := by decide +kernel
theorem d_M_locate_45 : decode (jyc Y_M_locate) 45 = .ok (.iload_n 1, 1) := by decide +kernel
theorem d_M_locate_46 : decode (jyc Y_M_locate) 46 = .ok (.iload_n 3, 1) := by decide +kernel
theorem d_M_locate_47 : decode (jyc Y_M_locate) 47 = .ok (.invokevirtual 158, 3) := by decide +kernel
theorem d_M_locate_50 : decode (jyc Y_M_locate) 50 = .ok (.ifCond .ne 23, 3) := by decide +kernel
theorem d_M_locate_53 : decode (jyc Y_M_locate) 53 = .ok (.aload_n 0, 1) := by decide +kernel
theorem d_M_locate_54 : decode (jyc Y_M_locate) 54 = .ok (.getfield 47, 3) := by decide +kernel
theorem d_M_locate_57 : decode (jyc Y_M_locate) 57 = .ok (.aload_n 0, 1) := by decide +kernel
theorem d_M_locate_58 : decode (jyc Y_M_locate) 58 = .ok (.getfield 155, 3) := by decide +kernel
theorem d_M_locate_61 : decode (jyc Y_M_locate) 61 = .ok (.iload_n 3, 1) := by decide +kernel
theorem d_M_locate_62 : decode (jyc Y_M_locate) 62 = .ok (.iastore, 1) := by decide +kernel
theorem d_M_locate_63 : decode (jyc Y_M_locate) 63 = .ok (.aload_n 0, 1) := by decide +kernel
theorem d_M_locate_64 : decode (jyc Y_M_locate) 64 = .ok (.dup, 1) := by decide +kernel
theorem d_M_locate_65 : decode (jyc Y_M_locate) 65 = .ok (.getfield 155, 3) := by decide +kernel
theorem d_M_locate_68 : decode (jyc Y_M_locate) 68 = .ok (.iconst 1, 1) := by decide +kernel
theorem d_M_locate_69 : decode (jyc Y_M_locate) 69 = .ok (.iadd, 1) := by decide +kernel
theorem d_M_locate_70 : decode (jyc Y_M_locate) 70 = .ok (.putfield 155, 3) := by decide +kernel
theorem d_M_locate_73 : decode (jyc Y_M_locate) 73 = .ok (.iinc 3 1, 3) := by decide +kernel
theorem d_M_locate_76 : decode (jyc Y_M_locate) 76 = .ok (.goto (-42), 3) := by decide +kernel
theorem d_M_locate_79 : decode (jyc Y_M_locate) 79 = .ok (.aload_n 0, 1) := by decide +kernel
theorem d_M_locate_80 : decode (jyc Y_M_locate) 80 = .ok (.getfield 155, 3) := by decide +kernel
theorem d_M_locate_83 : decode (jyc Y_M_locate) 83 = .ok (.ireturn, 1) := by decide +kernel
theorem d_M_found_0 : decode (jyc Y_M_found) 0 = .ok (.aload_n 0, 1) := by decide +kernel
theorem d_M_found_1 : decode (jyc Y_M_found) 1 = .ok (.iconst 0, 1) := by decide +kernel
theorem d_M_found_2 : decode (jyc Y_M_found) 2 = .ok (.putfield 63, 3) := by decide +kernel
theorem d_M_found_5 : decode (jyc Y_M_found) 5 = .ok (.iload_n 1, 1) := by decide +kernel
theorem d_M_found_6 : decode (jyc Y_M_found) 6 = .ok (.ifCond .lt 11, 3) := by decide +kernel
theorem d_M_found_9 : decode (jyc Y_M_found) 9 = .ok (.iload_n 1, 1) := by decide +kernel
theorem d_M_found_10 : decode (jyc Y_M_found) 10 = .ok (.aload_n 0, 1) := by decide +kernel
theorem d_M_found_11 : decode (jyc Y_M_found) 11 = .ok (.getfield 155, 3) := by decide +kernel
theorem d_M_found_14 : decode (jyc Y_M_found) 14 = .ok (.if_icmp .lt 7, 3) := by decide +kernel
theorem d_M_found_17 : decode (jyc Y_M_found) 17 = .ok (.iconst (-1), 1) := by decide +kernel
theorem d_M_found_18 : decode (jyc Y_M_found) 18 = .ok (.goto 9, 3) := by decide +kernel
theorem d_M_found_21 : decode (jyc Y_M_found) 21 = .ok (.aload_n 0, 1) := by decide +kernel
theorem d_M_found_22 : decode (jyc Y_M_found) 22 = .ok (.getfield 47, 3) := by decide +kernel
theorem d_M_found_25 : decode (jyc Y_M_found) 25 = .ok (.iload_n 1, 1) := by decide +kernel
theorem d_M_found_26 : decode (jyc Y_M_found) 26 = .ok (.iaload, 1) := by decide +kernel
theorem d_M_found_27 : decode (jyc Y_M_found) 27 = .ok (.ireturn, 1) := by decide +kernel
theorem d_M_keeperOf_0 : decode (jyc Y_M_keeperOf) 0 = .ok (.iconst 0, 1) := by decide +kernel
theorem d_M_keeperOf_1 : decode (jyc Y_M_keeperOf) 1 = .ok (.istore_n 3, 1) := by decide +kernel
theorem d_M_keeperOf_2 : decode (jyc Y_M_keeperOf) 2 = .ok (.iload_n 3, 1) := by decide +kernel
theorem d_M_keeperOf_3 : decode (jyc Y_M_keeperOf) 3 = .ok (.iconst 4, 1) := by decide +kernel
theorem d_M_keeperOf_4 : decode (jyc Y_M_keeperOf) 4 = .ok (.if_icmp .ge 21, 3) := by decide +kernel
theorem d_M_keeperOf_7 : decode (jyc Y_M_keeperOf) 7 = .ok (.aload_n 0, 1) := by decide +kernel
theorem d_M_keeperOf_8 : decode (jyc Y_M_keeperOf) 8 = .ok (.iload_n 3, 1) := by decide +kernel
theorem d_M_keeperOf_9 : decode (jyc Y_M_keeperOf) 9 = .ok (.iload_n 1, 1) := by decide +kernel
theorem d_M_keeperOf_10 : decode (jyc Y_M_keeperOf) 10 = .ok (.iload_n 2, 1) := by decide +kernel
theorem d_M_keeperOf_11 : decode (jyc Y_M_keeperOf) 11 = .ok (.invokevirtual 158, 3) := by decide +kernel
theorem d_M_keeperOf_14 : decode (jyc Y_M_keeperOf) 14 = .ok (.ifCond .eq 5, 3) := by decide +kernel
theorem d_M_keeperOf_17 : decode (jyc Y_M_keeperOf) 17 = .ok (.iload_n 3, 1) := by decide +kernel
theorem d_M_keeperOf_18 : decode (jyc Y_M_keeperOf) 18 = .ok (.ireturn, 1) := by decide +kernel
theorem d_M_keeperOf_19 : decode (jyc Y_M_keeperOf) 19 = .ok (.iinc 3 1, 3) := by decide +kernel
theorem d_M_keeperOf_22 : decode (jyc Y_M_keeperOf) 22 = .ok (.goto (-20), 3) := by decide +kernel
theorem d_M_keeperOf_25 : decode (jyc Y_M_keeperOf) 25 = .ok (.iconst (-1), 1) := by decide +kernel
theorem d_M_keeperOf_26 : decode (jyc Y_M_keeperOf) 26 = .ok (.ireturn, 1) := by decide +kernel
theorem d_M_sum_0 : decode (jyc Y_M_sum) 0 = .ok (.iload_n 3, 1) := by decide +kernel
theorem d_M_sum_1 : decode (jyc Y_M_sum) 1 = .ok (.bipush 6, 2) := by decide +kernel
theorem d_M_sum_3 : decode (jyc Y_M_sum) 3 = .ok (.irem, 1) := by decide +kernel
theorem d_M_sum_4 : decode (jyc Y_M_sum) 4 = .ok (.istore 5, 2) := by decide +kernel
theorem d_M_sum_6 : decode (jyc Y_M_sum) 6 = .ok (.iconst 0, 1) := by decide +kernel
theorem d_M_sum_7 : decode (jyc Y_M_sum) 7 = .ok (.istore 6, 2) := by decide +kernel
theorem d_M_sum_9 : decode (jyc Y_M_sum) 9 = .ok (.iload 6, 2) := by decide +kernel
theorem d_M_sum_11 : decode (jyc Y_M_sum) 11 = .ok (.iconst 4, 1) := by decide +kernel
theorem d_M_sum_12 : decode (jyc Y_M_sum) 12 = .ok (.if_icmp .ge 81, 3) := by decide +kernel
theorem d_M_sum_15 : decode (jyc Y_M_sum) 15 = .ok (.aload_n 0, 1) := by decide +kernel
theorem d_M_sum_16 : decode (jyc Y_M_sum) 16 = .ok (.getfield 56, 3) := by decide +kernel
theorem d_M_sum_19 : decode (jyc Y_M_sum) 19 = .ok (.bipush 8, 2) := by decide +kernel
theorem d_M_sum_21 : decode (jyc Y_M_sum) 21 = .ok (.iload_n 1, 1) := by decide +kernel
theorem d_M_sum_22 : decode (jyc Y_M_sum) 22 = .ok (.imul, 1) := by decide +kernel
theorem d_M_sum_23 : decode (jyc Y_M_sum) 23 = .ok (.iload 6, 2) := by decide +kernel
theorem d_M_sum_25 : decode (jyc Y_M_sum) 25 = .ok (.iadd, 1) := by decide +kernel
theorem d_M_sum_26 : decode (jyc Y_M_sum) 26 = .ok (.iload 5, 2) := by decide +kernel
theorem d_M_sum_28 : decode (jyc Y_M_sum) 28 = .ok (.iconst 4, 1) := by decide +kernel
theorem d_M_sum_29 : decode (jyc Y_M_sum) 29 = .ok (.if_icmp .ge 18, 3) := by decide +kernel
theorem d_M_sum_32 : decode (jyc Y_M_sum) 32 = .ok (.iload 5, 2) := by decide +kernel
theorem d_M_sum_34 : decode (jyc Y_M_sum) 34 = .ok (.iload 6, 2) := by decide +kernel
theorem d_M_sum_36 : decode (jyc Y_M_sum) 36 = .ok (.if_icmp .ne 7, 3) := by decide +kernel
theorem d_M_sum_39 : decode (jyc Y_M_sum) 39 = .ok (.lconst 1, 1) := by decide +kernel
theorem d_M_sum_40 : decode (jyc Y_M_sum) 40 = .ok (.goto 16, 3) := by decide +kernel
theorem d_M_sum_43 : decode (jyc Y_M_sum) 43 = .ok (.lconst 0, 1) := by decide +kernel
theorem d_M_sum_44 : decode (jyc Y_M_sum) 44 = .ok (.goto 12, 3) := by decide +kernel
theorem d_M_sum_47 : decode (jyc Y_M_sum) 47 = .ok (.iload 5, 2) := by decide +kernel
theorem d_M_sum_49 : decode (jyc Y_M_sum) 49 = .ok (.iload 6, 2) := by decide +kernel
theorem d_M_sum_51 : decode (jyc Y_M_sum) 51 = .ok (.isub, 1) := by decide +kernel
theorem d_M_sum_52 : decode (jyc Y_M_sum) 52 = .ok (.i2l, 1) := by decide +kernel
theorem d_M_sum_53 : decode (jyc Y_M_sum) 53 = .ok (.invokestatic 103, 3) := by decide +kernel
theorem d_M_sum_56 : decode (jyc Y_M_sum) 56 = .ok (.lastore, 1) := by decide +kernel
theorem d_M_sum_57 : decode (jyc Y_M_sum) 57 = .ok (.aload_n 0, 1) := by decide +kernel
theorem d_M_sum_58 : decode (jyc Y_M_sum) 58 = .ok (.getfield 56, 3) := by decide +kernel
theorem d_M_sum_61 : decode (jyc Y_M_sum) 61 = .ok (.bipush 8, 2) := by decide +kernel
theorem d_M_sum_63 : decode (jyc Y_M_sum) 63 = .ok (.iload_n 1, 1) := by decide +kernel
theorem d_M_sum_64 : decode (jyc Y_M_sum) 64 = .ok (.imul, 1) := by decide +kernel
theorem d_M_sum_65 : decode (jyc Y_M_sum) 65 = .ok (.iconst 4, 1) := by decide +kernel
theorem d_M_sum_66 : decode (jyc Y_M_sum) 66 = .ok (.iadd, 1) := by decide +kernel
theorem d_M_sum_67 : decode (jyc Y_M_sum) 67 = .ok (.iload 6, 2) := by decide +kernel
theorem d_M_sum_69 : decode (jyc Y_M_sum) 69 = .ok (.iadd, 1) := by decide +kernel
theorem d_M_sum_70 : decode (jyc Y_M_sum) 70 = .ok (.aload_n 0, 1) := by decide +kernel
theorem d_M_sum_71 : decode (jyc Y_M_sum) 71 = .ok (.getfield 23, 3) := by decide +kernel
theorem d_M_sum_74 : decode (jyc Y_M_sum) 74 = .ok (.iload 4, 2) := by decide +kernel
theorem d_M_sum_76 : decode (jyc Y_M_sum) 76 = .ok (.iload_n 2, 1) := by decide +kernel
theorem d_M_sum_77 : decode (jyc Y_M_sum) 77 = .ok (.iload_n 3, 1) := by decide +kernel
theorem d_M_sum_78 : decode (jyc Y_M_sum) 78 = .ok (.invokestatic 125, 3) := by decide +kernel
theorem d_M_sum_81 : decode (jyc Y_M_sum) 81 = .ok (.iload 6, 2) := by decide +kernel
theorem d_M_sum_83 : decode (jyc Y_M_sum) 83 = .ok (.iadd, 1) := by decide +kernel
theorem d_M_sum_84 : decode (jyc Y_M_sum) 84 = .ok (.iaload, 1) := by decide +kernel
theorem d_M_sum_85 : decode (jyc Y_M_sum) 85 = .ok (.i2l, 1) := by decide +kernel
theorem d_M_sum_86 : decode (jyc Y_M_sum) 86 = .ok (.lastore, 1) := by decide +kernel
theorem d_M_sum_87 : decode (jyc Y_M_sum) 87 = .ok (.iinc 6 1, 3) := by decide +kernel
theorem d_M_sum_90 : decode (jyc Y_M_sum) 90 = .ok (.goto (-81), 3) := by decide +kernel
theorem d_M_sum_93 : decode (jyc Y_M_sum) 93 = .ok (.return_, 1) := by decide +kernel
theorem d_M_solve_0 : decode (jyc Y_M_solve) 0 = .ok (.iconst 0, 1) := by decide +kernel
theorem d_M_solve_1 : decode (jyc Y_M_solve) 1 = .ok (.istore_n 1, 1) := by decide +kernel
theorem d_M_solve_2 : decode (jyc Y_M_solve) 2 = .ok (.iload_n 1, 1) := by decide +kernel
theorem d_M_solve_3 : decode (jyc Y_M_solve) 3 = .ok (.iconst 4, 1) := by decide +kernel
theorem d_M_solve_4 : decode (jyc Y_M_solve) 4 = .ok (.if_icmp .ge 261, 3) := by decide +kernel
theorem d_M_solve_7 : decode (jyc Y_M_solve) 7 = .ok (.iload_n 1, 1) := by decide +kernel
theorem d_M_solve_8 : decode (jyc Y_M_solve) 8 = .ok (.istore_n 2, 1) := by decide +kernel
theorem d_M_solve_9 : decode (jyc Y_M_solve) 9 = .ok (.aload_n 0, 1) := by decide +kernel
theorem d_M_solve_10 : decode (jyc Y_M_solve) 10 = .ok (.getfield 56, 3) := by decide +kernel
theorem d_M_solve_13 : decode (jyc Y_M_solve) 13 = .ok (.bipush 8, 2) := by decide +kernel
theorem d_M_solve_15 : decode (jyc Y_M_solve) 15 = .ok (.iload_n 2, 1) := by decide +kernel
theorem d_M_solve_16 : decode (jyc Y_M_solve) 16 = .ok (.imul, 1) := by decide +kernel
theorem d_M_solve_17 : decode (jyc Y_M_solve) 17 = .ok (.iload_n 1, 1) := by decide +kernel
theorem d_M_solve_18 : decode (jyc Y_M_solve) 18 = .ok (.iadd, 1) := by decide +kernel
theorem d_M_solve_19 : decode (jyc Y_M_solve) 19 = .ok (.laload, 1) := by decide +kernel
theorem d_M_solve_20 : decode (jyc Y_M_solve) 20 = .ok (.lconst 0, 1) := by decide +kernel
theorem d_M_solve_21 : decode (jyc Y_M_solve) 21 = .ok (.lcmp, 1) := by decide +kernel
theorem d_M_solve_22 : decode (jyc Y_M_solve) 22 = .ok (.ifCond .ne 9, 3) := by decide +kernel
theorem d_M_solve_25 : decode (jyc Y_M_solve) 25 = .ok (.iinc 2 1, 3) := by decide +kernel
theorem d_M_solve_28 : decode (jyc Y_M_solve) 28 = .ok (.goto (-19), 3) := by decide +kernel
theorem d_M_solve_31 : decode (jyc Y_M_solve) 31 = .ok (.iconst 0, 1) := by decide +kernel
theorem d_M_solve_32 : decode (jyc Y_M_solve) 32 = .ok (.istore_n 3, 1) := by decide +kernel
theorem d_M_solve_33 : decode (jyc Y_M_solve) 33 = .ok (.iload_n 3, 1) := by decide +kernel
theorem d_M_solve_34 : decode (jyc Y_M_solve) 34 = .ok (.bipush 8, 2) := by decide +kernel
theorem d_M_solve_36 : decode (jyc Y_M_solve) 36 = .ok (.if_icmp .ge 57, 3) := by decide +kernel
theorem d_M_solve_39 : decode (jyc Y_M_solve) 39 = .ok (.aload_n 0, 1) := by decide +kernel
theorem d_M_solve_40 : decode (jyc Y_M_solve) 40 = .ok (.getfield 56, 3) := by decide +kernel
theorem d_M_solve_43 : decode (jyc Y_M_solve) 43 = .ok (.bipush 8, 2) := by decide +kernel
theorem d_M_solve_45 : decode (jyc Y_M_solve) 45 = .ok (.iload_n 2, 1) := by decide +kernel
theorem d_M_solve_46 : decode (jyc Y_M_solve) 46 = .ok (.imul, 1) := by decide +kernel
theorem d_M_solve_47 : decode (jyc Y_M_solve) 47 = .ok (.iload_n 3, 1) := by decide +kernel
theorem d_M_solve_48 : decode (jyc Y_M_solve) 48 = .ok (.iadd, 1) := by decide +kernel
theorem d_M_solve_49 : decode (jyc Y_M_solve) 49 = .ok (.laload, 1) := by decide +kernel
theorem d_M_solve_50 : decode (jyc Y_M_solve) 50 = .ok (.lstore 4, 2) := by decide +kernel
theorem d_M_solve_52 : decode (jyc Y_M_solve) 52 = .ok (.aload_n 0, 1) := by decide +kernel
theorem d_M_solve_53 : decode (jyc Y_M_solve) 53 = .ok (.getfield 56, 3) := by decide +kernel
theorem d_M_solve_56 : decode (jyc Y_M_solve) 56 = .ok (.bipush 8, 2) := by decide +kernel
theorem d_M_solve_58 : decode (jyc Y_M_solve) 58 = .ok (.iload_n 2, 1) := by decide +kernel
theorem d_M_solve_59 : decode (jyc Y_M_solve) 59 = .ok (.imul, 1) := by decide +kernel
theorem d_M_solve_60 : decode (jyc Y_M_solve) 60 = .ok (.iload_n 3, 1) := by decide +kernel
theorem d_M_solve_61 : decode (jyc Y_M_solve) 61 = .ok (.iadd, 1) := by decide +kernel
theorem d_M_solve_62 : decode (jyc Y_M_solve) 62 = .ok (.aload_n 0, 1) := by decide +kernel
theorem d_M_solve_63 : decode (jyc Y_M_solve) 63 = .ok (.getfield 56, 3) := by decide +kernel
theorem d_M_solve_66 : decode (jyc Y_M_solve) 66 = .ok (.bipush 8, 2) := by decide +kernel
theorem d_M_solve_68 : decode (jyc Y_M_solve) 68 = .ok (.iload_n 1, 1) := by decide +kernel
theorem d_M_solve_69 : decode (jyc Y_M_solve) 69 = .ok (.imul, 1) := by decide +kernel
theorem d_M_solve_70 : decode (jyc Y_M_solve) 70 = .ok (.iload_n 3, 1) := by decide +kernel
theorem d_M_solve_71 : decode (jyc Y_M_solve) 71 = .ok (.iadd, 1) := by decide +kernel
theorem d_M_solve_72 : decode (jyc Y_M_solve) 72 = .ok (.laload, 1) := by decide +kernel
theorem d_M_solve_73 : decode (jyc Y_M_solve) 73 = .ok (.lastore, 1) := by decide +kernel
theorem d_M_solve_74 : decode (jyc Y_M_solve) 74 = .ok (.aload_n 0, 1) := by decide +kernel
theorem d_M_solve_75 : decode (jyc Y_M_solve) 75 = .ok (.getfield 56, 3) := by decide +kernel
theorem d_M_solve_78 : decode (jyc Y_M_solve) 78 = .ok (.bipush 8, 2) := by decide +kernel
theorem d_M_solve_80 : decode (jyc Y_M_solve) 80 = .ok (.iload_n 1, 1) := by decide +kernel
theorem d_M_solve_81 : decode (jyc Y_M_solve) 81 = .ok (.imul, 1) := by decide +kernel
theorem d_M_solve_82 : decode (jyc Y_M_solve) 82 = .ok (.iload_n 3, 1) := by decide +kernel
theorem d_M_solve_83 : decode (jyc Y_M_solve) 83 = .ok (.iadd, 1) := by decide +kernel
theorem d_M_solve_84 : decode (jyc Y_M_solve) 84 = .ok (.lload 4, 2) := by decide +kernel
theorem d_M_solve_86 : decode (jyc Y_M_solve) 86 = .ok (.lastore, 1) := by decide +kernel
theorem d_M_solve_87 : decode (jyc Y_M_solve) 87 = .ok (.iinc 3 1, 3) := by decide +kernel
theorem d_M_solve_90 : decode (jyc Y_M_solve) 90 = .ok (.goto (-57), 3) := by decide +kernel
theorem d_M_solve_93 : decode (jyc Y_M_solve) 93 = .ok (.aload_n 0, 1) := by decide +kernel
theorem d_M_solve_94 : decode (jyc Y_M_solve) 94 = .ok (.getfield 56, 3) := by decide +kernel
theorem d_M_solve_97 : decode (jyc Y_M_solve) 97 = .ok (.bipush 8, 2) := by decide +kernel
theorem d_M_solve_99 : decode (jyc Y_M_solve) 99 = .ok (.iload_n 1, 1) := by decide +kernel
theorem d_M_solve_100 : decode (jyc Y_M_solve) 100 = .ok (.imul, 1) := by decide +kernel
theorem d_M_solve_101 : decode (jyc Y_M_solve) 101 = .ok (.iload_n 1, 1) := by decide +kernel
theorem d_M_solve_102 : decode (jyc Y_M_solve) 102 = .ok (.iadd, 1) := by decide +kernel
theorem d_M_solve_103 : decode (jyc Y_M_solve) 103 = .ok (.laload, 1) := by decide +kernel
theorem d_M_solve_104 : decode (jyc Y_M_solve) 104 = .ok (.invokestatic 103, 3) := by decide +kernel
theorem d_M_solve_107 : decode (jyc Y_M_solve) 107 = .ok (.lstore_n 3, 1) := by decide +kernel
theorem d_M_solve_108 : decode (jyc Y_M_solve) 108 = .ok (.iconst 0, 1) := by decide +kernel
theorem d_M_solve_109 : decode (jyc Y_M_solve) 109 = .ok (.istore 5, 2) := by decide +kernel
theorem d_M_solve_111 : decode (jyc Y_M_solve) 111 = .ok (.iload 5, 2) := by decide +kernel
theorem d_M_solve_113 : decode (jyc Y_M_solve) 113 = .ok (.bipush 8, 2) := by decide +kernel
theorem d_M_solve_115 : decode (jyc Y_M_solve) 115 = .ok (.if_icmp .ge 39, 3) := by decide +kernel
theorem d_M_solve_118 : decode (jyc Y_M_solve) 118 = .ok (.aload_n 0, 1) := by decide +kernel
theorem d_M_solve_119 : decode (jyc Y_M_solve) 119 = .ok (.getfield 56, 3) := by decide +kernel
theorem d_M_solve_122 : decode (jyc Y_M_solve) 122 = .ok (.bipush 8, 2) := by decide +kernel
theorem d_M_solve_124 : decode (jyc Y_M_solve) 124 = .ok (.iload_n 1, 1) := by decide +kernel
theorem d_M_solve_125 : decode (jyc Y_M_solve) 125 = .ok (.imul, 1) := by decide +kernel
theorem d_M_solve_126 : decode (jyc Y_M_solve) 126 = .ok (.iload 5, 2) := by decide +kernel
theorem d_M_solve_128 : decode (jyc Y_M_solve) 128 = .ok (.iadd, 1) := by decide +kernel
theorem d_M_solve_129 : decode (jyc Y_M_solve) 129 = .ok (.aload_n 0, 1) := by decide +kernel
theorem d_M_solve_130 : decode (jyc Y_M_solve) 130 = .ok (.getfield 56, 3) := by decide +kernel
theorem d_M_solve_133 : decode (jyc Y_M_solve) 133 = .ok (.bipush 8, 2) := by decide +kernel
theorem d_M_solve_135 : decode (jyc Y_M_solve) 135 = .ok (.iload_n 1, 1) := by decide +kernel
theorem d_M_solve_136 : decode (jyc Y_M_solve) 136 = .ok (.imul, 1) := by decide +kernel
theorem d_M_solve_137 : decode (jyc Y_M_solve) 137 = .ok (.iload 5, 2) := by decide +kernel
theorem d_M_solve_139 : decode (jyc Y_M_solve) 139 = .ok (.iadd, 1) := by decide +kernel
theorem d_M_solve_140 : decode (jyc Y_M_solve) 140 = .ok (.laload, 1) := by decide +kernel
theorem d_M_solve_141 : decode (jyc Y_M_solve) 141 = .ok (.lload_n 3, 1) := by decide +kernel
theorem d_M_solve_142 : decode (jyc Y_M_solve) 142 = .ok (.lmul, 1) := by decide +kernel
theorem d_M_solve_143 : decode (jyc Y_M_solve) 143 = .ok (.ldc2_w 67, 3) := by decide +kernel
theorem d_M_solve_146 : decode (jyc Y_M_solve) 146 = .ok (.lrem, 1) := by decide +kernel
theorem d_M_solve_147 : decode (jyc Y_M_solve) 147 = .ok (.lastore, 1) := by decide +kernel
theorem d_M_solve_148 : decode (jyc Y_M_solve) 148 = .ok (.iinc 5 1, 3) := by decide +kernel
theorem d_M_solve_151 : decode (jyc Y_M_solve) 151 = .ok (.goto (-40), 3) := by decide +kernel
theorem d_M_solve_154 : decode (jyc Y_M_solve) 154 = .ok (.iconst 0, 1) := by decide +kernel
theorem d_M_solve_155 : decode (jyc Y_M_solve) 155 = .ok (.istore 5, 2) := by decide +kernel
theorem d_M_solve_157 : decode (jyc Y_M_solve) 157 = .ok (.iload 5, 2) := by decide +kernel
theorem d_M_solve_159 : decode (jyc Y_M_solve) 159 = .ok (.iconst 4, 1) := by decide +kernel
theorem d_M_solve_160 : decode (jyc Y_M_solve) 160 = .ok (.if_icmp .ge 99, 3) := by decide +kernel
theorem d_M_solve_163 : decode (jyc Y_M_solve) 163 = .ok (.iload 5, 2) := by decide +kernel
theorem d_M_solve_165 : decode (jyc Y_M_solve) 165 = .ok (.iload_n 1, 1) := by decide +kernel
theorem d_M_solve_166 : decode (jyc Y_M_solve) 166 = .ok (.if_icmp .ne 7, 3) := by decide +kernel
theorem d_M_solve_169 : decode (jyc Y_M_solve) 169 = .ok (.lconst 0, 1) := by decide +kernel
theorem d_M_solve_170 : decode (jyc Y_M_solve) 170 = .ok (.goto 15, 3) := by decide +kernel
theorem d_M_solve_173 : decode (jyc Y_M_solve) 173 = .ok (.aload_n 0, 1) := by decide +kernel
theorem d_M_solve_174 : decode (jyc Y_M_solve) 174 = .ok (.getfield 56, 3) := by decide +kernel
theorem d_M_solve_177 : decode (jyc Y_M_solve) 177 = .ok (.bipush 8, 2) := by decide +kernel
theorem d_M_solve_179 : decode (jyc Y_M_solve) 179 = .ok (.iload 5, 2) := by decide +kernel
theorem d_M_solve_181 : decode (jyc Y_M_solve) 181 = .ok (.imul, 1) := by decide +kernel
theorem d_M_solve_182 : decode (jyc Y_M_solve) 182 = .ok (.iload_n 1, 1) := by decide +kernel
theorem d_M_solve_183 : decode (jyc Y_M_solve) 183 = .ok (.iadd, 1) := by decide +kernel
theorem d_M_solve_184 : decode (jyc Y_M_solve) 184 = .ok (.laload, 1) := by decide +kernel
theorem d_M_solve_185 : decode (jyc Y_M_solve) 185 = .ok (.lstore 6, 2) := by decide +kernel
theorem d_M_solve_187 : decode (jyc Y_M_solve) 187 = .ok (.iconst 0, 1) := by decide +kernel
theorem d_M_solve_188 : decode (jyc Y_M_solve) 188 = .ok (.istore 8, 2) := by decide +kernel
theorem d_M_solve_190 : decode (jyc Y_M_solve) 190 = .ok (.iload 8, 2) := by decide +kernel
theorem d_M_solve_192 : decode (jyc Y_M_solve) 192 = .ok (.bipush 8, 2) := by decide +kernel
theorem d_M_solve_194 : decode (jyc Y_M_solve) 194 = .ok (.if_icmp .ge 59, 3) := by decide +kernel
theorem d_M_solve_197 : decode (jyc Y_M_solve) 197 = .ok (.aload_n 0, 1) := by decide +kernel
theorem d_M_solve_198 : decode (jyc Y_M_solve) 198 = .ok (.getfield 56, 3) := by decide +kernel
theorem d_M_solve_201 : decode (jyc Y_M_solve) 201 = .ok (.bipush 8, 2) := by decide +kernel
theorem d_M_solve_203 : decode (jyc Y_M_solve) 203 = .ok (.iload 5, 2) := by decide +kernel
theorem d_M_solve_205 : decode (jyc Y_M_solve) 205 = .ok (.imul, 1) := by decide +kernel
theorem d_M_solve_206 : decode (jyc Y_M_solve) 206 = .ok (.iload 8, 2) := by decide +kernel
theorem d_M_solve_208 : decode (jyc Y_M_solve) 208 = .ok (.iadd, 1) := by decide +kernel
theorem d_M_solve_209 : decode (jyc Y_M_solve) 209 = .ok (.aload_n 0, 1) := by decide +kernel
theorem d_M_solve_210 : decode (jyc Y_M_solve) 210 = .ok (.getfield 56, 3) := by decide +kernel
theorem d_M_solve_213 : decode (jyc Y_M_solve) 213 = .ok (.bipush 8, 2) := by decide +kernel
theorem d_M_solve_215 : decode (jyc Y_M_solve) 215 = .ok (.iload 5, 2) := by decide +kernel
theorem d_M_solve_217 : decode (jyc Y_M_solve) 217 = .ok (.imul, 1) := by decide +kernel
theorem d_M_solve_218 : decode (jyc Y_M_solve) 218 = .ok (.iload 8, 2) := by decide +kernel
theorem d_M_solve_220 : decode (jyc Y_M_solve) 220 = .ok (.iadd, 1) := by decide +kernel
theorem d_M_solve_221 : decode (jyc Y_M_solve) 221 = .ok (.laload, 1) := by decide +kernel
theorem d_M_solve_222 : decode (jyc Y_M_solve) 222 = .ok (.ldc2_w 67, 3) := by decide +kernel
theorem d_M_solve_225 : decode (jyc Y_M_solve) 225 = .ok (.lload 6, 2) := by decide +kernel
theorem d_M_solve_227 : decode (jyc Y_M_solve) 227 = .ok (.lsub, 1) := by decide +kernel
theorem d_M_solve_228 : decode (jyc Y_M_solve) 228 = .ok (.aload_n 0, 1) := by decide +kernel
theorem d_M_solve_229 : decode (jyc Y_M_solve) 229 = .ok (.getfield 56, 3) := by decide +kernel
theorem d_M_solve_232 : decode (jyc Y_M_solve) 232 = .ok (.bipush 8, 2) := by decide +kernel
theorem d_M_solve_234 : decode (jyc Y_M_solve) 234 = .ok (.iload_n 1, 1) := by decide +kernel
theorem d_M_solve_235 : decode (jyc Y_M_solve) 235 = .ok (.imul, 1) := by decide +kernel
theorem d_M_solve_236 : decode (jyc Y_M_solve) 236 = .ok (.iload 8, 2) := by decide +kernel
theorem d_M_solve_238 : decode (jyc Y_M_solve) 238 = .ok (.iadd, 1) := by decide +kernel
theorem d_M_solve_239 : decode (jyc Y_M_solve) 239 = .ok (.laload, 1) := by decide +kernel
theorem d_M_solve_240 : decode (jyc Y_M_solve) 240 = .ok (.lmul, 1) := by decide +kernel
theorem d_M_solve_241 : decode (jyc Y_M_solve) 241 = .ok (.ladd, 1) := by decide +kernel
theorem d_M_solve_242 : decode (jyc Y_M_solve) 242 = .ok (.ldc2_w 67, 3) := by decide +kernel
theorem d_M_solve_245 : decode (jyc Y_M_solve) 245 = .ok (.lrem, 1) := by decide +kernel
theorem d_M_solve_246 : decode (jyc Y_M_solve) 246 = .ok (.lastore, 1) := by decide +kernel
theorem d_M_solve_247 : decode (jyc Y_M_solve) 247 = .ok (.iinc 8 1, 3) := by decide +kernel
theorem d_M_solve_250 : decode (jyc Y_M_solve) 250 = .ok (.goto (-60), 3) := by decide +kernel
theorem d_M_solve_253 : decode (jyc Y_M_solve) 253 = .ok (.iinc 5 1, 3) := by decide +kernel
theorem d_M_solve_256 : decode (jyc Y_M_solve) 256 = .ok (.goto (-99), 3) := by decide +kernel
theorem d_M_solve_259 : decode (jyc Y_M_solve) 259 = .ok (.iinc 1 1, 3) := by decide +kernel
theorem d_M_solve_262 : decode (jyc Y_M_solve) 262 = .ok (.goto (-260), 3) := by decide +kernel
theorem d_M_solve_265 : decode (jyc Y_M_solve) 265 = .ok (.return_, 1) := by decide +kernel
theorem d_M_gather_0 : decode (jyc Y_M_gather) 0 = .ok (.iconst 0, 1) := by decide +kernel
theorem d_M_gather_1 : decode (jyc Y_M_gather) 1 = .ok (.istore_n 2, 1) := by decide +kernel
theorem d_M_gather_2 : decode (jyc Y_M_gather) 2 = .ok (.iload_n 2, 1) := by decide +kernel
theorem d_M_gather_3 : decode (jyc Y_M_gather) 3 = .ok (.bipush 64, 2) := by decide +kernel
theorem d_M_gather_5 : decode (jyc Y_M_gather) 5 = .ok (.if_icmp .ge 16, 3) := by decide +kernel
theorem d_M_gather_8 : decode (jyc Y_M_gather) 8 = .ok (.aload_n 0, 1) := by decide +kernel
theorem d_M_gather_9 : decode (jyc Y_M_gather) 9 = .ok (.getfield 53, 3) := by decide +kernel
theorem d_M_gather_12 : decode (jyc Y_M_gather) 12 = .ok (.iload_n 2, 1) := by decide +kernel
theorem d_M_gather_13 : decode (jyc Y_M_gather) 13 = .ok (.iconst 0, 1) := by decide +kernel
theorem d_M_gather_14 : decode (jyc Y_M_gather) 14 = .ok (.iastore, 1) := by decide +kernel
theorem d_M_gather_15 : decode (jyc Y_M_gather) 15 = .ok (.iinc 2 1, 3) := by decide +kernel
theorem d_M_gather_18 : decode (jyc Y_M_gather) 18 = .ok (.goto (-16), 3) := by decide +kernel
theorem d_M_gather_21 : decode (jyc Y_M_gather) 21 = .ok (.iconst 0, 1) := by decide +kernel
theorem d_M_gather_22 : decode (jyc Y_M_gather) 22 = .ok (.istore_n 2, 1) := by decide +kernel
theorem d_M_gather_23 : decode (jyc Y_M_gather) 23 = .ok (.iload_n 2, 1) := by decide +kernel
theorem d_M_gather_24 : decode (jyc Y_M_gather) 24 = .ok (.aload_n 0, 1) := by decide +kernel
theorem d_M_gather_25 : decode (jyc Y_M_gather) 25 = .ok (.iload_n 1, 1) := by decide +kernel
theorem d_M_gather_26 : decode (jyc Y_M_gather) 26 = .ok (.invokevirtual 99, 3) := by decide +kernel
theorem d_M_gather_29 : decode (jyc Y_M_gather) 29 = .ok (.bipush 6, 2) := by decide +kernel
theorem d_M_gather_31 : decode (jyc Y_M_gather) 31 = .ok (.idiv, 1) := by decide +kernel
theorem d_M_gather_32 : decode (jyc Y_M_gather) 32 = .ok (.if_icmp .ge 141, 3) := by decide +kernel
theorem d_M_gather_35 : decode (jyc Y_M_gather) 35 = .ok (.iconst 0, 1) := by decide +kernel
theorem d_M_gather_36 : decode (jyc Y_M_gather) 36 = .ok (.istore_n 3, 1) := by decide +kernel
theorem d_M_gather_37 : decode (jyc Y_M_gather) 37 = .ok (.bipush 6, 2) := by decide +kernel
theorem d_M_gather_39 : decode (jyc Y_M_gather) 39 = .ok (.iload_n 2, 1) := by decide +kernel
theorem d_M_gather_40 : decode (jyc Y_M_gather) 40 = .ok (.imul, 1) := by decide +kernel
theorem d_M_gather_41 : decode (jyc Y_M_gather) 41 = .ok (.istore 4, 2) := by decide +kernel
theorem d_M_gather_43 : decode (jyc Y_M_gather) 43 = .ok (.iload 4, 2) := by decide +kernel
theorem d_M_gather_45 : decode (jyc Y_M_gather) 45 = .ok (.bipush 6, 2) := by decide +kernel
theorem d_M_gather_47 : decode (jyc Y_M_gather) 47 = .ok (.iload_n 2, 1) := by decide +kernel
theorem d_M_gather_48 : decode (jyc Y_M_gather) 48 = .ok (.imul, 1) := by decide +kernel
theorem d_M_gather_49 : decode (jyc Y_M_gather) 49 = .ok (.bipush 6, 2) := by decide +kernel
theorem d_M_gather_51 : decode (jyc Y_M_gather) 51 = .ok (.iadd, 1) := by decide +kernel
theorem d_M_gather_52 : decode (jyc Y_M_gather) 52 = .ok (.if_icmp .ge 41, 3) := by decide +kernel
theorem d_M_gather_55 : decode (jyc Y_M_gather) 55 = .ok (.iload_n 3, 1) := by decide +kernel
theorem d_M_gather_56 : decode (jyc Y_M_gather) 56 = .ok (.iconst 4, 1) := by decide +kernel
theorem d_M_gather_57 : decode (jyc Y_M_gather) 57 = .ok (.if_icmp .ge 36, 3) := by decide +kernel
theorem d_M_gather_60 : decode (jyc Y_M_gather) 60 = .ok (.aload_n 0, 1) := by decide +kernel
theorem d_M_gather_61 : decode (jyc Y_M_gather) 61 = .ok (.iload_n 1, 1) := by decide +kernel
theorem d_M_gather_62 : decode (jyc Y_M_gather) 62 = .ok (.iload 4, 2) := by decide +kernel
theorem d_M_gather_64 : decode (jyc Y_M_gather) 64 = .ok (.invokevirtual 161, 3) := by decide +kernel
theorem d_M_gather_67 : decode (jyc Y_M_gather) 67 = .ok (.istore 5, 2) := by decide +kernel
theorem d_M_gather_69 : decode (jyc Y_M_gather) 69 = .ok (.iload 5, 2) := by decide +kernel
theorem d_M_gather_71 : decode (jyc Y_M_gather) 71 = .ok (.ifCond .lt 16, 3) := by decide +kernel
theorem d_M_gather_74 : decode (jyc Y_M_gather) 74 = .ok (.aload_n 0, 1) := by decide +kernel
theorem d_M_gather_75 : decode (jyc Y_M_gather) 75 = .ok (.iload_n 3, 1) := by decide +kernel
theorem d_M_gather_76 : decode (jyc Y_M_gather) 76 = .ok (.iload_n 1, 1) := by decide +kernel
theorem d_M_gather_77 : decode (jyc Y_M_gather) 77 = .ok (.iload 4, 2) := by decide +kernel
theorem d_M_gather_79 : decode (jyc Y_M_gather) 79 = .ok (.iload 5, 2) := by decide +kernel
theorem d_M_gather_81 : decode (jyc Y_M_gather) 81 = .ok (.invokevirtual 165, 3) := by decide +kernel
theorem d_M_gather_84 : decode (jyc Y_M_gather) 84 = .ok (.iinc 3 1, 3) := by decide +kernel
theorem d_M_gather_87 : decode (jyc Y_M_gather) 87 = .ok (.iinc 4 1, 3) := by decide +kernel
end
section
/-! what each instruction is, part 2 -/
theorem d_M_gather_90 : decode (jyc Y_M_gather) 90 = .ok (.goto (-47), 3) := by decide +kernel
theorem d_M_gather_93 : decode (jyc Y_M_gather) 93 = .ok (.iload_n 3, 1) := by decide +kernel
theorem d_M_gather_94 : decode (jyc Y_M_gather) 94 = .ok (.iconst 4, 1) := by decide +kernel
theorem d_M_gather_95 : decode (jyc Y_M_gather) 95 = .ok (.if_icmp .ge 5, 3) := by decide +kernel
theorem d_M_gather_98 : decode (jyc Y_M_gather) 98 = .ok (.iconst 0, 1) := by decide +kernel
theorem d_M_gather_99 : decode (jyc Y_M_gather) 99 = .ok (.ireturn, 1) := by decide +kernel
theorem d_M_gather_100 : decode (jyc Y_M_gather) 100 = .ok (.aload_n 0, 1) := by decide +kernel
theorem d_M_gather_101 : decode (jyc Y_M_gather) 101 = .ok (.invokevirtual 169, 3) := by decide +kernel
theorem d_M_gather_104 : decode (jyc Y_M_gather) 104 = .ok (.iconst 0, 1) := by decide +kernel
theorem d_M_gather_105 : decode (jyc Y_M_gather) 105 = .ok (.istore 4, 2) := by decide +kernel
theorem d_M_gather_107 : decode (jyc Y_M_gather) 107 = .ok (.iload 4, 2) := by decide +kernel
theorem d_M_gather_109 : decode (jyc Y_M_gather) 109 = .ok (.iconst 4, 1) := by decide +kernel
theorem d_M_gather_110 : decode (jyc Y_M_gather) 110 = .ok (.if_icmp .ge 57, 3) := by decide +kernel
theorem d_M_gather_113 : decode (jyc Y_M_gather) 113 = .ok (.iconst 0, 1) := by decide +kernel
theorem d_M_gather_114 : decode (jyc Y_M_gather) 114 = .ok (.istore 5, 2) := by decide +kernel
theorem d_M_gather_116 : decode (jyc Y_M_gather) 116 = .ok (.iload 5, 2) := by decide +kernel
theorem d_M_gather_118 : decode (jyc Y_M_gather) 118 = .ok (.iconst 4, 1) := by decide +kernel
theorem d_M_gather_119 : decode (jyc Y_M_gather) 119 = .ok (.if_icmp .ge 42, 3) := by decide +kernel
theorem d_M_gather_122 : decode (jyc Y_M_gather) 122 = .ok (.aload_n 0, 1) := by decide +kernel
theorem d_M_gather_123 : decode (jyc Y_M_gather) 123 = .ok (.getfield 53, 3) := by decide +kernel
theorem d_M_gather_126 : decode (jyc Y_M_gather) 126 = .ok (.bipush 16, 2) := by decide +kernel
theorem d_M_gather_128 : decode (jyc Y_M_gather) 128 = .ok (.iload_n 2, 1) := by decide +kernel
theorem d_M_gather_129 : decode (jyc Y_M_gather) 129 = .ok (.imul, 1) := by decide +kernel
theorem d_M_gather_130 : decode (jyc Y_M_gather) 130 = .ok (.iconst 4, 1) := by decide +kernel
theorem d_M_gather_131 : decode (jyc Y_M_gather) 131 = .ok (.iload 4, 2) := by decide +kernel
theorem d_M_gather_133 : decode (jyc Y_M_gather) 133 = .ok (.imul, 1) := by decide +kernel
theorem d_M_gather_134 : decode (jyc Y_M_gather) 134 = .ok (.iadd, 1) := by decide +kernel
theorem d_M_gather_135 : decode (jyc Y_M_gather) 135 = .ok (.iload 5, 2) := by decide +kernel
theorem d_M_gather_137 : decode (jyc Y_M_gather) 137 = .ok (.iadd, 1) := by decide +kernel
theorem d_M_gather_138 : decode (jyc Y_M_gather) 138 = .ok (.aload_n 0, 1) := by decide +kernel
theorem d_M_gather_139 : decode (jyc Y_M_gather) 139 = .ok (.getfield 56, 3) := by decide +kernel
theorem d_M_gather_142 : decode (jyc Y_M_gather) 142 = .ok (.bipush 8, 2) := by decide +kernel
theorem d_M_gather_144 : decode (jyc Y_M_gather) 144 = .ok (.iload 4, 2) := by decide +kernel
theorem d_M_gather_146 : decode (jyc Y_M_gather) 146 = .ok (.imul, 1) := by decide +kernel
theorem d_M_gather_147 : decode (jyc Y_M_gather) 147 = .ok (.iconst 4, 1) := by decide +kernel
theorem d_M_gather_148 : decode (jyc Y_M_gather) 148 = .ok (.iadd, 1) := by decide +kernel
theorem d_M_gather_149 : decode (jyc Y_M_gather) 149 = .ok (.iload 5, 2) := by decide +kernel
theorem d_M_gather_151 : decode (jyc Y_M_gather) 151 = .ok (.iadd, 1) := by decide +kernel
theorem d_M_gather_152 : decode (jyc Y_M_gather) 152 = .ok (.laload, 1) := by decide +kernel
theorem d_M_gather_153 : decode (jyc Y_M_gather) 153 = .ok (.l2i, 1) := by decide +kernel
theorem d_M_gather_154 : decode (jyc Y_M_gather) 154 = .ok (.iastore, 1) := by decide +kernel
theorem d_M_gather_155 : decode (jyc Y_M_gather) 155 = .ok (.iinc 5 1, 3) := by decide +kernel
theorem d_M_gather_158 : decode (jyc Y_M_gather) 158 = .ok (.goto (-42), 3) := by decide +kernel
theorem d_M_gather_161 : decode (jyc Y_M_gather) 161 = .ok (.iinc 4 1, 3) := by decide +kernel
theorem d_M_gather_164 : decode (jyc Y_M_gather) 164 = .ok (.goto (-57), 3) := by decide +kernel
theorem d_M_gather_167 : decode (jyc Y_M_gather) 167 = .ok (.iinc 2 1, 3) := by decide +kernel
theorem d_M_gather_170 : decode (jyc Y_M_gather) 170 = .ok (.goto (-147), 3) := by decide +kernel
theorem d_M_gather_173 : decode (jyc Y_M_gather) 173 = .ok (.iconst 1, 1) := by decide +kernel
theorem d_M_gather_174 : decode (jyc Y_M_gather) 174 = .ok (.ireturn, 1) := by decide +kernel
theorem d_M_differs_0 : decode (jyc Y_M_differs) 0 = .ok (.aload_n 0, 1) := by decide +kernel
theorem d_M_differs_1 : decode (jyc Y_M_differs) 1 = .ok (.iload_n 1, 1) := by decide +kernel
theorem d_M_differs_2 : decode (jyc Y_M_differs) 2 = .ok (.iload_n 2, 1) := by decide +kernel
theorem d_M_differs_3 : decode (jyc Y_M_differs) 3 = .ok (.invokevirtual 132, 3) := by decide +kernel
theorem d_M_differs_6 : decode (jyc Y_M_differs) 6 = .ok (.ifCond .eq 17, 3) := by decide +kernel
theorem d_M_differs_9 : decode (jyc Y_M_differs) 9 = .ok (.aload_n 0, 1) := by decide +kernel
theorem d_M_differs_10 : decode (jyc Y_M_differs) 10 = .ok (.getfield 26, 3) := by decide +kernel
theorem d_M_differs_13 : decode (jyc Y_M_differs) 13 = .ok (.iload_n 1, 1) := by decide +kernel
theorem d_M_differs_14 : decode (jyc Y_M_differs) 14 = .ok (.iload_n 2, 1) := by decide +kernel
theorem d_M_differs_15 : decode (jyc Y_M_differs) 15 = .ok (.iload_n 3, 1) := by decide +kernel
theorem d_M_differs_16 : decode (jyc Y_M_differs) 16 = .ok (.invokestatic 129, 3) := by decide +kernel
theorem d_M_differs_19 : decode (jyc Y_M_differs) 19 = .ok (.baload, 1) := by decide +kernel
theorem d_M_differs_20 : decode (jyc Y_M_differs) 20 = .ok (.ifCond .eq 7, 3) := by decide +kernel
theorem d_M_differs_23 : decode (jyc Y_M_differs) 23 = .ok (.iconst 1, 1) := by decide +kernel
theorem d_M_differs_24 : decode (jyc Y_M_differs) 24 = .ok (.goto 4, 3) := by decide +kernel
theorem d_M_differs_27 : decode (jyc Y_M_differs) 27 = .ok (.iconst 0, 1) := by decide +kernel
theorem d_M_differs_28 : decode (jyc Y_M_differs) 28 = .ok (.istore 5, 2) := by decide +kernel
theorem d_M_differs_30 : decode (jyc Y_M_differs) 30 = .ok (.iconst 0, 1) := by decide +kernel
theorem d_M_differs_31 : decode (jyc Y_M_differs) 31 = .ok (.istore 6, 2) := by decide +kernel
theorem d_M_differs_33 : decode (jyc Y_M_differs) 33 = .ok (.iload 6, 2) := by decide +kernel
theorem d_M_differs_35 : decode (jyc Y_M_differs) 35 = .ok (.iconst 5, 1) := by decide +kernel
theorem d_M_differs_36 : decode (jyc Y_M_differs) 36 = .ok (.if_icmp .ge 48, 3) := by decide +kernel
theorem d_M_differs_39 : decode (jyc Y_M_differs) 39 = .ok (.iload 5, 2) := by decide +kernel
theorem d_M_differs_41 : decode (jyc Y_M_differs) 41 = .ok (.ifCond .ne 30, 3) := by decide +kernel
theorem d_M_differs_44 : decode (jyc Y_M_differs) 44 = .ok (.aload_n 0, 1) := by decide +kernel
theorem d_M_differs_45 : decode (jyc Y_M_differs) 45 = .ok (.getfield 23, 3) := by decide +kernel
theorem d_M_differs_48 : decode (jyc Y_M_differs) 48 = .ok (.iload_n 1, 1) := by decide +kernel
theorem d_M_differs_49 : decode (jyc Y_M_differs) 49 = .ok (.iload_n 2, 1) := by decide +kernel
theorem d_M_differs_50 : decode (jyc Y_M_differs) 50 = .ok (.iload_n 3, 1) := by decide +kernel
theorem d_M_differs_51 : decode (jyc Y_M_differs) 51 = .ok (.invokestatic 125, 3) := by decide +kernel
theorem d_M_differs_54 : decode (jyc Y_M_differs) 54 = .ok (.iload 6, 2) := by decide +kernel
theorem d_M_differs_56 : decode (jyc Y_M_differs) 56 = .ok (.iadd, 1) := by decide +kernel
theorem d_M_differs_57 : decode (jyc Y_M_differs) 57 = .ok (.iaload, 1) := by decide +kernel
theorem d_M_differs_58 : decode (jyc Y_M_differs) 58 = .ok (.aload_n 0, 1) := by decide +kernel
theorem d_M_differs_59 : decode (jyc Y_M_differs) 59 = .ok (.getfield 16, 3) := by decide +kernel
theorem d_M_differs_62 : decode (jyc Y_M_differs) 62 = .ok (.iload 4, 2) := by decide +kernel
theorem d_M_differs_64 : decode (jyc Y_M_differs) 64 = .ok (.iload 6, 2) := by decide +kernel
theorem d_M_differs_66 : decode (jyc Y_M_differs) 66 = .ok (.iadd, 1) := by decide +kernel
theorem d_M_differs_67 : decode (jyc Y_M_differs) 67 = .ok (.iaload, 1) := by decide +kernel
theorem d_M_differs_68 : decode (jyc Y_M_differs) 68 = .ok (.if_icmp .eq 7, 3) := by decide +kernel
theorem d_M_differs_71 : decode (jyc Y_M_differs) 71 = .ok (.iconst 1, 1) := by decide +kernel
theorem d_M_differs_72 : decode (jyc Y_M_differs) 72 = .ok (.goto 4, 3) := by decide +kernel
theorem d_M_differs_75 : decode (jyc Y_M_differs) 75 = .ok (.iconst 0, 1) := by decide +kernel
theorem d_M_differs_76 : decode (jyc Y_M_differs) 76 = .ok (.istore 5, 2) := by decide +kernel
theorem d_M_differs_78 : decode (jyc Y_M_differs) 78 = .ok (.iinc 6 1, 3) := by decide +kernel
theorem d_M_differs_81 : decode (jyc Y_M_differs) 81 = .ok (.goto (-48), 3) := by decide +kernel
theorem d_M_differs_84 : decode (jyc Y_M_differs) 84 = .ok (.iload 5, 2) := by decide +kernel
theorem d_M_differs_86 : decode (jyc Y_M_differs) 86 = .ok (.ireturn, 1) := by decide +kernel
theorem d_M_repair_0 : decode (jyc Y_M_repair) 0 = .ok (.aload_n 0, 1) := by decide +kernel
theorem d_M_repair_1 : decode (jyc Y_M_repair) 1 = .ok (.aload_n 0, 1) := by decide +kernel
theorem d_M_repair_2 : decode (jyc Y_M_repair) 2 = .ok (.iload_n 1, 1) := by decide +kernel
theorem d_M_repair_3 : decode (jyc Y_M_repair) 3 = .ok (.invokevirtual 118, 3) := by decide +kernel
theorem d_M_repair_6 : decode (jyc Y_M_repair) 6 = .ok (.ifCond .eq 14, 3) := by decide +kernel
theorem d_M_repair_9 : decode (jyc Y_M_repair) 9 = .ok (.iload_n 2, 1) := by decide +kernel
theorem d_M_repair_10 : decode (jyc Y_M_repair) 10 = .ok (.invokestatic 115, 3) := by decide +kernel
theorem d_M_repair_13 : decode (jyc Y_M_repair) 13 = .ok (.ifCond .eq 7, 3) := by decide +kernel
theorem d_M_repair_16 : decode (jyc Y_M_repair) 16 = .ok (.iconst 0, 1) := by decide +kernel
theorem d_M_repair_17 : decode (jyc Y_M_repair) 17 = .ok (.goto 4, 3) := by decide +kernel
theorem d_M_repair_20 : decode (jyc Y_M_repair) 20 = .ok (.iconst 1, 1) := by decide +kernel
theorem d_M_repair_21 : decode (jyc Y_M_repair) 21 = .ok (.putfield 63, 3) := by decide +kernel
theorem d_M_repair_24 : decode (jyc Y_M_repair) 24 = .ok (.aload_n 0, 1) := by decide +kernel
theorem d_M_repair_25 : decode (jyc Y_M_repair) 25 = .ok (.getfield 63, 3) := by decide +kernel
theorem d_M_repair_28 : decode (jyc Y_M_repair) 28 = .ok (.ifCond .le 5, 3) := by decide +kernel
theorem d_M_repair_31 : decode (jyc Y_M_repair) 31 = .ok (.iconst 0, 1) := by decide +kernel
theorem d_M_repair_32 : decode (jyc Y_M_repair) 32 = .ok (.ireturn, 1) := by decide +kernel
theorem d_M_repair_33 : decode (jyc Y_M_repair) 33 = .ok (.aload_n 0, 1) := by decide +kernel
theorem d_M_repair_34 : decode (jyc Y_M_repair) 34 = .ok (.aload_n 0, 1) := by decide +kernel
theorem d_M_repair_35 : decode (jyc Y_M_repair) 35 = .ok (.iload_n 1, 1) := by decide +kernel
theorem d_M_repair_36 : decode (jyc Y_M_repair) 36 = .ok (.invokevirtual 172, 3) := by decide +kernel
theorem d_M_repair_39 : decode (jyc Y_M_repair) 39 = .ok (.ifCond .eq 7, 3) := by decide +kernel
theorem d_M_repair_42 : decode (jyc Y_M_repair) 42 = .ok (.iconst 0, 1) := by decide +kernel
theorem d_M_repair_43 : decode (jyc Y_M_repair) 43 = .ok (.goto 4, 3) := by decide +kernel
theorem d_M_repair_46 : decode (jyc Y_M_repair) 46 = .ok (.iconst 2, 1) := by decide +kernel
theorem d_M_repair_47 : decode (jyc Y_M_repair) 47 = .ok (.putfield 63, 3) := by decide +kernel
theorem d_M_repair_50 : decode (jyc Y_M_repair) 50 = .ok (.aload_n 0, 1) := by decide +kernel
theorem d_M_repair_51 : decode (jyc Y_M_repair) 51 = .ok (.getfield 63, 3) := by decide +kernel
theorem d_M_repair_54 : decode (jyc Y_M_repair) 54 = .ok (.ifCond .le 5, 3) := by decide +kernel
theorem d_M_repair_57 : decode (jyc Y_M_repair) 57 = .ok (.iconst 0, 1) := by decide +kernel
theorem d_M_repair_58 : decode (jyc Y_M_repair) 58 = .ok (.ireturn, 1) := by decide +kernel
theorem d_M_repair_59 : decode (jyc Y_M_repair) 59 = .ok (.iconst 0, 1) := by decide +kernel
theorem d_M_repair_60 : decode (jyc Y_M_repair) 60 = .ok (.istore_n 3, 1) := by decide +kernel
theorem d_M_repair_61 : decode (jyc Y_M_repair) 61 = .ok (.iconst 0, 1) := by decide +kernel
theorem d_M_repair_62 : decode (jyc Y_M_repair) 62 = .ok (.istore 4, 2) := by decide +kernel
theorem d_M_repair_64 : decode (jyc Y_M_repair) 64 = .ok (.iload 4, 2) := by decide +kernel
theorem d_M_repair_66 : decode (jyc Y_M_repair) 66 = .ok (.sipush 360, 3) := by decide +kernel
theorem d_M_repair_69 : decode (jyc Y_M_repair) 69 = .ok (.if_icmp .ge 23, 3) := by decide +kernel
theorem d_M_repair_72 : decode (jyc Y_M_repair) 72 = .ok (.aload_n 0, 1) := by decide +kernel
theorem d_M_repair_73 : decode (jyc Y_M_repair) 73 = .ok (.getfield 60, 3) := by decide +kernel
theorem d_M_repair_76 : decode (jyc Y_M_repair) 76 = .ok (.iload 4, 2) := by decide +kernel
theorem d_M_repair_78 : decode (jyc Y_M_repair) 78 = .ok (.aload_n 0, 1) := by decide +kernel
theorem d_M_repair_79 : decode (jyc Y_M_repair) 79 = .ok (.getfield 16, 3) := by decide +kernel
theorem d_M_repair_82 : decode (jyc Y_M_repair) 82 = .ok (.iload 4, 2) := by decide +kernel
theorem d_M_repair_84 : decode (jyc Y_M_repair) 84 = .ok (.iaload, 1) := by decide +kernel
theorem d_M_repair_85 : decode (jyc Y_M_repair) 85 = .ok (.iastore, 1) := by decide +kernel
theorem d_M_repair_86 : decode (jyc Y_M_repair) 86 = .ok (.iinc 4 1, 3) := by decide +kernel
theorem d_M_repair_89 : decode (jyc Y_M_repair) 89 = .ok (.goto (-25), 3) := by decide +kernel
theorem d_M_repair_92 : decode (jyc Y_M_repair) 92 = .ok (.aload_n 0, 1) := by decide +kernel
theorem d_M_repair_93 : decode (jyc Y_M_repair) 93 = .ok (.iload_n 1, 1) := by decide +kernel
theorem d_M_repair_94 : decode (jyc Y_M_repair) 94 = .ok (.aload_n 0, 1) := by decide +kernel
theorem d_M_repair_95 : decode (jyc Y_M_repair) 95 = .ok (.getfield 53, 3) := by decide +kernel
theorem d_M_repair_98 : decode (jyc Y_M_repair) 98 = .ok (.invokevirtual 111, 3) := by decide +kernel
theorem d_M_repair_101 : decode (jyc Y_M_repair) 101 = .ok (.iconst 0, 1) := by decide +kernel
theorem d_M_repair_102 : decode (jyc Y_M_repair) 102 = .ok (.istore 4, 2) := by decide +kernel
theorem d_M_repair_104 : decode (jyc Y_M_repair) 104 = .ok (.iload 4, 2) := by decide +kernel
theorem d_M_repair_106 : decode (jyc Y_M_repair) 106 = .ok (.aload_n 0, 1) := by decide +kernel
theorem d_M_repair_107 : decode (jyc Y_M_repair) 107 = .ok (.iload_n 1, 1) := by decide +kernel
theorem d_M_repair_108 : decode (jyc Y_M_repair) 108 = .ok (.invokevirtual 99, 3) := by decide +kernel
theorem d_M_repair_111 : decode (jyc Y_M_repair) 111 = .ok (.if_icmp .ge 37, 3) := by decide +kernel
theorem d_M_repair_114 : decode (jyc Y_M_repair) 114 = .ok (.iload_n 3, 1) := by decide +kernel
theorem d_M_repair_115 : decode (jyc Y_M_repair) 115 = .ok (.aload_n 0, 1) := by decide +kernel
theorem d_M_repair_116 : decode (jyc Y_M_repair) 116 = .ok (.iload_n 2, 1) := by decide +kernel
theorem d_M_repair_117 : decode (jyc Y_M_repair) 117 = .ok (.iload_n 1, 1) := by decide +kernel
theorem d_M_repair_118 : decode (jyc Y_M_repair) 118 = .ok (.iload 4, 2) := by decide +kernel
theorem d_M_repair_120 : decode (jyc Y_M_repair) 120 = .ok (.iconst 5, 1) := by decide +kernel
theorem d_M_repair_121 : decode (jyc Y_M_repair) 121 = .ok (.bipush 24, 2) := by decide +kernel
theorem d_M_repair_123 : decode (jyc Y_M_repair) 123 = .ok (.iload_n 1, 1) := by decide +kernel
theorem d_M_repair_124 : decode (jyc Y_M_repair) 124 = .ok (.imul, 1) := by decide +kernel
theorem d_M_repair_125 : decode (jyc Y_M_repair) 125 = .ok (.iload 4, 2) := by decide +kernel
theorem d_M_repair_127 : decode (jyc Y_M_repair) 127 = .ok (.iadd, 1) := by decide +kernel
theorem d_M_repair_128 : decode (jyc Y_M_repair) 128 = .ok (.imul, 1) := by decide +kernel
theorem d_M_repair_129 : decode (jyc Y_M_repair) 129 = .ok (.invokevirtual 175, 3) := by decide +kernel
theorem d_M_repair_132 : decode (jyc Y_M_repair) 132 = .ok (.ifCond .eq 7, 3) := by decide +kernel
theorem d_M_repair_135 : decode (jyc Y_M_repair) 135 = .ok (.iconst 1, 1) := by decide +kernel
theorem d_M_repair_136 : decode (jyc Y_M_repair) 136 = .ok (.goto 4, 3) := by decide +kernel
theorem d_M_repair_139 : decode (jyc Y_M_repair) 139 = .ok (.iconst 0, 1) := by decide +kernel
theorem d_M_repair_140 : decode (jyc Y_M_repair) 140 = .ok (.iadd, 1) := by decide +kernel
theorem d_M_repair_141 : decode (jyc Y_M_repair) 141 = .ok (.istore_n 3, 1) := by decide +kernel
theorem d_M_repair_142 : decode (jyc Y_M_repair) 142 = .ok (.iinc 4 1, 3) := by decide +kernel
theorem d_M_repair_145 : decode (jyc Y_M_repair) 145 = .ok (.goto (-41), 3) := by decide +kernel
theorem d_M_repair_148 : decode (jyc Y_M_repair) 148 = .ok (.aload_n 0, 1) := by decide +kernel
theorem d_M_repair_149 : decode (jyc Y_M_repair) 149 = .ok (.getfield 19, 3) := by decide +kernel
theorem d_M_repair_152 : decode (jyc Y_M_repair) 152 = .ok (.iconst 3, 1) := by decide +kernel
theorem d_M_repair_153 : decode (jyc Y_M_repair) 153 = .ok (.iload_n 2, 1) := by decide +kernel
theorem d_M_repair_154 : decode (jyc Y_M_repair) 154 = .ok (.imul, 1) := by decide +kernel
theorem d_M_repair_155 : decode (jyc Y_M_repair) 155 = .ok (.iload_n 1, 1) := by decide +kernel
theorem d_M_repair_156 : decode (jyc Y_M_repair) 156 = .ok (.iadd, 1) := by decide +kernel
theorem d_M_repair_157 : decode (jyc Y_M_repair) 157 = .ok (.iconst 1, 1) := by decide +kernel
theorem d_M_repair_158 : decode (jyc Y_M_repair) 158 = .ok (.bastore, 1) := by decide +kernel
theorem d_M_repair_159 : decode (jyc Y_M_repair) 159 = .ok (.iconst 0, 1) := by decide +kernel
theorem d_M_repair_160 : decode (jyc Y_M_repair) 160 = .ok (.istore 4, 2) := by decide +kernel
theorem d_M_repair_162 : decode (jyc Y_M_repair) 162 = .ok (.iload 4, 2) := by decide +kernel
theorem d_M_repair_164 : decode (jyc Y_M_repair) 164 = .ok (.aload_n 0, 1) := by decide +kernel
theorem d_M_repair_165 : decode (jyc Y_M_repair) 165 = .ok (.iload_n 1, 1) := by decide +kernel
theorem d_M_repair_166 : decode (jyc Y_M_repair) 166 = .ok (.invokevirtual 99, 3) := by decide +kernel
theorem d_M_repair_169 : decode (jyc Y_M_repair) 169 = .ok (.if_icmp .ge 17, 3) := by decide +kernel
theorem d_M_repair_172 : decode (jyc Y_M_repair) 172 = .ok (.aload_n 0, 1) := by decide +kernel
theorem d_M_repair_173 : decode (jyc Y_M_repair) 173 = .ok (.iload_n 2, 1) := by decide +kernel
theorem d_M_repair_174 : decode (jyc Y_M_repair) 174 = .ok (.iload_n 1, 1) := by decide +kernel
theorem d_M_repair_175 : decode (jyc Y_M_repair) 175 = .ok (.iload 4, 2) := by decide +kernel
theorem d_M_repair_177 : decode (jyc Y_M_repair) 177 = .ok (.invokevirtual 121, 3) := by decide +kernel
theorem d_M_repair_180 : decode (jyc Y_M_repair) 180 = .ok (.iinc 4 1, 3) := by decide +kernel
theorem d_M_repair_183 : decode (jyc Y_M_repair) 183 = .ok (.goto (-21), 3) := by decide +kernel
theorem d_M_repair_186 : decode (jyc Y_M_repair) 186 = .ok (.iconst 0, 1) := by decide +kernel
theorem d_M_repair_187 : decode (jyc Y_M_repair) 187 = .ok (.istore 4, 2) := by decide +kernel
theorem d_M_repair_189 : decode (jyc Y_M_repair) 189 = .ok (.iload 4, 2) := by decide +kernel
theorem d_M_repair_191 : decode (jyc Y_M_repair) 191 = .ok (.sipush 360, 3) := by decide +kernel
theorem d_M_repair_194 : decode (jyc Y_M_repair) 194 = .ok (.if_icmp .ge 23, 3) := by decide +kernel
theorem d_M_repair_197 : decode (jyc Y_M_repair) 197 = .ok (.aload_n 0, 1) := by decide +kernel
theorem d_M_repair_198 : decode (jyc Y_M_repair) 198 = .ok (.getfield 16, 3) := by decide +kernel
theorem d_M_repair_201 : decode (jyc Y_M_repair) 201 = .ok (.iload 4, 2) := by decide +kernel
theorem d_M_repair_203 : decode (jyc Y_M_repair) 203 = .ok (.aload_n 0, 1) := by decide +kernel
theorem d_M_repair_204 : decode (jyc Y_M_repair) 204 = .ok (.getfield 60, 3) := by decide +kernel
theorem d_M_repair_207 : decode (jyc Y_M_repair) 207 = .ok (.iload 4, 2) := by decide +kernel
theorem d_M_repair_209 : decode (jyc Y_M_repair) 209 = .ok (.iaload, 1) := by decide +kernel
theorem d_M_repair_210 : decode (jyc Y_M_repair) 210 = .ok (.iastore, 1) := by decide +kernel
theorem d_M_repair_211 : decode (jyc Y_M_repair) 211 = .ok (.iinc 4 1, 3) := by decide +kernel
theorem d_M_repair_214 : decode (jyc Y_M_repair) 214 = .ok (.goto (-25), 3) := by decide +kernel
theorem d_M_repair_217 : decode (jyc Y_M_repair) 217 = .ok (.aload_n 0, 1) := by decide +kernel
theorem d_M_repair_218 : decode (jyc Y_M_repair) 218 = .ok (.getfield 35, 3) := by decide +kernel
theorem d_M_repair_221 : decode (jyc Y_M_repair) 221 = .ok (.iload_n 2, 1) := by decide +kernel
theorem d_M_repair_222 : decode (jyc Y_M_repair) 222 = .ok (.dup2, 1) := by decide +kernel
theorem d_M_repair_223 : decode (jyc Y_M_repair) 223 = .ok (.iaload, 1) := by decide +kernel
theorem d_M_repair_224 : decode (jyc Y_M_repair) 224 = .ok (.iload_n 3, 1) := by decide +kernel
theorem d_M_repair_225 : decode (jyc Y_M_repair) 225 = .ok (.iadd, 1) := by decide +kernel
theorem d_M_repair_226 : decode (jyc Y_M_repair) 226 = .ok (.iastore, 1) := by decide +kernel
theorem d_M_repair_227 : decode (jyc Y_M_repair) 227 = .ok (.iload_n 3, 1) := by decide +kernel
theorem d_M_repair_228 : decode (jyc Y_M_repair) 228 = .ok (.ireturn, 1) := by decide +kernel
theorem d_M_fetch_0 : decode (jyc Y_M_fetch) 0 = .ok (.aload_n 0, 1) := by decide +kernel
theorem d_M_fetch_1 : decode (jyc Y_M_fetch) 1 = .ok (.aload_n 0, 1) := by decide +kernel
theorem d_M_fetch_2 : decode (jyc Y_M_fetch) 2 = .ok (.iload_n 1, 1) := by decide +kernel
theorem d_M_fetch_3 : decode (jyc Y_M_fetch) 3 = .ok (.invokevirtual 118, 3) := by decide +kernel
theorem d_M_fetch_6 : decode (jyc Y_M_fetch) 6 = .ok (.ifCond .eq 7, 3) := by decide +kernel
theorem d_M_fetch_9 : decode (jyc Y_M_fetch) 9 = .ok (.iconst 0, 1) := by decide +kernel
theorem d_M_fetch_10 : decode (jyc Y_M_fetch) 10 = .ok (.goto 4, 3) := by decide +kernel
theorem d_M_fetch_13 : decode (jyc Y_M_fetch) 13 = .ok (.iconst 1, 1) := by decide +kernel
theorem d_M_fetch_14 : decode (jyc Y_M_fetch) 14 = .ok (.putfield 63, 3) := by decide +kernel
theorem d_M_fetch_17 : decode (jyc Y_M_fetch) 17 = .ok (.aload_n 0, 1) := by decide +kernel
theorem d_M_fetch_18 : decode (jyc Y_M_fetch) 18 = .ok (.getfield 63, 3) := by decide +kernel
theorem d_M_fetch_21 : decode (jyc Y_M_fetch) 21 = .ok (.ifCond .le 5, 3) := by decide +kernel
theorem d_M_fetch_24 : decode (jyc Y_M_fetch) 24 = .ok (.iconst 0, 1) := by decide +kernel
theorem d_M_fetch_25 : decode (jyc Y_M_fetch) 25 = .ok (.ireturn, 1) := by decide +kernel
theorem d_M_fetch_26 : decode (jyc Y_M_fetch) 26 = .ok (.aload_n 0, 1) := by decide +kernel
theorem d_M_fetch_27 : decode (jyc Y_M_fetch) 27 = .ok (.aload_n 0, 1) := by decide +kernel
theorem d_M_fetch_28 : decode (jyc Y_M_fetch) 28 = .ok (.iload_n 1, 1) := by decide +kernel
theorem d_M_fetch_29 : decode (jyc Y_M_fetch) 29 = .ok (.invokevirtual 172, 3) := by decide +kernel
theorem d_M_fetch_32 : decode (jyc Y_M_fetch) 32 = .ok (.ifCond .eq 7, 3) := by decide +kernel
theorem d_M_fetch_35 : decode (jyc Y_M_fetch) 35 = .ok (.iconst 0, 1) := by decide +kernel
theorem d_M_fetch_36 : decode (jyc Y_M_fetch) 36 = .ok (.goto 4, 3) := by decide +kernel
theorem d_M_fetch_39 : decode (jyc Y_M_fetch) 39 = .ok (.iconst 2, 1) := by decide +kernel
theorem d_M_fetch_40 : decode (jyc Y_M_fetch) 40 = .ok (.putfield 63, 3) := by decide +kernel
theorem d_M_fetch_43 : decode (jyc Y_M_fetch) 43 = .ok (.aload_n 0, 1) := by decide +kernel
theorem d_M_fetch_44 : decode (jyc Y_M_fetch) 44 = .ok (.getfield 63, 3) := by decide +kernel
theorem d_M_fetch_47 : decode (jyc Y_M_fetch) 47 = .ok (.ifCond .le 5, 3) := by decide +kernel
theorem d_M_fetch_50 : decode (jyc Y_M_fetch) 50 = .ok (.iconst 0, 1) := by decide +kernel
theorem d_M_fetch_51 : decode (jyc Y_M_fetch) 51 = .ok (.ireturn, 1) := by decide +kernel
theorem d_M_fetch_52 : decode (jyc Y_M_fetch) 52 = .ok (.aload_n 0, 1) := by decide +kernel
theorem d_M_fetch_53 : decode (jyc Y_M_fetch) 53 = .ok (.aload_n 0, 1) := by decide +kernel
theorem d_M_fetch_54 : decode (jyc Y_M_fetch) 54 = .ok (.getfield 13, 3) := by decide +kernel
theorem d_M_fetch_57 : decode (jyc Y_M_fetch) 57 = .ok (.iload_n 1, 1) := by decide +kernel
theorem d_M_fetch_58 : decode (jyc Y_M_fetch) 58 = .ok (.iaload, 1) := by decide +kernel
theorem d_M_fetch_59 : decode (jyc Y_M_fetch) 59 = .ok (.putfield 179, 3) := by decide +kernel
theorem d_M_fetch_62 : decode (jyc Y_M_fetch) 62 = .ok (.iconst 0, 1) := by decide +kernel
theorem d_M_fetch_63 : decode (jyc Y_M_fetch) 63 = .ok (.istore_n 2, 1) := by decide +kernel
theorem d_M_fetch_64 : decode (jyc Y_M_fetch) 64 = .ok (.iload_n 2, 1) := by decide +kernel
theorem d_M_fetch_65 : decode (jyc Y_M_fetch) 65 = .ok (.aload_n 0, 1) := by decide +kernel
theorem d_M_fetch_66 : decode (jyc Y_M_fetch) 66 = .ok (.getfield 179, 3) := by decide +kernel
theorem d_M_fetch_69 : decode (jyc Y_M_fetch) 69 = .ok (.if_icmp .ge 21, 3) := by decide +kernel
theorem d_M_fetch_72 : decode (jyc Y_M_fetch) 72 = .ok (.aload_n 0, 1) := by decide +kernel
theorem d_M_fetch_73 : decode (jyc Y_M_fetch) 73 = .ok (.getfield 50, 3) := by decide +kernel
theorem d_M_fetch_76 : decode (jyc Y_M_fetch) 76 = .ok (.iload_n 2, 1) := by decide +kernel
theorem d_M_fetch_77 : decode (jyc Y_M_fetch) 77 = .ok (.aload_n 0, 1) := by decide +kernel
theorem d_M_fetch_78 : decode (jyc Y_M_fetch) 78 = .ok (.getfield 53, 3) := by decide +kernel
theorem d_M_fetch_81 : decode (jyc Y_M_fetch) 81 = .ok (.iload_n 2, 1) := by decide +kernel
theorem d_M_fetch_82 : decode (jyc Y_M_fetch) 82 = .ok (.iaload, 1) := by decide +kernel
theorem d_M_fetch_83 : decode (jyc Y_M_fetch) 83 = .ok (.iastore, 1) := by decide +kernel
theorem d_M_fetch_84 : decode (jyc Y_M_fetch) 84 = .ok (.iinc 2 1, 3) := by decide +kernel
theorem d_M_fetch_87 : decode (jyc Y_M_fetch) 87 = .ok (.goto (-23), 3) := by decide +kernel
theorem d_M_fetch_90 : decode (jyc Y_M_fetch) 90 = .ok (.aload_n 0, 1) := by decide +kernel
theorem d_M_fetch_91 : decode (jyc Y_M_fetch) 91 = .ok (.getfield 179, 3) := by decide +kernel
theorem d_M_fetch_94 : decode (jyc Y_M_fetch) 94 = .ok (.ireturn, 1) := by decide +kernel
theorem d_M_fetched_0 : decode (jyc Y_M_fetched) 0 = .ok (.aload_n 0, 1) := by decide +kernel
theorem d_M_fetched_1 : decode (jyc Y_M_fetched) 1 = .ok (.iconst 0, 1) := by decide +kernel
theorem d_M_fetched_2 : decode (jyc Y_M_fetched) 2 = .ok (.putfield 63, 3) := by decide +kernel
theorem d_M_fetched_5 : decode (jyc Y_M_fetched) 5 = .ok (.iload_n 1, 1) := by decide +kernel
theorem d_M_fetched_6 : decode (jyc Y_M_fetched) 6 = .ok (.ifCond .lt 11, 3) := by decide +kernel
theorem d_M_fetched_9 : decode (jyc Y_M_fetched) 9 = .ok (.iload_n 1, 1) := by decide +kernel
theorem d_M_fetched_10 : decode (jyc Y_M_fetched) 10 = .ok (.aload_n 0, 1) := by decide +kernel
theorem d_M_fetched_11 : decode (jyc Y_M_fetched) 11 = .ok (.getfield 179, 3) := by decide +kernel
theorem d_M_fetched_14 : decode (jyc Y_M_fetched) 14 = .ok (.if_icmp .lt 7, 3) := by decide +kernel
theorem d_M_fetched_17 : decode (jyc Y_M_fetched) 17 = .ok (.iconst (-1), 1) := by decide +kernel
theorem d_M_fetched_18 : decode (jyc Y_M_fetched) 18 = .ok (.goto 9, 3) := by decide +kernel
theorem d_M_fetched_21 : decode (jyc Y_M_fetched) 21 = .ok (.aload_n 0, 1) := by decide +kernel
theorem d_M_fetched_22 : decode (jyc Y_M_fetched) 22 = .ok (.getfield 50, 3) := by decide +kernel
theorem d_M_fetched_25 : decode (jyc Y_M_fetched) 25 = .ok (.iload_n 1, 1) := by decide +kernel
theorem d_M_fetched_26 : decode (jyc Y_M_fetched) 26 = .ok (.iaload, 1) := by decide +kernel
theorem d_M_fetched_27 : decode (jyc Y_M_fetched) 27 = .ok (.ireturn, 1) := by decide +kernel
theorem d_M_made_0 : decode (jyc Y_M_made) 0 = .ok (.aload_n 0, 1) := by decide +kernel
theorem d_M_made_1 : decode (jyc Y_M_made) 1 = .ok (.aload_n 0, 1) := by decide +kernel
theorem d_M_made_2 : decode (jyc Y_M_made) 2 = .ok (.iload_n 1, 1) := by decide +kernel
theorem d_M_made_3 : decode (jyc Y_M_made) 3 = .ok (.invokevirtual 118, 3) := by decide +kernel
theorem d_M_made_6 : decode (jyc Y_M_made) 6 = .ok (.ifCond .eq 16, 3) := by decide +kernel
theorem d_M_made_9 : decode (jyc Y_M_made) 9 = .ok (.iload_n 3, 1) := by decide +kernel
theorem d_M_made_10 : decode (jyc Y_M_made) 10 = .ok (.ifCond .lt 12, 3) := by decide +kernel
theorem d_M_made_13 : decode (jyc Y_M_made) 13 = .ok (.iload_n 3, 1) := by decide +kernel
theorem d_M_made_14 : decode (jyc Y_M_made) 14 = .ok (.iconst 5, 1) := by decide +kernel
theorem d_M_made_15 : decode (jyc Y_M_made) 15 = .ok (.if_icmp .ge 7, 3) := by decide +kernel
theorem d_M_made_18 : decode (jyc Y_M_made) 18 = .ok (.iconst 0, 1) := by decide +kernel
theorem d_M_made_19 : decode (jyc Y_M_made) 19 = .ok (.goto 4, 3) := by decide +kernel
theorem d_M_made_22 : decode (jyc Y_M_made) 22 = .ok (.iconst 1, 1) := by decide +kernel
theorem d_M_made_23 : decode (jyc Y_M_made) 23 = .ok (.putfield 63, 3) := by decide +kernel
theorem d_M_made_26 : decode (jyc Y_M_made) 26 = .ok (.aload_n 0, 1) := by decide +kernel
theorem d_M_made_27 : decode (jyc Y_M_made) 27 = .ok (.getfield 63, 3) := by decide +kernel
theorem d_M_made_30 : decode (jyc Y_M_made) 30 = .ok (.ifCond .le 5, 3) := by decide +kernel
theorem d_M_made_33 : decode (jyc Y_M_made) 33 = .ok (.iconst 0, 1) := by decide +kernel
theorem d_M_made_34 : decode (jyc Y_M_made) 34 = .ok (.ireturn, 1) := by decide +kernel
theorem d_M_made_35 : decode (jyc Y_M_made) 35 = .ok (.aload_n 0, 1) := by decide +kernel
theorem d_M_made_36 : decode (jyc Y_M_made) 36 = .ok (.iload_n 2, 1) := by decide +kernel
theorem d_M_made_37 : decode (jyc Y_M_made) 37 = .ok (.ifCond .lt 12, 3) := by decide +kernel
theorem d_M_made_40 : decode (jyc Y_M_made) 40 = .ok (.iload_n 2, 1) := by decide +kernel
theorem d_M_made_41 : decode (jyc Y_M_made) 41 = .ok (.aload_n 0, 1) := by decide +kernel
theorem d_M_made_42 : decode (jyc Y_M_made) 42 = .ok (.iload_n 1, 1) := by decide +kernel
theorem d_M_made_43 : decode (jyc Y_M_made) 43 = .ok (.invokevirtual 99, 3) := by decide +kernel
theorem d_M_made_46 : decode (jyc Y_M_made) 46 = .ok (.if_icmp .lt 7, 3) := by decide +kernel
theorem d_M_made_49 : decode (jyc Y_M_made) 49 = .ok (.iconst 1, 1) := by decide +kernel
theorem d_M_made_50 : decode (jyc Y_M_made) 50 = .ok (.goto 4, 3) := by decide +kernel
theorem d_M_made_53 : decode (jyc Y_M_made) 53 = .ok (.iconst 0, 1) := by decide +kernel
theorem d_M_made_54 : decode (jyc Y_M_made) 54 = .ok (.putfield 63, 3) := by decide +kernel
theorem d_M_made_57 : decode (jyc Y_M_made) 57 = .ok (.aload_n 0, 1) := by decide +kernel
theorem d_M_made_58 : decode (jyc Y_M_made) 58 = .ok (.getfield 63, 3) := by decide +kernel
theorem d_M_made_61 : decode (jyc Y_M_made) 61 = .ok (.ifCond .le 7, 3) := by decide +kernel
theorem d_M_made_64 : decode (jyc Y_M_made) 64 = .ok (.iconst 0, 1) := by decide +kernel
theorem d_M_made_65 : decode (jyc Y_M_made) 65 = .ok (.goto 18, 3) := by decide +kernel
theorem d_M_made_68 : decode (jyc Y_M_made) 68 = .ok (.aload_n 0, 1) := by decide +kernel
theorem d_M_made_69 : decode (jyc Y_M_made) 69 = .ok (.getfield 16, 3) := by decide +kernel
theorem d_M_made_72 : decode (jyc Y_M_made) 72 = .ok (.iconst 5, 1) := by decide +kernel
theorem d_M_made_73 : decode (jyc Y_M_made) 73 = .ok (.bipush 24, 2) := by decide +kernel
theorem d_M_made_75 : decode (jyc Y_M_made) 75 = .ok (.iload_n 1, 1) := by decide +kernel
theorem d_M_made_76 : decode (jyc Y_M_made) 76 = .ok (.imul, 1) := by decide +kernel
theorem d_M_made_77 : decode (jyc Y_M_made) 77 = .ok (.iload_n 2, 1) := by decide +kernel
theorem d_M_made_78 : decode (jyc Y_M_made) 78 = .ok (.iadd, 1) := by decide +kernel
theorem d_M_made_79 : decode (jyc Y_M_made) 79 = .ok (.imul, 1) := by decide +kernel
theorem d_M_made_80 : decode (jyc Y_M_made) 80 = .ok (.iload_n 3, 1) := by decide +kernel
theorem d_M_made_81 : decode (jyc Y_M_made) 81 = .ok (.iadd, 1) := by decide +kernel
theorem d_M_made_82 : decode (jyc Y_M_made) 82 = .ok (.iaload, 1) := by decide +kernel
theorem d_M_made_83 : decode (jyc Y_M_made) 83 = .ok (.ireturn, 1) := by decide +kernel
theorem d_M_kept_0 : decode (jyc Y_M_kept) 0 = .ok (.aload_n 0, 1) := by decide +kernel
theorem d_M_kept_1 : decode (jyc Y_M_kept) 1 = .ok (.aload_n 0, 1) := by decide +kernel
theorem d_M_kept_2 : decode (jyc Y_M_kept) 2 = .ok (.iload_n 1, 1) := by decide +kernel
theorem d_M_kept_3 : decode (jyc Y_M_kept) 3 = .ok (.iload_n 2, 1) := by decide +kernel
theorem d_M_kept_4 : decode (jyc Y_M_kept) 4 = .ok (.iload_n 3, 1) := by decide +kernel
theorem d_M_kept_5 : decode (jyc Y_M_kept) 5 = .ok (.invokevirtual 136, 3) := by decide +kernel
theorem d_M_kept_8 : decode (jyc Y_M_kept) 8 = .ok (.ifCond .eq 19, 3) := by decide +kernel
theorem d_M_kept_11 : decode (jyc Y_M_kept) 11 = .ok (.iload 4, 2) := by decide +kernel
theorem d_M_kept_13 : decode (jyc Y_M_kept) 13 = .ok (.ifCond .lt 14, 3) := by decide +kernel
theorem d_M_kept_16 : decode (jyc Y_M_kept) 16 = .ok (.iload 4, 2) := by decide +kernel
theorem d_M_kept_18 : decode (jyc Y_M_kept) 18 = .ok (.bipush 6, 2) := by decide +kernel
theorem d_M_kept_20 : decode (jyc Y_M_kept) 20 = .ok (.if_icmp .ge 7, 3) := by decide +kernel
theorem d_M_kept_23 : decode (jyc Y_M_kept) 23 = .ok (.iconst 0, 1) := by decide +kernel
theorem d_M_kept_24 : decode (jyc Y_M_kept) 24 = .ok (.goto 4, 3) := by decide +kernel
theorem d_M_kept_27 : decode (jyc Y_M_kept) 27 = .ok (.iconst 1, 1) := by decide +kernel
theorem d_M_kept_28 : decode (jyc Y_M_kept) 28 = .ok (.putfield 63, 3) := by decide +kernel
theorem d_M_kept_31 : decode (jyc Y_M_kept) 31 = .ok (.aload_n 0, 1) := by decide +kernel
theorem d_M_kept_32 : decode (jyc Y_M_kept) 32 = .ok (.getfield 63, 3) := by decide +kernel
theorem d_M_kept_35 : decode (jyc Y_M_kept) 35 = .ok (.ifCond .le 5, 3) := by decide +kernel
theorem d_M_kept_38 : decode (jyc Y_M_kept) 38 = .ok (.iconst 0, 1) := by decide +kernel
theorem d_M_kept_39 : decode (jyc Y_M_kept) 39 = .ok (.ireturn, 1) := by decide +kernel
theorem d_M_kept_40 : decode (jyc Y_M_kept) 40 = .ok (.iload 4, 2) := by decide +kernel
theorem d_M_kept_42 : decode (jyc Y_M_kept) 42 = .ok (.iconst 5, 1) := by decide +kernel
theorem d_M_kept_43 : decode (jyc Y_M_kept) 43 = .ok (.if_icmp .ne 25, 3) := by decide +kernel
theorem d_M_kept_46 : decode (jyc Y_M_kept) 46 = .ok (.aload_n 0, 1) := by decide +kernel
theorem d_M_kept_47 : decode (jyc Y_M_kept) 47 = .ok (.getfield 26, 3) := by decide +kernel
theorem d_M_kept_50 : decode (jyc Y_M_kept) 50 = .ok (.iload_n 1, 1) := by decide +kernel
theorem d_M_kept_51 : decode (jyc Y_M_kept) 51 = .ok (.iload_n 2, 1) := by decide +kernel
theorem d_M_kept_52 : decode (jyc Y_M_kept) 52 = .ok (.iload_n 3, 1) := by decide +kernel
theorem d_M_kept_53 : decode (jyc Y_M_kept) 53 = .ok (.invokestatic 129, 3) := by decide +kernel
theorem d_M_kept_56 : decode (jyc Y_M_kept) 56 = .ok (.baload, 1) := by decide +kernel
theorem d_M_kept_57 : decode (jyc Y_M_kept) 57 = .ok (.ifCond .eq 7, 3) := by decide +kernel
theorem d_M_kept_60 : decode (jyc Y_M_kept) 60 = .ok (.iconst 1, 1) := by decide +kernel
theorem d_M_kept_61 : decode (jyc Y_M_kept) 61 = .ok (.goto 21, 3) := by decide +kernel
theorem d_M_kept_64 : decode (jyc Y_M_kept) 64 = .ok (.iconst 0, 1) := by decide +kernel
theorem d_M_kept_65 : decode (jyc Y_M_kept) 65 = .ok (.goto 17, 3) := by decide +kernel
theorem d_M_kept_68 : decode (jyc Y_M_kept) 68 = .ok (.aload_n 0, 1) := by decide +kernel
theorem d_M_kept_69 : decode (jyc Y_M_kept) 69 = .ok (.getfield 23, 3) := by decide +kernel
theorem d_M_kept_72 : decode (jyc Y_M_kept) 72 = .ok (.iload_n 1, 1) := by decide +kernel
theorem d_M_kept_73 : decode (jyc Y_M_kept) 73 = .ok (.iload_n 2, 1) := by decide +kernel
theorem d_M_kept_74 : decode (jyc Y_M_kept) 74 = .ok (.iload_n 3, 1) := by decide +kernel
theorem d_M_kept_75 : decode (jyc Y_M_kept) 75 = .ok (.invokestatic 125, 3) := by decide +kernel
theorem d_M_kept_78 : decode (jyc Y_M_kept) 78 = .ok (.iload 4, 2) := by decide +kernel
theorem d_M_kept_80 : decode (jyc Y_M_kept) 80 = .ok (.iadd, 1) := by decide +kernel
theorem d_M_kept_81 : decode (jyc Y_M_kept) 81 = .ok (.iaload, 1) := by decide +kernel
theorem d_M_kept_82 : decode (jyc Y_M_kept) 82 = .ok (.ireturn, 1) := by decide +kernel
theorem d_M_rota_0 : decode (jyc Y_M_rota) 0 = .ok (.aload_n 0, 1) := by decide +kernel
theorem d_M_rota_1 : decode (jyc Y_M_rota) 1 = .ok (.iconst 0, 1) := by decide +kernel
theorem d_M_rota_2 : decode (jyc Y_M_rota) 2 = .ok (.putfield 63, 3) := by decide +kernel
theorem d_M_rota_5 : decode (jyc Y_M_rota) 5 = .ok (.iconst 0, 1) := by decide +kernel
theorem d_M_rota_6 : decode (jyc Y_M_rota) 6 = .ok (.istore_n 2, 1) := by decide +kernel
theorem d_M_rota_7 : decode (jyc Y_M_rota) 7 = .ok (.iconst 0, 1) := by decide +kernel
theorem d_M_rota_8 : decode (jyc Y_M_rota) 8 = .ok (.istore_n 3, 1) := by decide +kernel
theorem d_M_rota_9 : decode (jyc Y_M_rota) 9 = .ok (.iload_n 3, 1) := by decide +kernel
theorem d_M_rota_10 : decode (jyc Y_M_rota) 10 = .ok (.bipush 12, 2) := by decide +kernel
theorem d_M_rota_12 : decode (jyc Y_M_rota) 12 = .ok (.if_icmp .ge 26, 3) := by decide +kernel
theorem d_M_rota_15 : decode (jyc Y_M_rota) 15 = .ok (.iload_n 2, 1) := by decide +kernel
theorem d_M_rota_16 : decode (jyc Y_M_rota) 16 = .ok (.aload_n 0, 1) := by decide +kernel
theorem d_M_rota_17 : decode (jyc Y_M_rota) 17 = .ok (.getfield 19, 3) := by decide +kernel
theorem d_M_rota_20 : decode (jyc Y_M_rota) 20 = .ok (.iload_n 3, 1) := by decide +kernel
theorem d_M_rota_21 : decode (jyc Y_M_rota) 21 = .ok (.baload, 1) := by decide +kernel
theorem d_M_rota_22 : decode (jyc Y_M_rota) 22 = .ok (.ifCond .eq 7, 3) := by decide +kernel
theorem d_M_rota_25 : decode (jyc Y_M_rota) 25 = .ok (.iconst 1, 1) := by decide +kernel
theorem d_M_rota_26 : decode (jyc Y_M_rota) 26 = .ok (.goto 4, 3) := by decide +kernel
theorem d_M_rota_29 : decode (jyc Y_M_rota) 29 = .ok (.iconst 0, 1) := by decide +kernel
theorem d_M_rota_30 : decode (jyc Y_M_rota) 30 = .ok (.iadd, 1) := by decide +kernel
theorem d_M_rota_31 : decode (jyc Y_M_rota) 31 = .ok (.istore_n 2, 1) := by decide +kernel
theorem d_M_rota_32 : decode (jyc Y_M_rota) 32 = .ok (.iinc 3 1, 3) := by decide +kernel
theorem d_M_rota_35 : decode (jyc Y_M_rota) 35 = .ok (.goto (-26), 3) := by decide +kernel
theorem d_M_rota_38 : decode (jyc Y_M_rota) 38 = .ok (.iload_n 1, 1) := by decide +kernel
theorem d_M_rota_39 : decode (jyc Y_M_rota) 39 = .ok (.ifCond .lt 7, 3) := by decide +kernel
theorem d_M_rota_42 : decode (jyc Y_M_rota) 42 = .ok (.iload_n 2, 1) := by decide +kernel
theorem d_M_rota_43 : decode (jyc Y_M_rota) 43 = .ok (.ifCond .ne 5, 3) := by decide +kernel
theorem d_M_rota_46 : decode (jyc Y_M_rota) 46 = .ok (.iconst (-1), 1) := by decide +kernel
theorem d_M_rota_47 : decode (jyc Y_M_rota) 47 = .ok (.ireturn, 1) := by decide +kernel
theorem d_M_rota_48 : decode (jyc Y_M_rota) 48 = .ok (.iload_n 1, 1) := by decide +kernel
theorem d_M_rota_49 : decode (jyc Y_M_rota) 49 = .ok (.iload_n 2, 1) := by decide +kernel
theorem d_M_rota_50 : decode (jyc Y_M_rota) 50 = .ok (.irem, 1) := by decide +kernel
theorem d_M_rota_51 : decode (jyc Y_M_rota) 51 = .ok (.istore_n 3, 1) := by decide +kernel
theorem d_M_rota_52 : decode (jyc Y_M_rota) 52 = .ok (.iconst 0, 1) := by decide +kernel
theorem d_M_rota_53 : decode (jyc Y_M_rota) 53 = .ok (.istore 4, 2) := by decide +kernel
theorem d_M_rota_55 : decode (jyc Y_M_rota) 55 = .ok (.iload 4, 2) := by decide +kernel
theorem d_M_rota_57 : decode (jyc Y_M_rota) 57 = .ok (.iconst 3, 1) := by decide +kernel
theorem d_M_rota_58 : decode (jyc Y_M_rota) 58 = .ok (.if_icmp .ge 75, 3) := by decide +kernel
theorem d_M_rota_61 : decode (jyc Y_M_rota) 61 = .ok (.iconst 0, 1) := by decide +kernel
theorem d_M_rota_62 : decode (jyc Y_M_rota) 62 = .ok (.istore 5, 2) := by decide +kernel
theorem d_M_rota_64 : decode (jyc Y_M_rota) 64 = .ok (.iload 5, 2) := by decide +kernel
theorem d_M_rota_66 : decode (jyc Y_M_rota) 66 = .ok (.iconst 4, 1) := by decide +kernel
theorem d_M_rota_67 : decode (jyc Y_M_rota) 67 = .ok (.if_icmp .ge 60, 3) := by decide +kernel
theorem d_M_rota_70 : decode (jyc Y_M_rota) 70 = .ok (.aload_n 0, 1) := by decide +kernel
theorem d_M_rota_71 : decode (jyc Y_M_rota) 71 = .ok (.getfield 19, 3) := by decide +kernel
theorem d_M_rota_74 : decode (jyc Y_M_rota) 74 = .ok (.iconst 3, 1) := by decide +kernel
theorem d_M_rota_75 : decode (jyc Y_M_rota) 75 = .ok (.iload 5, 2) := by decide +kernel
theorem d_M_rota_77 : decode (jyc Y_M_rota) 77 = .ok (.imul, 1) := by decide +kernel
theorem d_M_rota_78 : decode (jyc Y_M_rota) 78 = .ok (.iload 4, 2) := by decide +kernel
theorem d_M_rota_80 : decode (jyc Y_M_rota) 80 = .ok (.iadd, 1) := by decide +kernel
theorem d_M_rota_81 : decode (jyc Y_M_rota) 81 = .ok (.baload, 1) := by decide +kernel
theorem d_M_rota_82 : decode (jyc Y_M_rota) 82 = .ok (.ifCond .eq 16, 3) := by decide +kernel
theorem d_M_rota_85 : decode (jyc Y_M_rota) 85 = .ok (.iload_n 3, 1) := by decide +kernel
theorem d_M_rota_86 : decode (jyc Y_M_rota) 86 = .ok (.ifCond .ne 12, 3) := by decide +kernel
theorem d_M_rota_89 : decode (jyc Y_M_rota) 89 = .ok (.bipush 8, 2) := by decide +kernel
theorem d_M_rota_91 : decode (jyc Y_M_rota) 91 = .ok (.iload 4, 2) := by decide +kernel
theorem d_M_rota_93 : decode (jyc Y_M_rota) 93 = .ok (.imul, 1) := by decide +kernel
theorem d_M_rota_94 : decode (jyc Y_M_rota) 94 = .ok (.iload 5, 2) := by decide +kernel
theorem d_M_rota_96 : decode (jyc Y_M_rota) 96 = .ok (.iadd, 1) := by decide +kernel
theorem d_M_rota_97 : decode (jyc Y_M_rota) 97 = .ok (.ireturn, 1) := by decide +kernel
theorem d_M_rota_98 : decode (jyc Y_M_rota) 98 = .ok (.iload_n 3, 1) := by decide +kernel
theorem d_M_rota_99 : decode (jyc Y_M_rota) 99 = .ok (.aload_n 0, 1) := by decide +kernel
theorem d_M_rota_100 : decode (jyc Y_M_rota) 100 = .ok (.getfield 19, 3) := by decide +kernel
theorem d_M_rota_103 : decode (jyc Y_M_rota) 103 = .ok (.iconst 3, 1) := by decide +kernel
theorem d_M_rota_104 : decode (jyc Y_M_rota) 104 = .ok (.iload 5, 2) := by decide +kernel
theorem d_M_rota_106 : decode (jyc Y_M_rota) 106 = .ok (.imul, 1) := by decide +kernel
theorem d_M_rota_107 : decode (jyc Y_M_rota) 107 = .ok (.iload 4, 2) := by decide +kernel
theorem d_M_rota_109 : decode (jyc Y_M_rota) 109 = .ok (.iadd, 1) := by decide +kernel
theorem d_M_rota_110 : decode (jyc Y_M_rota) 110 = .ok (.baload, 1) := by decide +kernel
theorem d_M_rota_111 : decode (jyc Y_M_rota) 111 = .ok (.ifCond .eq 7, 3) := by decide +kernel
theorem d_M_rota_114 : decode (jyc Y_M_rota) 114 = .ok (.iconst 1, 1) := by decide +kernel
theorem d_M_rota_115 : decode (jyc Y_M_rota) 115 = .ok (.goto 4, 3) := by decide +kernel
theorem d_M_rota_118 : decode (jyc Y_M_rota) 118 = .ok (.iconst 0, 1) := by decide +kernel
theorem d_M_rota_119 : decode (jyc Y_M_rota) 119 = .ok (.isub, 1) := by decide +kernel
theorem d_M_rota_120 : decode (jyc Y_M_rota) 120 = .ok (.istore_n 3, 1) := by decide +kernel
theorem d_M_rota_121 : decode (jyc Y_M_rota) 121 = .ok (.iinc 5 1, 3) := by decide +kernel
theorem d_M_rota_124 : decode (jyc Y_M_rota) 124 = .ok (.goto (-60), 3) := by decide +kernel
theorem d_M_rota_127 : decode (jyc Y_M_rota) 127 = .ok (.iinc 4 1, 3) := by decide +kernel
theorem d_M_rota_130 : decode (jyc Y_M_rota) 130 = .ok (.goto (-75), 3) := by decide +kernel
theorem d_M_rota_133 : decode (jyc Y_M_rota) 133 = .ok (.iconst (-1), 1) := by decide +kernel
theorem d_M_rota_134 : decode (jyc Y_M_rota) 134 = .ok (.ireturn, 1) := by decide +kernel
theorem d_M_score_0 : decode (jyc Y_M_score) 0 = .ok (.aload_n 0, 1) := by decide +kernel
theorem d_M_score_1 : decode (jyc Y_M_score) 1 = .ok (.iconst 0, 1) := by decide +kernel
theorem d_M_score_2 : decode (jyc Y_M_score) 2 = .ok (.putfield 63, 3) := by decide +kernel
theorem d_M_score_5 : decode (jyc Y_M_score) 5 = .ok (.iload_n 1, 1) := by decide +kernel
theorem d_M_score_6 : decode (jyc Y_M_score) 6 = .ok (.invokestatic 115, 3) := by decide +kernel
theorem d_M_score_9 : decode (jyc Y_M_score) 9 = .ok (.ifCond .eq 46, 3) := by decide +kernel
theorem d_M_score_12 : decode (jyc Y_M_score) 12 = .ok (.iload_n 2, 1) := by decide +kernel
theorem d_M_score_13 : decode (jyc Y_M_score) 13 = .ok (.ifCond .ne 12, 3) := by decide +kernel
theorem d_M_score_16 : decode (jyc Y_M_score) 16 = .ok (.aload_n 0, 1) := by decide +kernel
theorem d_M_score_17 : decode (jyc Y_M_score) 17 = .ok (.getfield 29, 3) := by decide +kernel
theorem d_M_score_20 : decode (jyc Y_M_score) 20 = .ok (.iload_n 1, 1) := by decide +kernel
theorem d_M_score_21 : decode (jyc Y_M_score) 21 = .ok (.iaload, 1) := by decide +kernel
theorem d_M_score_22 : decode (jyc Y_M_score) 22 = .ok (.goto 32, 3) := by decide +kernel
theorem d_M_score_25 : decode (jyc Y_M_score) 25 = .ok (.iload_n 2, 1) := by decide +kernel
theorem d_M_score_26 : decode (jyc Y_M_score) 26 = .ok (.iconst 1, 1) := by decide +kernel
theorem d_M_score_27 : decode (jyc Y_M_score) 27 = .ok (.if_icmp .ne 12, 3) := by decide +kernel
theorem d_M_score_30 : decode (jyc Y_M_score) 30 = .ok (.aload_n 0, 1) := by decide +kernel
theorem d_M_score_31 : decode (jyc Y_M_score) 31 = .ok (.getfield 32, 3) := by decide +kernel
theorem d_M_score_34 : decode (jyc Y_M_score) 34 = .ok (.iload_n 1, 1) := by decide +kernel
theorem d_M_score_35 : decode (jyc Y_M_score) 35 = .ok (.iaload, 1) := by decide +kernel
theorem d_M_score_36 : decode (jyc Y_M_score) 36 = .ok (.goto 18, 3) := by decide +kernel
theorem d_M_score_39 : decode (jyc Y_M_score) 39 = .ok (.iload_n 2, 1) := by decide +kernel
theorem d_M_score_40 : decode (jyc Y_M_score) 40 = .ok (.iconst 2, 1) := by decide +kernel
theorem d_M_score_41 : decode (jyc Y_M_score) 41 = .ok (.if_icmp .ne 12, 3) := by decide +kernel
theorem d_M_score_44 : decode (jyc Y_M_score) 44 = .ok (.aload_n 0, 1) := by decide +kernel
theorem d_M_score_45 : decode (jyc Y_M_score) 45 = .ok (.getfield 35, 3) := by decide +kernel
theorem d_M_score_48 : decode (jyc Y_M_score) 48 = .ok (.iload_n 1, 1) := by decide +kernel
theorem d_M_score_49 : decode (jyc Y_M_score) 49 = .ok (.iaload, 1) := by decide +kernel
theorem d_M_score_50 : decode (jyc Y_M_score) 50 = .ok (.goto 4, 3) := by decide +kernel
theorem d_M_score_53 : decode (jyc Y_M_score) 53 = .ok (.iconst (-1), 1) := by decide +kernel
theorem d_M_score_54 : decode (jyc Y_M_score) 54 = .ok (.ireturn, 1) := by decide +kernel
theorem d_M_score_55 : decode (jyc Y_M_score) 55 = .ok (.iconst (-1), 1) := by decide +kernel
theorem d_M_score_56 : decode (jyc Y_M_score) 56 = .ok (.iload_n 1, 1) := by decide +kernel
theorem d_M_score_57 : decode (jyc Y_M_score) 57 = .ok (.isub, 1) := by decide +kernel
theorem d_M_score_58 : decode (jyc Y_M_score) 58 = .ok (.istore_n 3, 1) := by decide +kernel
theorem d_M_score_59 : decode (jyc Y_M_score) 59 = .ok (.aload_n 0, 1) := by decide +kernel
theorem d_M_score_60 : decode (jyc Y_M_score) 60 = .ok (.iload_n 3, 1) := by decide +kernel
theorem d_M_score_61 : decode (jyc Y_M_score) 61 = .ok (.invokevirtual 118, 3) := by decide +kernel
theorem d_M_score_64 : decode (jyc Y_M_score) 64 = .ok (.ifCond .eq 12, 3) := by decide +kernel
theorem d_M_score_67 : decode (jyc Y_M_score) 67 = .ok (.iload_n 2, 1) := by decide +kernel
theorem d_M_score_68 : decode (jyc Y_M_score) 68 = .ok (.ifCond .lt 8, 3) := by decide +kernel
theorem d_M_score_71 : decode (jyc Y_M_score) 71 = .ok (.iload_n 2, 1) := by decide +kernel
theorem d_M_score_72 : decode (jyc Y_M_score) 72 = .ok (.iconst 1, 1) := by decide +kernel
theorem d_M_score_73 : decode (jyc Y_M_score) 73 = .ok (.if_icmp .le 7, 3) := by decide +kernel
theorem d_M_score_76 : decode (jyc Y_M_score) 76 = .ok (.iconst (-1), 1) := by decide +kernel
theorem d_M_score_77 : decode (jyc Y_M_score) 77 = .ok (.goto 45, 3) := by decide +kernel
theorem d_M_score_80 : decode (jyc Y_M_score) 80 = .ok (.iload_n 2, 1) := by decide +kernel
theorem d_M_score_81 : decode (jyc Y_M_score) 81 = .ok (.ifCond .ne 24, 3) := by decide +kernel
theorem d_M_score_84 : decode (jyc Y_M_score) 84 = .ok (.aload_n 0, 1) := by decide +kernel
theorem d_M_score_85 : decode (jyc Y_M_score) 85 = .ok (.getfield 13, 3) := by decide +kernel
theorem d_M_score_88 : decode (jyc Y_M_score) 88 = .ok (.aload_n 0, 1) := by decide +kernel
theorem d_M_score_89 : decode (jyc Y_M_score) 89 = .ok (.iload_n 3, 1) := by decide +kernel
theorem d_M_score_90 : decode (jyc Y_M_score) 90 = .ok (.invokevirtual 118, 3) := by decide +kernel
theorem d_M_score_93 : decode (jyc Y_M_score) 93 = .ok (.ifCond .eq 7, 3) := by decide +kernel
theorem d_M_score_96 : decode (jyc Y_M_score) 96 = .ok (.iload_n 3, 1) := by decide +kernel
theorem d_M_score_97 : decode (jyc Y_M_score) 97 = .ok (.goto 4, 3) := by decide +kernel
theorem d_M_score_100 : decode (jyc Y_M_score) 100 = .ok (.iconst 0, 1) := by decide +kernel
theorem d_M_score_101 : decode (jyc Y_M_score) 101 = .ok (.iaload, 1) := by decide +kernel
theorem d_M_score_102 : decode (jyc Y_M_score) 102 = .ok (.goto 20, 3) := by decide +kernel
theorem d_M_score_105 : decode (jyc Y_M_score) 105 = .ok (.aload_n 0, 1) := by decide +kernel
theorem d_M_score_106 : decode (jyc Y_M_score) 106 = .ok (.aload_n 0, 1) := by decide +kernel
theorem d_M_score_107 : decode (jyc Y_M_score) 107 = .ok (.iload_n 3, 1) := by decide +kernel
theorem d_M_score_108 : decode (jyc Y_M_score) 108 = .ok (.invokevirtual 118, 3) := by decide +kernel
theorem d_M_score_111 : decode (jyc Y_M_score) 111 = .ok (.ifCond .eq 7, 3) := by decide +kernel
theorem d_M_score_114 : decode (jyc Y_M_score) 114 = .ok (.iload_n 3, 1) := by decide +kernel
theorem d_M_score_115 : decode (jyc Y_M_score) 115 = .ok (.goto 4, 3) := by decide +kernel
theorem d_M_score_118 : decode (jyc Y_M_score) 118 = .ok (.iconst 0, 1) := by decide +kernel
theorem d_M_score_119 : decode (jyc Y_M_score) 119 = .ok (.invokevirtual 99, 3) := by decide +kernel
theorem d_M_score_122 : decode (jyc Y_M_score) 122 = .ok (.ireturn, 1) := by decide +kernel
theorem d_C_init_0 : decode (jyc Y_C_init) 0 = .ok (.aload_n 0, 1) := by decide +kernel
theorem d_C_init_1 : decode (jyc Y_C_init) 1 = .ok (.invokespecial 3, 3) := by decide +kernel
theorem d_C_init_4 : decode (jyc Y_C_init) 4 = .ok (.aload_n 0, 1) := by decide +kernel
theorem d_C_init_5 : decode (jyc Y_C_init) 5 = .ok (.bipush 24, 2) := by decide +kernel
theorem d_C_init_7 : decode (jyc Y_C_init) 7 = .ok (.newarray .int, 2) := by decide +kernel
theorem d_C_init_9 : decode (jyc Y_C_init) 9 = .ok (.putfield 9, 3) := by decide +kernel
theorem d_C_init_12 : decode (jyc Y_C_init) 12 = .ok (.aload_n 0, 1) := by decide +kernel
theorem d_C_init_13 : decode (jyc Y_C_init) 13 = .ok (.bipush 24, 2) := by decide +kernel
theorem d_C_init_15 : decode (jyc Y_C_init) 15 = .ok (.newarray .int, 2) := by decide +kernel
theorem d_C_init_17 : decode (jyc Y_C_init) 17 = .ok (.putfield 15, 3) := by decide +kernel
theorem d_C_init_20 : decode (jyc Y_C_init) 20 = .ok (.aload_n 0, 1) := by decide +kernel
theorem d_C_init_21 : decode (jyc Y_C_init) 21 = .ok (.iconst 5, 1) := by decide +kernel
theorem d_C_init_22 : decode (jyc Y_C_init) 22 = .ok (.newarray .int, 2) := by decide +kernel
theorem d_C_init_24 : decode (jyc Y_C_init) 24 = .ok (.putfield 18, 3) := by decide +kernel
theorem d_C_init_27 : decode (jyc Y_C_init) 27 = .ok (.aload_n 0, 1) := by decide +kernel
theorem d_C_init_28 : decode (jyc Y_C_init) 28 = .ok (.bipush 24, 2) := by decide +kernel
theorem d_C_init_30 : decode (jyc Y_C_init) 30 = .ok (.newarray .boolean, 2) := by decide +kernel
theorem d_C_init_32 : decode (jyc Y_C_init) 32 = .ok (.putfield 21, 3) := by decide +kernel
theorem d_C_init_35 : decode (jyc Y_C_init) 35 = .ok (.return_, 1) := by decide +kernel
theorem d_C_pose_0 : decode (jyc Y_C_pose) 0 = .ok (.aload_n 0, 1) := by decide +kernel
theorem d_C_pose_1 : decode (jyc Y_C_pose) 1 = .ok (.iconst 1, 1) := by decide +kernel
theorem d_C_pose_2 : decode (jyc Y_C_pose) 2 = .ok (.putfield 25, 3) := by decide +kernel
theorem d_C_pose_5 : decode (jyc Y_C_pose) 5 = .ok (.aload_n 0, 1) := by decide +kernel
theorem d_C_pose_6 : decode (jyc Y_C_pose) 6 = .ok (.iload_n 1, 1) := by decide +kernel
theorem d_C_pose_7 : decode (jyc Y_C_pose) 7 = .ok (.putfield 29, 3) := by decide +kernel
theorem d_C_pose_10 : decode (jyc Y_C_pose) 10 = .ok (.aload_n 0, 1) := by decide +kernel
theorem d_C_pose_11 : decode (jyc Y_C_pose) 11 = .ok (.iload_n 2, 1) := by decide +kernel
theorem d_C_pose_12 : decode (jyc Y_C_pose) 12 = .ok (.putfield 33, 3) := by decide +kernel
theorem d_C_pose_15 : decode (jyc Y_C_pose) 15 = .ok (.return_, 1) := by decide +kernel
theorem d_C_draw_0 : decode (jyc Y_C_draw) 0 = .ok (.iconst 0, 1) := by decide +kernel
theorem d_C_draw_1 : decode (jyc Y_C_draw) 1 = .ok (.istore 4, 2) := by decide +kernel
theorem d_C_draw_3 : decode (jyc Y_C_draw) 3 = .ok (.iload 4, 2) := by decide +kernel
theorem d_C_draw_5 : decode (jyc Y_C_draw) 5 = .ok (.iload_n 3, 1) := by decide +kernel
theorem d_C_draw_6 : decode (jyc Y_C_draw) 6 = .ok (.if_icmp .ge 17, 3) := by decide +kernel
theorem d_C_draw_9 : decode (jyc Y_C_draw) 9 = .ok (.aload_n 0, 1) := by decide +kernel
theorem d_C_draw_10 : decode (jyc Y_C_draw) 10 = .ok (.getfield 21, 3) := by decide +kernel
theorem d_C_draw_13 : decode (jyc Y_C_draw) 13 = .ok (.iload 4, 2) := by decide +kernel
theorem d_C_draw_15 : decode (jyc Y_C_draw) 15 = .ok (.iconst 0, 1) := by decide +kernel
theorem d_C_draw_16 : decode (jyc Y_C_draw) 16 = .ok (.bastore, 1) := by decide +kernel
theorem d_C_draw_17 : decode (jyc Y_C_draw) 17 = .ok (.iinc 4 1, 3) := by decide +kernel
theorem d_C_draw_20 : decode (jyc Y_C_draw) 20 = .ok (.goto (-17), 3) := by decide +kernel
theorem d_C_draw_23 : decode (jyc Y_C_draw) 23 = .ok (.aload_n 0, 1) := by decide +kernel
theorem d_C_draw_24 : decode (jyc Y_C_draw) 24 = .ok (.iload_n 2, 1) := by decide +kernel
theorem d_C_draw_25 : decode (jyc Y_C_draw) 25 = .ok (.putfield 36, 3) := by decide +kernel
theorem d_C_draw_28 : decode (jyc Y_C_draw) 28 = .ok (.iload_n 1, 1) := by decide +kernel
theorem d_C_draw_29 : decode (jyc Y_C_draw) 29 = .ok (.istore 4, 2) := by decide +kernel
theorem d_C_draw_31 : decode (jyc Y_C_draw) 31 = .ok (.iconst 0, 1) := by decide +kernel
theorem d_C_draw_32 : decode (jyc Y_C_draw) 32 = .ok (.istore 5, 2) := by decide +kernel
theorem d_C_draw_34 : decode (jyc Y_C_draw) 34 = .ok (.iload 5, 2) := by decide +kernel
theorem d_C_draw_36 : decode (jyc Y_C_draw) 36 = .ok (.iload_n 2, 1) := by decide +kernel
theorem d_C_draw_37 : decode (jyc Y_C_draw) 37 = .ok (.if_icmp .ge 71, 3) := by decide +kernel
theorem d_C_draw_40 : decode (jyc Y_C_draw) 40 = .ok (.iload 4, 2) := by decide +kernel
theorem d_C_draw_42 : decode (jyc Y_C_draw) 42 = .ok (.invokestatic 39, 3) := by decide +kernel
theorem d_C_draw_45 : decode (jyc Y_C_draw) 45 = .ok (.istore 4, 2) := by decide +kernel
theorem d_C_draw_47 : decode (jyc Y_C_draw) 47 = .ok (.aload_n 0, 1) := by decide +kernel
theorem d_C_draw_48 : decode (jyc Y_C_draw) 48 = .ok (.getfield 9, 3) := by decide +kernel
theorem d_C_draw_51 : decode (jyc Y_C_draw) 51 = .ok (.iload 5, 2) := by decide +kernel
theorem d_C_draw_53 : decode (jyc Y_C_draw) 53 = .ok (.aload_n 0, 1) := by decide +kernel
theorem d_C_draw_54 : decode (jyc Y_C_draw) 54 = .ok (.iload 4, 2) := by decide +kernel
theorem d_C_draw_56 : decode (jyc Y_C_draw) 56 = .ok (.bipush 16, 2) := by decide +kernel
theorem d_C_draw_58 : decode (jyc Y_C_draw) 58 = .ok (.iushr, 1) := by decide +kernel
theorem d_C_draw_59 : decode (jyc Y_C_draw) 59 = .ok (.iload_n 3, 1) := by decide +kernel
theorem d_C_draw_60 : decode (jyc Y_C_draw) 60 = .ok (.irem, 1) := by decide +kernel
theorem d_C_draw_61 : decode (jyc Y_C_draw) 61 = .ok (.iload_n 3, 1) := by decide +kernel
theorem d_C_draw_62 : decode (jyc Y_C_draw) 62 = .ok (.invokevirtual 43, 3) := by decide +kernel
theorem d_C_draw_65 : decode (jyc Y_C_draw) 65 = .ok (.iastore, 1) := by decide +kernel
theorem d_C_draw_66 : decode (jyc Y_C_draw) 66 = .ok (.aload_n 0, 1) := by decide +kernel
theorem d_C_draw_67 : decode (jyc Y_C_draw) 67 = .ok (.getfield 21, 3) := by decide +kernel
theorem d_C_draw_70 : decode (jyc Y_C_draw) 70 = .ok (.aload_n 0, 1) := by decide +kernel
theorem d_C_draw_71 : decode (jyc Y_C_draw) 71 = .ok (.getfield 9, 3) := by decide +kernel
theorem d_C_draw_74 : decode (jyc Y_C_draw) 74 = .ok (.iload 5, 2) := by decide +kernel
theorem d_C_draw_76 : decode (jyc Y_C_draw) 76 = .ok (.iaload, 1) := by decide +kernel
theorem d_C_draw_77 : decode (jyc Y_C_draw) 77 = .ok (.iconst 1, 1) := by decide +kernel
theorem d_C_draw_78 : decode (jyc Y_C_draw) 78 = .ok (.bastore, 1) := by decide +kernel
theorem d_C_draw_79 : decode (jyc Y_C_draw) 79 = .ok (.iload 4, 2) := by decide +kernel
theorem d_C_draw_81 : decode (jyc Y_C_draw) 81 = .ok (.invokestatic 39, 3) := by decide +kernel
theorem d_C_draw_84 : decode (jyc Y_C_draw) 84 = .ok (.istore 4, 2) := by decide +kernel
theorem d_C_draw_86 : decode (jyc Y_C_draw) 86 = .ok (.aload_n 0, 1) := by decide +kernel
theorem d_C_draw_87 : decode (jyc Y_C_draw) 87 = .ok (.getfield 15, 3) := by decide +kernel
theorem d_C_draw_90 : decode (jyc Y_C_draw) 90 = .ok (.iload 5, 2) := by decide +kernel
theorem d_C_draw_92 : decode (jyc Y_C_draw) 92 = .ok (.iconst 1, 1) := by decide +kernel
theorem d_C_draw_93 : decode (jyc Y_C_draw) 93 = .ok (.iload 4, 2) := by decide +kernel
theorem d_C_draw_95 : decode (jyc Y_C_draw) 95 = .ok (.iconst 1, 1) := by decide +kernel
theorem d_C_draw_96 : decode (jyc Y_C_draw) 96 = .ok (.iushr, 1) := by decide +kernel
theorem d_C_draw_97 : decode (jyc Y_C_draw) 97 = .ok (.ldc 49, 2) := by decide +kernel
theorem d_C_draw_99 : decode (jyc Y_C_draw) 99 = .ok (.irem, 1) := by decide +kernel
theorem d_C_draw_100 : decode (jyc Y_C_draw) 100 = .ok (.iadd, 1) := by decide +kernel
theorem d_C_draw_101 : decode (jyc Y_C_draw) 101 = .ok (.iastore, 1) := by decide +kernel
theorem d_C_draw_102 : decode (jyc Y_C_draw) 102 = .ok (.iinc 5 1, 3) := by decide +kernel
theorem d_C_draw_105 : decode (jyc Y_C_draw) 105 = .ok (.goto (-71), 3) := by decide +kernel
theorem d_C_draw_108 : decode (jyc Y_C_draw) 108 = .ok (.return_, 1) := by decide +kernel
theorem d_C_step_0 : decode (jyc Y_C_step) 0 = .ok (.iload_n 0, 1) := by decide +kernel
theorem d_C_step_1 : decode (jyc Y_C_step) 1 = .ok (.ldc 50, 2) := by decide +kernel
theorem d_C_step_3 : decode (jyc Y_C_step) 3 = .ok (.imul, 1) := by decide +kernel
theorem d_C_step_4 : decode (jyc Y_C_step) 4 = .ok (.sipush 12345, 3) := by decide +kernel
theorem d_C_step_7 : decode (jyc Y_C_step) 7 = .ok (.iadd, 1) := by decide +kernel
theorem d_C_step_8 : decode (jyc Y_C_step) 8 = .ok (.ireturn, 1) := by decide +kernel
theorem d_C_nextUndrawn_0 : decode (jyc Y_C_nextUndrawn) 0 = .ok (.iload_n 1, 1) := by decide +kernel
theorem d_C_nextUndrawn_1 : decode (jyc Y_C_nextUndrawn) 1 = .ok (.istore_n 3, 1) := by decide +kernel
theorem d_C_nextUndrawn_2 : decode (jyc Y_C_nextUndrawn) 2 = .ok (.iconst 0, 1) := by decide +kernel
theorem d_C_nextUndrawn_3 : decode (jyc Y_C_nextUndrawn) 3 = .ok (.istore 4, 2) := by decide +kernel
theorem d_C_nextUndrawn_5 : decode (jyc Y_C_nextUndrawn) 5 = .ok (.iload 4, 2) := by decide +kernel
theorem d_C_nextUndrawn_7 : decode (jyc Y_C_nextUndrawn) 7 = .ok (.iload_n 2, 1) := by decide +kernel
theorem d_C_nextUndrawn_8 : decode (jyc Y_C_nextUndrawn) 8 = .ok (.if_icmp .ge 33, 3) := by decide +kernel
theorem d_C_nextUndrawn_11 : decode (jyc Y_C_nextUndrawn) 11 = .ok (.aload_n 0, 1) := by decide +kernel
theorem d_C_nextUndrawn_12 : decode (jyc Y_C_nextUndrawn) 12 = .ok (.getfield 21, 3) := by decide +kernel
theorem d_C_nextUndrawn_15 : decode (jyc Y_C_nextUndrawn) 15 = .ok (.iload_n 3, 1) := by decide +kernel
theorem d_C_nextUndrawn_16 : decode (jyc Y_C_nextUndrawn) 16 = .ok (.baload, 1) := by decide +kernel
theorem d_C_nextUndrawn_17 : decode (jyc Y_C_nextUndrawn) 17 = .ok (.ifCond .eq 24, 3) := by decide +kernel
theorem d_C_nextUndrawn_20 : decode (jyc Y_C_nextUndrawn) 20 = .ok (.iload_n 3, 1) := by decide +kernel
theorem d_C_nextUndrawn_21 : decode (jyc Y_C_nextUndrawn) 21 = .ok (.iconst 1, 1) := by decide +kernel
theorem d_C_nextUndrawn_22 : decode (jyc Y_C_nextUndrawn) 22 = .ok (.iadd, 1) := by decide +kernel
theorem d_C_nextUndrawn_23 : decode (jyc Y_C_nextUndrawn) 23 = .ok (.iload_n 2, 1) := by decide +kernel
theorem d_C_nextUndrawn_24 : decode (jyc Y_C_nextUndrawn) 24 = .ok (.if_icmp .ge 9, 3) := by decide +kernel
theorem d_C_nextUndrawn_27 : decode (jyc Y_C_nextUndrawn) 27 = .ok (.iload_n 3, 1) := by decide +kernel
theorem d_C_nextUndrawn_28 : decode (jyc Y_C_nextUndrawn) 28 = .ok (.iconst 1, 1) := by decide +kernel
theorem d_C_nextUndrawn_29 : decode (jyc Y_C_nextUndrawn) 29 = .ok (.iadd, 1) := by decide +kernel
theorem d_C_nextUndrawn_30 : decode (jyc Y_C_nextUndrawn) 30 = .ok (.goto 4, 3) := by decide +kernel
theorem d_C_nextUndrawn_33 : decode (jyc Y_C_nextUndrawn) 33 = .ok (.iconst 0, 1) := by decide +kernel
theorem d_C_nextUndrawn_34 : decode (jyc Y_C_nextUndrawn) 34 = .ok (.istore_n 3, 1) := by decide +kernel
theorem d_C_nextUndrawn_35 : decode (jyc Y_C_nextUndrawn) 35 = .ok (.iinc 4 1, 3) := by decide +kernel
theorem d_C_nextUndrawn_38 : decode (jyc Y_C_nextUndrawn) 38 = .ok (.goto (-33), 3) := by decide +kernel
theorem d_C_nextUndrawn_41 : decode (jyc Y_C_nextUndrawn) 41 = .ok (.iload_n 3, 1) := by decide +kernel
theorem d_C_nextUndrawn_42 : decode (jyc Y_C_nextUndrawn) 42 = .ok (.ireturn, 1) := by decide +kernel
theorem d_C_answerFrom_0 : decode (jyc Y_C_answerFrom) 0 = .ok (.iconst 0, 1) := by decide +kernel
theorem d_C_answerFrom_1 : decode (jyc Y_C_answerFrom) 1 = .ok (.istore_n 2, 1) := by decide +kernel
theorem d_C_answerFrom_2 : decode (jyc Y_C_answerFrom) 2 = .ok (.iload_n 2, 1) := by decide +kernel
theorem d_C_answerFrom_3 : decode (jyc Y_C_answerFrom) 3 = .ok (.iconst 5, 1) := by decide +kernel
theorem d_C_answerFrom_4 : decode (jyc Y_C_answerFrom) 4 = .ok (.if_icmp .ge 63, 3) := by decide +kernel
theorem d_C_answerFrom_7 : decode (jyc Y_C_answerFrom) 7 = .ok (.iconst 0, 1) := by decide +kernel
theorem d_C_answerFrom_8 : decode (jyc Y_C_answerFrom) 8 = .ok (.istore_n 3, 1) := by decide +kernel
theorem d_C_answerFrom_9 : decode (jyc Y_C_answerFrom) 9 = .ok (.iconst 0, 1) := by decide +kernel
theorem d_C_answerFrom_10 : decode (jyc Y_C_answerFrom) 10 = .ok (.istore 4, 2) := by decide +kernel
theorem d_C_answerFrom_12 : decode (jyc Y_C_answerFrom) 12 = .ok (.iload 4, 2) := by decide +kernel
theorem d_C_answerFrom_14 : decode (jyc Y_C_answerFrom) 14 = .ok (.aload_n 0, 1) := by decide +kernel
theorem d_C_answerFrom_15 : decode (jyc Y_C_answerFrom) 15 = .ok (.getfield 36, 3) := by decide +kernel
theorem d_C_answerFrom_18 : decode (jyc Y_C_answerFrom) 18 = .ok (.if_icmp .ge 36, 3) := by decide +kernel
theorem d_C_answerFrom_21 : decode (jyc Y_C_answerFrom) 21 = .ok (.iload_n 3, 1) := by decide +kernel
theorem d_C_answerFrom_22 : decode (jyc Y_C_answerFrom) 22 = .ok (.aload_n 0, 1) := by decide +kernel
theorem d_C_answerFrom_23 : decode (jyc Y_C_answerFrom) 23 = .ok (.getfield 15, 3) := by decide +kernel
theorem d_C_answerFrom_26 : decode (jyc Y_C_answerFrom) 26 = .ok (.iload 4, 2) := by decide +kernel
theorem d_C_answerFrom_28 : decode (jyc Y_C_answerFrom) 28 = .ok (.iaload, 1) := by decide +kernel
theorem d_C_answerFrom_29 : decode (jyc Y_C_answerFrom) 29 = .ok (.aload_n 1, 1) := by decide +kernel
theorem d_C_answerFrom_30 : decode (jyc Y_C_answerFrom) 30 = .ok (.aload_n 0, 1) := by decide +kernel
theorem d_C_answerFrom_31 : decode (jyc Y_C_answerFrom) 31 = .ok (.getfield 9, 3) := by decide +kernel
theorem d_C_answerFrom_34 : decode (jyc Y_C_answerFrom) 34 = .ok (.iload 4, 2) := by decide +kernel
theorem d_C_answerFrom_36 : decode (jyc Y_C_answerFrom) 36 = .ok (.iaload, 1) := by decide +kernel
theorem d_C_answerFrom_37 : decode (jyc Y_C_answerFrom) 37 = .ok (.iload_n 2, 1) := by decide +kernel
theorem d_C_answerFrom_38 : decode (jyc Y_C_answerFrom) 38 = .ok (.invokevirtual 51, 3) := by decide +kernel
theorem d_C_answerFrom_41 : decode (jyc Y_C_answerFrom) 41 = .ok (.invokestatic 56, 3) := by decide +kernel
theorem d_C_answerFrom_44 : decode (jyc Y_C_answerFrom) 44 = .ok (.invokestatic 59, 3) := by decide +kernel
theorem d_C_answerFrom_47 : decode (jyc Y_C_answerFrom) 47 = .ok (.istore_n 3, 1) := by decide +kernel
theorem d_C_answerFrom_48 : decode (jyc Y_C_answerFrom) 48 = .ok (.iinc 4 1, 3) := by decide +kernel
theorem d_C_answerFrom_51 : decode (jyc Y_C_answerFrom) 51 = .ok (.goto (-39), 3) := by decide +kernel
theorem d_C_answerFrom_54 : decode (jyc Y_C_answerFrom) 54 = .ok (.aload_n 0, 1) := by decide +kernel
theorem d_C_answerFrom_55 : decode (jyc Y_C_answerFrom) 55 = .ok (.getfield 18, 3) := by decide +kernel
theorem d_C_answerFrom_58 : decode (jyc Y_C_answerFrom) 58 = .ok (.iload_n 2, 1) := by decide +kernel
theorem d_C_answerFrom_59 : decode (jyc Y_C_answerFrom) 59 = .ok (.iload_n 3, 1) := by decide +kernel
theorem d_C_answerFrom_60 : decode (jyc Y_C_answerFrom) 60 = .ok (.iastore, 1) := by decide +kernel
theorem d_C_answerFrom_61 : decode (jyc Y_C_answerFrom) 61 = .ok (.iinc 2 1, 3) := by decide +kernel
theorem d_C_answerFrom_64 : decode (jyc Y_C_answerFrom) 64 = .ok (.goto (-62), 3) := by decide +kernel
theorem d_C_answerFrom_67 : decode (jyc Y_C_answerFrom) 67 = .ok (.return_, 1) := by decide +kernel
theorem d_C_holds_0 : decode (jyc Y_C_holds) 0 = .ok (.iconst 0, 1) := by decide +kernel
theorem d_C_holds_1 : decode (jyc Y_C_holds) 1 = .ok (.istore_n 2, 1) := by decide +kernel
theorem d_C_holds_2 : decode (jyc Y_C_holds) 2 = .ok (.iconst 0, 1) := by decide +kernel
theorem d_C_holds_3 : decode (jyc Y_C_holds) 3 = .ok (.istore_n 3, 1) := by decide +kernel
theorem d_C_holds_4 : decode (jyc Y_C_holds) 4 = .ok (.iload_n 3, 1) := by decide +kernel
theorem d_C_holds_5 : decode (jyc Y_C_holds) 5 = .ok (.aload_n 0, 1) := by decide +kernel
theorem d_C_holds_6 : decode (jyc Y_C_holds) 6 = .ok (.getfield 36, 3) := by decide +kernel
theorem d_C_holds_9 : decode (jyc Y_C_holds) 9 = .ok (.if_icmp .ge 34, 3) := by decide +kernel
theorem d_C_holds_12 : decode (jyc Y_C_holds) 12 = .ok (.iload_n 2, 1) := by decide +kernel
theorem d_C_holds_13 : decode (jyc Y_C_holds) 13 = .ok (.aload_n 0, 1) := by decide +kernel
theorem d_C_holds_14 : decode (jyc Y_C_holds) 14 = .ok (.getfield 15, 3) := by decide +kernel
theorem d_C_holds_17 : decode (jyc Y_C_holds) 17 = .ok (.iload_n 3, 1) := by decide +kernel
theorem d_C_holds_18 : decode (jyc Y_C_holds) 18 = .ok (.iaload, 1) := by decide +kernel
theorem d_C_holds_19 : decode (jyc Y_C_holds) 19 = .ok (.aload_n 1, 1) := by decide +kernel
theorem d_C_holds_20 : decode (jyc Y_C_holds) 20 = .ok (.getfield 62, 3) := by decide +kernel
theorem d_C_holds_23 : decode (jyc Y_C_holds) 23 = .ok (.aload_n 0, 1) := by decide +kernel
theorem d_C_holds_24 : decode (jyc Y_C_holds) 24 = .ok (.getfield 9, 3) := by decide +kernel
theorem d_C_holds_27 : decode (jyc Y_C_holds) 27 = .ok (.iload_n 3, 1) := by decide +kernel
theorem d_C_holds_28 : decode (jyc Y_C_holds) 28 = .ok (.iaload, 1) := by decide +kernel
theorem d_C_holds_29 : decode (jyc Y_C_holds) 29 = .ok (.iaload, 1) := by decide +kernel
theorem d_C_holds_30 : decode (jyc Y_C_holds) 30 = .ok (.invokestatic 56, 3) := by decide +kernel
theorem d_C_holds_33 : decode (jyc Y_C_holds) 33 = .ok (.invokestatic 59, 3) := by decide +kernel
theorem d_C_holds_36 : decode (jyc Y_C_holds) 36 = .ok (.istore_n 2, 1) := by decide +kernel
theorem d_C_holds_37 : decode (jyc Y_C_holds) 37 = .ok (.iinc 3 1, 3) := by decide +kernel
theorem d_C_holds_40 : decode (jyc Y_C_holds) 40 = .ok (.goto (-36), 3) := by decide +kernel
theorem d_C_holds_43 : decode (jyc Y_C_holds) 43 = .ok (.iconst 0, 1) := by decide +kernel
theorem d_C_holds_44 : decode (jyc Y_C_holds) 44 = .ok (.istore_n 3, 1) := by decide +kernel
theorem d_C_holds_45 : decode (jyc Y_C_holds) 45 = .ok (.iload_n 3, 1) := by decide +kernel
theorem d_C_holds_46 : decode (jyc Y_C_holds) 46 = .ok (.iconst 4, 1) := by decide +kernel
theorem d_C_holds_47 : decode (jyc Y_C_holds) 47 = .ok (.if_icmp .ge 29, 3) := by decide +kernel
theorem d_C_holds_50 : decode (jyc Y_C_holds) 50 = .ok (.iload_n 2, 1) := by decide +kernel
theorem d_C_holds_51 : decode (jyc Y_C_holds) 51 = .ok (.aload_n 1, 1) := by decide +kernel
theorem d_C_holds_52 : decode (jyc Y_C_holds) 52 = .ok (.getfield 67, 3) := by decide +kernel
theorem d_C_holds_55 : decode (jyc Y_C_holds) 55 = .ok (.iload_n 3, 1) := by decide +kernel
theorem d_C_holds_56 : decode (jyc Y_C_holds) 56 = .ok (.iaload, 1) := by decide +kernel
theorem d_C_holds_57 : decode (jyc Y_C_holds) 57 = .ok (.aload_n 0, 1) := by decide +kernel
theorem d_C_holds_58 : decode (jyc Y_C_holds) 58 = .ok (.getfield 18, 3) := by decide +kernel
theorem d_C_holds_61 : decode (jyc Y_C_holds) 61 = .ok (.iload_n 3, 1) := by decide +kernel
theorem d_C_holds_62 : decode (jyc Y_C_holds) 62 = .ok (.iaload, 1) := by decide +kernel
theorem d_C_holds_63 : decode (jyc Y_C_holds) 63 = .ok (.invokestatic 56, 3) := by decide +kernel
theorem d_C_holds_66 : decode (jyc Y_C_holds) 66 = .ok (.invokestatic 59, 3) := by decide +kernel
theorem d_C_holds_69 : decode (jyc Y_C_holds) 69 = .ok (.istore_n 2, 1) := by decide +kernel
theorem d_C_holds_70 : decode (jyc Y_C_holds) 70 = .ok (.iinc 3 1, 3) := by decide +kernel
theorem d_C_holds_73 : decode (jyc Y_C_holds) 73 = .ok (.goto (-28), 3) := by decide +kernel
theorem d_C_holds_76 : decode (jyc Y_C_holds) 76 = .ok (.aload_n 0, 1) := by decide +kernel
theorem d_C_holds_77 : decode (jyc Y_C_holds) 77 = .ok (.getfield 18, 3) := by decide +kernel
theorem d_C_holds_80 : decode (jyc Y_C_holds) 80 = .ok (.iconst 4, 1) := by decide +kernel
theorem d_C_holds_81 : decode (jyc Y_C_holds) 81 = .ok (.iaload, 1) := by decide +kernel
theorem d_C_holds_82 : decode (jyc Y_C_holds) 82 = .ok (.iload_n 2, 1) := by decide +kernel
theorem d_C_holds_83 : decode (jyc Y_C_holds) 83 = .ok (.if_icmp .ne 7, 3) := by decide +kernel
theorem d_C_holds_86 : decode (jyc Y_C_holds) 86 = .ok (.iconst 1, 1) := by decide +kernel
theorem d_C_holds_87 : decode (jyc Y_C_holds) 87 = .ok (.goto 4, 3) := by decide +kernel
theorem d_C_holds_90 : decode (jyc Y_C_holds) 90 = .ok (.iconst 0, 1) := by decide +kernel
theorem d_C_holds_91 : decode (jyc Y_C_holds) 91 = .ok (.ireturn, 1) := by decide +kernel
theorem d_Y_init_0 : decode (jyc Y_Y_init) 0 = .ok (.aload_n 0, 1) := by decide +kernel
theorem d_Y_init_1 : decode (jyc Y_Y_init) 1 = .ok (.invokespecial 3, 3) := by decide +kernel
theorem d_Y_init_4 : decode (jyc Y_Y_init) 4 = .ok (.aload_n 0, 1) := by decide +kernel
theorem d_Y_init_5 : decode (jyc Y_Y_init) 5 = .ok (.new 9, 3) := by decide +kernel
theorem d_Y_init_8 : decode (jyc Y_Y_init) 8 = .ok (.dup, 1) := by decide +kernel
theorem d_Y_init_9 : decode (jyc Y_Y_init) 9 = .ok (.invokespecial 11, 3) := by decide +kernel
theorem d_Y_init_12 : decode (jyc Y_Y_init) 12 = .ok (.putfield 12, 3) := by decide +kernel
theorem d_Y_init_15 : decode (jyc Y_Y_init) 15 = .ok (.aload_n 0, 1) := by decide +kernel
theorem d_Y_init_16 : decode (jyc Y_Y_init) 16 = .ok (.bipush 24, 2) := by decide +kernel
theorem d_Y_init_18 : decode (jyc Y_Y_init) 18 = .ok (.newarray .boolean, 2) := by decide +kernel
theorem d_Y_init_20 : decode (jyc Y_Y_init) 20 = .ok (.putfield 18, 3) := by decide +kernel
theorem d_Y_init_23 : decode (jyc Y_Y_init) 23 = .ok (.return_, 1) := by decide +kernel
theorem d_Y_drop_0 : decode (jyc Y_Y_drop) 0 = .ok (.aload_n 0, 1) := by decide +kernel
theorem d_Y_drop_1 : decode (jyc Y_Y_drop) 1 = .ok (.getfield 18, 3) := by decide +kernel
theorem d_Y_drop_4 : decode (jyc Y_Y_drop) 4 = .ok (.iload_n 1, 1) := by decide +kernel
theorem d_Y_drop_5 : decode (jyc Y_Y_drop) 5 = .ok (.iconst 1, 1) := by decide +kernel
theorem d_Y_drop_6 : decode (jyc Y_Y_drop) 6 = .ok (.bastore, 1) := by decide +kernel
theorem d_Y_drop_7 : decode (jyc Y_Y_drop) 7 = .ok (.aload_n 0, 1) := by decide +kernel
theorem d_Y_drop_8 : decode (jyc Y_Y_drop) 8 = .ok (.getfield 12, 3) := by decide +kernel
theorem d_Y_drop_11 : decode (jyc Y_Y_drop) 11 = .ok (.iload_n 1, 1) := by decide +kernel
theorem d_Y_drop_12 : decode (jyc Y_Y_drop) 12 = .ok (.invokevirtual 22, 3) := by decide +kernel
theorem d_Y_drop_15 : decode (jyc Y_Y_drop) 15 = .ok (.return_, 1) := by decide +kernel
theorem d_Y_become_0 : decode (jyc Y_Y_become) 0 = .ok (.iconst 0, 1) := by decide +kernel
theorem d_Y_become_1 : decode (jyc Y_Y_become) 1 = .ok (.istore_n 3, 1) := by decide +kernel
theorem d_Y_become_2 : decode (jyc Y_Y_become) 2 = .ok (.iconst 0, 1) := by decide +kernel
theorem d_Y_become_3 : decode (jyc Y_Y_become) 3 = .ok (.istore 4, 2) := by decide +kernel
theorem d_Y_become_5 : decode (jyc Y_Y_become) 5 = .ok (.iload 4, 2) := by decide +kernel
theorem d_Y_become_7 : decode (jyc Y_Y_become) 7 = .ok (.iload_n 2, 1) := by decide +kernel
theorem d_Y_become_8 : decode (jyc Y_Y_become) 8 = .ok (.if_icmp .ge 60, 3) := by decide +kernel
theorem d_Y_become_11 : decode (jyc Y_Y_become) 11 = .ok (.aload_n 0, 1) := by decide +kernel
theorem d_Y_become_12 : decode (jyc Y_Y_become) 12 = .ok (.getfield 26, 3) := by decide +kernel
theorem d_Y_become_15 : decode (jyc Y_Y_become) 15 = .ok (.ifCond .eq 26, 3) := by decide +kernel
theorem d_Y_become_18 : decode (jyc Y_Y_become) 18 = .ok (.aload_n 0, 1) := by decide +kernel
theorem d_Y_become_19 : decode (jyc Y_Y_become) 19 = .ok (.getfield 18, 3) := by decide +kernel
theorem d_Y_become_22 : decode (jyc Y_Y_become) 22 = .ok (.iload 4, 2) := by decide +kernel
theorem d_Y_become_24 : decode (jyc Y_Y_become) 24 = .ok (.baload, 1) := by decide +kernel
theorem d_Y_become_25 : decode (jyc Y_Y_become) 25 = .ok (.ifCond .ne 16, 3) := by decide +kernel
theorem d_Y_become_28 : decode (jyc Y_Y_become) 28 = .ok (.aload_n 0, 1) := by decide +kernel
theorem d_Y_become_29 : decode (jyc Y_Y_become) 29 = .ok (.getfield 12, 3) := by decide +kernel
theorem d_Y_become_32 : decode (jyc Y_Y_become) 32 = .ok (.aload_n 1, 1) := by decide +kernel
theorem d_Y_become_33 : decode (jyc Y_Y_become) 33 = .ok (.iload 4, 2) := by decide +kernel
theorem d_Y_become_35 : decode (jyc Y_Y_become) 35 = .ok (.invokevirtual 30, 3) := by decide +kernel
theorem d_Y_become_38 : decode (jyc Y_Y_become) 38 = .ok (.ifCond .ne 6, 3) := by decide +kernel
theorem d_Y_become_41 : decode (jyc Y_Y_become) 41 = .ok (.iinc 3 1, 3) := by decide +kernel
theorem d_Y_become_44 : decode (jyc Y_Y_become) 44 = .ok (.aload_n 0, 1) := by decide +kernel
theorem d_Y_become_45 : decode (jyc Y_Y_become) 45 = .ok (.getfield 18, 3) := by decide +kernel
theorem d_Y_become_48 : decode (jyc Y_Y_become) 48 = .ok (.iload 4, 2) := by decide +kernel
theorem d_Y_become_50 : decode (jyc Y_Y_become) 50 = .ok (.iconst 0, 1) := by decide +kernel
theorem d_Y_become_51 : decode (jyc Y_Y_become) 51 = .ok (.bastore, 1) := by decide +kernel
theorem d_Y_become_52 : decode (jyc Y_Y_become) 52 = .ok (.aload_n 0, 1) := by decide +kernel
theorem d_Y_become_53 : decode (jyc Y_Y_become) 53 = .ok (.getfield 12, 3) := by decide +kernel
theorem d_Y_become_56 : decode (jyc Y_Y_become) 56 = .ok (.aload_n 1, 1) := by decide +kernel
theorem d_Y_become_57 : decode (jyc Y_Y_become) 57 = .ok (.iload 4, 2) := by decide +kernel
theorem d_Y_become_59 : decode (jyc Y_Y_become) 59 = .ok (.invokevirtual 34, 3) := by decide +kernel
theorem d_Y_become_62 : decode (jyc Y_Y_become) 62 = .ok (.iinc 4 1, 3) := by decide +kernel
theorem d_Y_become_65 : decode (jyc Y_Y_become) 65 = .ok (.goto (-60), 3) := by decide +kernel
theorem d_Y_become_68 : decode (jyc Y_Y_become) 68 = .ok (.aload_n 0, 1) := by decide +kernel
theorem d_Y_become_69 : decode (jyc Y_Y_become) 69 = .ok (.iconst 1, 1) := by decide +kernel
theorem d_Y_become_70 : decode (jyc Y_Y_become) 70 = .ok (.putfield 26, 3) := by decide +kernel
theorem d_Y_become_73 : decode (jyc Y_Y_become) 73 = .ok (.iload_n 3, 1) := by decide +kernel
theorem d_Y_become_74 : decode (jyc Y_Y_become) 74 = .ok (.ireturn, 1) := by decide +kernel
theorem d_E_init_0 : decode (jyc Y_E_init) 0 = .ok (.aload_n 0, 1) := by decide +kernel
theorem d_E_init_1 : decode (jyc Y_E_init) 1 = .ok (.invokespecial 3, 3) := by decide +kernel
theorem d_E_init_4 : decode (jyc Y_E_init) 4 = .ok (.aload_n 0, 1) := by decide +kernel
theorem d_E_init_5 : decode (jyc Y_E_init) 5 = .ok (.iconst 4, 1) := by decide +kernel
theorem d_E_init_6 : decode (jyc Y_E_init) 6 = .ok (.newarray .int, 2) := by decide +kernel
theorem d_E_init_8 : decode (jyc Y_E_init) 8 = .ok (.putfield 9, 3) := by decide +kernel
theorem d_E_init_11 : decode (jyc Y_E_init) 11 = .ok (.aload_n 0, 1) := by decide +kernel
theorem d_E_init_12 : decode (jyc Y_E_init) 12 = .ok (.bipush 24, 2) := by decide +kernel
theorem d_E_init_14 : decode (jyc Y_E_init) 14 = .ok (.newarray .int, 2) := by decide +kernel
theorem d_E_init_16 : decode (jyc Y_E_init) 16 = .ok (.putfield 15, 3) := by decide +kernel
theorem d_E_init_19 : decode (jyc Y_E_init) 19 = .ok (.aload_n 0, 1) := by decide +kernel
theorem d_E_init_20 : decode (jyc Y_E_init) 20 = .ok (.new 18, 3) := by decide +kernel
theorem d_E_init_23 : decode (jyc Y_E_init) 23 = .ok (.dup, 1) := by decide +kernel
theorem d_E_init_24 : decode (jyc Y_E_init) 24 = .ok (.invokespecial 20, 3) := by decide +kernel
theorem d_E_init_27 : decode (jyc Y_E_init) 27 = .ok (.putfield 21, 3) := by decide +kernel
theorem d_E_init_30 : decode (jyc Y_E_init) 30 = .ok (.return_, 1) := by decide +kernel
theorem d_E_drawSecrets_0 : decode (jyc Y_E_drawSecrets) 0 = .ok (.iconst 0, 1) := by decide +kernel
theorem d_E_drawSecrets_1 : decode (jyc Y_E_drawSecrets) 1 = .ok (.istore 6, 2) := by decide +kernel
theorem d_E_drawSecrets_3 : decode (jyc Y_E_drawSecrets) 3 = .ok (.iload 6, 2) := by decide +kernel
theorem d_E_drawSecrets_5 : decode (jyc Y_E_drawSecrets) 5 = .ok (.iconst 4, 1) := by decide +kernel
theorem d_E_drawSecrets_6 : decode (jyc Y_E_drawSecrets) 6 = .ok (.if_icmp .ge 29, 3) := by decide +kernel
theorem d_E_drawSecrets_9 : decode (jyc Y_E_drawSecrets) 9 = .ok (.aload_n 0, 1) := by decide +kernel
theorem d_E_drawSecrets_10 : decode (jyc Y_E_drawSecrets) 10 = .ok (.getfield 9, 3) := by decide +kernel
theorem d_E_drawSecrets_13 : decode (jyc Y_E_drawSecrets) 13 = .ok (.iload 6, 2) := by decide +kernel
theorem d_E_drawSecrets_15 : decode (jyc Y_E_drawSecrets) 15 = .ok (.lload_n 1, 1) := by decide +kernel
theorem d_E_drawSecrets_16 : decode (jyc Y_E_drawSecrets) 16 = .ok (.lload_n 3, 1) := by decide +kernel
theorem d_E_drawSecrets_17 : decode (jyc Y_E_drawSecrets) 17 = .ok (.bipush 64, 2) := by decide +kernel
theorem d_E_drawSecrets_19 : decode (jyc Y_E_drawSecrets) 19 = .ok (.iload 5, 2) := by decide +kernel
theorem d_E_drawSecrets_21 : decode (jyc Y_E_drawSecrets) 21 = .ok (.imul, 1) := by decide +kernel
theorem d_E_drawSecrets_22 : decode (jyc Y_E_drawSecrets) 22 = .ok (.iload 6, 2) := by decide +kernel
theorem d_E_drawSecrets_24 : decode (jyc Y_E_drawSecrets) 24 = .ok (.iadd, 1) := by decide +kernel
theorem d_E_drawSecrets_25 : decode (jyc Y_E_drawSecrets) 25 = .ok (.invokestatic 25, 3) := by decide +kernel
theorem d_E_drawSecrets_28 : decode (jyc Y_E_drawSecrets) 28 = .ok (.iastore, 1) := by decide +kernel
theorem d_E_drawSecrets_29 : decode (jyc Y_E_drawSecrets) 29 = .ok (.iinc 6 1, 3) := by decide +kernel
theorem d_E_drawSecrets_32 : decode (jyc Y_E_drawSecrets) 32 = .ok (.goto (-29), 3) := by decide +kernel
theorem d_E_drawSecrets_35 : decode (jyc Y_E_drawSecrets) 35 = .ok (.iconst 0, 1) := by decide +kernel
theorem d_E_drawSecrets_36 : decode (jyc Y_E_drawSecrets) 36 = .ok (.istore 6, 2) := by decide +kernel
theorem d_E_drawSecrets_38 : decode (jyc Y_E_drawSecrets) 38 = .ok (.iload 6, 2) := by decide +kernel
theorem d_E_drawSecrets_40 : decode (jyc Y_E_drawSecrets) 40 = .ok (.bipush 24, 2) := by decide +kernel
theorem d_E_drawSecrets_42 : decode (jyc Y_E_drawSecrets) 42 = .ok (.if_icmp .ge 32, 3) := by decide +kernel
theorem d_E_drawSecrets_45 : decode (jyc Y_E_drawSecrets) 45 = .ok (.aload_n 0, 1) := by decide +kernel
theorem d_E_drawSecrets_46 : decode (jyc Y_E_drawSecrets) 46 = .ok (.getfield 15, 3) := by decide +kernel
theorem d_E_drawSecrets_49 : decode (jyc Y_E_drawSecrets) 49 = .ok (.iload 6, 2) := by decide +kernel
theorem d_E_drawSecrets_51 : decode (jyc Y_E_drawSecrets) 51 = .ok (.lload_n 1, 1) := by decide +kernel
theorem d_E_drawSecrets_52 : decode (jyc Y_E_drawSecrets) 52 = .ok (.lload_n 3, 1) := by decide +kernel
theorem d_E_drawSecrets_53 : decode (jyc Y_E_drawSecrets) 53 = .ok (.bipush 64, 2) := by decide +kernel
theorem d_E_drawSecrets_55 : decode (jyc Y_E_drawSecrets) 55 = .ok (.iload 5, 2) := by decide +kernel
theorem d_E_drawSecrets_57 : decode (jyc Y_E_drawSecrets) 57 = .ok (.imul, 1) := by decide +kernel
theorem d_E_drawSecrets_58 : decode (jyc Y_E_drawSecrets) 58 = .ok (.bipush 8, 2) := by decide +kernel
theorem d_E_drawSecrets_60 : decode (jyc Y_E_drawSecrets) 60 = .ok (.iadd, 1) := by decide +kernel
theorem d_E_drawSecrets_61 : decode (jyc Y_E_drawSecrets) 61 = .ok (.iload 6, 2) := by decide +kernel
theorem d_E_drawSecrets_63 : decode (jyc Y_E_drawSecrets) 63 = .ok (.iadd, 1) := by decide +kernel
theorem d_E_drawSecrets_64 : decode (jyc Y_E_drawSecrets) 64 = .ok (.invokestatic 25, 3) := by decide +kernel
theorem d_E_drawSecrets_67 : decode (jyc Y_E_drawSecrets) 67 = .ok (.iastore, 1) := by decide +kernel
theorem d_E_drawSecrets_68 : decode (jyc Y_E_drawSecrets) 68 = .ok (.iinc 6 1, 3) := by decide +kernel
theorem d_E_drawSecrets_71 : decode (jyc Y_E_drawSecrets) 71 = .ok (.goto (-33), 3) := by decide +kernel
theorem d_E_drawSecrets_74 : decode (jyc Y_E_drawSecrets) 74 = .ok (.return_, 1) := by decide +kernel
theorem d_E_make_0 : decode (jyc Y_E_make) 0 = .ok (.aload_n 0, 1) := by decide +kernel
theorem d_E_make_1 : decode (jyc Y_E_make) 1 = .ok (.iload_n 2, 1) := by decide +kernel
theorem d_E_make_2 : decode (jyc Y_E_make) 2 = .ok (.putfield 31, 3) := by decide +kernel
theorem d_E_make_5 : decode (jyc Y_E_make) 5 = .ok (.aload_n 0, 1) := by decide +kernel
theorem d_E_make_6 : decode (jyc Y_E_make) 6 = .ok (.iload_n 2, 1) := by decide +kernel
theorem d_E_make_7 : decode (jyc Y_E_make) 7 = .ok (.bipush 16, 2) := by decide +kernel
theorem d_E_make_9 : decode (jyc Y_E_make) 9 = .ok (.iadd, 1) := by decide +kernel
theorem d_E_make_10 : decode (jyc Y_E_make) 10 = .ok (.iconst 1, 1) := by decide +kernel
theorem d_E_make_11 : decode (jyc Y_E_make) 11 = .ok (.isub, 1) := by decide +kernel
theorem d_E_make_12 : decode (jyc Y_E_make) 12 = .ok (.bipush 16, 2) := by decide +kernel
theorem d_E_make_14 : decode (jyc Y_E_make) 14 = .ok (.idiv, 1) := by decide +kernel
theorem d_E_make_15 : decode (jyc Y_E_make) 15 = .ok (.bipush 6, 2) := by decide +kernel
theorem d_E_make_17 : decode (jyc Y_E_make) 17 = .ok (.imul, 1) := by decide +kernel
theorem d_E_make_18 : decode (jyc Y_E_make) 18 = .ok (.putfield 35, 3) := by decide +kernel
theorem d_E_make_21 : decode (jyc Y_E_make) 21 = .ok (.iconst 0, 1) := by decide +kernel
theorem d_E_make_22 : decode (jyc Y_E_make) 22 = .ok (.istore_n 3, 1) := by decide +kernel
theorem d_E_make_23 : decode (jyc Y_E_make) 23 = .ok (.iload_n 3, 1) := by decide +kernel
theorem d_E_make_24 : decode (jyc Y_E_make) 24 = .ok (.iload_n 2, 1) := by decide +kernel
theorem d_E_make_25 : decode (jyc Y_E_make) 25 = .ok (.if_icmp .ge 26, 3) := by decide +kernel
theorem d_E_make_28 : decode (jyc Y_E_make) 28 = .ok (.aload_n 0, 1) := by decide +kernel
theorem d_E_make_29 : decode (jyc Y_E_make) 29 = .ok (.getfield 21, 3) := by decide +kernel
theorem d_E_make_32 : decode (jyc Y_E_make) 32 = .ok (.iload_n 3, 1) := by decide +kernel
theorem d_E_make_33 : decode (jyc Y_E_make) 33 = .ok (.invokestatic 38, 3) := by decide +kernel
theorem d_E_make_36 : decode (jyc Y_E_make) 36 = .ok (.iload_n 3, 1) := by decide +kernel
theorem d_E_make_37 : decode (jyc Y_E_make) 37 = .ok (.iconst 4, 1) := by decide +kernel
theorem d_E_make_38 : decode (jyc Y_E_make) 38 = .ok (.irem, 1) := by decide +kernel
theorem d_E_make_39 : decode (jyc Y_E_make) 39 = .ok (.aload_n 1, 1) := by decide +kernel
theorem d_E_make_40 : decode (jyc Y_E_make) 40 = .ok (.iload_n 3, 1) := by decide +kernel
theorem d_E_make_41 : decode (jyc Y_E_make) 41 = .ok (.iaload, 1) := by decide +kernel
theorem d_E_make_42 : decode (jyc Y_E_make) 42 = .ok (.invokevirtual 42, 3) := by decide +kernel
theorem d_E_make_45 : decode (jyc Y_E_make) 45 = .ok (.iinc 3 1, 3) := by decide +kernel
theorem d_E_make_48 : decode (jyc Y_E_make) 48 = .ok (.goto (-25), 3) := by decide +kernel
theorem d_E_make_51 : decode (jyc Y_E_make) 51 = .ok (.aload_n 0, 1) := by decide +kernel
theorem d_E_make_52 : decode (jyc Y_E_make) 52 = .ok (.aload_n 0, 1) := by decide +kernel
theorem d_E_make_53 : decode (jyc Y_E_make) 53 = .ok (.getfield 21, 3) := by decide +kernel
theorem d_E_make_56 : decode (jyc Y_E_make) 56 = .ok (.invokevirtual 46, 3) := by decide +kernel
theorem d_E_make_59 : decode (jyc Y_E_make) 59 = .ok (.return_, 1) := by decide +kernel
theorem d_E_complete_0 : decode (jyc Y_E_complete) 0 = .ok (.iconst 0, 1) := by decide +kernel
theorem d_E_complete_1 : decode (jyc Y_E_complete) 1 = .ok (.istore_n 2, 1) := by decide +kernel
theorem d_E_complete_2 : decode (jyc Y_E_complete) 2 = .ok (.iload_n 2, 1) := by decide +kernel
theorem d_E_complete_3 : decode (jyc Y_E_complete) 3 = .ok (.aload_n 0, 1) := by decide +kernel
theorem d_E_complete_4 : decode (jyc Y_E_complete) 4 = .ok (.getfield 35, 3) := by decide +kernel
theorem d_E_complete_7 : decode (jyc Y_E_complete) 7 = .ok (.if_icmp .ge 14, 3) := by decide +kernel
theorem d_E_complete_10 : decode (jyc Y_E_complete) 10 = .ok (.aload_n 1, 1) := by decide +kernel
theorem d_E_complete_11 : decode (jyc Y_E_complete) 11 = .ok (.iload_n 2, 1) := by decide +kernel
theorem d_E_complete_12 : decode (jyc Y_E_complete) 12 = .ok (.invokevirtual 50, 3) := by decide +kernel
theorem d_E_complete_15 : decode (jyc Y_E_complete) 15 = .ok (.iinc 2 6, 3) := by decide +kernel
theorem d_E_complete_18 : decode (jyc Y_E_complete) 18 = .ok (.goto (-16), 3) := by decide +kernel
theorem d_E_complete_21 : decode (jyc Y_E_complete) 21 = .ok (.iconst 0, 1) := by decide +kernel
theorem d_E_complete_22 : decode (jyc Y_E_complete) 22 = .ok (.istore_n 2, 1) := by decide +kernel
theorem d_E_complete_23 : decode (jyc Y_E_complete) 23 = .ok (.iload_n 2, 1) := by decide +kernel
theorem d_E_complete_24 : decode (jyc Y_E_complete) 24 = .ok (.aload_n 0, 1) := by decide +kernel
theorem d_E_complete_25 : decode (jyc Y_E_complete) 25 = .ok (.getfield 35, 3) := by decide +kernel
theorem d_E_complete_28 : decode (jyc Y_E_complete) 28 = .ok (.if_icmp .ge 21, 3) := by decide +kernel
theorem d_E_complete_31 : decode (jyc Y_E_complete) 31 = .ok (.aload_n 1, 1) := by decide +kernel
theorem d_E_complete_32 : decode (jyc Y_E_complete) 32 = .ok (.iload_n 2, 1) := by decide +kernel
theorem d_E_complete_33 : decode (jyc Y_E_complete) 33 = .ok (.iconst 4, 1) := by decide +kernel
theorem d_E_complete_34 : decode (jyc Y_E_complete) 34 = .ok (.aload_n 0, 1) := by decide +kernel
theorem d_E_complete_35 : decode (jyc Y_E_complete) 35 = .ok (.aload_n 1, 1) := by decide +kernel
theorem d_E_complete_36 : decode (jyc Y_E_complete) 36 = .ok (.iload_n 2, 1) := by decide +kernel
theorem d_E_complete_37 : decode (jyc Y_E_complete) 37 = .ok (.invokevirtual 54, 3) := by decide +kernel
theorem d_E_complete_40 : decode (jyc Y_E_complete) 40 = .ok (.invokevirtual 42, 3) := by decide +kernel
theorem d_E_complete_43 : decode (jyc Y_E_complete) 43 = .ok (.iinc 2 1, 3) := by decide +kernel
theorem d_E_complete_46 : decode (jyc Y_E_complete) 46 = .ok (.goto (-23), 3) := by decide +kernel
theorem d_E_complete_49 : decode (jyc Y_E_complete) 49 = .ok (.return_, 1) := by decide +kernel
theorem d_E_tagOf_0 : decode (jyc Y_E_tagOf) 0 = .ok (.aload_n 0, 1) := by decide +kernel
theorem d_E_tagOf_1 : decode (jyc Y_E_tagOf) 1 = .ok (.getfield 15, 3) := by decide +kernel
theorem d_E_tagOf_4 : decode (jyc Y_E_tagOf) 4 = .ok (.iload_n 2, 1) := by decide +kernel
theorem d_E_tagOf_5 : decode (jyc Y_E_tagOf) 5 = .ok (.iaload, 1) := by decide +kernel
theorem d_E_tagOf_6 : decode (jyc Y_E_tagOf) 6 = .ok (.istore_n 3, 1) := by decide +kernel
theorem d_E_tagOf_7 : decode (jyc Y_E_tagOf) 7 = .ok (.iconst 0, 1) := by decide +kernel
theorem d_E_tagOf_8 : decode (jyc Y_E_tagOf) 8 = .ok (.istore 4, 2) := by decide +kernel
theorem d_E_tagOf_10 : decode (jyc Y_E_tagOf) 10 = .ok (.iload 4, 2) := by decide +kernel
theorem d_E_tagOf_12 : decode (jyc Y_E_tagOf) 12 = .ok (.iconst 4, 1) := by decide +kernel
theorem d_E_tagOf_13 : decode (jyc Y_E_tagOf) 13 = .ok (.if_icmp .ge 31, 3) := by decide +kernel
theorem d_E_tagOf_16 : decode (jyc Y_E_tagOf) 16 = .ok (.iload_n 3, 1) := by decide +kernel
theorem d_E_tagOf_17 : decode (jyc Y_E_tagOf) 17 = .ok (.aload_n 0, 1) := by decide +kernel
theorem d_E_tagOf_18 : decode (jyc Y_E_tagOf) 18 = .ok (.getfield 9, 3) := by decide +kernel
theorem d_E_tagOf_21 : decode (jyc Y_E_tagOf) 21 = .ok (.iload 4, 2) := by decide +kernel
theorem d_E_tagOf_23 : decode (jyc Y_E_tagOf) 23 = .ok (.iaload, 1) := by decide +kernel
theorem d_E_tagOf_24 : decode (jyc Y_E_tagOf) 24 = .ok (.aload_n 1, 1) := by decide +kernel
theorem d_E_tagOf_25 : decode (jyc Y_E_tagOf) 25 = .ok (.iload_n 2, 1) := by decide +kernel
theorem d_E_tagOf_26 : decode (jyc Y_E_tagOf) 26 = .ok (.iload 4, 2) := by decide +kernel
theorem d_E_tagOf_28 : decode (jyc Y_E_tagOf) 28 = .ok (.invokevirtual 58, 3) := by decide +kernel
theorem d_E_tagOf_31 : decode (jyc Y_E_tagOf) 31 = .ok (.invokestatic 62, 3) := by decide +kernel
theorem d_E_tagOf_34 : decode (jyc Y_E_tagOf) 34 = .ok (.invokestatic 65, 3) := by decide +kernel
theorem d_E_tagOf_37 : decode (jyc Y_E_tagOf) 37 = .ok (.istore_n 3, 1) := by decide +kernel
theorem d_E_tagOf_38 : decode (jyc Y_E_tagOf) 38 = .ok (.iinc 4 1, 3) := by decide +kernel
theorem d_E_tagOf_41 : decode (jyc Y_E_tagOf) 41 = .ok (.goto (-31), 3) := by decide +kernel
theorem d_E_tagOf_44 : decode (jyc Y_E_tagOf) 44 = .ok (.iload_n 3, 1) := by decide +kernel
theorem d_E_tagOf_45 : decode (jyc Y_E_tagOf) 45 = .ok (.ireturn, 1) := by decide +kernel
theorem d_F_has_0 : decode (jyc Y_F_has) 0 = .ok (.iload_n 0, 1) := by decide +kernel
theorem d_F_has_1 : decode (jyc Y_F_has) 1 = .ok (.ifCond .lt 13, 3) := by decide +kernel
theorem d_F_has_4 : decode (jyc Y_F_has) 4 = .ok (.iload_n 0, 1) := by decide +kernel
theorem d_F_has_5 : decode (jyc Y_F_has) 5 = .ok (.ldc 9, 2) := by decide +kernel
theorem d_F_has_7 : decode (jyc Y_F_has) 7 = .ok (.if_icmp .ge 7, 3) := by decide +kernel
theorem d_F_has_10 : decode (jyc Y_F_has) 10 = .ok (.iconst 1, 1) := by decide +kernel
theorem d_F_has_11 : decode (jyc Y_F_has) 11 = .ok (.goto 4, 3) := by decide +kernel
theorem d_F_has_14 : decode (jyc Y_F_has) 14 = .ok (.iconst 0, 1) := by decide +kernel
theorem d_F_has_15 : decode (jyc Y_F_has) 15 = .ok (.ireturn, 1) := by decide +kernel
theorem d_F_plus_0 : decode (jyc Y_F_plus) 0 = .ok (.iload_n 0, 1) := by decide +kernel
theorem d_F_plus_1 : decode (jyc Y_F_plus) 1 = .ok (.i2l, 1) := by decide +kernel
theorem d_F_plus_2 : decode (jyc Y_F_plus) 2 = .ok (.iload_n 1, 1) := by decide +kernel
theorem d_F_plus_3 : decode (jyc Y_F_plus) 3 = .ok (.i2l, 1) := by decide +kernel
theorem d_F_plus_4 : decode (jyc Y_F_plus) 4 = .ok (.ladd, 1) := by decide +kernel
theorem d_F_plus_5 : decode (jyc Y_F_plus) 5 = .ok (.ldc2_w 10, 3) := by decide +kernel
theorem d_F_plus_8 : decode (jyc Y_F_plus) 8 = .ok (.lrem, 1) := by decide +kernel
theorem d_F_plus_9 : decode (jyc Y_F_plus) 9 = .ok (.l2i, 1) := by decide +kernel
theorem d_F_plus_10 : decode (jyc Y_F_plus) 10 = .ok (.ireturn, 1) := by decide +kernel
theorem d_F_minus_0 : decode (jyc Y_F_minus) 0 = .ok (.iload_n 0, 1) := by decide +kernel
theorem d_F_minus_1 : decode (jyc Y_F_minus) 1 = .ok (.i2l, 1) := by decide +kernel
theorem d_F_minus_2 : decode (jyc Y_F_minus) 2 = .ok (.iload_n 1, 1) := by decide +kernel
theorem d_F_minus_3 : decode (jyc Y_F_minus) 3 = .ok (.i2l, 1) := by decide +kernel
theorem d_F_minus_4 : decode (jyc Y_F_minus) 4 = .ok (.lsub, 1) := by decide +kernel
theorem d_F_minus_5 : decode (jyc Y_F_minus) 5 = .ok (.ldc2_w 10, 3) := by decide +kernel
theorem d_F_minus_8 : decode (jyc Y_F_minus) 8 = .ok (.ladd, 1) := by decide +kernel
theorem d_F_minus_9 : decode (jyc Y_F_minus) 9 = .ok (.ldc2_w 10, 3) := by decide +kernel
theorem d_F_minus_12 : decode (jyc Y_F_minus) 12 = .ok (.lrem, 1) := by decide +kernel
theorem d_F_minus_13 : decode (jyc Y_F_minus) 13 = .ok (.l2i, 1) := by decide +kernel
theorem d_F_minus_14 : decode (jyc Y_F_minus) 14 = .ok (.ireturn, 1) := by decide +kernel
theorem d_F_times_0 : decode (jyc Y_F_times) 0 = .ok (.iload_n 0, 1) := by decide +kernel
theorem d_F_times_1 : decode (jyc Y_F_times) 1 = .ok (.i2l, 1) := by decide +kernel
theorem d_F_times_2 : decode (jyc Y_F_times) 2 = .ok (.iload_n 1, 1) := by decide +kernel
theorem d_F_times_3 : decode (jyc Y_F_times) 3 = .ok (.i2l, 1) := by decide +kernel
theorem d_F_times_4 : decode (jyc Y_F_times) 4 = .ok (.lmul, 1) := by decide +kernel
theorem d_F_times_5 : decode (jyc Y_F_times) 5 = .ok (.ldc2_w 10, 3) := by decide +kernel
theorem d_F_times_8 : decode (jyc Y_F_times) 8 = .ok (.lrem, 1) := by decide +kernel
theorem d_F_times_9 : decode (jyc Y_F_times) 9 = .ok (.l2i, 1) := by decide +kernel
theorem d_F_times_10 : decode (jyc Y_F_times) 10 = .ok (.ireturn, 1) := by decide +kernel
theorem d_F_secret_0 : decode (jyc Y_F_secret) 0 = .ok (.lload_n 0, 1) := by decide +kernel
theorem d_F_secret_1 : decode (jyc Y_F_secret) 1 = .ok (.iload 4, 2) := by decide +kernel
theorem d_F_secret_3 : decode (jyc Y_F_secret) 3 = .ok (.i2l, 1) := by decide +kernel
theorem d_F_secret_4 : decode (jyc Y_F_secret) 4 = .ok (.ldc2_w 12, 3) := by decide +kernel
theorem d_F_secret_7 : decode (jyc Y_F_secret) 7 = .ok (.lmul, 1) := by decide +kernel
theorem d_F_secret_8 : decode (jyc Y_F_secret) 8 = .ok (.ladd, 1) := by decide +kernel
theorem d_F_secret_9 : decode (jyc Y_F_secret) 9 = .ok (.lstore 5, 2) := by decide +kernel
theorem d_F_secret_11 : decode (jyc Y_F_secret) 11 = .ok (.iconst 0, 1) := by decide +kernel
theorem d_F_secret_12 : decode (jyc Y_F_secret) 12 = .ok (.istore 7, 2) := by decide +kernel
theorem d_F_secret_14 : decode (jyc Y_F_secret) 14 = .ok (.iload 7, 2) := by decide +kernel
theorem d_F_secret_16 : decode (jyc Y_F_secret) 16 = .ok (.iconst 4, 1) := by decide +kernel
theorem d_F_secret_17 : decode (jyc Y_F_secret) 17 = .ok (.if_icmp .ge 49, 3) := by decide +kernel
theorem d_F_secret_20 : decode (jyc Y_F_secret) 20 = .ok (.lload 5, 2) := by decide +kernel
theorem d_F_secret_22 : decode (jyc Y_F_secret) 22 = .ok (.lload 5, 2) := by decide +kernel
theorem d_F_secret_24 : decode (jyc Y_F_secret) 24 = .ok (.bipush 30, 2) := by decide +kernel
theorem d_F_secret_26 : decode (jyc Y_F_secret) 26 = .ok (.lushr, 1) := by decide +kernel
theorem d_F_secret_27 : decode (jyc Y_F_secret) 27 = .ok (.lxor, 1) := by decide +kernel
theorem d_F_secret_28 : decode (jyc Y_F_secret) 28 = .ok (.ldc2_w 14, 3) := by decide +kernel
theorem d_F_secret_31 : decode (jyc Y_F_secret) 31 = .ok (.lmul, 1) := by decide +kernel
theorem d_F_secret_32 : decode (jyc Y_F_secret) 32 = .ok (.lstore 5, 2) := by decide +kernel
theorem d_F_secret_34 : decode (jyc Y_F_secret) 34 = .ok (.lload 5, 2) := by decide +kernel
theorem d_F_secret_36 : decode (jyc Y_F_secret) 36 = .ok (.lload 5, 2) := by decide +kernel
theorem d_F_secret_38 : decode (jyc Y_F_secret) 38 = .ok (.bipush 27, 2) := by decide +kernel
theorem d_F_secret_40 : decode (jyc Y_F_secret) 40 = .ok (.lushr, 1) := by decide +kernel
theorem d_F_secret_41 : decode (jyc Y_F_secret) 41 = .ok (.lxor, 1) := by decide +kernel
theorem d_F_secret_42 : decode (jyc Y_F_secret) 42 = .ok (.ldc2_w 16, 3) := by decide +kernel
theorem d_F_secret_45 : decode (jyc Y_F_secret) 45 = .ok (.lmul, 1) := by decide +kernel
theorem d_F_secret_46 : decode (jyc Y_F_secret) 46 = .ok (.lstore 5, 2) := by decide +kernel
theorem d_F_secret_48 : decode (jyc Y_F_secret) 48 = .ok (.lload 5, 2) := by decide +kernel
theorem d_F_secret_50 : decode (jyc Y_F_secret) 50 = .ok (.lload 5, 2) := by decide +kernel
theorem d_F_secret_52 : decode (jyc Y_F_secret) 52 = .ok (.bipush 31, 2) := by decide +kernel
theorem d_F_secret_54 : decode (jyc Y_F_secret) 54 = .ok (.lushr, 1) := by decide +kernel
theorem d_F_secret_55 : decode (jyc Y_F_secret) 55 = .ok (.lxor, 1) := by decide +kernel
theorem d_F_secret_56 : decode (jyc Y_F_secret) 56 = .ok (.lload_n 2, 1) := by decide +kernel
theorem d_F_secret_57 : decode (jyc Y_F_secret) 57 = .ok (.ladd, 1) := by decide +kernel
theorem d_F_secret_58 : decode (jyc Y_F_secret) 58 = .ok (.lstore 5, 2) := by decide +kernel
theorem d_F_secret_60 : decode (jyc Y_F_secret) 60 = .ok (.iinc 7 1, 3) := by decide +kernel
theorem d_F_secret_63 : decode (jyc Y_F_secret) 63 = .ok (.goto (-49), 3) := by decide +kernel
theorem d_F_secret_66 : decode (jyc Y_F_secret) 66 = .ok (.lload 5, 2) := by decide +kernel
theorem d_F_secret_68 : decode (jyc Y_F_secret) 68 = .ok (.bipush 33, 2) := by decide +kernel
theorem d_F_secret_70 : decode (jyc Y_F_secret) 70 = .ok (.lushr, 1) := by decide +kernel
theorem d_F_secret_71 : decode (jyc Y_F_secret) 71 = .ok (.ldc2_w 10, 3) := by decide +kernel
theorem d_F_secret_74 : decode (jyc Y_F_secret) 74 = .ok (.lrem, 1) := by decide +kernel
theorem d_F_secret_75 : decode (jyc Y_F_secret) 75 = .ok (.l2i, 1) := by decide +kernel
theorem d_F_secret_76 : decode (jyc Y_F_secret) 76 = .ok (.ireturn, 1) := by decide +kernel
theorem d_K_init_0 : decode (jyc Y_K_init) 0 = .ok (.aload_n 0, 1) := by decide +kernel
theorem d_K_init_1 : decode (jyc Y_K_init) 1 = .ok (.invokespecial 3, 3) := by decide +kernel
theorem d_K_init_4 : decode (jyc Y_K_init) 4 = .ok (.aload_n 0, 1) := by decide +kernel
theorem d_K_init_5 : decode (jyc Y_K_init) 5 = .ok (.iconst 3, 1) := by decide +kernel
theorem d_K_init_6 : decode (jyc Y_K_init) 6 = .ok (.anewarray 9, 3) := by decide +kernel
theorem d_K_init_9 : decode (jyc Y_K_init) 9 = .ok (.putfield 11, 3) := by decide +kernel
theorem d_K_init_12 : decode (jyc Y_K_init) 12 = .ok (.iconst 0, 1) := by decide +kernel
theorem d_K_init_13 : decode (jyc Y_K_init) 13 = .ok (.istore_n 1, 1) := by decide +kernel
theorem d_K_init_14 : decode (jyc Y_K_init) 14 = .ok (.iload_n 1, 1) := by decide +kernel
theorem d_K_init_15 : decode (jyc Y_K_init) 15 = .ok (.iconst 3, 1) := by decide +kernel
theorem d_K_init_16 : decode (jyc Y_K_init) 16 = .ok (.if_icmp .ge 22, 3) := by decide +kernel
theorem d_K_init_19 : decode (jyc Y_K_init) 19 = .ok (.aload_n 0, 1) := by decide +kernel
theorem d_K_init_20 : decode (jyc Y_K_init) 20 = .ok (.getfield 11, 3) := by decide +kernel
theorem d_K_init_23 : decode (jyc Y_K_init) 23 = .ok (.iload_n 1, 1) := by decide +kernel
theorem d_K_init_24 : decode (jyc Y_K_init) 24 = .ok (.new 9, 3) := by decide +kernel
theorem d_K_init_27 : decode (jyc Y_K_init) 27 = .ok (.dup, 1) := by decide +kernel
theorem d_K_init_28 : decode (jyc Y_K_init) 28 = .ok (.invokespecial 17, 3) := by decide +kernel
theorem d_K_init_31 : decode (jyc Y_K_init) 31 = .ok (.aastore, 1) := by decide +kernel
theorem d_K_init_32 : decode (jyc Y_K_init) 32 = .ok (.iinc 1 1, 3) := by decide +kernel
theorem d_K_init_35 : decode (jyc Y_K_init) 35 = .ok (.goto (-21), 3) := by decide +kernel
theorem d_K_init_38 : decode (jyc Y_K_init) 38 = .ok (.return_, 1) := by decide +kernel
theorem d_K_tally_0 : decode (jyc Y_K_tally) 0 = .ok (.iload_n 1, 1) := by decide +kernel
theorem d_K_tally_1 : decode (jyc Y_K_tally) 1 = .ok (.tableswitch 42 0 2 #[27, 32, 37], 27) := by decide +kernel
theorem d_K_tally_28 : decode (jyc Y_K_tally) 28 = .ok (.aload_n 0, 1) := by decide +kernel
theorem d_K_tally_29 : decode (jyc Y_K_tally) 29 = .ok (.getfield 18, 3) := by decide +kernel
theorem d_K_tally_32 : decode (jyc Y_K_tally) 32 = .ok (.ireturn, 1) := by decide +kernel
theorem d_K_tally_33 : decode (jyc Y_K_tally) 33 = .ok (.aload_n 0, 1) := by decide +kernel
theorem d_K_tally_34 : decode (jyc Y_K_tally) 34 = .ok (.getfield 22, 3) := by decide +kernel
theorem d_K_tally_37 : decode (jyc Y_K_tally) 37 = .ok (.ireturn, 1) := by decide +kernel
theorem d_K_tally_38 : decode (jyc Y_K_tally) 38 = .ok (.aload_n 0, 1) := by decide +kernel
theorem d_K_tally_39 : decode (jyc Y_K_tally) 39 = .ok (.getfield 25, 3) := by decide +kernel
theorem d_K_tally_42 : decode (jyc Y_K_tally) 42 = .ok (.ireturn, 1) := by decide +kernel
theorem d_K_tally_43 : decode (jyc Y_K_tally) 43 = .ok (.iconst (-1), 1) := by decide +kernel
theorem d_K_tally_44 : decode (jyc Y_K_tally) 44 = .ok (.ireturn, 1) := by decide +kernel
theorem d_R_init_0 : decode (jyc Y_R_init) 0 = .ok (.aload_n 0, 1) := by decide +kernel
theorem d_R_init_1 : decode (jyc Y_R_init) 1 = .ok (.invokespecial 3, 3) := by decide +kernel
theorem d_R_init_4 : decode (jyc Y_R_init) 4 = .ok (.aload_n 0, 1) := by decide +kernel
theorem d_R_init_5 : decode (jyc Y_R_init) 5 = .ok (.bipush 120, 2) := by decide +kernel
theorem d_R_init_7 : decode (jyc Y_R_init) 7 = .ok (.newarray .int, 2) := by decide +kernel
theorem d_R_init_9 : decode (jyc Y_R_init) 9 = .ok (.putfield 9, 3) := by decide +kernel
theorem d_R_init_12 : decode (jyc Y_R_init) 12 = .ok (.return_, 1) := by decide +kernel
theorem d_R_rowOfWord_0 : decode (jyc Y_R_rowOfWord) 0 = .ok (.iload_n 0, 1) := by decide +kernel
theorem d_R_rowOfWord_1 : decode (jyc Y_R_rowOfWord) 1 = .ok (.bipush 16, 2) := by decide +kernel
theorem d_R_rowOfWord_3 : decode (jyc Y_R_rowOfWord) 3 = .ok (.idiv, 1) := by decide +kernel
theorem d_R_rowOfWord_4 : decode (jyc Y_R_rowOfWord) 4 = .ok (.bipush 6, 2) := by decide +kernel
theorem d_R_rowOfWord_6 : decode (jyc Y_R_rowOfWord) 6 = .ok (.imul, 1) := by decide +kernel
theorem d_R_rowOfWord_7 : decode (jyc Y_R_rowOfWord) 7 = .ok (.iload_n 0, 1) := by decide +kernel
theorem d_R_rowOfWord_8 : decode (jyc Y_R_rowOfWord) 8 = .ok (.bipush 16, 2) := by decide +kernel
theorem d_R_rowOfWord_10 : decode (jyc Y_R_rowOfWord) 10 = .ok (.irem, 1) := by decide +kernel
theorem d_R_rowOfWord_11 : decode (jyc Y_R_rowOfWord) 11 = .ok (.iconst 4, 1) := by decide +kernel
theorem d_R_rowOfWord_12 : decode (jyc Y_R_rowOfWord) 12 = .ok (.idiv, 1) := by decide +kernel
theorem d_R_rowOfWord_13 : decode (jyc Y_R_rowOfWord) 13 = .ok (.iadd, 1) := by decide +kernel
theorem d_R_rowOfWord_14 : decode (jyc Y_R_rowOfWord) 14 = .ok (.ireturn, 1) := by decide +kernel
theorem d_R_get_0 : decode (jyc Y_R_get) 0 = .ok (.aload_n 0, 1) := by decide +kernel
theorem d_R_get_1 : decode (jyc Y_R_get) 1 = .ok (.getfield 9, 3) := by decide +kernel
theorem d_R_get_4 : decode (jyc Y_R_get) 4 = .ok (.iload_n 1, 1) := by decide +kernel
theorem d_R_get_5 : decode (jyc Y_R_get) 5 = .ok (.iconst 5, 1) := by decide +kernel
theorem d_R_get_6 : decode (jyc Y_R_get) 6 = .ok (.imul, 1) := by decide +kernel
theorem d_R_get_7 : decode (jyc Y_R_get) 7 = .ok (.iload_n 2, 1) := by decide +kernel
theorem d_R_get_8 : decode (jyc Y_R_get) 8 = .ok (.iadd, 1) := by decide +kernel
theorem d_R_get_9 : decode (jyc Y_R_get) 9 = .ok (.iaload, 1) := by decide +kernel
theorem d_R_get_10 : decode (jyc Y_R_get) 10 = .ok (.ireturn, 1) := by decide +kernel
theorem d_R_set_0 : decode (jyc Y_R_set) 0 = .ok (.aload_n 0, 1) := by decide +kernel
theorem d_R_set_1 : decode (jyc Y_R_set) 1 = .ok (.getfield 9, 3) := by decide +kernel
theorem d_R_set_4 : decode (jyc Y_R_set) 4 = .ok (.iload_n 1, 1) := by decide +kernel
theorem d_R_set_5 : decode (jyc Y_R_set) 5 = .ok (.iconst 5, 1) := by decide +kernel
theorem d_R_set_6 : decode (jyc Y_R_set) 6 = .ok (.imul, 1) := by decide +kernel
theorem d_R_set_7 : decode (jyc Y_R_set) 7 = .ok (.iload_n 2, 1) := by decide +kernel
theorem d_R_set_8 : decode (jyc Y_R_set) 8 = .ok (.iadd, 1) := by decide +kernel
theorem d_R_set_9 : decode (jyc Y_R_set) 9 = .ok (.iload_n 3, 1) := by decide +kernel
theorem d_R_set_10 : decode (jyc Y_R_set) 10 = .ok (.iastore, 1) := by decide +kernel
theorem d_R_set_11 : decode (jyc Y_R_set) 11 = .ok (.return_, 1) := by decide +kernel
theorem d_R_takeRow_0 : decode (jyc Y_R_takeRow) 0 = .ok (.aload_n 1, 1) := by decide +kernel
theorem d_R_takeRow_1 : decode (jyc Y_R_takeRow) 1 = .ok (.getfield 9, 3) := by decide +kernel
theorem d_R_takeRow_4 : decode (jyc Y_R_takeRow) 4 = .ok (.iload_n 2, 1) := by decide +kernel
theorem d_R_takeRow_5 : decode (jyc Y_R_takeRow) 5 = .ok (.iconst 5, 1) := by decide +kernel
theorem d_R_takeRow_6 : decode (jyc Y_R_takeRow) 6 = .ok (.imul, 1) := by decide +kernel
theorem d_R_takeRow_7 : decode (jyc Y_R_takeRow) 7 = .ok (.aload_n 0, 1) := by decide +kernel
theorem d_R_takeRow_8 : decode (jyc Y_R_takeRow) 8 = .ok (.getfield 9, 3) := by decide +kernel
theorem d_R_takeRow_11 : decode (jyc Y_R_takeRow) 11 = .ok (.iload_n 2, 1) := by decide +kernel
theorem d_R_takeRow_12 : decode (jyc Y_R_takeRow) 12 = .ok (.iconst 5, 1) := by decide +kernel
theorem d_R_takeRow_13 : decode (jyc Y_R_takeRow) 13 = .ok (.imul, 1) := by decide +kernel
theorem d_R_takeRow_14 : decode (jyc Y_R_takeRow) 14 = .ok (.iconst 5, 1) := by decide +kernel
theorem d_R_takeRow_15 : decode (jyc Y_R_takeRow) 15 = .ok (.invokestatic 15, 3) := by decide +kernel
theorem d_R_takeRow_18 : decode (jyc Y_R_takeRow) 18 = .ok (.return_, 1) := by decide +kernel
theorem d_R_clearRow_0 : decode (jyc Y_R_clearRow) 0 = .ok (.iconst 0, 1) := by decide +kernel
theorem d_R_clearRow_1 : decode (jyc Y_R_clearRow) 1 = .ok (.istore_n 2, 1) := by decide +kernel
theorem d_R_clearRow_2 : decode (jyc Y_R_clearRow) 2 = .ok (.iload_n 2, 1) := by decide +kernel
theorem d_R_clearRow_3 : decode (jyc Y_R_clearRow) 3 = .ok (.iconst 5, 1) := by decide +kernel
theorem d_R_clearRow_4 : decode (jyc Y_R_clearRow) 4 = .ok (.if_icmp .ge 16, 3) := by decide +kernel
theorem d_R_clearRow_7 : decode (jyc Y_R_clearRow) 7 = .ok (.aload_n 0, 1) := by decide +kernel
theorem d_R_clearRow_8 : decode (jyc Y_R_clearRow) 8 = .ok (.iload_n 1, 1) := by decide +kernel
theorem d_R_clearRow_9 : decode (jyc Y_R_clearRow) 9 = .ok (.iload_n 2, 1) := by decide +kernel
theorem d_R_clearRow_10 : decode (jyc Y_R_clearRow) 10 = .ok (.iconst 0, 1) := by decide +kernel
theorem d_R_clearRow_11 : decode (jyc Y_R_clearRow) 11 = .ok (.invokevirtual 21, 3) := by decide +kernel
theorem d_R_clearRow_14 : decode (jyc Y_R_clearRow) 14 = .ok (.iinc 2 1, 3) := by decide +kernel
theorem d_R_clearRow_17 : decode (jyc Y_R_clearRow) 17 = .ok (.goto (-15), 3) := by decide +kernel
theorem d_R_clearRow_20 : decode (jyc Y_R_clearRow) 20 = .ok (.return_, 1) := by decide +kernel
theorem d_R_sameRow_0 : decode (jyc Y_R_sameRow) 0 = .ok (.iconst 0, 1) := by decide +kernel
theorem d_R_sameRow_1 : decode (jyc Y_R_sameRow) 1 = .ok (.istore_n 3, 1) := by decide +kernel
theorem d_R_sameRow_2 : decode (jyc Y_R_sameRow) 2 = .ok (.iload_n 3, 1) := by decide +kernel
theorem d_R_sameRow_3 : decode (jyc Y_R_sameRow) 3 = .ok (.iconst 5, 1) := by decide +kernel
theorem d_R_sameRow_4 : decode (jyc Y_R_sameRow) 4 = .ok (.if_icmp .ge 26, 3) := by decide +kernel
theorem d_R_sameRow_7 : decode (jyc Y_R_sameRow) 7 = .ok (.aload_n 0, 1) := by decide +kernel
theorem d_R_sameRow_8 : decode (jyc Y_R_sameRow) 8 = .ok (.iload_n 2, 1) := by decide +kernel
theorem d_R_sameRow_9 : decode (jyc Y_R_sameRow) 9 = .ok (.iload_n 3, 1) := by decide +kernel
theorem d_R_sameRow_10 : decode (jyc Y_R_sameRow) 10 = .ok (.invokevirtual 25, 3) := by decide +kernel
theorem d_R_sameRow_13 : decode (jyc Y_R_sameRow) 13 = .ok (.aload_n 1, 1) := by decide +kernel
theorem d_R_sameRow_14 : decode (jyc Y_R_sameRow) 14 = .ok (.iload_n 2, 1) := by decide +kernel
theorem d_R_sameRow_15 : decode (jyc Y_R_sameRow) 15 = .ok (.iload_n 3, 1) := by decide +kernel
theorem d_R_sameRow_16 : decode (jyc Y_R_sameRow) 16 = .ok (.invokevirtual 25, 3) := by decide +kernel
theorem d_R_sameRow_19 : decode (jyc Y_R_sameRow) 19 = .ok (.if_icmp .eq 5, 3) := by decide +kernel
theorem d_R_sameRow_22 : decode (jyc Y_R_sameRow) 22 = .ok (.iconst 0, 1) := by decide +kernel
theorem d_R_sameRow_23 : decode (jyc Y_R_sameRow) 23 = .ok (.ireturn, 1) := by decide +kernel
theorem d_R_sameRow_24 : decode (jyc Y_R_sameRow) 24 = .ok (.iinc 3 1, 3) := by decide +kernel
theorem d_R_sameRow_27 : decode (jyc Y_R_sameRow) 27 = .ok (.goto (-25), 3) := by decide +kernel
theorem d_R_sameRow_30 : decode (jyc Y_R_sameRow) 30 = .ok (.iconst 1, 1) := by decide +kernel
theorem d_R_sameRow_31 : decode (jyc Y_R_sameRow) 31 = .ok (.ireturn, 1) := by decide +kernel
theorem d_R_spread_0 : decode (jyc Y_R_spread) 0 = .ok (.iconst 0, 1) := by decide +kernel
theorem d_R_spread_1 : decode (jyc Y_R_spread) 1 = .ok (.istore_n 2, 1) := by decide +kernel
theorem d_R_spread_2 : decode (jyc Y_R_spread) 2 = .ok (.iload_n 2, 1) := by decide +kernel
theorem d_R_spread_3 : decode (jyc Y_R_spread) 3 = .ok (.iconst 2, 1) := by decide +kernel
theorem d_R_spread_4 : decode (jyc Y_R_spread) 4 = .ok (.if_icmp .ge 39, 3) := by decide +kernel
theorem d_R_spread_7 : decode (jyc Y_R_spread) 7 = .ok (.iconst 0, 1) := by decide +kernel
theorem d_R_spread_8 : decode (jyc Y_R_spread) 8 = .ok (.istore_n 3, 1) := by decide +kernel
theorem d_R_spread_9 : decode (jyc Y_R_spread) 9 = .ok (.iload_n 3, 1) := by decide +kernel
theorem d_R_spread_10 : decode (jyc Y_R_spread) 10 = .ok (.iconst 4, 1) := by decide +kernel
theorem d_R_spread_11 : decode (jyc Y_R_spread) 11 = .ok (.if_icmp .ge 26, 3) := by decide +kernel
theorem d_R_spread_14 : decode (jyc Y_R_spread) 14 = .ok (.aload_n 0, 1) := by decide +kernel
theorem d_R_spread_15 : decode (jyc Y_R_spread) 15 = .ok (.iload_n 1, 1) := by decide +kernel
theorem d_R_spread_16 : decode (jyc Y_R_spread) 16 = .ok (.iconst 4, 1) := by decide +kernel
theorem d_R_spread_17 : decode (jyc Y_R_spread) 17 = .ok (.iadd, 1) := by decide +kernel
theorem d_R_spread_18 : decode (jyc Y_R_spread) 18 = .ok (.iload_n 2, 1) := by decide +kernel
theorem d_R_spread_19 : decode (jyc Y_R_spread) 19 = .ok (.iadd, 1) := by decide +kernel
theorem d_R_spread_20 : decode (jyc Y_R_spread) 20 = .ok (.iload_n 3, 1) := by decide +kernel
theorem d_R_spread_21 : decode (jyc Y_R_spread) 21 = .ok (.aload_n 0, 1) := by decide +kernel
theorem d_R_spread_22 : decode (jyc Y_R_spread) 22 = .ok (.iload_n 1, 1) := by decide +kernel
theorem d_R_spread_23 : decode (jyc Y_R_spread) 23 = .ok (.iload_n 2, 1) := by decide +kernel
theorem d_R_spread_24 : decode (jyc Y_R_spread) 24 = .ok (.iload_n 3, 1) := by decide +kernel
theorem d_R_spread_25 : decode (jyc Y_R_spread) 25 = .ok (.invokevirtual 29, 3) := by decide +kernel
theorem d_R_spread_28 : decode (jyc Y_R_spread) 28 = .ok (.invokevirtual 21, 3) := by decide +kernel
theorem d_R_spread_31 : decode (jyc Y_R_spread) 31 = .ok (.iinc 3 1, 3) := by decide +kernel
theorem d_R_spread_34 : decode (jyc Y_R_spread) 34 = .ok (.goto (-25), 3) := by decide +kernel
theorem d_R_spread_37 : decode (jyc Y_R_spread) 37 = .ok (.iinc 2 1, 3) := by decide +kernel
theorem d_R_spread_40 : decode (jyc Y_R_spread) 40 = .ok (.goto (-38), 3) := by decide +kernel
theorem d_R_spread_43 : decode (jyc Y_R_spread) 43 = .ok (.return_, 1) := by decide +kernel
theorem d_R_codedWord_0 : decode (jyc Y_R_codedWord) 0 = .ok (.iconst 0, 1) := by decide +kernel
theorem d_R_codedWord_1 : decode (jyc Y_R_codedWord) 1 = .ok (.istore 4, 2) := by decide +kernel
theorem d_R_codedWord_3 : decode (jyc Y_R_codedWord) 3 = .ok (.iconst 0, 1) := by decide +kernel
theorem d_R_codedWord_4 : decode (jyc Y_R_codedWord) 4 = .ok (.istore 5, 2) := by decide +kernel
theorem d_R_codedWord_6 : decode (jyc Y_R_codedWord) 6 = .ok (.iload 5, 2) := by decide +kernel
theorem d_R_codedWord_8 : decode (jyc Y_R_codedWord) 8 = .ok (.iconst 4, 1) := by decide +kernel
theorem d_R_codedWord_9 : decode (jyc Y_R_codedWord) 9 = .ok (.if_icmp .ge 38, 3) := by decide +kernel
theorem d_R_codedWord_12 : decode (jyc Y_R_codedWord) 12 = .ok (.iload 4, 2) := by decide +kernel
theorem d_R_codedWord_14 : decode (jyc Y_R_codedWord) 14 = .ok (.aload_n 0, 1) := by decide +kernel
theorem d_R_codedWord_15 : decode (jyc Y_R_codedWord) 15 = .ok (.iload_n 1, 1) := by decide +kernel
theorem d_R_codedWord_16 : decode (jyc Y_R_codedWord) 16 = .ok (.iload 5, 2) := by decide +kernel
theorem d_R_codedWord_18 : decode (jyc Y_R_codedWord) 18 = .ok (.iadd, 1) := by decide +kernel
theorem d_R_codedWord_19 : decode (jyc Y_R_codedWord) 19 = .ok (.iload_n 3, 1) := by decide +kernel
theorem d_R_codedWord_20 : decode (jyc Y_R_codedWord) 20 = .ok (.invokevirtual 25, 3) := by decide +kernel
theorem d_R_codedWord_23 : decode (jyc Y_R_codedWord) 23 = .ok (.getstatic 33, 3) := by decide +kernel
theorem d_R_codedWord_26 : decode (jyc Y_R_codedWord) 26 = .ok (.iconst 4, 1) := by decide +kernel
theorem d_R_codedWord_27 : decode (jyc Y_R_codedWord) 27 = .ok (.iload_n 2, 1) := by decide +kernel
theorem d_R_codedWord_28 : decode (jyc Y_R_codedWord) 28 = .ok (.iadd, 1) := by decide +kernel
theorem d_R_codedWord_29 : decode (jyc Y_R_codedWord) 29 = .ok (.iload 5, 2) := by decide +kernel
theorem d_R_codedWord_31 : decode (jyc Y_R_codedWord) 31 = .ok (.isub, 1) := by decide +kernel
theorem d_R_codedWord_32 : decode (jyc Y_R_codedWord) 32 = .ok (.iaload, 1) := by decide +kernel
theorem d_R_codedWord_33 : decode (jyc Y_R_codedWord) 33 = .ok (.invokestatic 38, 3) := by decide +kernel
theorem d_R_codedWord_36 : decode (jyc Y_R_codedWord) 36 = .ok (.invokestatic 41, 3) := by decide +kernel
theorem d_R_codedWord_39 : decode (jyc Y_R_codedWord) 39 = .ok (.istore 4, 2) := by decide +kernel
theorem d_R_codedWord_41 : decode (jyc Y_R_codedWord) 41 = .ok (.iinc 5 1, 3) := by decide +kernel
theorem d_R_codedWord_44 : decode (jyc Y_R_codedWord) 44 = .ok (.goto (-38), 3) := by decide +kernel
theorem d_R_codedWord_47 : decode (jyc Y_R_codedWord) 47 = .ok (.iload 4, 2) := by decide +kernel
theorem d_R_codedWord_49 : decode (jyc Y_R_codedWord) 49 = .ok (.ireturn, 1) := by decide +kernel
theorem d_R_recover_0 : decode (jyc Y_R_recover) 0 = .ok (.aload_n 2, 1) := by decide +kernel
theorem d_R_recover_1 : decode (jyc Y_R_recover) 1 = .ok (.iconst 0, 1) := by decide +kernel
theorem d_R_recover_2 : decode (jyc Y_R_recover) 2 = .ok (.invokestatic 44, 3) := by decide +kernel
theorem d_R_recover_5 : decode (jyc Y_R_recover) 5 = .ok (.istore_n 3, 1) := by decide +kernel
theorem d_R_recover_6 : decode (jyc Y_R_recover) 6 = .ok (.iload_n 3, 1) := by decide +kernel
theorem d_R_recover_7 : decode (jyc Y_R_recover) 7 = .ok (.iconst 4, 1) := by decide +kernel
theorem d_R_recover_8 : decode (jyc Y_R_recover) 8 = .ok (.if_icmp .ne 4, 3) := by decide +kernel
theorem d_R_recover_11 : decode (jyc Y_R_recover) 11 = .ok (.return_, 1) := by decide +kernel
theorem d_R_recover_12 : decode (jyc Y_R_recover) 12 = .ok (.aload_n 0, 1) := by decide +kernel
theorem d_R_recover_13 : decode (jyc Y_R_recover) 13 = .ok (.iload_n 1, 1) := by decide +kernel
theorem d_R_recover_14 : decode (jyc Y_R_recover) 14 = .ok (.iload_n 3, 1) := by decide +kernel
theorem d_R_recover_15 : decode (jyc Y_R_recover) 15 = .ok (.iadd, 1) := by decide +kernel
theorem d_R_recover_16 : decode (jyc Y_R_recover) 16 = .ok (.invokevirtual 48, 3) := by decide +kernel
theorem d_R_recover_19 : decode (jyc Y_R_recover) 19 = .ok (.aload_n 2, 1) := by decide +kernel
theorem d_R_recover_20 : decode (jyc Y_R_recover) 20 = .ok (.iload_n 3, 1) := by decide +kernel
theorem d_R_recover_21 : decode (jyc Y_R_recover) 21 = .ok (.iconst 1, 1) := by decide +kernel
theorem d_R_recover_22 : decode (jyc Y_R_recover) 22 = .ok (.iadd, 1) := by decide +kernel
theorem d_R_recover_23 : decode (jyc Y_R_recover) 23 = .ok (.invokestatic 44, 3) := by decide +kernel
theorem d_R_recover_26 : decode (jyc Y_R_recover) 26 = .ok (.istore 4, 2) := by decide +kernel
theorem d_R_recover_28 : decode (jyc Y_R_recover) 28 = .ok (.iload 4, 2) := by decide +kernel
theorem d_R_recover_30 : decode (jyc Y_R_recover) 30 = .ok (.iconst 4, 1) := by decide +kernel
theorem d_R_recover_31 : decode (jyc Y_R_recover) 31 = .ok (.if_icmp .ne 23, 3) := by decide +kernel
theorem d_R_recover_34 : decode (jyc Y_R_recover) 34 = .ok (.aload_n 0, 1) := by decide +kernel
theorem d_R_recover_35 : decode (jyc Y_R_recover) 35 = .ok (.iload_n 1, 1) := by decide +kernel
theorem d_R_recover_36 : decode (jyc Y_R_recover) 36 = .ok (.iload_n 3, 1) := by decide +kernel
theorem d_R_recover_37 : decode (jyc Y_R_recover) 37 = .ok (.aload_n 2, 1) := by decide +kernel
theorem d_R_recover_38 : decode (jyc Y_R_recover) 38 = .ok (.iconst 4, 1) := by decide +kernel
theorem d_R_recover_39 : decode (jyc Y_R_recover) 39 = .ok (.baload, 1) := by decide +kernel
end
section
/-! what each instruction is, part 3 -/
theorem d_R_recover_40 : decode (jyc Y_R_recover) 40 = .ok (.ifCond .eq 7, 3) := by decide +kernel
theorem d_R_recover_43 : decode (jyc Y_R_recover) 43 = .ok (.iconst 0, 1) := by decide +kernel
theorem d_R_recover_44 : decode (jyc Y_R_recover) 44 = .ok (.goto 4, 3) := by decide +kernel
theorem d_R_recover_47 : decode (jyc Y_R_recover) 47 = .ok (.iconst 1, 1) := by decide +kernel
theorem d_R_recover_48 : decode (jyc Y_R_recover) 48 = .ok (.invokevirtual 52, 3) := by decide +kernel
theorem d_R_recover_51 : decode (jyc Y_R_recover) 51 = .ok (.goto 19, 3) := by decide +kernel
theorem d_R_recover_54 : decode (jyc Y_R_recover) 54 = .ok (.aload_n 0, 1) := by decide +kernel
theorem d_R_recover_55 : decode (jyc Y_R_recover) 55 = .ok (.iload_n 1, 1) := by decide +kernel
theorem d_R_recover_56 : decode (jyc Y_R_recover) 56 = .ok (.iload 4, 2) := by decide +kernel
theorem d_R_recover_58 : decode (jyc Y_R_recover) 58 = .ok (.iadd, 1) := by decide +kernel
theorem d_R_recover_59 : decode (jyc Y_R_recover) 59 = .ok (.invokevirtual 48, 3) := by decide +kernel
theorem d_R_recover_62 : decode (jyc Y_R_recover) 62 = .ok (.aload_n 0, 1) := by decide +kernel
theorem d_R_recover_63 : decode (jyc Y_R_recover) 63 = .ok (.iload_n 1, 1) := by decide +kernel
theorem d_R_recover_64 : decode (jyc Y_R_recover) 64 = .ok (.iload_n 3, 1) := by decide +kernel
theorem d_R_recover_65 : decode (jyc Y_R_recover) 65 = .ok (.iload 4, 2) := by decide +kernel
theorem d_R_recover_67 : decode (jyc Y_R_recover) 67 = .ok (.invokevirtual 55, 3) := by decide +kernel
theorem d_R_recover_70 : decode (jyc Y_R_recover) 70 = .ok (.return_, 1) := by decide +kernel
theorem d_R_nextMissing_0 : decode (jyc Y_R_nextMissing) 0 = .ok (.iload_n 1, 1) := by decide +kernel
theorem d_R_nextMissing_1 : decode (jyc Y_R_nextMissing) 1 = .ok (.istore_n 2, 1) := by decide +kernel
theorem d_R_nextMissing_2 : decode (jyc Y_R_nextMissing) 2 = .ok (.iload_n 2, 1) := by decide +kernel
theorem d_R_nextMissing_3 : decode (jyc Y_R_nextMissing) 3 = .ok (.iconst 4, 1) := by decide +kernel
theorem d_R_nextMissing_4 : decode (jyc Y_R_nextMissing) 4 = .ok (.if_icmp .ge 17, 3) := by decide +kernel
theorem d_R_nextMissing_7 : decode (jyc Y_R_nextMissing) 7 = .ok (.aload_n 0, 1) := by decide +kernel
theorem d_R_nextMissing_8 : decode (jyc Y_R_nextMissing) 8 = .ok (.iload_n 2, 1) := by decide +kernel
theorem d_R_nextMissing_9 : decode (jyc Y_R_nextMissing) 9 = .ok (.baload, 1) := by decide +kernel
theorem d_R_nextMissing_10 : decode (jyc Y_R_nextMissing) 10 = .ok (.ifCond .ne 5, 3) := by decide +kernel
theorem d_R_nextMissing_13 : decode (jyc Y_R_nextMissing) 13 = .ok (.iload_n 2, 1) := by decide +kernel
theorem d_R_nextMissing_14 : decode (jyc Y_R_nextMissing) 14 = .ok (.ireturn, 1) := by decide +kernel
theorem d_R_nextMissing_15 : decode (jyc Y_R_nextMissing) 15 = .ok (.iinc 2 1, 3) := by decide +kernel
theorem d_R_nextMissing_18 : decode (jyc Y_R_nextMissing) 18 = .ok (.goto (-16), 3) := by decide +kernel
theorem d_R_nextMissing_21 : decode (jyc Y_R_nextMissing) 21 = .ok (.iconst 4, 1) := by decide +kernel
theorem d_R_nextMissing_22 : decode (jyc Y_R_nextMissing) 22 = .ok (.ireturn, 1) := by decide +kernel
theorem d_R_recoverOne_0 : decode (jyc Y_R_recoverOne) 0 = .ok (.iconst 0, 1) := by decide +kernel
theorem d_R_recoverOne_1 : decode (jyc Y_R_recoverOne) 1 = .ok (.istore 4, 2) := by decide +kernel
theorem d_R_recoverOne_3 : decode (jyc Y_R_recoverOne) 3 = .ok (.iload 4, 2) := by decide +kernel
theorem d_R_recoverOne_5 : decode (jyc Y_R_recoverOne) 5 = .ok (.iconst 4, 1) := by decide +kernel
theorem d_R_recoverOne_6 : decode (jyc Y_R_recoverOne) 6 = .ok (.if_icmp .ge 34, 3) := by decide +kernel
theorem d_R_recoverOne_9 : decode (jyc Y_R_recoverOne) 9 = .ok (.aload_n 0, 1) := by decide +kernel
theorem d_R_recoverOne_10 : decode (jyc Y_R_recoverOne) 10 = .ok (.iload_n 1, 1) := by decide +kernel
theorem d_R_recoverOne_11 : decode (jyc Y_R_recoverOne) 11 = .ok (.iload_n 2, 1) := by decide +kernel
theorem d_R_recoverOne_12 : decode (jyc Y_R_recoverOne) 12 = .ok (.iadd, 1) := by decide +kernel
theorem d_R_recoverOne_13 : decode (jyc Y_R_recoverOne) 13 = .ok (.iload 4, 2) := by decide +kernel
theorem d_R_recoverOne_15 : decode (jyc Y_R_recoverOne) 15 = .ok (.aload_n 0, 1) := by decide +kernel
theorem d_R_recoverOne_16 : decode (jyc Y_R_recoverOne) 16 = .ok (.iload_n 1, 1) := by decide +kernel
theorem d_R_recoverOne_17 : decode (jyc Y_R_recoverOne) 17 = .ok (.iload_n 3, 1) := by decide +kernel
theorem d_R_recoverOne_18 : decode (jyc Y_R_recoverOne) 18 = .ok (.iload 4, 2) := by decide +kernel
theorem d_R_recoverOne_20 : decode (jyc Y_R_recoverOne) 20 = .ok (.invokevirtual 58, 3) := by decide +kernel
theorem d_R_recoverOne_23 : decode (jyc Y_R_recoverOne) 23 = .ok (.iconst 4, 1) := by decide +kernel
theorem d_R_recoverOne_24 : decode (jyc Y_R_recoverOne) 24 = .ok (.iload_n 3, 1) := by decide +kernel
theorem d_R_recoverOne_25 : decode (jyc Y_R_recoverOne) 25 = .ok (.iadd, 1) := by decide +kernel
theorem d_R_recoverOne_26 : decode (jyc Y_R_recoverOne) 26 = .ok (.iload_n 2, 1) := by decide +kernel
theorem d_R_recoverOne_27 : decode (jyc Y_R_recoverOne) 27 = .ok (.isub, 1) := by decide +kernel
theorem d_R_recoverOne_28 : decode (jyc Y_R_recoverOne) 28 = .ok (.invokestatic 38, 3) := by decide +kernel
theorem d_R_recoverOne_31 : decode (jyc Y_R_recoverOne) 31 = .ok (.invokevirtual 21, 3) := by decide +kernel
theorem d_R_recoverOne_34 : decode (jyc Y_R_recoverOne) 34 = .ok (.iinc 4 1, 3) := by decide +kernel
theorem d_R_recoverOne_37 : decode (jyc Y_R_recoverOne) 37 = .ok (.goto (-34), 3) := by decide +kernel
theorem d_R_recoverOne_40 : decode (jyc Y_R_recoverOne) 40 = .ok (.return_, 1) := by decide +kernel
theorem d_R_recoverTwo_0 : decode (jyc Y_R_recoverTwo) 0 = .ok (.iconst 4, 1) := by decide +kernel
theorem d_R_recoverTwo_1 : decode (jyc Y_R_recoverTwo) 1 = .ok (.iload_n 2, 1) := by decide +kernel
theorem d_R_recoverTwo_2 : decode (jyc Y_R_recoverTwo) 2 = .ok (.isub, 1) := by decide +kernel
theorem d_R_recoverTwo_3 : decode (jyc Y_R_recoverTwo) 3 = .ok (.istore 4, 2) := by decide +kernel
theorem d_R_recoverTwo_5 : decode (jyc Y_R_recoverTwo) 5 = .ok (.iconst 4, 1) := by decide +kernel
theorem d_R_recoverTwo_6 : decode (jyc Y_R_recoverTwo) 6 = .ok (.iload_n 3, 1) := by decide +kernel
theorem d_R_recoverTwo_7 : decode (jyc Y_R_recoverTwo) 7 = .ok (.isub, 1) := by decide +kernel
theorem d_R_recoverTwo_8 : decode (jyc Y_R_recoverTwo) 8 = .ok (.istore 5, 2) := by decide +kernel
theorem d_R_recoverTwo_10 : decode (jyc Y_R_recoverTwo) 10 = .ok (.iconst 0, 1) := by decide +kernel
theorem d_R_recoverTwo_11 : decode (jyc Y_R_recoverTwo) 11 = .ok (.istore 6, 2) := by decide +kernel
theorem d_R_recoverTwo_13 : decode (jyc Y_R_recoverTwo) 13 = .ok (.iload 6, 2) := by decide +kernel
theorem d_R_recoverTwo_15 : decode (jyc Y_R_recoverTwo) 15 = .ok (.iconst 4, 1) := by decide +kernel
theorem d_R_recoverTwo_16 : decode (jyc Y_R_recoverTwo) 16 = .ok (.if_icmp .ge 107, 3) := by decide +kernel
theorem d_R_recoverTwo_19 : decode (jyc Y_R_recoverTwo) 19 = .ok (.aload_n 0, 1) := by decide +kernel
theorem d_R_recoverTwo_20 : decode (jyc Y_R_recoverTwo) 20 = .ok (.iload_n 1, 1) := by decide +kernel
theorem d_R_recoverTwo_21 : decode (jyc Y_R_recoverTwo) 21 = .ok (.iconst 0, 1) := by decide +kernel
theorem d_R_recoverTwo_22 : decode (jyc Y_R_recoverTwo) 22 = .ok (.iload 6, 2) := by decide +kernel
theorem d_R_recoverTwo_24 : decode (jyc Y_R_recoverTwo) 24 = .ok (.invokevirtual 58, 3) := by decide +kernel
theorem d_R_recoverTwo_27 : decode (jyc Y_R_recoverTwo) 27 = .ok (.iload 4, 2) := by decide +kernel
theorem d_R_recoverTwo_29 : decode (jyc Y_R_recoverTwo) 29 = .ok (.iload 5, 2) := by decide +kernel
theorem d_R_recoverTwo_31 : decode (jyc Y_R_recoverTwo) 31 = .ok (.imul, 1) := by decide +kernel
theorem d_R_recoverTwo_32 : decode (jyc Y_R_recoverTwo) 32 = .ok (.invokestatic 38, 3) := by decide +kernel
theorem d_R_recoverTwo_35 : decode (jyc Y_R_recoverTwo) 35 = .ok (.istore 7, 2) := by decide +kernel
theorem d_R_recoverTwo_37 : decode (jyc Y_R_recoverTwo) 37 = .ok (.aload_n 0, 1) := by decide +kernel
theorem d_R_recoverTwo_38 : decode (jyc Y_R_recoverTwo) 38 = .ok (.iload_n 1, 1) := by decide +kernel
theorem d_R_recoverTwo_39 : decode (jyc Y_R_recoverTwo) 39 = .ok (.iconst 1, 1) := by decide +kernel
theorem d_R_recoverTwo_40 : decode (jyc Y_R_recoverTwo) 40 = .ok (.iload 6, 2) := by decide +kernel
theorem d_R_recoverTwo_42 : decode (jyc Y_R_recoverTwo) 42 = .ok (.invokevirtual 58, 3) := by decide +kernel
theorem d_R_recoverTwo_45 : decode (jyc Y_R_recoverTwo) 45 = .ok (.iload 4, 2) := by decide +kernel
theorem d_R_recoverTwo_47 : decode (jyc Y_R_recoverTwo) 47 = .ok (.iconst 1, 1) := by decide +kernel
theorem d_R_recoverTwo_48 : decode (jyc Y_R_recoverTwo) 48 = .ok (.iadd, 1) := by decide +kernel
theorem d_R_recoverTwo_49 : decode (jyc Y_R_recoverTwo) 49 = .ok (.iload 5, 2) := by decide +kernel
theorem d_R_recoverTwo_51 : decode (jyc Y_R_recoverTwo) 51 = .ok (.iconst 1, 1) := by decide +kernel
theorem d_R_recoverTwo_52 : decode (jyc Y_R_recoverTwo) 52 = .ok (.iadd, 1) := by decide +kernel
theorem d_R_recoverTwo_53 : decode (jyc Y_R_recoverTwo) 53 = .ok (.imul, 1) := by decide +kernel
theorem d_R_recoverTwo_54 : decode (jyc Y_R_recoverTwo) 54 = .ok (.invokestatic 38, 3) := by decide +kernel
theorem d_R_recoverTwo_57 : decode (jyc Y_R_recoverTwo) 57 = .ok (.iload 7, 2) := by decide +kernel
theorem d_R_recoverTwo_59 : decode (jyc Y_R_recoverTwo) 59 = .ok (.invokestatic 61, 3) := by decide +kernel
theorem d_R_recoverTwo_62 : decode (jyc Y_R_recoverTwo) 62 = .ok (.istore 8, 2) := by decide +kernel
theorem d_R_recoverTwo_64 : decode (jyc Y_R_recoverTwo) 64 = .ok (.iload 7, 2) := by decide +kernel
theorem d_R_recoverTwo_66 : decode (jyc Y_R_recoverTwo) 66 = .ok (.iload 8, 2) := by decide +kernel
theorem d_R_recoverTwo_68 : decode (jyc Y_R_recoverTwo) 68 = .ok (.iload 5, 2) := by decide +kernel
theorem d_R_recoverTwo_70 : decode (jyc Y_R_recoverTwo) 70 = .ok (.invokestatic 38, 3) := by decide +kernel
theorem d_R_recoverTwo_73 : decode (jyc Y_R_recoverTwo) 73 = .ok (.invokestatic 61, 3) := by decide +kernel
theorem d_R_recoverTwo_76 : decode (jyc Y_R_recoverTwo) 76 = .ok (.getstatic 33, 3) := by decide +kernel
theorem d_R_recoverTwo_79 : decode (jyc Y_R_recoverTwo) 79 = .ok (.iload 4, 2) := by decide +kernel
theorem d_R_recoverTwo_81 : decode (jyc Y_R_recoverTwo) 81 = .ok (.iload 5, 2) := by decide +kernel
theorem d_R_recoverTwo_83 : decode (jyc Y_R_recoverTwo) 83 = .ok (.isub, 1) := by decide +kernel
theorem d_R_recoverTwo_84 : decode (jyc Y_R_recoverTwo) 84 = .ok (.iaload, 1) := by decide +kernel
theorem d_R_recoverTwo_85 : decode (jyc Y_R_recoverTwo) 85 = .ok (.invokestatic 38, 3) := by decide +kernel
theorem d_R_recoverTwo_88 : decode (jyc Y_R_recoverTwo) 88 = .ok (.istore 9, 2) := by decide +kernel
theorem d_R_recoverTwo_90 : decode (jyc Y_R_recoverTwo) 90 = .ok (.aload_n 0, 1) := by decide +kernel
theorem d_R_recoverTwo_91 : decode (jyc Y_R_recoverTwo) 91 = .ok (.iload_n 1, 1) := by decide +kernel
theorem d_R_recoverTwo_92 : decode (jyc Y_R_recoverTwo) 92 = .ok (.iload_n 2, 1) := by decide +kernel
theorem d_R_recoverTwo_93 : decode (jyc Y_R_recoverTwo) 93 = .ok (.iadd, 1) := by decide +kernel
theorem d_R_recoverTwo_94 : decode (jyc Y_R_recoverTwo) 94 = .ok (.iload 6, 2) := by decide +kernel
theorem d_R_recoverTwo_96 : decode (jyc Y_R_recoverTwo) 96 = .ok (.iload 8, 2) := by decide +kernel
theorem d_R_recoverTwo_98 : decode (jyc Y_R_recoverTwo) 98 = .ok (.iload 9, 2) := by decide +kernel
theorem d_R_recoverTwo_100 : decode (jyc Y_R_recoverTwo) 100 = .ok (.invokestatic 61, 3) := by decide +kernel
theorem d_R_recoverTwo_103 : decode (jyc Y_R_recoverTwo) 103 = .ok (.invokevirtual 21, 3) := by decide +kernel
theorem d_R_recoverTwo_106 : decode (jyc Y_R_recoverTwo) 106 = .ok (.aload_n 0, 1) := by decide +kernel
theorem d_R_recoverTwo_107 : decode (jyc Y_R_recoverTwo) 107 = .ok (.iload_n 1, 1) := by decide +kernel
theorem d_R_recoverTwo_108 : decode (jyc Y_R_recoverTwo) 108 = .ok (.iload_n 3, 1) := by decide +kernel
theorem d_R_recoverTwo_109 : decode (jyc Y_R_recoverTwo) 109 = .ok (.iadd, 1) := by decide +kernel
theorem d_R_recoverTwo_110 : decode (jyc Y_R_recoverTwo) 110 = .ok (.iload 6, 2) := by decide +kernel
theorem d_R_recoverTwo_112 : decode (jyc Y_R_recoverTwo) 112 = .ok (.iload 9, 2) := by decide +kernel
theorem d_R_recoverTwo_114 : decode (jyc Y_R_recoverTwo) 114 = .ok (.invokevirtual 21, 3) := by decide +kernel
theorem d_R_recoverTwo_117 : decode (jyc Y_R_recoverTwo) 117 = .ok (.iinc 6 1, 3) := by decide +kernel
theorem d_R_recoverTwo_120 : decode (jyc Y_R_recoverTwo) 120 = .ok (.goto (-107), 3) := by decide +kernel
theorem d_R_recoverTwo_123 : decode (jyc Y_R_recoverTwo) 123 = .ok (.return_, 1) := by decide +kernel
theorem d_R_rest_0 : decode (jyc Y_R_rest) 0 = .ok (.aload_n 0, 1) := by decide +kernel
theorem d_R_rest_1 : decode (jyc Y_R_rest) 1 = .ok (.iload_n 1, 1) := by decide +kernel
theorem d_R_rest_2 : decode (jyc Y_R_rest) 2 = .ok (.iconst 4, 1) := by decide +kernel
theorem d_R_rest_3 : decode (jyc Y_R_rest) 3 = .ok (.iadd, 1) := by decide +kernel
theorem d_R_rest_4 : decode (jyc Y_R_rest) 4 = .ok (.iload_n 2, 1) := by decide +kernel
theorem d_R_rest_5 : decode (jyc Y_R_rest) 5 = .ok (.iadd, 1) := by decide +kernel
theorem d_R_rest_6 : decode (jyc Y_R_rest) 6 = .ok (.iload_n 3, 1) := by decide +kernel
theorem d_R_rest_7 : decode (jyc Y_R_rest) 7 = .ok (.invokevirtual 25, 3) := by decide +kernel
theorem d_R_rest_10 : decode (jyc Y_R_rest) 10 = .ok (.aload_n 0, 1) := by decide +kernel
theorem d_R_rest_11 : decode (jyc Y_R_rest) 11 = .ok (.iload_n 1, 1) := by decide +kernel
theorem d_R_rest_12 : decode (jyc Y_R_rest) 12 = .ok (.iload_n 2, 1) := by decide +kernel
theorem d_R_rest_13 : decode (jyc Y_R_rest) 13 = .ok (.iload_n 3, 1) := by decide +kernel
theorem d_R_rest_14 : decode (jyc Y_R_rest) 14 = .ok (.invokevirtual 29, 3) := by decide +kernel
theorem d_R_rest_17 : decode (jyc Y_R_rest) 17 = .ok (.invokestatic 61, 3) := by decide +kernel
theorem d_R_rest_20 : decode (jyc Y_R_rest) 20 = .ok (.ireturn, 1) := by decide +kernel
theorem d_W_key_0 : decode (jyc Y_W_key) 0 = .ok (.aload_n 0, 1) := by decide +kernel
theorem d_W_key_1 : decode (jyc Y_W_key) 1 = .ok (.lload_n 1, 1) := by decide +kernel
theorem d_W_key_2 : decode (jyc Y_W_key) 2 = .ok (.lload_n 3, 1) := by decide +kernel
theorem d_W_key_3 : decode (jyc Y_W_key) 3 = .ok (.invokevirtual 7, 3) := by decide +kernel
theorem d_W_key_6 : decode (jyc Y_W_key) 6 = .ok (.goto 7, 3) := by decide +kernel
theorem d_W_key_9 : decode (jyc Y_W_key) 9 = .ok (.astore 5, 2) := by decide +kernel
theorem d_W_key_11 : decode (jyc Y_W_key) 11 = .ok (.iconst 1, 1) := by decide +kernel
theorem d_W_key_12 : decode (jyc Y_W_key) 12 = .ok (.ireturn, 1) := by decide +kernel
theorem d_W_key_13 : decode (jyc Y_W_key) 13 = .ok (.iconst 0, 1) := by decide +kernel
theorem d_W_key_14 : decode (jyc Y_W_key) 14 = .ok (.ireturn, 1) := by decide +kernel
theorem d_W_file_0 : decode (jyc Y_W_file) 0 = .ok (.aload_n 2, 1) := by decide +kernel
theorem d_W_file_1 : decode (jyc Y_W_file) 1 = .ok (.iconst 0, 1) := by decide +kernel
theorem d_W_file_2 : decode (jyc Y_W_file) 2 = .ok (.aload_n 0, 1) := by decide +kernel
theorem d_W_file_3 : decode (jyc Y_W_file) 3 = .ok (.iload_n 1, 1) := by decide +kernel
theorem d_W_file_4 : decode (jyc Y_W_file) 4 = .ok (.invokevirtual 15, 3) := by decide +kernel
theorem d_W_file_7 : decode (jyc Y_W_file) 7 = .ok (.i2l, 1) := by decide +kernel
theorem d_W_file_8 : decode (jyc Y_W_file) 8 = .ok (.lastore, 1) := by decide +kernel
theorem d_W_file_9 : decode (jyc Y_W_file) 9 = .ok (.goto 9, 3) := by decide +kernel
theorem d_W_file_12 : decode (jyc Y_W_file) 12 = .ok (.astore_n 3, 1) := by decide +kernel
theorem d_W_file_13 : decode (jyc Y_W_file) 13 = .ok (.iconst 1, 1) := by decide +kernel
theorem d_W_file_14 : decode (jyc Y_W_file) 14 = .ok (.ireturn, 1) := by decide +kernel
theorem d_W_file_15 : decode (jyc Y_W_file) 15 = .ok (.astore_n 3, 1) := by decide +kernel
theorem d_W_file_16 : decode (jyc Y_W_file) 16 = .ok (.iconst 2, 1) := by decide +kernel
theorem d_W_file_17 : decode (jyc Y_W_file) 17 = .ok (.ireturn, 1) := by decide +kernel
theorem d_W_file_18 : decode (jyc Y_W_file) 18 = .ok (.iconst 0, 1) := by decide +kernel
theorem d_W_file_19 : decode (jyc Y_W_file) 19 = .ok (.ireturn, 1) := by decide +kernel
theorem d_W_place_0 : decode (jyc Y_W_place) 0 = .ok (.aload_n 3, 1) := by decide +kernel
theorem d_W_place_1 : decode (jyc Y_W_place) 1 = .ok (.iconst 0, 1) := by decide +kernel
theorem d_W_place_2 : decode (jyc Y_W_place) 2 = .ok (.aload_n 0, 1) := by decide +kernel
theorem d_W_place_3 : decode (jyc Y_W_place) 3 = .ok (.iload_n 1, 1) := by decide +kernel
theorem d_W_place_4 : decode (jyc Y_W_place) 4 = .ok (.iload_n 2, 1) := by decide +kernel
theorem d_W_place_5 : decode (jyc Y_W_place) 5 = .ok (.invokevirtual 21, 3) := by decide +kernel
theorem d_W_place_8 : decode (jyc Y_W_place) 8 = .ok (.ifCond .eq 7, 3) := by decide +kernel
theorem d_W_place_11 : decode (jyc Y_W_place) 11 = .ok (.lconst 1, 1) := by decide +kernel
theorem d_W_place_12 : decode (jyc Y_W_place) 12 = .ok (.goto 4, 3) := by decide +kernel
theorem d_W_place_15 : decode (jyc Y_W_place) 15 = .ok (.lconst 0, 1) := by decide +kernel
theorem d_W_place_16 : decode (jyc Y_W_place) 16 = .ok (.lastore, 1) := by decide +kernel
theorem d_W_place_17 : decode (jyc Y_W_place) 17 = .ok (.goto 7, 3) := by decide +kernel
theorem d_W_place_20 : decode (jyc Y_W_place) 20 = .ok (.astore 4, 2) := by decide +kernel
theorem d_W_place_22 : decode (jyc Y_W_place) 22 = .ok (.iconst 1, 1) := by decide +kernel
theorem d_W_place_23 : decode (jyc Y_W_place) 23 = .ok (.ireturn, 1) := by decide +kernel
theorem d_W_place_24 : decode (jyc Y_W_place) 24 = .ok (.iconst 0, 1) := by decide +kernel
theorem d_W_place_25 : decode (jyc Y_W_place) 25 = .ok (.ireturn, 1) := by decide +kernel
theorem d_W_lose_0 : decode (jyc Y_W_lose) 0 = .ok (.aload 4, 2) := by decide +kernel
theorem d_W_lose_2 : decode (jyc Y_W_lose) 2 = .ok (.iconst 0, 1) := by decide +kernel
theorem d_W_lose_3 : decode (jyc Y_W_lose) 3 = .ok (.aload_n 0, 1) := by decide +kernel
theorem d_W_lose_4 : decode (jyc Y_W_lose) 4 = .ok (.iload_n 1, 1) := by decide +kernel
theorem d_W_lose_5 : decode (jyc Y_W_lose) 5 = .ok (.iload_n 2, 1) := by decide +kernel
theorem d_W_lose_6 : decode (jyc Y_W_lose) 6 = .ok (.iload_n 3, 1) := by decide +kernel
theorem d_W_lose_7 : decode (jyc Y_W_lose) 7 = .ok (.invokevirtual 27, 3) := by decide +kernel
theorem d_W_lose_10 : decode (jyc Y_W_lose) 10 = .ok (.ifCond .eq 7, 3) := by decide +kernel
theorem d_W_lose_13 : decode (jyc Y_W_lose) 13 = .ok (.lconst 1, 1) := by decide +kernel
theorem d_W_lose_14 : decode (jyc Y_W_lose) 14 = .ok (.goto 4, 3) := by decide +kernel
theorem d_W_lose_17 : decode (jyc Y_W_lose) 17 = .ok (.lconst 0, 1) := by decide +kernel
theorem d_W_lose_18 : decode (jyc Y_W_lose) 18 = .ok (.lastore, 1) := by decide +kernel
theorem d_W_lose_19 : decode (jyc Y_W_lose) 19 = .ok (.goto 7, 3) := by decide +kernel
theorem d_W_lose_22 : decode (jyc Y_W_lose) 22 = .ok (.astore 5, 2) := by decide +kernel
theorem d_W_lose_24 : decode (jyc Y_W_lose) 24 = .ok (.iconst 1, 1) := by decide +kernel
theorem d_W_lose_25 : decode (jyc Y_W_lose) 25 = .ok (.ireturn, 1) := by decide +kernel
theorem d_W_lose_26 : decode (jyc Y_W_lose) 26 = .ok (.iconst 0, 1) := by decide +kernel
theorem d_W_lose_27 : decode (jyc Y_W_lose) 27 = .ok (.ireturn, 1) := by decide +kernel
theorem d_W_change_0 : decode (jyc Y_W_change) 0 = .ok (.aload 6, 2) := by decide +kernel
theorem d_W_change_2 : decode (jyc Y_W_change) 2 = .ok (.iconst 0, 1) := by decide +kernel
theorem d_W_change_3 : decode (jyc Y_W_change) 3 = .ok (.aload_n 0, 1) := by decide +kernel
theorem d_W_change_4 : decode (jyc Y_W_change) 4 = .ok (.iload_n 1, 1) := by decide +kernel
theorem d_W_change_5 : decode (jyc Y_W_change) 5 = .ok (.iload_n 2, 1) := by decide +kernel
theorem d_W_change_6 : decode (jyc Y_W_change) 6 = .ok (.iload_n 3, 1) := by decide +kernel
theorem d_W_change_7 : decode (jyc Y_W_change) 7 = .ok (.iload 4, 2) := by decide +kernel
theorem d_W_change_9 : decode (jyc Y_W_change) 9 = .ok (.iload 5, 2) := by decide +kernel
theorem d_W_change_11 : decode (jyc Y_W_change) 11 = .ok (.invokevirtual 31, 3) := by decide +kernel
theorem d_W_change_14 : decode (jyc Y_W_change) 14 = .ok (.i2l, 1) := by decide +kernel
theorem d_W_change_15 : decode (jyc Y_W_change) 15 = .ok (.lastore, 1) := by decide +kernel
theorem d_W_change_16 : decode (jyc Y_W_change) 16 = .ok (.goto 11, 3) := by decide +kernel
theorem d_W_change_19 : decode (jyc Y_W_change) 19 = .ok (.astore 7, 2) := by decide +kernel
theorem d_W_change_21 : decode (jyc Y_W_change) 21 = .ok (.iconst 1, 1) := by decide +kernel
theorem d_W_change_22 : decode (jyc Y_W_change) 22 = .ok (.ireturn, 1) := by decide +kernel
theorem d_W_change_23 : decode (jyc Y_W_change) 23 = .ok (.astore 7, 2) := by decide +kernel
theorem d_W_change_25 : decode (jyc Y_W_change) 25 = .ok (.iconst 2, 1) := by decide +kernel
theorem d_W_change_26 : decode (jyc Y_W_change) 26 = .ok (.ireturn, 1) := by decide +kernel
theorem d_W_change_27 : decode (jyc Y_W_change) 27 = .ok (.iconst 0, 1) := by decide +kernel
theorem d_W_change_28 : decode (jyc Y_W_change) 28 = .ok (.ireturn, 1) := by decide +kernel
theorem d_W_challenge_0 : decode (jyc Y_W_challenge) 0 = .ok (.aload 5, 2) := by decide +kernel
theorem d_W_challenge_2 : decode (jyc Y_W_challenge) 2 = .ok (.iconst 0, 1) := by decide +kernel
theorem d_W_challenge_3 : decode (jyc Y_W_challenge) 3 = .ok (.aload_n 0, 1) := by decide +kernel
theorem d_W_challenge_4 : decode (jyc Y_W_challenge) 4 = .ok (.iload_n 1, 1) := by decide +kernel
theorem d_W_challenge_5 : decode (jyc Y_W_challenge) 5 = .ok (.iload_n 2, 1) := by decide +kernel
theorem d_W_challenge_6 : decode (jyc Y_W_challenge) 6 = .ok (.iload_n 3, 1) := by decide +kernel
theorem d_W_challenge_7 : decode (jyc Y_W_challenge) 7 = .ok (.iload 4, 2) := by decide +kernel
theorem d_W_challenge_9 : decode (jyc Y_W_challenge) 9 = .ok (.invokevirtual 35, 3) := by decide +kernel
theorem d_W_challenge_12 : decode (jyc Y_W_challenge) 12 = .ok (.i2l, 1) := by decide +kernel
theorem d_W_challenge_13 : decode (jyc Y_W_challenge) 13 = .ok (.lastore, 1) := by decide +kernel
theorem d_W_challenge_14 : decode (jyc Y_W_challenge) 14 = .ok (.goto 7, 3) := by decide +kernel
theorem d_W_challenge_17 : decode (jyc Y_W_challenge) 17 = .ok (.astore 6, 2) := by decide +kernel
theorem d_W_challenge_19 : decode (jyc Y_W_challenge) 19 = .ok (.iconst 1, 1) := by decide +kernel
theorem d_W_challenge_20 : decode (jyc Y_W_challenge) 20 = .ok (.ireturn, 1) := by decide +kernel
theorem d_W_challenge_21 : decode (jyc Y_W_challenge) 21 = .ok (.iconst 0, 1) := by decide +kernel
theorem d_W_challenge_22 : decode (jyc Y_W_challenge) 22 = .ok (.ireturn, 1) := by decide +kernel
theorem d_W_judge_0 : decode (jyc Y_W_judge) 0 = .ok (.aload_n 1, 1) := by decide +kernel
theorem d_W_judge_1 : decode (jyc Y_W_judge) 1 = .ok (.iconst 0, 1) := by decide +kernel
theorem d_W_judge_2 : decode (jyc Y_W_judge) 2 = .ok (.aload_n 0, 1) := by decide +kernel
theorem d_W_judge_3 : decode (jyc Y_W_judge) 3 = .ok (.invokevirtual 39, 3) := by decide +kernel
theorem d_W_judge_6 : decode (jyc Y_W_judge) 6 = .ok (.ifCond .eq 7, 3) := by decide +kernel
theorem d_W_judge_9 : decode (jyc Y_W_judge) 9 = .ok (.lconst 1, 1) := by decide +kernel
theorem d_W_judge_10 : decode (jyc Y_W_judge) 10 = .ok (.goto 4, 3) := by decide +kernel
theorem d_W_judge_13 : decode (jyc Y_W_judge) 13 = .ok (.lconst 0, 1) := by decide +kernel
theorem d_W_judge_14 : decode (jyc Y_W_judge) 14 = .ok (.lastore, 1) := by decide +kernel
theorem d_W_judge_15 : decode (jyc Y_W_judge) 15 = .ok (.goto 6, 3) := by decide +kernel
theorem d_W_judge_18 : decode (jyc Y_W_judge) 18 = .ok (.astore_n 2, 1) := by decide +kernel
theorem d_W_judge_19 : decode (jyc Y_W_judge) 19 = .ok (.iconst 1, 1) := by decide +kernel
theorem d_W_judge_20 : decode (jyc Y_W_judge) 20 = .ok (.ireturn, 1) := by decide +kernel
theorem d_W_judge_21 : decode (jyc Y_W_judge) 21 = .ok (.iconst 0, 1) := by decide +kernel
theorem d_W_judge_22 : decode (jyc Y_W_judge) 22 = .ok (.ireturn, 1) := by decide +kernel
theorem d_W_locate_0 : decode (jyc Y_W_locate) 0 = .ok (.aload_n 3, 1) := by decide +kernel
theorem d_W_locate_1 : decode (jyc Y_W_locate) 1 = .ok (.iconst 0, 1) := by decide +kernel
theorem d_W_locate_2 : decode (jyc Y_W_locate) 2 = .ok (.aload_n 0, 1) := by decide +kernel
theorem d_W_locate_3 : decode (jyc Y_W_locate) 3 = .ok (.iload_n 1, 1) := by decide +kernel
theorem d_W_locate_4 : decode (jyc Y_W_locate) 4 = .ok (.iload_n 2, 1) := by decide +kernel
theorem d_W_locate_5 : decode (jyc Y_W_locate) 5 = .ok (.invokevirtual 43, 3) := by decide +kernel
theorem d_W_locate_8 : decode (jyc Y_W_locate) 8 = .ok (.i2l, 1) := by decide +kernel
theorem d_W_locate_9 : decode (jyc Y_W_locate) 9 = .ok (.lastore, 1) := by decide +kernel
theorem d_W_locate_10 : decode (jyc Y_W_locate) 10 = .ok (.goto 7, 3) := by decide +kernel
theorem d_W_locate_13 : decode (jyc Y_W_locate) 13 = .ok (.astore 4, 2) := by decide +kernel
theorem d_W_locate_15 : decode (jyc Y_W_locate) 15 = .ok (.iconst 1, 1) := by decide +kernel
theorem d_W_locate_16 : decode (jyc Y_W_locate) 16 = .ok (.ireturn, 1) := by decide +kernel
theorem d_W_locate_17 : decode (jyc Y_W_locate) 17 = .ok (.iconst 0, 1) := by decide +kernel
theorem d_W_locate_18 : decode (jyc Y_W_locate) 18 = .ok (.ireturn, 1) := by decide +kernel
theorem d_W_repair_0 : decode (jyc Y_W_repair) 0 = .ok (.aload_n 3, 1) := by decide +kernel
theorem d_W_repair_1 : decode (jyc Y_W_repair) 1 = .ok (.iconst 0, 1) := by decide +kernel
theorem d_W_repair_2 : decode (jyc Y_W_repair) 2 = .ok (.aload_n 0, 1) := by decide +kernel
theorem d_W_repair_3 : decode (jyc Y_W_repair) 3 = .ok (.iload_n 1, 1) := by decide +kernel
theorem d_W_repair_4 : decode (jyc Y_W_repair) 4 = .ok (.iload_n 2, 1) := by decide +kernel
theorem d_W_repair_5 : decode (jyc Y_W_repair) 5 = .ok (.invokevirtual 47, 3) := by decide +kernel
theorem d_W_repair_8 : decode (jyc Y_W_repair) 8 = .ok (.i2l, 1) := by decide +kernel
theorem d_W_repair_9 : decode (jyc Y_W_repair) 9 = .ok (.lastore, 1) := by decide +kernel
theorem d_W_repair_10 : decode (jyc Y_W_repair) 10 = .ok (.goto 11, 3) := by decide +kernel
theorem d_W_repair_13 : decode (jyc Y_W_repair) 13 = .ok (.astore 4, 2) := by decide +kernel
theorem d_W_repair_15 : decode (jyc Y_W_repair) 15 = .ok (.iconst 1, 1) := by decide +kernel
theorem d_W_repair_16 : decode (jyc Y_W_repair) 16 = .ok (.ireturn, 1) := by decide +kernel
theorem d_W_repair_17 : decode (jyc Y_W_repair) 17 = .ok (.astore 4, 2) := by decide +kernel
theorem d_W_repair_19 : decode (jyc Y_W_repair) 19 = .ok (.iconst 2, 1) := by decide +kernel
theorem d_W_repair_20 : decode (jyc Y_W_repair) 20 = .ok (.ireturn, 1) := by decide +kernel
theorem d_W_repair_21 : decode (jyc Y_W_repair) 21 = .ok (.iconst 0, 1) := by decide +kernel
theorem d_W_repair_22 : decode (jyc Y_W_repair) 22 = .ok (.ireturn, 1) := by decide +kernel
theorem d_W_fetch_0 : decode (jyc Y_W_fetch) 0 = .ok (.aload_n 2, 1) := by decide +kernel
theorem d_W_fetch_1 : decode (jyc Y_W_fetch) 1 = .ok (.iconst 0, 1) := by decide +kernel
theorem d_W_fetch_2 : decode (jyc Y_W_fetch) 2 = .ok (.aload_n 0, 1) := by decide +kernel
theorem d_W_fetch_3 : decode (jyc Y_W_fetch) 3 = .ok (.iload_n 1, 1) := by decide +kernel
theorem d_W_fetch_4 : decode (jyc Y_W_fetch) 4 = .ok (.invokevirtual 50, 3) := by decide +kernel
theorem d_W_fetch_7 : decode (jyc Y_W_fetch) 7 = .ok (.i2l, 1) := by decide +kernel
theorem d_W_fetch_8 : decode (jyc Y_W_fetch) 8 = .ok (.lastore, 1) := by decide +kernel
theorem d_W_fetch_9 : decode (jyc Y_W_fetch) 9 = .ok (.goto 9, 3) := by decide +kernel
theorem d_W_fetch_12 : decode (jyc Y_W_fetch) 12 = .ok (.astore_n 3, 1) := by decide +kernel
theorem d_W_fetch_13 : decode (jyc Y_W_fetch) 13 = .ok (.iconst 1, 1) := by decide +kernel
theorem d_W_fetch_14 : decode (jyc Y_W_fetch) 14 = .ok (.ireturn, 1) := by decide +kernel
theorem d_W_fetch_15 : decode (jyc Y_W_fetch) 15 = .ok (.astore_n 3, 1) := by decide +kernel
theorem d_W_fetch_16 : decode (jyc Y_W_fetch) 16 = .ok (.iconst 2, 1) := by decide +kernel
theorem d_W_fetch_17 : decode (jyc Y_W_fetch) 17 = .ok (.ireturn, 1) := by decide +kernel
theorem d_W_fetch_18 : decode (jyc Y_W_fetch) 18 = .ok (.iconst 0, 1) := by decide +kernel
theorem d_W_fetch_19 : decode (jyc Y_W_fetch) 19 = .ok (.ireturn, 1) := by decide +kernel
theorem d_W_made_0 : decode (jyc Y_W_made) 0 = .ok (.aload 4, 2) := by decide +kernel
theorem d_W_made_2 : decode (jyc Y_W_made) 2 = .ok (.iconst 0, 1) := by decide +kernel
theorem d_W_made_3 : decode (jyc Y_W_made) 3 = .ok (.aload_n 0, 1) := by decide +kernel
theorem d_W_made_4 : decode (jyc Y_W_made) 4 = .ok (.iload_n 1, 1) := by decide +kernel
theorem d_W_made_5 : decode (jyc Y_W_made) 5 = .ok (.iload_n 2, 1) := by decide +kernel
theorem d_W_made_6 : decode (jyc Y_W_made) 6 = .ok (.iload_n 3, 1) := by decide +kernel
theorem d_W_made_7 : decode (jyc Y_W_made) 7 = .ok (.invokevirtual 53, 3) := by decide +kernel
theorem d_W_made_10 : decode (jyc Y_W_made) 10 = .ok (.i2l, 1) := by decide +kernel
theorem d_W_made_11 : decode (jyc Y_W_made) 11 = .ok (.lastore, 1) := by decide +kernel
theorem d_W_made_12 : decode (jyc Y_W_made) 12 = .ok (.goto 7, 3) := by decide +kernel
theorem d_W_made_15 : decode (jyc Y_W_made) 15 = .ok (.astore 5, 2) := by decide +kernel
theorem d_W_made_17 : decode (jyc Y_W_made) 17 = .ok (.iconst 1, 1) := by decide +kernel
theorem d_W_made_18 : decode (jyc Y_W_made) 18 = .ok (.ireturn, 1) := by decide +kernel
theorem d_W_made_19 : decode (jyc Y_W_made) 19 = .ok (.iconst 0, 1) := by decide +kernel
theorem d_W_made_20 : decode (jyc Y_W_made) 20 = .ok (.ireturn, 1) := by decide +kernel
theorem d_W_kept_0 : decode (jyc Y_W_kept) 0 = .ok (.aload 5, 2) := by decide +kernel
theorem d_W_kept_2 : decode (jyc Y_W_kept) 2 = .ok (.iconst 0, 1) := by decide +kernel
theorem d_W_kept_3 : decode (jyc Y_W_kept) 3 = .ok (.aload_n 0, 1) := by decide +kernel
theorem d_W_kept_4 : decode (jyc Y_W_kept) 4 = .ok (.iload_n 1, 1) := by decide +kernel
theorem d_W_kept_5 : decode (jyc Y_W_kept) 5 = .ok (.iload_n 2, 1) := by decide +kernel
theorem d_W_kept_6 : decode (jyc Y_W_kept) 6 = .ok (.iload_n 3, 1) := by decide +kernel
theorem d_W_kept_7 : decode (jyc Y_W_kept) 7 = .ok (.iload 4, 2) := by decide +kernel
theorem d_W_kept_9 : decode (jyc Y_W_kept) 9 = .ok (.invokevirtual 57, 3) := by decide +kernel
theorem d_W_kept_12 : decode (jyc Y_W_kept) 12 = .ok (.i2l, 1) := by decide +kernel
theorem d_W_kept_13 : decode (jyc Y_W_kept) 13 = .ok (.lastore, 1) := by decide +kernel
theorem d_W_kept_14 : decode (jyc Y_W_kept) 14 = .ok (.goto 7, 3) := by decide +kernel
theorem d_W_kept_17 : decode (jyc Y_W_kept) 17 = .ok (.astore 6, 2) := by decide +kernel
theorem d_W_kept_19 : decode (jyc Y_W_kept) 19 = .ok (.iconst 1, 1) := by decide +kernel
theorem d_W_kept_20 : decode (jyc Y_W_kept) 20 = .ok (.ireturn, 1) := by decide +kernel
theorem d_W_kept_21 : decode (jyc Y_W_kept) 21 = .ok (.iconst 0, 1) := by decide +kernel
theorem d_W_kept_22 : decode (jyc Y_W_kept) 22 = .ok (.ireturn, 1) := by decide +kernel
theorem d_W_law_0 : decode (jyc Y_W_law) 0 = .ok (.new 8, 3) := by decide +kernel
theorem d_W_law_3 : decode (jyc Y_W_law) 3 = .ok (.dup, 1) := by decide +kernel
theorem d_W_law_4 : decode (jyc Y_W_law) 4 = .ok (.invokespecial 60, 3) := by decide +kernel
theorem d_W_law_7 : decode (jyc Y_W_law) 7 = .ok (.astore_n 1, 1) := by decide +kernel
theorem d_W_law_8 : decode (jyc Y_W_law) 8 = .ok (.new 61, 3) := by decide +kernel
theorem d_W_law_11 : decode (jyc Y_W_law) 11 = .ok (.dup, 1) := by decide +kernel
theorem d_W_law_12 : decode (jyc Y_W_law) 12 = .ok (.invokespecial 63, 3) := by decide +kernel
theorem d_W_law_15 : decode (jyc Y_W_law) 15 = .ok (.astore_n 2, 1) := by decide +kernel
theorem d_W_law_16 : decode (jyc Y_W_law) 16 = .ok (.iconst 1, 1) := by decide +kernel
theorem d_W_law_17 : decode (jyc Y_W_law) 17 = .ok (.newarray .long, 2) := by decide +kernel
theorem d_W_law_19 : decode (jyc Y_W_law) 19 = .ok (.astore_n 3, 1) := by decide +kernel
theorem d_W_law_20 : decode (jyc Y_W_law) 20 = .ok (.iconst 0, 1) := by decide +kernel
theorem d_W_law_21 : decode (jyc Y_W_law) 21 = .ok (.istore 4, 2) := by decide +kernel
theorem d_W_law_23 : decode (jyc Y_W_law) 23 = .ok (.iload 4, 2) := by decide +kernel
theorem d_W_law_25 : decode (jyc Y_W_law) 25 = .ok (.aload_n 0, 1) := by decide +kernel
theorem d_W_law_26 : decode (jyc Y_W_law) 26 = .ok (.arraylength, 1) := by decide +kernel
theorem d_W_law_27 : decode (jyc Y_W_law) 27 = .ok (.bipush 6, 2) := by decide +kernel
theorem d_W_law_29 : decode (jyc Y_W_law) 29 = .ok (.isub, 1) := by decide +kernel
theorem d_W_law_30 : decode (jyc Y_W_law) 30 = .ok (.if_icmp .gt 1272, 3) := by decide +kernel
theorem d_W_law_33 : decode (jyc Y_W_law) 33 = .ok (.aload_n 0, 1) := by decide +kernel
theorem d_W_law_34 : decode (jyc Y_W_law) 34 = .ok (.iload 4, 2) := by decide +kernel
theorem d_W_law_36 : decode (jyc Y_W_law) 36 = .ok (.iaload, 1) := by decide +kernel
theorem d_W_law_37 : decode (jyc Y_W_law) 37 = .ok (.bipush 31, 2) := by decide +kernel
theorem d_W_law_39 : decode (jyc Y_W_law) 39 = .ok (.iand, 1) := by decide +kernel
theorem d_W_law_40 : decode (jyc Y_W_law) 40 = .ok (.tableswitch 1256 0 18 #[92, 204, 241, 297, 372, 459, 563, 655, 692, 729, 780, 848, 873, 941, 997, 1022, 1102, 1194, 1219], 92) := by decide +kernel
theorem d_W_law_132 : decode (jyc Y_W_law) 132 = .ok (.aload_n 1, 1) := by decide +kernel
theorem d_W_law_133 : decode (jyc Y_W_law) 133 = .ok (.aload_n 0, 1) := by decide +kernel
theorem d_W_law_134 : decode (jyc Y_W_law) 134 = .ok (.iload 4, 2) := by decide +kernel
theorem d_W_law_136 : decode (jyc Y_W_law) 136 = .ok (.iconst 1, 1) := by decide +kernel
theorem d_W_law_137 : decode (jyc Y_W_law) 137 = .ok (.iadd, 1) := by decide +kernel
theorem d_W_law_138 : decode (jyc Y_W_law) 138 = .ok (.iaload, 1) := by decide +kernel
theorem d_W_law_139 : decode (jyc Y_W_law) 139 = .ok (.i2l, 1) := by decide +kernel
theorem d_W_law_140 : decode (jyc Y_W_law) 140 = .ok (.bipush 32, 2) := by decide +kernel
theorem d_W_law_142 : decode (jyc Y_W_law) 142 = .ok (.lshl, 1) := by decide +kernel
theorem d_W_law_143 : decode (jyc Y_W_law) 143 = .ok (.aload_n 0, 1) := by decide +kernel
theorem d_W_law_144 : decode (jyc Y_W_law) 144 = .ok (.iload 4, 2) := by decide +kernel
theorem d_W_law_146 : decode (jyc Y_W_law) 146 = .ok (.iconst 2, 1) := by decide +kernel
theorem d_W_law_147 : decode (jyc Y_W_law) 147 = .ok (.iadd, 1) := by decide +kernel
theorem d_W_law_148 : decode (jyc Y_W_law) 148 = .ok (.iaload, 1) := by decide +kernel
theorem d_W_law_149 : decode (jyc Y_W_law) 149 = .ok (.i2l, 1) := by decide +kernel
theorem d_W_law_150 : decode (jyc Y_W_law) 150 = .ok (.ldc2_w 64, 3) := by decide +kernel
theorem d_W_law_153 : decode (jyc Y_W_law) 153 = .ok (.land, 1) := by decide +kernel
theorem d_W_law_154 : decode (jyc Y_W_law) 154 = .ok (.lor, 1) := by decide +kernel
theorem d_W_law_155 : decode (jyc Y_W_law) 155 = .ok (.aload_n 0, 1) := by decide +kernel
theorem d_W_law_156 : decode (jyc Y_W_law) 156 = .ok (.iload 4, 2) := by decide +kernel
theorem d_W_law_158 : decode (jyc Y_W_law) 158 = .ok (.iconst 3, 1) := by decide +kernel
theorem d_W_law_159 : decode (jyc Y_W_law) 159 = .ok (.iadd, 1) := by decide +kernel
theorem d_W_law_160 : decode (jyc Y_W_law) 160 = .ok (.iaload, 1) := by decide +kernel
theorem d_W_law_161 : decode (jyc Y_W_law) 161 = .ok (.i2l, 1) := by decide +kernel
theorem d_W_law_162 : decode (jyc Y_W_law) 162 = .ok (.bipush 32, 2) := by decide +kernel
theorem d_W_law_164 : decode (jyc Y_W_law) 164 = .ok (.lshl, 1) := by decide +kernel
theorem d_W_law_165 : decode (jyc Y_W_law) 165 = .ok (.aload_n 0, 1) := by decide +kernel
theorem d_W_law_166 : decode (jyc Y_W_law) 166 = .ok (.iload 4, 2) := by decide +kernel
theorem d_W_law_168 : decode (jyc Y_W_law) 168 = .ok (.iconst 4, 1) := by decide +kernel
theorem d_W_law_169 : decode (jyc Y_W_law) 169 = .ok (.iadd, 1) := by decide +kernel
theorem d_W_law_170 : decode (jyc Y_W_law) 170 = .ok (.iaload, 1) := by decide +kernel
theorem d_W_law_171 : decode (jyc Y_W_law) 171 = .ok (.i2l, 1) := by decide +kernel
theorem d_W_law_172 : decode (jyc Y_W_law) 172 = .ok (.ldc2_w 64, 3) := by decide +kernel
theorem d_W_law_175 : decode (jyc Y_W_law) 175 = .ok (.land, 1) := by decide +kernel
theorem d_W_law_176 : decode (jyc Y_W_law) 176 = .ok (.lor, 1) := by decide +kernel
theorem d_W_law_177 : decode (jyc Y_W_law) 177 = .ok (.invokestatic 66, 3) := by decide +kernel
theorem d_W_law_180 : decode (jyc Y_W_law) 180 = .ok (.istore 5, 2) := by decide +kernel
theorem d_W_law_182 : decode (jyc Y_W_law) 182 = .ok (.aload_n 2, 1) := by decide +kernel
theorem d_W_law_183 : decode (jyc Y_W_law) 183 = .ok (.aload_n 0, 1) := by decide +kernel
theorem d_W_law_184 : decode (jyc Y_W_law) 184 = .ok (.iload 4, 2) := by decide +kernel
theorem d_W_law_186 : decode (jyc Y_W_law) 186 = .ok (.iconst 1, 1) := by decide +kernel
theorem d_W_law_187 : decode (jyc Y_W_law) 187 = .ok (.iadd, 1) := by decide +kernel
theorem d_W_law_188 : decode (jyc Y_W_law) 188 = .ok (.iaload, 1) := by decide +kernel
theorem d_W_law_189 : decode (jyc Y_W_law) 189 = .ok (.i2l, 1) := by decide +kernel
theorem d_W_law_190 : decode (jyc Y_W_law) 190 = .ok (.bipush 32, 2) := by decide +kernel
theorem d_W_law_192 : decode (jyc Y_W_law) 192 = .ok (.lshl, 1) := by decide +kernel
theorem d_W_law_193 : decode (jyc Y_W_law) 193 = .ok (.aload_n 0, 1) := by decide +kernel
theorem d_W_law_194 : decode (jyc Y_W_law) 194 = .ok (.iload 4, 2) := by decide +kernel
theorem d_W_law_196 : decode (jyc Y_W_law) 196 = .ok (.iconst 2, 1) := by decide +kernel
theorem d_W_law_197 : decode (jyc Y_W_law) 197 = .ok (.iadd, 1) := by decide +kernel
theorem d_W_law_198 : decode (jyc Y_W_law) 198 = .ok (.iaload, 1) := by decide +kernel
theorem d_W_law_199 : decode (jyc Y_W_law) 199 = .ok (.i2l, 1) := by decide +kernel
theorem d_W_law_200 : decode (jyc Y_W_law) 200 = .ok (.ldc2_w 64, 3) := by decide +kernel
theorem d_W_law_203 : decode (jyc Y_W_law) 203 = .ok (.land, 1) := by decide +kernel
theorem d_W_law_204 : decode (jyc Y_W_law) 204 = .ok (.lor, 1) := by decide +kernel
theorem d_W_law_205 : decode (jyc Y_W_law) 205 = .ok (.aload_n 0, 1) := by decide +kernel
theorem d_W_law_206 : decode (jyc Y_W_law) 206 = .ok (.iload 4, 2) := by decide +kernel
theorem d_W_law_208 : decode (jyc Y_W_law) 208 = .ok (.iconst 3, 1) := by decide +kernel
theorem d_W_law_209 : decode (jyc Y_W_law) 209 = .ok (.iadd, 1) := by decide +kernel
theorem d_W_law_210 : decode (jyc Y_W_law) 210 = .ok (.iaload, 1) := by decide +kernel
theorem d_W_law_211 : decode (jyc Y_W_law) 211 = .ok (.i2l, 1) := by decide +kernel
theorem d_W_law_212 : decode (jyc Y_W_law) 212 = .ok (.bipush 32, 2) := by decide +kernel
theorem d_W_law_214 : decode (jyc Y_W_law) 214 = .ok (.lshl, 1) := by decide +kernel
theorem d_W_law_215 : decode (jyc Y_W_law) 215 = .ok (.aload_n 0, 1) := by decide +kernel
theorem d_W_law_216 : decode (jyc Y_W_law) 216 = .ok (.iload 4, 2) := by decide +kernel
theorem d_W_law_218 : decode (jyc Y_W_law) 218 = .ok (.iconst 4, 1) := by decide +kernel
theorem d_W_law_219 : decode (jyc Y_W_law) 219 = .ok (.iadd, 1) := by decide +kernel
theorem d_W_law_220 : decode (jyc Y_W_law) 220 = .ok (.iaload, 1) := by decide +kernel
theorem d_W_law_221 : decode (jyc Y_W_law) 221 = .ok (.i2l, 1) := by decide +kernel
theorem d_W_law_222 : decode (jyc Y_W_law) 222 = .ok (.ldc2_w 64, 3) := by decide +kernel
theorem d_W_law_225 : decode (jyc Y_W_law) 225 = .ok (.land, 1) := by decide +kernel
theorem d_W_law_226 : decode (jyc Y_W_law) 226 = .ok (.lor, 1) := by decide +kernel
theorem d_W_law_227 : decode (jyc Y_W_law) 227 = .ok (.invokevirtual 71, 3) := by decide +kernel
theorem d_W_law_230 : decode (jyc Y_W_law) 230 = .ok (.aload_n 2, 1) := by decide +kernel
theorem d_W_law_231 : decode (jyc Y_W_law) 231 = .ok (.invokevirtual 72, 3) := by decide +kernel
theorem d_W_law_234 : decode (jyc Y_W_law) 234 = .ok (.iload 5, 2) := by decide +kernel
theorem d_W_law_236 : decode (jyc Y_W_law) 236 = .ok (.if_icmp .eq 5, 3) := by decide +kernel
theorem d_W_law_239 : decode (jyc Y_W_law) 239 = .ok (.iconst 0, 1) := by decide +kernel
theorem d_W_law_240 : decode (jyc Y_W_law) 240 = .ok (.ireturn, 1) := by decide +kernel
theorem d_W_law_241 : decode (jyc Y_W_law) 241 = .ok (.goto 1055, 3) := by decide +kernel
theorem d_W_law_244 : decode (jyc Y_W_law) 244 = .ok (.aload_n 1, 1) := by decide +kernel
theorem d_W_law_245 : decode (jyc Y_W_law) 245 = .ok (.aload_n 0, 1) := by decide +kernel
theorem d_W_law_246 : decode (jyc Y_W_law) 246 = .ok (.iload 4, 2) := by decide +kernel
theorem d_W_law_248 : decode (jyc Y_W_law) 248 = .ok (.iconst 1, 1) := by decide +kernel
theorem d_W_law_249 : decode (jyc Y_W_law) 249 = .ok (.iadd, 1) := by decide +kernel
theorem d_W_law_250 : decode (jyc Y_W_law) 250 = .ok (.iaload, 1) := by decide +kernel
theorem d_W_law_251 : decode (jyc Y_W_law) 251 = .ok (.aload_n 0, 1) := by decide +kernel
theorem d_W_law_252 : decode (jyc Y_W_law) 252 = .ok (.iload 4, 2) := by decide +kernel
theorem d_W_law_254 : decode (jyc Y_W_law) 254 = .ok (.iconst 2, 1) := by decide +kernel
theorem d_W_law_255 : decode (jyc Y_W_law) 255 = .ok (.iadd, 1) := by decide +kernel
theorem d_W_law_256 : decode (jyc Y_W_law) 256 = .ok (.iaload, 1) := by decide +kernel
theorem d_W_law_257 : decode (jyc Y_W_law) 257 = .ok (.invokevirtual 76, 3) := by decide +kernel
theorem d_W_law_260 : decode (jyc Y_W_law) 260 = .ok (.aload_n 2, 1) := by decide +kernel
theorem d_W_law_261 : decode (jyc Y_W_law) 261 = .ok (.aload_n 0, 1) := by decide +kernel
theorem d_W_law_262 : decode (jyc Y_W_law) 262 = .ok (.iload 4, 2) := by decide +kernel
theorem d_W_law_264 : decode (jyc Y_W_law) 264 = .ok (.iconst 1, 1) := by decide +kernel
theorem d_W_law_265 : decode (jyc Y_W_law) 265 = .ok (.iadd, 1) := by decide +kernel
theorem d_W_law_266 : decode (jyc Y_W_law) 266 = .ok (.iaload, 1) := by decide +kernel
theorem d_W_law_267 : decode (jyc Y_W_law) 267 = .ok (.aload_n 0, 1) := by decide +kernel
theorem d_W_law_268 : decode (jyc Y_W_law) 268 = .ok (.iload 4, 2) := by decide +kernel
theorem d_W_law_270 : decode (jyc Y_W_law) 270 = .ok (.iconst 2, 1) := by decide +kernel
theorem d_W_law_271 : decode (jyc Y_W_law) 271 = .ok (.iadd, 1) := by decide +kernel
theorem d_W_law_272 : decode (jyc Y_W_law) 272 = .ok (.iaload, 1) := by decide +kernel
theorem d_W_law_273 : decode (jyc Y_W_law) 273 = .ok (.invokevirtual 79, 3) := by decide +kernel
theorem d_W_law_276 : decode (jyc Y_W_law) 276 = .ok (.if_icmp .eq 1020, 3) := by decide +kernel
theorem d_W_law_279 : decode (jyc Y_W_law) 279 = .ok (.iconst 0, 1) := by decide +kernel
theorem d_W_law_280 : decode (jyc Y_W_law) 280 = .ok (.ireturn, 1) := by decide +kernel
theorem d_W_law_281 : decode (jyc Y_W_law) 281 = .ok (.aload_n 1, 1) := by decide +kernel
theorem d_W_law_282 : decode (jyc Y_W_law) 282 = .ok (.aload_n 0, 1) := by decide +kernel
theorem d_W_law_283 : decode (jyc Y_W_law) 283 = .ok (.iload 4, 2) := by decide +kernel
theorem d_W_law_285 : decode (jyc Y_W_law) 285 = .ok (.iconst 1, 1) := by decide +kernel
theorem d_W_law_286 : decode (jyc Y_W_law) 286 = .ok (.iadd, 1) := by decide +kernel
theorem d_W_law_287 : decode (jyc Y_W_law) 287 = .ok (.iaload, 1) := by decide +kernel
theorem d_W_law_288 : decode (jyc Y_W_law) 288 = .ok (.aload_n 3, 1) := by decide +kernel
theorem d_W_law_289 : decode (jyc Y_W_law) 289 = .ok (.invokestatic 80, 3) := by decide +kernel
theorem d_W_law_292 : decode (jyc Y_W_law) 292 = .ok (.istore 5, 2) := by decide +kernel
theorem d_W_law_294 : decode (jyc Y_W_law) 294 = .ok (.aload_n 2, 1) := by decide +kernel
theorem d_W_law_295 : decode (jyc Y_W_law) 295 = .ok (.aload_n 0, 1) := by decide +kernel
theorem d_W_law_296 : decode (jyc Y_W_law) 296 = .ok (.iload 4, 2) := by decide +kernel
theorem d_W_law_298 : decode (jyc Y_W_law) 298 = .ok (.iconst 1, 1) := by decide +kernel
theorem d_W_law_299 : decode (jyc Y_W_law) 299 = .ok (.iadd, 1) := by decide +kernel
theorem d_W_law_300 : decode (jyc Y_W_law) 300 = .ok (.iaload, 1) := by decide +kernel
theorem d_W_law_301 : decode (jyc Y_W_law) 301 = .ok (.invokevirtual 83, 3) := by decide +kernel
theorem d_W_law_304 : decode (jyc Y_W_law) 304 = .ok (.istore 6, 2) := by decide +kernel
theorem d_W_law_306 : decode (jyc Y_W_law) 306 = .ok (.aload_n 2, 1) := by decide +kernel
theorem d_W_law_307 : decode (jyc Y_W_law) 307 = .ok (.invokevirtual 72, 3) := by decide +kernel
theorem d_W_law_310 : decode (jyc Y_W_law) 310 = .ok (.iload 5, 2) := by decide +kernel
theorem d_W_law_312 : decode (jyc Y_W_law) 312 = .ok (.if_icmp .eq 5, 3) := by decide +kernel
theorem d_W_law_315 : decode (jyc Y_W_law) 315 = .ok (.iconst 0, 1) := by decide +kernel
theorem d_W_law_316 : decode (jyc Y_W_law) 316 = .ok (.ireturn, 1) := by decide +kernel
theorem d_W_law_317 : decode (jyc Y_W_law) 317 = .ok (.iload 5, 2) := by decide +kernel
theorem d_W_law_319 : decode (jyc Y_W_law) 319 = .ok (.ifCond .ne 15, 3) := by decide +kernel
theorem d_W_law_322 : decode (jyc Y_W_law) 322 = .ok (.aload_n 3, 1) := by decide +kernel
theorem d_W_law_323 : decode (jyc Y_W_law) 323 = .ok (.iconst 0, 1) := by decide +kernel
theorem d_W_law_324 : decode (jyc Y_W_law) 324 = .ok (.laload, 1) := by decide +kernel
theorem d_W_law_325 : decode (jyc Y_W_law) 325 = .ok (.iload 6, 2) := by decide +kernel
theorem d_W_law_327 : decode (jyc Y_W_law) 327 = .ok (.i2l, 1) := by decide +kernel
theorem d_W_law_328 : decode (jyc Y_W_law) 328 = .ok (.lcmp, 1) := by decide +kernel
theorem d_W_law_329 : decode (jyc Y_W_law) 329 = .ok (.ifCond .eq 5, 3) := by decide +kernel
theorem d_W_law_332 : decode (jyc Y_W_law) 332 = .ok (.iconst 0, 1) := by decide +kernel
theorem d_W_law_333 : decode (jyc Y_W_law) 333 = .ok (.ireturn, 1) := by decide +kernel
theorem d_W_law_334 : decode (jyc Y_W_law) 334 = .ok (.goto 962, 3) := by decide +kernel
theorem d_W_law_337 : decode (jyc Y_W_law) 337 = .ok (.aload_n 1, 1) := by decide +kernel
theorem d_W_law_338 : decode (jyc Y_W_law) 338 = .ok (.aload_n 0, 1) := by decide +kernel
theorem d_W_law_339 : decode (jyc Y_W_law) 339 = .ok (.iload 4, 2) := by decide +kernel
theorem d_W_law_341 : decode (jyc Y_W_law) 341 = .ok (.iconst 1, 1) := by decide +kernel
theorem d_W_law_342 : decode (jyc Y_W_law) 342 = .ok (.iadd, 1) := by decide +kernel
theorem d_W_law_343 : decode (jyc Y_W_law) 343 = .ok (.iaload, 1) := by decide +kernel
theorem d_W_law_344 : decode (jyc Y_W_law) 344 = .ok (.aload_n 0, 1) := by decide +kernel
theorem d_W_law_345 : decode (jyc Y_W_law) 345 = .ok (.iload 4, 2) := by decide +kernel
theorem d_W_law_347 : decode (jyc Y_W_law) 347 = .ok (.iconst 2, 1) := by decide +kernel
theorem d_W_law_348 : decode (jyc Y_W_law) 348 = .ok (.iadd, 1) := by decide +kernel
theorem d_W_law_349 : decode (jyc Y_W_law) 349 = .ok (.iaload, 1) := by decide +kernel
theorem d_W_law_350 : decode (jyc Y_W_law) 350 = .ok (.aload_n 3, 1) := by decide +kernel
theorem d_W_law_351 : decode (jyc Y_W_law) 351 = .ok (.invokestatic 84, 3) := by decide +kernel
theorem d_W_law_354 : decode (jyc Y_W_law) 354 = .ok (.istore 5, 2) := by decide +kernel
theorem d_W_law_356 : decode (jyc Y_W_law) 356 = .ok (.aload_n 2, 1) := by decide +kernel
theorem d_W_law_357 : decode (jyc Y_W_law) 357 = .ok (.aload_n 0, 1) := by decide +kernel
theorem d_W_law_358 : decode (jyc Y_W_law) 358 = .ok (.iload 4, 2) := by decide +kernel
theorem d_W_law_360 : decode (jyc Y_W_law) 360 = .ok (.iconst 1, 1) := by decide +kernel
theorem d_W_law_361 : decode (jyc Y_W_law) 361 = .ok (.iadd, 1) := by decide +kernel
theorem d_W_law_362 : decode (jyc Y_W_law) 362 = .ok (.iaload, 1) := by decide +kernel
theorem d_W_law_363 : decode (jyc Y_W_law) 363 = .ok (.aload_n 0, 1) := by decide +kernel
theorem d_W_law_364 : decode (jyc Y_W_law) 364 = .ok (.iload 4, 2) := by decide +kernel
theorem d_W_law_366 : decode (jyc Y_W_law) 366 = .ok (.iconst 2, 1) := by decide +kernel
theorem d_W_law_367 : decode (jyc Y_W_law) 367 = .ok (.iadd, 1) := by decide +kernel
theorem d_W_law_368 : decode (jyc Y_W_law) 368 = .ok (.iaload, 1) := by decide +kernel
theorem d_W_law_369 : decode (jyc Y_W_law) 369 = .ok (.invokevirtual 87, 3) := by decide +kernel
theorem d_W_law_372 : decode (jyc Y_W_law) 372 = .ok (.istore 6, 2) := by decide +kernel
theorem d_W_law_374 : decode (jyc Y_W_law) 374 = .ok (.aload_n 2, 1) := by decide +kernel
theorem d_W_law_375 : decode (jyc Y_W_law) 375 = .ok (.invokevirtual 72, 3) := by decide +kernel
theorem d_W_law_378 : decode (jyc Y_W_law) 378 = .ok (.iload 5, 2) := by decide +kernel
theorem d_W_law_380 : decode (jyc Y_W_law) 380 = .ok (.if_icmp .eq 5, 3) := by decide +kernel
theorem d_W_law_383 : decode (jyc Y_W_law) 383 = .ok (.iconst 0, 1) := by decide +kernel
theorem d_W_law_384 : decode (jyc Y_W_law) 384 = .ok (.ireturn, 1) := by decide +kernel
theorem d_W_law_385 : decode (jyc Y_W_law) 385 = .ok (.iload 5, 2) := by decide +kernel
theorem d_W_law_387 : decode (jyc Y_W_law) 387 = .ok (.ifCond .ne 22, 3) := by decide +kernel
theorem d_W_law_390 : decode (jyc Y_W_law) 390 = .ok (.aload_n 3, 1) := by decide +kernel
theorem d_W_law_391 : decode (jyc Y_W_law) 391 = .ok (.iconst 0, 1) := by decide +kernel
theorem d_W_law_392 : decode (jyc Y_W_law) 392 = .ok (.laload, 1) := by decide +kernel
theorem d_W_law_393 : decode (jyc Y_W_law) 393 = .ok (.iload 6, 2) := by decide +kernel
theorem d_W_law_395 : decode (jyc Y_W_law) 395 = .ok (.ifCond .eq 7, 3) := by decide +kernel
theorem d_W_law_398 : decode (jyc Y_W_law) 398 = .ok (.lconst 1, 1) := by decide +kernel
theorem d_W_law_399 : decode (jyc Y_W_law) 399 = .ok (.goto 4, 3) := by decide +kernel
theorem d_W_law_402 : decode (jyc Y_W_law) 402 = .ok (.lconst 0, 1) := by decide +kernel
theorem d_W_law_403 : decode (jyc Y_W_law) 403 = .ok (.lcmp, 1) := by decide +kernel
theorem d_W_law_404 : decode (jyc Y_W_law) 404 = .ok (.ifCond .eq 5, 3) := by decide +kernel
theorem d_W_law_407 : decode (jyc Y_W_law) 407 = .ok (.iconst 0, 1) := by decide +kernel
theorem d_W_law_408 : decode (jyc Y_W_law) 408 = .ok (.ireturn, 1) := by decide +kernel
theorem d_W_law_409 : decode (jyc Y_W_law) 409 = .ok (.goto 887, 3) := by decide +kernel
theorem d_W_law_412 : decode (jyc Y_W_law) 412 = .ok (.aload_n 1, 1) := by decide +kernel
theorem d_W_law_413 : decode (jyc Y_W_law) 413 = .ok (.aload_n 0, 1) := by decide +kernel
theorem d_W_law_414 : decode (jyc Y_W_law) 414 = .ok (.iload 4, 2) := by decide +kernel
theorem d_W_law_416 : decode (jyc Y_W_law) 416 = .ok (.iconst 1, 1) := by decide +kernel
theorem d_W_law_417 : decode (jyc Y_W_law) 417 = .ok (.iadd, 1) := by decide +kernel
theorem d_W_law_418 : decode (jyc Y_W_law) 418 = .ok (.iaload, 1) := by decide +kernel
theorem d_W_law_419 : decode (jyc Y_W_law) 419 = .ok (.aload_n 0, 1) := by decide +kernel
theorem d_W_law_420 : decode (jyc Y_W_law) 420 = .ok (.iload 4, 2) := by decide +kernel
theorem d_W_law_422 : decode (jyc Y_W_law) 422 = .ok (.iconst 2, 1) := by decide +kernel
theorem d_W_law_423 : decode (jyc Y_W_law) 423 = .ok (.iadd, 1) := by decide +kernel
theorem d_W_law_424 : decode (jyc Y_W_law) 424 = .ok (.iaload, 1) := by decide +kernel
theorem d_W_law_425 : decode (jyc Y_W_law) 425 = .ok (.aload_n 0, 1) := by decide +kernel
theorem d_W_law_426 : decode (jyc Y_W_law) 426 = .ok (.iload 4, 2) := by decide +kernel
theorem d_W_law_428 : decode (jyc Y_W_law) 428 = .ok (.iconst 3, 1) := by decide +kernel
theorem d_W_law_429 : decode (jyc Y_W_law) 429 = .ok (.iadd, 1) := by decide +kernel
theorem d_W_law_430 : decode (jyc Y_W_law) 430 = .ok (.iaload, 1) := by decide +kernel
theorem d_W_law_431 : decode (jyc Y_W_law) 431 = .ok (.aload_n 3, 1) := by decide +kernel
theorem d_W_law_432 : decode (jyc Y_W_law) 432 = .ok (.invokestatic 88, 3) := by decide +kernel
theorem d_W_law_435 : decode (jyc Y_W_law) 435 = .ok (.istore 5, 2) := by decide +kernel
theorem d_W_law_437 : decode (jyc Y_W_law) 437 = .ok (.aload_n 2, 1) := by decide +kernel
theorem d_W_law_438 : decode (jyc Y_W_law) 438 = .ok (.aload_n 0, 1) := by decide +kernel
theorem d_W_law_439 : decode (jyc Y_W_law) 439 = .ok (.iload 4, 2) := by decide +kernel
theorem d_W_law_441 : decode (jyc Y_W_law) 441 = .ok (.iconst 1, 1) := by decide +kernel
theorem d_W_law_442 : decode (jyc Y_W_law) 442 = .ok (.iadd, 1) := by decide +kernel
theorem d_W_law_443 : decode (jyc Y_W_law) 443 = .ok (.iaload, 1) := by decide +kernel
theorem d_W_law_444 : decode (jyc Y_W_law) 444 = .ok (.aload_n 0, 1) := by decide +kernel
theorem d_W_law_445 : decode (jyc Y_W_law) 445 = .ok (.iload 4, 2) := by decide +kernel
theorem d_W_law_447 : decode (jyc Y_W_law) 447 = .ok (.iconst 2, 1) := by decide +kernel
theorem d_W_law_448 : decode (jyc Y_W_law) 448 = .ok (.iadd, 1) := by decide +kernel
theorem d_W_law_449 : decode (jyc Y_W_law) 449 = .ok (.iaload, 1) := by decide +kernel
theorem d_W_law_450 : decode (jyc Y_W_law) 450 = .ok (.aload_n 0, 1) := by decide +kernel
theorem d_W_law_451 : decode (jyc Y_W_law) 451 = .ok (.iload 4, 2) := by decide +kernel
theorem d_W_law_453 : decode (jyc Y_W_law) 453 = .ok (.iconst 3, 1) := by decide +kernel
theorem d_W_law_454 : decode (jyc Y_W_law) 454 = .ok (.iadd, 1) := by decide +kernel
theorem d_W_law_455 : decode (jyc Y_W_law) 455 = .ok (.iaload, 1) := by decide +kernel
theorem d_W_law_456 : decode (jyc Y_W_law) 456 = .ok (.invokevirtual 91, 3) := by decide +kernel
theorem d_W_law_459 : decode (jyc Y_W_law) 459 = .ok (.istore 6, 2) := by decide +kernel
theorem d_W_law_461 : decode (jyc Y_W_law) 461 = .ok (.aload_n 2, 1) := by decide +kernel
theorem d_W_law_462 : decode (jyc Y_W_law) 462 = .ok (.invokevirtual 72, 3) := by decide +kernel
theorem d_W_law_465 : decode (jyc Y_W_law) 465 = .ok (.iload 5, 2) := by decide +kernel
theorem d_W_law_467 : decode (jyc Y_W_law) 467 = .ok (.if_icmp .eq 5, 3) := by decide +kernel
theorem d_W_law_470 : decode (jyc Y_W_law) 470 = .ok (.iconst 0, 1) := by decide +kernel
theorem d_W_law_471 : decode (jyc Y_W_law) 471 = .ok (.ireturn, 1) := by decide +kernel
theorem d_W_law_472 : decode (jyc Y_W_law) 472 = .ok (.iload 5, 2) := by decide +kernel
theorem d_W_law_474 : decode (jyc Y_W_law) 474 = .ok (.ifCond .ne 22, 3) := by decide +kernel
theorem d_W_law_477 : decode (jyc Y_W_law) 477 = .ok (.aload_n 3, 1) := by decide +kernel
theorem d_W_law_478 : decode (jyc Y_W_law) 478 = .ok (.iconst 0, 1) := by decide +kernel
theorem d_W_law_479 : decode (jyc Y_W_law) 479 = .ok (.laload, 1) := by decide +kernel
theorem d_W_law_480 : decode (jyc Y_W_law) 480 = .ok (.iload 6, 2) := by decide +kernel
theorem d_W_law_482 : decode (jyc Y_W_law) 482 = .ok (.ifCond .eq 7, 3) := by decide +kernel
theorem d_W_law_485 : decode (jyc Y_W_law) 485 = .ok (.lconst 1, 1) := by decide +kernel
theorem d_W_law_486 : decode (jyc Y_W_law) 486 = .ok (.goto 4, 3) := by decide +kernel
theorem d_W_law_489 : decode (jyc Y_W_law) 489 = .ok (.lconst 0, 1) := by decide +kernel
theorem d_W_law_490 : decode (jyc Y_W_law) 490 = .ok (.lcmp, 1) := by decide +kernel
theorem d_W_law_491 : decode (jyc Y_W_law) 491 = .ok (.ifCond .eq 5, 3) := by decide +kernel
theorem d_W_law_494 : decode (jyc Y_W_law) 494 = .ok (.iconst 0, 1) := by decide +kernel
theorem d_W_law_495 : decode (jyc Y_W_law) 495 = .ok (.ireturn, 1) := by decide +kernel
theorem d_W_law_496 : decode (jyc Y_W_law) 496 = .ok (.goto 800, 3) := by decide +kernel
theorem d_W_law_499 : decode (jyc Y_W_law) 499 = .ok (.aload_n 1, 1) := by decide +kernel
theorem d_W_law_500 : decode (jyc Y_W_law) 500 = .ok (.aload_n 0, 1) := by decide +kernel
theorem d_W_law_501 : decode (jyc Y_W_law) 501 = .ok (.iload 4, 2) := by decide +kernel
theorem d_W_law_503 : decode (jyc Y_W_law) 503 = .ok (.iconst 1, 1) := by decide +kernel
theorem d_W_law_504 : decode (jyc Y_W_law) 504 = .ok (.iadd, 1) := by decide +kernel
theorem d_W_law_505 : decode (jyc Y_W_law) 505 = .ok (.iaload, 1) := by decide +kernel
theorem d_W_law_506 : decode (jyc Y_W_law) 506 = .ok (.aload_n 0, 1) := by decide +kernel
theorem d_W_law_507 : decode (jyc Y_W_law) 507 = .ok (.iload 4, 2) := by decide +kernel
theorem d_W_law_509 : decode (jyc Y_W_law) 509 = .ok (.iconst 2, 1) := by decide +kernel
theorem d_W_law_510 : decode (jyc Y_W_law) 510 = .ok (.iadd, 1) := by decide +kernel
theorem d_W_law_511 : decode (jyc Y_W_law) 511 = .ok (.iaload, 1) := by decide +kernel
theorem d_W_law_512 : decode (jyc Y_W_law) 512 = .ok (.aload_n 0, 1) := by decide +kernel
theorem d_W_law_513 : decode (jyc Y_W_law) 513 = .ok (.iload 4, 2) := by decide +kernel
theorem d_W_law_515 : decode (jyc Y_W_law) 515 = .ok (.iconst 3, 1) := by decide +kernel
theorem d_W_law_516 : decode (jyc Y_W_law) 516 = .ok (.iadd, 1) := by decide +kernel
theorem d_W_law_517 : decode (jyc Y_W_law) 517 = .ok (.iaload, 1) := by decide +kernel
theorem d_W_law_518 : decode (jyc Y_W_law) 518 = .ok (.aload_n 0, 1) := by decide +kernel
theorem d_W_law_519 : decode (jyc Y_W_law) 519 = .ok (.iload 4, 2) := by decide +kernel
theorem d_W_law_521 : decode (jyc Y_W_law) 521 = .ok (.iconst 4, 1) := by decide +kernel
theorem d_W_law_522 : decode (jyc Y_W_law) 522 = .ok (.iadd, 1) := by decide +kernel
theorem d_W_law_523 : decode (jyc Y_W_law) 523 = .ok (.iaload, 1) := by decide +kernel
theorem d_W_law_524 : decode (jyc Y_W_law) 524 = .ok (.aload_n 0, 1) := by decide +kernel
theorem d_W_law_525 : decode (jyc Y_W_law) 525 = .ok (.iload 4, 2) := by decide +kernel
theorem d_W_law_527 : decode (jyc Y_W_law) 527 = .ok (.iconst 5, 1) := by decide +kernel
theorem d_W_law_528 : decode (jyc Y_W_law) 528 = .ok (.iadd, 1) := by decide +kernel
theorem d_W_law_529 : decode (jyc Y_W_law) 529 = .ok (.iaload, 1) := by decide +kernel
theorem d_W_law_530 : decode (jyc Y_W_law) 530 = .ok (.aload_n 3, 1) := by decide +kernel
theorem d_W_law_531 : decode (jyc Y_W_law) 531 = .ok (.invokestatic 92, 3) := by decide +kernel
theorem d_W_law_534 : decode (jyc Y_W_law) 534 = .ok (.istore 5, 2) := by decide +kernel
theorem d_W_law_536 : decode (jyc Y_W_law) 536 = .ok (.aload_n 2, 1) := by decide +kernel
theorem d_W_law_537 : decode (jyc Y_W_law) 537 = .ok (.aload_n 0, 1) := by decide +kernel
theorem d_W_law_538 : decode (jyc Y_W_law) 538 = .ok (.iload 4, 2) := by decide +kernel
theorem d_W_law_540 : decode (jyc Y_W_law) 540 = .ok (.iconst 1, 1) := by decide +kernel
theorem d_W_law_541 : decode (jyc Y_W_law) 541 = .ok (.iadd, 1) := by decide +kernel
theorem d_W_law_542 : decode (jyc Y_W_law) 542 = .ok (.iaload, 1) := by decide +kernel
theorem d_W_law_543 : decode (jyc Y_W_law) 543 = .ok (.aload_n 0, 1) := by decide +kernel
theorem d_W_law_544 : decode (jyc Y_W_law) 544 = .ok (.iload 4, 2) := by decide +kernel
theorem d_W_law_546 : decode (jyc Y_W_law) 546 = .ok (.iconst 2, 1) := by decide +kernel
theorem d_W_law_547 : decode (jyc Y_W_law) 547 = .ok (.iadd, 1) := by decide +kernel
theorem d_W_law_548 : decode (jyc Y_W_law) 548 = .ok (.iaload, 1) := by decide +kernel
theorem d_W_law_549 : decode (jyc Y_W_law) 549 = .ok (.aload_n 0, 1) := by decide +kernel
theorem d_W_law_550 : decode (jyc Y_W_law) 550 = .ok (.iload 4, 2) := by decide +kernel
theorem d_W_law_552 : decode (jyc Y_W_law) 552 = .ok (.iconst 3, 1) := by decide +kernel
theorem d_W_law_553 : decode (jyc Y_W_law) 553 = .ok (.iadd, 1) := by decide +kernel
theorem d_W_law_554 : decode (jyc Y_W_law) 554 = .ok (.iaload, 1) := by decide +kernel
theorem d_W_law_555 : decode (jyc Y_W_law) 555 = .ok (.aload_n 0, 1) := by decide +kernel
theorem d_W_law_556 : decode (jyc Y_W_law) 556 = .ok (.iload 4, 2) := by decide +kernel
theorem d_W_law_558 : decode (jyc Y_W_law) 558 = .ok (.iconst 4, 1) := by decide +kernel
theorem d_W_law_559 : decode (jyc Y_W_law) 559 = .ok (.iadd, 1) := by decide +kernel
theorem d_W_law_560 : decode (jyc Y_W_law) 560 = .ok (.iaload, 1) := by decide +kernel
theorem d_W_law_561 : decode (jyc Y_W_law) 561 = .ok (.aload_n 0, 1) := by decide +kernel
theorem d_W_law_562 : decode (jyc Y_W_law) 562 = .ok (.iload 4, 2) := by decide +kernel
theorem d_W_law_564 : decode (jyc Y_W_law) 564 = .ok (.iconst 5, 1) := by decide +kernel
theorem d_W_law_565 : decode (jyc Y_W_law) 565 = .ok (.iadd, 1) := by decide +kernel
theorem d_W_law_566 : decode (jyc Y_W_law) 566 = .ok (.iaload, 1) := by decide +kernel
theorem d_W_law_567 : decode (jyc Y_W_law) 567 = .ok (.invokevirtual 95, 3) := by decide +kernel
theorem d_W_law_570 : decode (jyc Y_W_law) 570 = .ok (.istore 6, 2) := by decide +kernel
theorem d_W_law_572 : decode (jyc Y_W_law) 572 = .ok (.aload_n 2, 1) := by decide +kernel
theorem d_W_law_573 : decode (jyc Y_W_law) 573 = .ok (.invokevirtual 72, 3) := by decide +kernel
theorem d_W_law_576 : decode (jyc Y_W_law) 576 = .ok (.iload 5, 2) := by decide +kernel
theorem d_W_law_578 : decode (jyc Y_W_law) 578 = .ok (.if_icmp .eq 5, 3) := by decide +kernel
theorem d_W_law_581 : decode (jyc Y_W_law) 581 = .ok (.iconst 0, 1) := by decide +kernel
theorem d_W_law_582 : decode (jyc Y_W_law) 582 = .ok (.ireturn, 1) := by decide +kernel
theorem d_W_law_583 : decode (jyc Y_W_law) 583 = .ok (.iload 5, 2) := by decide +kernel
theorem d_W_law_585 : decode (jyc Y_W_law) 585 = .ok (.ifCond .ne 15, 3) := by decide +kernel
theorem d_W_law_588 : decode (jyc Y_W_law) 588 = .ok (.aload_n 3, 1) := by decide +kernel
theorem d_W_law_589 : decode (jyc Y_W_law) 589 = .ok (.iconst 0, 1) := by decide +kernel
theorem d_W_law_590 : decode (jyc Y_W_law) 590 = .ok (.laload, 1) := by decide +kernel
theorem d_W_law_591 : decode (jyc Y_W_law) 591 = .ok (.iload 6, 2) := by decide +kernel
theorem d_W_law_593 : decode (jyc Y_W_law) 593 = .ok (.i2l, 1) := by decide +kernel
theorem d_W_law_594 : decode (jyc Y_W_law) 594 = .ok (.lcmp, 1) := by decide +kernel
theorem d_W_law_595 : decode (jyc Y_W_law) 595 = .ok (.ifCond .eq 5, 3) := by decide +kernel
theorem d_W_law_598 : decode (jyc Y_W_law) 598 = .ok (.iconst 0, 1) := by decide +kernel
theorem d_W_law_599 : decode (jyc Y_W_law) 599 = .ok (.ireturn, 1) := by decide +kernel
theorem d_W_law_600 : decode (jyc Y_W_law) 600 = .ok (.goto 696, 3) := by decide +kernel
theorem d_W_law_603 : decode (jyc Y_W_law) 603 = .ok (.aload_n 1, 1) := by decide +kernel
theorem d_W_law_604 : decode (jyc Y_W_law) 604 = .ok (.aload_n 0, 1) := by decide +kernel
theorem d_W_law_605 : decode (jyc Y_W_law) 605 = .ok (.iload 4, 2) := by decide +kernel
theorem d_W_law_607 : decode (jyc Y_W_law) 607 = .ok (.iconst 1, 1) := by decide +kernel
theorem d_W_law_608 : decode (jyc Y_W_law) 608 = .ok (.iadd, 1) := by decide +kernel
theorem d_W_law_609 : decode (jyc Y_W_law) 609 = .ok (.iaload, 1) := by decide +kernel
theorem d_W_law_610 : decode (jyc Y_W_law) 610 = .ok (.aload_n 0, 1) := by decide +kernel
theorem d_W_law_611 : decode (jyc Y_W_law) 611 = .ok (.iload 4, 2) := by decide +kernel
theorem d_W_law_613 : decode (jyc Y_W_law) 613 = .ok (.iconst 2, 1) := by decide +kernel
theorem d_W_law_614 : decode (jyc Y_W_law) 614 = .ok (.iadd, 1) := by decide +kernel
theorem d_W_law_615 : decode (jyc Y_W_law) 615 = .ok (.iaload, 1) := by decide +kernel
theorem d_W_law_616 : decode (jyc Y_W_law) 616 = .ok (.aload_n 0, 1) := by decide +kernel
theorem d_W_law_617 : decode (jyc Y_W_law) 617 = .ok (.iload 4, 2) := by decide +kernel
theorem d_W_law_619 : decode (jyc Y_W_law) 619 = .ok (.iconst 3, 1) := by decide +kernel
theorem d_W_law_620 : decode (jyc Y_W_law) 620 = .ok (.iadd, 1) := by decide +kernel
theorem d_W_law_621 : decode (jyc Y_W_law) 621 = .ok (.iaload, 1) := by decide +kernel
theorem d_W_law_622 : decode (jyc Y_W_law) 622 = .ok (.aload_n 0, 1) := by decide +kernel
theorem d_W_law_623 : decode (jyc Y_W_law) 623 = .ok (.iload 4, 2) := by decide +kernel
theorem d_W_law_625 : decode (jyc Y_W_law) 625 = .ok (.iconst 4, 1) := by decide +kernel
theorem d_W_law_626 : decode (jyc Y_W_law) 626 = .ok (.iadd, 1) := by decide +kernel
theorem d_W_law_627 : decode (jyc Y_W_law) 627 = .ok (.iaload, 1) := by decide +kernel
theorem d_W_law_628 : decode (jyc Y_W_law) 628 = .ok (.aload_n 3, 1) := by decide +kernel
theorem d_W_law_629 : decode (jyc Y_W_law) 629 = .ok (.invokestatic 96, 3) := by decide +kernel
theorem d_W_law_632 : decode (jyc Y_W_law) 632 = .ok (.istore 5, 2) := by decide +kernel
theorem d_W_law_634 : decode (jyc Y_W_law) 634 = .ok (.aload_n 2, 1) := by decide +kernel
theorem d_W_law_635 : decode (jyc Y_W_law) 635 = .ok (.aload_n 0, 1) := by decide +kernel
theorem d_W_law_636 : decode (jyc Y_W_law) 636 = .ok (.iload 4, 2) := by decide +kernel
theorem d_W_law_638 : decode (jyc Y_W_law) 638 = .ok (.iconst 1, 1) := by decide +kernel
theorem d_W_law_639 : decode (jyc Y_W_law) 639 = .ok (.iadd, 1) := by decide +kernel
theorem d_W_law_640 : decode (jyc Y_W_law) 640 = .ok (.iaload, 1) := by decide +kernel
theorem d_W_law_641 : decode (jyc Y_W_law) 641 = .ok (.aload_n 0, 1) := by decide +kernel
theorem d_W_law_642 : decode (jyc Y_W_law) 642 = .ok (.iload 4, 2) := by decide +kernel
theorem d_W_law_644 : decode (jyc Y_W_law) 644 = .ok (.iconst 2, 1) := by decide +kernel
theorem d_W_law_645 : decode (jyc Y_W_law) 645 = .ok (.iadd, 1) := by decide +kernel
theorem d_W_law_646 : decode (jyc Y_W_law) 646 = .ok (.iaload, 1) := by decide +kernel
theorem d_W_law_647 : decode (jyc Y_W_law) 647 = .ok (.aload_n 0, 1) := by decide +kernel
theorem d_W_law_648 : decode (jyc Y_W_law) 648 = .ok (.iload 4, 2) := by decide +kernel
theorem d_W_law_650 : decode (jyc Y_W_law) 650 = .ok (.iconst 3, 1) := by decide +kernel
theorem d_W_law_651 : decode (jyc Y_W_law) 651 = .ok (.iadd, 1) := by decide +kernel
theorem d_W_law_652 : decode (jyc Y_W_law) 652 = .ok (.iaload, 1) := by decide +kernel
theorem d_W_law_653 : decode (jyc Y_W_law) 653 = .ok (.aload_n 0, 1) := by decide +kernel
theorem d_W_law_654 : decode (jyc Y_W_law) 654 = .ok (.iload 4, 2) := by decide +kernel
theorem d_W_law_656 : decode (jyc Y_W_law) 656 = .ok (.iconst 4, 1) := by decide +kernel
theorem d_W_law_657 : decode (jyc Y_W_law) 657 = .ok (.iadd, 1) := by decide +kernel
theorem d_W_law_658 : decode (jyc Y_W_law) 658 = .ok (.iaload, 1) := by decide +kernel
theorem d_W_law_659 : decode (jyc Y_W_law) 659 = .ok (.invokevirtual 99, 3) := by decide +kernel
theorem d_W_law_662 : decode (jyc Y_W_law) 662 = .ok (.istore 6, 2) := by decide +kernel
theorem d_W_law_664 : decode (jyc Y_W_law) 664 = .ok (.aload_n 2, 1) := by decide +kernel
theorem d_W_law_665 : decode (jyc Y_W_law) 665 = .ok (.invokevirtual 72, 3) := by decide +kernel
theorem d_W_law_668 : decode (jyc Y_W_law) 668 = .ok (.iload 5, 2) := by decide +kernel
theorem d_W_law_670 : decode (jyc Y_W_law) 670 = .ok (.if_icmp .eq 5, 3) := by decide +kernel
theorem d_W_law_673 : decode (jyc Y_W_law) 673 = .ok (.iconst 0, 1) := by decide +kernel
theorem d_W_law_674 : decode (jyc Y_W_law) 674 = .ok (.ireturn, 1) := by decide +kernel
theorem d_W_law_675 : decode (jyc Y_W_law) 675 = .ok (.iload 5, 2) := by decide +kernel
theorem d_W_law_677 : decode (jyc Y_W_law) 677 = .ok (.ifCond .ne 15, 3) := by decide +kernel
theorem d_W_law_680 : decode (jyc Y_W_law) 680 = .ok (.aload_n 3, 1) := by decide +kernel
theorem d_W_law_681 : decode (jyc Y_W_law) 681 = .ok (.iconst 0, 1) := by decide +kernel
theorem d_W_law_682 : decode (jyc Y_W_law) 682 = .ok (.laload, 1) := by decide +kernel
theorem d_W_law_683 : decode (jyc Y_W_law) 683 = .ok (.iload 6, 2) := by decide +kernel
theorem d_W_law_685 : decode (jyc Y_W_law) 685 = .ok (.i2l, 1) := by decide +kernel
theorem d_W_law_686 : decode (jyc Y_W_law) 686 = .ok (.lcmp, 1) := by decide +kernel
theorem d_W_law_687 : decode (jyc Y_W_law) 687 = .ok (.ifCond .eq 5, 3) := by decide +kernel
theorem d_W_law_690 : decode (jyc Y_W_law) 690 = .ok (.iconst 0, 1) := by decide +kernel
theorem d_W_law_691 : decode (jyc Y_W_law) 691 = .ok (.ireturn, 1) := by decide +kernel
theorem d_W_law_692 : decode (jyc Y_W_law) 692 = .ok (.goto 604, 3) := by decide +kernel
theorem d_W_law_695 : decode (jyc Y_W_law) 695 = .ok (.aload_n 1, 1) := by decide +kernel
theorem d_W_law_696 : decode (jyc Y_W_law) 696 = .ok (.aload_n 0, 1) := by decide +kernel
theorem d_W_law_697 : decode (jyc Y_W_law) 697 = .ok (.iload 4, 2) := by decide +kernel
theorem d_W_law_699 : decode (jyc Y_W_law) 699 = .ok (.iconst 1, 1) := by decide +kernel
theorem d_W_law_700 : decode (jyc Y_W_law) 700 = .ok (.iadd, 1) := by decide +kernel
theorem d_W_law_701 : decode (jyc Y_W_law) 701 = .ok (.iaload, 1) := by decide +kernel
theorem d_W_law_702 : decode (jyc Y_W_law) 702 = .ok (.aload_n 0, 1) := by decide +kernel
theorem d_W_law_703 : decode (jyc Y_W_law) 703 = .ok (.iload 4, 2) := by decide +kernel
theorem d_W_law_705 : decode (jyc Y_W_law) 705 = .ok (.iconst 2, 1) := by decide +kernel
theorem d_W_law_706 : decode (jyc Y_W_law) 706 = .ok (.iadd, 1) := by decide +kernel
theorem d_W_law_707 : decode (jyc Y_W_law) 707 = .ok (.iaload, 1) := by decide +kernel
theorem d_W_law_708 : decode (jyc Y_W_law) 708 = .ok (.invokevirtual 100, 3) := by decide +kernel
theorem d_W_law_711 : decode (jyc Y_W_law) 711 = .ok (.aload_n 2, 1) := by decide +kernel
theorem d_W_law_712 : decode (jyc Y_W_law) 712 = .ok (.aload_n 0, 1) := by decide +kernel
theorem d_W_law_713 : decode (jyc Y_W_law) 713 = .ok (.iload 4, 2) := by decide +kernel
theorem d_W_law_715 : decode (jyc Y_W_law) 715 = .ok (.iconst 1, 1) := by decide +kernel
theorem d_W_law_716 : decode (jyc Y_W_law) 716 = .ok (.iadd, 1) := by decide +kernel
theorem d_W_law_717 : decode (jyc Y_W_law) 717 = .ok (.iaload, 1) := by decide +kernel
theorem d_W_law_718 : decode (jyc Y_W_law) 718 = .ok (.aload_n 0, 1) := by decide +kernel
theorem d_W_law_719 : decode (jyc Y_W_law) 719 = .ok (.iload 4, 2) := by decide +kernel
theorem d_W_law_721 : decode (jyc Y_W_law) 721 = .ok (.iconst 2, 1) := by decide +kernel
theorem d_W_law_722 : decode (jyc Y_W_law) 722 = .ok (.iadd, 1) := by decide +kernel
theorem d_W_law_723 : decode (jyc Y_W_law) 723 = .ok (.iaload, 1) := by decide +kernel
theorem d_W_law_724 : decode (jyc Y_W_law) 724 = .ok (.invokevirtual 103, 3) := by decide +kernel
theorem d_W_law_727 : decode (jyc Y_W_law) 727 = .ok (.if_icmp .eq 569, 3) := by decide +kernel
theorem d_W_law_730 : decode (jyc Y_W_law) 730 = .ok (.iconst 0, 1) := by decide +kernel
theorem d_W_law_731 : decode (jyc Y_W_law) 731 = .ok (.ireturn, 1) := by decide +kernel
theorem d_W_law_732 : decode (jyc Y_W_law) 732 = .ok (.aload_n 1, 1) := by decide +kernel
theorem d_W_law_733 : decode (jyc Y_W_law) 733 = .ok (.aload_n 0, 1) := by decide +kernel
theorem d_W_law_734 : decode (jyc Y_W_law) 734 = .ok (.iload 4, 2) := by decide +kernel
theorem d_W_law_736 : decode (jyc Y_W_law) 736 = .ok (.iconst 1, 1) := by decide +kernel
theorem d_W_law_737 : decode (jyc Y_W_law) 737 = .ok (.iadd, 1) := by decide +kernel
theorem d_W_law_738 : decode (jyc Y_W_law) 738 = .ok (.iaload, 1) := by decide +kernel
theorem d_W_law_739 : decode (jyc Y_W_law) 739 = .ok (.aload_n 0, 1) := by decide +kernel
theorem d_W_law_740 : decode (jyc Y_W_law) 740 = .ok (.iload 4, 2) := by decide +kernel
theorem d_W_law_742 : decode (jyc Y_W_law) 742 = .ok (.iconst 2, 1) := by decide +kernel
theorem d_W_law_743 : decode (jyc Y_W_law) 743 = .ok (.iadd, 1) := by decide +kernel
theorem d_W_law_744 : decode (jyc Y_W_law) 744 = .ok (.iaload, 1) := by decide +kernel
theorem d_W_law_745 : decode (jyc Y_W_law) 745 = .ok (.invokevirtual 104, 3) := by decide +kernel
theorem d_W_law_748 : decode (jyc Y_W_law) 748 = .ok (.aload_n 2, 1) := by decide +kernel
theorem d_W_law_749 : decode (jyc Y_W_law) 749 = .ok (.aload_n 0, 1) := by decide +kernel
theorem d_W_law_750 : decode (jyc Y_W_law) 750 = .ok (.iload 4, 2) := by decide +kernel
theorem d_W_law_752 : decode (jyc Y_W_law) 752 = .ok (.iconst 1, 1) := by decide +kernel
theorem d_W_law_753 : decode (jyc Y_W_law) 753 = .ok (.iadd, 1) := by decide +kernel
theorem d_W_law_754 : decode (jyc Y_W_law) 754 = .ok (.iaload, 1) := by decide +kernel
theorem d_W_law_755 : decode (jyc Y_W_law) 755 = .ok (.aload_n 0, 1) := by decide +kernel
theorem d_W_law_756 : decode (jyc Y_W_law) 756 = .ok (.iload 4, 2) := by decide +kernel
theorem d_W_law_758 : decode (jyc Y_W_law) 758 = .ok (.iconst 2, 1) := by decide +kernel
theorem d_W_law_759 : decode (jyc Y_W_law) 759 = .ok (.iadd, 1) := by decide +kernel
theorem d_W_law_760 : decode (jyc Y_W_law) 760 = .ok (.iaload, 1) := by decide +kernel
theorem d_W_law_761 : decode (jyc Y_W_law) 761 = .ok (.invokevirtual 107, 3) := by decide +kernel
theorem d_W_law_764 : decode (jyc Y_W_law) 764 = .ok (.if_icmp .eq 532, 3) := by decide +kernel
theorem d_W_law_767 : decode (jyc Y_W_law) 767 = .ok (.iconst 0, 1) := by decide +kernel
theorem d_W_law_768 : decode (jyc Y_W_law) 768 = .ok (.ireturn, 1) := by decide +kernel
theorem d_W_law_769 : decode (jyc Y_W_law) 769 = .ok (.aload_n 1, 1) := by decide +kernel
theorem d_W_law_770 : decode (jyc Y_W_law) 770 = .ok (.aload_n 3, 1) := by decide +kernel
theorem d_W_law_771 : decode (jyc Y_W_law) 771 = .ok (.invokestatic 108, 3) := by decide +kernel
theorem d_W_law_774 : decode (jyc Y_W_law) 774 = .ok (.istore 5, 2) := by decide +kernel
theorem d_W_law_776 : decode (jyc Y_W_law) 776 = .ok (.aload_n 2, 1) := by decide +kernel
theorem d_W_law_777 : decode (jyc Y_W_law) 777 = .ok (.invokevirtual 111, 3) := by decide +kernel
theorem d_W_law_780 : decode (jyc Y_W_law) 780 = .ok (.istore 6, 2) := by decide +kernel
theorem d_W_law_782 : decode (jyc Y_W_law) 782 = .ok (.aload_n 2, 1) := by decide +kernel
theorem d_W_law_783 : decode (jyc Y_W_law) 783 = .ok (.invokevirtual 72, 3) := by decide +kernel
theorem d_W_law_786 : decode (jyc Y_W_law) 786 = .ok (.iload 5, 2) := by decide +kernel
theorem d_W_law_788 : decode (jyc Y_W_law) 788 = .ok (.if_icmp .eq 5, 3) := by decide +kernel
theorem d_W_law_791 : decode (jyc Y_W_law) 791 = .ok (.iconst 0, 1) := by decide +kernel
theorem d_W_law_792 : decode (jyc Y_W_law) 792 = .ok (.ireturn, 1) := by decide +kernel
theorem d_W_law_793 : decode (jyc Y_W_law) 793 = .ok (.iload 5, 2) := by decide +kernel
theorem d_W_law_795 : decode (jyc Y_W_law) 795 = .ok (.ifCond .ne 22, 3) := by decide +kernel
theorem d_W_law_798 : decode (jyc Y_W_law) 798 = .ok (.aload_n 3, 1) := by decide +kernel
theorem d_W_law_799 : decode (jyc Y_W_law) 799 = .ok (.iconst 0, 1) := by decide +kernel
theorem d_W_law_800 : decode (jyc Y_W_law) 800 = .ok (.laload, 1) := by decide +kernel
theorem d_W_law_801 : decode (jyc Y_W_law) 801 = .ok (.iload 6, 2) := by decide +kernel
theorem d_W_law_803 : decode (jyc Y_W_law) 803 = .ok (.ifCond .eq 7, 3) := by decide +kernel
theorem d_W_law_806 : decode (jyc Y_W_law) 806 = .ok (.lconst 1, 1) := by decide +kernel
theorem d_W_law_807 : decode (jyc Y_W_law) 807 = .ok (.goto 4, 3) := by decide +kernel
theorem d_W_law_810 : decode (jyc Y_W_law) 810 = .ok (.lconst 0, 1) := by decide +kernel
theorem d_W_law_811 : decode (jyc Y_W_law) 811 = .ok (.lcmp, 1) := by decide +kernel
theorem d_W_law_812 : decode (jyc Y_W_law) 812 = .ok (.ifCond .eq 5, 3) := by decide +kernel
theorem d_W_law_815 : decode (jyc Y_W_law) 815 = .ok (.iconst 0, 1) := by decide +kernel
theorem d_W_law_816 : decode (jyc Y_W_law) 816 = .ok (.ireturn, 1) := by decide +kernel
theorem d_W_law_817 : decode (jyc Y_W_law) 817 = .ok (.goto 479, 3) := by decide +kernel
theorem d_W_law_820 : decode (jyc Y_W_law) 820 = .ok (.aload_n 1, 1) := by decide +kernel
theorem d_W_law_821 : decode (jyc Y_W_law) 821 = .ok (.aload_n 0, 1) := by decide +kernel
theorem d_W_law_822 : decode (jyc Y_W_law) 822 = .ok (.iload 4, 2) := by decide +kernel
theorem d_W_law_824 : decode (jyc Y_W_law) 824 = .ok (.iconst 1, 1) := by decide +kernel
theorem d_W_law_825 : decode (jyc Y_W_law) 825 = .ok (.iadd, 1) := by decide +kernel
theorem d_W_law_826 : decode (jyc Y_W_law) 826 = .ok (.iaload, 1) := by decide +kernel
theorem d_W_law_827 : decode (jyc Y_W_law) 827 = .ok (.aload_n 0, 1) := by decide +kernel
theorem d_W_law_828 : decode (jyc Y_W_law) 828 = .ok (.iload 4, 2) := by decide +kernel
theorem d_W_law_830 : decode (jyc Y_W_law) 830 = .ok (.iconst 2, 1) := by decide +kernel
theorem d_W_law_831 : decode (jyc Y_W_law) 831 = .ok (.iadd, 1) := by decide +kernel
theorem d_W_law_832 : decode (jyc Y_W_law) 832 = .ok (.iaload, 1) := by decide +kernel
theorem d_W_law_833 : decode (jyc Y_W_law) 833 = .ok (.aload_n 3, 1) := by decide +kernel
theorem d_W_law_834 : decode (jyc Y_W_law) 834 = .ok (.invokestatic 112, 3) := by decide +kernel
theorem d_W_law_837 : decode (jyc Y_W_law) 837 = .ok (.istore 5, 2) := by decide +kernel
theorem d_W_law_839 : decode (jyc Y_W_law) 839 = .ok (.aload_n 2, 1) := by decide +kernel
theorem d_W_law_840 : decode (jyc Y_W_law) 840 = .ok (.aload_n 0, 1) := by decide +kernel
theorem d_W_law_841 : decode (jyc Y_W_law) 841 = .ok (.iload 4, 2) := by decide +kernel
theorem d_W_law_843 : decode (jyc Y_W_law) 843 = .ok (.iconst 1, 1) := by decide +kernel
theorem d_W_law_844 : decode (jyc Y_W_law) 844 = .ok (.iadd, 1) := by decide +kernel
theorem d_W_law_845 : decode (jyc Y_W_law) 845 = .ok (.iaload, 1) := by decide +kernel
theorem d_W_law_846 : decode (jyc Y_W_law) 846 = .ok (.aload_n 0, 1) := by decide +kernel
theorem d_W_law_847 : decode (jyc Y_W_law) 847 = .ok (.iload 4, 2) := by decide +kernel
theorem d_W_law_849 : decode (jyc Y_W_law) 849 = .ok (.iconst 2, 1) := by decide +kernel
theorem d_W_law_850 : decode (jyc Y_W_law) 850 = .ok (.iadd, 1) := by decide +kernel
theorem d_W_law_851 : decode (jyc Y_W_law) 851 = .ok (.iaload, 1) := by decide +kernel
theorem d_W_law_852 : decode (jyc Y_W_law) 852 = .ok (.invokevirtual 114, 3) := by decide +kernel
theorem d_W_law_855 : decode (jyc Y_W_law) 855 = .ok (.istore 6, 2) := by decide +kernel
theorem d_W_law_857 : decode (jyc Y_W_law) 857 = .ok (.aload_n 2, 1) := by decide +kernel
theorem d_W_law_858 : decode (jyc Y_W_law) 858 = .ok (.invokevirtual 72, 3) := by decide +kernel
theorem d_W_law_861 : decode (jyc Y_W_law) 861 = .ok (.iload 5, 2) := by decide +kernel
theorem d_W_law_863 : decode (jyc Y_W_law) 863 = .ok (.if_icmp .eq 5, 3) := by decide +kernel
theorem d_W_law_866 : decode (jyc Y_W_law) 866 = .ok (.iconst 0, 1) := by decide +kernel
theorem d_W_law_867 : decode (jyc Y_W_law) 867 = .ok (.ireturn, 1) := by decide +kernel
theorem d_W_law_868 : decode (jyc Y_W_law) 868 = .ok (.iload 5, 2) := by decide +kernel
theorem d_W_law_870 : decode (jyc Y_W_law) 870 = .ok (.ifCond .ne 15, 3) := by decide +kernel
theorem d_W_law_873 : decode (jyc Y_W_law) 873 = .ok (.aload_n 3, 1) := by decide +kernel
theorem d_W_law_874 : decode (jyc Y_W_law) 874 = .ok (.iconst 0, 1) := by decide +kernel
theorem d_W_law_875 : decode (jyc Y_W_law) 875 = .ok (.laload, 1) := by decide +kernel
theorem d_W_law_876 : decode (jyc Y_W_law) 876 = .ok (.iload 6, 2) := by decide +kernel
theorem d_W_law_878 : decode (jyc Y_W_law) 878 = .ok (.i2l, 1) := by decide +kernel
theorem d_W_law_879 : decode (jyc Y_W_law) 879 = .ok (.lcmp, 1) := by decide +kernel
theorem d_W_law_880 : decode (jyc Y_W_law) 880 = .ok (.ifCond .eq 5, 3) := by decide +kernel
theorem d_W_law_883 : decode (jyc Y_W_law) 883 = .ok (.iconst 0, 1) := by decide +kernel
theorem d_W_law_884 : decode (jyc Y_W_law) 884 = .ok (.ireturn, 1) := by decide +kernel
theorem d_W_law_885 : decode (jyc Y_W_law) 885 = .ok (.goto 411, 3) := by decide +kernel
theorem d_W_law_888 : decode (jyc Y_W_law) 888 = .ok (.aload_n 1, 1) := by decide +kernel
theorem d_W_law_889 : decode (jyc Y_W_law) 889 = .ok (.aload_n 0, 1) := by decide +kernel
theorem d_W_law_890 : decode (jyc Y_W_law) 890 = .ok (.iload 4, 2) := by decide +kernel
theorem d_W_law_892 : decode (jyc Y_W_law) 892 = .ok (.iconst 1, 1) := by decide +kernel
theorem d_W_law_893 : decode (jyc Y_W_law) 893 = .ok (.iadd, 1) := by decide +kernel
theorem d_W_law_894 : decode (jyc Y_W_law) 894 = .ok (.iaload, 1) := by decide +kernel
theorem d_W_law_895 : decode (jyc Y_W_law) 895 = .ok (.invokevirtual 115, 3) := by decide +kernel
theorem d_W_law_898 : decode (jyc Y_W_law) 898 = .ok (.aload_n 2, 1) := by decide +kernel
theorem d_W_law_899 : decode (jyc Y_W_law) 899 = .ok (.aload_n 0, 1) := by decide +kernel
theorem d_W_law_900 : decode (jyc Y_W_law) 900 = .ok (.iload 4, 2) := by decide +kernel
theorem d_W_law_902 : decode (jyc Y_W_law) 902 = .ok (.iconst 1, 1) := by decide +kernel
theorem d_W_law_903 : decode (jyc Y_W_law) 903 = .ok (.iadd, 1) := by decide +kernel
theorem d_W_law_904 : decode (jyc Y_W_law) 904 = .ok (.iaload, 1) := by decide +kernel
theorem d_W_law_905 : decode (jyc Y_W_law) 905 = .ok (.invokevirtual 118, 3) := by decide +kernel
theorem d_W_law_908 : decode (jyc Y_W_law) 908 = .ok (.if_icmp .eq 388, 3) := by decide +kernel
theorem d_W_law_911 : decode (jyc Y_W_law) 911 = .ok (.iconst 0, 1) := by decide +kernel
theorem d_W_law_912 : decode (jyc Y_W_law) 912 = .ok (.ireturn, 1) := by decide +kernel
theorem d_W_law_913 : decode (jyc Y_W_law) 913 = .ok (.aload_n 1, 1) := by decide +kernel
theorem d_W_law_914 : decode (jyc Y_W_law) 914 = .ok (.aload_n 0, 1) := by decide +kernel
theorem d_W_law_915 : decode (jyc Y_W_law) 915 = .ok (.iload 4, 2) := by decide +kernel
theorem d_W_law_917 : decode (jyc Y_W_law) 917 = .ok (.iconst 1, 1) := by decide +kernel
theorem d_W_law_918 : decode (jyc Y_W_law) 918 = .ok (.iadd, 1) := by decide +kernel
theorem d_W_law_919 : decode (jyc Y_W_law) 919 = .ok (.iaload, 1) := by decide +kernel
theorem d_W_law_920 : decode (jyc Y_W_law) 920 = .ok (.aload_n 0, 1) := by decide +kernel
theorem d_W_law_921 : decode (jyc Y_W_law) 921 = .ok (.iload 4, 2) := by decide +kernel
theorem d_W_law_923 : decode (jyc Y_W_law) 923 = .ok (.iconst 2, 1) := by decide +kernel
theorem d_W_law_924 : decode (jyc Y_W_law) 924 = .ok (.iadd, 1) := by decide +kernel
theorem d_W_law_925 : decode (jyc Y_W_law) 925 = .ok (.iaload, 1) := by decide +kernel
theorem d_W_law_926 : decode (jyc Y_W_law) 926 = .ok (.aload_n 3, 1) := by decide +kernel
theorem d_W_law_927 : decode (jyc Y_W_law) 927 = .ok (.invokestatic 119, 3) := by decide +kernel
theorem d_W_law_930 : decode (jyc Y_W_law) 930 = .ok (.istore 5, 2) := by decide +kernel
theorem d_W_law_932 : decode (jyc Y_W_law) 932 = .ok (.aload_n 2, 1) := by decide +kernel
theorem d_W_law_933 : decode (jyc Y_W_law) 933 = .ok (.aload_n 0, 1) := by decide +kernel
theorem d_W_law_934 : decode (jyc Y_W_law) 934 = .ok (.iload 4, 2) := by decide +kernel
theorem d_W_law_936 : decode (jyc Y_W_law) 936 = .ok (.iconst 1, 1) := by decide +kernel
theorem d_W_law_937 : decode (jyc Y_W_law) 937 = .ok (.iadd, 1) := by decide +kernel
theorem d_W_law_938 : decode (jyc Y_W_law) 938 = .ok (.iaload, 1) := by decide +kernel
theorem d_W_law_939 : decode (jyc Y_W_law) 939 = .ok (.aload_n 0, 1) := by decide +kernel
theorem d_W_law_940 : decode (jyc Y_W_law) 940 = .ok (.iload 4, 2) := by decide +kernel
theorem d_W_law_942 : decode (jyc Y_W_law) 942 = .ok (.iconst 2, 1) := by decide +kernel
theorem d_W_law_943 : decode (jyc Y_W_law) 943 = .ok (.iadd, 1) := by decide +kernel
theorem d_W_law_944 : decode (jyc Y_W_law) 944 = .ok (.iaload, 1) := by decide +kernel
theorem d_W_law_945 : decode (jyc Y_W_law) 945 = .ok (.invokevirtual 121, 3) := by decide +kernel
theorem d_W_law_948 : decode (jyc Y_W_law) 948 = .ok (.istore 6, 2) := by decide +kernel
theorem d_W_law_950 : decode (jyc Y_W_law) 950 = .ok (.aload_n 2, 1) := by decide +kernel
theorem d_W_law_951 : decode (jyc Y_W_law) 951 = .ok (.invokevirtual 72, 3) := by decide +kernel
theorem d_W_law_954 : decode (jyc Y_W_law) 954 = .ok (.iload 5, 2) := by decide +kernel
theorem d_W_law_956 : decode (jyc Y_W_law) 956 = .ok (.if_icmp .eq 5, 3) := by decide +kernel
theorem d_W_law_959 : decode (jyc Y_W_law) 959 = .ok (.iconst 0, 1) := by decide +kernel
theorem d_W_law_960 : decode (jyc Y_W_law) 960 = .ok (.ireturn, 1) := by decide +kernel
theorem d_W_law_961 : decode (jyc Y_W_law) 961 = .ok (.iload 5, 2) := by decide +kernel
theorem d_W_law_963 : decode (jyc Y_W_law) 963 = .ok (.ifCond .ne 15, 3) := by decide +kernel
theorem d_W_law_966 : decode (jyc Y_W_law) 966 = .ok (.aload_n 3, 1) := by decide +kernel
theorem d_W_law_967 : decode (jyc Y_W_law) 967 = .ok (.iconst 0, 1) := by decide +kernel
theorem d_W_law_968 : decode (jyc Y_W_law) 968 = .ok (.laload, 1) := by decide +kernel
theorem d_W_law_969 : decode (jyc Y_W_law) 969 = .ok (.iload 6, 2) := by decide +kernel
theorem d_W_law_971 : decode (jyc Y_W_law) 971 = .ok (.i2l, 1) := by decide +kernel
theorem d_W_law_972 : decode (jyc Y_W_law) 972 = .ok (.lcmp, 1) := by decide +kernel
theorem d_W_law_973 : decode (jyc Y_W_law) 973 = .ok (.ifCond .eq 5, 3) := by decide +kernel
theorem d_W_law_976 : decode (jyc Y_W_law) 976 = .ok (.iconst 0, 1) := by decide +kernel
theorem d_W_law_977 : decode (jyc Y_W_law) 977 = .ok (.ireturn, 1) := by decide +kernel
theorem d_W_law_978 : decode (jyc Y_W_law) 978 = .ok (.goto 318, 3) := by decide +kernel
theorem d_W_law_981 : decode (jyc Y_W_law) 981 = .ok (.aload_n 1, 1) := by decide +kernel
theorem d_W_law_982 : decode (jyc Y_W_law) 982 = .ok (.aload_n 0, 1) := by decide +kernel
theorem d_W_law_983 : decode (jyc Y_W_law) 983 = .ok (.iload 4, 2) := by decide +kernel
theorem d_W_law_985 : decode (jyc Y_W_law) 985 = .ok (.iconst 1, 1) := by decide +kernel
theorem d_W_law_986 : decode (jyc Y_W_law) 986 = .ok (.iadd, 1) := by decide +kernel
theorem d_W_law_987 : decode (jyc Y_W_law) 987 = .ok (.iaload, 1) := by decide +kernel
theorem d_W_law_988 : decode (jyc Y_W_law) 988 = .ok (.aload_n 3, 1) := by decide +kernel
theorem d_W_law_989 : decode (jyc Y_W_law) 989 = .ok (.invokestatic 122, 3) := by decide +kernel
theorem d_W_law_992 : decode (jyc Y_W_law) 992 = .ok (.istore 5, 2) := by decide +kernel
theorem d_W_law_994 : decode (jyc Y_W_law) 994 = .ok (.aload_n 2, 1) := by decide +kernel
theorem d_W_law_995 : decode (jyc Y_W_law) 995 = .ok (.aload_n 0, 1) := by decide +kernel
theorem d_W_law_996 : decode (jyc Y_W_law) 996 = .ok (.iload 4, 2) := by decide +kernel
theorem d_W_law_998 : decode (jyc Y_W_law) 998 = .ok (.iconst 1, 1) := by decide +kernel
theorem d_W_law_999 : decode (jyc Y_W_law) 999 = .ok (.iadd, 1) := by decide +kernel
theorem d_W_law_1000 : decode (jyc Y_W_law) 1000 = .ok (.iaload, 1) := by decide +kernel
theorem d_W_law_1001 : decode (jyc Y_W_law) 1001 = .ok (.invokevirtual 124, 3) := by decide +kernel
theorem d_W_law_1004 : decode (jyc Y_W_law) 1004 = .ok (.istore 6, 2) := by decide +kernel
theorem d_W_law_1006 : decode (jyc Y_W_law) 1006 = .ok (.aload_n 2, 1) := by decide +kernel
theorem d_W_law_1007 : decode (jyc Y_W_law) 1007 = .ok (.invokevirtual 72, 3) := by decide +kernel
theorem d_W_law_1010 : decode (jyc Y_W_law) 1010 = .ok (.iload 5, 2) := by decide +kernel
theorem d_W_law_1012 : decode (jyc Y_W_law) 1012 = .ok (.if_icmp .eq 5, 3) := by decide +kernel
theorem d_W_law_1015 : decode (jyc Y_W_law) 1015 = .ok (.iconst 0, 1) := by decide +kernel
theorem d_W_law_1016 : decode (jyc Y_W_law) 1016 = .ok (.ireturn, 1) := by decide +kernel
theorem d_W_law_1017 : decode (jyc Y_W_law) 1017 = .ok (.iload 5, 2) := by decide +kernel
theorem d_W_law_1019 : decode (jyc Y_W_law) 1019 = .ok (.ifCond .ne 15, 3) := by decide +kernel
theorem d_W_law_1022 : decode (jyc Y_W_law) 1022 = .ok (.aload_n 3, 1) := by decide +kernel
theorem d_W_law_1023 : decode (jyc Y_W_law) 1023 = .ok (.iconst 0, 1) := by decide +kernel
theorem d_W_law_1024 : decode (jyc Y_W_law) 1024 = .ok (.laload, 1) := by decide +kernel
theorem d_W_law_1025 : decode (jyc Y_W_law) 1025 = .ok (.iload 6, 2) := by decide +kernel
theorem d_W_law_1027 : decode (jyc Y_W_law) 1027 = .ok (.i2l, 1) := by decide +kernel
theorem d_W_law_1028 : decode (jyc Y_W_law) 1028 = .ok (.lcmp, 1) := by decide +kernel
theorem d_W_law_1029 : decode (jyc Y_W_law) 1029 = .ok (.ifCond .eq 5, 3) := by decide +kernel
theorem d_W_law_1032 : decode (jyc Y_W_law) 1032 = .ok (.iconst 0, 1) := by decide +kernel
theorem d_W_law_1033 : decode (jyc Y_W_law) 1033 = .ok (.ireturn, 1) := by decide +kernel
theorem d_W_law_1034 : decode (jyc Y_W_law) 1034 = .ok (.goto 262, 3) := by decide +kernel
theorem d_W_law_1037 : decode (jyc Y_W_law) 1037 = .ok (.aload_n 1, 1) := by decide +kernel
theorem d_W_law_1038 : decode (jyc Y_W_law) 1038 = .ok (.aload_n 0, 1) := by decide +kernel
theorem d_W_law_1039 : decode (jyc Y_W_law) 1039 = .ok (.iload 4, 2) := by decide +kernel
theorem d_W_law_1041 : decode (jyc Y_W_law) 1041 = .ok (.iconst 1, 1) := by decide +kernel
theorem d_W_law_1042 : decode (jyc Y_W_law) 1042 = .ok (.iadd, 1) := by decide +kernel
theorem d_W_law_1043 : decode (jyc Y_W_law) 1043 = .ok (.iaload, 1) := by decide +kernel
theorem d_W_law_1044 : decode (jyc Y_W_law) 1044 = .ok (.invokevirtual 125, 3) := by decide +kernel
theorem d_W_law_1047 : decode (jyc Y_W_law) 1047 = .ok (.aload_n 2, 1) := by decide +kernel
theorem d_W_law_1048 : decode (jyc Y_W_law) 1048 = .ok (.aload_n 0, 1) := by decide +kernel
theorem d_W_law_1049 : decode (jyc Y_W_law) 1049 = .ok (.iload 4, 2) := by decide +kernel
theorem d_W_law_1051 : decode (jyc Y_W_law) 1051 = .ok (.iconst 1, 1) := by decide +kernel
theorem d_W_law_1052 : decode (jyc Y_W_law) 1052 = .ok (.iadd, 1) := by decide +kernel
theorem d_W_law_1053 : decode (jyc Y_W_law) 1053 = .ok (.iaload, 1) := by decide +kernel
theorem d_W_law_1054 : decode (jyc Y_W_law) 1054 = .ok (.invokevirtual 128, 3) := by decide +kernel
theorem d_W_law_1057 : decode (jyc Y_W_law) 1057 = .ok (.if_icmp .eq 239, 3) := by decide +kernel
theorem d_W_law_1060 : decode (jyc Y_W_law) 1060 = .ok (.iconst 0, 1) := by decide +kernel
theorem d_W_law_1061 : decode (jyc Y_W_law) 1061 = .ok (.ireturn, 1) := by decide +kernel
theorem d_W_law_1062 : decode (jyc Y_W_law) 1062 = .ok (.aload_n 1, 1) := by decide +kernel
theorem d_W_law_1063 : decode (jyc Y_W_law) 1063 = .ok (.aload_n 0, 1) := by decide +kernel
theorem d_W_law_1064 : decode (jyc Y_W_law) 1064 = .ok (.iload 4, 2) := by decide +kernel
theorem d_W_law_1066 : decode (jyc Y_W_law) 1066 = .ok (.iconst 1, 1) := by decide +kernel
theorem d_W_law_1067 : decode (jyc Y_W_law) 1067 = .ok (.iadd, 1) := by decide +kernel
theorem d_W_law_1068 : decode (jyc Y_W_law) 1068 = .ok (.iaload, 1) := by decide +kernel
theorem d_W_law_1069 : decode (jyc Y_W_law) 1069 = .ok (.aload_n 0, 1) := by decide +kernel
theorem d_W_law_1070 : decode (jyc Y_W_law) 1070 = .ok (.iload 4, 2) := by decide +kernel
theorem d_W_law_1072 : decode (jyc Y_W_law) 1072 = .ok (.iconst 2, 1) := by decide +kernel
theorem d_W_law_1073 : decode (jyc Y_W_law) 1073 = .ok (.iadd, 1) := by decide +kernel
theorem d_W_law_1074 : decode (jyc Y_W_law) 1074 = .ok (.iaload, 1) := by decide +kernel
theorem d_W_law_1075 : decode (jyc Y_W_law) 1075 = .ok (.aload_n 0, 1) := by decide +kernel
theorem d_W_law_1076 : decode (jyc Y_W_law) 1076 = .ok (.iload 4, 2) := by decide +kernel
theorem d_W_law_1078 : decode (jyc Y_W_law) 1078 = .ok (.iconst 3, 1) := by decide +kernel
theorem d_W_law_1079 : decode (jyc Y_W_law) 1079 = .ok (.iadd, 1) := by decide +kernel
theorem d_W_law_1080 : decode (jyc Y_W_law) 1080 = .ok (.iaload, 1) := by decide +kernel
theorem d_W_law_1081 : decode (jyc Y_W_law) 1081 = .ok (.aload_n 3, 1) := by decide +kernel
theorem d_W_law_1082 : decode (jyc Y_W_law) 1082 = .ok (.invokestatic 129, 3) := by decide +kernel
theorem d_W_law_1085 : decode (jyc Y_W_law) 1085 = .ok (.istore 5, 2) := by decide +kernel
theorem d_W_law_1087 : decode (jyc Y_W_law) 1087 = .ok (.aload_n 2, 1) := by decide +kernel
theorem d_W_law_1088 : decode (jyc Y_W_law) 1088 = .ok (.aload_n 0, 1) := by decide +kernel
theorem d_W_law_1089 : decode (jyc Y_W_law) 1089 = .ok (.iload 4, 2) := by decide +kernel
theorem d_W_law_1091 : decode (jyc Y_W_law) 1091 = .ok (.iconst 1, 1) := by decide +kernel
theorem d_W_law_1092 : decode (jyc Y_W_law) 1092 = .ok (.iadd, 1) := by decide +kernel
theorem d_W_law_1093 : decode (jyc Y_W_law) 1093 = .ok (.iaload, 1) := by decide +kernel
theorem d_W_law_1094 : decode (jyc Y_W_law) 1094 = .ok (.aload_n 0, 1) := by decide +kernel
theorem d_W_law_1095 : decode (jyc Y_W_law) 1095 = .ok (.iload 4, 2) := by decide +kernel
theorem d_W_law_1097 : decode (jyc Y_W_law) 1097 = .ok (.iconst 2, 1) := by decide +kernel
theorem d_W_law_1098 : decode (jyc Y_W_law) 1098 = .ok (.iadd, 1) := by decide +kernel
theorem d_W_law_1099 : decode (jyc Y_W_law) 1099 = .ok (.iaload, 1) := by decide +kernel
theorem d_W_law_1100 : decode (jyc Y_W_law) 1100 = .ok (.aload_n 0, 1) := by decide +kernel
theorem d_W_law_1101 : decode (jyc Y_W_law) 1101 = .ok (.iload 4, 2) := by decide +kernel
theorem d_W_law_1103 : decode (jyc Y_W_law) 1103 = .ok (.iconst 3, 1) := by decide +kernel
theorem d_W_law_1104 : decode (jyc Y_W_law) 1104 = .ok (.iadd, 1) := by decide +kernel
theorem d_W_law_1105 : decode (jyc Y_W_law) 1105 = .ok (.iaload, 1) := by decide +kernel
theorem d_W_law_1106 : decode (jyc Y_W_law) 1106 = .ok (.invokevirtual 131, 3) := by decide +kernel
theorem d_W_law_1109 : decode (jyc Y_W_law) 1109 = .ok (.istore 6, 2) := by decide +kernel
theorem d_W_law_1111 : decode (jyc Y_W_law) 1111 = .ok (.aload_n 2, 1) := by decide +kernel
theorem d_W_law_1112 : decode (jyc Y_W_law) 1112 = .ok (.invokevirtual 72, 3) := by decide +kernel
theorem d_W_law_1115 : decode (jyc Y_W_law) 1115 = .ok (.iload 5, 2) := by decide +kernel
theorem d_W_law_1117 : decode (jyc Y_W_law) 1117 = .ok (.if_icmp .eq 5, 3) := by decide +kernel
theorem d_W_law_1120 : decode (jyc Y_W_law) 1120 = .ok (.iconst 0, 1) := by decide +kernel
theorem d_W_law_1121 : decode (jyc Y_W_law) 1121 = .ok (.ireturn, 1) := by decide +kernel
theorem d_W_law_1122 : decode (jyc Y_W_law) 1122 = .ok (.iload 5, 2) := by decide +kernel
theorem d_W_law_1124 : decode (jyc Y_W_law) 1124 = .ok (.ifCond .ne 15, 3) := by decide +kernel
theorem d_W_law_1127 : decode (jyc Y_W_law) 1127 = .ok (.aload_n 3, 1) := by decide +kernel
theorem d_W_law_1128 : decode (jyc Y_W_law) 1128 = .ok (.iconst 0, 1) := by decide +kernel
theorem d_W_law_1129 : decode (jyc Y_W_law) 1129 = .ok (.laload, 1) := by decide +kernel
theorem d_W_law_1130 : decode (jyc Y_W_law) 1130 = .ok (.iload 6, 2) := by decide +kernel
theorem d_W_law_1132 : decode (jyc Y_W_law) 1132 = .ok (.i2l, 1) := by decide +kernel
theorem d_W_law_1133 : decode (jyc Y_W_law) 1133 = .ok (.lcmp, 1) := by decide +kernel
theorem d_W_law_1134 : decode (jyc Y_W_law) 1134 = .ok (.ifCond .eq 5, 3) := by decide +kernel
theorem d_W_law_1137 : decode (jyc Y_W_law) 1137 = .ok (.iconst 0, 1) := by decide +kernel
theorem d_W_law_1138 : decode (jyc Y_W_law) 1138 = .ok (.ireturn, 1) := by decide +kernel
theorem d_W_law_1139 : decode (jyc Y_W_law) 1139 = .ok (.goto 157, 3) := by decide +kernel
theorem d_W_law_1142 : decode (jyc Y_W_law) 1142 = .ok (.aload_n 1, 1) := by decide +kernel
theorem d_W_law_1143 : decode (jyc Y_W_law) 1143 = .ok (.aload_n 0, 1) := by decide +kernel
theorem d_W_law_1144 : decode (jyc Y_W_law) 1144 = .ok (.iload 4, 2) := by decide +kernel
theorem d_W_law_1146 : decode (jyc Y_W_law) 1146 = .ok (.iconst 1, 1) := by decide +kernel
theorem d_W_law_1147 : decode (jyc Y_W_law) 1147 = .ok (.iadd, 1) := by decide +kernel
theorem d_W_law_1148 : decode (jyc Y_W_law) 1148 = .ok (.iaload, 1) := by decide +kernel
theorem d_W_law_1149 : decode (jyc Y_W_law) 1149 = .ok (.aload_n 0, 1) := by decide +kernel
theorem d_W_law_1150 : decode (jyc Y_W_law) 1150 = .ok (.iload 4, 2) := by decide +kernel
theorem d_W_law_1152 : decode (jyc Y_W_law) 1152 = .ok (.iconst 2, 1) := by decide +kernel
theorem d_W_law_1153 : decode (jyc Y_W_law) 1153 = .ok (.iadd, 1) := by decide +kernel
theorem d_W_law_1154 : decode (jyc Y_W_law) 1154 = .ok (.iaload, 1) := by decide +kernel
theorem d_W_law_1155 : decode (jyc Y_W_law) 1155 = .ok (.aload_n 0, 1) := by decide +kernel
theorem d_W_law_1156 : decode (jyc Y_W_law) 1156 = .ok (.iload 4, 2) := by decide +kernel
theorem d_W_law_1158 : decode (jyc Y_W_law) 1158 = .ok (.iconst 3, 1) := by decide +kernel
theorem d_W_law_1159 : decode (jyc Y_W_law) 1159 = .ok (.iadd, 1) := by decide +kernel
theorem d_W_law_1160 : decode (jyc Y_W_law) 1160 = .ok (.iaload, 1) := by decide +kernel
theorem d_W_law_1161 : decode (jyc Y_W_law) 1161 = .ok (.aload_n 0, 1) := by decide +kernel
theorem d_W_law_1162 : decode (jyc Y_W_law) 1162 = .ok (.iload 4, 2) := by decide +kernel
theorem d_W_law_1164 : decode (jyc Y_W_law) 1164 = .ok (.iconst 4, 1) := by decide +kernel
theorem d_W_law_1165 : decode (jyc Y_W_law) 1165 = .ok (.iadd, 1) := by decide +kernel
theorem d_W_law_1166 : decode (jyc Y_W_law) 1166 = .ok (.iaload, 1) := by decide +kernel
theorem d_W_law_1167 : decode (jyc Y_W_law) 1167 = .ok (.aload_n 3, 1) := by decide +kernel
theorem d_W_law_1168 : decode (jyc Y_W_law) 1168 = .ok (.invokestatic 132, 3) := by decide +kernel
theorem d_W_law_1171 : decode (jyc Y_W_law) 1171 = .ok (.istore 5, 2) := by decide +kernel
theorem d_W_law_1173 : decode (jyc Y_W_law) 1173 = .ok (.aload_n 2, 1) := by decide +kernel
theorem d_W_law_1174 : decode (jyc Y_W_law) 1174 = .ok (.aload_n 0, 1) := by decide +kernel
theorem d_W_law_1175 : decode (jyc Y_W_law) 1175 = .ok (.iload 4, 2) := by decide +kernel
theorem d_W_law_1177 : decode (jyc Y_W_law) 1177 = .ok (.iconst 1, 1) := by decide +kernel
theorem d_W_law_1178 : decode (jyc Y_W_law) 1178 = .ok (.iadd, 1) := by decide +kernel
theorem d_W_law_1179 : decode (jyc Y_W_law) 1179 = .ok (.iaload, 1) := by decide +kernel
theorem d_W_law_1180 : decode (jyc Y_W_law) 1180 = .ok (.aload_n 0, 1) := by decide +kernel
theorem d_W_law_1181 : decode (jyc Y_W_law) 1181 = .ok (.iload 4, 2) := by decide +kernel
theorem d_W_law_1183 : decode (jyc Y_W_law) 1183 = .ok (.iconst 2, 1) := by decide +kernel
theorem d_W_law_1184 : decode (jyc Y_W_law) 1184 = .ok (.iadd, 1) := by decide +kernel
theorem d_W_law_1185 : decode (jyc Y_W_law) 1185 = .ok (.iaload, 1) := by decide +kernel
theorem d_W_law_1186 : decode (jyc Y_W_law) 1186 = .ok (.aload_n 0, 1) := by decide +kernel
theorem d_W_law_1187 : decode (jyc Y_W_law) 1187 = .ok (.iload 4, 2) := by decide +kernel
theorem d_W_law_1189 : decode (jyc Y_W_law) 1189 = .ok (.iconst 3, 1) := by decide +kernel
theorem d_W_law_1190 : decode (jyc Y_W_law) 1190 = .ok (.iadd, 1) := by decide +kernel
theorem d_W_law_1191 : decode (jyc Y_W_law) 1191 = .ok (.iaload, 1) := by decide +kernel
theorem d_W_law_1192 : decode (jyc Y_W_law) 1192 = .ok (.aload_n 0, 1) := by decide +kernel
theorem d_W_law_1193 : decode (jyc Y_W_law) 1193 = .ok (.iload 4, 2) := by decide +kernel
theorem d_W_law_1195 : decode (jyc Y_W_law) 1195 = .ok (.iconst 4, 1) := by decide +kernel
theorem d_W_law_1196 : decode (jyc Y_W_law) 1196 = .ok (.iadd, 1) := by decide +kernel
theorem d_W_law_1197 : decode (jyc Y_W_law) 1197 = .ok (.iaload, 1) := by decide +kernel
theorem d_W_law_1198 : decode (jyc Y_W_law) 1198 = .ok (.invokevirtual 134, 3) := by decide +kernel
theorem d_W_law_1201 : decode (jyc Y_W_law) 1201 = .ok (.istore 6, 2) := by decide +kernel
theorem d_W_law_1203 : decode (jyc Y_W_law) 1203 = .ok (.aload_n 2, 1) := by decide +kernel
theorem d_W_law_1204 : decode (jyc Y_W_law) 1204 = .ok (.invokevirtual 72, 3) := by decide +kernel
theorem d_W_law_1207 : decode (jyc Y_W_law) 1207 = .ok (.iload 5, 2) := by decide +kernel
theorem d_W_law_1209 : decode (jyc Y_W_law) 1209 = .ok (.if_icmp .eq 5, 3) := by decide +kernel
theorem d_W_law_1212 : decode (jyc Y_W_law) 1212 = .ok (.iconst 0, 1) := by decide +kernel
theorem d_W_law_1213 : decode (jyc Y_W_law) 1213 = .ok (.ireturn, 1) := by decide +kernel
theorem d_W_law_1214 : decode (jyc Y_W_law) 1214 = .ok (.iload 5, 2) := by decide +kernel
theorem d_W_law_1216 : decode (jyc Y_W_law) 1216 = .ok (.ifCond .ne 15, 3) := by decide +kernel
theorem d_W_law_1219 : decode (jyc Y_W_law) 1219 = .ok (.aload_n 3, 1) := by decide +kernel
theorem d_W_law_1220 : decode (jyc Y_W_law) 1220 = .ok (.iconst 0, 1) := by decide +kernel
theorem d_W_law_1221 : decode (jyc Y_W_law) 1221 = .ok (.laload, 1) := by decide +kernel
theorem d_W_law_1222 : decode (jyc Y_W_law) 1222 = .ok (.iload 6, 2) := by decide +kernel
theorem d_W_law_1224 : decode (jyc Y_W_law) 1224 = .ok (.i2l, 1) := by decide +kernel
theorem d_W_law_1225 : decode (jyc Y_W_law) 1225 = .ok (.lcmp, 1) := by decide +kernel
theorem d_W_law_1226 : decode (jyc Y_W_law) 1226 = .ok (.ifCond .eq 5, 3) := by decide +kernel
theorem d_W_law_1229 : decode (jyc Y_W_law) 1229 = .ok (.iconst 0, 1) := by decide +kernel
theorem d_W_law_1230 : decode (jyc Y_W_law) 1230 = .ok (.ireturn, 1) := by decide +kernel
theorem d_W_law_1231 : decode (jyc Y_W_law) 1231 = .ok (.goto 65, 3) := by decide +kernel
theorem d_W_law_1234 : decode (jyc Y_W_law) 1234 = .ok (.aload_n 1, 1) := by decide +kernel
theorem d_W_law_1235 : decode (jyc Y_W_law) 1235 = .ok (.aload_n 0, 1) := by decide +kernel
theorem d_W_law_1236 : decode (jyc Y_W_law) 1236 = .ok (.iload 4, 2) := by decide +kernel
theorem d_W_law_1238 : decode (jyc Y_W_law) 1238 = .ok (.iconst 1, 1) := by decide +kernel
theorem d_W_law_1239 : decode (jyc Y_W_law) 1239 = .ok (.iadd, 1) := by decide +kernel
theorem d_W_law_1240 : decode (jyc Y_W_law) 1240 = .ok (.iaload, 1) := by decide +kernel
theorem d_W_law_1241 : decode (jyc Y_W_law) 1241 = .ok (.invokevirtual 135, 3) := by decide +kernel
theorem d_W_law_1244 : decode (jyc Y_W_law) 1244 = .ok (.aload_n 2, 1) := by decide +kernel
theorem d_W_law_1245 : decode (jyc Y_W_law) 1245 = .ok (.aload_n 0, 1) := by decide +kernel
theorem d_W_law_1246 : decode (jyc Y_W_law) 1246 = .ok (.iload 4, 2) := by decide +kernel
theorem d_W_law_1248 : decode (jyc Y_W_law) 1248 = .ok (.iconst 1, 1) := by decide +kernel
theorem d_W_law_1249 : decode (jyc Y_W_law) 1249 = .ok (.iadd, 1) := by decide +kernel
theorem d_W_law_1250 : decode (jyc Y_W_law) 1250 = .ok (.iaload, 1) := by decide +kernel
theorem d_W_law_1251 : decode (jyc Y_W_law) 1251 = .ok (.invokevirtual 138, 3) := by decide +kernel
theorem d_W_law_1254 : decode (jyc Y_W_law) 1254 = .ok (.if_icmp .eq 42, 3) := by decide +kernel
theorem d_W_law_1257 : decode (jyc Y_W_law) 1257 = .ok (.iconst 0, 1) := by decide +kernel
theorem d_W_law_1258 : decode (jyc Y_W_law) 1258 = .ok (.ireturn, 1) := by decide +kernel
theorem d_W_law_1259 : decode (jyc Y_W_law) 1259 = .ok (.aload_n 1, 1) := by decide +kernel
theorem d_W_law_1260 : decode (jyc Y_W_law) 1260 = .ok (.aload_n 0, 1) := by decide +kernel
theorem d_W_law_1261 : decode (jyc Y_W_law) 1261 = .ok (.iload 4, 2) := by decide +kernel
theorem d_W_law_1263 : decode (jyc Y_W_law) 1263 = .ok (.iconst 1, 1) := by decide +kernel
theorem d_W_law_1264 : decode (jyc Y_W_law) 1264 = .ok (.iadd, 1) := by decide +kernel
theorem d_W_law_1265 : decode (jyc Y_W_law) 1265 = .ok (.iaload, 1) := by decide +kernel
theorem d_W_law_1266 : decode (jyc Y_W_law) 1266 = .ok (.aload_n 0, 1) := by decide +kernel
theorem d_W_law_1267 : decode (jyc Y_W_law) 1267 = .ok (.iload 4, 2) := by decide +kernel
theorem d_W_law_1269 : decode (jyc Y_W_law) 1269 = .ok (.iconst 2, 1) := by decide +kernel
theorem d_W_law_1270 : decode (jyc Y_W_law) 1270 = .ok (.iadd, 1) := by decide +kernel
theorem d_W_law_1271 : decode (jyc Y_W_law) 1271 = .ok (.iaload, 1) := by decide +kernel
theorem d_W_law_1272 : decode (jyc Y_W_law) 1272 = .ok (.invokevirtual 139, 3) := by decide +kernel
theorem d_W_law_1275 : decode (jyc Y_W_law) 1275 = .ok (.aload_n 2, 1) := by decide +kernel
theorem d_W_law_1276 : decode (jyc Y_W_law) 1276 = .ok (.aload_n 0, 1) := by decide +kernel
theorem d_W_law_1277 : decode (jyc Y_W_law) 1277 = .ok (.iload 4, 2) := by decide +kernel
theorem d_W_law_1279 : decode (jyc Y_W_law) 1279 = .ok (.iconst 1, 1) := by decide +kernel
theorem d_W_law_1280 : decode (jyc Y_W_law) 1280 = .ok (.iadd, 1) := by decide +kernel
theorem d_W_law_1281 : decode (jyc Y_W_law) 1281 = .ok (.iaload, 1) := by decide +kernel
theorem d_W_law_1282 : decode (jyc Y_W_law) 1282 = .ok (.aload_n 0, 1) := by decide +kernel
theorem d_W_law_1283 : decode (jyc Y_W_law) 1283 = .ok (.iload 4, 2) := by decide +kernel
theorem d_W_law_1285 : decode (jyc Y_W_law) 1285 = .ok (.iconst 2, 1) := by decide +kernel
theorem d_W_law_1286 : decode (jyc Y_W_law) 1286 = .ok (.iadd, 1) := by decide +kernel
theorem d_W_law_1287 : decode (jyc Y_W_law) 1287 = .ok (.iaload, 1) := by decide +kernel
theorem d_W_law_1288 : decode (jyc Y_W_law) 1288 = .ok (.invokevirtual 142, 3) := by decide +kernel
theorem d_W_law_1291 : decode (jyc Y_W_law) 1291 = .ok (.if_icmp .eq 5, 3) := by decide +kernel
theorem d_W_law_1294 : decode (jyc Y_W_law) 1294 = .ok (.iconst 0, 1) := by decide +kernel
theorem d_W_law_1295 : decode (jyc Y_W_law) 1295 = .ok (.ireturn, 1) := by decide +kernel
theorem d_W_law_1296 : decode (jyc Y_W_law) 1296 = .ok (.iinc 4 6, 3) := by decide +kernel
theorem d_W_law_1299 : decode (jyc Y_W_law) 1299 = .ok (.goto (-1276), 3) := by decide +kernel
theorem d_W_law_1302 : decode (jyc Y_W_law) 1302 = .ok (.iconst 1, 1) := by decide +kernel
theorem d_W_law_1303 : decode (jyc Y_W_law) 1303 = .ok (.ireturn, 1) := by decide +kernel
end
section
/-! the links of all classes, by program -/
theorem lf_R_9 : jFld "AuditDesk$Rows" 9 5 0 := ⟨_, _, _, rfl, Nat.le_of_ble_eq_true rfl, rfl, Or.inl (jTab_in 37 (by decide +kernel) (by decide +kernel))⟩
theorem lf_E_31 : jFld "AuditDesk$Deposit" 31 3 0 := ⟨_, _, _, rfl, Nat.le_of_ble_eq_true rfl, rfl, Or.inl (jTab_in 42 (by decide +kernel) (by decide +kernel))⟩
theorem lf_D_220 : jFld "AuditDesk" 220 3 0 := ⟨_, _, _, rfl, Nat.le_of_ble_eq_true rfl, rfl, Or.inl (jTab_in 43 (by decide +kernel) (by decide +kernel))⟩
theorem lf_E_35 : jFld "AuditDesk$Deposit" 35 3 1 := ⟨_, _, _, rfl, Nat.le_of_ble_eq_true rfl, rfl, Or.inl (jTab_in 44 (by decide +kernel) (by decide +kernel))⟩
theorem lf_D_114 : jFld "AuditDesk" 114 3 1 := ⟨_, _, _, rfl, Nat.le_of_ble_eq_true rfl, rfl, Or.inl (jTab_in 45 (by decide +kernel) (by decide +kernel))⟩
theorem lf_E_9 : jFld "AuditDesk$Deposit" 9 3 2 := ⟨_, _, _, rfl, Nat.le_of_ble_eq_true rfl, rfl, Or.inl (jTab_in 46 (by decide +kernel) (by decide +kernel))⟩
theorem lf_C_67 : jFld "AuditDesk$Challenge" 67 3 2 := ⟨_, _, _, rfl, Nat.le_of_ble_eq_true rfl, rfl, Or.inl (jTab_in 47 (by decide +kernel) (by decide +kernel))⟩
theorem lf_E_15 : jFld "AuditDesk$Deposit" 15 3 3 := ⟨_, _, _, rfl, Nat.le_of_ble_eq_true rfl, rfl, Or.inl (jTab_in 48 (by decide +kernel) (by decide +kernel))⟩
theorem lf_C_62 : jFld "AuditDesk$Challenge" 62 3 3 := ⟨_, _, _, rfl, Nat.le_of_ble_eq_true rfl, rfl, Or.inl (jTab_in 49 (by decide +kernel) (by decide +kernel))⟩
theorem lf_E_21 : jFld "AuditDesk$Deposit" 21 3 4 := ⟨_, _, _, rfl, Nat.le_of_ble_eq_true rfl, rfl, Or.inl (jTab_in 50 (by decide +kernel) (by decide +kernel))⟩
theorem lf_D_111 : jFld "AuditDesk" 111 3 4 := ⟨_, _, _, rfl, Nat.le_of_ble_eq_true rfl, rfl, Or.inl (jTab_in 51 (by decide +kernel) (by decide +kernel))⟩
theorem lf_Y_26 : jFld "AuditDesk$Copy" 26 2 0 := ⟨_, _, _, rfl, Nat.le_of_ble_eq_true rfl, rfl, Or.inl (jTab_in 79 (by decide +kernel) (by decide +kernel))⟩
theorem lf_D_105 : jFld "AuditDesk" 105 2 0 := ⟨_, _, _, rfl, Nat.le_of_ble_eq_true rfl, rfl, Or.inl (jTab_in 80 (by decide +kernel) (by decide +kernel))⟩
theorem lf_Y_12 : jFld "AuditDesk$Copy" 12 2 1 := ⟨_, _, _, rfl, Nat.le_of_ble_eq_true rfl, rfl, Or.inl (jTab_in 81 (by decide +kernel) (by decide +kernel))⟩
theorem lf_D_141 : jFld "AuditDesk" 141 2 1 := ⟨_, _, _, rfl, Nat.le_of_ble_eq_true rfl, rfl, Or.inl (jTab_in 82 (by decide +kernel) (by decide +kernel))⟩
theorem lf_Y_18 : jFld "AuditDesk$Copy" 18 2 2 := ⟨_, _, _, rfl, Nat.le_of_ble_eq_true rfl, rfl, Or.inl (jTab_in 83 (by decide +kernel) (by decide +kernel))⟩
theorem lf_D_127 : jFld "AuditDesk" 127 2 2 := ⟨_, _, _, rfl, Nat.le_of_ble_eq_true rfl, rfl, Or.inl (jTab_in 84 (by decide +kernel) (by decide +kernel))⟩
theorem lf_K_11 : jFld "AuditDesk$Keeper" 11 4 0 := ⟨_, _, _, rfl, Nat.le_of_ble_eq_true rfl, rfl, Or.inl (jTab_in 93 (by decide +kernel) (by decide +kernel))⟩
theorem lf_D_101 : jFld "AuditDesk" 101 4 0 := ⟨_, _, _, rfl, Nat.le_of_ble_eq_true rfl, rfl, Or.inl (jTab_in 94 (by decide +kernel) (by decide +kernel))⟩
theorem lf_K_18 : jFld "AuditDesk$Keeper" 18 4 1 := ⟨_, _, _, rfl, Nat.le_of_ble_eq_true rfl, rfl, Or.inl (jTab_in 95 (by decide +kernel) (by decide +kernel))⟩
theorem lf_D_196 : jFld "AuditDesk" 196 4 1 := ⟨_, _, _, rfl, Nat.le_of_ble_eq_true rfl, rfl, Or.inl (jTab_in 96 (by decide +kernel) (by decide +kernel))⟩
theorem lf_K_22 : jFld "AuditDesk$Keeper" 22 4 2 := ⟨_, _, _, rfl, Nat.le_of_ble_eq_true rfl, rfl, Or.inl (jTab_in 97 (by decide +kernel) (by decide +kernel))⟩
theorem lf_D_199 : jFld "AuditDesk" 199 4 2 := ⟨_, _, _, rfl, Nat.le_of_ble_eq_true rfl, rfl, Or.inl (jTab_in 98 (by decide +kernel) (by decide +kernel))⟩
theorem lf_K_25 : jFld "AuditDesk$Keeper" 25 4 3 := ⟨_, _, _, rfl, Nat.le_of_ble_eq_true rfl, rfl, Or.inl (jTab_in 99 (by decide +kernel) (by decide +kernel))⟩
theorem lf_D_215 : jFld "AuditDesk" 215 4 3 := ⟨_, _, _, rfl, Nat.le_of_ble_eq_true rfl, rfl, Or.inl (jTab_in 100 (by decide +kernel) (by decide +kernel))⟩
theorem lf_C_25 : jFld "AuditDesk$Challenge" 25 1 0 := ⟨_, _, _, rfl, Nat.le_of_ble_eq_true rfl, rfl, Or.inl (jTab_in 116 (by decide +kernel) (by decide +kernel))⟩
theorem lf_D_172 : jFld "AuditDesk" 172 1 0 := ⟨_, _, _, rfl, Nat.le_of_ble_eq_true rfl, rfl, Or.inl (jTab_in 117 (by decide +kernel) (by decide +kernel))⟩
theorem lf_C_29 : jFld "AuditDesk$Challenge" 29 1 1 := ⟨_, _, _, rfl, Nat.le_of_ble_eq_true rfl, rfl, Or.inl (jTab_in 118 (by decide +kernel) (by decide +kernel))⟩
theorem lf_D_186 : jFld "AuditDesk" 186 1 1 := ⟨_, _, _, rfl, Nat.le_of_ble_eq_true rfl, rfl, Or.inl (jTab_in 119 (by decide +kernel) (by decide +kernel))⟩
theorem lf_C_33 : jFld "AuditDesk$Challenge" 33 1 2 := ⟨_, _, _, rfl, Nat.le_of_ble_eq_true rfl, rfl, Or.inl (jTab_in 120 (by decide +kernel) (by decide +kernel))⟩
theorem lf_D_193 : jFld "AuditDesk" 193 1 2 := ⟨_, _, _, rfl, Nat.le_of_ble_eq_true rfl, rfl, Or.inl (jTab_in 121 (by decide +kernel) (by decide +kernel))⟩
theorem lf_C_36 : jFld "AuditDesk$Challenge" 36 1 3 := ⟨_, _, _, rfl, Nat.le_of_ble_eq_true rfl, rfl, Or.inl (jTab_in 122 (by decide +kernel) (by decide +kernel))⟩
theorem lf_D_175 : jFld "AuditDesk" 175 1 3 := ⟨_, _, _, rfl, Nat.le_of_ble_eq_true rfl, rfl, Or.inl (jTab_in 123 (by decide +kernel) (by decide +kernel))⟩
theorem lf_C_9 : jFld "AuditDesk$Challenge" 9 1 4 := ⟨_, _, _, rfl, Nat.le_of_ble_eq_true rfl, rfl, Or.inl (jTab_in 124 (by decide +kernel) (by decide +kernel))⟩
theorem lf_D_170 : jFld "AuditDesk" 170 1 4 := ⟨_, _, _, rfl, Nat.le_of_ble_eq_true rfl, rfl, Or.inl (jTab_in 125 (by decide +kernel) (by decide +kernel))⟩
theorem lf_C_15 : jFld "AuditDesk$Challenge" 15 1 5 := ⟨_, _, _, rfl, Nat.le_of_ble_eq_true rfl, rfl, Or.inl (jTab_in 126 (by decide +kernel) (by decide +kernel))⟩
theorem lf_D_178 : jFld "AuditDesk" 178 1 5 := ⟨_, _, _, rfl, Nat.le_of_ble_eq_true rfl, rfl, Or.inl (jTab_in 127 (by decide +kernel) (by decide +kernel))⟩
theorem lf_C_18 : jFld "AuditDesk$Challenge" 18 1 6 := ⟨_, _, _, rfl, Nat.le_of_ble_eq_true rfl, rfl, Or.inl (jTab_in 128 (by decide +kernel) (by decide +kernel))⟩
theorem lf_D_181 : jFld "AuditDesk" 181 1 6 := ⟨_, _, _, rfl, Nat.le_of_ble_eq_true rfl, rfl, Or.inl (jTab_in 129 (by decide +kernel) (by decide +kernel))⟩
theorem lf_C_21 : jFld "AuditDesk$Challenge" 21 1 7 := ⟨_, _, _, rfl, Nat.le_of_ble_eq_true rfl, rfl, Or.inl (jTab_in 130 (by decide +kernel) (by decide +kernel))⟩
theorem lf_D_62 : jFld "AuditDesk" 62 0 0 := ⟨_, _, _, rfl, Nat.le_of_ble_eq_true rfl, rfl, Or.inl (jTab_in 150 (by decide +kernel) (by decide +kernel))⟩
theorem lf_D_66 : jFld "AuditDesk" 66 0 1 := ⟨_, _, _, rfl, Nat.le_of_ble_eq_true rfl, rfl, Or.inl (jTab_in 151 (by decide +kernel) (by decide +kernel))⟩
theorem lf_D_9 : jFld "AuditDesk" 9 0 2 := ⟨_, _, _, rfl, Nat.le_of_ble_eq_true rfl, rfl, Or.inl (jTab_in 152 (by decide +kernel) (by decide +kernel))⟩
theorem lf_D_15 : jFld "AuditDesk" 15 0 3 := ⟨_, _, _, rfl, Nat.le_of_ble_eq_true rfl, rfl, Or.inl (jTab_in 153 (by decide +kernel) (by decide +kernel))⟩
theorem lf_D_51 : jFld "AuditDesk" 51 0 4 := ⟨_, _, _, rfl, Nat.le_of_ble_eq_true rfl, rfl, Or.inl (jTab_in 154 (by decide +kernel) (by decide +kernel))⟩
theorem lf_D_22 : jFld "AuditDesk" 22 0 5 := ⟨_, _, _, rfl, Nat.le_of_ble_eq_true rfl, rfl, Or.inl (jTab_in 155 (by decide +kernel) (by decide +kernel))⟩
theorem lf_D_30 : jFld "AuditDesk" 30 0 6 := ⟨_, _, _, rfl, Nat.le_of_ble_eq_true rfl, rfl, Or.inl (jTab_in 156 (by decide +kernel) (by decide +kernel))⟩
theorem lf_D_34 : jFld "AuditDesk" 34 0 7 := ⟨_, _, _, rfl, Nat.le_of_ble_eq_true rfl, rfl, Or.inl (jTab_in 157 (by decide +kernel) (by decide +kernel))⟩
theorem lf_D_204 : jFld "AuditDesk" 204 0 8 := ⟨_, _, _, rfl, Nat.le_of_ble_eq_true rfl, rfl, Or.inl (jTab_in 158 (by decide +kernel) (by decide +kernel))⟩
theorem lf_D_37 : jFld "AuditDesk" 37 0 9 := ⟨_, _, _, rfl, Nat.le_of_ble_eq_true rfl, rfl, Or.inl (jTab_in 159 (by decide +kernel) (by decide +kernel))⟩
theorem lf_D_223 : jFld "AuditDesk" 223 0 10 := ⟨_, _, _, rfl, Nat.le_of_ble_eq_true rfl, rfl, Or.inl (jTab_in 160 (by decide +kernel) (by decide +kernel))⟩
theorem lf_D_43 : jFld "AuditDesk" 43 0 11 := ⟨_, _, _, rfl, Nat.le_of_ble_eq_true rfl, rfl, Or.inl (jTab_in 161 (by decide +kernel) (by decide +kernel))⟩
theorem lf_D_47 : jFld "AuditDesk" 47 0 12 := ⟨_, _, _, rfl, Nat.le_of_ble_eq_true rfl, rfl, Or.inl (jTab_in 162 (by decide +kernel) (by decide +kernel))⟩
theorem lf_M_63 : jFld "AuditDeskModel" 63 6 0 := ⟨_, _, _, rfl, Nat.le_of_ble_eq_true rfl, rfl, Or.inl (jTab_in 603 (by decide +kernel) (by decide +kernel))⟩
theorem lf_M_75 : jFld "AuditDeskModel" 75 6 1 := ⟨_, _, _, rfl, Nat.le_of_ble_eq_true rfl, rfl, Or.inl (jTab_in 604 (by decide +kernel) (by decide +kernel))⟩
theorem lf_M_85 : jFld "AuditDeskModel" 85 6 2 := ⟨_, _, _, rfl, Nat.le_of_ble_eq_true rfl, rfl, Or.inl (jTab_in 605 (by decide +kernel) (by decide +kernel))⟩
theorem lf_M_7 : jFld "AuditDeskModel" 7 6 3 := ⟨_, _, _, rfl, Nat.le_of_ble_eq_true rfl, rfl, Or.inl (jTab_in 606 (by decide +kernel) (by decide +kernel))⟩
theorem lf_M_88 : jFld "AuditDeskModel" 88 6 4 := ⟨_, _, _, rfl, Nat.le_of_ble_eq_true rfl, rfl, Or.inl (jTab_in 607 (by decide +kernel) (by decide +kernel))⟩
theorem lf_M_13 : jFld "AuditDeskModel" 13 6 5 := ⟨_, _, _, rfl, Nat.le_of_ble_eq_true rfl, rfl, Or.inl (jTab_in 608 (by decide +kernel) (by decide +kernel))⟩
theorem lf_M_16 : jFld "AuditDeskModel" 16 6 6 := ⟨_, _, _, rfl, Nat.le_of_ble_eq_true rfl, rfl, Or.inl (jTab_in 609 (by decide +kernel) (by decide +kernel))⟩
theorem lf_M_19 : jFld "AuditDeskModel" 19 6 7 := ⟨_, _, _, rfl, Nat.le_of_ble_eq_true rfl, rfl, Or.inl (jTab_in 610 (by decide +kernel) (by decide +kernel))⟩
theorem lf_M_23 : jFld "AuditDeskModel" 23 6 8 := ⟨_, _, _, rfl, Nat.le_of_ble_eq_true rfl, rfl, Or.inl (jTab_in 611 (by decide +kernel) (by decide +kernel))⟩
theorem lf_M_26 : jFld "AuditDeskModel" 26 6 9 := ⟨_, _, _, rfl, Nat.le_of_ble_eq_true rfl, rfl, Or.inl (jTab_in 612 (by decide +kernel) (by decide +kernel))⟩
theorem lf_M_29 : jFld "AuditDeskModel" 29 6 10 := ⟨_, _, _, rfl, Nat.le_of_ble_eq_true rfl, rfl, Or.inl (jTab_in 613 (by decide +kernel) (by decide +kernel))⟩
theorem lf_M_32 : jFld "AuditDeskModel" 32 6 11 := ⟨_, _, _, rfl, Nat.le_of_ble_eq_true rfl, rfl, Or.inl (jTab_in 614 (by decide +kernel) (by decide +kernel))⟩
theorem lf_M_35 : jFld "AuditDeskModel" 35 6 12 := ⟨_, _, _, rfl, Nat.le_of_ble_eq_true rfl, rfl, Or.inl (jTab_in 615 (by decide +kernel) (by decide +kernel))⟩
theorem lf_M_140 : jFld "AuditDeskModel" 140 6 13 := ⟨_, _, _, rfl, Nat.le_of_ble_eq_true rfl, rfl, Or.inl (jTab_in 616 (by decide +kernel) (by decide +kernel))⟩
theorem lf_M_143 : jFld "AuditDeskModel" 143 6 14 := ⟨_, _, _, rfl, Nat.le_of_ble_eq_true rfl, rfl, Or.inl (jTab_in 617 (by decide +kernel) (by decide +kernel))⟩
theorem lf_M_146 : jFld "AuditDeskModel" 146 6 15 := ⟨_, _, _, rfl, Nat.le_of_ble_eq_true rfl, rfl, Or.inl (jTab_in 618 (by decide +kernel) (by decide +kernel))⟩
theorem lf_M_38 : jFld "AuditDeskModel" 38 6 16 := ⟨_, _, _, rfl, Nat.le_of_ble_eq_true rfl, rfl, Or.inl (jTab_in 619 (by decide +kernel) (by decide +kernel))⟩
theorem lf_M_41 : jFld "AuditDeskModel" 41 6 17 := ⟨_, _, _, rfl, Nat.le_of_ble_eq_true rfl, rfl, Or.inl (jTab_in 620 (by decide +kernel) (by decide +kernel))⟩
theorem lf_M_44 : jFld "AuditDeskModel" 44 6 18 := ⟨_, _, _, rfl, Nat.le_of_ble_eq_true rfl, rfl, Or.inl (jTab_in 621 (by decide +kernel) (by decide +kernel))⟩
theorem lf_M_155 : jFld "AuditDeskModel" 155 6 19 := ⟨_, _, _, rfl, Nat.le_of_ble_eq_true rfl, rfl, Or.inl (jTab_in 622 (by decide +kernel) (by decide +kernel))⟩
theorem lf_M_47 : jFld "AuditDeskModel" 47 6 20 := ⟨_, _, _, rfl, Nat.le_of_ble_eq_true rfl, rfl, Or.inl (jTab_in 623 (by decide +kernel) (by decide +kernel))⟩
theorem lf_M_179 : jFld "AuditDeskModel" 179 6 21 := ⟨_, _, _, rfl, Nat.le_of_ble_eq_true rfl, rfl, Or.inl (jTab_in 624 (by decide +kernel) (by decide +kernel))⟩
theorem lf_M_50 : jFld "AuditDeskModel" 50 6 22 := ⟨_, _, _, rfl, Nat.le_of_ble_eq_true rfl, rfl, Or.inl (jTab_in 625 (by decide +kernel) (by decide +kernel))⟩
theorem lf_M_53 : jFld "AuditDeskModel" 53 6 23 := ⟨_, _, _, rfl, Nat.le_of_ble_eq_true rfl, rfl, Or.inl (jTab_in 626 (by decide +kernel) (by decide +kernel))⟩
theorem lf_M_56 : jFld "AuditDeskModel" 56 6 24 := ⟨_, _, _, rfl, Nat.le_of_ble_eq_true rfl, rfl, Or.inl (jTab_in 627 (by decide +kernel) (by decide +kernel))⟩
theorem lf_M_60 : jFld "AuditDeskModel" 60 6 25 := ⟨_, _, _, rfl, Nat.le_of_ble_eq_true rfl, rfl, Or.inl (jTab_in 628 (by decide +kernel) (by decide +kernel))⟩
theorem iz_W : Cond.initialized "AuditDeskLaw" ∈ jTab := jTab_in 0 (by decide +kernel) (by decide +kernel)
theorem iz_D : Cond.initialized "AuditDesk" ∈ jTab := jTab_in 1 (by decide +kernel) (by decide +kernel)
theorem iz_E : Cond.initialized "AuditDesk$Deposit" ∈ jTab := jTab_in 2 (by decide +kernel) (by decide +kernel)
theorem iz_R : Cond.initialized "AuditDesk$Rows" ∈ jTab := jTab_in 3 (by decide +kernel) (by decide +kernel)
theorem iz_K : Cond.initialized "AuditDesk$Keeper" ∈ jTab := jTab_in 4 (by decide +kernel) (by decide +kernel)
theorem iz_Y : Cond.initialized "AuditDesk$Copy" ∈ jTab := jTab_in 5 (by decide +kernel) (by decide +kernel)
theorem iz_C : Cond.initialized "AuditDesk$Challenge" ∈ jTab := jTab_in 6 (by decide +kernel) (by decide +kernel)
theorem iz_M : Cond.initialized "AuditDeskModel" ∈ jTab := jTab_in 7 (by decide +kernel) (by decide +kernel)
theorem iz_Thr : Cond.initialized "java/lang/Throwable" ∈ jTab := jTab_in 8 (by decide +kernel) (by decide +kernel)
theorem iz_Exc : Cond.initialized "java/lang/Exception" ∈ jTab := jTab_in 9 (by decide +kernel) (by decide +kernel)
theorem iz_RTE : Cond.initialized "java/lang/RuntimeException" ∈ jTab := jTab_in 10 (by decide +kernel) (by decide +kernel)
theorem iz_ISE : Cond.initialized "java/lang/IllegalStateException" ∈ jTab := jTab_in 11 (by decide +kernel) (by decide +kernel)
theorem iz_F : Cond.initialized "AuditDesk$Field" ∈ jTab := jTab_in 12 (by decide +kernel) (by decide +kernel)
theorem iz_IAE : Cond.initialized "java/lang/IllegalArgumentException" ∈ jTab := jTab_in 13 (by decide +kernel) (by decide +kernel)
theorem iz_IOE : Cond.initialized "java/lang/IndexOutOfBoundsException" ∈ jTab := jTab_in 14 (by decide +kernel) (by decide +kernel)
theorem iz_Sys : Cond.initialized "java/lang/System" ∈ jTab := jTab_in 15 (by decide +kernel) (by decide +kernel)
theorem mt_D_init : jMth Y_D_init 0 := ⟨rfl, jTab_in 20 (by decide +kernel) (by decide +kernel), iz_D, ⟨by decide +kernel, by decide +kernel⟩, by decide +kernel⟩
theorem im_D_init : Cond.instanceMethod (jyn Y_D_init) ∈ jTab := jTab_in 19 (by decide +kernel) (by decide +kernel)
theorem mt_D_key : jMth Y_D_key 2 := ⟨rfl, jTab_in 251 (by decide +kernel) (by decide +kernel), iz_D, ⟨by decide +kernel, by decide +kernel⟩, by decide +kernel⟩
theorem im_D_key : Cond.instanceMethod (jyn Y_D_key) ∈ jTab := jTab_in 249 (by decide +kernel) (by decide +kernel)
theorem se_D_key : Cond.selects (jyn Y_D_key).cls (jyn Y_D_key) (jyn Y_D_key) ∈ jTab := jTab_in 250 (by decide +kernel) (by decide +kernel)
theorem mt_D_word : jMth Y_D_word 2 := ⟨rfl, jTab_in 193 (by decide +kernel) (by decide +kernel), iz_D, ⟨by decide +kernel, by decide +kernel⟩, by decide +kernel⟩
theorem im_D_word : Cond.instanceMethod (jyn Y_D_word) ∈ jTab := jTab_in 191 (by decide +kernel) (by decide +kernel)
theorem se_D_word : Cond.selects (jyn Y_D_word).cls (jyn Y_D_word) (jyn Y_D_word) ∈ jTab := jTab_in 192 (by decide +kernel) (by decide +kernel)
theorem mt_D_file : jMth Y_D_file 1 := ⟨rfl, jTab_in 327 (by decide +kernel) (by decide +kernel), iz_D, ⟨by decide +kernel, by decide +kernel⟩, by decide +kernel⟩
theorem im_D_file : Cond.instanceMethod (jyn Y_D_file) ∈ jTab := jTab_in 325 (by decide +kernel) (by decide +kernel)
theorem se_D_file : Cond.selects (jyn Y_D_file).cls (jyn Y_D_file) (jyn Y_D_file) ∈ jTab := jTab_in 326 (by decide +kernel) (by decide +kernel)
theorem mt_D_place : jMth Y_D_place 2 := ⟨rfl, jTab_in 403 (by decide +kernel) (by decide +kernel), iz_D, ⟨by decide +kernel, by decide +kernel⟩, by decide +kernel⟩
theorem im_D_place : Cond.instanceMethod (jyn Y_D_place) ∈ jTab := jTab_in 401 (by decide +kernel) (by decide +kernel)
theorem se_D_place : Cond.selects (jyn Y_D_place).cls (jyn Y_D_place) (jyn Y_D_place) ∈ jTab := jTab_in 402 (by decide +kernel) (by decide +kernel)
theorem mt_D_lose : jMth Y_D_lose 3 := ⟨rfl, jTab_in 441 (by decide +kernel) (by decide +kernel), iz_D, ⟨by decide +kernel, by decide +kernel⟩, by decide +kernel⟩
theorem im_D_lose : Cond.instanceMethod (jyn Y_D_lose) ∈ jTab := jTab_in 439 (by decide +kernel) (by decide +kernel)
theorem se_D_lose : Cond.selects (jyn Y_D_lose).cls (jyn Y_D_lose) (jyn Y_D_lose) ∈ jTab := jTab_in 440 (by decide +kernel) (by decide +kernel)
theorem mt_D_change : jMth Y_D_change 5 := ⟨rfl, jTab_in 465 (by decide +kernel) (by decide +kernel), iz_D, ⟨by decide +kernel, by decide +kernel⟩, by decide +kernel⟩
theorem im_D_change : Cond.instanceMethod (jyn Y_D_change) ∈ jTab := jTab_in 463 (by decide +kernel) (by decide +kernel)
theorem se_D_change : Cond.selects (jyn Y_D_change).cls (jyn Y_D_change) (jyn Y_D_change) ∈ jTab := jTab_in 464 (by decide +kernel) (by decide +kernel)
theorem mt_D_challenge : jMth Y_D_challenge 4 := ⟨rfl, jTab_in 476 (by decide +kernel) (by decide +kernel), iz_D, ⟨by decide +kernel, by decide +kernel⟩, by decide +kernel⟩
theorem im_D_challenge : Cond.instanceMethod (jyn Y_D_challenge) ∈ jTab := jTab_in 474 (by decide +kernel) (by decide +kernel)
theorem se_D_challenge : Cond.selects (jyn Y_D_challenge).cls (jyn Y_D_challenge) (jyn Y_D_challenge) ∈ jTab := jTab_in 475 (by decide +kernel) (by decide +kernel)
theorem mt_D_asked : jMth Y_D_asked 2 := ⟨rfl, jTab_in 201 (by decide +kernel) (by decide +kernel), iz_D, ⟨by decide +kernel, by decide +kernel⟩, by decide +kernel⟩
theorem im_D_asked : Cond.instanceMethod (jyn Y_D_asked) ∈ jTab := jTab_in 199 (by decide +kernel) (by decide +kernel)
theorem se_D_asked : Cond.selects (jyn Y_D_asked).cls (jyn Y_D_asked) (jyn Y_D_asked) ∈ jTab := jTab_in 200 (by decide +kernel) (by decide +kernel)
theorem mt_D_tamper : jMth Y_D_tamper 2 := ⟨rfl, jTab_in 205 (by decide +kernel) (by decide +kernel), iz_D, ⟨by decide +kernel, by decide +kernel⟩, by decide +kernel⟩
theorem im_D_tamper : Cond.instanceMethod (jyn Y_D_tamper) ∈ jTab := jTab_in 203 (by decide +kernel) (by decide +kernel)
theorem se_D_tamper : Cond.selects (jyn Y_D_tamper).cls (jyn Y_D_tamper) (jyn Y_D_tamper) ∈ jTab := jTab_in 204 (by decide +kernel) (by decide +kernel)
theorem mt_D_judge : jMth Y_D_judge 0 := ⟨rfl, jTab_in 508 (by decide +kernel) (by decide +kernel), iz_D, ⟨by decide +kernel, by decide +kernel⟩, by decide +kernel⟩
theorem im_D_judge : Cond.instanceMethod (jyn Y_D_judge) ∈ jTab := jTab_in 506 (by decide +kernel) (by decide +kernel)
theorem se_D_judge : Cond.selects (jyn Y_D_judge).cls (jyn Y_D_judge) (jyn Y_D_judge) ∈ jTab := jTab_in 507 (by decide +kernel) (by decide +kernel)
theorem mt_D_locate : jMth Y_D_locate 2 := ⟨rfl, jTab_in 520 (by decide +kernel) (by decide +kernel), iz_D, ⟨by decide +kernel, by decide +kernel⟩, by decide +kernel⟩
theorem im_D_locate : Cond.instanceMethod (jyn Y_D_locate) ∈ jTab := jTab_in 518 (by decide +kernel) (by decide +kernel)
theorem se_D_locate : Cond.selects (jyn Y_D_locate).cls (jyn Y_D_locate) (jyn Y_D_locate) ∈ jTab := jTab_in 519 (by decide +kernel) (by decide +kernel)
theorem mt_D_found : jMth Y_D_found 1 := ⟨rfl, jTab_in 216 (by decide +kernel) (by decide +kernel), iz_D, ⟨by decide +kernel, by decide +kernel⟩, by decide +kernel⟩
theorem im_D_found : Cond.instanceMethod (jyn Y_D_found) ∈ jTab := jTab_in 214 (by decide +kernel) (by decide +kernel)
theorem se_D_found : Cond.selects (jyn Y_D_found).cls (jyn Y_D_found) (jyn Y_D_found) ∈ jTab := jTab_in 215 (by decide +kernel) (by decide +kernel)
theorem mt_D_repair : jMth Y_D_repair 2 := ⟨rfl, jTab_in 533 (by decide +kernel) (by decide +kernel), iz_D, ⟨by decide +kernel, by decide +kernel⟩, by decide +kernel⟩
theorem im_D_repair : Cond.instanceMethod (jyn Y_D_repair) ∈ jTab := jTab_in 531 (by decide +kernel) (by decide +kernel)
theorem se_D_repair : Cond.selects (jyn Y_D_repair).cls (jyn Y_D_repair) (jyn Y_D_repair) ∈ jTab := jTab_in 532 (by decide +kernel) (by decide +kernel)
theorem mt_D_fetch : jMth Y_D_fetch 1 := ⟨rfl, jTab_in 578 (by decide +kernel) (by decide +kernel), iz_D, ⟨by decide +kernel, by decide +kernel⟩, by decide +kernel⟩
theorem im_D_fetch : Cond.instanceMethod (jyn Y_D_fetch) ∈ jTab := jTab_in 576 (by decide +kernel) (by decide +kernel)
theorem se_D_fetch : Cond.selects (jyn Y_D_fetch).cls (jyn Y_D_fetch) (jyn Y_D_fetch) ∈ jTab := jTab_in 577 (by decide +kernel) (by decide +kernel)
theorem mt_D_fetched : jMth Y_D_fetched 1 := ⟨rfl, jTab_in 220 (by decide +kernel) (by decide +kernel), iz_D, ⟨by decide +kernel, by decide +kernel⟩, by decide +kernel⟩
theorem im_D_fetched : Cond.instanceMethod (jyn Y_D_fetched) ∈ jTab := jTab_in 218 (by decide +kernel) (by decide +kernel)
theorem se_D_fetched : Cond.selects (jyn Y_D_fetched).cls (jyn Y_D_fetched) (jyn Y_D_fetched) ∈ jTab := jTab_in 219 (by decide +kernel) (by decide +kernel)
theorem mt_D_made : jMth Y_D_made 3 := ⟨rfl, jTab_in 587 (by decide +kernel) (by decide +kernel), iz_D, ⟨by decide +kernel, by decide +kernel⟩, by decide +kernel⟩
theorem im_D_made : Cond.instanceMethod (jyn Y_D_made) ∈ jTab := jTab_in 585 (by decide +kernel) (by decide +kernel)
theorem se_D_made : Cond.selects (jyn Y_D_made).cls (jyn Y_D_made) (jyn Y_D_made) ∈ jTab := jTab_in 586 (by decide +kernel) (by decide +kernel)
theorem mt_D_kept : jMth Y_D_kept 4 := ⟨rfl, jTab_in 595 (by decide +kernel) (by decide +kernel), iz_D, ⟨by decide +kernel, by decide +kernel⟩, by decide +kernel⟩
theorem im_D_kept : Cond.instanceMethod (jyn Y_D_kept) ∈ jTab := jTab_in 593 (by decide +kernel) (by decide +kernel)
theorem se_D_kept : Cond.selects (jyn Y_D_kept).cls (jyn Y_D_kept) (jyn Y_D_kept) ∈ jTab := jTab_in 594 (by decide +kernel) (by decide +kernel)
theorem mt_D_rota : jMth Y_D_rota 1 := ⟨rfl, jTab_in 224 (by decide +kernel) (by decide +kernel), iz_D, ⟨by decide +kernel, by decide +kernel⟩, by decide +kernel⟩
theorem im_D_rota : Cond.instanceMethod (jyn Y_D_rota) ∈ jTab := jTab_in 222 (by decide +kernel) (by decide +kernel)
theorem se_D_rota : Cond.selects (jyn Y_D_rota).cls (jyn Y_D_rota) (jyn Y_D_rota) ∈ jTab := jTab_in 223 (by decide +kernel) (by decide +kernel)
theorem mt_D_score : jMth Y_D_score 2 := ⟨rfl, jTab_in 232 (by decide +kernel) (by decide +kernel), iz_D, ⟨by decide +kernel, by decide +kernel⟩, by decide +kernel⟩
theorem im_D_score : Cond.instanceMethod (jyn Y_D_score) ∈ jTab := jTab_in 230 (by decide +kernel) (by decide +kernel)
theorem se_D_score : Cond.selects (jyn Y_D_score).cls (jyn Y_D_score) (jyn Y_D_score) ∈ jTab := jTab_in 231 (by decide +kernel) (by decide +kernel)
theorem mt_D_isFile : jMth Y_D_isFile 1 := ⟨rfl, jTab_in 243 (by decide +kernel) (by decide +kernel), iz_D, ⟨by decide +kernel, by decide +kernel⟩, by decide +kernel⟩
theorem im_D_isFile : Cond.instanceMethod (jyn Y_D_isFile) ∈ jTab := jTab_in 242 (by decide +kernel) (by decide +kernel)
theorem se_D_isFile : Cond.selects (jyn Y_D_isFile).cls (jyn Y_D_isFile) (jyn Y_D_isFile) ∈ jTab := jTab_sel 1 13 (by decide +kernel) (by decide +kernel)
theorem mt_D_isKeeper : jMth Y_D_isKeeper 1 := ⟨rfl, jTab_in 235 (by decide +kernel) (by decide +kernel), iz_D, ⟨by decide +kernel, by decide +kernel⟩, by decide +kernel⟩
theorem sm_D_isKeeper : Cond.static (jyn Y_D_isKeeper) ∈ jTab := jTab_in 234 (by decide +kernel) (by decide +kernel)
theorem mt_D_isRowNumber : jMth Y_D_isRowNumber 1 := ⟨rfl, jTab_in 208 (by decide +kernel) (by decide +kernel), iz_D, ⟨by decide +kernel, by decide +kernel⟩, by decide +kernel⟩
theorem sm_D_isRowNumber : Cond.static (jyn Y_D_isRowNumber) ∈ jTab := jTab_in 207 (by decide +kernel) (by decide +kernel)
theorem mt_D_keeps : jMth Y_D_keeps 2 := ⟨rfl, jTab_in 449 (by decide +kernel) (by decide +kernel), iz_D, ⟨by decide +kernel, by decide +kernel⟩, by decide +kernel⟩
theorem im_D_keeps : Cond.instanceMethod (jyn Y_D_keeps) ∈ jTab := jTab_in 448 (by decide +kernel) (by decide +kernel)
theorem se_D_keeps : Cond.selects (jyn Y_D_keeps).cls (jyn Y_D_keeps) (jyn Y_D_keeps) ∈ jTab := jTab_sel 5 13 (by decide +kernel) (by decide +kernel)
theorem mt_D_keepsRow : jMth Y_D_keepsRow 3 := ⟨rfl, jTab_in 445 (by decide +kernel) (by decide +kernel), iz_D, ⟨by decide +kernel, by decide +kernel⟩, by decide +kernel⟩
theorem im_D_keepsRow : Cond.instanceMethod (jyn Y_D_keepsRow) ∈ jTab := jTab_in 444 (by decide +kernel) (by decide +kernel)
theorem se_D_keepsRow : Cond.selects (jyn Y_D_keepsRow).cls (jyn Y_D_keepsRow) (jyn Y_D_keepsRow) ∈ jTab := jTab_sel 4 13 (by decide +kernel) (by decide +kernel)
theorem mt_D_isGood : jMth Y_D_isGood 3 := ⟨rfl, jTab_in 525 (by decide +kernel) (by decide +kernel), iz_D, ⟨by decide +kernel, by decide +kernel⟩, by decide +kernel⟩
theorem im_D_isGood : Cond.instanceMethod (jyn Y_D_isGood) ∈ jTab := jTab_in 524 (by decide +kernel) (by decide +kernel)
theorem se_D_isGood : Cond.selects (jyn Y_D_isGood).cls (jyn Y_D_isGood) (jyn Y_D_isGood) ∈ jTab := jTab_sel 7 13 (by decide +kernel) (by decide +kernel)
theorem mt_D_countCopies : jMth Y_D_countCopies 0 := ⟨rfl, jTab_in 228 (by decide +kernel) (by decide +kernel), iz_D, ⟨by decide +kernel, by decide +kernel⟩, by decide +kernel⟩
theorem im_D_countCopies : Cond.instanceMethod (jyn Y_D_countCopies) ∈ jTab := jTab_in 227 (by decide +kernel) (by decide +kernel)
theorem se_D_countCopies : Cond.selects (jyn Y_D_countCopies).cls (jyn Y_D_countCopies) (jyn Y_D_countCopies) ∈ jTab := jTab_sel 0 13 (by decide +kernel) (by decide +kernel)
theorem mt_D_gather : jMth Y_D_gather 1 := ⟨rfl, jTab_in 537 (by decide +kernel) (by decide +kernel), iz_D, ⟨by decide +kernel, by decide +kernel⟩, by decide +kernel⟩
theorem im_D_gather : Cond.instanceMethod (jyn Y_D_gather) ∈ jTab := jTab_in 536 (by decide +kernel) (by decide +kernel)
theorem se_D_gather : Cond.selects (jyn Y_D_gather).cls (jyn Y_D_gather) (jyn Y_D_gather) ∈ jTab := jTab_sel 8 13 (by decide +kernel) (by decide +kernel)
theorem mt_D_gatherGroup : jMth Y_D_gatherGroup 2 := ⟨rfl, jTab_in 541 (by decide +kernel) (by decide +kernel), iz_D, ⟨by decide +kernel, by decide +kernel⟩, by decide +kernel⟩
theorem im_D_gatherGroup : Cond.instanceMethod (jyn Y_D_gatherGroup) ∈ jTab := jTab_in 540 (by decide +kernel) (by decide +kernel)
theorem se_D_gatherGroup : Cond.selects (jyn Y_D_gatherGroup).cls (jyn Y_D_gatherGroup) (jyn Y_D_gatherGroup) ∈ jTab := jTab_sel 9 13 (by decide +kernel) (by decide +kernel)
theorem mt_D_leastGoodKeeper : jMth Y_D_leastGoodKeeper 2 := ⟨rfl, jTab_in 545 (by decide +kernel) (by decide +kernel), iz_D, ⟨by decide +kernel, by decide +kernel⟩, by decide +kernel⟩
theorem im_D_leastGoodKeeper : Cond.instanceMethod (jyn Y_D_leastGoodKeeper) ∈ jTab := jTab_in 544 (by decide +kernel) (by decide +kernel)
theorem se_D_leastGoodKeeper : Cond.selects (jyn Y_D_leastGoodKeeper).cls (jyn Y_D_leastGoodKeeper) (jyn Y_D_leastGoodKeeper) ∈ jTab := jTab_sel 10 13 (by decide +kernel) (by decide +kernel)
theorem mt_M_init : jMth Y_M_init 0 := ⟨rfl, jTab_in 601 (by decide +kernel) (by decide +kernel), iz_M, ⟨by decide +kernel, by decide +kernel⟩, by decide +kernel⟩
theorem im_M_init : Cond.instanceMethod (jyn Y_M_init) ∈ jTab := jTab_in 600 (by decide +kernel) (by decide +kernel)
theorem mt_M_thrown : jMth Y_M_thrown 0 := ⟨rfl, jTab_in 686 (by decide +kernel) (by decide +kernel), iz_M, ⟨by decide +kernel, by decide +kernel⟩, by decide +kernel⟩
theorem im_M_thrown : Cond.instanceMethod (jyn Y_M_thrown) ∈ jTab := jTab_in 684 (by decide +kernel) (by decide +kernel)
theorem se_M_thrown : Cond.selects (jyn Y_M_thrown).cls (jyn Y_M_thrown) (jyn Y_M_thrown) ∈ jTab := jTab_in 685 (by decide +kernel) (by decide +kernel)
theorem mt_M_power : jMth Y_M_power 2 := ⟨rfl, jTab_in 717 (by decide +kernel) (by decide +kernel), iz_M, ⟨by decide +kernel, by decide +kernel⟩, by decide +kernel⟩
theorem sm_M_power : Cond.static (jyn Y_M_power) ∈ jTab := jTab_in 716 (by decide +kernel) (by decide +kernel)
theorem mt_M_over : jMth Y_M_over 1 := ⟨rfl, jTab_in 713 (by decide +kernel) (by decide +kernel), iz_M, ⟨by decide +kernel, by decide +kernel⟩, by decide +kernel⟩
theorem sm_M_over : Cond.static (jyn Y_M_over) ∈ jTab := jTab_in 712 (by decide +kernel) (by decide +kernel)
theorem mt_M_secret : jMth Y_M_secret 1 := ⟨rfl, jTab_in 725 (by decide +kernel) (by decide +kernel), iz_M, ⟨by decide +kernel, by decide +kernel⟩, by decide +kernel⟩
theorem im_M_secret : Cond.instanceMethod (jyn Y_M_secret) ∈ jTab := jTab_in 724 (by decide +kernel) (by decide +kernel)
theorem se_M_secret : Cond.selects (jyn Y_M_secret).cls (jyn Y_M_secret) (jyn Y_M_secret) ∈ jTab := jTab_sel 17 26 (by decide +kernel) (by decide +kernel)
theorem mt_M_isNumber : jMth Y_M_isNumber 1 := ⟨rfl, jTab_in 697 (by decide +kernel) (by decide +kernel), iz_M, ⟨by decide +kernel, by decide +kernel⟩, by decide +kernel⟩
theorem sm_M_isNumber : Cond.static (jyn Y_M_isNumber) ∈ jTab := jTab_in 696 (by decide +kernel) (by decide +kernel)
theorem mt_M_key : jMth Y_M_key 2 := ⟨rfl, jTab_in 690 (by decide +kernel) (by decide +kernel), iz_M, ⟨by decide +kernel, by decide +kernel⟩, by decide +kernel⟩
theorem im_M_key : Cond.instanceMethod (jyn Y_M_key) ∈ jTab := jTab_in 688 (by decide +kernel) (by decide +kernel)
theorem se_M_key : Cond.selects (jyn Y_M_key).cls (jyn Y_M_key) (jyn Y_M_key) ∈ jTab := jTab_in 689 (by decide +kernel) (by decide +kernel)
theorem mt_M_word : jMth Y_M_word 2 := ⟨rfl, jTab_in 694 (by decide +kernel) (by decide +kernel), iz_M, ⟨by decide +kernel, by decide +kernel⟩, by decide +kernel⟩
theorem im_M_word : Cond.instanceMethod (jyn Y_M_word) ∈ jTab := jTab_in 692 (by decide +kernel) (by decide +kernel)
theorem se_M_word : Cond.selects (jyn Y_M_word).cls (jyn Y_M_word) (jyn Y_M_word) ∈ jTab := jTab_in 693 (by decide +kernel) (by decide +kernel)
theorem mt_M_rowsOf : jMth Y_M_rowsOf 1 := ⟨rfl, jTab_in 710 (by decide +kernel) (by decide +kernel), iz_M, ⟨by decide +kernel, by decide +kernel⟩, by decide +kernel⟩
theorem im_M_rowsOf : Cond.instanceMethod (jyn Y_M_rowsOf) ∈ jTab := jTab_in 709 (by decide +kernel) (by decide +kernel)
theorem se_M_rowsOf : Cond.selects (jyn Y_M_rowsOf).cls (jyn Y_M_rowsOf) (jyn Y_M_rowsOf) ∈ jTab := jTab_sel 15 26 (by decide +kernel) (by decide +kernel)
theorem mt_M_tag : jMth Y_M_tag 4 := ⟨rfl, jTab_in 721 (by decide +kernel) (by decide +kernel), iz_M, ⟨by decide +kernel, by decide +kernel⟩, by decide +kernel⟩
theorem im_M_tag : Cond.instanceMethod (jyn Y_M_tag) ∈ jTab := jTab_in 720 (by decide +kernel) (by decide +kernel)
theorem se_M_tag : Cond.selects (jyn Y_M_tag).cls (jyn Y_M_tag) (jyn Y_M_tag) ∈ jTab := jTab_sel 16 26 (by decide +kernel) (by decide +kernel)
theorem mt_M_encode : jMth Y_M_encode 2 := ⟨rfl, jTab_in 706 (by decide +kernel) (by decide +kernel), iz_M, ⟨by decide +kernel, by decide +kernel⟩, by decide +kernel⟩
theorem im_M_encode : Cond.instanceMethod (jyn Y_M_encode) ∈ jTab := jTab_in 705 (by decide +kernel) (by decide +kernel)
theorem se_M_encode : Cond.selects (jyn Y_M_encode).cls (jyn Y_M_encode) (jyn Y_M_encode) ∈ jTab := jTab_sel 14 26 (by decide +kernel) (by decide +kernel)
theorem mt_M_file : jMth Y_M_file 1 := ⟨rfl, jTab_in 702 (by decide +kernel) (by decide +kernel), iz_M, ⟨by decide +kernel, by decide +kernel⟩, by decide +kernel⟩
theorem im_M_file : Cond.instanceMethod (jyn Y_M_file) ∈ jTab := jTab_in 700 (by decide +kernel) (by decide +kernel)
theorem se_M_file : Cond.selects (jyn Y_M_file).cls (jyn Y_M_file) (jyn Y_M_file) ∈ jTab := jTab_in 701 (by decide +kernel) (by decide +kernel)
theorem mt_M_isFile : jMth Y_M_isFile 1 := ⟨rfl, jTab_in 736 (by decide +kernel) (by decide +kernel), iz_M, ⟨by decide +kernel, by decide +kernel⟩, by decide +kernel⟩
theorem im_M_isFile : Cond.instanceMethod (jyn Y_M_isFile) ∈ jTab := jTab_in 735 (by decide +kernel) (by decide +kernel)
theorem se_M_isFile : Cond.selects (jyn Y_M_isFile).cls (jyn Y_M_isFile) (jyn Y_M_isFile) ∈ jTab := jTab_sel 18 26 (by decide +kernel) (by decide +kernel)
theorem mt_M_isKeeper : jMth Y_M_isKeeper 1 := ⟨rfl, jTab_in 739 (by decide +kernel) (by decide +kernel), iz_M, ⟨by decide +kernel, by decide +kernel⟩, by decide +kernel⟩
theorem sm_M_isKeeper : Cond.static (jyn Y_M_isKeeper) ∈ jTab := jTab_in 738 (by decide +kernel) (by decide +kernel)
theorem mt_M_holds : jMth Y_M_holds 2 := ⟨rfl, jTab_in 761 (by decide +kernel) (by decide +kernel), iz_M, ⟨by decide +kernel, by decide +kernel⟩, by decide +kernel⟩
theorem im_M_holds : Cond.instanceMethod (jyn Y_M_holds) ∈ jTab := jTab_in 760 (by decide +kernel) (by decide +kernel)
theorem se_M_holds : Cond.selects (jyn Y_M_holds).cls (jyn Y_M_holds) (jyn Y_M_holds) ∈ jTab := jTab_sel 21 26 (by decide +kernel) (by decide +kernel)
theorem mt_M_spot : jMth Y_M_spot 3 := ⟨rfl, jTab_in 746 (by decide +kernel) (by decide +kernel), iz_M, ⟨by decide +kernel, by decide +kernel⟩, by decide +kernel⟩
theorem sm_M_spot : Cond.static (jyn Y_M_spot) ∈ jTab := jTab_in 745 (by decide +kernel) (by decide +kernel)
theorem mt_M_mark : jMth Y_M_mark 3 := ⟨rfl, jTab_in 749 (by decide +kernel) (by decide +kernel), iz_M, ⟨by decide +kernel, by decide +kernel⟩, by decide +kernel⟩
theorem sm_M_mark : Cond.static (jyn Y_M_mark) ∈ jTab := jTab_in 748 (by decide +kernel) (by decide +kernel)
theorem mt_M_place : jMth Y_M_place 2 := ⟨rfl, jTab_in 732 (by decide +kernel) (by decide +kernel), iz_M, ⟨by decide +kernel, by decide +kernel⟩, by decide +kernel⟩
theorem im_M_place : Cond.instanceMethod (jyn Y_M_place) ∈ jTab := jTab_in 730 (by decide +kernel) (by decide +kernel)
theorem se_M_place : Cond.selects (jyn Y_M_place).cls (jyn Y_M_place) (jyn Y_M_place) ∈ jTab := jTab_in 731 (by decide +kernel) (by decide +kernel)
theorem mt_M_put : jMth Y_M_put 3 := ⟨rfl, jTab_in 743 (by decide +kernel) (by decide +kernel), iz_M, ⟨by decide +kernel, by decide +kernel⟩, by decide +kernel⟩
theorem im_M_put : Cond.instanceMethod (jyn Y_M_put) ∈ jTab := jTab_in 742 (by decide +kernel) (by decide +kernel)
theorem se_M_put : Cond.selects (jyn Y_M_put).cls (jyn Y_M_put) (jyn Y_M_put) ∈ jTab := jTab_sel 19 26 (by decide +kernel) (by decide +kernel)
theorem mt_M_isRow : jMth Y_M_isRow 3 := ⟨rfl, jTab_in 757 (by decide +kernel) (by decide +kernel), iz_M, ⟨by decide +kernel, by decide +kernel⟩, by decide +kernel⟩
theorem im_M_isRow : Cond.instanceMethod (jyn Y_M_isRow) ∈ jTab := jTab_in 756 (by decide +kernel) (by decide +kernel)
theorem se_M_isRow : Cond.selects (jyn Y_M_isRow).cls (jyn Y_M_isRow) (jyn Y_M_isRow) ∈ jTab := jTab_sel 20 26 (by decide +kernel) (by decide +kernel)
theorem mt_M_lose : jMth Y_M_lose 3 := ⟨rfl, jTab_in 753 (by decide +kernel) (by decide +kernel), iz_M, ⟨by decide +kernel, by decide +kernel⟩, by decide +kernel⟩
theorem im_M_lose : Cond.instanceMethod (jyn Y_M_lose) ∈ jTab := jTab_in 751 (by decide +kernel) (by decide +kernel)
theorem se_M_lose : Cond.selects (jyn Y_M_lose).cls (jyn Y_M_lose) (jyn Y_M_lose) ∈ jTab := jTab_in 752 (by decide +kernel) (by decide +kernel)
theorem mt_M_change : jMth Y_M_change 5 := ⟨rfl, jTab_in 765 (by decide +kernel) (by decide +kernel), iz_M, ⟨by decide +kernel, by decide +kernel⟩, by decide +kernel⟩
theorem im_M_change : Cond.instanceMethod (jyn Y_M_change) ∈ jTab := jTab_in 763 (by decide +kernel) (by decide +kernel)
theorem se_M_change : Cond.selects (jyn Y_M_change).cls (jyn Y_M_change) (jyn Y_M_change) ∈ jTab := jTab_in 764 (by decide +kernel) (by decide +kernel)
theorem mt_M_challenge : jMth Y_M_challenge 4 := ⟨rfl, jTab_in 769 (by decide +kernel) (by decide +kernel), iz_M, ⟨by decide +kernel, by decide +kernel⟩, by decide +kernel⟩
theorem im_M_challenge : Cond.instanceMethod (jyn Y_M_challenge) ∈ jTab := jTab_in 767 (by decide +kernel) (by decide +kernel)
theorem se_M_challenge : Cond.selects (jyn Y_M_challenge).cls (jyn Y_M_challenge) (jyn Y_M_challenge) ∈ jTab := jTab_in 768 (by decide +kernel) (by decide +kernel)
theorem mt_M_isAsked : jMth Y_M_isAsked 2 := ⟨rfl, jTab_in 774 (by decide +kernel) (by decide +kernel), iz_M, ⟨by decide +kernel, by decide +kernel⟩, by decide +kernel⟩
theorem im_M_isAsked : Cond.instanceMethod (jyn Y_M_isAsked) ∈ jTab := jTab_in 773 (by decide +kernel) (by decide +kernel)
theorem se_M_isAsked : Cond.selects (jyn Y_M_isAsked).cls (jyn Y_M_isAsked) (jyn Y_M_isAsked) ∈ jTab := jTab_sel 22 26 (by decide +kernel) (by decide +kernel)
theorem mt_M_asked : jMth Y_M_asked 2 := ⟨rfl, jTab_in 779 (by decide +kernel) (by decide +kernel), iz_M, ⟨by decide +kernel, by decide +kernel⟩, by decide +kernel⟩
theorem im_M_asked : Cond.instanceMethod (jyn Y_M_asked) ∈ jTab := jTab_in 777 (by decide +kernel) (by decide +kernel)
theorem se_M_asked : Cond.selects (jyn Y_M_asked).cls (jyn Y_M_asked) (jyn Y_M_asked) ∈ jTab := jTab_in 778 (by decide +kernel) (by decide +kernel)
theorem mt_M_tamper : jMth Y_M_tamper 2 := ⟨rfl, jTab_in 783 (by decide +kernel) (by decide +kernel), iz_M, ⟨by decide +kernel, by decide +kernel⟩, by decide +kernel⟩
theorem im_M_tamper : Cond.instanceMethod (jyn Y_M_tamper) ∈ jTab := jTab_in 781 (by decide +kernel) (by decide +kernel)
theorem se_M_tamper : Cond.selects (jyn Y_M_tamper).cls (jyn Y_M_tamper) (jyn Y_M_tamper) ∈ jTab := jTab_in 782 (by decide +kernel) (by decide +kernel)
theorem mt_M_judge : jMth Y_M_judge 0 := ⟨rfl, jTab_in 787 (by decide +kernel) (by decide +kernel), iz_M, ⟨by decide +kernel, by decide +kernel⟩, by decide +kernel⟩
theorem im_M_judge : Cond.instanceMethod (jyn Y_M_judge) ∈ jTab := jTab_in 785 (by decide +kernel) (by decide +kernel)
theorem se_M_judge : Cond.selects (jyn Y_M_judge).cls (jyn Y_M_judge) (jyn Y_M_judge) ∈ jTab := jTab_in 786 (by decide +kernel) (by decide +kernel)
theorem mt_M_isGood : jMth Y_M_isGood 3 := ⟨rfl, jTab_in 795 (by decide +kernel) (by decide +kernel), iz_M, ⟨by decide +kernel, by decide +kernel⟩, by decide +kernel⟩
theorem im_M_isGood : Cond.instanceMethod (jyn Y_M_isGood) ∈ jTab := jTab_in 794 (by decide +kernel) (by decide +kernel)
theorem se_M_isGood : Cond.selects (jyn Y_M_isGood).cls (jyn Y_M_isGood) (jyn Y_M_isGood) ∈ jTab := jTab_sel 23 26 (by decide +kernel) (by decide +kernel)
theorem mt_M_locate : jMth Y_M_locate 2 := ⟨rfl, jTab_in 791 (by decide +kernel) (by decide +kernel), iz_M, ⟨by decide +kernel, by decide +kernel⟩, by decide +kernel⟩
theorem im_M_locate : Cond.instanceMethod (jyn Y_M_locate) ∈ jTab := jTab_in 789 (by decide +kernel) (by decide +kernel)
theorem se_M_locate : Cond.selects (jyn Y_M_locate).cls (jyn Y_M_locate) (jyn Y_M_locate) ∈ jTab := jTab_in 790 (by decide +kernel) (by decide +kernel)
theorem mt_M_found : jMth Y_M_found 1 := ⟨rfl, jTab_in 799 (by decide +kernel) (by decide +kernel), iz_M, ⟨by decide +kernel, by decide +kernel⟩, by decide +kernel⟩
theorem im_M_found : Cond.instanceMethod (jyn Y_M_found) ∈ jTab := jTab_in 797 (by decide +kernel) (by decide +kernel)
theorem se_M_found : Cond.selects (jyn Y_M_found).cls (jyn Y_M_found) (jyn Y_M_found) ∈ jTab := jTab_in 798 (by decide +kernel) (by decide +kernel)
theorem mt_M_keeperOf : jMth Y_M_keeperOf 2 := ⟨rfl, jTab_in 811 (by decide +kernel) (by decide +kernel), iz_M, ⟨by decide +kernel, by decide +kernel⟩, by decide +kernel⟩
theorem im_M_keeperOf : Cond.instanceMethod (jyn Y_M_keeperOf) ∈ jTab := jTab_in 810 (by decide +kernel) (by decide +kernel)
theorem se_M_keeperOf : Cond.selects (jyn Y_M_keeperOf).cls (jyn Y_M_keeperOf) (jyn Y_M_keeperOf) ∈ jTab := jTab_sel 25 26 (by decide +kernel) (by decide +kernel)
theorem mt_M_sum : jMth Y_M_sum 4 := ⟨rfl, jTab_in 815 (by decide +kernel) (by decide +kernel), iz_M, ⟨by decide +kernel, by decide +kernel⟩, by decide +kernel⟩
theorem im_M_sum : Cond.instanceMethod (jyn Y_M_sum) ∈ jTab := jTab_in 814 (by decide +kernel) (by decide +kernel)
theorem se_M_sum : Cond.selects (jyn Y_M_sum).cls (jyn Y_M_sum) (jyn Y_M_sum) ∈ jTab := jTab_sel 26 26 (by decide +kernel) (by decide +kernel)
theorem mt_M_solve : jMth Y_M_solve 0 := ⟨rfl, jTab_in 819 (by decide +kernel) (by decide +kernel), iz_M, ⟨by decide +kernel, by decide +kernel⟩, by decide +kernel⟩
theorem im_M_solve : Cond.instanceMethod (jyn Y_M_solve) ∈ jTab := jTab_in 818 (by decide +kernel) (by decide +kernel)
theorem se_M_solve : Cond.selects (jyn Y_M_solve).cls (jyn Y_M_solve) (jyn Y_M_solve) ∈ jTab := jTab_sel 27 26 (by decide +kernel) (by decide +kernel)
theorem mt_M_gather : jMth Y_M_gather 1 := ⟨rfl, jTab_in 807 (by decide +kernel) (by decide +kernel), iz_M, ⟨by decide +kernel, by decide +kernel⟩, by decide +kernel⟩
theorem im_M_gather : Cond.instanceMethod (jyn Y_M_gather) ∈ jTab := jTab_in 806 (by decide +kernel) (by decide +kernel)
theorem se_M_gather : Cond.selects (jyn Y_M_gather).cls (jyn Y_M_gather) (jyn Y_M_gather) ∈ jTab := jTab_sel 24 26 (by decide +kernel) (by decide +kernel)
theorem mt_M_differs : jMth Y_M_differs 4 := ⟨rfl, jTab_in 823 (by decide +kernel) (by decide +kernel), iz_M, ⟨by decide +kernel, by decide +kernel⟩, by decide +kernel⟩
theorem im_M_differs : Cond.instanceMethod (jyn Y_M_differs) ∈ jTab := jTab_in 822 (by decide +kernel) (by decide +kernel)
theorem se_M_differs : Cond.selects (jyn Y_M_differs).cls (jyn Y_M_differs) (jyn Y_M_differs) ∈ jTab := jTab_sel 28 26 (by decide +kernel) (by decide +kernel)
theorem mt_M_repair : jMth Y_M_repair 2 := ⟨rfl, jTab_in 803 (by decide +kernel) (by decide +kernel), iz_M, ⟨by decide +kernel, by decide +kernel⟩, by decide +kernel⟩
theorem im_M_repair : Cond.instanceMethod (jyn Y_M_repair) ∈ jTab := jTab_in 801 (by decide +kernel) (by decide +kernel)
theorem se_M_repair : Cond.selects (jyn Y_M_repair).cls (jyn Y_M_repair) (jyn Y_M_repair) ∈ jTab := jTab_in 802 (by decide +kernel) (by decide +kernel)
theorem mt_M_fetch : jMth Y_M_fetch 1 := ⟨rfl, jTab_in 827 (by decide +kernel) (by decide +kernel), iz_M, ⟨by decide +kernel, by decide +kernel⟩, by decide +kernel⟩
theorem im_M_fetch : Cond.instanceMethod (jyn Y_M_fetch) ∈ jTab := jTab_in 825 (by decide +kernel) (by decide +kernel)
theorem se_M_fetch : Cond.selects (jyn Y_M_fetch).cls (jyn Y_M_fetch) (jyn Y_M_fetch) ∈ jTab := jTab_in 826 (by decide +kernel) (by decide +kernel)
theorem mt_M_fetched : jMth Y_M_fetched 1 := ⟨rfl, jTab_in 831 (by decide +kernel) (by decide +kernel), iz_M, ⟨by decide +kernel, by decide +kernel⟩, by decide +kernel⟩
theorem im_M_fetched : Cond.instanceMethod (jyn Y_M_fetched) ∈ jTab := jTab_in 829 (by decide +kernel) (by decide +kernel)
theorem se_M_fetched : Cond.selects (jyn Y_M_fetched).cls (jyn Y_M_fetched) (jyn Y_M_fetched) ∈ jTab := jTab_in 830 (by decide +kernel) (by decide +kernel)
theorem mt_M_made : jMth Y_M_made 3 := ⟨rfl, jTab_in 835 (by decide +kernel) (by decide +kernel), iz_M, ⟨by decide +kernel, by decide +kernel⟩, by decide +kernel⟩
theorem im_M_made : Cond.instanceMethod (jyn Y_M_made) ∈ jTab := jTab_in 833 (by decide +kernel) (by decide +kernel)
theorem se_M_made : Cond.selects (jyn Y_M_made).cls (jyn Y_M_made) (jyn Y_M_made) ∈ jTab := jTab_in 834 (by decide +kernel) (by decide +kernel)
theorem mt_M_kept : jMth Y_M_kept 4 := ⟨rfl, jTab_in 839 (by decide +kernel) (by decide +kernel), iz_M, ⟨by decide +kernel, by decide +kernel⟩, by decide +kernel⟩
theorem im_M_kept : Cond.instanceMethod (jyn Y_M_kept) ∈ jTab := jTab_in 837 (by decide +kernel) (by decide +kernel)
theorem se_M_kept : Cond.selects (jyn Y_M_kept).cls (jyn Y_M_kept) (jyn Y_M_kept) ∈ jTab := jTab_in 838 (by decide +kernel) (by decide +kernel)
theorem mt_M_rota : jMth Y_M_rota 1 := ⟨rfl, jTab_in 843 (by decide +kernel) (by decide +kernel), iz_M, ⟨by decide +kernel, by decide +kernel⟩, by decide +kernel⟩
theorem im_M_rota : Cond.instanceMethod (jyn Y_M_rota) ∈ jTab := jTab_in 841 (by decide +kernel) (by decide +kernel)
theorem se_M_rota : Cond.selects (jyn Y_M_rota).cls (jyn Y_M_rota) (jyn Y_M_rota) ∈ jTab := jTab_in 842 (by decide +kernel) (by decide +kernel)
theorem mt_M_score : jMth Y_M_score 2 := ⟨rfl, jTab_in 847 (by decide +kernel) (by decide +kernel), iz_M, ⟨by decide +kernel, by decide +kernel⟩, by decide +kernel⟩
theorem im_M_score : Cond.instanceMethod (jyn Y_M_score) ∈ jTab := jTab_in 845 (by decide +kernel) (by decide +kernel)
theorem se_M_score : Cond.selects (jyn Y_M_score).cls (jyn Y_M_score) (jyn Y_M_score) ∈ jTab := jTab_in 846 (by decide +kernel) (by decide +kernel)
theorem mt_C_init : jMth Y_C_init 0 := ⟨rfl, jTab_in 114 (by decide +kernel) (by decide +kernel), iz_C, ⟨by decide +kernel, by decide +kernel⟩, by decide +kernel⟩
theorem im_C_init : Cond.instanceMethod (jyn Y_C_init) ∈ jTab := jTab_in 113 (by decide +kernel) (by decide +kernel)
theorem mt_C_pose : jMth Y_C_pose 2 := ⟨rfl, jTab_in 481 (by decide +kernel) (by decide +kernel), iz_C, ⟨by decide +kernel, by decide +kernel⟩, by decide +kernel⟩
theorem im_C_pose : Cond.instanceMethod (jyn Y_C_pose) ∈ jTab := jTab_in 479 (by decide +kernel) (by decide +kernel)
theorem se_C_pose : Cond.selects (jyn Y_C_pose).cls (jyn Y_C_pose) (jyn Y_C_pose) ∈ jTab := jTab_in 480 (by decide +kernel) (by decide +kernel)
theorem mt_C_draw : jMth Y_C_draw 3 := ⟨rfl, jTab_in 485 (by decide +kernel) (by decide +kernel), iz_C, ⟨by decide +kernel, by decide +kernel⟩, by decide +kernel⟩
theorem im_C_draw : Cond.instanceMethod (jyn Y_C_draw) ∈ jTab := jTab_in 483 (by decide +kernel) (by decide +kernel)
theorem se_C_draw : Cond.selects (jyn Y_C_draw).cls (jyn Y_C_draw) (jyn Y_C_draw) ∈ jTab := jTab_in 484 (by decide +kernel) (by decide +kernel)
theorem mt_C_step : jMth Y_C_step 1 := ⟨rfl, jTab_in 488 (by decide +kernel) (by decide +kernel), iz_C, ⟨by decide +kernel, by decide +kernel⟩, by decide +kernel⟩
theorem sm_C_step : Cond.static (jyn Y_C_step) ∈ jTab := jTab_in 487 (by decide +kernel) (by decide +kernel)
theorem mt_C_nextUndrawn : jMth Y_C_nextUndrawn 2 := ⟨rfl, jTab_in 493 (by decide +kernel) (by decide +kernel), iz_C, ⟨by decide +kernel, by decide +kernel⟩, by decide +kernel⟩
theorem im_C_nextUndrawn : Cond.instanceMethod (jyn Y_C_nextUndrawn) ∈ jTab := jTab_in 492 (by decide +kernel) (by decide +kernel)
theorem se_C_nextUndrawn : Cond.selects (jyn Y_C_nextUndrawn).cls (jyn Y_C_nextUndrawn) (jyn Y_C_nextUndrawn) ∈ jTab := jTab_sel 6 8 (by decide +kernel) (by decide +kernel)
theorem mt_C_answerFrom : jMth Y_C_answerFrom 1 := ⟨rfl, jTab_in 498 (by decide +kernel) (by decide +kernel), iz_C, ⟨by decide +kernel, by decide +kernel⟩, by decide +kernel⟩
theorem im_C_answerFrom : Cond.instanceMethod (jyn Y_C_answerFrom) ∈ jTab := jTab_in 496 (by decide +kernel) (by decide +kernel)
theorem se_C_answerFrom : Cond.selects (jyn Y_C_answerFrom).cls (jyn Y_C_answerFrom) (jyn Y_C_answerFrom) ∈ jTab := jTab_in 497 (by decide +kernel) (by decide +kernel)
theorem mt_C_holds : jMth Y_C_holds 1 := ⟨rfl, jTab_in 513 (by decide +kernel) (by decide +kernel), iz_C, ⟨by decide +kernel, by decide +kernel⟩, by decide +kernel⟩
theorem im_C_holds : Cond.instanceMethod (jyn Y_C_holds) ∈ jTab := jTab_in 511 (by decide +kernel) (by decide +kernel)
theorem se_C_holds : Cond.selects (jyn Y_C_holds).cls (jyn Y_C_holds) (jyn Y_C_holds) ∈ jTab := jTab_in 512 (by decide +kernel) (by decide +kernel)
theorem mt_Y_init : jMth Y_Y_init 0 := ⟨rfl, jTab_in 75 (by decide +kernel) (by decide +kernel), iz_Y, ⟨by decide +kernel, by decide +kernel⟩, by decide +kernel⟩
theorem im_Y_init : Cond.instanceMethod (jyn Y_Y_init) ∈ jTab := jTab_in 74 (by decide +kernel) (by decide +kernel)
theorem mt_Y_drop : jMth Y_Y_drop 1 := ⟨rfl, jTab_in 454 (by decide +kernel) (by decide +kernel), iz_Y, ⟨by decide +kernel, by decide +kernel⟩, by decide +kernel⟩
theorem im_Y_drop : Cond.instanceMethod (jyn Y_Y_drop) ∈ jTab := jTab_in 452 (by decide +kernel) (by decide +kernel)
theorem se_Y_drop : Cond.selects (jyn Y_Y_drop).cls (jyn Y_Y_drop) (jyn Y_Y_drop) ∈ jTab := jTab_in 453 (by decide +kernel) (by decide +kernel)
theorem mt_Y_become : jMth Y_Y_become 2 := ⟨rfl, jTab_in 423 (by decide +kernel) (by decide +kernel), iz_Y, ⟨by decide +kernel, by decide +kernel⟩, by decide +kernel⟩
theorem im_Y_become : Cond.instanceMethod (jyn Y_Y_become) ∈ jTab := jTab_in 421 (by decide +kernel) (by decide +kernel)
theorem se_Y_become : Cond.selects (jyn Y_Y_become).cls (jyn Y_Y_become) (jyn Y_Y_become) ∈ jTab := jTab_in 422 (by decide +kernel) (by decide +kernel)
theorem mt_E_init : jMth Y_E_init 0 := ⟨rfl, jTab_in 29 (by decide +kernel) (by decide +kernel), iz_E, ⟨by decide +kernel, by decide +kernel⟩, by decide +kernel⟩
theorem im_E_init : Cond.instanceMethod (jyn Y_E_init) ∈ jTab := jTab_in 28 (by decide +kernel) (by decide +kernel)
theorem mt_E_drawSecrets : jMth Y_E_drawSecrets 3 := ⟨rfl, jTab_in 348 (by decide +kernel) (by decide +kernel), iz_E, ⟨by decide +kernel, by decide +kernel⟩, by decide +kernel⟩
theorem im_E_drawSecrets : Cond.instanceMethod (jyn Y_E_drawSecrets) ∈ jTab := jTab_in 346 (by decide +kernel) (by decide +kernel)
theorem se_E_drawSecrets : Cond.selects (jyn Y_E_drawSecrets).cls (jyn Y_E_drawSecrets) (jyn Y_E_drawSecrets) ∈ jTab := jTab_in 347 (by decide +kernel) (by decide +kernel)
theorem mt_E_make : jMth Y_E_make 2 := ⟨rfl, jTab_in 358 (by decide +kernel) (by decide +kernel), iz_E, ⟨by decide +kernel, by decide +kernel⟩, by decide +kernel⟩
theorem im_E_make : Cond.instanceMethod (jyn Y_E_make) ∈ jTab := jTab_in 356 (by decide +kernel) (by decide +kernel)
theorem se_E_make : Cond.selects (jyn Y_E_make).cls (jyn Y_E_make) (jyn Y_E_make) ∈ jTab := jTab_in 357 (by decide +kernel) (by decide +kernel)
theorem mt_E_complete : jMth Y_E_complete 1 := ⟨rfl, jTab_in 369 (by decide +kernel) (by decide +kernel), iz_E, ⟨by decide +kernel, by decide +kernel⟩, by decide +kernel⟩
theorem im_E_complete : Cond.instanceMethod (jyn Y_E_complete) ∈ jTab := jTab_in 367 (by decide +kernel) (by decide +kernel)
theorem se_E_complete : Cond.selects (jyn Y_E_complete).cls (jyn Y_E_complete) (jyn Y_E_complete) ∈ jTab := jTab_in 368 (by decide +kernel) (by decide +kernel)
theorem mt_E_tagOf : jMth Y_E_tagOf 2 := ⟨rfl, jTab_in 392 (by decide +kernel) (by decide +kernel), iz_E, ⟨by decide +kernel, by decide +kernel⟩, by decide +kernel⟩
theorem im_E_tagOf : Cond.instanceMethod (jyn Y_E_tagOf) ∈ jTab := jTab_in 390 (by decide +kernel) (by decide +kernel)
theorem se_E_tagOf : Cond.selects (jyn Y_E_tagOf).cls (jyn Y_E_tagOf) (jyn Y_E_tagOf) ∈ jTab := jTab_in 391 (by decide +kernel) (by decide +kernel)
theorem mt_F_has : jMth Y_F_has 1 := ⟨rfl, jTab_in 196 (by decide +kernel) (by decide +kernel), iz_F, ⟨by decide +kernel, by decide +kernel⟩, by decide +kernel⟩
theorem sm_F_has : Cond.static (jyn Y_F_has) ∈ jTab := jTab_in 195 (by decide +kernel) (by decide +kernel)
theorem mt_F_plus : jMth Y_F_plus 2 := ⟨rfl, jTab_in 211 (by decide +kernel) (by decide +kernel), iz_F, ⟨by decide +kernel, by decide +kernel⟩, by decide +kernel⟩
theorem sm_F_plus : Cond.static (jyn Y_F_plus) ∈ jTab := jTab_in 210 (by decide +kernel) (by decide +kernel)
theorem mt_F_minus : jMth Y_F_minus 2 := ⟨rfl, jTab_in 565 (by decide +kernel) (by decide +kernel), iz_F, ⟨by decide +kernel, by decide +kernel⟩, by decide +kernel⟩
theorem sm_F_minus : Cond.static (jyn Y_F_minus) ∈ jTab := jTab_in 564 (by decide +kernel) (by decide +kernel)
theorem mt_F_times : jMth Y_F_times 2 := ⟨rfl, jTab_in 386 (by decide +kernel) (by decide +kernel), iz_F, ⟨by decide +kernel, by decide +kernel⟩, by decide +kernel⟩
theorem sm_F_times : Cond.static (jyn Y_F_times) ∈ jTab := jTab_in 385 (by decide +kernel) (by decide +kernel)
theorem mt_F_secret : jMth Y_F_secret 3 := ⟨rfl, jTab_in 351 (by decide +kernel) (by decide +kernel), iz_F, ⟨by decide +kernel, by decide +kernel⟩, by decide +kernel⟩
theorem sm_F_secret : Cond.static (jyn Y_F_secret) ∈ jTab := jTab_in 350 (by decide +kernel) (by decide +kernel)
theorem mt_K_init : jMth Y_K_init 0 := ⟨rfl, jTab_in 68 (by decide +kernel) (by decide +kernel), iz_K, ⟨by decide +kernel, by decide +kernel⟩, by decide +kernel⟩
theorem im_K_init : Cond.instanceMethod (jyn Y_K_init) ∈ jTab := jTab_in 67 (by decide +kernel) (by decide +kernel)
theorem mt_K_tally : jMth Y_K_tally 1 := ⟨rfl, jTab_in 239 (by decide +kernel) (by decide +kernel), iz_K, ⟨by decide +kernel, by decide +kernel⟩, by decide +kernel⟩
theorem im_K_tally : Cond.instanceMethod (jyn Y_K_tally) ∈ jTab := jTab_in 237 (by decide +kernel) (by decide +kernel)
theorem se_K_tally : Cond.selects (jyn Y_K_tally).cls (jyn Y_K_tally) (jyn Y_K_tally) ∈ jTab := jTab_in 238 (by decide +kernel) (by decide +kernel)
theorem mt_R_init : jMth Y_R_init 0 := ⟨rfl, jTab_in 35 (by decide +kernel) (by decide +kernel), iz_R, ⟨by decide +kernel, by decide +kernel⟩, by decide +kernel⟩
theorem im_R_init : Cond.instanceMethod (jyn Y_R_init) ∈ jTab := jTab_in 34 (by decide +kernel) (by decide +kernel)
theorem mt_R_rowOfWord : jMth Y_R_rowOfWord 1 := ⟨rfl, jTab_in 361 (by decide +kernel) (by decide +kernel), iz_R, ⟨by decide +kernel, by decide +kernel⟩, by decide +kernel⟩
theorem sm_R_rowOfWord : Cond.static (jyn Y_R_rowOfWord) ∈ jTab := jTab_in 360 (by decide +kernel) (by decide +kernel)
theorem mt_R_get : jMth Y_R_get 2 := ⟨rfl, jTab_in 381 (by decide +kernel) (by decide +kernel), iz_R, ⟨by decide +kernel, by decide +kernel⟩, by decide +kernel⟩
theorem im_R_get : Cond.instanceMethod (jyn Y_R_get) ∈ jTab := jTab_in 379 (by decide +kernel) (by decide +kernel)
theorem se_R_get : Cond.selects (jyn Y_R_get).cls (jyn Y_R_get) (jyn Y_R_get) ∈ jTab := jTab_in 380 (by decide +kernel) (by decide +kernel)
theorem mt_R_set : jMth Y_R_set 3 := ⟨rfl, jTab_in 365 (by decide +kernel) (by decide +kernel), iz_R, ⟨by decide +kernel, by decide +kernel⟩, by decide +kernel⟩
theorem im_R_set : Cond.instanceMethod (jyn Y_R_set) ∈ jTab := jTab_in 363 (by decide +kernel) (by decide +kernel)
theorem se_R_set : Cond.selects (jyn Y_R_set).cls (jyn Y_R_set) (jyn Y_R_set) ∈ jTab := jTab_in 364 (by decide +kernel) (by decide +kernel)
theorem mt_R_takeRow : jMth Y_R_takeRow 2 := ⟨rfl, jTab_in 431 (by decide +kernel) (by decide +kernel), iz_R, ⟨by decide +kernel, by decide +kernel⟩, by decide +kernel⟩
theorem im_R_takeRow : Cond.instanceMethod (jyn Y_R_takeRow) ∈ jTab := jTab_in 429 (by decide +kernel) (by decide +kernel)
theorem se_R_takeRow : Cond.selects (jyn Y_R_takeRow).cls (jyn Y_R_takeRow) (jyn Y_R_takeRow) ∈ jTab := jTab_in 430 (by decide +kernel) (by decide +kernel)
theorem mt_R_clearRow : jMth Y_R_clearRow 1 := ⟨rfl, jTab_in 458 (by decide +kernel) (by decide +kernel), iz_R, ⟨by decide +kernel, by decide +kernel⟩, by decide +kernel⟩
theorem im_R_clearRow : Cond.instanceMethod (jyn Y_R_clearRow) ∈ jTab := jTab_in 456 (by decide +kernel) (by decide +kernel)
theorem se_R_clearRow : Cond.selects (jyn Y_R_clearRow).cls (jyn Y_R_clearRow) (jyn Y_R_clearRow) ∈ jTab := jTab_in 457 (by decide +kernel) (by decide +kernel)
theorem mt_R_sameRow : jMth Y_R_sameRow 2 := ⟨rfl, jTab_in 427 (by decide +kernel) (by decide +kernel), iz_R, ⟨by decide +kernel, by decide +kernel⟩, by decide +kernel⟩
theorem im_R_sameRow : Cond.instanceMethod (jyn Y_R_sameRow) ∈ jTab := jTab_in 425 (by decide +kernel) (by decide +kernel)
theorem se_R_sameRow : Cond.selects (jyn Y_R_sameRow).cls (jyn Y_R_sameRow) (jyn Y_R_sameRow) ∈ jTab := jTab_in 426 (by decide +kernel) (by decide +kernel)
theorem mt_R_spread : jMth Y_R_spread 1 := ⟨rfl, jTab_in 373 (by decide +kernel) (by decide +kernel), iz_R, ⟨by decide +kernel, by decide +kernel⟩, by decide +kernel⟩
theorem im_R_spread : Cond.instanceMethod (jyn Y_R_spread) ∈ jTab := jTab_in 371 (by decide +kernel) (by decide +kernel)
theorem se_R_spread : Cond.selects (jyn Y_R_spread).cls (jyn Y_R_spread) (jyn Y_R_spread) ∈ jTab := jTab_in 372 (by decide +kernel) (by decide +kernel)
theorem mt_R_codedWord : jMth Y_R_codedWord 3 := ⟨rfl, jTab_in 377 (by decide +kernel) (by decide +kernel), iz_R, ⟨by decide +kernel, by decide +kernel⟩, by decide +kernel⟩
theorem im_R_codedWord : Cond.instanceMethod (jyn Y_R_codedWord) ∈ jTab := jTab_in 376 (by decide +kernel) (by decide +kernel)
theorem se_R_codedWord : Cond.selects (jyn Y_R_codedWord).cls (jyn Y_R_codedWord) (jyn Y_R_codedWord) ∈ jTab := jTab_sel 3 1 (by decide +kernel) (by decide +kernel)
theorem mt_R_recover : jMth Y_R_recover 2 := ⟨rfl, jTab_in 550 (by decide +kernel) (by decide +kernel), iz_R, ⟨by decide +kernel, by decide +kernel⟩, by decide +kernel⟩
theorem im_R_recover : Cond.instanceMethod (jyn Y_R_recover) ∈ jTab := jTab_in 548 (by decide +kernel) (by decide +kernel)
theorem se_R_recover : Cond.selects (jyn Y_R_recover).cls (jyn Y_R_recover) (jyn Y_R_recover) ∈ jTab := jTab_in 549 (by decide +kernel) (by decide +kernel)
theorem mt_R_nextMissing : jMth Y_R_nextMissing 2 := ⟨rfl, jTab_in 553 (by decide +kernel) (by decide +kernel), iz_R, ⟨by decide +kernel, by decide +kernel⟩, by decide +kernel⟩
theorem sm_R_nextMissing : Cond.static (jyn Y_R_nextMissing) ∈ jTab := jTab_in 552 (by decide +kernel) (by decide +kernel)
theorem mt_R_recoverOne : jMth Y_R_recoverOne 3 := ⟨rfl, jTab_in 558 (by decide +kernel) (by decide +kernel), iz_R, ⟨by decide +kernel, by decide +kernel⟩, by decide +kernel⟩
theorem im_R_recoverOne : Cond.instanceMethod (jyn Y_R_recoverOne) ∈ jTab := jTab_in 557 (by decide +kernel) (by decide +kernel)
theorem se_R_recoverOne : Cond.selects (jyn Y_R_recoverOne).cls (jyn Y_R_recoverOne) (jyn Y_R_recoverOne) ∈ jTab := jTab_sel 11 1 (by decide +kernel) (by decide +kernel)
theorem mt_R_recoverTwo : jMth Y_R_recoverTwo 3 := ⟨rfl, jTab_in 569 (by decide +kernel) (by decide +kernel), iz_R, ⟨by decide +kernel, by decide +kernel⟩, by decide +kernel⟩
theorem im_R_recoverTwo : Cond.instanceMethod (jyn Y_R_recoverTwo) ∈ jTab := jTab_in 568 (by decide +kernel) (by decide +kernel)
theorem se_R_recoverTwo : Cond.selects (jyn Y_R_recoverTwo).cls (jyn Y_R_recoverTwo) (jyn Y_R_recoverTwo) ∈ jTab := jTab_sel 13 1 (by decide +kernel) (by decide +kernel)
theorem mt_R_rest : jMth Y_R_rest 3 := ⟨rfl, jTab_in 562 (by decide +kernel) (by decide +kernel), iz_R, ⟨by decide +kernel, by decide +kernel⟩, by decide +kernel⟩
theorem im_R_rest : Cond.instanceMethod (jyn Y_R_rest) ∈ jTab := jTab_in 561 (by decide +kernel) (by decide +kernel)
theorem se_R_rest : Cond.selects (jyn Y_R_rest).cls (jyn Y_R_rest) (jyn Y_R_rest) ∈ jTab := jTab_sel 12 1 (by decide +kernel) (by decide +kernel)
theorem cw_W_key : Cond.codeWith (jyn Y_W_key) (jyc Y_W_key) (jyL Y_W_key) (jyr Y_W_key) (jyh Y_W_key) ∈ jTab := jTab_in 246 (by decide +kernel) (by decide +kernel)
theorem sm_W_key : Cond.static (jyn Y_W_key) ∈ jTab := jTab_in 245 (by decide +kernel) (by decide +kernel)
theorem cw_W_file : Cond.codeWith (jyn Y_W_file) (jyc Y_W_file) (jyL Y_W_file) (jyr Y_W_file) (jyh Y_W_file) ∈ jTab := jTab_in 322 (by decide +kernel) (by decide +kernel)
theorem sm_W_file : Cond.static (jyn Y_W_file) ∈ jTab := jTab_in 321 (by decide +kernel) (by decide +kernel)
theorem cw_W_place : Cond.codeWith (jyn Y_W_place) (jyc Y_W_place) (jyL Y_W_place) (jyr Y_W_place) (jyh Y_W_place) ∈ jTab := jTab_in 398 (by decide +kernel) (by decide +kernel)
theorem sm_W_place : Cond.static (jyn Y_W_place) ∈ jTab := jTab_in 397 (by decide +kernel) (by decide +kernel)
theorem cw_W_lose : Cond.codeWith (jyn Y_W_lose) (jyc Y_W_lose) (jyL Y_W_lose) (jyr Y_W_lose) (jyh Y_W_lose) ∈ jTab := jTab_in 437 (by decide +kernel) (by decide +kernel)
theorem sm_W_lose : Cond.static (jyn Y_W_lose) ∈ jTab := jTab_in 436 (by decide +kernel) (by decide +kernel)
theorem cw_W_change : Cond.codeWith (jyn Y_W_change) (jyc Y_W_change) (jyL Y_W_change) (jyr Y_W_change) (jyh Y_W_change) ∈ jTab := jTab_in 461 (by decide +kernel) (by decide +kernel)
theorem sm_W_change : Cond.static (jyn Y_W_change) ∈ jTab := jTab_in 460 (by decide +kernel) (by decide +kernel)
theorem cw_W_challenge : Cond.codeWith (jyn Y_W_challenge) (jyc Y_W_challenge) (jyL Y_W_challenge) (jyr Y_W_challenge) (jyh Y_W_challenge) ∈ jTab := jTab_in 472 (by decide +kernel) (by decide +kernel)
theorem sm_W_challenge : Cond.static (jyn Y_W_challenge) ∈ jTab := jTab_in 471 (by decide +kernel) (by decide +kernel)
theorem cw_W_judge : Cond.codeWith (jyn Y_W_judge) (jyc Y_W_judge) (jyL Y_W_judge) (jyr Y_W_judge) (jyh Y_W_judge) ∈ jTab := jTab_in 504 (by decide +kernel) (by decide +kernel)
theorem sm_W_judge : Cond.static (jyn Y_W_judge) ∈ jTab := jTab_in 503 (by decide +kernel) (by decide +kernel)
theorem cw_W_locate : Cond.codeWith (jyn Y_W_locate) (jyc Y_W_locate) (jyL Y_W_locate) (jyr Y_W_locate) (jyh Y_W_locate) ∈ jTab := jTab_in 516 (by decide +kernel) (by decide +kernel)
theorem sm_W_locate : Cond.static (jyn Y_W_locate) ∈ jTab := jTab_in 515 (by decide +kernel) (by decide +kernel)
theorem cw_W_repair : Cond.codeWith (jyn Y_W_repair) (jyc Y_W_repair) (jyL Y_W_repair) (jyr Y_W_repair) (jyh Y_W_repair) ∈ jTab := jTab_in 529 (by decide +kernel) (by decide +kernel)
theorem sm_W_repair : Cond.static (jyn Y_W_repair) ∈ jTab := jTab_in 528 (by decide +kernel) (by decide +kernel)
theorem cw_W_fetch : Cond.codeWith (jyn Y_W_fetch) (jyc Y_W_fetch) (jyL Y_W_fetch) (jyr Y_W_fetch) (jyh Y_W_fetch) ∈ jTab := jTab_in 574 (by decide +kernel) (by decide +kernel)
theorem sm_W_fetch : Cond.static (jyn Y_W_fetch) ∈ jTab := jTab_in 573 (by decide +kernel) (by decide +kernel)
theorem cw_W_made : Cond.codeWith (jyn Y_W_made) (jyc Y_W_made) (jyL Y_W_made) (jyr Y_W_made) (jyh Y_W_made) ∈ jTab := jTab_in 583 (by decide +kernel) (by decide +kernel)
theorem sm_W_made : Cond.static (jyn Y_W_made) ∈ jTab := jTab_in 582 (by decide +kernel) (by decide +kernel)
theorem cw_W_kept : Cond.codeWith (jyn Y_W_kept) (jyc Y_W_kept) (jyL Y_W_kept) (jyr Y_W_kept) (jyh Y_W_kept) ∈ jTab := jTab_in 591 (by decide +kernel) (by decide +kernel)
theorem sm_W_kept : Cond.static (jyn Y_W_kept) ∈ jTab := jTab_in 590 (by decide +kernel) (by decide +kernel)
theorem ln_W_60 : jLnk "AuditDeskLaw" 60 Y_D_init := Or.inl (jTab_in 18 (by decide +kernel) (by decide +kernel))
theorem lm_W_60 : Cond.methodLink "AuditDeskLaw" 60 (jyn Y_D_init) ∈ jTab := jTab_in 18 (by decide +kernel) (by decide +kernel)
theorem lo_D : Cond.methodLink "AuditDesk" 1 Lib.objectInit ∈ jTab := jTab_in 21 (by decide +kernel) (by decide +kernel)
theorem ln_D_19 : jLnk "AuditDesk" 19 Y_E_init := Or.inr ⟨"AuditDesk", jTab_in 27 (by decide +kernel) (by decide +kernel)⟩
theorem lo_E : Cond.methodLink "AuditDesk$Deposit" 3 Lib.objectInit ∈ jTab := jTab_in 30 (by decide +kernel) (by decide +kernel)
theorem ln_E_20 : jLnk "AuditDesk$Deposit" 20 Y_R_init := Or.inr ⟨"AuditDesk", jTab_in 33 (by decide +kernel) (by decide +kernel)⟩
theorem lo_R : Cond.methodLink "AuditDesk$Rows" 3 Lib.objectInit ∈ jTab := jTab_in 36 (by decide +kernel) (by decide +kernel)
theorem ln_D_26 : jLnk "AuditDesk" 26 Y_K_init := Or.inl (jTab_in 66 (by decide +kernel) (by decide +kernel))
theorem lo_K : Cond.methodLink "AuditDesk$Keeper" 3 Lib.objectInit ∈ jTab := jTab_in 69 (by decide +kernel) (by decide +kernel)
theorem ln_K_17 : jLnk "AuditDesk$Keeper" 17 Y_Y_init := Or.inr ⟨"AuditDesk", jTab_in 73 (by decide +kernel) (by decide +kernel)⟩
theorem lo_Y : Cond.methodLink "AuditDesk$Copy" 3 Lib.objectInit ∈ jTab := jTab_in 76 (by decide +kernel) (by decide +kernel)
theorem ln_Y_11 : jLnk "AuditDesk$Copy" 11 Y_R_init := Or.inr ⟨"AuditDesk", jTab_in 78 (by decide +kernel) (by decide +kernel)⟩
theorem ln_D_29 : jLnk "AuditDesk" 29 Y_C_init := Or.inr ⟨"AuditDesk", jTab_in 112 (by decide +kernel) (by decide +kernel)⟩
theorem lo_C : Cond.methodLink "AuditDesk$Challenge" 3 Lib.objectInit ∈ jTab := jTab_in 115 (by decide +kernel) (by decide +kernel)
theorem ln_D_42 : jLnk "AuditDesk" 42 Y_R_init := Or.inr ⟨"AuditDesk", jTab_in 149 (by decide +kernel) (by decide +kernel)⟩
theorem ln_W_76 : jLnk "AuditDeskLaw" 76 Y_D_word := Or.inl (jTab_in 190 (by decide +kernel) (by decide +kernel))
theorem lm_W_76 : Cond.methodLink "AuditDeskLaw" 76 (jyn Y_D_word) ∈ jTab := jTab_in 190 (by decide +kernel) (by decide +kernel)
theorem ln_D_69 : jLnk "AuditDesk" 69 Y_F_has := Or.inl (jTab_in 194 (by decide +kernel) (by decide +kernel))
theorem ln_W_100 : jLnk "AuditDeskLaw" 100 Y_D_asked := Or.inl (jTab_in 198 (by decide +kernel) (by decide +kernel))
theorem lm_W_100 : Cond.methodLink "AuditDeskLaw" 100 (jyn Y_D_asked) ∈ jTab := jTab_in 198 (by decide +kernel) (by decide +kernel)
theorem ln_W_104 : jLnk "AuditDeskLaw" 104 Y_D_tamper := Or.inl (jTab_in 202 (by decide +kernel) (by decide +kernel))
theorem lm_W_104 : Cond.methodLink "AuditDeskLaw" 104 (jyn Y_D_tamper) ∈ jTab := jTab_in 202 (by decide +kernel) (by decide +kernel)
theorem ln_D_134 : jLnk "AuditDesk" 134 Y_D_isRowNumber := Or.inl (jTab_in 206 (by decide +kernel) (by decide +kernel))
theorem ln_D_146 : jLnk "AuditDesk" 146 Y_F_plus := Or.inl (jTab_in 209 (by decide +kernel) (by decide +kernel))
theorem ln_W_115 : jLnk "AuditDeskLaw" 115 Y_D_found := Or.inl (jTab_in 213 (by decide +kernel) (by decide +kernel))
theorem lm_W_115 : Cond.methodLink "AuditDeskLaw" 115 (jyn Y_D_found) ∈ jTab := jTab_in 213 (by decide +kernel) (by decide +kernel)
theorem ln_W_125 : jLnk "AuditDeskLaw" 125 Y_D_fetched := Or.inl (jTab_in 217 (by decide +kernel) (by decide +kernel))
theorem lm_W_125 : Cond.methodLink "AuditDeskLaw" 125 (jyn Y_D_fetched) ∈ jTab := jTab_in 217 (by decide +kernel) (by decide +kernel)
theorem ln_W_135 : jLnk "AuditDeskLaw" 135 Y_D_rota := Or.inl (jTab_in 221 (by decide +kernel) (by decide +kernel))
theorem lm_W_135 : Cond.methodLink "AuditDeskLaw" 135 (jyn Y_D_rota) ∈ jTab := jTab_in 221 (by decide +kernel) (by decide +kernel)
theorem ln_D_234 : jLnk "AuditDesk" 234 Y_D_countCopies := Or.inl (jTab_in 225 (by decide +kernel) (by decide +kernel))
theorem ln_W_139 : jLnk "AuditDeskLaw" 139 Y_D_score := Or.inl (jTab_in 229 (by decide +kernel) (by decide +kernel))
theorem lm_W_139 : Cond.methodLink "AuditDeskLaw" 139 (jyn Y_D_score) ∈ jTab := jTab_in 229 (by decide +kernel) (by decide +kernel)
theorem ln_D_93 : jLnk "AuditDesk" 93 Y_D_isKeeper := Or.inl (jTab_in 233 (by decide +kernel) (by decide +kernel))
theorem ln_D_238 : jLnk "AuditDesk" 238 Y_K_tally := Or.inl (jTab_in 236 (by decide +kernel) (by decide +kernel))
theorem ln_D_90 : jLnk "AuditDesk" 90 Y_D_isFile := Or.inl (jTab_in 240 (by decide +kernel) (by decide +kernel))
theorem ln_W_66 : jLnk "AuditDeskLaw" 66 Y_W_key := Or.inl (jTab_in 244 (by decide +kernel) (by decide +kernel))
theorem lm_W_66 : Cond.methodLink "AuditDeskLaw" 66 (jyn Y_W_key) ∈ jTab := jTab_in 244 (by decide +kernel) (by decide +kernel)
theorem ln_W_7 : jLnk "AuditDeskLaw" 7 Y_D_key := Or.inl (jTab_in 248 (by decide +kernel) (by decide +kernel))
theorem lm_W_7 : Cond.methodLink "AuditDeskLaw" 7 (jyn Y_D_key) ∈ jTab := jTab_in 248 (by decide +kernel) (by decide +kernel)
theorem ln_W_80 : jLnk "AuditDeskLaw" 80 Y_W_file := Or.inl (jTab_in 320 (by decide +kernel) (by decide +kernel))
theorem lm_W_80 : Cond.methodLink "AuditDeskLaw" 80 (jyn Y_W_file) ∈ jTab := jTab_in 320 (by decide +kernel) (by decide +kernel)
theorem ln_W_15 : jLnk "AuditDeskLaw" 15 Y_D_file := Or.inl (jTab_in 324 (by decide +kernel) (by decide +kernel))
theorem lm_W_15 : Cond.methodLink "AuditDeskLaw" 15 (jyn Y_D_file) ∈ jTab := jTab_in 324 (by decide +kernel) (by decide +kernel)
theorem ln_D_82 : jLnk "AuditDesk" 82 Y_E_drawSecrets := Or.inl (jTab_in 345 (by decide +kernel) (by decide +kernel))
theorem ln_E_25 : jLnk "AuditDesk$Deposit" 25 Y_F_secret := Or.inl (jTab_in 349 (by decide +kernel) (by decide +kernel))
theorem ln_D_86 : jLnk "AuditDesk" 86 Y_E_make := Or.inl (jTab_in 355 (by decide +kernel) (by decide +kernel))
theorem ln_E_38 : jLnk "AuditDesk$Deposit" 38 Y_R_rowOfWord := Or.inl (jTab_in 359 (by decide +kernel) (by decide +kernel))
theorem ln_E_42 : jLnk "AuditDesk$Deposit" 42 Y_R_set := Or.inl (jTab_in 362 (by decide +kernel) (by decide +kernel))
theorem ln_E_46 : jLnk "AuditDesk$Deposit" 46 Y_E_complete := Or.inl (jTab_in 366 (by decide +kernel) (by decide +kernel))
theorem ln_E_50 : jLnk "AuditDesk$Deposit" 50 Y_R_spread := Or.inl (jTab_in 370 (by decide +kernel) (by decide +kernel))
theorem ln_R_29 : jLnk "AuditDesk$Rows" 29 Y_R_codedWord := Or.inl (jTab_in 374 (by decide +kernel) (by decide +kernel))
theorem ln_R_25 : jLnk "AuditDesk$Rows" 25 Y_R_get := Or.inl (jTab_in 378 (by decide +kernel) (by decide +kernel))
theorem ln_R_38 : jLnk "AuditDesk$Rows" 38 Y_F_times := Or.inl (jTab_in 384 (by decide +kernel) (by decide +kernel))
theorem ln_R_41 : jLnk "AuditDesk$Rows" 41 Y_F_plus := Or.inl (jTab_in 387 (by decide +kernel) (by decide +kernel))
theorem ln_R_21 : jLnk "AuditDesk$Rows" 21 Y_R_set := Or.inl (jTab_in 388 (by decide +kernel) (by decide +kernel))
theorem ln_E_54 : jLnk "AuditDesk$Deposit" 54 Y_E_tagOf := Or.inl (jTab_in 389 (by decide +kernel) (by decide +kernel))
theorem ln_E_58 : jLnk "AuditDesk$Deposit" 58 Y_R_get := Or.inl (jTab_in 393 (by decide +kernel) (by decide +kernel))
theorem ln_E_62 : jLnk "AuditDesk$Deposit" 62 Y_F_times := Or.inl (jTab_in 394 (by decide +kernel) (by decide +kernel))
theorem ln_E_65 : jLnk "AuditDesk$Deposit" 65 Y_F_plus := Or.inl (jTab_in 395 (by decide +kernel) (by decide +kernel))
theorem ln_W_84 : jLnk "AuditDeskLaw" 84 Y_W_place := Or.inl (jTab_in 396 (by decide +kernel) (by decide +kernel))
theorem lm_W_84 : Cond.methodLink "AuditDeskLaw" 84 (jyn Y_W_place) ∈ jTab := jTab_in 396 (by decide +kernel) (by decide +kernel)
theorem ln_W_21 : jLnk "AuditDeskLaw" 21 Y_D_place := Or.inl (jTab_in 400 (by decide +kernel) (by decide +kernel))
theorem lm_W_21 : Cond.methodLink "AuditDeskLaw" 21 (jyn Y_D_place) ∈ jTab := jTab_in 400 (by decide +kernel) (by decide +kernel)
theorem ln_D_117 : jLnk "AuditDesk" 117 Y_Y_become := Or.inl (jTab_in 420 (by decide +kernel) (by decide +kernel))
theorem ln_Y_30 : jLnk "AuditDesk$Copy" 30 Y_R_sameRow := Or.inl (jTab_in 424 (by decide +kernel) (by decide +kernel))
theorem ln_Y_34 : jLnk "AuditDesk$Copy" 34 Y_R_takeRow := Or.inl (jTab_in 428 (by decide +kernel) (by decide +kernel))
theorem lcp_R_15 : Cond.methodLink "AuditDesk$Rows" 15 arraycopyName ∈ jTab := jTab_in 432 (by decide +kernel) (by decide +kernel)
theorem ln_W_88 : jLnk "AuditDeskLaw" 88 Y_W_lose := Or.inl (jTab_in 435 (by decide +kernel) (by decide +kernel))
theorem lm_W_88 : Cond.methodLink "AuditDeskLaw" 88 (jyn Y_W_lose) ∈ jTab := jTab_in 435 (by decide +kernel) (by decide +kernel)
theorem ln_W_27 : jLnk "AuditDeskLaw" 27 Y_D_lose := Or.inl (jTab_in 438 (by decide +kernel) (by decide +kernel))
theorem lm_W_27 : Cond.methodLink "AuditDeskLaw" 27 (jyn Y_D_lose) ∈ jTab := jTab_in 438 (by decide +kernel) (by decide +kernel)
theorem ln_D_121 : jLnk "AuditDesk" 121 Y_D_keepsRow := Or.inl (jTab_in 442 (by decide +kernel) (by decide +kernel))
theorem ln_D_153 : jLnk "AuditDesk" 153 Y_D_keeps := Or.inl (jTab_in 446 (by decide +kernel) (by decide +kernel))
theorem ln_D_130 : jLnk "AuditDesk" 130 Y_Y_drop := Or.inl (jTab_in 451 (by decide +kernel) (by decide +kernel))
theorem ln_Y_22 : jLnk "AuditDesk$Copy" 22 Y_R_clearRow := Or.inl (jTab_in 455 (by decide +kernel) (by decide +kernel))
theorem ln_W_92 : jLnk "AuditDeskLaw" 92 Y_W_change := Or.inl (jTab_in 459 (by decide +kernel) (by decide +kernel))
theorem lm_W_92 : Cond.methodLink "AuditDeskLaw" 92 (jyn Y_W_change) ∈ jTab := jTab_in 459 (by decide +kernel) (by decide +kernel)
theorem ln_W_31 : jLnk "AuditDeskLaw" 31 Y_D_change := Or.inl (jTab_in 462 (by decide +kernel) (by decide +kernel))
theorem lm_W_31 : Cond.methodLink "AuditDeskLaw" 31 (jyn Y_D_change) ∈ jTab := jTab_in 462 (by decide +kernel) (by decide +kernel)
theorem ln_D_142 : jLnk "AuditDesk" 142 Y_R_get := Or.inl (jTab_in 468 (by decide +kernel) (by decide +kernel))
theorem ln_D_149 : jLnk "AuditDesk" 149 Y_R_set := Or.inl (jTab_in 469 (by decide +kernel) (by decide +kernel))
theorem ln_W_96 : jLnk "AuditDeskLaw" 96 Y_W_challenge := Or.inl (jTab_in 470 (by decide +kernel) (by decide +kernel))
theorem lm_W_96 : Cond.methodLink "AuditDeskLaw" 96 (jyn Y_W_challenge) ∈ jTab := jTab_in 470 (by decide +kernel) (by decide +kernel)
theorem ln_W_35 : jLnk "AuditDeskLaw" 35 Y_D_challenge := Or.inl (jTab_in 473 (by decide +kernel) (by decide +kernel))
theorem lm_W_35 : Cond.methodLink "AuditDeskLaw" 35 (jyn Y_D_challenge) ∈ jTab := jTab_in 473 (by decide +kernel) (by decide +kernel)
theorem ln_D_159 : jLnk "AuditDesk" 159 Y_C_pose := Or.inl (jTab_in 478 (by decide +kernel) (by decide +kernel))
theorem ln_D_163 : jLnk "AuditDesk" 163 Y_C_draw := Or.inl (jTab_in 482 (by decide +kernel) (by decide +kernel))
theorem ln_C_39 : jLnk "AuditDesk$Challenge" 39 Y_C_step := Or.inl (jTab_in 486 (by decide +kernel) (by decide +kernel))
theorem ln_C_43 : jLnk "AuditDesk$Challenge" 43 Y_C_nextUndrawn := Or.inl (jTab_in 490 (by decide +kernel) (by decide +kernel))
theorem ln_D_166 : jLnk "AuditDesk" 166 Y_C_answerFrom := Or.inl (jTab_in 495 (by decide +kernel) (by decide +kernel))
theorem ln_C_51 : jLnk "AuditDesk$Challenge" 51 Y_R_get := Or.inl (jTab_in 499 (by decide +kernel) (by decide +kernel))
theorem ln_C_56 : jLnk "AuditDesk$Challenge" 56 Y_F_times := Or.inl (jTab_in 500 (by decide +kernel) (by decide +kernel))
theorem ln_C_59 : jLnk "AuditDesk$Challenge" 59 Y_F_plus := Or.inl (jTab_in 501 (by decide +kernel) (by decide +kernel))
theorem ln_W_108 : jLnk "AuditDeskLaw" 108 Y_W_judge := Or.inl (jTab_in 502 (by decide +kernel) (by decide +kernel))
theorem lm_W_108 : Cond.methodLink "AuditDeskLaw" 108 (jyn Y_W_judge) ∈ jTab := jTab_in 502 (by decide +kernel) (by decide +kernel)
theorem ln_W_39 : jLnk "AuditDeskLaw" 39 Y_D_judge := Or.inl (jTab_in 505 (by decide +kernel) (by decide +kernel))
theorem lm_W_39 : Cond.methodLink "AuditDeskLaw" 39 (jyn Y_D_judge) ∈ jTab := jTab_in 505 (by decide +kernel) (by decide +kernel)
theorem ln_D_189 : jLnk "AuditDesk" 189 Y_C_holds := Or.inl (jTab_in 510 (by decide +kernel) (by decide +kernel))
theorem ln_W_112 : jLnk "AuditDeskLaw" 112 Y_W_locate := Or.inl (jTab_in 514 (by decide +kernel) (by decide +kernel))
theorem lm_W_112 : Cond.methodLink "AuditDeskLaw" 112 (jyn Y_W_locate) ∈ jTab := jTab_in 514 (by decide +kernel) (by decide +kernel)
theorem ln_W_43 : jLnk "AuditDeskLaw" 43 Y_D_locate := Or.inl (jTab_in 517 (by decide +kernel) (by decide +kernel))
theorem lm_W_43 : Cond.methodLink "AuditDeskLaw" 43 (jyn Y_D_locate) ∈ jTab := jTab_in 517 (by decide +kernel) (by decide +kernel)
theorem ln_D_207 : jLnk "AuditDesk" 207 Y_D_isGood := Or.inl (jTab_in 522 (by decide +kernel) (by decide +kernel))
theorem ln_D_241 : jLnk "AuditDesk" 241 Y_E_tagOf := Or.inl (jTab_in 526 (by decide +kernel) (by decide +kernel))
theorem ln_W_119 : jLnk "AuditDeskLaw" 119 Y_W_repair := Or.inl (jTab_in 527 (by decide +kernel) (by decide +kernel))
theorem lm_W_119 : Cond.methodLink "AuditDeskLaw" 119 (jyn Y_W_repair) ∈ jTab := jTab_in 527 (by decide +kernel) (by decide +kernel)
theorem ln_W_47 : jLnk "AuditDeskLaw" 47 Y_D_repair := Or.inl (jTab_in 530 (by decide +kernel) (by decide +kernel))
theorem lm_W_47 : Cond.methodLink "AuditDeskLaw" 47 (jyn Y_D_repair) ∈ jTab := jTab_in 530 (by decide +kernel) (by decide +kernel)
theorem ln_D_210 : jLnk "AuditDesk" 210 Y_D_gather := Or.inl (jTab_in 534 (by decide +kernel) (by decide +kernel))
theorem ln_D_244 : jLnk "AuditDesk" 244 Y_D_gatherGroup := Or.inl (jTab_in 538 (by decide +kernel) (by decide +kernel))
theorem ln_D_254 : jLnk "AuditDesk" 254 Y_D_leastGoodKeeper := Or.inl (jTab_in 542 (by decide +kernel) (by decide +kernel))
theorem ln_D_257 : jLnk "AuditDesk" 257 Y_R_takeRow := Or.inl (jTab_in 546 (by decide +kernel) (by decide +kernel))
theorem ln_D_247 : jLnk "AuditDesk" 247 Y_R_recover := Or.inl (jTab_in 547 (by decide +kernel) (by decide +kernel))
theorem ln_R_44 : jLnk "AuditDesk$Rows" 44 Y_R_nextMissing := Or.inl (jTab_in 551 (by decide +kernel) (by decide +kernel))
theorem ln_R_48 : jLnk "AuditDesk$Rows" 48 Y_R_clearRow := Or.inl (jTab_in 554 (by decide +kernel) (by decide +kernel))
theorem ln_R_52 : jLnk "AuditDesk$Rows" 52 Y_R_recoverOne := Or.inl (jTab_in 555 (by decide +kernel) (by decide +kernel))
theorem ln_R_58 : jLnk "AuditDesk$Rows" 58 Y_R_rest := Or.inl (jTab_in 559 (by decide +kernel) (by decide +kernel))
theorem ln_R_61 : jLnk "AuditDesk$Rows" 61 Y_F_minus := Or.inl (jTab_in 563 (by decide +kernel) (by decide +kernel))
theorem ln_R_55 : jLnk "AuditDesk$Rows" 55 Y_R_recoverTwo := Or.inl (jTab_in 566 (by decide +kernel) (by decide +kernel))
theorem ln_D_251 : jLnk "AuditDesk" 251 Y_E_complete := Or.inl (jTab_in 570 (by decide +kernel) (by decide +kernel))
theorem ln_W_122 : jLnk "AuditDeskLaw" 122 Y_W_fetch := Or.inl (jTab_in 572 (by decide +kernel) (by decide +kernel))
theorem lm_W_122 : Cond.methodLink "AuditDeskLaw" 122 (jyn Y_W_fetch) ∈ jTab := jTab_in 572 (by decide +kernel) (by decide +kernel)
theorem ln_W_50 : jLnk "AuditDeskLaw" 50 Y_D_fetch := Or.inl (jTab_in 575 (by decide +kernel) (by decide +kernel))
theorem lm_W_50 : Cond.methodLink "AuditDeskLaw" 50 (jyn Y_D_fetch) ∈ jTab := jTab_in 575 (by decide +kernel) (by decide +kernel)
theorem ln_D_226 : jLnk "AuditDesk" 226 Y_R_rowOfWord := Or.inl (jTab_in 580 (by decide +kernel) (by decide +kernel))
theorem ln_W_129 : jLnk "AuditDeskLaw" 129 Y_W_made := Or.inl (jTab_in 581 (by decide +kernel) (by decide +kernel))
theorem lm_W_129 : Cond.methodLink "AuditDeskLaw" 129 (jyn Y_W_made) ∈ jTab := jTab_in 581 (by decide +kernel) (by decide +kernel)
theorem ln_W_53 : jLnk "AuditDeskLaw" 53 Y_D_made := Or.inl (jTab_in 584 (by decide +kernel) (by decide +kernel))
theorem lm_W_53 : Cond.methodLink "AuditDeskLaw" 53 (jyn Y_D_made) ∈ jTab := jTab_in 584 (by decide +kernel) (by decide +kernel)
theorem ln_W_132 : jLnk "AuditDeskLaw" 132 Y_W_kept := Or.inl (jTab_in 589 (by decide +kernel) (by decide +kernel))
theorem lm_W_132 : Cond.methodLink "AuditDeskLaw" 132 (jyn Y_W_kept) ∈ jTab := jTab_in 589 (by decide +kernel) (by decide +kernel)
theorem ln_W_57 : jLnk "AuditDeskLaw" 57 Y_D_kept := Or.inl (jTab_in 592 (by decide +kernel) (by decide +kernel))
theorem lm_W_57 : Cond.methodLink "AuditDeskLaw" 57 (jyn Y_D_kept) ∈ jTab := jTab_in 592 (by decide +kernel) (by decide +kernel)
theorem ln_W_63 : jLnk "AuditDeskLaw" 63 Y_M_init := Or.inl (jTab_in 599 (by decide +kernel) (by decide +kernel))
theorem lm_W_63 : Cond.methodLink "AuditDeskLaw" 63 (jyn Y_M_init) ∈ jTab := jTab_in 599 (by decide +kernel) (by decide +kernel)
theorem lo_M : Cond.methodLink "AuditDeskModel" 1 Lib.objectInit ∈ jTab := jTab_in 602 (by decide +kernel) (by decide +kernel)
theorem ln_W_72 : jLnk "AuditDeskLaw" 72 Y_M_thrown := Or.inl (jTab_in 683 (by decide +kernel) (by decide +kernel))
theorem lm_W_72 : Cond.methodLink "AuditDeskLaw" 72 (jyn Y_M_thrown) ∈ jTab := jTab_in 683 (by decide +kernel) (by decide +kernel)
theorem ln_W_71 : jLnk "AuditDeskLaw" 71 Y_M_key := Or.inl (jTab_in 687 (by decide +kernel) (by decide +kernel))
theorem lm_W_71 : Cond.methodLink "AuditDeskLaw" 71 (jyn Y_M_key) ∈ jTab := jTab_in 687 (by decide +kernel) (by decide +kernel)
theorem ln_W_79 : jLnk "AuditDeskLaw" 79 Y_M_word := Or.inl (jTab_in 691 (by decide +kernel) (by decide +kernel))
theorem lm_W_79 : Cond.methodLink "AuditDeskLaw" 79 (jyn Y_M_word) ∈ jTab := jTab_in 691 (by decide +kernel) (by decide +kernel)
theorem ln_M_91 : jLnk "AuditDeskModel" 91 Y_M_isNumber := Or.inl (jTab_in 695 (by decide +kernel) (by decide +kernel))
theorem ln_W_83 : jLnk "AuditDeskLaw" 83 Y_M_file := Or.inl (jTab_in 699 (by decide +kernel) (by decide +kernel))
theorem lm_W_83 : Cond.methodLink "AuditDeskLaw" 83 (jyn Y_M_file) ∈ jTab := jTab_in 699 (by decide +kernel) (by decide +kernel)
theorem ln_M_111 : jLnk "AuditDeskModel" 111 Y_M_encode := Or.inl (jTab_in 703 (by decide +kernel) (by decide +kernel))
theorem ln_M_99 : jLnk "AuditDeskModel" 99 Y_M_rowsOf := Or.inl (jTab_in 707 (by decide +kernel) (by decide +kernel))
theorem ln_M_103 : jLnk "AuditDeskModel" 103 Y_M_over := Or.inl (jTab_in 711 (by decide +kernel) (by decide +kernel))
theorem ln_M_71 : jLnk "AuditDeskModel" 71 Y_M_power := Or.inl (jTab_in 715 (by decide +kernel) (by decide +kernel))
theorem ln_M_107 : jLnk "AuditDeskModel" 107 Y_M_tag := Or.inl (jTab_in 718 (by decide +kernel) (by decide +kernel))
theorem ln_M_95 : jLnk "AuditDeskModel" 95 Y_M_secret := Or.inl (jTab_in 722 (by decide +kernel) (by decide +kernel))
theorem ln_W_87 : jLnk "AuditDeskLaw" 87 Y_M_place := Or.inl (jTab_in 729 (by decide +kernel) (by decide +kernel))
theorem lm_W_87 : Cond.methodLink "AuditDeskLaw" 87 (jyn Y_M_place) ∈ jTab := jTab_in 729 (by decide +kernel) (by decide +kernel)
theorem ln_M_118 : jLnk "AuditDeskModel" 118 Y_M_isFile := Or.inl (jTab_in 733 (by decide +kernel) (by decide +kernel))
theorem ln_M_115 : jLnk "AuditDeskModel" 115 Y_M_isKeeper := Or.inl (jTab_in 737 (by decide +kernel) (by decide +kernel))
theorem ln_M_121 : jLnk "AuditDeskModel" 121 Y_M_put := Or.inl (jTab_in 740 (by decide +kernel) (by decide +kernel))
theorem ln_M_125 : jLnk "AuditDeskModel" 125 Y_M_spot := Or.inl (jTab_in 744 (by decide +kernel) (by decide +kernel))
theorem ln_M_129 : jLnk "AuditDeskModel" 129 Y_M_mark := Or.inl (jTab_in 747 (by decide +kernel) (by decide +kernel))
theorem ln_W_91 : jLnk "AuditDeskLaw" 91 Y_M_lose := Or.inl (jTab_in 750 (by decide +kernel) (by decide +kernel))
theorem lm_W_91 : Cond.methodLink "AuditDeskLaw" 91 (jyn Y_M_lose) ∈ jTab := jTab_in 750 (by decide +kernel) (by decide +kernel)
theorem ln_M_136 : jLnk "AuditDeskModel" 136 Y_M_isRow := Or.inl (jTab_in 754 (by decide +kernel) (by decide +kernel))
theorem ln_M_132 : jLnk "AuditDeskModel" 132 Y_M_holds := Or.inl (jTab_in 758 (by decide +kernel) (by decide +kernel))
theorem ln_W_95 : jLnk "AuditDeskLaw" 95 Y_M_change := Or.inl (jTab_in 762 (by decide +kernel) (by decide +kernel))
theorem lm_W_95 : Cond.methodLink "AuditDeskLaw" 95 (jyn Y_M_change) ∈ jTab := jTab_in 762 (by decide +kernel) (by decide +kernel)
theorem ln_W_99 : jLnk "AuditDeskLaw" 99 Y_M_challenge := Or.inl (jTab_in 766 (by decide +kernel) (by decide +kernel))
theorem lm_W_99 : Cond.methodLink "AuditDeskLaw" 99 (jyn Y_M_challenge) ∈ jTab := jTab_in 766 (by decide +kernel) (by decide +kernel)
theorem ln_M_150 : jLnk "AuditDeskModel" 150 Y_M_isAsked := Or.inl (jTab_in 771 (by decide +kernel) (by decide +kernel))
theorem ln_W_103 : jLnk "AuditDeskLaw" 103 Y_M_asked := Or.inl (jTab_in 776 (by decide +kernel) (by decide +kernel))
theorem lm_W_103 : Cond.methodLink "AuditDeskLaw" 103 (jyn Y_M_asked) ∈ jTab := jTab_in 776 (by decide +kernel) (by decide +kernel)
theorem ln_W_107 : jLnk "AuditDeskLaw" 107 Y_M_tamper := Or.inl (jTab_in 780 (by decide +kernel) (by decide +kernel))
theorem lm_W_107 : Cond.methodLink "AuditDeskLaw" 107 (jyn Y_M_tamper) ∈ jTab := jTab_in 780 (by decide +kernel) (by decide +kernel)
theorem ln_W_111 : jLnk "AuditDeskLaw" 111 Y_M_judge := Or.inl (jTab_in 784 (by decide +kernel) (by decide +kernel))
theorem lm_W_111 : Cond.methodLink "AuditDeskLaw" 111 (jyn Y_M_judge) ∈ jTab := jTab_in 784 (by decide +kernel) (by decide +kernel)
theorem ln_W_114 : jLnk "AuditDeskLaw" 114 Y_M_locate := Or.inl (jTab_in 788 (by decide +kernel) (by decide +kernel))
theorem lm_W_114 : Cond.methodLink "AuditDeskLaw" 114 (jyn Y_M_locate) ∈ jTab := jTab_in 788 (by decide +kernel) (by decide +kernel)
theorem ln_M_158 : jLnk "AuditDeskModel" 158 Y_M_isGood := Or.inl (jTab_in 792 (by decide +kernel) (by decide +kernel))
theorem ln_W_118 : jLnk "AuditDeskLaw" 118 Y_M_found := Or.inl (jTab_in 796 (by decide +kernel) (by decide +kernel))
theorem lm_W_118 : Cond.methodLink "AuditDeskLaw" 118 (jyn Y_M_found) ∈ jTab := jTab_in 796 (by decide +kernel) (by decide +kernel)
theorem ln_W_121 : jLnk "AuditDeskLaw" 121 Y_M_repair := Or.inl (jTab_in 800 (by decide +kernel) (by decide +kernel))
theorem lm_W_121 : Cond.methodLink "AuditDeskLaw" 121 (jyn Y_M_repair) ∈ jTab := jTab_in 800 (by decide +kernel) (by decide +kernel)
theorem ln_M_172 : jLnk "AuditDeskModel" 172 Y_M_gather := Or.inl (jTab_in 804 (by decide +kernel) (by decide +kernel))
theorem ln_M_161 : jLnk "AuditDeskModel" 161 Y_M_keeperOf := Or.inl (jTab_in 808 (by decide +kernel) (by decide +kernel))
theorem ln_M_165 : jLnk "AuditDeskModel" 165 Y_M_sum := Or.inl (jTab_in 812 (by decide +kernel) (by decide +kernel))
theorem ln_M_169 : jLnk "AuditDeskModel" 169 Y_M_solve := Or.inl (jTab_in 816 (by decide +kernel) (by decide +kernel))
theorem ln_M_175 : jLnk "AuditDeskModel" 175 Y_M_differs := Or.inl (jTab_in 820 (by decide +kernel) (by decide +kernel))
theorem ln_W_124 : jLnk "AuditDeskLaw" 124 Y_M_fetch := Or.inl (jTab_in 824 (by decide +kernel) (by decide +kernel))
theorem lm_W_124 : Cond.methodLink "AuditDeskLaw" 124 (jyn Y_M_fetch) ∈ jTab := jTab_in 824 (by decide +kernel) (by decide +kernel)
theorem ln_W_128 : jLnk "AuditDeskLaw" 128 Y_M_fetched := Or.inl (jTab_in 828 (by decide +kernel) (by decide +kernel))
theorem lm_W_128 : Cond.methodLink "AuditDeskLaw" 128 (jyn Y_M_fetched) ∈ jTab := jTab_in 828 (by decide +kernel) (by decide +kernel)
theorem ln_W_131 : jLnk "AuditDeskLaw" 131 Y_M_made := Or.inl (jTab_in 832 (by decide +kernel) (by decide +kernel))
theorem lm_W_131 : Cond.methodLink "AuditDeskLaw" 131 (jyn Y_M_made) ∈ jTab := jTab_in 832 (by decide +kernel) (by decide +kernel)
theorem ln_W_134 : jLnk "AuditDeskLaw" 134 Y_M_kept := Or.inl (jTab_in 836 (by decide +kernel) (by decide +kernel))
theorem lm_W_134 : Cond.methodLink "AuditDeskLaw" 134 (jyn Y_M_kept) ∈ jTab := jTab_in 836 (by decide +kernel) (by decide +kernel)
theorem ln_W_138 : jLnk "AuditDeskLaw" 138 Y_M_rota := Or.inl (jTab_in 840 (by decide +kernel) (by decide +kernel))
theorem lm_W_138 : Cond.methodLink "AuditDeskLaw" 138 (jyn Y_M_rota) ∈ jTab := jTab_in 840 (by decide +kernel) (by decide +kernel)
theorem ln_W_142 : jLnk "AuditDeskLaw" 142 Y_M_score := Or.inl (jTab_in 844 (by decide +kernel) (by decide +kernel))
theorem lm_W_142 : Cond.methodLink "AuditDeskLaw" 142 (jyn Y_M_score) ∈ jTab := jTab_in 844 (by decide +kernel) (by decide +kernel)
theorem im_obj : Cond.instanceMethod Lib.objectInit ∈ jTab := jTab_in 22 (by decide +kernel) (by decide +kernel)
theorem co_obj : Cond.code Lib.objectInit ⟨#[0xb1]⟩ 1 none ∈ jTab := jTab_in 23 (by decide +kernel) (by decide +kernel)
theorem sm_acp : Cond.static arraycopyName ∈ jTab := jTab_in 433 (by decide +kernel) (by decide +kernel)
theorem nt_acp : Cond.native arraycopyName ∈ jTab := jTab_in 434 (by decide +kernel) (by decide +kernel)
theorem lc_W_8 : Cond.classLink "AuditDeskLaw" 8 "AuditDesk" ∈ jTab := jTab_in 16 (by decide +kernel) (by decide +kernel)
theorem it_D : Cond.instantiable "AuditDesk" 13 ∈ jTab := jTab_in 17 (by decide +kernel) (by decide +kernel)
theorem lc_D_13 : Cond.classLink "AuditDesk" 13 "AuditDesk$Deposit" ∈ jTab := jTab_in 24 (by decide +kernel) (by decide +kernel)
theorem ao_E : Cond.arrayOver (.object "AuditDesk$Deposit") ∈ jTab := jTab_in 25 (by decide +kernel) (by decide +kernel)
theorem it_E : Cond.instantiable "AuditDesk$Deposit" 5 ∈ jTab := jTab_in 26 (by decide +kernel) (by decide +kernel)
theorem lc_E_18 : Cond.classLink "AuditDesk$Deposit" 18 "AuditDesk$Rows" ∈ jTab := jTab_in 31 (by decide +kernel) (by decide +kernel)
theorem it_R : Cond.instantiable "AuditDesk$Rows" 1 ∈ jTab := jTab_in 32 (by decide +kernel) (by decide +kernel)
theorem ac_int : Cond.arrayClass .int ∈ jTab := jTab_in 41 (by decide +kernel) (by decide +kernel)
theorem lc_D_20 : Cond.classLink "AuditDesk" 20 "AuditDesk$Keeper" ∈ jTab := jTab_in 63 (by decide +kernel) (by decide +kernel)
theorem ao_K : Cond.arrayOver (.object "AuditDesk$Keeper") ∈ jTab := jTab_in 64 (by decide +kernel) (by decide +kernel)
theorem it_K : Cond.instantiable "AuditDesk$Keeper" 4 ∈ jTab := jTab_in 65 (by decide +kernel) (by decide +kernel)
theorem lc_K_9 : Cond.classLink "AuditDesk$Keeper" 9 "AuditDesk$Copy" ∈ jTab := jTab_in 70 (by decide +kernel) (by decide +kernel)
theorem ao_Y : Cond.arrayOver (.object "AuditDesk$Copy") ∈ jTab := jTab_in 71 (by decide +kernel) (by decide +kernel)
theorem it_Y : Cond.instantiable "AuditDesk$Copy" 3 ∈ jTab := jTab_in 72 (by decide +kernel) (by decide +kernel)
theorem lc_Y_9 : Cond.classLink "AuditDesk$Copy" 9 "AuditDesk$Rows" ∈ jTab := jTab_in 77 (by decide +kernel) (by decide +kernel)
theorem ac_boolean : Cond.arrayClass .boolean ∈ jTab := jTab_in 92 (by decide +kernel) (by decide +kernel)
theorem lc_D_27 : Cond.classLink "AuditDesk" 27 "AuditDesk$Challenge" ∈ jTab := jTab_in 110 (by decide +kernel) (by decide +kernel)
theorem it_C : Cond.instantiable "AuditDesk$Challenge" 8 ∈ jTab := jTab_in 111 (by decide +kernel) (by decide +kernel)
theorem lc_D_40 : Cond.classLink "AuditDesk" 40 "AuditDesk$Rows" ∈ jTab := jTab_in 148 (by decide +kernel) (by decide +kernel)
theorem ct_F_9 : Cond.constant "AuditDesk$Field" 9 2147483647 ∈ jTab := jTab_in 197 (by decide +kernel) (by decide +kernel)
theorem ct_F_10 : Cond.constantLong "AuditDesk$Field" 10 2147483647 ∈ jTab := jTab_in 212 (by decide +kernel) (by decide +kernel)
theorem lc_W_13 : Cond.classLink "AuditDeskLaw" 13 "java/lang/IllegalStateException" ∈ jTab := jTab_in 247 (by decide +kernel) (by decide +kernel)
theorem lc_D_55 : Cond.classLink "AuditDesk" 55 "java/lang/IllegalStateException" ∈ jTab := jTab_in 252 (by decide +kernel) (by decide +kernel)
theorem it_ISE : Cond.instantiable "java/lang/IllegalStateException" 6 ∈ jTab := jTab_in 253 (by decide +kernel) (by decide +kernel)
theorem ca_ISE : Cond.castable "java/lang/IllegalStateException" "java/lang/IllegalStateException" ∈ jTab := jTab_in 254 (by decide +kernel) (by decide +kernel)
theorem it_Thr : Cond.instantiable "java/lang/Throwable" 6 ∈ jTab := jTab_in 291 (by decide +kernel) (by decide +kernel)
theorem ac_byte : Cond.arrayClass .byte ∈ jTab := jTab_in 319 (by decide +kernel) (by decide +kernel)
theorem lc_W_19 : Cond.classLink "AuditDeskLaw" 19 "java/lang/IllegalArgumentException" ∈ jTab := jTab_in 323 (by decide +kernel) (by decide +kernel)
theorem lc_D_75 : Cond.classLink "AuditDesk" 75 "java/lang/IllegalArgumentException" ∈ jTab := jTab_in 328 (by decide +kernel) (by decide +kernel)
theorem it_IAE : Cond.instantiable "java/lang/IllegalArgumentException" 6 ∈ jTab := jTab_in 329 (by decide +kernel) (by decide +kernel)
theorem ca_IAE : Cond.castable "java/lang/IllegalArgumentException" "java/lang/IllegalArgumentException" ∈ jTab := jTab_in 330 (by decide +kernel) (by decide +kernel)
theorem ct_F_12 : Cond.constantLong "AuditDesk$Field" 12 (-7046029254386353131) ∈ jTab := jTab_in 352 (by decide +kernel) (by decide +kernel)
theorem ct_F_14 : Cond.constantLong "AuditDesk$Field" 14 (-4658895280553007687) ∈ jTab := jTab_in 353 (by decide +kernel) (by decide +kernel)
theorem ct_F_16 : Cond.constantLong "AuditDesk$Field" 16 (-7723592293110705685) ∈ jTab := jTab_in 354 (by decide +kernel) (by decide +kernel)
theorem li_R_33 : Cond.fieldLink "AuditDesk$Rows" 33 "AuditDesk$Field" "INVERSES" "[I" ∈ jTab := jTab_in 382 (by decide +kernel) (by decide +kernel)
theorem lc_W_25 : Cond.classLink "AuditDeskLaw" 25 "java/lang/IndexOutOfBoundsException" ∈ jTab := jTab_in 399 (by decide +kernel) (by decide +kernel)
theorem lc_D_96 : Cond.classLink "AuditDesk" 96 "java/lang/IndexOutOfBoundsException" ∈ jTab := jTab_in 404 (by decide +kernel) (by decide +kernel)
theorem it_IOE : Cond.instantiable "java/lang/IndexOutOfBoundsException" 6 ∈ jTab := jTab_in 405 (by decide +kernel) (by decide +kernel)
theorem ca_IOE : Cond.castable "java/lang/IndexOutOfBoundsException" "java/lang/IndexOutOfBoundsException" ∈ jTab := jTab_in 406 (by decide +kernel) (by decide +kernel)
theorem ct_C_50 : Cond.constant "AuditDesk$Challenge" 50 1103515245 ∈ jTab := jTab_in 489 (by decide +kernel) (by decide +kernel)
theorem ct_C_49 : Cond.constant "AuditDesk$Challenge" 49 2147483646 ∈ jTab := jTab_in 494 (by decide +kernel) (by decide +kernel)
theorem lc_W_61 : Cond.classLink "AuditDeskLaw" 61 "AuditDeskModel" ∈ jTab := jTab_in 597 (by decide +kernel) (by decide +kernel)
theorem it_M : Cond.instantiable "AuditDeskModel" 26 ∈ jTab := jTab_in 598 (by decide +kernel) (by decide +kernel)
theorem ac_long : Cond.arrayClass .long ∈ jTab := jTab_in 682 (by decide +kernel) (by decide +kernel)
theorem ct_M_67 : Cond.constantLong "AuditDeskModel" 67 2147483647 ∈ jTab := jTab_in 698 (by decide +kernel) (by decide +kernel)
theorem ct_M_69 : Cond.constantLong "AuditDeskModel" 69 2147483645 ∈ jTab := jTab_in 714 (by decide +kernel) (by decide +kernel)
theorem ct_M_79 : Cond.constantLong "AuditDeskModel" 79 (-7046029254386353131) ∈ jTab := jTab_in 726 (by decide +kernel) (by decide +kernel)
theorem ct_M_81 : Cond.constantLong "AuditDeskModel" 81 (-4658895280553007687) ∈ jTab := jTab_in 727 (by decide +kernel) (by decide +kernel)
theorem ct_M_83 : Cond.constantLong "AuditDeskModel" 83 (-7723592293110705685) ∈ jTab := jTab_in 728 (by decide +kernel) (by decide +kernel)
theorem ct_M_149 : Cond.constant "AuditDeskModel" 149 1103515245 ∈ jTab := jTab_in 770 (by decide +kernel) (by decide +kernel)
theorem ct_M_153 : Cond.constantLong "AuditDeskModel" 153 2147483646 ∈ jTab := jTab_in 775 (by decide +kernel) (by decide +kernel)
theorem ct_W_64 : Cond.constantLong "AuditDeskLaw" 64 4294967295 ∈ jTab := jTab_in 848 (by decide +kernel) (by decide +kernel)
end
section
/-! rows for ints and longs that are small naturals -/
section JN
variable {f : jF} {lv : List (Nat × Value)} {w : jS} {pc : Nat} {st : List Value}
theorem n_iconst {i : Int} (hd : decode (jyc f.2.1) pc = .ok (.iconst i, 1)) (a : Nat) (hv : Int32.ofInt i = nI a) (kk : jJ f lv w (pc + 1) (.int (nI a) :: st)) : jJ f lv w pc st := j_iconst hd hv kk
theorem n_bipush {i : Int} (hd : decode (jyc f.2.1) pc = .ok (.bipush i, 2)) (a : Nat) (hv : (Int8.ofInt i).toInt32 = nI a) (kk : jJ f lv w (pc + 2) (.int (nI a) :: st)) : jJ f lv w pc st := j_bipush hd hv kk
theorem n_sipush {i : Int} (hd : decode (jyc f.2.1) pc = .ok (.sipush i, 3)) (a : Nat) (hv : (Int16.ofInt i).toInt32 = nI a) (kk : jJ f lv w (pc + 3) (.int (nI a) :: st)) : jJ f lv w pc st := j_sipush hd hv kk
theorem n_add {a b : Nat} (hd : decode (jyc f.2.1) pc = .ok (.iadd, 1)) (kk : jJ f lv w (pc + 1) (.int (nI (a + b)) :: st)) : jJ f lv w pc (.int (nI b) :: .int (nI a) :: st) := j_iadd hd (by rw [nI_add]; exact kk)
theorem n_sub {a b : Nat} (hd : decode (jyc f.2.1) pc = .ok (.isub, 1)) (h : b ≤ a) (kk : jJ f lv w (pc + 1) (.int (nI (a - b)) :: st)) : jJ f lv w pc (.int (nI b) :: .int (nI a) :: st) := j_isub hd (by rw [pk_sub h]; exact kk)
theorem n_mul {a b : Nat} (hd : decode (jyc f.2.1) pc = .ok (.imul, 1)) (kk : jJ f lv w (pc + 1) (.int (nI (a * b)) :: st)) : jJ f lv w pc (.int (nI b) :: .int (nI a) :: st) := j_imul hd (by rw [pk_mul]; exact kk)
theorem n_div {a b : Nat} (hd : decode (jyc f.2.1) pc = .ok (.idiv, 1)) (ha : a < 2 ^ 31) (h0 : 0 < b) (hb : b < 2 ^ 31) (kk : jJ f lv w (pc + 1) (.int (nI (a / b)) :: st)) : jJ f lv w pc (.int (nI b) :: .int (nI a) :: st) := j_idiv hd (nI_ne0 h0 hb) (by rw [pk_div ha h0 hb]; exact kk)
theorem n_rem {a b : Nat} (hd : decode (jyc f.2.1) pc = .ok (.irem, 1)) (ha : a < 2 ^ 31) (h0 : 0 < b) (hb : b < 2 ^ 31) (kk : jJ f lv w (pc + 1) (.int (nI (a % b)) :: st)) : jJ f lv w pc (.int (nI b) :: .int (nI a) :: st) := j_irem hd (nI_ne0 h0 hb) (by rw [pk_rem ha h0 hb]; exact kk)
theorem n_i2l {a : Nat} (hd : decode (jyc f.2.1) pc = .ok (.i2l, 1)) (ha : a < 2 ^ 31) (kk : jJ f lv w (pc + 1) (.long (lN a) :: st)) : jJ f lv w pc (.int (nI a) :: st) := j_i2l hd (nI_l ha) kk
theorem n_l2i {a : Nat} (hd : decode (jyc f.2.1) pc = .ok (.l2i, 1)) (kk : jJ f lv w (pc + 1) (.int (nI a) :: st)) : jJ f lv w pc (.long (lN a) :: st) := j_l2i hd (lN_i a) kk
theorem n_ladd {a b : Nat} (hd : decode (jyc f.2.1) pc = .ok (.ladd, 1)) (kk : jJ f lv w (pc + 1) (.long (lN (a + b)) :: st)) : jJ f lv w pc (.long (lN b) :: .long (lN a) :: st) := j_ladd hd (by rw [lN_add]; exact kk)
theorem n_lsub {a b : Nat} (hd : decode (jyc f.2.1) pc = .ok (.lsub, 1)) (h : b ≤ a) (kk : jJ f lv w (pc + 1) (.long (lN (a - b)) :: st)) : jJ f lv w pc (.long (lN b) :: .long (lN a) :: st) := j_lsub hd (by rw [lN_sub h]; exact kk)
theorem n_lmul {a b : Nat} (hd : decode (jyc f.2.1) pc = .ok (.lmul, 1)) (kk : jJ f lv w (pc + 1) (.long (lN (a * b)) :: st)) : jJ f lv w pc (.long (lN b) :: .long (lN a) :: st) := j_lmul hd (by rw [lN_mul]; exact kk)
theorem lN_ne0 {a : Nat} (h0 : 0 < a) (h : a < 2 ^ 63) : ¬ lN a = 0 := fun e => by
  have e2 : lN a = lN 0 := e
  have := (pk_lEQ h (by omega)).mp e2
  omega
theorem n_lrem {a b : Nat} (hd : decode (jyc f.2.1) pc = .ok (.lrem, 1)) (ha : a < 2 ^ 63) (h0 : 0 < b) (hb : b < 2 ^ 63) (kk : jJ f lv w (pc + 1) (.long (lN (a % b)) :: st)) : jJ f lv w pc (.long (lN b) :: .long (lN a) :: st) := j_lrem hd (lN_ne0 h0 hb) (by rw [pk_lRem ha h0 hb]; exact kk)
theorem n_icmp_eq {a b : Nat} {off : Int} (hd : decode (jyc f.2.1) pc = .ok (.if_icmp .eq off, 3)) (tgt : Nat) (ht : (pc : Int) + off = (tgt : Int)) (ha : a < 2 ^ 31) (hb : b < 2 ^ 31) (kt : a = b → jJ f lv w tgt st) (kf : ¬ a = b → jJ f lv w (pc + 3) st) : jJ f lv w pc (.int (nI b) :: .int (nI a) :: st) := j_icmp_eq hd tgt ht (fun h => kt ((nI_eq ha hb).mp h)) (fun h => kf (fun e => h (by rw [e])))
theorem n_icmp_ne {a b : Nat} {off : Int} (hd : decode (jyc f.2.1) pc = .ok (.if_icmp .ne off, 3)) (tgt : Nat) (ht : (pc : Int) + off = (tgt : Int)) (ha : a < 2 ^ 31) (hb : b < 2 ^ 31) (kt : ¬ a = b → jJ f lv w tgt st) (kf : a = b → jJ f lv w (pc + 3) st) : jJ f lv w pc (.int (nI b) :: .int (nI a) :: st) := j_icmp_ne hd tgt ht (fun h => kt (fun e => h (by rw [e]))) (fun h => kf ((nI_eq ha hb).mp h))
theorem n_icmp_lt {a b : Nat} {off : Int} (hd : decode (jyc f.2.1) pc = .ok (.if_icmp .lt off, 3)) (tgt : Nat) (ht : (pc : Int) + off = (tgt : Int)) (ha : a < 2 ^ 31) (hb : b < 2 ^ 31) (kt : a < b → jJ f lv w tgt st) (kf : b ≤ a → jJ f lv w (pc + 3) st) : jJ f lv w pc (.int (nI b) :: .int (nI a) :: st) := j_icmp_lt hd tgt ht (fun h => kt ((nI_ltI ha hb).mp h)) (fun h => kf (Nat.not_lt.mp fun e => h ((nI_ltI ha hb).mpr e)))
theorem n_icmp_ge {a b : Nat} {off : Int} (hd : decode (jyc f.2.1) pc = .ok (.if_icmp .ge off, 3)) (tgt : Nat) (ht : (pc : Int) + off = (tgt : Int)) (ha : a < 2 ^ 31) (hb : b < 2 ^ 31) (kt : b ≤ a → jJ f lv w tgt st) (kf : a < b → jJ f lv w (pc + 3) st) : jJ f lv w pc (.int (nI b) :: .int (nI a) :: st) := j_icmp_ge hd tgt ht (fun h => kt ((nI_leI hb ha).mp h)) (fun h => kf (Nat.not_le.mp fun e => h ((nI_leI hb ha).mpr e)))
theorem n_icmp_gt {a b : Nat} {off : Int} (hd : decode (jyc f.2.1) pc = .ok (.if_icmp .gt off, 3)) (tgt : Nat) (ht : (pc : Int) + off = (tgt : Int)) (ha : a < 2 ^ 31) (hb : b < 2 ^ 31) (kt : b < a → jJ f lv w tgt st) (kf : a ≤ b → jJ f lv w (pc + 3) st) : jJ f lv w pc (.int (nI b) :: .int (nI a) :: st) := j_icmp_gt hd tgt ht (fun h => kt ((nI_ltI hb ha).mp h)) (fun h => kf (Nat.not_lt.mp fun e => h ((nI_ltI hb ha).mpr e)))
theorem n_icmp_le {a b : Nat} {off : Int} (hd : decode (jyc f.2.1) pc = .ok (.if_icmp .le off, 3)) (tgt : Nat) (ht : (pc : Int) + off = (tgt : Int)) (ha : a < 2 ^ 31) (hb : b < 2 ^ 31) (kt : a ≤ b → jJ f lv w tgt st) (kf : b < a → jJ f lv w (pc + 3) st) : jJ f lv w pc (.int (nI b) :: .int (nI a) :: st) := j_icmp_le hd tgt ht (fun h => kt ((nI_leI ha hb).mp h)) (fun h => kf (Nat.not_le.mp fun e => h ((nI_leI ha hb).mpr e)))
theorem n_if_eq {a : Nat} {off : Int} (hd : decode (jyc f.2.1) pc = .ok (.ifCond .eq off, 3)) (tgt : Nat) (ht : (pc : Int) + off = (tgt : Int)) (ha : a < 2 ^ 31) (kt : a = 0 → jJ f lv w tgt st) (kf : ¬ a = 0 → jJ f lv w (pc + 3) st) : jJ f lv w pc (.int (nI a) :: st) := j_if_eq hd tgt ht (fun h => kt (Nat.eq_zero_of_not_pos fun e => nI_ne0 e ha h)) (fun h => kf (fun e => h (by rw [e]; rfl)))
theorem n_if_ne {a : Nat} {off : Int} (hd : decode (jyc f.2.1) pc = .ok (.ifCond .ne off, 3)) (tgt : Nat) (ht : (pc : Int) + off = (tgt : Int)) (ha : a < 2 ^ 31) (kt : ¬ a = 0 → jJ f lv w tgt st) (kf : a = 0 → jJ f lv w (pc + 3) st) : jJ f lv w pc (.int (nI a) :: st) := j_if_ne hd tgt ht (fun h => kt (fun e => h (by rw [e]; rfl))) (fun h => kf (Nat.eq_zero_of_not_pos fun e => nI_ne0 e ha h))
theorem n_ift_eq {a : Nat} {off : Int} (hd : decode (jyc f.2.1) pc = .ok (.ifCond .eq off, 3)) (tgt : Nat) (ht : (pc : Int) + off = (tgt : Int)) (ha : a = 0) (hb : a < 2 ^ 31) (kk : jJ f lv w tgt st) : jJ f lv w pc (.int (nI a) :: st) := j_if_eq hd tgt ht (fun _ => kk) (fun h => absurd (by rw [ha]; rfl) h)
theorem n_iff_eq {a : Nat} {off : Int} (hd : decode (jyc f.2.1) pc = .ok (.ifCond .eq off, 3)) (tgt : Nat) (ht : (pc : Int) + off = (tgt : Int)) (ha : 0 < a) (hb : a < 2 ^ 31) (kk : jJ f lv w (pc + 3) st) : jJ f lv w pc (.int (nI a) :: st) := j_if_eq hd tgt ht (fun h => absurd h (nI_ne0 ha hb)) (fun _ => kk)
theorem n_ift_ne {a : Nat} {off : Int} (hd : decode (jyc f.2.1) pc = .ok (.ifCond .ne off, 3)) (tgt : Nat) (ht : (pc : Int) + off = (tgt : Int)) (ha : 0 < a) (hb : a < 2 ^ 31) (kk : jJ f lv w tgt st) : jJ f lv w pc (.int (nI a) :: st) := j_if_ne hd tgt ht (fun _ => kk) (fun h => absurd h (nI_ne0 ha hb))
theorem n_iff_ne {a : Nat} {off : Int} (hd : decode (jyc f.2.1) pc = .ok (.ifCond .ne off, 3)) (tgt : Nat) (ht : (pc : Int) + off = (tgt : Int)) (ha : a = 0) (hb : a < 2 ^ 31) (kk : jJ f lv w (pc + 3) st) : jJ f lv w pc (.int (nI a) :: st) := j_if_ne hd tgt ht (fun h => absurd (by rw [ha]; rfl) h) (fun _ => kk)
theorem n_ift_lt {a : Nat} {off : Int} (hd : decode (jyc f.2.1) pc = .ok (.ifCond .lt off, 3)) (tgt : Nat) (ht : (pc : Int) + off = (tgt : Int)) (ha : False) (hb : a < 2 ^ 31) (kk : jJ f lv w tgt st) : jJ f lv w pc (.int (nI a) :: st) := j_if_lt hd tgt ht (fun _ => kk) (fun h => ha.elim)
theorem n_iff_lt {a : Nat} {off : Int} (hd : decode (jyc f.2.1) pc = .ok (.ifCond .lt off, 3)) (tgt : Nat) (ht : (pc : Int) + off = (tgt : Int)) (ha : a = a) (hb : a < 2 ^ 31) (kk : jJ f lv w (pc + 3) st) : jJ f lv w pc (.int (nI a) :: st) := j_if_lt hd tgt ht (fun h => absurd h (nI_pos hb)) (fun _ => kk)
theorem n_ift_ge {a : Nat} {off : Int} (hd : decode (jyc f.2.1) pc = .ok (.ifCond .ge off, 3)) (tgt : Nat) (ht : (pc : Int) + off = (tgt : Int)) (ha : a = a) (hb : a < 2 ^ 31) (kk : jJ f lv w tgt st) : jJ f lv w pc (.int (nI a) :: st) := j_if_ge hd tgt ht (fun _ => kk) (fun h => absurd (nI_pos' hb) h)
theorem n_iff_ge {a : Nat} {off : Int} (hd : decode (jyc f.2.1) pc = .ok (.ifCond .ge off, 3)) (tgt : Nat) (ht : (pc : Int) + off = (tgt : Int)) (ha : False) (hb : a < 2 ^ 31) (kk : jJ f lv w (pc + 3) st) : jJ f lv w pc (.int (nI a) :: st) := j_if_ge hd tgt ht (fun h => ha.elim) (fun _ => kk)
theorem n_ift_gt {a : Nat} {off : Int} (hd : decode (jyc f.2.1) pc = .ok (.ifCond .gt off, 3)) (tgt : Nat) (ht : (pc : Int) + off = (tgt : Int)) (ha : 0 < a) (hb : a < 2 ^ 31) (kk : jJ f lv w tgt st) : jJ f lv w pc (.int (nI a) :: st) := j_if_gt hd tgt ht (fun _ => kk) (fun h => absurd (by have := nI_lt ha hb; exact this) h)
theorem n_iff_gt {a : Nat} {off : Int} (hd : decode (jyc f.2.1) pc = .ok (.ifCond .gt off, 3)) (tgt : Nat) (ht : (pc : Int) + off = (tgt : Int)) (ha : a = 0) (hb : a < 2 ^ 31) (kk : jJ f lv w (pc + 3) st) : jJ f lv w pc (.int (nI a) :: st) := j_if_gt hd tgt ht (fun h => absurd h (by rw [ha]; decide)) (fun _ => kk)
theorem n_ift_le {a : Nat} {off : Int} (hd : decode (jyc f.2.1) pc = .ok (.ifCond .le off, 3)) (tgt : Nat) (ht : (pc : Int) + off = (tgt : Int)) (ha : a = 0) (hb : a < 2 ^ 31) (kk : jJ f lv w tgt st) : jJ f lv w pc (.int (nI a) :: st) := j_if_le hd tgt ht (fun _ => kk) (fun h => absurd (by rw [ha]; exact Int32.le_refl _) h)
theorem n_iff_le {a : Nat} {off : Int} (hd : decode (jyc f.2.1) pc = .ok (.ifCond .le off, 3)) (tgt : Nat) (ht : (pc : Int) + off = (tgt : Int)) (ha : 0 < a) (hb : a < 2 ^ 31) (kk : jJ f lv w (pc + 3) st) : jJ f lv w pc (.int (nI a) :: st) := j_if_le hd tgt ht (fun h => absurd h (nI_nle ha hb)) (fun _ => kk)
theorem n_iinc {i : Nat} {a : Nat} {z : Int} {lv' : List (Nat × Value)} (hd : decode (jyc f.2.1) pc = .ok (.iinc i z, 3)) (c : Nat) (hc : Int32.ofInt z = nI c) (k : Nat) (hk : lv[k]? = some (i, .int (nI a))) (hn : i < jyL f.2.1) (hv : (i, Value.int (nI (a + c))) :: lv.filter (fun q => !(q.1 == i) && !(q.1 + 1 == i && q.2.category == 2)) = lv') (kk : jJ f lv' w (pc + 3) st) : jJ f lv w pc st := j_iinc hd k hk (by rw [hc, nI_add]) hn hv kk
end JN
def jR (v : Option Value) (I : Nat → Nat → Int32) (L : Nat → Nat → Int64) : Option Value → (Nat → Nat → Int32) → (Nat → Nat → Int64) → Prop := fun v' I' L' => v' = v ∧ I' = I ∧ L' = L
theorem jR_rfl {v : Option Value} {I : Nat → Nat → Int32} {L : Nat → Nat → Int64} : jR v I L v I L := ⟨rfl, rfl, rfl⟩
end
section
/-! the rows over flat naturals: every int of the cells is nI of a natural -/
def jn (V : Nat → Nat → Nat) : Nat → Nat → Int32 := fun q j => nI (V q j)
def vu (V : Nat → Nat → Nat) (q j v : Nat) : Nat → Nat → Nat := fun a i => if a = q ∧ i = j then v else V a i
theorem jn_up (V : Nat → Nat → Nat) (q j v : Nat) : jup (jn V) q j (nI v) = jn (vu V q j v) := by
  funext a i
  unfold jup jn vu upd
  by_cases ha : a = q
  · subst ha
    by_cases hi : i = j
    · simp [hi]
    · simp [hi]
  · simp [ha]
theorem vu_eq (V : Nat → Nat → Nat) (q j v : Nat) : vu V q j v q j = v := by simp [vu]
theorem vu_ne (V : Nat → Nat → Nat) {q j a i : Nat} (v : Nat) (h : ¬ (a = q ∧ i = j)) : vu V q j v a i = V a i := if_neg h
theorem vu_nq (V : Nat → Nat → Nat) {q a : Nat} (j v : Nat) (h : a ≠ q) : vu V q j v a = V a := by
  funext i
  exact if_neg (fun z => h z.1)
def jv (f : jF) (V : Nat → Nat → Nat) (L : Nat → Nat → Int64) (k n : Nat) : jS := jw f (jn V) L k n
abbrev jΦ : Type := Option Value → (Nat → Nat → Nat) → (Nat → Nat → Int64) → Prop
def jVQ (g : jG) (φ : jΦ) : jQ := jCQ g (fun v I L => ∃ V, I = jn V ∧ φ v V L)
def jK (g : jG) (y : jY) (d : Nat × Nat) (as : List Value) (V : Nat → Nat → Nat) (L : Nat → Nat → Int64) (φ : jΦ) : Prop := jC g y d as (jn V) L (fun v I L => ∃ V, I = jn V ∧ φ v V L)
def jA0 (v : Option Value) (V : Nat → Nat → Nat) (L : Nat → Nat → Int64) : jΦ := fun v' V' L' => v = v' ∧ V = V' ∧ L = L'
theorem jA0_rfl {v : Option Value} {V : Nat → Nat → Nat} {L : Nat → Nat → Int64} : jA0 v V L v V L := ⟨rfl, rfl, rfl⟩
theorem jK.mono {g : jG} {y : jY} {d : Nat × Nat} {as : List Value} {V : Nat → Nat → Nat} {L : Nat → Nat → Int64} {φ ψ : jΦ} (h : jK g y d as V L φ) (hq : ∀ v V' L', φ v V' L' → ψ v V' L') : jK g y d as V L ψ :=
  jMet.mono h (fun r N' mu' x' ⟨v, I', L', ⟨V', e, h1⟩, h2⟩ => ⟨v, I', L', ⟨V', e, hq _ _ _ h1⟩, h2⟩)
theorem jK_entry {g : jG} {y : jY} {d : Nat × Nat} {as : List Value} {V : Nat → Nat → Nat} {L : Nat → Nat → Int64} {φ : jΦ} (hpl : plainName (jyn y).cls = true) (hown : (jyn y).cls = jyo y) (hlen : (lg_sl as).length ≤ jyL y)
    (hJ : jJ (g, y, d, 0, 0, jVQ g φ) (lv_args 0 as) (jv (g, y, d, 0, 0, jVQ g φ) V L 0 0) 0 []) : jK g y d as V L φ := j_entry hpl hown hlen hJ
theorem nar_b {v : Nat} (h : v ≤ 1) : narrow .boolean (.int (nI v)) = .int (nI v) := by
  match v, h with
  | 0, _ => rfl
  | 1, _ => rfl
theorem fit_b {v : Nat} (h : v ≤ 1) : fits .boolean (.int (nI v)) = true := by
  match v, h with
  | 0, _ => rfl
  | 1, _ => rfl
section JV
variable {f : jF} {lv : List (Nat × Value)} {k n : Nat} {V : Nat → Nat → Nat} {L : Nat → Nat → Int64} {pc : Nat} {st : List Value}
theorem v_getI {idx q ci kf : Nat} {fl : List Nat} (hd : decode (jyc f.2.1) pc = .ok (.getfield idx, 3)) (hF : jFld (jyo f.2.1) idx ci kf) (hs : jshp q = .inr (.inr (.inr (ci, fl)))) (hq : q < 104) (hk : fl[kf]? = some 0)
    (kk : jJ f lv (jv f V L k n) (pc + 3) (.int (nI (V q kf)) :: st)) : jJ f lv (jv f V L k n) pc (.ref (jb f.1 + q) :: st) := m_getI hd hF hs hq hk kk
theorem v_getL {idx q ci kf : Nat} {fl : List Nat} (hd : decode (jyc f.2.1) pc = .ok (.getfield idx, 3)) (hF : jFld (jyo f.2.1) idx ci kf) (hs : jshp q = .inr (.inr (.inr (ci, fl)))) (hq : q < 104) (hk : fl[kf]? = some 1)
    (kk : jJ f lv (jv f V L k n) (pc + 3) (.long (L q kf) :: st)) : jJ f lv (jv f V L k n) pc (.ref (jb f.1 + q) :: st) := m_getL hd hF hs hq hk kk
theorem v_getR {idx q ci kf a : Nat} {fl : List Nat} (hd : decode (jyc f.2.1) pc = .ok (.getfield idx, 3)) (hF : jFld (jyo f.2.1) idx ci kf) (hs : jshp q = .inr (.inr (.inr (ci, fl)))) (hq : q < 104) (hk : fl[kf]? = some (a + 2))
    (kk : jJ f lv (jv f V L k n) (pc + 3) (.ref (jb f.1 + a) :: st)) : jJ f lv (jv f V L k n) pc (.ref (jb f.1 + q) :: st) := m_getR hd hF hs hq hk kk
theorem v_putI {idx q ci kf v : Nat} {fl : List Nat} (hd : decode (jyc f.2.1) pc = .ok (.putfield idx, 3)) (hF : jFld (jyo f.2.1) idx ci kf) (hs : jshp q = .inr (.inr (.inr (ci, fl)))) (hq : q < 104) (hk : fl[kf]? = some 0) (hfin : jfin ci kf = false) (hn : narrow (jcty ci kf) (.int (nI v)) = .int (nI v)) (hfit : fits (jcty ci kf) (.int (nI v)) = true)
    (kk : jJ f lv (jv f (vu V q kf v) L k n) (pc + 3) st) : jJ f lv (jv f V L k n) pc (.int (nI v) :: .ref (jb f.1 + q) :: st) := by
  refine m_putI hd hF hs hq hk hfin hn hfit ?_
  rw [jn_up]
  exact kk
theorem v_putL {idx q ci kf : Nat} {fl : List Nat} {v : Int64} (hd : decode (jyc f.2.1) pc = .ok (.putfield idx, 3)) (hF : jFld (jyo f.2.1) idx ci kf) (hs : jshp q = .inr (.inr (.inr (ci, fl)))) (hq : q < 104) (hk : fl[kf]? = some 1) (hfin : jfin ci kf = false) (hn : narrow (jcty ci kf) (.long v) = .long v) (hfit : fits (jcty ci kf) (.long v) = true)
    (kk : jJ f lv (jv f V (jupL L q kf v) k n) (pc + 3) st) : jJ f lv (jv f V L k n) pc (.long v :: .ref (jb f.1 + q) :: st) := m_putL hd hF hs hq hk hfin hn hfit kk
theorem v_ild {q t na i : Nat} {z : Int32} (hd : decode (jyc f.2.1) pc = .ok (.iaload, 1)) (hs : jshp q = .inl (t, na)) (ht : jtyl[t]? = some .int) (hq : q < 104) (hz : z = nI i) (hi : i < na) (hna : na < 2 ^ 31)
    (kk : jJ f lv (jv f V L k n) (pc + 1) (.int (nI (V q i)) :: st)) : jJ f lv (jv f V L k n) pc (.int z :: .ref (jb f.1 + q) :: st) := m_ild hd hs ht hq hz hi hna kk
theorem v_zld {q t na i : Nat} {z : Int32} (hd : decode (jyc f.2.1) pc = .ok (.baload, 1)) (hs : jshp q = .inl (t, na)) (ht : jtyl[t]? = some .boolean) (hq : q < 104) (hz : z = nI i) (hi : i < na) (hna : na < 2 ^ 31)
    (kk : jJ f lv (jv f V L k n) (pc + 1) (.int (nI (V q i)) :: st)) : jJ f lv (jv f V L k n) pc (.int z :: .ref (jb f.1 + q) :: st) := m_zld hd hs ht hq hz hi hna kk
theorem v_lld {q t na i : Nat} {z : Int32} (hd : decode (jyc f.2.1) pc = .ok (.laload, 1)) (hs : jshp q = .inr (.inl (t, na))) (ht : jtyl[t]? = some .long) (hq : q < 104) (hz : z = nI i) (hi : i < na) (hna : na < 2 ^ 31)
    (kk : jJ f lv (jv f V L k n) (pc + 1) (.long (L q i) :: st)) : jJ f lv (jv f V L k n) pc (.int z :: .ref (jb f.1 + q) :: st) := m_lld hd hs ht hq hz hi hna kk
theorem v_ald {q t i a : Nat} {rs : List Nat} {Cn : String} {z : Int32} (hd : decode (jyc f.2.1) pc = .ok (.aaload, 1)) (hs : jshp q = .inr (.inr (.inl (t, rs)))) (ht : jtyl[t]? = some (.object Cn)) (hq : q < 104) (hz : z = nI i) (hr : rs[i]? = some a) (hna : rs.length < 2 ^ 31)
    (kk : jJ f lv (jv f V L k n) (pc + 1) (.ref (jb f.1 + a) :: st)) : jJ f lv (jv f V L k n) pc (.int z :: .ref (jb f.1 + q) :: st) := m_ald hd hs ht hq hz hr hna kk
theorem v_ist {q t na i v : Nat} {z : Int32} (hd : decode (jyc f.2.1) pc = .ok (.iastore, 1)) (hs : jshp q = .inl (t, na)) (ht : jtyl[t]? = some .int) (hq : q < 104) (hz : z = nI i) (hi : i < na) (hna : na < 2 ^ 31)
    (kk : jJ f lv (jv f (vu V q i v) L k n) (pc + 1) st) : jJ f lv (jv f V L k n) pc (.int (nI v) :: .int z :: .ref (jb f.1 + q) :: st) := by
  refine m_ist hd hs ht hq hz hi hna ?_
  rw [jn_up]
  exact kk
theorem v_zst {q t na i v : Nat} {z : Int32} (hd : decode (jyc f.2.1) pc = .ok (.bastore, 1)) (hs : jshp q = .inl (t, na)) (ht : jtyl[t]? = some .boolean) (hq : q < 104) (hz : z = nI i) (hi : i < na) (hna : na < 2 ^ 31) (hv : v ≤ 1)
    (kk : jJ f lv (jv f (vu V q i v) L k n) (pc + 1) st) : jJ f lv (jv f V L k n) pc (.int (nI v) :: .int z :: .ref (jb f.1 + q) :: st) := by
  refine m_zst hd hs ht hq hz hi hna (nar_b hv) ?_
  rw [jn_up]
  exact kk
theorem v_lst {q t na i : Nat} {z : Int32} {v : Int64} (hd : decode (jyc f.2.1) pc = .ok (.lastore, 1)) (hs : jshp q = .inr (.inl (t, na))) (ht : jtyl[t]? = some .long) (hq : q < 104) (hz : z = nI i) (hi : i < na) (hna : na < 2 ^ 31)
    (kk : jJ f lv (jv f V (jupL L q i v) k n) (pc + 1) st) : jJ f lv (jv f V L k n) pc (.long v :: .int z :: .ref (jb f.1 + q) :: st) := m_lst hd hs ht hq hz hi hna kk
theorem v_iret {v : Int32} {φ : jΦ} (hd : decode (jyc f.2.1) pc = .ok (.ireturn, 1)) (hr : jyr f.2.1 = some .int) (hk : k ≤ f.2.2.2.1) (hn : n ≤ f.2.2.2.2.1) (hf : f.2.2.2.2.2 = jVQ f.1 φ) (hφ : φ (some (.int v)) V L) : jJ f lv (jv f V L k n) pc [.int v] := m_iret hd hr hk hn hf ⟨V, rfl, hφ⟩
theorem v_zret {v : Nat} {φ : jΦ} (hd : decode (jyc f.2.1) pc = .ok (.ireturn, 1)) (hr : jyr f.2.1 = some .boolean) (hv : v ≤ 1) (hk : k ≤ f.2.2.2.1) (hn : n ≤ f.2.2.2.2.1) (hf : f.2.2.2.2.2 = jVQ f.1 φ) (hφ : φ (some (.int (nI v))) V L) : jJ f lv (jv f V L k n) pc [.int (nI v)] := m_zret hd hr (nar_b hv) hk hn hf ⟨V, rfl, hφ⟩
theorem v_lret {v : Int64} {φ : jΦ} (hd : decode (jyc f.2.1) pc = .ok (.lreturn, 1)) (hr : jyr f.2.1 = some .long) (hk : k ≤ f.2.2.2.1) (hn : n ≤ f.2.2.2.2.1) (hf : f.2.2.2.2.2 = jVQ f.1 φ) (hφ : φ (some (.long v)) V L) : jJ f lv (jv f V L k n) pc [.long v] := m_lret hd hr hk hn hf ⟨V, rfl, hφ⟩
theorem v_vret {φ : jΦ} (hd : decode (jyc f.2.1) pc = .ok (.return_, 1)) (hr : jyr f.2.1 = none) (hk : k ≤ f.2.2.2.1) (hn : n ≤ f.2.2.2.2.1) (hf : f.2.2.2.2.2 = jVQ f.1 φ) (hφ : φ none V L) : jJ f lv (jv f V L k n) pc [] := m_vret hd hr hk hn hf ⟨V, rfl, hφ⟩
/-- what stands on the stack behind a call -/
def jpu (v : Option Value) (r : List Value) : List Value := match v with
  | some x => x :: r
  | none => r
theorem v_callV {y' : jY} {d' : Nat × Nat} {na idx q ci : Nat} {as rest st0 : List Value} {fl : List Nat} {r : vw_C} {φ : jΦ} (hd : decode (jyc f.2.1) pc = .ok (.invokevirtual idx, 3)) (hm : jMth y' na) (hlk : jLnk (jyo f.2.1) idx y') (hin : Cond.instanceMethod (jyn y') ∈ jTab) (hse : Cond.selects (jyn y').cls (jyn y') (jyn y') ∈ jTab)
    (hs : jshp q = .inr (.inr (.inr (ci, fl)))) (hq : q < 104) (hcl : jcl[ci]? = some r) (hrn : r.1 = (jyn y').cls) (hR : d'.1 + 1 ≤ f.2.2.1.1 ∧ 8 + (jyL y' + 11) + d'.2 ≤ f.2.2.1.2) (hW : (rest.map fun v => v.category).sum ≤ 8) (hna : as.length = na) (hk : k ≤ f.2.2.2.1) (hn : n ≤ f.2.2.2.2.1)
    (hC : jK f.1 y' d' (.ref (jb f.1 + q) :: as) V L φ) (hst : st0 = as.reverse ++ .ref (jb f.1 + q) :: rest) (kk : ∀ v V' L', φ v V' L' → jJ f lv (jv f V' L' k n) (pc + 3) (jpu v rest)) : jJ f lv (jv f V L k n) pc st0 := by
  refine m_callV hd hm hlk hin hse hs hq hcl hrn hR hW hna hk hn hC hst ?_
  rintro v I' L' ⟨V', rfl, h⟩
  have h2 := kk v V' L' h
  cases v <;> exact h2
theorem v_callS {y' : jY} {d' : Nat × Nat} {na idx : Nat} {as rest st0 : List Value} {φ : jΦ} (hd : decode (jyc f.2.1) pc = .ok (.invokestatic idx, 3)) (hm : jMth y' na) (hlk : jLnk (jyo f.2.1) idx y') (hsta : Cond.static (jyn y') ∈ jTab)
    (hR : d'.1 + 1 ≤ f.2.2.1.1 ∧ 8 + (jyL y' + 11) + d'.2 ≤ f.2.2.1.2) (hW : (rest.map fun v => v.category).sum ≤ 8) (hna : as.length = na) (hk : k ≤ f.2.2.2.1) (hn : n ≤ f.2.2.2.2.1)
    (hC : jK f.1 y' d' as V L φ) (hst : st0 = as.reverse ++ rest) (kk : ∀ v V' L', φ v V' L' → jJ f lv (jv f V' L' k n) (pc + 3) (jpu v rest)) : jJ f lv (jv f V L k n) pc st0 := by
  refine m_callS hd hm hlk hsta hR hW hna hk hn hC hst ?_
  rintro v I' L' ⟨V', rfl, h⟩
  have h2 := kk v V' L' h
  cases v <;> exact h2
theorem v_copy {idx q0 q1 sp dp nn n0 n1 : Nat} {zs zd zn : Int32} (hd : decode (jyc f.2.1) pc = .ok (.invokestatic idx, 3)) (hl1 : Cond.methodLink (jyo f.2.1) idx arraycopyName ∈ jTab) (hl2 : Cond.native arraycopyName ∈ jTab) (hl3 : Cond.static arraycopyName ∈ jTab) (hl4 : Cond.initialized "java/lang/System" ∈ jTab)
    (h0 : jshp q0 = .inl (0, n0)) (hq0 : q0 < 104) (h1 : jshp q1 = .inl (0, n1)) (hq1 : q1 < 104) (hs : zs = nI sp) (hdp : zd = nI dp) (hnn : zn = nI nn) (b0 : n0 < 2 ^ 31) (b1 : n1 < 2 ^ 31) (h4 : sp + nn ≤ n0) (h5 : dp + nn ≤ n1)
    (hR : 1 ≤ f.2.2.1.1 ∧ 26 ≤ f.2.2.1.2) (hW : (st.map fun v => v.category).sum ≤ 8)
    (kk : jJ f lv (jv f (fun a i => if a = q1 ∧ dp ≤ i ∧ i < dp + nn then V q0 (sp + (i - dp)) else V a i) L k n) (pc + 3) st) : jJ f lv (jv f V L k n) pc (.int zn :: .int zd :: .ref (jb f.1 + q1) :: .int zs :: .ref (jb f.1 + q0) :: st) := by
  refine j_copy hd hl1 hl2 hl3 hl4 hq0 (jmem_I h0) hq1 (jmem_I h1) rfl hs hdp hnn b0 b1 h4 h5 hR hW ?_
  rw [jmem_up (I' := jn (fun a i => if a = q1 ∧ dp ≤ i ∧ i < dp + nn then V q0 (sp + (i - dp)) else V a i)) (L' := L) ?_ ?_ (fun _ _ => rfl)]
  · exact kk
  · rw [jmem_I h1]
    congr 4
    funext i
    show nI (if q1 = q1 ∧ dp ≤ i ∧ i < dp + nn then V q0 (sp + (i - dp)) else V q1 i) = (if dp ≤ i ∧ i < dp + nn then nI (V q0 (sp + (i - dp))) else nI (V q1 i))
    by_cases hi : dp ≤ i ∧ i < dp + nn
    · rw [if_pos ⟨rfl, hi⟩, if_pos hi]
    · rw [if_neg (fun z => hi z.2), if_neg hi]
  · intro a ha
    funext i
    show nI (if a = q1 ∧ dp ≤ i ∧ i < dp + nn then V q0 (sp + (i - dp)) else V a i) = nI (V a i)
    rw [if_neg (fun z => ha z.1)]
end JV
end
section
/-! AuditDesk.Field and the plain rows -/
def jPr : Nat := 2147483647
theorem c_F_has (g : jG) (V : Nat → Nat → Nat) (L : Nat → Nat → Int64) (v : Int32) : jK g Y_F_has (0, 0) [.int v] V L (jA0 (some (.int (nI (if 0 ≤ v ∧ v < 2147483647 then 1 else 0)))) V L) := by
  refine jK_entry (by decide +kernel) rfl (Nat.le_of_ble_eq_true rfl) ?_
  show jJ (g, Y_F_has, (0, 0), 0, 0, jVQ g (jA0 (some (.int (nI (if 0 ≤ v ∧ v < 2147483647 then 1 else 0)))) V L)) [(0, .int v)] (jv (g, Y_F_has, (0, 0), 0, 0, jVQ g (jA0 (some (.int (nI (if 0 ≤ v ∧ v < 2147483647 then 1 else 0)))) V L)) V L 0 0) 0 []
  refine j_iload_n d_F_has_0 rfl 0 rfl ?_
  refine j_if_lt d_F_has_1 14 rfl (fun h => ?_) (fun h => ?_)
  · rw [if_neg (fun q => absurd h (Int32.not_lt.mpr q.1))]
    refine n_iconst d_F_has_14 0 (by decide) ?_
    exact v_zret d_F_has_15 rfl (by omega) (Nat.zero_le _) (Nat.zero_le _) rfl jA0_rfl
  · refine j_iload_n d_F_has_4 rfl 0 rfl ?_
    refine j_ldc d_F_has_5 ct_F_9 ?_
    refine j_icmp_ge d_F_has_7 14 rfl (fun h2 => ?_) (fun h2 => ?_)
    · rw [if_neg (fun q => absurd q.2 (Int32.not_lt.mpr h2))]
      refine n_iconst d_F_has_14 0 (by decide) ?_
      exact v_zret d_F_has_15 rfl (by omega) (Nat.zero_le _) (Nat.zero_le _) rfl jA0_rfl
    · rw [if_pos ⟨Int32.not_lt.mp h, Int32.not_le.mp h2⟩]
      refine n_iconst d_F_has_10 1 (by decide) ?_
      refine j_goto d_F_has_11 15 rfl ?_
      exact v_zret d_F_has_15 rfl (by omega) (Nat.zero_le _) (Nat.zero_le _) rfl jA0_rfl
theorem c_F_plus (g : jG) (V : Nat → Nat → Nat) (L : Nat → Nat → Int64) (a b : Nat) (ha : a < 2147483648) (hb : b < 2147483648) : jK g Y_F_plus (0, 0) [.int (nI a), .int (nI b)] V L (jA0 (some (.int (nI ((a + b) % 2147483647)))) V L) := by
  refine jK_entry (by decide +kernel) rfl (Nat.le_of_ble_eq_true rfl) ?_
  show jJ (g, Y_F_plus, (0, 0), 0, 0, jVQ g (jA0 (some (.int (nI ((a + b) % 2147483647)))) V L)) [(0, .int (nI a)), (1, .int (nI b))] (jv (g, Y_F_plus, (0, 0), 0, 0, jVQ g (jA0 (some (.int (nI ((a + b) % 2147483647)))) V L)) V L 0 0) 0 []
  refine j_iload_n d_F_plus_0 rfl 0 rfl ?_
  refine n_i2l d_F_plus_1 (by omega) ?_
  refine j_iload_n d_F_plus_2 rfl 1 rfl ?_
  refine n_i2l d_F_plus_3 (by omega) ?_
  refine n_ladd d_F_plus_4 ?_
  refine j_ldc2 d_F_plus_5 ct_F_10 ?_
  rw [show (2147483647 : Int64) = lN 2147483647 from by decide]
  refine n_lrem d_F_plus_8 (by omega) (by omega) (by omega) ?_
  refine n_l2i d_F_plus_9 ?_
  exact v_iret d_F_plus_10 rfl (Nat.zero_le _) (Nat.zero_le _) rfl jA0_rfl
theorem c_F_times (g : jG) (V : Nat → Nat → Nat) (L : Nat → Nat → Int64) (a b : Nat) (ha : a < 2147483648) (hb : b < 2147483648) : jK g Y_F_times (0, 0) [.int (nI a), .int (nI b)] V L (jA0 (some (.int (nI (a * b % 2147483647)))) V L) := by
  refine jK_entry (by decide +kernel) rfl (Nat.le_of_ble_eq_true rfl) ?_
  show jJ (g, Y_F_times, (0, 0), 0, 0, jVQ g (jA0 (some (.int (nI (a * b % 2147483647)))) V L)) [(0, .int (nI a)), (1, .int (nI b))] (jv (g, Y_F_times, (0, 0), 0, 0, jVQ g (jA0 (some (.int (nI (a * b % 2147483647)))) V L)) V L 0 0) 0 []
  have hab : a * b < 2 ^ 63 := Nat.lt_of_le_of_lt (Nat.mul_le_mul (Nat.le_of_lt ha) (Nat.le_of_lt hb)) (by decide)
  refine j_iload_n d_F_times_0 rfl 0 rfl ?_
  refine n_i2l d_F_times_1 (by omega) ?_
  refine j_iload_n d_F_times_2 rfl 1 rfl ?_
  refine n_i2l d_F_times_3 (by omega) ?_
  refine n_lmul d_F_times_4 ?_
  refine j_ldc2 d_F_times_5 ct_F_10 ?_
  rw [show (2147483647 : Int64) = lN 2147483647 from by decide]
  refine n_lrem d_F_times_8 hab (by omega) (by omega) ?_
  refine n_l2i d_F_times_9 ?_
  exact v_iret d_F_times_10 rfl (Nat.zero_le _) (Nat.zero_le _) rfl jA0_rfl
theorem c_R_rowOfWord (g : jG) (V : Nat → Nat → Nat) (L : Nat → Nat → Int64) (i : Nat) (hi : i < 64) : jK g Y_R_rowOfWord (0, 0) [.int (nI i)] V L (jA0 (some (.int (nI (i / 16 * 6 + i % 16 / 4)))) V L) := by
  refine jK_entry (by decide +kernel) rfl (Nat.le_of_ble_eq_true rfl) ?_
  show jJ (g, Y_R_rowOfWord, (0, 0), 0, 0, jVQ g (jA0 (some (.int (nI (i / 16 * 6 + i % 16 / 4)))) V L)) [(0, .int (nI i))] (jv (g, Y_R_rowOfWord, (0, 0), 0, 0, jVQ g (jA0 (some (.int (nI (i / 16 * 6 + i % 16 / 4)))) V L)) V L 0 0) 0 []
  refine j_iload_n d_R_rowOfWord_0 rfl 0 rfl ?_
  refine n_bipush d_R_rowOfWord_1 16 (by decide) ?_
  refine n_div d_R_rowOfWord_3 (by omega) (by omega) (by omega) ?_
  refine n_bipush d_R_rowOfWord_4 6 (by decide) ?_
  refine n_mul d_R_rowOfWord_6 ?_
  refine j_iload_n d_R_rowOfWord_7 rfl 0 rfl ?_
  refine n_bipush d_R_rowOfWord_8 16 (by decide) ?_
  refine n_rem d_R_rowOfWord_10 (by omega) (by omega) (by omega) ?_
  refine n_iconst d_R_rowOfWord_11 4 (by decide) ?_
  refine n_div d_R_rowOfWord_12 (by omega) (by omega) (by omega) ?_
  refine n_add d_R_rowOfWord_13 ?_
  exact v_iret d_R_rowOfWord_14 rfl (Nat.zero_le _) (Nat.zero_le _) rfl jA0_rfl
theorem c_R_get (g : jG) (V : Nat → Nat → Nat) (L : Nat → Nat → Int64) (r : Nat) (hr : jshp r = jo 5 [(r + 1) + 2]) (hn : jshp (r + 1) = .inl (0, 120)) (hlt : r + 1 < 104) (row j : Nat) (hrow : row < 24) (hj : j < 5) : jK g Y_R_get (0, 0) [.ref (jb g + r), .int (nI row), .int (nI j)] V L (jA0 (some (.int (nI (V (r + 1) (row * 5 + j))))) V L) := by
  refine jK_entry (by decide +kernel) rfl (Nat.le_of_ble_eq_true rfl) ?_
  show jJ (g, Y_R_get, (0, 0), 0, 0, jVQ g (jA0 (some (.int (nI (V (r + 1) (row * 5 + j))))) V L)) [(0, .ref (jb g + r)), (1, .int (nI row)), (2, .int (nI j))] (jv (g, Y_R_get, (0, 0), 0, 0, jVQ g (jA0 (some (.int (nI (V (r + 1) (row * 5 + j))))) V L)) V L 0 0) 0 []
  refine j_aload_n d_R_get_0 rfl 0 rfl ?_
  refine v_getR d_R_get_1 lf_R_9 hr (Nat.lt_of_succ_lt hlt) rfl ?_
  refine j_iload_n d_R_get_4 rfl 1 rfl ?_
  refine n_iconst d_R_get_5 5 (by decide) ?_
  refine n_mul d_R_get_6 ?_
  refine j_iload_n d_R_get_7 rfl 2 rfl ?_
  refine n_add d_R_get_8 ?_
  refine v_ild d_R_get_9 hn rfl hlt rfl (by omega) (by omega) ?_
  exact v_iret d_R_get_10 rfl (Nat.zero_le _) (Nat.zero_le _) rfl jA0_rfl
theorem c_R_set (g : jG) (V : Nat → Nat → Nat) (L : Nat → Nat → Int64) (r : Nat) (hr : jshp r = jo 5 [(r + 1) + 2]) (hn : jshp (r + 1) = .inl (0, 120)) (hlt : r + 1 < 104) (row j : Nat) (hrow : row < 24) (hj : j < 5) (v : Nat) : jK g Y_R_set (0, 0) [.ref (jb g + r), .int (nI row), .int (nI j), .int (nI v)] V L (jA0 none (vu V (r + 1) (row * 5 + j) v) L) := by
  refine jK_entry (by decide +kernel) rfl (Nat.le_of_ble_eq_true rfl) ?_
  show jJ (g, Y_R_set, (0, 0), 0, 0, jVQ g (jA0 none (vu V (r + 1) (row * 5 + j) v) L)) [(0, .ref (jb g + r)), (1, .int (nI row)), (2, .int (nI j)), (3, .int (nI v))] (jv (g, Y_R_set, (0, 0), 0, 0, jVQ g (jA0 none (vu V (r + 1) (row * 5 + j) v) L)) V L 0 0) 0 []
  refine j_aload_n d_R_set_0 rfl 0 rfl ?_
  refine v_getR d_R_set_1 lf_R_9 hr (Nat.lt_of_succ_lt hlt) rfl ?_
  refine j_iload_n d_R_set_4 rfl 1 rfl ?_
  refine n_iconst d_R_set_5 5 (by decide) ?_
  refine n_mul d_R_set_6 ?_
  refine j_iload_n d_R_set_7 rfl 2 rfl ?_
  refine n_add d_R_set_8 ?_
  refine j_iload_n d_R_set_9 rfl 3 rfl ?_
  refine v_ist d_R_set_10 hn rfl hlt rfl (by omega) (by omega) ?_
  exact v_vret d_R_set_11 rfl (Nat.zero_le _) (Nat.zero_le _) rfl jA0_rfl
theorem c_F_minus (g : jG) (V : Nat → Nat → Nat) (L : Nat → Nat → Int64) (a b : Nat) (ha : a < 2147483647) (hb : b < 2147483647) : jK g Y_F_minus (0, 0) [.int (nI a), .int (nI b)] V L (jA0 (some (.int (nI ((a + 2147483647 - b) % 2147483647)))) V L) := by
  refine jK_entry (by decide +kernel) rfl (Nat.le_of_ble_eq_true rfl) ?_
  show jJ (g, Y_F_minus, (0, 0), 0, 0, jVQ g (jA0 (some (.int (nI ((a + 2147483647 - b) % 2147483647)))) V L)) [(0, .int (nI a)), (1, .int (nI b))] (jv (g, Y_F_minus, (0, 0), 0, 0, jVQ g (jA0 (some (.int (nI ((a + 2147483647 - b) % 2147483647)))) V L)) V L 0 0) 0 []
  refine j_iload_n d_F_minus_0 rfl 0 rfl ?_
  refine n_i2l d_F_minus_1 (by omega) ?_
  refine j_iload_n d_F_minus_2 rfl 1 rfl ?_
  refine n_i2l d_F_minus_3 (by omega) ?_
  refine j_lsub d_F_minus_4 ?_
  refine j_ldc2 d_F_minus_5 ct_F_10 ?_
  rw [show (2147483647 : Int64) = lN 2147483647 from by decide]
  refine j_ladd d_F_minus_8 ?_
  rw [show lN a - lN b + lN 2147483647 = lN (a + 2147483647 - b) from by rw [← lN_sub (show b ≤ a + 2147483647 by omega), ← lN_add, Int64.sub_eq_add_neg, Int64.sub_eq_add_neg, Int64.add_assoc, Int64.add_comm (-lN b), ← Int64.add_assoc]]
  refine j_ldc2 d_F_minus_9 ct_F_10 ?_
  rw [show (2147483647 : Int64) = lN 2147483647 from by decide]
  refine n_lrem d_F_minus_12 (by omega) (by omega) (by omega) ?_
  refine n_l2i d_F_minus_13 ?_
  exact v_iret d_F_minus_14 rfl (Nat.zero_le _) (Nat.zero_le _) rfl jA0_rfl
theorem c_R_takeRow (g : jG) (V : Nat → Nat → Nat) (L : Nat → Nat → Int64) (r : Nat) (hr : jshp r = jo 5 [(r + 1) + 2]) (hn : jshp (r + 1) = .inl (0, 120)) (hlt : r + 1 < 104) (r2 : Nat) (hr2 : jshp r2 = jo 5 [(r2 + 1) + 2]) (hn2 : jshp (r2 + 1) = .inl (0, 120)) (hlt2 : r2 + 1 < 104) (row : Nat) (hrow : row < 24) : jK g Y_R_takeRow (1, 48) [.ref (jb g + r), .ref (jb g + r2), .int (nI row)] V L (jA0 none (fun a i => if a = r + 1 ∧ row * 5 ≤ i ∧ i < row * 5 + 5 then V (r2 + 1) i else V a i) L) := by
  refine jK_entry (by decide +kernel) rfl (Nat.le_of_ble_eq_true rfl) ?_
  show jJ (g, Y_R_takeRow, (1, 48), 0, 0, jVQ g (jA0 none (fun a i => if a = r + 1 ∧ row * 5 ≤ i ∧ i < row * 5 + 5 then V (r2 + 1) i else V a i) L)) [(0, .ref (jb g + r)), (1, .ref (jb g + r2)), (2, .int (nI row))] (jv (g, Y_R_takeRow, (1, 48), 0, 0, jVQ g (jA0 none (fun a i => if a = r + 1 ∧ row * 5 ≤ i ∧ i < row * 5 + 5 then V (r2 + 1) i else V a i) L)) V L 0 0) 0 []
  refine j_aload_n d_R_takeRow_0 rfl 1 rfl ?_
  refine v_getR d_R_takeRow_1 lf_R_9 hr2 (Nat.lt_of_succ_lt hlt2) rfl ?_
  refine j_iload_n d_R_takeRow_4 rfl 2 rfl ?_
  refine n_iconst d_R_takeRow_5 5 (by decide) ?_
  refine n_mul d_R_takeRow_6 ?_
  refine j_aload_n d_R_takeRow_7 rfl 0 rfl ?_
  refine v_getR d_R_takeRow_8 lf_R_9 hr (Nat.lt_of_succ_lt hlt) rfl ?_
  refine j_iload_n d_R_takeRow_11 rfl 2 rfl ?_
  refine n_iconst d_R_takeRow_12 5 (by decide) ?_
  refine n_mul d_R_takeRow_13 ?_
  refine n_iconst d_R_takeRow_14 5 (by decide) ?_
  refine v_copy d_R_takeRow_15 lcp_R_15 nt_acp sm_acp iz_Sys hn2 hlt2 hn hlt rfl rfl rfl (by omega) (by omega) (by omega) (by omega) ⟨Nat.le_of_ble_eq_true rfl, Nat.le_of_ble_eq_true rfl⟩ (Nat.le_of_ble_eq_true rfl) ?_
  rw [show (fun a i => if a = r + 1 ∧ row * 5 ≤ i ∧ i < row * 5 + 5 then V (r2 + 1) (row * 5 + (i - row * 5)) else V a i) = (fun a i => if a = r + 1 ∧ row * 5 ≤ i ∧ i < row * 5 + 5 then V (r2 + 1) i else V a i) from by
    funext a i
    by_cases h : a = r + 1 ∧ row * 5 ≤ i ∧ i < row * 5 + 5
    · rw [if_pos h, if_pos h, show row * 5 + (i - row * 5) = i by omega]
    · rw [if_neg h, if_neg h]]
  exact v_vret d_R_takeRow_18 rfl (Nat.zero_le _) (Nat.zero_le _) rfl jA0_rfl
theorem c_R_clearRow (g : jG) (V : Nat → Nat → Nat) (L : Nat → Nat → Int64) (r : Nat) (hr : jshp r = jo 5 [(r + 1) + 2]) (hn : jshp (r + 1) = .inl (0, 120)) (hlt : r + 1 < 104) (row : Nat) (hrow : row < 24) : jK g Y_R_clearRow (1, 23) [.ref (jb g + r), .int (nI row)] V L (jA0 none (fun a i => if a = r + 1 ∧ row * 5 ≤ i ∧ i < row * 5 + 5 then 0 else V a i) L) := by
  refine jK_entry (by decide +kernel) rfl (Nat.le_of_ble_eq_true rfl) ?_
  show jJ (g, Y_R_clearRow, (1, 23), 0, 0, jVQ g (jA0 none (fun a i => if a = r + 1 ∧ row * 5 ≤ i ∧ i < row * 5 + 5 then 0 else V a i) L)) [(0, .ref (jb g + r)), (1, .int (nI row))] (jv (g, Y_R_clearRow, (1, 23), 0, 0, jVQ g (jA0 none (fun a i => if a = r + 1 ∧ row * 5 ≤ i ∧ i < row * 5 + 5 then 0 else V a i) L)) V L 0 0) 0 []
  refine n_iconst d_R_clearRow_0 0 (by decide) ?_
  refine j_istore_n d_R_clearRow_1 (i := 2) rfl (Nat.le_of_ble_eq_true rfl) (lv' := [_, _, _]) rfl ?_
  refine j_lv [1, 2, 0] rfl ?_
  generalize hφ : jA0 none (fun a i => if a = r + 1 ∧ row * 5 ≤ i ∧ i < row * 5 + 5 then 0 else V a i) L = φ
  have loop : ∀ (m j : Nat), j + m = 5 → jJ (g, Y_R_clearRow, (1, 23), 0, 0, jVQ g φ) [(0, .ref (jb g + r)), (1, .int (nI row)), (2, .int (nI j))] (jv (g, Y_R_clearRow, (1, 23), 0, 0, jVQ g φ) (fun a i => if a = r + 1 ∧ row * 5 ≤ i ∧ i < row * 5 + j then 0 else V a i) L 0 0) 2 [] := by
    intro m
    induction m with
    | zero =>
      intro j hj
      obtain rfl : j = 5 := by omega
      refine j_iload_n d_R_clearRow_2 rfl 2 rfl ?_
      refine n_iconst d_R_clearRow_3 5 (by decide) ?_
      refine n_icmp_ge d_R_clearRow_4 20 rfl (by omega) (by omega) (fun h => ?_) (fun h => ?_)
      · subst hφ
        exact v_vret d_R_clearRow_20 rfl (Nat.zero_le _) (Nat.zero_le _) rfl jA0_rfl
      · exact absurd h (by omega)
    | succ m ih =>
      intro j hj
      refine j_iload_n d_R_clearRow_2 rfl 2 rfl ?_
      refine n_iconst d_R_clearRow_3 5 (by decide) ?_
      refine n_icmp_ge d_R_clearRow_4 20 rfl (by omega) (by omega) (fun h => ?_) (fun h => ?_)
      · exact absurd h (by omega)
      · refine j_aload_n d_R_clearRow_7 rfl 0 rfl ?_
        refine j_iload_n d_R_clearRow_8 rfl 1 rfl ?_
        refine j_iload_n d_R_clearRow_9 rfl 2 rfl ?_
        refine n_iconst d_R_clearRow_10 0 (by decide) ?_
        refine v_callV d_R_clearRow_11 mt_R_set ln_R_21 im_R_set se_R_set hr (Nat.lt_of_succ_lt hlt) rfl rfl ⟨Nat.le_of_ble_eq_true rfl, Nat.le_of_ble_eq_true rfl⟩ (Nat.le_of_ble_eq_true rfl) rfl (Nat.zero_le _) (Nat.zero_le _) (c_R_set g _ L r hr hn hlt row j hrow (by omega) 0) rfl ?_
        rintro _ _ _ ⟨rfl, rfl, rfl⟩
        refine n_iinc d_R_clearRow_14 1 (by decide) 2 rfl (Nat.le_of_ble_eq_true rfl) (lv' := [_, _, _]) rfl ?_
        refine j_goto d_R_clearRow_17 2 rfl ?_
        refine j_lv [1, 2, 0] rfl ?_
        rw [show vu (fun a i => if a = r + 1 ∧ row * 5 ≤ i ∧ i < row * 5 + j then 0 else V a i) (r + 1) (row * 5 + j) 0 = (fun a i => if a = r + 1 ∧ row * 5 ≤ i ∧ i < row * 5 + (j + 1) then 0 else V a i) from by
          funext a i
          simp only [vu]
          by_cases h1 : a = r + 1 ∧ i = row * 5 + j
          · rw [if_pos h1, if_pos (by omega)]
          · rw [if_neg h1]
            by_cases h2 : a = r + 1 ∧ row * 5 ≤ i ∧ i < row * 5 + j
            · rw [if_pos h2, if_pos (by omega)]
            · rw [if_neg h2, if_neg (by omega)]]
        exact ih (j + 1) (by omega)
  have h0 := loop 5 0 (by omega)
  rw [show (fun a i => if a = r + 1 ∧ row * 5 ≤ i ∧ i < row * 5 + 0 then 0 else V a i) = V from by
    funext a i
    rw [if_neg (by omega)]] at h0
  exact h0
end
section
/-! AuditDesk.Rows: the coded words and their rests; loops of four and five are laid out -/
def jinvN (j : Nat) : Nat := match j with
  | 0 => 0
  | 1 => 1
  | 2 => 1073741824
  | 3 => 1431655765
  | 4 => 536870912
  | _ => 858993459
theorem jinv_N (j : Nat) : jinv j = nI (jinvN j) := by
  match j with
  | 0 => decide
  | 1 => decide
  | 2 => decide
  | 3 => decide
  | 4 => decide
  | n + 5 =>
    show (858993459 : Int32) = nI 858993459
    decide
theorem jinvN_lt (j : Nat) : jinvN j < 2147483647 := by
  unfold jinvN
  split <;> omega
theorem v_inv {f : jF} {lv : List (Nat × Value)} {w : jS} {pc : Nat} {st : List Value} {i : Nat} {z : Int32} (hd : decode (jyc f.2.1) pc = .ok (.iaload, 1)) (hz' : z = nI i) (hi : i < 6) (kk : jJ f lv w (pc + 1) (.int (nI (jinvN i)) :: st)) : jJ f lv w pc (.int z :: .ref (jaI f.1) :: st) :=
  j_inv hd hz' hi (by rw [jinv_N]; exact kk)
def fpl (a b : Nat) : Nat := (a + b) % 2147483647
def fti (a b : Nat) : Nat := a * b % 2147483647
def fmi (a b : Nat) : Nat := (a + 2147483647 - b) % 2147483647
theorem fpl_lt (a b : Nat) : fpl a b < 2147483647 := Nat.mod_lt _ (by omega)
theorem fti_lt (a b : Nat) : fti a b < 2147483647 := Nat.mod_lt _ (by omega)
theorem fmi_lt (a b : Nat) : fmi a b < 2147483647 := Nat.mod_lt _ (by omega)
/-- the coded word c of four words -/
def cwd (x : Nat → Nat) (c : Nat) : Nat := fpl (fpl (fpl (fpl 0 (fti (x 0) (jinvN (4 + c - 0)))) (fti (x 1) (jinvN (4 + c - 1)))) (fti (x 2) (jinvN (4 + c - 2)))) (fti (x 3) (jinvN (4 + c - 3)))
theorem cwd_eq {x y : Nat → Nat} (c : Nat) (h : ∀ q, q < 4 → x q = y q) : cwd x c = cwd y c := by
  unfold cwd
  rw [h 0 (by omega), h 1 (by omega), h 2 (by omega), h 3 (by omega)]
theorem cwd_lt (x : Nat → Nat) (c : Nat) : cwd x c < 2147483647 := fpl_lt _ _
theorem c_F_pl (g : jG) (V : Nat → Nat → Nat) (L : Nat → Nat → Int64) (a b : Nat) (ha : a < 2147483648) (hb : b < 2147483648) : jK g Y_F_plus (0, 0) [.int (nI a), .int (nI b)] V L (jA0 (some (.int (nI (fpl a b)))) V L) := c_F_plus g V L a b ha hb
theorem c_F_ti (g : jG) (V : Nat → Nat → Nat) (L : Nat → Nat → Int64) (a b : Nat) (ha : a < 2147483648) (hb : b < 2147483648) : jK g Y_F_times (0, 0) [.int (nI a), .int (nI b)] V L (jA0 (some (.int (nI (fti a b)))) V L) := c_F_times g V L a b ha hb
theorem c_F_mi (g : jG) (V : Nat → Nat → Nat) (L : Nat → Nat → Int64) (a b : Nat) (ha : a < 2147483647) (hb : b < 2147483647) : jK g Y_F_minus (0, 0) [.int (nI a), .int (nI b)] V L (jA0 (some (.int (nI (fmi a b)))) V L) := c_F_minus g V L a b ha hb
theorem c_R_codedWord (g : jG) (V : Nat → Nat → Nat) (L : Nat → Nat → Int64) (r : Nat) (hr : jshp r = jo 5 [(r + 1) + 2]) (hn : jshp (r + 1) = .inl (0, 120)) (hlt : r + 1 < 104) (first c j : Nat) (hf : first + 6 ≤ 24) (hc : c < 2) (hj : j < 4) (hV : ∀ i, i < 120 → V (r + 1) i < 2147483647) : jK g Y_R_codedWord (1, 22) [.ref (jb g + r), .int (nI first), .int (nI c), .int (nI j)] V L (jA0 (some (.int (nI (cwd (fun q => V (r + 1) ((first + q) * 5 + j)) c)))) V L) := by
  refine jK_entry (by decide +kernel) rfl (Nat.le_of_ble_eq_true rfl) ?_
  show jJ (g, Y_R_codedWord, (1, 22), 0, 0, jVQ g (jA0 (some (.int (nI (cwd (fun q => V (r + 1) ((first + q) * 5 + j)) c)))) V L)) [(0, .ref (jb g + r)), (1, .int (nI first)), (2, .int (nI c)), (3, .int (nI j))] (jv (g, Y_R_codedWord, (1, 22), 0, 0, jVQ g (jA0 (some (.int (nI (cwd (fun q => V (r + 1) ((first + q) * 5 + j)) c)))) V L)) V L 0 0) 0 []
  refine n_iconst d_R_codedWord_0 0 (by decide) ?_
  refine j_istore d_R_codedWord_1 (i := 4) (Nat.le_of_ble_eq_true rfl) (lv' := [_, _, _, _, _]) rfl ?_
  refine n_iconst d_R_codedWord_3 0 (by decide) ?_
  refine j_istore d_R_codedWord_4 (i := 5) (Nat.le_of_ble_eq_true rfl) (lv' := [_, _, _, _, _, _]) rfl ?_
  refine j_iload d_R_codedWord_6 0 rfl ?_
  refine n_iconst d_R_codedWord_8 4 (by decide) ?_
  refine n_icmp_ge d_R_codedWord_9 47 rfl (by omega) (by omega) (fun h => absurd h (by omega)) (fun h => ?_)
  refine j_iload d_R_codedWord_12 1 rfl ?_
  refine j_aload_n d_R_codedWord_14 rfl 2 rfl ?_
  refine j_iload_n d_R_codedWord_15 rfl 3 rfl ?_
  refine j_iload d_R_codedWord_16 0 rfl ?_
  refine n_add d_R_codedWord_18 ?_
  refine j_iload_n d_R_codedWord_19 rfl 5 rfl ?_
  refine v_callV d_R_codedWord_20 mt_R_get ln_R_25 im_R_get se_R_get hr (Nat.lt_of_succ_lt hlt) rfl rfl ⟨Nat.le_of_ble_eq_true rfl, Nat.le_of_ble_eq_true rfl⟩ (Nat.le_of_ble_eq_true rfl) rfl (Nat.zero_le _) (Nat.zero_le _) (c_R_get g V L r hr hn hlt (first + 0) j (by omega) (by omega)) rfl ?_
  rintro _ _ _ ⟨rfl, rfl, rfl⟩
  refine j_gets d_R_codedWord_23 li_R_33 ?_
  refine n_iconst d_R_codedWord_26 4 (by decide) ?_
  refine j_iload_n d_R_codedWord_27 rfl 4 rfl ?_
  refine n_add d_R_codedWord_28 ?_
  refine j_iload d_R_codedWord_29 0 rfl ?_
  refine n_sub d_R_codedWord_31 (by omega) ?_
  refine v_inv d_R_codedWord_32 rfl (by omega) ?_
  refine v_callS d_R_codedWord_33 mt_F_times ln_R_38 sm_F_times ⟨Nat.le_of_ble_eq_true rfl, Nat.le_of_ble_eq_true rfl⟩ (Nat.le_of_ble_eq_true rfl) rfl (Nat.zero_le _) (Nat.zero_le _) (c_F_ti g V L (V (r + 1) ((first + 0) * 5 + j)) (jinvN (4 + c - 0)) (Nat.lt_of_lt_of_le (hV _ (by omega)) (by decide)) (Nat.lt_of_lt_of_le (jinvN_lt _) (by decide))) rfl ?_
  rintro _ _ _ ⟨rfl, rfl, rfl⟩
  refine v_callS d_R_codedWord_36 mt_F_plus ln_R_41 sm_F_plus ⟨Nat.le_of_ble_eq_true rfl, Nat.le_of_ble_eq_true rfl⟩ (Nat.le_of_ble_eq_true rfl) rfl (Nat.zero_le _) (Nat.zero_le _) (c_F_pl g V L 0 (fti (V (r + 1) ((first + 0) * 5 + j)) (jinvN (4 + c - 0))) (by decide) (Nat.lt_of_lt_of_le (fti_lt _ _) (by decide))) rfl ?_
  rintro _ _ _ ⟨rfl, rfl, rfl⟩
  refine j_istore d_R_codedWord_39 (i := 4) (Nat.le_of_ble_eq_true rfl) (lv' := [_, _, _, _, _, _]) rfl ?_
  refine n_iinc d_R_codedWord_41 1 (by decide) 1 rfl (Nat.le_of_ble_eq_true rfl) (lv' := [(5, .int (nI 1)), _, _, _, _, _]) rfl ?_
  refine j_goto d_R_codedWord_44 6 rfl ?_
  refine j_iload d_R_codedWord_6 0 rfl ?_
  refine n_iconst d_R_codedWord_8 4 (by decide) ?_
  refine n_icmp_ge d_R_codedWord_9 47 rfl (by omega) (by omega) (fun h => absurd h (by omega)) (fun h => ?_)
  refine j_iload d_R_codedWord_12 1 rfl ?_
  refine j_aload_n d_R_codedWord_14 rfl 2 rfl ?_
  refine j_iload_n d_R_codedWord_15 rfl 3 rfl ?_
  refine j_iload d_R_codedWord_16 0 rfl ?_
  refine n_add d_R_codedWord_18 ?_
  refine j_iload_n d_R_codedWord_19 rfl 5 rfl ?_
  refine v_callV d_R_codedWord_20 mt_R_get ln_R_25 im_R_get se_R_get hr (Nat.lt_of_succ_lt hlt) rfl rfl ⟨Nat.le_of_ble_eq_true rfl, Nat.le_of_ble_eq_true rfl⟩ (Nat.le_of_ble_eq_true rfl) rfl (Nat.zero_le _) (Nat.zero_le _) (c_R_get g V L r hr hn hlt (first + 1) j (by omega) (by omega)) rfl ?_
  rintro _ _ _ ⟨rfl, rfl, rfl⟩
  refine j_gets d_R_codedWord_23 li_R_33 ?_
  refine n_iconst d_R_codedWord_26 4 (by decide) ?_
  refine j_iload_n d_R_codedWord_27 rfl 4 rfl ?_
  refine n_add d_R_codedWord_28 ?_
  refine j_iload d_R_codedWord_29 0 rfl ?_
  refine n_sub d_R_codedWord_31 (by omega) ?_
  refine v_inv d_R_codedWord_32 rfl (by omega) ?_
  refine v_callS d_R_codedWord_33 mt_F_times ln_R_38 sm_F_times ⟨Nat.le_of_ble_eq_true rfl, Nat.le_of_ble_eq_true rfl⟩ (Nat.le_of_ble_eq_true rfl) rfl (Nat.zero_le _) (Nat.zero_le _) (c_F_ti g V L (V (r + 1) ((first + 1) * 5 + j)) (jinvN (4 + c - 1)) (Nat.lt_of_lt_of_le (hV _ (by omega)) (by decide)) (Nat.lt_of_lt_of_le (jinvN_lt _) (by decide))) rfl ?_
  rintro _ _ _ ⟨rfl, rfl, rfl⟩
  refine v_callS d_R_codedWord_36 mt_F_plus ln_R_41 sm_F_plus ⟨Nat.le_of_ble_eq_true rfl, Nat.le_of_ble_eq_true rfl⟩ (Nat.le_of_ble_eq_true rfl) rfl (Nat.zero_le _) (Nat.zero_le _) (c_F_pl g V L (fpl 0 (fti (V (r + 1) ((first + 0) * 5 + j)) (jinvN (4 + c - 0)))) (fti (V (r + 1) ((first + 1) * 5 + j)) (jinvN (4 + c - 1))) (Nat.lt_of_lt_of_le (fpl_lt _ _) (by decide)) (Nat.lt_of_lt_of_le (fti_lt _ _) (by decide))) rfl ?_
  rintro _ _ _ ⟨rfl, rfl, rfl⟩
  refine j_istore d_R_codedWord_39 (i := 4) (Nat.le_of_ble_eq_true rfl) (lv' := [_, _, _, _, _, _]) rfl ?_
  refine n_iinc d_R_codedWord_41 1 (by decide) 1 rfl (Nat.le_of_ble_eq_true rfl) (lv' := [(5, .int (nI 2)), _, _, _, _, _]) rfl ?_
  refine j_goto d_R_codedWord_44 6 rfl ?_
  refine j_iload d_R_codedWord_6 0 rfl ?_
  refine n_iconst d_R_codedWord_8 4 (by decide) ?_
  refine n_icmp_ge d_R_codedWord_9 47 rfl (by omega) (by omega) (fun h => absurd h (by omega)) (fun h => ?_)
  refine j_iload d_R_codedWord_12 1 rfl ?_
  refine j_aload_n d_R_codedWord_14 rfl 2 rfl ?_
  refine j_iload_n d_R_codedWord_15 rfl 3 rfl ?_
  refine j_iload d_R_codedWord_16 0 rfl ?_
  refine n_add d_R_codedWord_18 ?_
  refine j_iload_n d_R_codedWord_19 rfl 5 rfl ?_
  refine v_callV d_R_codedWord_20 mt_R_get ln_R_25 im_R_get se_R_get hr (Nat.lt_of_succ_lt hlt) rfl rfl ⟨Nat.le_of_ble_eq_true rfl, Nat.le_of_ble_eq_true rfl⟩ (Nat.le_of_ble_eq_true rfl) rfl (Nat.zero_le _) (Nat.zero_le _) (c_R_get g V L r hr hn hlt (first + 2) j (by omega) (by omega)) rfl ?_
  rintro _ _ _ ⟨rfl, rfl, rfl⟩
  refine j_gets d_R_codedWord_23 li_R_33 ?_
  refine n_iconst d_R_codedWord_26 4 (by decide) ?_
  refine j_iload_n d_R_codedWord_27 rfl 4 rfl ?_
  refine n_add d_R_codedWord_28 ?_
  refine j_iload d_R_codedWord_29 0 rfl ?_
  refine n_sub d_R_codedWord_31 (by omega) ?_
  refine v_inv d_R_codedWord_32 rfl (by omega) ?_
  refine v_callS d_R_codedWord_33 mt_F_times ln_R_38 sm_F_times ⟨Nat.le_of_ble_eq_true rfl, Nat.le_of_ble_eq_true rfl⟩ (Nat.le_of_ble_eq_true rfl) rfl (Nat.zero_le _) (Nat.zero_le _) (c_F_ti g V L (V (r + 1) ((first + 2) * 5 + j)) (jinvN (4 + c - 2)) (Nat.lt_of_lt_of_le (hV _ (by omega)) (by decide)) (Nat.lt_of_lt_of_le (jinvN_lt _) (by decide))) rfl ?_
  rintro _ _ _ ⟨rfl, rfl, rfl⟩
  refine v_callS d_R_codedWord_36 mt_F_plus ln_R_41 sm_F_plus ⟨Nat.le_of_ble_eq_true rfl, Nat.le_of_ble_eq_true rfl⟩ (Nat.le_of_ble_eq_true rfl) rfl (Nat.zero_le _) (Nat.zero_le _) (c_F_pl g V L (fpl (fpl 0 (fti (V (r + 1) ((first + 0) * 5 + j)) (jinvN (4 + c - 0)))) (fti (V (r + 1) ((first + 1) * 5 + j)) (jinvN (4 + c - 1)))) (fti (V (r + 1) ((first + 2) * 5 + j)) (jinvN (4 + c - 2))) (Nat.lt_of_lt_of_le (fpl_lt _ _) (by decide)) (Nat.lt_of_lt_of_le (fti_lt _ _) (by decide))) rfl ?_
  rintro _ _ _ ⟨rfl, rfl, rfl⟩
  refine j_istore d_R_codedWord_39 (i := 4) (Nat.le_of_ble_eq_true rfl) (lv' := [_, _, _, _, _, _]) rfl ?_
  refine n_iinc d_R_codedWord_41 1 (by decide) 1 rfl (Nat.le_of_ble_eq_true rfl) (lv' := [(5, .int (nI 3)), _, _, _, _, _]) rfl ?_
  refine j_goto d_R_codedWord_44 6 rfl ?_
  refine j_iload d_R_codedWord_6 0 rfl ?_
  refine n_iconst d_R_codedWord_8 4 (by decide) ?_
  refine n_icmp_ge d_R_codedWord_9 47 rfl (by omega) (by omega) (fun h => absurd h (by omega)) (fun h => ?_)
  refine j_iload d_R_codedWord_12 1 rfl ?_
  refine j_aload_n d_R_codedWord_14 rfl 2 rfl ?_
  refine j_iload_n d_R_codedWord_15 rfl 3 rfl ?_
  refine j_iload d_R_codedWord_16 0 rfl ?_
  refine n_add d_R_codedWord_18 ?_
  refine j_iload_n d_R_codedWord_19 rfl 5 rfl ?_
  refine v_callV d_R_codedWord_20 mt_R_get ln_R_25 im_R_get se_R_get hr (Nat.lt_of_succ_lt hlt) rfl rfl ⟨Nat.le_of_ble_eq_true rfl, Nat.le_of_ble_eq_true rfl⟩ (Nat.le_of_ble_eq_true rfl) rfl (Nat.zero_le _) (Nat.zero_le _) (c_R_get g V L r hr hn hlt (first + 3) j (by omega) (by omega)) rfl ?_
  rintro _ _ _ ⟨rfl, rfl, rfl⟩
  refine j_gets d_R_codedWord_23 li_R_33 ?_
  refine n_iconst d_R_codedWord_26 4 (by decide) ?_
  refine j_iload_n d_R_codedWord_27 rfl 4 rfl ?_
  refine n_add d_R_codedWord_28 ?_
  refine j_iload d_R_codedWord_29 0 rfl ?_
  refine n_sub d_R_codedWord_31 (by omega) ?_
  refine v_inv d_R_codedWord_32 rfl (by omega) ?_
  refine v_callS d_R_codedWord_33 mt_F_times ln_R_38 sm_F_times ⟨Nat.le_of_ble_eq_true rfl, Nat.le_of_ble_eq_true rfl⟩ (Nat.le_of_ble_eq_true rfl) rfl (Nat.zero_le _) (Nat.zero_le _) (c_F_ti g V L (V (r + 1) ((first + 3) * 5 + j)) (jinvN (4 + c - 3)) (Nat.lt_of_lt_of_le (hV _ (by omega)) (by decide)) (Nat.lt_of_lt_of_le (jinvN_lt _) (by decide))) rfl ?_
  rintro _ _ _ ⟨rfl, rfl, rfl⟩
  refine v_callS d_R_codedWord_36 mt_F_plus ln_R_41 sm_F_plus ⟨Nat.le_of_ble_eq_true rfl, Nat.le_of_ble_eq_true rfl⟩ (Nat.le_of_ble_eq_true rfl) rfl (Nat.zero_le _) (Nat.zero_le _) (c_F_pl g V L (fpl (fpl (fpl 0 (fti (V (r + 1) ((first + 0) * 5 + j)) (jinvN (4 + c - 0)))) (fti (V (r + 1) ((first + 1) * 5 + j)) (jinvN (4 + c - 1)))) (fti (V (r + 1) ((first + 2) * 5 + j)) (jinvN (4 + c - 2)))) (fti (V (r + 1) ((first + 3) * 5 + j)) (jinvN (4 + c - 3))) (Nat.lt_of_lt_of_le (fpl_lt _ _) (by decide)) (Nat.lt_of_lt_of_le (fti_lt _ _) (by decide))) rfl ?_
  rintro _ _ _ ⟨rfl, rfl, rfl⟩
  refine j_istore d_R_codedWord_39 (i := 4) (Nat.le_of_ble_eq_true rfl) (lv' := [_, _, _, _, _, _]) rfl ?_
  refine n_iinc d_R_codedWord_41 1 (by decide) 1 rfl (Nat.le_of_ble_eq_true rfl) (lv' := [(5, .int (nI 4)), _, _, _, _, _]) rfl ?_
  refine j_goto d_R_codedWord_44 6 rfl ?_
  refine j_iload d_R_codedWord_6 0 rfl ?_
  refine n_iconst d_R_codedWord_8 4 (by decide) ?_
  refine n_icmp_ge d_R_codedWord_9 47 rfl (by omega) (by omega) (fun h => ?_) (fun h => absurd h (by omega))
  refine j_iload d_R_codedWord_47 1 rfl ?_
  exact v_iret d_R_codedWord_49 rfl (Nat.zero_le _) (Nat.zero_le _) rfl jA0_rfl
theorem c_R_rest (g : jG) (V : Nat → Nat → Nat) (L : Nat → Nat → Int64) (r : Nat) (hr : jshp r = jo 5 [(r + 1) + 2]) (hn : jshp (r + 1) = .inl (0, 120)) (hlt : r + 1 < 104) (first c j : Nat) (hf : first + 6 ≤ 24) (hc : c < 2) (hj : j < 4) (hV : ∀ i, i < 120 → V (r + 1) i < 2147483647) : jK g Y_R_rest (2, 47) [.ref (jb g + r), .int (nI first), .int (nI c), .int (nI j)] V L (jA0 (some (.int (nI (fmi (V (r + 1) ((first + 4 + c) * 5 + j)) (cwd (fun q => V (r + 1) ((first + q) * 5 + j)) c))))) V L) := by
  refine jK_entry (by decide +kernel) rfl (Nat.le_of_ble_eq_true rfl) ?_
  show jJ (g, Y_R_rest, (2, 47), 0, 0, jVQ g (jA0 (some (.int (nI (fmi (V (r + 1) ((first + 4 + c) * 5 + j)) (cwd (fun q => V (r + 1) ((first + q) * 5 + j)) c))))) V L)) [(0, .ref (jb g + r)), (1, .int (nI first)), (2, .int (nI c)), (3, .int (nI j))] (jv (g, Y_R_rest, (2, 47), 0, 0, jVQ g (jA0 (some (.int (nI (fmi (V (r + 1) ((first + 4 + c) * 5 + j)) (cwd (fun q => V (r + 1) ((first + q) * 5 + j)) c))))) V L)) V L 0 0) 0 []
  refine j_aload_n d_R_rest_0 rfl 0 rfl ?_
  refine j_iload_n d_R_rest_1 rfl 1 rfl ?_
  refine n_iconst d_R_rest_2 4 (by decide) ?_
  refine n_add d_R_rest_3 ?_
  refine j_iload_n d_R_rest_4 rfl 2 rfl ?_
  refine n_add d_R_rest_5 ?_
  refine j_iload_n d_R_rest_6 rfl 3 rfl ?_
  refine v_callV d_R_rest_7 mt_R_get ln_R_25 im_R_get se_R_get hr (Nat.lt_of_succ_lt hlt) rfl rfl ⟨Nat.le_of_ble_eq_true rfl, Nat.le_of_ble_eq_true rfl⟩ (Nat.le_of_ble_eq_true rfl) rfl (Nat.zero_le _) (Nat.zero_le _) (c_R_get g V L r hr hn hlt (first + 4 + c) j (by omega) (by omega)) rfl ?_
  rintro _ _ _ ⟨rfl, rfl, rfl⟩
  refine j_aload_n d_R_rest_10 rfl 0 rfl ?_
  refine j_iload_n d_R_rest_11 rfl 1 rfl ?_
  refine j_iload_n d_R_rest_12 rfl 2 rfl ?_
  refine j_iload_n d_R_rest_13 rfl 3 rfl ?_
  refine v_callV d_R_rest_14 mt_R_codedWord ln_R_29 im_R_codedWord se_R_codedWord hr (Nat.lt_of_succ_lt hlt) rfl rfl ⟨Nat.le_of_ble_eq_true rfl, Nat.le_of_ble_eq_true rfl⟩ (Nat.le_of_ble_eq_true rfl) rfl (Nat.zero_le _) (Nat.zero_le _) (c_R_codedWord g V L r hr hn hlt first c j hf hc hj hV) rfl ?_
  rintro _ _ _ ⟨rfl, rfl, rfl⟩
  refine v_callS d_R_rest_17 mt_F_minus ln_R_61 sm_F_minus ⟨Nat.le_of_ble_eq_true rfl, Nat.le_of_ble_eq_true rfl⟩ (Nat.le_of_ble_eq_true rfl) rfl (Nat.zero_le _) (Nat.zero_le _) (c_F_mi g V L _ _ (hV _ (by omega)) (cwd_lt _ _)) rfl ?_
  rintro _ _ _ ⟨rfl, rfl, rfl⟩
  exact v_iret d_R_rest_20 rfl (Nat.zero_le _) (Nat.zero_le _) rfl jA0_rfl
theorem c_R_sameRow (g : jG) (V : Nat → Nat → Nat) (L : Nat → Nat → Int64) (r : Nat) (hr : jshp r = jo 5 [(r + 1) + 2]) (hn : jshp (r + 1) = .inl (0, 120)) (hlt : r + 1 < 104) (r2 : Nat) (hr2 : jshp r2 = jo 5 [(r2 + 1) + 2]) (hn2 : jshp (r2 + 1) = .inl (0, 120)) (hlt2 : r2 + 1 < 104) (row : Nat) (hrow : row < 24) (hV : ∀ i, i < 120 → V (r + 1) i < 2147483648) (hV2 : ∀ i, i < 120 → V (r2 + 1) i < 2147483648) : jK g Y_R_sameRow (1, 22) [.ref (jb g + r), .ref (jb g + r2), .int (nI row)] V L (jA0 (some (.int (nI (if V (r + 1) (row * 5 + 0) = V (r2 + 1) (row * 5 + 0) ∧ V (r + 1) (row * 5 + 1) = V (r2 + 1) (row * 5 + 1) ∧ V (r + 1) (row * 5 + 2) = V (r2 + 1) (row * 5 + 2) ∧ V (r + 1) (row * 5 + 3) = V (r2 + 1) (row * 5 + 3) ∧ V (r + 1) (row * 5 + 4) = V (r2 + 1) (row * 5 + 4) then 1 else 0)))) V L) := by
  refine jK_entry (by decide +kernel) rfl (Nat.le_of_ble_eq_true rfl) ?_
  show jJ (g, Y_R_sameRow, (1, 22), 0, 0, jVQ g (jA0 (some (.int (nI (if V (r + 1) (row * 5 + 0) = V (r2 + 1) (row * 5 + 0) ∧ V (r + 1) (row * 5 + 1) = V (r2 + 1) (row * 5 + 1) ∧ V (r + 1) (row * 5 + 2) = V (r2 + 1) (row * 5 + 2) ∧ V (r + 1) (row * 5 + 3) = V (r2 + 1) (row * 5 + 3) ∧ V (r + 1) (row * 5 + 4) = V (r2 + 1) (row * 5 + 4) then 1 else 0)))) V L)) [(0, .ref (jb g + r)), (1, .ref (jb g + r2)), (2, .int (nI row))] (jv (g, Y_R_sameRow, (1, 22), 0, 0, jVQ g (jA0 (some (.int (nI (if V (r + 1) (row * 5 + 0) = V (r2 + 1) (row * 5 + 0) ∧ V (r + 1) (row * 5 + 1) = V (r2 + 1) (row * 5 + 1) ∧ V (r + 1) (row * 5 + 2) = V (r2 + 1) (row * 5 + 2) ∧ V (r + 1) (row * 5 + 3) = V (r2 + 1) (row * 5 + 3) ∧ V (r + 1) (row * 5 + 4) = V (r2 + 1) (row * 5 + 4) then 1 else 0)))) V L)) V L 0 0) 0 []
  refine n_iconst d_R_sameRow_0 0 (by decide) ?_
  refine j_istore_n d_R_sameRow_1 (i := 3) rfl (Nat.le_of_ble_eq_true rfl) (lv' := [_, _, _, _]) rfl ?_
  refine j_iload_n d_R_sameRow_2 rfl 0 rfl ?_
  refine n_iconst d_R_sameRow_3 5 (by decide) ?_
  refine n_icmp_ge d_R_sameRow_4 30 rfl (by omega) (by omega) (fun h => absurd h (by omega)) (fun h => ?_)
  refine j_aload_n d_R_sameRow_7 rfl 1 rfl ?_
  refine j_iload_n d_R_sameRow_8 rfl 3 rfl ?_
  refine j_iload_n d_R_sameRow_9 rfl 0 rfl ?_
  refine v_callV d_R_sameRow_10 mt_R_get ln_R_25 im_R_get se_R_get hr (Nat.lt_of_succ_lt hlt) rfl rfl ⟨Nat.le_of_ble_eq_true rfl, Nat.le_of_ble_eq_true rfl⟩ (Nat.le_of_ble_eq_true rfl) rfl (Nat.zero_le _) (Nat.zero_le _) (c_R_get g V L r hr hn hlt row 0 hrow (by omega)) rfl ?_
  rintro _ _ _ ⟨rfl, rfl, rfl⟩
  refine j_aload_n d_R_sameRow_13 rfl 2 rfl ?_
  refine j_iload_n d_R_sameRow_14 rfl 3 rfl ?_
  refine j_iload_n d_R_sameRow_15 rfl 0 rfl ?_
  refine v_callV d_R_sameRow_16 mt_R_get ln_R_25 im_R_get se_R_get hr2 (Nat.lt_of_succ_lt hlt2) rfl rfl ⟨Nat.le_of_ble_eq_true rfl, Nat.le_of_ble_eq_true rfl⟩ (Nat.le_of_ble_eq_true rfl) rfl (Nat.zero_le _) (Nat.zero_le _) (c_R_get g V L r2 hr2 hn2 hlt2 row 0 hrow (by omega)) rfl ?_
  rintro _ _ _ ⟨rfl, rfl, rfl⟩
  refine n_icmp_eq d_R_sameRow_19 24 rfl (hV _ (by omega)) (hV2 _ (by omega)) (fun h0 => ?_) (fun h0 => ?_)
  · refine n_iinc d_R_sameRow_24 1 (by decide) 0 rfl (Nat.le_of_ble_eq_true rfl) (lv' := [(3, .int (nI 1)), _, _, _]) rfl ?_
    refine j_goto d_R_sameRow_27 2 rfl ?_
    refine j_iload_n d_R_sameRow_2 rfl 0 rfl ?_
    refine n_iconst d_R_sameRow_3 5 (by decide) ?_
    refine n_icmp_ge d_R_sameRow_4 30 rfl (by omega) (by omega) (fun h => absurd h (by omega)) (fun h => ?_)
    refine j_aload_n d_R_sameRow_7 rfl 1 rfl ?_
    refine j_iload_n d_R_sameRow_8 rfl 3 rfl ?_
    refine j_iload_n d_R_sameRow_9 rfl 0 rfl ?_
    refine v_callV d_R_sameRow_10 mt_R_get ln_R_25 im_R_get se_R_get hr (Nat.lt_of_succ_lt hlt) rfl rfl ⟨Nat.le_of_ble_eq_true rfl, Nat.le_of_ble_eq_true rfl⟩ (Nat.le_of_ble_eq_true rfl) rfl (Nat.zero_le _) (Nat.zero_le _) (c_R_get g V L r hr hn hlt row 1 hrow (by omega)) rfl ?_
    rintro _ _ _ ⟨rfl, rfl, rfl⟩
    refine j_aload_n d_R_sameRow_13 rfl 2 rfl ?_
    refine j_iload_n d_R_sameRow_14 rfl 3 rfl ?_
    refine j_iload_n d_R_sameRow_15 rfl 0 rfl ?_
    refine v_callV d_R_sameRow_16 mt_R_get ln_R_25 im_R_get se_R_get hr2 (Nat.lt_of_succ_lt hlt2) rfl rfl ⟨Nat.le_of_ble_eq_true rfl, Nat.le_of_ble_eq_true rfl⟩ (Nat.le_of_ble_eq_true rfl) rfl (Nat.zero_le _) (Nat.zero_le _) (c_R_get g V L r2 hr2 hn2 hlt2 row 1 hrow (by omega)) rfl ?_
    rintro _ _ _ ⟨rfl, rfl, rfl⟩
    refine n_icmp_eq d_R_sameRow_19 24 rfl (hV _ (by omega)) (hV2 _ (by omega)) (fun h1 => ?_) (fun h1 => ?_)
    · refine n_iinc d_R_sameRow_24 1 (by decide) 0 rfl (Nat.le_of_ble_eq_true rfl) (lv' := [(3, .int (nI 2)), _, _, _]) rfl ?_
      refine j_goto d_R_sameRow_27 2 rfl ?_
      refine j_iload_n d_R_sameRow_2 rfl 0 rfl ?_
      refine n_iconst d_R_sameRow_3 5 (by decide) ?_
      refine n_icmp_ge d_R_sameRow_4 30 rfl (by omega) (by omega) (fun h => absurd h (by omega)) (fun h => ?_)
      refine j_aload_n d_R_sameRow_7 rfl 1 rfl ?_
      refine j_iload_n d_R_sameRow_8 rfl 3 rfl ?_
      refine j_iload_n d_R_sameRow_9 rfl 0 rfl ?_
      refine v_callV d_R_sameRow_10 mt_R_get ln_R_25 im_R_get se_R_get hr (Nat.lt_of_succ_lt hlt) rfl rfl ⟨Nat.le_of_ble_eq_true rfl, Nat.le_of_ble_eq_true rfl⟩ (Nat.le_of_ble_eq_true rfl) rfl (Nat.zero_le _) (Nat.zero_le _) (c_R_get g V L r hr hn hlt row 2 hrow (by omega)) rfl ?_
      rintro _ _ _ ⟨rfl, rfl, rfl⟩
      refine j_aload_n d_R_sameRow_13 rfl 2 rfl ?_
      refine j_iload_n d_R_sameRow_14 rfl 3 rfl ?_
      refine j_iload_n d_R_sameRow_15 rfl 0 rfl ?_
      refine v_callV d_R_sameRow_16 mt_R_get ln_R_25 im_R_get se_R_get hr2 (Nat.lt_of_succ_lt hlt2) rfl rfl ⟨Nat.le_of_ble_eq_true rfl, Nat.le_of_ble_eq_true rfl⟩ (Nat.le_of_ble_eq_true rfl) rfl (Nat.zero_le _) (Nat.zero_le _) (c_R_get g V L r2 hr2 hn2 hlt2 row 2 hrow (by omega)) rfl ?_
      rintro _ _ _ ⟨rfl, rfl, rfl⟩
      refine n_icmp_eq d_R_sameRow_19 24 rfl (hV _ (by omega)) (hV2 _ (by omega)) (fun h2 => ?_) (fun h2 => ?_)
      · refine n_iinc d_R_sameRow_24 1 (by decide) 0 rfl (Nat.le_of_ble_eq_true rfl) (lv' := [(3, .int (nI 3)), _, _, _]) rfl ?_
        refine j_goto d_R_sameRow_27 2 rfl ?_
        refine j_iload_n d_R_sameRow_2 rfl 0 rfl ?_
        refine n_iconst d_R_sameRow_3 5 (by decide) ?_
        refine n_icmp_ge d_R_sameRow_4 30 rfl (by omega) (by omega) (fun h => absurd h (by omega)) (fun h => ?_)
        refine j_aload_n d_R_sameRow_7 rfl 1 rfl ?_
        refine j_iload_n d_R_sameRow_8 rfl 3 rfl ?_
        refine j_iload_n d_R_sameRow_9 rfl 0 rfl ?_
        refine v_callV d_R_sameRow_10 mt_R_get ln_R_25 im_R_get se_R_get hr (Nat.lt_of_succ_lt hlt) rfl rfl ⟨Nat.le_of_ble_eq_true rfl, Nat.le_of_ble_eq_true rfl⟩ (Nat.le_of_ble_eq_true rfl) rfl (Nat.zero_le _) (Nat.zero_le _) (c_R_get g V L r hr hn hlt row 3 hrow (by omega)) rfl ?_
        rintro _ _ _ ⟨rfl, rfl, rfl⟩
        refine j_aload_n d_R_sameRow_13 rfl 2 rfl ?_
        refine j_iload_n d_R_sameRow_14 rfl 3 rfl ?_
        refine j_iload_n d_R_sameRow_15 rfl 0 rfl ?_
        refine v_callV d_R_sameRow_16 mt_R_get ln_R_25 im_R_get se_R_get hr2 (Nat.lt_of_succ_lt hlt2) rfl rfl ⟨Nat.le_of_ble_eq_true rfl, Nat.le_of_ble_eq_true rfl⟩ (Nat.le_of_ble_eq_true rfl) rfl (Nat.zero_le _) (Nat.zero_le _) (c_R_get g V L r2 hr2 hn2 hlt2 row 3 hrow (by omega)) rfl ?_
        rintro _ _ _ ⟨rfl, rfl, rfl⟩
        refine n_icmp_eq d_R_sameRow_19 24 rfl (hV _ (by omega)) (hV2 _ (by omega)) (fun h3 => ?_) (fun h3 => ?_)
        · refine n_iinc d_R_sameRow_24 1 (by decide) 0 rfl (Nat.le_of_ble_eq_true rfl) (lv' := [(3, .int (nI 4)), _, _, _]) rfl ?_
          refine j_goto d_R_sameRow_27 2 rfl ?_
          refine j_iload_n d_R_sameRow_2 rfl 0 rfl ?_
          refine n_iconst d_R_sameRow_3 5 (by decide) ?_
          refine n_icmp_ge d_R_sameRow_4 30 rfl (by omega) (by omega) (fun h => absurd h (by omega)) (fun h => ?_)
          refine j_aload_n d_R_sameRow_7 rfl 1 rfl ?_
          refine j_iload_n d_R_sameRow_8 rfl 3 rfl ?_
          refine j_iload_n d_R_sameRow_9 rfl 0 rfl ?_
          refine v_callV d_R_sameRow_10 mt_R_get ln_R_25 im_R_get se_R_get hr (Nat.lt_of_succ_lt hlt) rfl rfl ⟨Nat.le_of_ble_eq_true rfl, Nat.le_of_ble_eq_true rfl⟩ (Nat.le_of_ble_eq_true rfl) rfl (Nat.zero_le _) (Nat.zero_le _) (c_R_get g V L r hr hn hlt row 4 hrow (by omega)) rfl ?_
          rintro _ _ _ ⟨rfl, rfl, rfl⟩
          refine j_aload_n d_R_sameRow_13 rfl 2 rfl ?_
          refine j_iload_n d_R_sameRow_14 rfl 3 rfl ?_
          refine j_iload_n d_R_sameRow_15 rfl 0 rfl ?_
          refine v_callV d_R_sameRow_16 mt_R_get ln_R_25 im_R_get se_R_get hr2 (Nat.lt_of_succ_lt hlt2) rfl rfl ⟨Nat.le_of_ble_eq_true rfl, Nat.le_of_ble_eq_true rfl⟩ (Nat.le_of_ble_eq_true rfl) rfl (Nat.zero_le _) (Nat.zero_le _) (c_R_get g V L r2 hr2 hn2 hlt2 row 4 hrow (by omega)) rfl ?_
          rintro _ _ _ ⟨rfl, rfl, rfl⟩
          refine n_icmp_eq d_R_sameRow_19 24 rfl (hV _ (by omega)) (hV2 _ (by omega)) (fun h4 => ?_) (fun h4 => ?_)
          · refine n_iinc d_R_sameRow_24 1 (by decide) 0 rfl (Nat.le_of_ble_eq_true rfl) (lv' := [(3, .int (nI 5)), _, _, _]) rfl ?_
            refine j_goto d_R_sameRow_27 2 rfl ?_
            refine j_iload_n d_R_sameRow_2 rfl 0 rfl ?_
            refine n_iconst d_R_sameRow_3 5 (by decide) ?_
            refine n_icmp_ge d_R_sameRow_4 30 rfl (by omega) (by omega) (fun h => ?_) (fun h => absurd h (by omega))
            rw [if_pos ⟨h0, h1, h2, h3, h4⟩]
            refine n_iconst d_R_sameRow_30 1 (by decide) ?_
            exact v_zret d_R_sameRow_31 rfl (by omega) (Nat.zero_le _) (Nat.zero_le _) rfl jA0_rfl
          · rw [if_neg (fun z => h4 z.2.2.2.2)]
            refine n_iconst d_R_sameRow_22 0 (by decide) ?_
            exact v_zret d_R_sameRow_23 rfl (by omega) (Nat.zero_le _) (Nat.zero_le _) rfl jA0_rfl
        · rw [if_neg (fun z => h3 z.2.2.2.1)]
          refine n_iconst d_R_sameRow_22 0 (by decide) ?_
          exact v_zret d_R_sameRow_23 rfl (by omega) (Nat.zero_le _) (Nat.zero_le _) rfl jA0_rfl
      · rw [if_neg (fun z => h2 z.2.2.1)]
        refine n_iconst d_R_sameRow_22 0 (by decide) ?_
        exact v_zret d_R_sameRow_23 rfl (by omega) (Nat.zero_le _) (Nat.zero_le _) rfl jA0_rfl
    · rw [if_neg (fun z => h1 z.2.1)]
      refine n_iconst d_R_sameRow_22 0 (by decide) ?_
      exact v_zret d_R_sameRow_23 rfl (by omega) (Nat.zero_le _) (Nat.zero_le _) rfl jA0_rfl
  · rw [if_neg (fun z => h0 z.1)]
    refine n_iconst d_R_sameRow_22 0 (by decide) ?_
    exact v_zret d_R_sameRow_23 rfl (by omega) (Nat.zero_le _) (Nat.zero_le _) rfl jA0_rfl
/-- the coded rows of a group laid -/
def spd (V : Nat → Nat → Nat) (r first : Nat) : Nat → Nat → Nat := (vu (vu (vu (vu (vu (vu (vu (vu V (r + 1) ((first + 4 + 0) * 5 + 0) (cwd (fun q => V (r + 1) ((first + q) * 5 + 0)) 0)) (r + 1) ((first + 4 + 0) * 5 + 1) (cwd (fun q => V (r + 1) ((first + q) * 5 + 1)) 0)) (r + 1) ((first + 4 + 0) * 5 + 2) (cwd (fun q => V (r + 1) ((first + q) * 5 + 2)) 0)) (r + 1) ((first + 4 + 0) * 5 + 3) (cwd (fun q => V (r + 1) ((first + q) * 5 + 3)) 0)) (r + 1) ((first + 4 + 1) * 5 + 0) (cwd (fun q => V (r + 1) ((first + q) * 5 + 0)) 1)) (r + 1) ((first + 4 + 1) * 5 + 1) (cwd (fun q => V (r + 1) ((first + q) * 5 + 1)) 1)) (r + 1) ((first + 4 + 1) * 5 + 2) (cwd (fun q => V (r + 1) ((first + q) * 5 + 2)) 1)) (r + 1) ((first + 4 + 1) * 5 + 3) (cwd (fun q => V (r + 1) ((first + q) * 5 + 3)) 1))
theorem spd_lt {V : Nat → Nat → Nat} {r first : Nat} (hV : ∀ i, i < 120 → V (r + 1) i < 2147483647) : ∀ i, i < 120 → spd V r first (r + 1) i < 2147483647 := by
  intro i hi
  unfold spd vu
  repeat' split
  all_goals first | exact cwd_lt _ _ | exact hV i hi
theorem c_R_spread (g : jG) (V : Nat → Nat → Nat) (L : Nat → Nat → Int64) (r : Nat) (hr : jshp r = jo 5 [(r + 1) + 2]) (hn : jshp (r + 1) = .inl (0, 120)) (hlt : r + 1 < 104) (first : Nat) (hf : first + 6 ≤ 24) (hV : ∀ i, i < 120 → V (r + 1) i < 2147483647) : jK g Y_R_spread (2, 47) [.ref (jb g + r), .int (nI first)] V L (jA0 none (spd V r first) L) := by
  refine jK_entry (by decide +kernel) rfl (Nat.le_of_ble_eq_true rfl) ?_
  show jJ (g, Y_R_spread, (2, 47), 0, 0, jVQ g (jA0 none (spd V r first) L)) [(0, .ref (jb g + r)), (1, .int (nI first))] (jv (g, Y_R_spread, (2, 47), 0, 0, jVQ g (jA0 none (spd V r first) L)) V L 0 0) 0 []
  refine n_iconst d_R_spread_0 0 (by decide) ?_
  refine j_istore_n d_R_spread_1 (i := 2) rfl (Nat.le_of_ble_eq_true rfl) (lv' := [_, _, _]) rfl ?_
  refine j_iload_n d_R_spread_2 rfl 0 rfl ?_
  refine n_iconst d_R_spread_3 2 (by decide) ?_
  refine n_icmp_ge d_R_spread_4 43 rfl (by omega) (by omega) (fun h => absurd h (by omega)) (fun h => ?_)
  refine n_iconst d_R_spread_7 0 (by decide) ?_
  refine j_istore_n d_R_spread_8 (i := 3) rfl (Nat.le_of_ble_eq_true rfl) (lv' := [_, _, _, _]) rfl ?_
  refine j_iload_n d_R_spread_9 rfl 0 rfl ?_
  refine n_iconst d_R_spread_10 4 (by decide) ?_
  refine n_icmp_ge d_R_spread_11 37 rfl (by omega) (by omega) (fun h => absurd h (by omega)) (fun h => ?_)
  refine j_aload_n d_R_spread_14 rfl 2 rfl ?_
  refine j_iload_n d_R_spread_15 rfl 3 rfl ?_
  refine n_iconst d_R_spread_16 4 (by decide) ?_
  refine n_add d_R_spread_17 ?_
  refine j_iload_n d_R_spread_18 rfl 1 rfl ?_
  refine n_add d_R_spread_19 ?_
  refine j_iload_n d_R_spread_20 rfl 0 rfl ?_
  refine j_aload_n d_R_spread_21 rfl 2 rfl ?_
  refine j_iload_n d_R_spread_22 rfl 3 rfl ?_
  refine j_iload_n d_R_spread_23 rfl 1 rfl ?_
  refine j_iload_n d_R_spread_24 rfl 0 rfl ?_
  refine v_callV d_R_spread_25 mt_R_codedWord ln_R_29 im_R_codedWord se_R_codedWord hr (Nat.lt_of_succ_lt hlt) rfl rfl ⟨Nat.le_of_ble_eq_true rfl, Nat.le_of_ble_eq_true rfl⟩ (Nat.le_of_ble_eq_true rfl) rfl (Nat.zero_le _) (Nat.zero_le _) (c_R_codedWord g V L r hr hn hlt first 0 0 hf (by omega) (by omega) hV) rfl ?_
  rintro _ _ _ ⟨rfl, rfl, rfl⟩
  refine v_callV d_R_spread_28 mt_R_set ln_R_21 im_R_set se_R_set hr (Nat.lt_of_succ_lt hlt) rfl rfl ⟨Nat.le_of_ble_eq_true rfl, Nat.le_of_ble_eq_true rfl⟩ (Nat.le_of_ble_eq_true rfl) rfl (Nat.zero_le _) (Nat.zero_le _) (c_R_set g V L r hr hn hlt (first + 4 + 0) 0 (by omega) (by omega) _) rfl ?_
  rintro _ _ _ ⟨rfl, rfl, rfl⟩
  refine n_iinc d_R_spread_31 1 (by decide) 0 rfl (Nat.le_of_ble_eq_true rfl) (lv' := [(3, .int (nI 1)), _, _, _]) rfl ?_
  refine j_goto d_R_spread_34 9 rfl ?_
  have hv1 : ∀ i, i < 120 → (vu V (r + 1) ((first + 4 + 0) * 5 + 0) (cwd (fun q => V (r + 1) ((first + q) * 5 + 0)) 0)) (r + 1) i < 2147483647 := fun i hi => by
    unfold vu
    repeat' split
    all_goals first | exact cwd_lt _ _ | exact hV i hi
  have hx1 : ∀ j q, j < 4 → q < 4 → (vu V (r + 1) ((first + 4 + 0) * 5 + 0) (cwd (fun q => V (r + 1) ((first + q) * 5 + 0)) 0)) (r + 1) ((first + q) * 5 + j) = V (r + 1) ((first + q) * 5 + j) := fun j q hj hq => by rw [vu_ne _ _ (by omega)]
  refine j_iload_n d_R_spread_9 rfl 0 rfl ?_
  refine n_iconst d_R_spread_10 4 (by decide) ?_
  refine n_icmp_ge d_R_spread_11 37 rfl (by omega) (by omega) (fun h => absurd h (by omega)) (fun h => ?_)
  refine j_aload_n d_R_spread_14 rfl 2 rfl ?_
  refine j_iload_n d_R_spread_15 rfl 3 rfl ?_
  refine n_iconst d_R_spread_16 4 (by decide) ?_
  refine n_add d_R_spread_17 ?_
  refine j_iload_n d_R_spread_18 rfl 1 rfl ?_
  refine n_add d_R_spread_19 ?_
  refine j_iload_n d_R_spread_20 rfl 0 rfl ?_
  refine j_aload_n d_R_spread_21 rfl 2 rfl ?_
  refine j_iload_n d_R_spread_22 rfl 3 rfl ?_
  refine j_iload_n d_R_spread_23 rfl 1 rfl ?_
  refine j_iload_n d_R_spread_24 rfl 0 rfl ?_
  refine v_callV d_R_spread_25 mt_R_codedWord ln_R_29 im_R_codedWord se_R_codedWord hr (Nat.lt_of_succ_lt hlt) rfl rfl ⟨Nat.le_of_ble_eq_true rfl, Nat.le_of_ble_eq_true rfl⟩ (Nat.le_of_ble_eq_true rfl) rfl (Nat.zero_le _) (Nat.zero_le _) (c_R_codedWord g (vu V (r + 1) ((first + 4 + 0) * 5 + 0) (cwd (fun q => V (r + 1) ((first + q) * 5 + 0)) 0)) L r hr hn hlt first 0 1 hf (by omega) (by omega) hv1) rfl ?_
  rintro _ _ _ ⟨rfl, rfl, rfl⟩
  rw [show cwd (fun q => (vu V (r + 1) ((first + 4 + 0) * 5 + 0) (cwd (fun q => V (r + 1) ((first + q) * 5 + 0)) 0)) (r + 1) ((first + q) * 5 + 1)) 0 = cwd (fun q => V (r + 1) ((first + q) * 5 + 1)) 0 from cwd_eq 0 (fun q hq => hx1 1 q (by omega) hq)]
  refine v_callV d_R_spread_28 mt_R_set ln_R_21 im_R_set se_R_set hr (Nat.lt_of_succ_lt hlt) rfl rfl ⟨Nat.le_of_ble_eq_true rfl, Nat.le_of_ble_eq_true rfl⟩ (Nat.le_of_ble_eq_true rfl) rfl (Nat.zero_le _) (Nat.zero_le _) (c_R_set g (vu V (r + 1) ((first + 4 + 0) * 5 + 0) (cwd (fun q => V (r + 1) ((first + q) * 5 + 0)) 0)) L r hr hn hlt (first + 4 + 0) 1 (by omega) (by omega) _) rfl ?_
  rintro _ _ _ ⟨rfl, rfl, rfl⟩
  refine n_iinc d_R_spread_31 1 (by decide) 0 rfl (Nat.le_of_ble_eq_true rfl) (lv' := [(3, .int (nI 2)), _, _, _]) rfl ?_
  refine j_goto d_R_spread_34 9 rfl ?_
  have hv2 : ∀ i, i < 120 → (vu (vu V (r + 1) ((first + 4 + 0) * 5 + 0) (cwd (fun q => V (r + 1) ((first + q) * 5 + 0)) 0)) (r + 1) ((first + 4 + 0) * 5 + 1) (cwd (fun q => V (r + 1) ((first + q) * 5 + 1)) 0)) (r + 1) i < 2147483647 := fun i hi => by
    unfold vu
    repeat' split
    all_goals first | exact cwd_lt _ _ | exact hV i hi
  have hx2 : ∀ j q, j < 4 → q < 4 → (vu (vu V (r + 1) ((first + 4 + 0) * 5 + 0) (cwd (fun q => V (r + 1) ((first + q) * 5 + 0)) 0)) (r + 1) ((first + 4 + 0) * 5 + 1) (cwd (fun q => V (r + 1) ((first + q) * 5 + 1)) 0)) (r + 1) ((first + q) * 5 + j) = V (r + 1) ((first + q) * 5 + j) := fun j q hj hq => by rw [vu_ne _ _ (by omega), vu_ne _ _ (by omega)]
  refine j_iload_n d_R_spread_9 rfl 0 rfl ?_
  refine n_iconst d_R_spread_10 4 (by decide) ?_
  refine n_icmp_ge d_R_spread_11 37 rfl (by omega) (by omega) (fun h => absurd h (by omega)) (fun h => ?_)
  refine j_aload_n d_R_spread_14 rfl 2 rfl ?_
  refine j_iload_n d_R_spread_15 rfl 3 rfl ?_
  refine n_iconst d_R_spread_16 4 (by decide) ?_
  refine n_add d_R_spread_17 ?_
  refine j_iload_n d_R_spread_18 rfl 1 rfl ?_
  refine n_add d_R_spread_19 ?_
  refine j_iload_n d_R_spread_20 rfl 0 rfl ?_
  refine j_aload_n d_R_spread_21 rfl 2 rfl ?_
  refine j_iload_n d_R_spread_22 rfl 3 rfl ?_
  refine j_iload_n d_R_spread_23 rfl 1 rfl ?_
  refine j_iload_n d_R_spread_24 rfl 0 rfl ?_
  refine v_callV d_R_spread_25 mt_R_codedWord ln_R_29 im_R_codedWord se_R_codedWord hr (Nat.lt_of_succ_lt hlt) rfl rfl ⟨Nat.le_of_ble_eq_true rfl, Nat.le_of_ble_eq_true rfl⟩ (Nat.le_of_ble_eq_true rfl) rfl (Nat.zero_le _) (Nat.zero_le _) (c_R_codedWord g (vu (vu V (r + 1) ((first + 4 + 0) * 5 + 0) (cwd (fun q => V (r + 1) ((first + q) * 5 + 0)) 0)) (r + 1) ((first + 4 + 0) * 5 + 1) (cwd (fun q => V (r + 1) ((first + q) * 5 + 1)) 0)) L r hr hn hlt first 0 2 hf (by omega) (by omega) hv2) rfl ?_
  rintro _ _ _ ⟨rfl, rfl, rfl⟩
  rw [show cwd (fun q => (vu (vu V (r + 1) ((first + 4 + 0) * 5 + 0) (cwd (fun q => V (r + 1) ((first + q) * 5 + 0)) 0)) (r + 1) ((first + 4 + 0) * 5 + 1) (cwd (fun q => V (r + 1) ((first + q) * 5 + 1)) 0)) (r + 1) ((first + q) * 5 + 2)) 0 = cwd (fun q => V (r + 1) ((first + q) * 5 + 2)) 0 from cwd_eq 0 (fun q hq => hx2 2 q (by omega) hq)]
  refine v_callV d_R_spread_28 mt_R_set ln_R_21 im_R_set se_R_set hr (Nat.lt_of_succ_lt hlt) rfl rfl ⟨Nat.le_of_ble_eq_true rfl, Nat.le_of_ble_eq_true rfl⟩ (Nat.le_of_ble_eq_true rfl) rfl (Nat.zero_le _) (Nat.zero_le _) (c_R_set g (vu (vu V (r + 1) ((first + 4 + 0) * 5 + 0) (cwd (fun q => V (r + 1) ((first + q) * 5 + 0)) 0)) (r + 1) ((first + 4 + 0) * 5 + 1) (cwd (fun q => V (r + 1) ((first + q) * 5 + 1)) 0)) L r hr hn hlt (first + 4 + 0) 2 (by omega) (by omega) _) rfl ?_
  rintro _ _ _ ⟨rfl, rfl, rfl⟩
  refine n_iinc d_R_spread_31 1 (by decide) 0 rfl (Nat.le_of_ble_eq_true rfl) (lv' := [(3, .int (nI 3)), _, _, _]) rfl ?_
  refine j_goto d_R_spread_34 9 rfl ?_
  have hv3 : ∀ i, i < 120 → (vu (vu (vu V (r + 1) ((first + 4 + 0) * 5 + 0) (cwd (fun q => V (r + 1) ((first + q) * 5 + 0)) 0)) (r + 1) ((first + 4 + 0) * 5 + 1) (cwd (fun q => V (r + 1) ((first + q) * 5 + 1)) 0)) (r + 1) ((first + 4 + 0) * 5 + 2) (cwd (fun q => V (r + 1) ((first + q) * 5 + 2)) 0)) (r + 1) i < 2147483647 := fun i hi => by
    unfold vu
    repeat' split
    all_goals first | exact cwd_lt _ _ | exact hV i hi
  have hx3 : ∀ j q, j < 4 → q < 4 → (vu (vu (vu V (r + 1) ((first + 4 + 0) * 5 + 0) (cwd (fun q => V (r + 1) ((first + q) * 5 + 0)) 0)) (r + 1) ((first + 4 + 0) * 5 + 1) (cwd (fun q => V (r + 1) ((first + q) * 5 + 1)) 0)) (r + 1) ((first + 4 + 0) * 5 + 2) (cwd (fun q => V (r + 1) ((first + q) * 5 + 2)) 0)) (r + 1) ((first + q) * 5 + j) = V (r + 1) ((first + q) * 5 + j) := fun j q hj hq => by rw [vu_ne _ _ (by omega), vu_ne _ _ (by omega), vu_ne _ _ (by omega)]
  refine j_iload_n d_R_spread_9 rfl 0 rfl ?_
  refine n_iconst d_R_spread_10 4 (by decide) ?_
  refine n_icmp_ge d_R_spread_11 37 rfl (by omega) (by omega) (fun h => absurd h (by omega)) (fun h => ?_)
  refine j_aload_n d_R_spread_14 rfl 2 rfl ?_
  refine j_iload_n d_R_spread_15 rfl 3 rfl ?_
  refine n_iconst d_R_spread_16 4 (by decide) ?_
  refine n_add d_R_spread_17 ?_
  refine j_iload_n d_R_spread_18 rfl 1 rfl ?_
  refine n_add d_R_spread_19 ?_
  refine j_iload_n d_R_spread_20 rfl 0 rfl ?_
  refine j_aload_n d_R_spread_21 rfl 2 rfl ?_
  refine j_iload_n d_R_spread_22 rfl 3 rfl ?_
  refine j_iload_n d_R_spread_23 rfl 1 rfl ?_
  refine j_iload_n d_R_spread_24 rfl 0 rfl ?_
  refine v_callV d_R_spread_25 mt_R_codedWord ln_R_29 im_R_codedWord se_R_codedWord hr (Nat.lt_of_succ_lt hlt) rfl rfl ⟨Nat.le_of_ble_eq_true rfl, Nat.le_of_ble_eq_true rfl⟩ (Nat.le_of_ble_eq_true rfl) rfl (Nat.zero_le _) (Nat.zero_le _) (c_R_codedWord g (vu (vu (vu V (r + 1) ((first + 4 + 0) * 5 + 0) (cwd (fun q => V (r + 1) ((first + q) * 5 + 0)) 0)) (r + 1) ((first + 4 + 0) * 5 + 1) (cwd (fun q => V (r + 1) ((first + q) * 5 + 1)) 0)) (r + 1) ((first + 4 + 0) * 5 + 2) (cwd (fun q => V (r + 1) ((first + q) * 5 + 2)) 0)) L r hr hn hlt first 0 3 hf (by omega) (by omega) hv3) rfl ?_
  rintro _ _ _ ⟨rfl, rfl, rfl⟩
  rw [show cwd (fun q => (vu (vu (vu V (r + 1) ((first + 4 + 0) * 5 + 0) (cwd (fun q => V (r + 1) ((first + q) * 5 + 0)) 0)) (r + 1) ((first + 4 + 0) * 5 + 1) (cwd (fun q => V (r + 1) ((first + q) * 5 + 1)) 0)) (r + 1) ((first + 4 + 0) * 5 + 2) (cwd (fun q => V (r + 1) ((first + q) * 5 + 2)) 0)) (r + 1) ((first + q) * 5 + 3)) 0 = cwd (fun q => V (r + 1) ((first + q) * 5 + 3)) 0 from cwd_eq 0 (fun q hq => hx3 3 q (by omega) hq)]
  refine v_callV d_R_spread_28 mt_R_set ln_R_21 im_R_set se_R_set hr (Nat.lt_of_succ_lt hlt) rfl rfl ⟨Nat.le_of_ble_eq_true rfl, Nat.le_of_ble_eq_true rfl⟩ (Nat.le_of_ble_eq_true rfl) rfl (Nat.zero_le _) (Nat.zero_le _) (c_R_set g (vu (vu (vu V (r + 1) ((first + 4 + 0) * 5 + 0) (cwd (fun q => V (r + 1) ((first + q) * 5 + 0)) 0)) (r + 1) ((first + 4 + 0) * 5 + 1) (cwd (fun q => V (r + 1) ((first + q) * 5 + 1)) 0)) (r + 1) ((first + 4 + 0) * 5 + 2) (cwd (fun q => V (r + 1) ((first + q) * 5 + 2)) 0)) L r hr hn hlt (first + 4 + 0) 3 (by omega) (by omega) _) rfl ?_
  rintro _ _ _ ⟨rfl, rfl, rfl⟩
  refine n_iinc d_R_spread_31 1 (by decide) 0 rfl (Nat.le_of_ble_eq_true rfl) (lv' := [(3, .int (nI 4)), _, _, _]) rfl ?_
  refine j_goto d_R_spread_34 9 rfl ?_
  have hv4 : ∀ i, i < 120 → (vu (vu (vu (vu V (r + 1) ((first + 4 + 0) * 5 + 0) (cwd (fun q => V (r + 1) ((first + q) * 5 + 0)) 0)) (r + 1) ((first + 4 + 0) * 5 + 1) (cwd (fun q => V (r + 1) ((first + q) * 5 + 1)) 0)) (r + 1) ((first + 4 + 0) * 5 + 2) (cwd (fun q => V (r + 1) ((first + q) * 5 + 2)) 0)) (r + 1) ((first + 4 + 0) * 5 + 3) (cwd (fun q => V (r + 1) ((first + q) * 5 + 3)) 0)) (r + 1) i < 2147483647 := fun i hi => by
    unfold vu
    repeat' split
    all_goals first | exact cwd_lt _ _ | exact hV i hi
  have hx4 : ∀ j q, j < 4 → q < 4 → (vu (vu (vu (vu V (r + 1) ((first + 4 + 0) * 5 + 0) (cwd (fun q => V (r + 1) ((first + q) * 5 + 0)) 0)) (r + 1) ((first + 4 + 0) * 5 + 1) (cwd (fun q => V (r + 1) ((first + q) * 5 + 1)) 0)) (r + 1) ((first + 4 + 0) * 5 + 2) (cwd (fun q => V (r + 1) ((first + q) * 5 + 2)) 0)) (r + 1) ((first + 4 + 0) * 5 + 3) (cwd (fun q => V (r + 1) ((first + q) * 5 + 3)) 0)) (r + 1) ((first + q) * 5 + j) = V (r + 1) ((first + q) * 5 + j) := fun j q hj hq => by rw [vu_ne _ _ (by omega), vu_ne _ _ (by omega), vu_ne _ _ (by omega), vu_ne _ _ (by omega)]
  refine j_iload_n d_R_spread_9 rfl 0 rfl ?_
  refine n_iconst d_R_spread_10 4 (by decide) ?_
  refine n_icmp_ge d_R_spread_11 37 rfl (by omega) (by omega) (fun h => ?_) (fun h => absurd h (by omega))
  refine n_iinc d_R_spread_37 1 (by decide) 1 rfl (Nat.le_of_ble_eq_true rfl) (lv' := [(2, .int (nI 1)), _, _, _]) rfl ?_
  refine j_goto d_R_spread_40 2 rfl ?_
  refine j_iload_n d_R_spread_2 rfl 0 rfl ?_
  refine n_iconst d_R_spread_3 2 (by decide) ?_
  refine n_icmp_ge d_R_spread_4 43 rfl (by omega) (by omega) (fun h => absurd h (by omega)) (fun h => ?_)
  refine n_iconst d_R_spread_7 0 (by decide) ?_
  refine j_istore_n d_R_spread_8 (i := 3) rfl (Nat.le_of_ble_eq_true rfl) (lv' := [_, _, _, _]) rfl ?_
  refine j_iload_n d_R_spread_9 rfl 0 rfl ?_
  refine n_iconst d_R_spread_10 4 (by decide) ?_
  refine n_icmp_ge d_R_spread_11 37 rfl (by omega) (by omega) (fun h => absurd h (by omega)) (fun h => ?_)
  refine j_aload_n d_R_spread_14 rfl 2 rfl ?_
  refine j_iload_n d_R_spread_15 rfl 3 rfl ?_
  refine n_iconst d_R_spread_16 4 (by decide) ?_
  refine n_add d_R_spread_17 ?_
  refine j_iload_n d_R_spread_18 rfl 1 rfl ?_
  refine n_add d_R_spread_19 ?_
  refine j_iload_n d_R_spread_20 rfl 0 rfl ?_
  refine j_aload_n d_R_spread_21 rfl 2 rfl ?_
  refine j_iload_n d_R_spread_22 rfl 3 rfl ?_
  refine j_iload_n d_R_spread_23 rfl 1 rfl ?_
  refine j_iload_n d_R_spread_24 rfl 0 rfl ?_
  refine v_callV d_R_spread_25 mt_R_codedWord ln_R_29 im_R_codedWord se_R_codedWord hr (Nat.lt_of_succ_lt hlt) rfl rfl ⟨Nat.le_of_ble_eq_true rfl, Nat.le_of_ble_eq_true rfl⟩ (Nat.le_of_ble_eq_true rfl) rfl (Nat.zero_le _) (Nat.zero_le _) (c_R_codedWord g (vu (vu (vu (vu V (r + 1) ((first + 4 + 0) * 5 + 0) (cwd (fun q => V (r + 1) ((first + q) * 5 + 0)) 0)) (r + 1) ((first + 4 + 0) * 5 + 1) (cwd (fun q => V (r + 1) ((first + q) * 5 + 1)) 0)) (r + 1) ((first + 4 + 0) * 5 + 2) (cwd (fun q => V (r + 1) ((first + q) * 5 + 2)) 0)) (r + 1) ((first + 4 + 0) * 5 + 3) (cwd (fun q => V (r + 1) ((first + q) * 5 + 3)) 0)) L r hr hn hlt first 1 0 hf (by omega) (by omega) hv4) rfl ?_
  rintro _ _ _ ⟨rfl, rfl, rfl⟩
  rw [show cwd (fun q => (vu (vu (vu (vu V (r + 1) ((first + 4 + 0) * 5 + 0) (cwd (fun q => V (r + 1) ((first + q) * 5 + 0)) 0)) (r + 1) ((first + 4 + 0) * 5 + 1) (cwd (fun q => V (r + 1) ((first + q) * 5 + 1)) 0)) (r + 1) ((first + 4 + 0) * 5 + 2) (cwd (fun q => V (r + 1) ((first + q) * 5 + 2)) 0)) (r + 1) ((first + 4 + 0) * 5 + 3) (cwd (fun q => V (r + 1) ((first + q) * 5 + 3)) 0)) (r + 1) ((first + q) * 5 + 0)) 1 = cwd (fun q => V (r + 1) ((first + q) * 5 + 0)) 1 from cwd_eq 1 (fun q hq => hx4 0 q (by omega) hq)]
  refine v_callV d_R_spread_28 mt_R_set ln_R_21 im_R_set se_R_set hr (Nat.lt_of_succ_lt hlt) rfl rfl ⟨Nat.le_of_ble_eq_true rfl, Nat.le_of_ble_eq_true rfl⟩ (Nat.le_of_ble_eq_true rfl) rfl (Nat.zero_le _) (Nat.zero_le _) (c_R_set g (vu (vu (vu (vu V (r + 1) ((first + 4 + 0) * 5 + 0) (cwd (fun q => V (r + 1) ((first + q) * 5 + 0)) 0)) (r + 1) ((first + 4 + 0) * 5 + 1) (cwd (fun q => V (r + 1) ((first + q) * 5 + 1)) 0)) (r + 1) ((first + 4 + 0) * 5 + 2) (cwd (fun q => V (r + 1) ((first + q) * 5 + 2)) 0)) (r + 1) ((first + 4 + 0) * 5 + 3) (cwd (fun q => V (r + 1) ((first + q) * 5 + 3)) 0)) L r hr hn hlt (first + 4 + 1) 0 (by omega) (by omega) _) rfl ?_
  rintro _ _ _ ⟨rfl, rfl, rfl⟩
  refine n_iinc d_R_spread_31 1 (by decide) 0 rfl (Nat.le_of_ble_eq_true rfl) (lv' := [(3, .int (nI 1)), _, _, _]) rfl ?_
  refine j_goto d_R_spread_34 9 rfl ?_
  have hv5 : ∀ i, i < 120 → (vu (vu (vu (vu (vu V (r + 1) ((first + 4 + 0) * 5 + 0) (cwd (fun q => V (r + 1) ((first + q) * 5 + 0)) 0)) (r + 1) ((first + 4 + 0) * 5 + 1) (cwd (fun q => V (r + 1) ((first + q) * 5 + 1)) 0)) (r + 1) ((first + 4 + 0) * 5 + 2) (cwd (fun q => V (r + 1) ((first + q) * 5 + 2)) 0)) (r + 1) ((first + 4 + 0) * 5 + 3) (cwd (fun q => V (r + 1) ((first + q) * 5 + 3)) 0)) (r + 1) ((first + 4 + 1) * 5 + 0) (cwd (fun q => V (r + 1) ((first + q) * 5 + 0)) 1)) (r + 1) i < 2147483647 := fun i hi => by
    unfold vu
    repeat' split
    all_goals first | exact cwd_lt _ _ | exact hV i hi
  have hx5 : ∀ j q, j < 4 → q < 4 → (vu (vu (vu (vu (vu V (r + 1) ((first + 4 + 0) * 5 + 0) (cwd (fun q => V (r + 1) ((first + q) * 5 + 0)) 0)) (r + 1) ((first + 4 + 0) * 5 + 1) (cwd (fun q => V (r + 1) ((first + q) * 5 + 1)) 0)) (r + 1) ((first + 4 + 0) * 5 + 2) (cwd (fun q => V (r + 1) ((first + q) * 5 + 2)) 0)) (r + 1) ((first + 4 + 0) * 5 + 3) (cwd (fun q => V (r + 1) ((first + q) * 5 + 3)) 0)) (r + 1) ((first + 4 + 1) * 5 + 0) (cwd (fun q => V (r + 1) ((first + q) * 5 + 0)) 1)) (r + 1) ((first + q) * 5 + j) = V (r + 1) ((first + q) * 5 + j) := fun j q hj hq => by rw [vu_ne _ _ (by omega), vu_ne _ _ (by omega), vu_ne _ _ (by omega), vu_ne _ _ (by omega), vu_ne _ _ (by omega)]
  refine j_iload_n d_R_spread_9 rfl 0 rfl ?_
  refine n_iconst d_R_spread_10 4 (by decide) ?_
  refine n_icmp_ge d_R_spread_11 37 rfl (by omega) (by omega) (fun h => absurd h (by omega)) (fun h => ?_)
  refine j_aload_n d_R_spread_14 rfl 2 rfl ?_
  refine j_iload_n d_R_spread_15 rfl 3 rfl ?_
  refine n_iconst d_R_spread_16 4 (by decide) ?_
  refine n_add d_R_spread_17 ?_
  refine j_iload_n d_R_spread_18 rfl 1 rfl ?_
  refine n_add d_R_spread_19 ?_
  refine j_iload_n d_R_spread_20 rfl 0 rfl ?_
  refine j_aload_n d_R_spread_21 rfl 2 rfl ?_
  refine j_iload_n d_R_spread_22 rfl 3 rfl ?_
  refine j_iload_n d_R_spread_23 rfl 1 rfl ?_
  refine j_iload_n d_R_spread_24 rfl 0 rfl ?_
  refine v_callV d_R_spread_25 mt_R_codedWord ln_R_29 im_R_codedWord se_R_codedWord hr (Nat.lt_of_succ_lt hlt) rfl rfl ⟨Nat.le_of_ble_eq_true rfl, Nat.le_of_ble_eq_true rfl⟩ (Nat.le_of_ble_eq_true rfl) rfl (Nat.zero_le _) (Nat.zero_le _) (c_R_codedWord g (vu (vu (vu (vu (vu V (r + 1) ((first + 4 + 0) * 5 + 0) (cwd (fun q => V (r + 1) ((first + q) * 5 + 0)) 0)) (r + 1) ((first + 4 + 0) * 5 + 1) (cwd (fun q => V (r + 1) ((first + q) * 5 + 1)) 0)) (r + 1) ((first + 4 + 0) * 5 + 2) (cwd (fun q => V (r + 1) ((first + q) * 5 + 2)) 0)) (r + 1) ((first + 4 + 0) * 5 + 3) (cwd (fun q => V (r + 1) ((first + q) * 5 + 3)) 0)) (r + 1) ((first + 4 + 1) * 5 + 0) (cwd (fun q => V (r + 1) ((first + q) * 5 + 0)) 1)) L r hr hn hlt first 1 1 hf (by omega) (by omega) hv5) rfl ?_
  rintro _ _ _ ⟨rfl, rfl, rfl⟩
  rw [show cwd (fun q => (vu (vu (vu (vu (vu V (r + 1) ((first + 4 + 0) * 5 + 0) (cwd (fun q => V (r + 1) ((first + q) * 5 + 0)) 0)) (r + 1) ((first + 4 + 0) * 5 + 1) (cwd (fun q => V (r + 1) ((first + q) * 5 + 1)) 0)) (r + 1) ((first + 4 + 0) * 5 + 2) (cwd (fun q => V (r + 1) ((first + q) * 5 + 2)) 0)) (r + 1) ((first + 4 + 0) * 5 + 3) (cwd (fun q => V (r + 1) ((first + q) * 5 + 3)) 0)) (r + 1) ((first + 4 + 1) * 5 + 0) (cwd (fun q => V (r + 1) ((first + q) * 5 + 0)) 1)) (r + 1) ((first + q) * 5 + 1)) 1 = cwd (fun q => V (r + 1) ((first + q) * 5 + 1)) 1 from cwd_eq 1 (fun q hq => hx5 1 q (by omega) hq)]
  refine v_callV d_R_spread_28 mt_R_set ln_R_21 im_R_set se_R_set hr (Nat.lt_of_succ_lt hlt) rfl rfl ⟨Nat.le_of_ble_eq_true rfl, Nat.le_of_ble_eq_true rfl⟩ (Nat.le_of_ble_eq_true rfl) rfl (Nat.zero_le _) (Nat.zero_le _) (c_R_set g (vu (vu (vu (vu (vu V (r + 1) ((first + 4 + 0) * 5 + 0) (cwd (fun q => V (r + 1) ((first + q) * 5 + 0)) 0)) (r + 1) ((first + 4 + 0) * 5 + 1) (cwd (fun q => V (r + 1) ((first + q) * 5 + 1)) 0)) (r + 1) ((first + 4 + 0) * 5 + 2) (cwd (fun q => V (r + 1) ((first + q) * 5 + 2)) 0)) (r + 1) ((first + 4 + 0) * 5 + 3) (cwd (fun q => V (r + 1) ((first + q) * 5 + 3)) 0)) (r + 1) ((first + 4 + 1) * 5 + 0) (cwd (fun q => V (r + 1) ((first + q) * 5 + 0)) 1)) L r hr hn hlt (first + 4 + 1) 1 (by omega) (by omega) _) rfl ?_
  rintro _ _ _ ⟨rfl, rfl, rfl⟩
  refine n_iinc d_R_spread_31 1 (by decide) 0 rfl (Nat.le_of_ble_eq_true rfl) (lv' := [(3, .int (nI 2)), _, _, _]) rfl ?_
  refine j_goto d_R_spread_34 9 rfl ?_
  have hv6 : ∀ i, i < 120 → (vu (vu (vu (vu (vu (vu V (r + 1) ((first + 4 + 0) * 5 + 0) (cwd (fun q => V (r + 1) ((first + q) * 5 + 0)) 0)) (r + 1) ((first + 4 + 0) * 5 + 1) (cwd (fun q => V (r + 1) ((first + q) * 5 + 1)) 0)) (r + 1) ((first + 4 + 0) * 5 + 2) (cwd (fun q => V (r + 1) ((first + q) * 5 + 2)) 0)) (r + 1) ((first + 4 + 0) * 5 + 3) (cwd (fun q => V (r + 1) ((first + q) * 5 + 3)) 0)) (r + 1) ((first + 4 + 1) * 5 + 0) (cwd (fun q => V (r + 1) ((first + q) * 5 + 0)) 1)) (r + 1) ((first + 4 + 1) * 5 + 1) (cwd (fun q => V (r + 1) ((first + q) * 5 + 1)) 1)) (r + 1) i < 2147483647 := fun i hi => by
    unfold vu
    repeat' split
    all_goals first | exact cwd_lt _ _ | exact hV i hi
  have hx6 : ∀ j q, j < 4 → q < 4 → (vu (vu (vu (vu (vu (vu V (r + 1) ((first + 4 + 0) * 5 + 0) (cwd (fun q => V (r + 1) ((first + q) * 5 + 0)) 0)) (r + 1) ((first + 4 + 0) * 5 + 1) (cwd (fun q => V (r + 1) ((first + q) * 5 + 1)) 0)) (r + 1) ((first + 4 + 0) * 5 + 2) (cwd (fun q => V (r + 1) ((first + q) * 5 + 2)) 0)) (r + 1) ((first + 4 + 0) * 5 + 3) (cwd (fun q => V (r + 1) ((first + q) * 5 + 3)) 0)) (r + 1) ((first + 4 + 1) * 5 + 0) (cwd (fun q => V (r + 1) ((first + q) * 5 + 0)) 1)) (r + 1) ((first + 4 + 1) * 5 + 1) (cwd (fun q => V (r + 1) ((first + q) * 5 + 1)) 1)) (r + 1) ((first + q) * 5 + j) = V (r + 1) ((first + q) * 5 + j) := fun j q hj hq => by rw [vu_ne _ _ (by omega), vu_ne _ _ (by omega), vu_ne _ _ (by omega), vu_ne _ _ (by omega), vu_ne _ _ (by omega), vu_ne _ _ (by omega)]
  refine j_iload_n d_R_spread_9 rfl 0 rfl ?_
  refine n_iconst d_R_spread_10 4 (by decide) ?_
  refine n_icmp_ge d_R_spread_11 37 rfl (by omega) (by omega) (fun h => absurd h (by omega)) (fun h => ?_)
  refine j_aload_n d_R_spread_14 rfl 2 rfl ?_
  refine j_iload_n d_R_spread_15 rfl 3 rfl ?_
  refine n_iconst d_R_spread_16 4 (by decide) ?_
  refine n_add d_R_spread_17 ?_
  refine j_iload_n d_R_spread_18 rfl 1 rfl ?_
  refine n_add d_R_spread_19 ?_
  refine j_iload_n d_R_spread_20 rfl 0 rfl ?_
  refine j_aload_n d_R_spread_21 rfl 2 rfl ?_
  refine j_iload_n d_R_spread_22 rfl 3 rfl ?_
  refine j_iload_n d_R_spread_23 rfl 1 rfl ?_
  refine j_iload_n d_R_spread_24 rfl 0 rfl ?_
  refine v_callV d_R_spread_25 mt_R_codedWord ln_R_29 im_R_codedWord se_R_codedWord hr (Nat.lt_of_succ_lt hlt) rfl rfl ⟨Nat.le_of_ble_eq_true rfl, Nat.le_of_ble_eq_true rfl⟩ (Nat.le_of_ble_eq_true rfl) rfl (Nat.zero_le _) (Nat.zero_le _) (c_R_codedWord g (vu (vu (vu (vu (vu (vu V (r + 1) ((first + 4 + 0) * 5 + 0) (cwd (fun q => V (r + 1) ((first + q) * 5 + 0)) 0)) (r + 1) ((first + 4 + 0) * 5 + 1) (cwd (fun q => V (r + 1) ((first + q) * 5 + 1)) 0)) (r + 1) ((first + 4 + 0) * 5 + 2) (cwd (fun q => V (r + 1) ((first + q) * 5 + 2)) 0)) (r + 1) ((first + 4 + 0) * 5 + 3) (cwd (fun q => V (r + 1) ((first + q) * 5 + 3)) 0)) (r + 1) ((first + 4 + 1) * 5 + 0) (cwd (fun q => V (r + 1) ((first + q) * 5 + 0)) 1)) (r + 1) ((first + 4 + 1) * 5 + 1) (cwd (fun q => V (r + 1) ((first + q) * 5 + 1)) 1)) L r hr hn hlt first 1 2 hf (by omega) (by omega) hv6) rfl ?_
  rintro _ _ _ ⟨rfl, rfl, rfl⟩
  rw [show cwd (fun q => (vu (vu (vu (vu (vu (vu V (r + 1) ((first + 4 + 0) * 5 + 0) (cwd (fun q => V (r + 1) ((first + q) * 5 + 0)) 0)) (r + 1) ((first + 4 + 0) * 5 + 1) (cwd (fun q => V (r + 1) ((first + q) * 5 + 1)) 0)) (r + 1) ((first + 4 + 0) * 5 + 2) (cwd (fun q => V (r + 1) ((first + q) * 5 + 2)) 0)) (r + 1) ((first + 4 + 0) * 5 + 3) (cwd (fun q => V (r + 1) ((first + q) * 5 + 3)) 0)) (r + 1) ((first + 4 + 1) * 5 + 0) (cwd (fun q => V (r + 1) ((first + q) * 5 + 0)) 1)) (r + 1) ((first + 4 + 1) * 5 + 1) (cwd (fun q => V (r + 1) ((first + q) * 5 + 1)) 1)) (r + 1) ((first + q) * 5 + 2)) 1 = cwd (fun q => V (r + 1) ((first + q) * 5 + 2)) 1 from cwd_eq 1 (fun q hq => hx6 2 q (by omega) hq)]
  refine v_callV d_R_spread_28 mt_R_set ln_R_21 im_R_set se_R_set hr (Nat.lt_of_succ_lt hlt) rfl rfl ⟨Nat.le_of_ble_eq_true rfl, Nat.le_of_ble_eq_true rfl⟩ (Nat.le_of_ble_eq_true rfl) rfl (Nat.zero_le _) (Nat.zero_le _) (c_R_set g (vu (vu (vu (vu (vu (vu V (r + 1) ((first + 4 + 0) * 5 + 0) (cwd (fun q => V (r + 1) ((first + q) * 5 + 0)) 0)) (r + 1) ((first + 4 + 0) * 5 + 1) (cwd (fun q => V (r + 1) ((first + q) * 5 + 1)) 0)) (r + 1) ((first + 4 + 0) * 5 + 2) (cwd (fun q => V (r + 1) ((first + q) * 5 + 2)) 0)) (r + 1) ((first + 4 + 0) * 5 + 3) (cwd (fun q => V (r + 1) ((first + q) * 5 + 3)) 0)) (r + 1) ((first + 4 + 1) * 5 + 0) (cwd (fun q => V (r + 1) ((first + q) * 5 + 0)) 1)) (r + 1) ((first + 4 + 1) * 5 + 1) (cwd (fun q => V (r + 1) ((first + q) * 5 + 1)) 1)) L r hr hn hlt (first + 4 + 1) 2 (by omega) (by omega) _) rfl ?_
  rintro _ _ _ ⟨rfl, rfl, rfl⟩
  refine n_iinc d_R_spread_31 1 (by decide) 0 rfl (Nat.le_of_ble_eq_true rfl) (lv' := [(3, .int (nI 3)), _, _, _]) rfl ?_
  refine j_goto d_R_spread_34 9 rfl ?_
  have hv7 : ∀ i, i < 120 → (vu (vu (vu (vu (vu (vu (vu V (r + 1) ((first + 4 + 0) * 5 + 0) (cwd (fun q => V (r + 1) ((first + q) * 5 + 0)) 0)) (r + 1) ((first + 4 + 0) * 5 + 1) (cwd (fun q => V (r + 1) ((first + q) * 5 + 1)) 0)) (r + 1) ((first + 4 + 0) * 5 + 2) (cwd (fun q => V (r + 1) ((first + q) * 5 + 2)) 0)) (r + 1) ((first + 4 + 0) * 5 + 3) (cwd (fun q => V (r + 1) ((first + q) * 5 + 3)) 0)) (r + 1) ((first + 4 + 1) * 5 + 0) (cwd (fun q => V (r + 1) ((first + q) * 5 + 0)) 1)) (r + 1) ((first + 4 + 1) * 5 + 1) (cwd (fun q => V (r + 1) ((first + q) * 5 + 1)) 1)) (r + 1) ((first + 4 + 1) * 5 + 2) (cwd (fun q => V (r + 1) ((first + q) * 5 + 2)) 1)) (r + 1) i < 2147483647 := fun i hi => by
    unfold vu
    repeat' split
    all_goals first | exact cwd_lt _ _ | exact hV i hi
  have hx7 : ∀ j q, j < 4 → q < 4 → (vu (vu (vu (vu (vu (vu (vu V (r + 1) ((first + 4 + 0) * 5 + 0) (cwd (fun q => V (r + 1) ((first + q) * 5 + 0)) 0)) (r + 1) ((first + 4 + 0) * 5 + 1) (cwd (fun q => V (r + 1) ((first + q) * 5 + 1)) 0)) (r + 1) ((first + 4 + 0) * 5 + 2) (cwd (fun q => V (r + 1) ((first + q) * 5 + 2)) 0)) (r + 1) ((first + 4 + 0) * 5 + 3) (cwd (fun q => V (r + 1) ((first + q) * 5 + 3)) 0)) (r + 1) ((first + 4 + 1) * 5 + 0) (cwd (fun q => V (r + 1) ((first + q) * 5 + 0)) 1)) (r + 1) ((first + 4 + 1) * 5 + 1) (cwd (fun q => V (r + 1) ((first + q) * 5 + 1)) 1)) (r + 1) ((first + 4 + 1) * 5 + 2) (cwd (fun q => V (r + 1) ((first + q) * 5 + 2)) 1)) (r + 1) ((first + q) * 5 + j) = V (r + 1) ((first + q) * 5 + j) := fun j q hj hq => by rw [vu_ne _ _ (by omega), vu_ne _ _ (by omega), vu_ne _ _ (by omega), vu_ne _ _ (by omega), vu_ne _ _ (by omega), vu_ne _ _ (by omega), vu_ne _ _ (by omega)]
  refine j_iload_n d_R_spread_9 rfl 0 rfl ?_
  refine n_iconst d_R_spread_10 4 (by decide) ?_
  refine n_icmp_ge d_R_spread_11 37 rfl (by omega) (by omega) (fun h => absurd h (by omega)) (fun h => ?_)
  refine j_aload_n d_R_spread_14 rfl 2 rfl ?_
  refine j_iload_n d_R_spread_15 rfl 3 rfl ?_
  refine n_iconst d_R_spread_16 4 (by decide) ?_
  refine n_add d_R_spread_17 ?_
  refine j_iload_n d_R_spread_18 rfl 1 rfl ?_
  refine n_add d_R_spread_19 ?_
  refine j_iload_n d_R_spread_20 rfl 0 rfl ?_
  refine j_aload_n d_R_spread_21 rfl 2 rfl ?_
  refine j_iload_n d_R_spread_22 rfl 3 rfl ?_
  refine j_iload_n d_R_spread_23 rfl 1 rfl ?_
  refine j_iload_n d_R_spread_24 rfl 0 rfl ?_
  refine v_callV d_R_spread_25 mt_R_codedWord ln_R_29 im_R_codedWord se_R_codedWord hr (Nat.lt_of_succ_lt hlt) rfl rfl ⟨Nat.le_of_ble_eq_true rfl, Nat.le_of_ble_eq_true rfl⟩ (Nat.le_of_ble_eq_true rfl) rfl (Nat.zero_le _) (Nat.zero_le _) (c_R_codedWord g (vu (vu (vu (vu (vu (vu (vu V (r + 1) ((first + 4 + 0) * 5 + 0) (cwd (fun q => V (r + 1) ((first + q) * 5 + 0)) 0)) (r + 1) ((first + 4 + 0) * 5 + 1) (cwd (fun q => V (r + 1) ((first + q) * 5 + 1)) 0)) (r + 1) ((first + 4 + 0) * 5 + 2) (cwd (fun q => V (r + 1) ((first + q) * 5 + 2)) 0)) (r + 1) ((first + 4 + 0) * 5 + 3) (cwd (fun q => V (r + 1) ((first + q) * 5 + 3)) 0)) (r + 1) ((first + 4 + 1) * 5 + 0) (cwd (fun q => V (r + 1) ((first + q) * 5 + 0)) 1)) (r + 1) ((first + 4 + 1) * 5 + 1) (cwd (fun q => V (r + 1) ((first + q) * 5 + 1)) 1)) (r + 1) ((first + 4 + 1) * 5 + 2) (cwd (fun q => V (r + 1) ((first + q) * 5 + 2)) 1)) L r hr hn hlt first 1 3 hf (by omega) (by omega) hv7) rfl ?_
  rintro _ _ _ ⟨rfl, rfl, rfl⟩
  rw [show cwd (fun q => (vu (vu (vu (vu (vu (vu (vu V (r + 1) ((first + 4 + 0) * 5 + 0) (cwd (fun q => V (r + 1) ((first + q) * 5 + 0)) 0)) (r + 1) ((first + 4 + 0) * 5 + 1) (cwd (fun q => V (r + 1) ((first + q) * 5 + 1)) 0)) (r + 1) ((first + 4 + 0) * 5 + 2) (cwd (fun q => V (r + 1) ((first + q) * 5 + 2)) 0)) (r + 1) ((first + 4 + 0) * 5 + 3) (cwd (fun q => V (r + 1) ((first + q) * 5 + 3)) 0)) (r + 1) ((first + 4 + 1) * 5 + 0) (cwd (fun q => V (r + 1) ((first + q) * 5 + 0)) 1)) (r + 1) ((first + 4 + 1) * 5 + 1) (cwd (fun q => V (r + 1) ((first + q) * 5 + 1)) 1)) (r + 1) ((first + 4 + 1) * 5 + 2) (cwd (fun q => V (r + 1) ((first + q) * 5 + 2)) 1)) (r + 1) ((first + q) * 5 + 3)) 1 = cwd (fun q => V (r + 1) ((first + q) * 5 + 3)) 1 from cwd_eq 1 (fun q hq => hx7 3 q (by omega) hq)]
  refine v_callV d_R_spread_28 mt_R_set ln_R_21 im_R_set se_R_set hr (Nat.lt_of_succ_lt hlt) rfl rfl ⟨Nat.le_of_ble_eq_true rfl, Nat.le_of_ble_eq_true rfl⟩ (Nat.le_of_ble_eq_true rfl) rfl (Nat.zero_le _) (Nat.zero_le _) (c_R_set g (vu (vu (vu (vu (vu (vu (vu V (r + 1) ((first + 4 + 0) * 5 + 0) (cwd (fun q => V (r + 1) ((first + q) * 5 + 0)) 0)) (r + 1) ((first + 4 + 0) * 5 + 1) (cwd (fun q => V (r + 1) ((first + q) * 5 + 1)) 0)) (r + 1) ((first + 4 + 0) * 5 + 2) (cwd (fun q => V (r + 1) ((first + q) * 5 + 2)) 0)) (r + 1) ((first + 4 + 0) * 5 + 3) (cwd (fun q => V (r + 1) ((first + q) * 5 + 3)) 0)) (r + 1) ((first + 4 + 1) * 5 + 0) (cwd (fun q => V (r + 1) ((first + q) * 5 + 0)) 1)) (r + 1) ((first + 4 + 1) * 5 + 1) (cwd (fun q => V (r + 1) ((first + q) * 5 + 1)) 1)) (r + 1) ((first + 4 + 1) * 5 + 2) (cwd (fun q => V (r + 1) ((first + q) * 5 + 2)) 1)) L r hr hn hlt (first + 4 + 1) 3 (by omega) (by omega) _) rfl ?_
  rintro _ _ _ ⟨rfl, rfl, rfl⟩
  refine n_iinc d_R_spread_31 1 (by decide) 0 rfl (Nat.le_of_ble_eq_true rfl) (lv' := [(3, .int (nI 4)), _, _, _]) rfl ?_
  refine j_goto d_R_spread_34 9 rfl ?_
  refine j_iload_n d_R_spread_9 rfl 0 rfl ?_
  refine n_iconst d_R_spread_10 4 (by decide) ?_
  refine n_icmp_ge d_R_spread_11 37 rfl (by omega) (by omega) (fun h => ?_) (fun h => absurd h (by omega))
  refine n_iinc d_R_spread_37 1 (by decide) 1 rfl (Nat.le_of_ble_eq_true rfl) (lv' := [(2, .int (nI 2)), _, _, _]) rfl ?_
  refine j_goto d_R_spread_40 2 rfl ?_
  refine j_iload_n d_R_spread_2 rfl 0 rfl ?_
  refine n_iconst d_R_spread_3 2 (by decide) ?_
  refine n_icmp_ge d_R_spread_4 43 rfl (by omega) (by omega) (fun h => ?_) (fun h => absurd h (by omega))
  exact v_vret d_R_spread_43 rfl (Nat.zero_le _) (Nat.zero_le _) rfl jA0_rfl
def nms (V : Nat → Nat → Nat) (fr : Nat) : Nat := (if fr < 1 ∧ V 84 0 = 0 then 0 else if fr < 2 ∧ V 84 1 = 0 then 1 else if fr < 3 ∧ V 84 2 = 0 then 2 else if fr < 4 ∧ V 84 3 = 0 then 3 else 4)
theorem c_R_nextMissing (g : jG) (V : Nat → Nat → Nat) (L : Nat → Nat → Int64) (fr : Nat) (hfr : fr ≤ 4) (hV : ∀ i, i < 6 → V 84 i ≤ 1) : jK g Y_R_nextMissing (0, 0) [.ref (jb g + 84), .int (nI fr)] V L (jA0 (some (.int (nI (nms V fr)))) V L) := by
  refine jK_entry (by decide +kernel) rfl (Nat.le_of_ble_eq_true rfl) ?_
  show jJ (g, Y_R_nextMissing, (0, 0), 0, 0, jVQ g (jA0 (some (.int (nI (nms V fr)))) V L)) [(0, .ref (jb g + 84)), (1, .int (nI fr))] (jv (g, Y_R_nextMissing, (0, 0), 0, 0, jVQ g (jA0 (some (.int (nI (nms V fr)))) V L)) V L 0 0) 0 []
  refine j_iload_n d_R_nextMissing_0 rfl 1 rfl ?_
  refine j_istore_n d_R_nextMissing_1 (i := 2) rfl (Nat.le_of_ble_eq_true rfl) (lv' := [_, _, _]) rfl ?_
  refine j_lv [1, 0] rfl ?_
  generalize hφ : jA0 (some (.int (nI (nms V fr)))) V L = φ
  have loop : ∀ (m q : Nat), q + m = 4 → fr ≤ q → (∀ i, fr ≤ i → i < q → ¬ V 84 i = 0) → jJ (g, Y_R_nextMissing, (0, 0), 0, 0, jVQ g φ) [(0, .ref (jb g + 84)), (2, .int (nI q))] (jv (g, Y_R_nextMissing, (0, 0), 0, 0, jVQ g φ) V L 0 0) 2 [] := by
    intro m
    induction m with
    | zero =>
      intro q hq h1 h2
      refine j_iload_n d_R_nextMissing_2 rfl 1 rfl ?_
      refine n_iconst d_R_nextMissing_3 4 (by decide) ?_
      refine n_icmp_ge d_R_nextMissing_4 21 rfl (by omega) (by omega) (fun h => ?_) (fun h => absurd h (by omega))
      subst hφ
      have e : nms V fr = 4 := by
        unfold nms
        have a0 := h2 0
        have a1 := h2 1
        have a2 := h2 2
        have a3 := h2 3
        repeat' split
        all_goals omega
      rw [e]
      refine n_iconst d_R_nextMissing_21 4 (by decide) ?_
      exact v_iret d_R_nextMissing_22 rfl (Nat.zero_le _) (Nat.zero_le _) rfl jA0_rfl
    | succ m ih =>
      intro q hq h1 h2
      refine j_iload_n d_R_nextMissing_2 rfl 1 rfl ?_
      refine n_iconst d_R_nextMissing_3 4 (by decide) ?_
      refine n_icmp_ge d_R_nextMissing_4 21 rfl (by omega) (by omega) (fun h => absurd h (by omega)) (fun h => ?_)
      refine j_aload_n d_R_nextMissing_7 rfl 0 rfl ?_
      refine j_iload_n d_R_nextMissing_8 rfl 1 rfl ?_
      refine v_zld d_R_nextMissing_9 rfl rfl (Nat.le_of_ble_eq_true rfl) rfl (by omega) (by omega) ?_
      refine n_if_ne d_R_nextMissing_10 15 rfl (Nat.lt_of_le_of_lt (hV q (by omega)) (by decide)) (fun h3 => ?_) (fun h3 => ?_)
      · refine n_iinc d_R_nextMissing_15 1 (by decide) 1 rfl (Nat.le_of_ble_eq_true rfl) (lv' := [_, _]) rfl ?_
        refine j_goto d_R_nextMissing_18 2 rfl ?_
        refine j_lv [1, 0] rfl ?_
        refine ih (q + 1) (by omega) (by omega) (fun i hi h5 => ?_)
        by_cases h6 : i = q
        · rw [h6]; exact h3
        · exact h2 i hi (by omega)
      · subst hφ
        have e9 : V 84 q = 0 := h3
        have e : nms V fr = q := by
          unfold nms
          have a0 := h2 0
          have a1 := h2 1
          have a2 := h2 2
          have a3 := h2 3
          rcases (by omega : q = 0 ∨ q = 1 ∨ q = 2 ∨ q = 3) with rfl | rfl | rfl | rfl
          all_goals (repeat' split)
          all_goals omega
        rw [e]
        refine j_iload_n d_R_nextMissing_13 rfl 1 rfl ?_
        exact v_iret d_R_nextMissing_14 rfl (Nat.zero_le _) (Nat.zero_le _) rfl jA0_rfl
  exact loop (4 - fr) fr (by omega) (Nat.le_refl _) (fun i h1 h2 => absurd h1 (by omega))
def rst (V : Nat → Nat → Nat) (r first c j : Nat) : Nat := fmi (V (r + 1) ((first + 4 + c) * 5 + j)) (cwd (fun q => V (r + 1) ((first + q) * 5 + j)) c)
theorem rst_eq {V W : Nat → Nat → Nat} {r first c j : Nat} (h : ∀ i, (first ≤ i ∧ i < first + 4) ∨ i = first + 4 + c → W (r + 1) (i * 5 + j) = V (r + 1) (i * 5 + j)) : rst W r first c j = rst V r first c j := by
  unfold rst
  rw [h (first + 4 + c) (Or.inr rfl), cwd_eq c (fun q hq => h (first + q) (Or.inl ⟨by omega, by omega⟩))]
def rc1 (V : Nat → Nat → Nat) (r first ms c : Nat) : Nat → Nat → Nat := (vu (vu (vu (vu V (r + 1) ((first + ms) * 5 + 0) (fti (rst V r first c 0) (4 + c - ms))) (r + 1) ((first + ms) * 5 + 1) (fti (rst V r first c 1) (4 + c - ms))) (r + 1) ((first + ms) * 5 + 2) (fti (rst V r first c 2) (4 + c - ms))) (r + 1) ((first + ms) * 5 + 3) (fti (rst V r first c 3) (4 + c - ms)))
theorem c_R_recoverOne (g : jG) (V : Nat → Nat → Nat) (L : Nat → Nat → Int64) (r : Nat) (hr : jshp r = jo 5 [(r + 1) + 2]) (hn : jshp (r + 1) = .inl (0, 120)) (hlt : r + 1 < 104) (first ms c : Nat) (hf : first + 6 ≤ 24) (hm : ms < 4) (hc : c < 2) (hV : ∀ i, i < 120 → V (r + 1) i < 2147483647) : jK g Y_R_recoverOne (3, 70) [.ref (jb g + r), .int (nI first), .int (nI ms), .int (nI c)] V L (jA0 none (rc1 V r first ms c) L) := by
  refine jK_entry (by decide +kernel) rfl (Nat.le_of_ble_eq_true rfl) ?_
  show jJ (g, Y_R_recoverOne, (3, 70), 0, 0, jVQ g (jA0 none (rc1 V r first ms c) L)) [(0, .ref (jb g + r)), (1, .int (nI first)), (2, .int (nI ms)), (3, .int (nI c))] (jv (g, Y_R_recoverOne, (3, 70), 0, 0, jVQ g (jA0 none (rc1 V r first ms c) L)) V L 0 0) 0 []
  refine n_iconst d_R_recoverOne_0 0 (by decide) ?_
  refine j_istore d_R_recoverOne_1 (i := 4) (Nat.le_of_ble_eq_true rfl) (lv' := [_, _, _, _, _]) rfl ?_
  refine j_iload d_R_recoverOne_3 0 rfl ?_
  refine n_iconst d_R_recoverOne_5 4 (by decide) ?_
  refine n_icmp_ge d_R_recoverOne_6 40 rfl (by omega) (by omega) (fun h => absurd h (by omega)) (fun h => ?_)
  refine j_aload_n d_R_recoverOne_9 rfl 1 rfl ?_
  refine j_iload_n d_R_recoverOne_10 rfl 2 rfl ?_
  refine j_iload_n d_R_recoverOne_11 rfl 3 rfl ?_
  refine n_add d_R_recoverOne_12 ?_
  refine j_iload d_R_recoverOne_13 0 rfl ?_
  refine j_aload_n d_R_recoverOne_15 rfl 1 rfl ?_
  refine j_iload_n d_R_recoverOne_16 rfl 2 rfl ?_
  refine j_iload_n d_R_recoverOne_17 rfl 4 rfl ?_
  refine j_iload d_R_recoverOne_18 0 rfl ?_
  refine v_callV d_R_recoverOne_20 mt_R_rest ln_R_58 im_R_rest se_R_rest hr (Nat.lt_of_succ_lt hlt) rfl rfl ⟨Nat.le_of_ble_eq_true rfl, Nat.le_of_ble_eq_true rfl⟩ (Nat.le_of_ble_eq_true rfl) rfl (Nat.zero_le _) (Nat.zero_le _) (c_R_rest g V L r hr hn hlt first c 0 hf hc (by omega) hV) rfl ?_
  rintro _ _ _ ⟨rfl, rfl, rfl⟩
  rw [show fmi (V (r + 1) ((first + 4 + c) * 5 + 0)) (cwd (fun q => V (r + 1) ((first + q) * 5 + 0)) c) = rst V r first c 0 from rst_eq (fun i hi => rfl)]
  refine n_iconst d_R_recoverOne_23 4 (by decide) ?_
  refine j_iload_n d_R_recoverOne_24 rfl 4 rfl ?_
  refine n_add d_R_recoverOne_25 ?_
  refine j_iload_n d_R_recoverOne_26 rfl 3 rfl ?_
  refine n_sub d_R_recoverOne_27 (by omega) ?_
  refine v_callS d_R_recoverOne_28 mt_F_times ln_R_38 sm_F_times ⟨Nat.le_of_ble_eq_true rfl, Nat.le_of_ble_eq_true rfl⟩ (Nat.le_of_ble_eq_true rfl) rfl (Nat.zero_le _) (Nat.zero_le _) (c_F_ti g V L (rst V r first c 0) (4 + c - ms) (Nat.lt_of_lt_of_le (fmi_lt _ _) (by decide)) (by omega)) rfl ?_
  rintro _ _ _ ⟨rfl, rfl, rfl⟩
  refine v_callV d_R_recoverOne_31 mt_R_set ln_R_21 im_R_set se_R_set hr (Nat.lt_of_succ_lt hlt) rfl rfl ⟨Nat.le_of_ble_eq_true rfl, Nat.le_of_ble_eq_true rfl⟩ (Nat.le_of_ble_eq_true rfl) rfl (Nat.zero_le _) (Nat.zero_le _) (c_R_set g V L r hr hn hlt (first + ms) 0 (by omega) (by omega) _) rfl ?_
  rintro _ _ _ ⟨rfl, rfl, rfl⟩
  refine n_iinc d_R_recoverOne_34 1 (by decide) 0 rfl (Nat.le_of_ble_eq_true rfl) (lv' := [(4, .int (nI 1)), _, _, _, _]) rfl ?_
  refine j_goto d_R_recoverOne_37 3 rfl ?_
  have hv0 : ∀ i, i < 120 → (vu V (r + 1) ((first + ms) * 5 + 0) (fti (rst V r first c 0) (4 + c - ms))) (r + 1) i < 2147483647 := fun i hi => by
    unfold vu
    repeat' split
    all_goals first | exact fti_lt _ _ | exact hV i hi
  refine j_iload d_R_recoverOne_3 0 rfl ?_
  refine n_iconst d_R_recoverOne_5 4 (by decide) ?_
  refine n_icmp_ge d_R_recoverOne_6 40 rfl (by omega) (by omega) (fun h => absurd h (by omega)) (fun h => ?_)
  refine j_aload_n d_R_recoverOne_9 rfl 1 rfl ?_
  refine j_iload_n d_R_recoverOne_10 rfl 2 rfl ?_
  refine j_iload_n d_R_recoverOne_11 rfl 3 rfl ?_
  refine n_add d_R_recoverOne_12 ?_
  refine j_iload d_R_recoverOne_13 0 rfl ?_
  refine j_aload_n d_R_recoverOne_15 rfl 1 rfl ?_
  refine j_iload_n d_R_recoverOne_16 rfl 2 rfl ?_
  refine j_iload_n d_R_recoverOne_17 rfl 4 rfl ?_
  refine j_iload d_R_recoverOne_18 0 rfl ?_
  refine v_callV d_R_recoverOne_20 mt_R_rest ln_R_58 im_R_rest se_R_rest hr (Nat.lt_of_succ_lt hlt) rfl rfl ⟨Nat.le_of_ble_eq_true rfl, Nat.le_of_ble_eq_true rfl⟩ (Nat.le_of_ble_eq_true rfl) rfl (Nat.zero_le _) (Nat.zero_le _) (c_R_rest g (vu V (r + 1) ((first + ms) * 5 + 0) (fti (rst V r first c 0) (4 + c - ms))) L r hr hn hlt first c 1 hf hc (by omega) hv0) rfl ?_
  rintro _ _ _ ⟨rfl, rfl, rfl⟩
  rw [show fmi ((vu V (r + 1) ((first + ms) * 5 + 0) (fti (rst V r first c 0) (4 + c - ms))) (r + 1) ((first + 4 + c) * 5 + 1)) (cwd (fun q => (vu V (r + 1) ((first + ms) * 5 + 0) (fti (rst V r first c 0) (4 + c - ms))) (r + 1) ((first + q) * 5 + 1)) c) = rst V r first c 1 from rst_eq (fun i hi => by rw [vu_ne _ _ (by omega)])]
  refine n_iconst d_R_recoverOne_23 4 (by decide) ?_
  refine j_iload_n d_R_recoverOne_24 rfl 4 rfl ?_
  refine n_add d_R_recoverOne_25 ?_
  refine j_iload_n d_R_recoverOne_26 rfl 3 rfl ?_
  refine n_sub d_R_recoverOne_27 (by omega) ?_
  refine v_callS d_R_recoverOne_28 mt_F_times ln_R_38 sm_F_times ⟨Nat.le_of_ble_eq_true rfl, Nat.le_of_ble_eq_true rfl⟩ (Nat.le_of_ble_eq_true rfl) rfl (Nat.zero_le _) (Nat.zero_le _) (c_F_ti g (vu V (r + 1) ((first + ms) * 5 + 0) (fti (rst V r first c 0) (4 + c - ms))) L (rst V r first c 1) (4 + c - ms) (Nat.lt_of_lt_of_le (fmi_lt _ _) (by decide)) (by omega)) rfl ?_
  rintro _ _ _ ⟨rfl, rfl, rfl⟩
  refine v_callV d_R_recoverOne_31 mt_R_set ln_R_21 im_R_set se_R_set hr (Nat.lt_of_succ_lt hlt) rfl rfl ⟨Nat.le_of_ble_eq_true rfl, Nat.le_of_ble_eq_true rfl⟩ (Nat.le_of_ble_eq_true rfl) rfl (Nat.zero_le _) (Nat.zero_le _) (c_R_set g (vu V (r + 1) ((first + ms) * 5 + 0) (fti (rst V r first c 0) (4 + c - ms))) L r hr hn hlt (first + ms) 1 (by omega) (by omega) _) rfl ?_
  rintro _ _ _ ⟨rfl, rfl, rfl⟩
  refine n_iinc d_R_recoverOne_34 1 (by decide) 0 rfl (Nat.le_of_ble_eq_true rfl) (lv' := [(4, .int (nI 2)), _, _, _, _]) rfl ?_
  refine j_goto d_R_recoverOne_37 3 rfl ?_
  have hv1 : ∀ i, i < 120 → (vu (vu V (r + 1) ((first + ms) * 5 + 0) (fti (rst V r first c 0) (4 + c - ms))) (r + 1) ((first + ms) * 5 + 1) (fti (rst V r first c 1) (4 + c - ms))) (r + 1) i < 2147483647 := fun i hi => by
    unfold vu
    repeat' split
    all_goals first | exact fti_lt _ _ | exact hV i hi
  refine j_iload d_R_recoverOne_3 0 rfl ?_
  refine n_iconst d_R_recoverOne_5 4 (by decide) ?_
  refine n_icmp_ge d_R_recoverOne_6 40 rfl (by omega) (by omega) (fun h => absurd h (by omega)) (fun h => ?_)
  refine j_aload_n d_R_recoverOne_9 rfl 1 rfl ?_
  refine j_iload_n d_R_recoverOne_10 rfl 2 rfl ?_
  refine j_iload_n d_R_recoverOne_11 rfl 3 rfl ?_
  refine n_add d_R_recoverOne_12 ?_
  refine j_iload d_R_recoverOne_13 0 rfl ?_
  refine j_aload_n d_R_recoverOne_15 rfl 1 rfl ?_
  refine j_iload_n d_R_recoverOne_16 rfl 2 rfl ?_
  refine j_iload_n d_R_recoverOne_17 rfl 4 rfl ?_
  refine j_iload d_R_recoverOne_18 0 rfl ?_
  refine v_callV d_R_recoverOne_20 mt_R_rest ln_R_58 im_R_rest se_R_rest hr (Nat.lt_of_succ_lt hlt) rfl rfl ⟨Nat.le_of_ble_eq_true rfl, Nat.le_of_ble_eq_true rfl⟩ (Nat.le_of_ble_eq_true rfl) rfl (Nat.zero_le _) (Nat.zero_le _) (c_R_rest g (vu (vu V (r + 1) ((first + ms) * 5 + 0) (fti (rst V r first c 0) (4 + c - ms))) (r + 1) ((first + ms) * 5 + 1) (fti (rst V r first c 1) (4 + c - ms))) L r hr hn hlt first c 2 hf hc (by omega) hv1) rfl ?_
  rintro _ _ _ ⟨rfl, rfl, rfl⟩
  rw [show fmi ((vu (vu V (r + 1) ((first + ms) * 5 + 0) (fti (rst V r first c 0) (4 + c - ms))) (r + 1) ((first + ms) * 5 + 1) (fti (rst V r first c 1) (4 + c - ms))) (r + 1) ((first + 4 + c) * 5 + 2)) (cwd (fun q => (vu (vu V (r + 1) ((first + ms) * 5 + 0) (fti (rst V r first c 0) (4 + c - ms))) (r + 1) ((first + ms) * 5 + 1) (fti (rst V r first c 1) (4 + c - ms))) (r + 1) ((first + q) * 5 + 2)) c) = rst V r first c 2 from rst_eq (fun i hi => by rw [vu_ne _ _ (by omega), vu_ne _ _ (by omega)])]
  refine n_iconst d_R_recoverOne_23 4 (by decide) ?_
  refine j_iload_n d_R_recoverOne_24 rfl 4 rfl ?_
  refine n_add d_R_recoverOne_25 ?_
  refine j_iload_n d_R_recoverOne_26 rfl 3 rfl ?_
  refine n_sub d_R_recoverOne_27 (by omega) ?_
  refine v_callS d_R_recoverOne_28 mt_F_times ln_R_38 sm_F_times ⟨Nat.le_of_ble_eq_true rfl, Nat.le_of_ble_eq_true rfl⟩ (Nat.le_of_ble_eq_true rfl) rfl (Nat.zero_le _) (Nat.zero_le _) (c_F_ti g (vu (vu V (r + 1) ((first + ms) * 5 + 0) (fti (rst V r first c 0) (4 + c - ms))) (r + 1) ((first + ms) * 5 + 1) (fti (rst V r first c 1) (4 + c - ms))) L (rst V r first c 2) (4 + c - ms) (Nat.lt_of_lt_of_le (fmi_lt _ _) (by decide)) (by omega)) rfl ?_
  rintro _ _ _ ⟨rfl, rfl, rfl⟩
  refine v_callV d_R_recoverOne_31 mt_R_set ln_R_21 im_R_set se_R_set hr (Nat.lt_of_succ_lt hlt) rfl rfl ⟨Nat.le_of_ble_eq_true rfl, Nat.le_of_ble_eq_true rfl⟩ (Nat.le_of_ble_eq_true rfl) rfl (Nat.zero_le _) (Nat.zero_le _) (c_R_set g (vu (vu V (r + 1) ((first + ms) * 5 + 0) (fti (rst V r first c 0) (4 + c - ms))) (r + 1) ((first + ms) * 5 + 1) (fti (rst V r first c 1) (4 + c - ms))) L r hr hn hlt (first + ms) 2 (by omega) (by omega) _) rfl ?_
  rintro _ _ _ ⟨rfl, rfl, rfl⟩
  refine n_iinc d_R_recoverOne_34 1 (by decide) 0 rfl (Nat.le_of_ble_eq_true rfl) (lv' := [(4, .int (nI 3)), _, _, _, _]) rfl ?_
  refine j_goto d_R_recoverOne_37 3 rfl ?_
  have hv2 : ∀ i, i < 120 → (vu (vu (vu V (r + 1) ((first + ms) * 5 + 0) (fti (rst V r first c 0) (4 + c - ms))) (r + 1) ((first + ms) * 5 + 1) (fti (rst V r first c 1) (4 + c - ms))) (r + 1) ((first + ms) * 5 + 2) (fti (rst V r first c 2) (4 + c - ms))) (r + 1) i < 2147483647 := fun i hi => by
    unfold vu
    repeat' split
    all_goals first | exact fti_lt _ _ | exact hV i hi
  refine j_iload d_R_recoverOne_3 0 rfl ?_
  refine n_iconst d_R_recoverOne_5 4 (by decide) ?_
  refine n_icmp_ge d_R_recoverOne_6 40 rfl (by omega) (by omega) (fun h => absurd h (by omega)) (fun h => ?_)
  refine j_aload_n d_R_recoverOne_9 rfl 1 rfl ?_
  refine j_iload_n d_R_recoverOne_10 rfl 2 rfl ?_
  refine j_iload_n d_R_recoverOne_11 rfl 3 rfl ?_
  refine n_add d_R_recoverOne_12 ?_
  refine j_iload d_R_recoverOne_13 0 rfl ?_
  refine j_aload_n d_R_recoverOne_15 rfl 1 rfl ?_
  refine j_iload_n d_R_recoverOne_16 rfl 2 rfl ?_
  refine j_iload_n d_R_recoverOne_17 rfl 4 rfl ?_
  refine j_iload d_R_recoverOne_18 0 rfl ?_
  refine v_callV d_R_recoverOne_20 mt_R_rest ln_R_58 im_R_rest se_R_rest hr (Nat.lt_of_succ_lt hlt) rfl rfl ⟨Nat.le_of_ble_eq_true rfl, Nat.le_of_ble_eq_true rfl⟩ (Nat.le_of_ble_eq_true rfl) rfl (Nat.zero_le _) (Nat.zero_le _) (c_R_rest g (vu (vu (vu V (r + 1) ((first + ms) * 5 + 0) (fti (rst V r first c 0) (4 + c - ms))) (r + 1) ((first + ms) * 5 + 1) (fti (rst V r first c 1) (4 + c - ms))) (r + 1) ((first + ms) * 5 + 2) (fti (rst V r first c 2) (4 + c - ms))) L r hr hn hlt first c 3 hf hc (by omega) hv2) rfl ?_
  rintro _ _ _ ⟨rfl, rfl, rfl⟩
  rw [show fmi ((vu (vu (vu V (r + 1) ((first + ms) * 5 + 0) (fti (rst V r first c 0) (4 + c - ms))) (r + 1) ((first + ms) * 5 + 1) (fti (rst V r first c 1) (4 + c - ms))) (r + 1) ((first + ms) * 5 + 2) (fti (rst V r first c 2) (4 + c - ms))) (r + 1) ((first + 4 + c) * 5 + 3)) (cwd (fun q => (vu (vu (vu V (r + 1) ((first + ms) * 5 + 0) (fti (rst V r first c 0) (4 + c - ms))) (r + 1) ((first + ms) * 5 + 1) (fti (rst V r first c 1) (4 + c - ms))) (r + 1) ((first + ms) * 5 + 2) (fti (rst V r first c 2) (4 + c - ms))) (r + 1) ((first + q) * 5 + 3)) c) = rst V r first c 3 from rst_eq (fun i hi => by rw [vu_ne _ _ (by omega), vu_ne _ _ (by omega), vu_ne _ _ (by omega)])]
  refine n_iconst d_R_recoverOne_23 4 (by decide) ?_
  refine j_iload_n d_R_recoverOne_24 rfl 4 rfl ?_
  refine n_add d_R_recoverOne_25 ?_
  refine j_iload_n d_R_recoverOne_26 rfl 3 rfl ?_
  refine n_sub d_R_recoverOne_27 (by omega) ?_
  refine v_callS d_R_recoverOne_28 mt_F_times ln_R_38 sm_F_times ⟨Nat.le_of_ble_eq_true rfl, Nat.le_of_ble_eq_true rfl⟩ (Nat.le_of_ble_eq_true rfl) rfl (Nat.zero_le _) (Nat.zero_le _) (c_F_ti g (vu (vu (vu V (r + 1) ((first + ms) * 5 + 0) (fti (rst V r first c 0) (4 + c - ms))) (r + 1) ((first + ms) * 5 + 1) (fti (rst V r first c 1) (4 + c - ms))) (r + 1) ((first + ms) * 5 + 2) (fti (rst V r first c 2) (4 + c - ms))) L (rst V r first c 3) (4 + c - ms) (Nat.lt_of_lt_of_le (fmi_lt _ _) (by decide)) (by omega)) rfl ?_
  rintro _ _ _ ⟨rfl, rfl, rfl⟩
  refine v_callV d_R_recoverOne_31 mt_R_set ln_R_21 im_R_set se_R_set hr (Nat.lt_of_succ_lt hlt) rfl rfl ⟨Nat.le_of_ble_eq_true rfl, Nat.le_of_ble_eq_true rfl⟩ (Nat.le_of_ble_eq_true rfl) rfl (Nat.zero_le _) (Nat.zero_le _) (c_R_set g (vu (vu (vu V (r + 1) ((first + ms) * 5 + 0) (fti (rst V r first c 0) (4 + c - ms))) (r + 1) ((first + ms) * 5 + 1) (fti (rst V r first c 1) (4 + c - ms))) (r + 1) ((first + ms) * 5 + 2) (fti (rst V r first c 2) (4 + c - ms))) L r hr hn hlt (first + ms) 3 (by omega) (by omega) _) rfl ?_
  rintro _ _ _ ⟨rfl, rfl, rfl⟩
  refine n_iinc d_R_recoverOne_34 1 (by decide) 0 rfl (Nat.le_of_ble_eq_true rfl) (lv' := [(4, .int (nI 4)), _, _, _, _]) rfl ?_
  refine j_goto d_R_recoverOne_37 3 rfl ?_
  refine j_iload d_R_recoverOne_3 0 rfl ?_
  refine n_iconst d_R_recoverOne_5 4 (by decide) ?_
  refine n_icmp_ge d_R_recoverOne_6 40 rfl (by omega) (by omega) (fun h => ?_) (fun h => absurd h (by omega))
  exact v_vret d_R_recoverOne_40 rfl (Nat.zero_le _) (Nat.zero_le _) rfl jA0_rfl
end
section
/-! recovery of two rows, of a group; the secret -/
def rtx (V : Nat → Nat → Nat) (r first lo hi j : Nat) : Nat := fti (rst V r first 0 j) ((4 - lo) * (4 - hi))
def rtb (V : Nat → Nat → Nat) (r first lo hi j : Nat) : Nat := fmi (fti (rst V r first 1 j) ((4 - lo + 1) * (4 - hi + 1))) (rtx V r first lo hi j)
def rth (V : Nat → Nat → Nat) (r first lo hi j : Nat) : Nat := fti (fmi (rtx V r first lo hi j) (fti (rtb V r first lo hi j) (4 - hi))) (jinvN (4 - lo - (4 - hi)))
def rtl (V : Nat → Nat → Nat) (r first lo hi j : Nat) : Nat := fmi (rtb V r first lo hi j) (rth V r first lo hi j)
def rc2 (V : Nat → Nat → Nat) (r first lo hi : Nat) : Nat → Nat → Nat := (vu (vu (vu (vu (vu (vu (vu (vu V (r + 1) ((first + lo) * 5 + 0) (rtl V r first lo hi 0)) (r + 1) ((first + hi) * 5 + 0) (rth V r first lo hi 0)) (r + 1) ((first + lo) * 5 + 1) (rtl V r first lo hi 1)) (r + 1) ((first + hi) * 5 + 1) (rth V r first lo hi 1)) (r + 1) ((first + lo) * 5 + 2) (rtl V r first lo hi 2)) (r + 1) ((first + hi) * 5 + 2) (rth V r first lo hi 2)) (r + 1) ((first + lo) * 5 + 3) (rtl V r first lo hi 3)) (r + 1) ((first + hi) * 5 + 3) (rth V r first lo hi 3))
theorem c_R_recoverTwo (g : jG) (V : Nat → Nat → Nat) (L : Nat → Nat → Int64) (r : Nat) (hr : jshp r = jo 5 [(r + 1) + 2]) (hn : jshp (r + 1) = .inl (0, 120)) (hlt : r + 1 < 104) (first lo hi : Nat) (hf : first + 6 ≤ 24) (hlo : lo < hi) (hhi : hi < 4) (hV : ∀ i, i < 120 → V (r + 1) i < 2147483647) : jK g Y_R_recoverTwo (3, 70) [.ref (jb g + r), .int (nI first), .int (nI lo), .int (nI hi)] V L (jA0 none (rc2 V r first lo hi) L) := by
  refine jK_entry (by decide +kernel) rfl (Nat.le_of_ble_eq_true rfl) ?_
  show jJ (g, Y_R_recoverTwo, (3, 70), 0, 0, jVQ g (jA0 none (rc2 V r first lo hi) L)) [(0, .ref (jb g + r)), (1, .int (nI first)), (2, .int (nI lo)), (3, .int (nI hi))] (jv (g, Y_R_recoverTwo, (3, 70), 0, 0, jVQ g (jA0 none (rc2 V r first lo hi) L)) V L 0 0) 0 []
  have hab : (4 - lo) * (4 - hi) ≤ 16 := Nat.le_trans (Nat.mul_le_mul (Nat.sub_le _ _) (Nat.sub_le _ _)) (by decide)
  have hab1 : (4 - lo + 1) * (4 - hi + 1) ≤ 25 := Nat.le_trans (Nat.mul_le_mul (show 4 - lo + 1 ≤ 5 by omega) (show 4 - hi + 1 ≤ 5 by omega)) (by decide)
  refine n_iconst d_R_recoverTwo_0 4 (by decide) ?_
  refine j_iload_n d_R_recoverTwo_1 rfl 2 rfl ?_
  refine n_sub d_R_recoverTwo_2 (by omega) ?_
  refine j_istore d_R_recoverTwo_3 (i := 4) (Nat.le_of_ble_eq_true rfl) (lv' := [_, _, _, _, _]) rfl ?_
  refine n_iconst d_R_recoverTwo_5 4 (by decide) ?_
  refine j_iload_n d_R_recoverTwo_6 rfl 4 rfl ?_
  refine n_sub d_R_recoverTwo_7 (by omega) ?_
  refine j_istore d_R_recoverTwo_8 (i := 5) (Nat.le_of_ble_eq_true rfl) (lv' := [_, _, _, _, _, _]) rfl ?_
  refine n_iconst d_R_recoverTwo_10 0 (by decide) ?_
  refine j_istore d_R_recoverTwo_11 (i := 6) (Nat.le_of_ble_eq_true rfl) (lv' := [_, _, _, _, _, _, _]) rfl ?_
  refine j_iload d_R_recoverTwo_13 0 rfl ?_
  refine n_iconst d_R_recoverTwo_15 4 (by decide) ?_
  refine n_icmp_ge d_R_recoverTwo_16 123 rfl (by omega) (by omega) (fun h => absurd h (by omega)) (fun h => ?_)
  refine j_aload_n d_R_recoverTwo_19 rfl 3 rfl ?_
  refine j_iload_n d_R_recoverTwo_20 rfl 4 rfl ?_
  refine n_iconst d_R_recoverTwo_21 0 (by decide) ?_
  refine j_iload d_R_recoverTwo_22 0 rfl ?_
  refine v_callV d_R_recoverTwo_24 mt_R_rest ln_R_58 im_R_rest se_R_rest hr (Nat.lt_of_succ_lt hlt) rfl rfl ⟨Nat.le_of_ble_eq_true rfl, Nat.le_of_ble_eq_true rfl⟩ (Nat.le_of_ble_eq_true rfl) rfl (Nat.zero_le _) (Nat.zero_le _) (c_R_rest g V L r hr hn hlt first 0 0 hf (by omega) (by omega) hV) rfl ?_
  rintro _ _ _ ⟨rfl, rfl, rfl⟩
  rw [show fmi (V (r + 1) ((first + 4 + 0) * 5 + 0)) (cwd (fun q => V (r + 1) ((first + q) * 5 + 0)) 0) = rst V r first 0 0 from rst_eq (fun i hi => rfl)]
  refine j_iload d_R_recoverTwo_27 2 rfl ?_
  refine j_iload d_R_recoverTwo_29 1 rfl ?_
  refine n_mul d_R_recoverTwo_31 ?_
  refine v_callS d_R_recoverTwo_32 mt_F_times ln_R_38 sm_F_times ⟨Nat.le_of_ble_eq_true rfl, Nat.le_of_ble_eq_true rfl⟩ (Nat.le_of_ble_eq_true rfl) rfl (Nat.zero_le _) (Nat.zero_le _) (c_F_ti g V L (rst V r first 0 0) ((4 - lo) * (4 - hi)) (Nat.lt_of_lt_of_le (fmi_lt _ _) (by decide)) (by omega)) rfl ?_
  rintro _ _ _ ⟨rfl, rfl, rfl⟩
  refine j_istore d_R_recoverTwo_35 (i := 7) (Nat.le_of_ble_eq_true rfl) (lv' := [_, _, _, _, _, _, _, _]) rfl ?_
  refine j_aload_n d_R_recoverTwo_37 rfl 4 rfl ?_
  refine j_iload_n d_R_recoverTwo_38 rfl 5 rfl ?_
  refine n_iconst d_R_recoverTwo_39 1 (by decide) ?_
  refine j_iload d_R_recoverTwo_40 1 rfl ?_
  refine v_callV d_R_recoverTwo_42 mt_R_rest ln_R_58 im_R_rest se_R_rest hr (Nat.lt_of_succ_lt hlt) rfl rfl ⟨Nat.le_of_ble_eq_true rfl, Nat.le_of_ble_eq_true rfl⟩ (Nat.le_of_ble_eq_true rfl) rfl (Nat.zero_le _) (Nat.zero_le _) (c_R_rest g V L r hr hn hlt first 1 0 hf (by omega) (by omega) hV) rfl ?_
  rintro _ _ _ ⟨rfl, rfl, rfl⟩
  rw [show fmi (V (r + 1) ((first + 4 + 1) * 5 + 0)) (cwd (fun q => V (r + 1) ((first + q) * 5 + 0)) 1) = rst V r first 1 0 from rst_eq (fun i hi => rfl)]
  refine j_iload d_R_recoverTwo_45 3 rfl ?_
  refine n_iconst d_R_recoverTwo_47 1 (by decide) ?_
  refine n_add d_R_recoverTwo_48 ?_
  refine j_iload d_R_recoverTwo_49 2 rfl ?_
  refine n_iconst d_R_recoverTwo_51 1 (by decide) ?_
  refine n_add d_R_recoverTwo_52 ?_
  refine n_mul d_R_recoverTwo_53 ?_
  refine v_callS d_R_recoverTwo_54 mt_F_times ln_R_38 sm_F_times ⟨Nat.le_of_ble_eq_true rfl, Nat.le_of_ble_eq_true rfl⟩ (Nat.le_of_ble_eq_true rfl) rfl (Nat.zero_le _) (Nat.zero_le _) (c_F_ti g V L (rst V r first 1 0) ((4 - lo + 1) * (4 - hi + 1)) (Nat.lt_of_lt_of_le (fmi_lt _ _) (by decide)) (by omega)) rfl ?_
  rintro _ _ _ ⟨rfl, rfl, rfl⟩
  refine j_iload d_R_recoverTwo_57 0 rfl ?_
  refine v_callS d_R_recoverTwo_59 mt_F_minus ln_R_61 sm_F_minus ⟨Nat.le_of_ble_eq_true rfl, Nat.le_of_ble_eq_true rfl⟩ (Nat.le_of_ble_eq_true rfl) rfl (Nat.zero_le _) (Nat.zero_le _) (c_F_mi g V L (fti (rst V r first 1 0) ((4 - lo + 1) * (4 - hi + 1))) (rtx V r first lo hi 0) (fti_lt _ _) (fti_lt _ _)) rfl ?_
  rintro _ _ _ ⟨rfl, rfl, rfl⟩
  refine j_istore d_R_recoverTwo_62 (i := 8) (Nat.le_of_ble_eq_true rfl) (lv' := [_, _, _, _, _, _, _, _, _]) rfl ?_
  refine j_iload d_R_recoverTwo_64 1 rfl ?_
  refine j_iload d_R_recoverTwo_66 0 rfl ?_
  refine j_iload d_R_recoverTwo_68 3 rfl ?_
  refine v_callS d_R_recoverTwo_70 mt_F_times ln_R_38 sm_F_times ⟨Nat.le_of_ble_eq_true rfl, Nat.le_of_ble_eq_true rfl⟩ (Nat.le_of_ble_eq_true rfl) rfl (Nat.zero_le _) (Nat.zero_le _) (c_F_ti g V L (rtb V r first lo hi 0) (4 - hi) (Nat.lt_of_lt_of_le (fmi_lt _ _) (by decide)) (by omega)) rfl ?_
  rintro _ _ _ ⟨rfl, rfl, rfl⟩
  refine v_callS d_R_recoverTwo_73 mt_F_minus ln_R_61 sm_F_minus ⟨Nat.le_of_ble_eq_true rfl, Nat.le_of_ble_eq_true rfl⟩ (Nat.le_of_ble_eq_true rfl) rfl (Nat.zero_le _) (Nat.zero_le _) (c_F_mi g V L (rtx V r first lo hi 0) (fti (rtb V r first lo hi 0) (4 - hi)) (fti_lt _ _) (fti_lt _ _)) rfl ?_
  rintro _ _ _ ⟨rfl, rfl, rfl⟩
  refine j_gets d_R_recoverTwo_76 li_R_33 ?_
  refine j_iload d_R_recoverTwo_79 4 rfl ?_
  refine j_iload d_R_recoverTwo_81 3 rfl ?_
  refine n_sub d_R_recoverTwo_83 (by omega) ?_
  refine v_inv d_R_recoverTwo_84 rfl (by omega) ?_
  refine v_callS d_R_recoverTwo_85 mt_F_times ln_R_38 sm_F_times ⟨Nat.le_of_ble_eq_true rfl, Nat.le_of_ble_eq_true rfl⟩ (Nat.le_of_ble_eq_true rfl) rfl (Nat.zero_le _) (Nat.zero_le _) (c_F_ti g V L (fmi (rtx V r first lo hi 0) (fti (rtb V r first lo hi 0) (4 - hi))) (jinvN (4 - lo - (4 - hi))) (Nat.lt_of_lt_of_le (fmi_lt _ _) (by decide)) (Nat.lt_of_lt_of_le (jinvN_lt _) (by decide))) rfl ?_
  rintro _ _ _ ⟨rfl, rfl, rfl⟩
  refine j_istore d_R_recoverTwo_88 (i := 9) (Nat.le_of_ble_eq_true rfl) (lv' := [_, _, _, _, _, _, _, _, _, _]) rfl ?_
  refine j_aload_n d_R_recoverTwo_90 rfl 6 rfl ?_
  refine j_iload_n d_R_recoverTwo_91 rfl 7 rfl ?_
  refine j_iload_n d_R_recoverTwo_92 rfl 8 rfl ?_
  refine n_add d_R_recoverTwo_93 ?_
  refine j_iload d_R_recoverTwo_94 3 rfl ?_
  refine j_iload d_R_recoverTwo_96 1 rfl ?_
  refine j_iload d_R_recoverTwo_98 0 rfl ?_
  refine v_callS d_R_recoverTwo_100 mt_F_minus ln_R_61 sm_F_minus ⟨Nat.le_of_ble_eq_true rfl, Nat.le_of_ble_eq_true rfl⟩ (Nat.le_of_ble_eq_true rfl) rfl (Nat.zero_le _) (Nat.zero_le _) (c_F_mi g V L (rtb V r first lo hi 0) (rth V r first lo hi 0) (fmi_lt _ _) (fti_lt _ _)) rfl ?_
  rintro _ _ _ ⟨rfl, rfl, rfl⟩
  refine v_callV d_R_recoverTwo_103 mt_R_set ln_R_21 im_R_set se_R_set hr (Nat.lt_of_succ_lt hlt) rfl rfl ⟨Nat.le_of_ble_eq_true rfl, Nat.le_of_ble_eq_true rfl⟩ (Nat.le_of_ble_eq_true rfl) rfl (Nat.zero_le _) (Nat.zero_le _) (c_R_set g V L r hr hn hlt (first + lo) 0 (by omega) (by omega) (rtl V r first lo hi 0)) rfl ?_
  rintro _ _ _ ⟨rfl, rfl, rfl⟩
  refine j_aload_n d_R_recoverTwo_106 rfl 6 rfl ?_
  refine j_iload_n d_R_recoverTwo_107 rfl 7 rfl ?_
  refine j_iload_n d_R_recoverTwo_108 rfl 9 rfl ?_
  refine n_add d_R_recoverTwo_109 ?_
  refine j_iload d_R_recoverTwo_110 3 rfl ?_
  refine j_iload d_R_recoverTwo_112 0 rfl ?_
  refine v_callV d_R_recoverTwo_114 mt_R_set ln_R_21 im_R_set se_R_set hr (Nat.lt_of_succ_lt hlt) rfl rfl ⟨Nat.le_of_ble_eq_true rfl, Nat.le_of_ble_eq_true rfl⟩ (Nat.le_of_ble_eq_true rfl) rfl (Nat.zero_le _) (Nat.zero_le _) (c_R_set g (vu V (r + 1) ((first + lo) * 5 + 0) (rtl V r first lo hi 0)) L r hr hn hlt (first + hi) 0 (by omega) (by omega) (rth V r first lo hi 0)) rfl ?_
  rintro _ _ _ ⟨rfl, rfl, rfl⟩
  refine j_lv [6, 7, 8, 9, 5, 4, 3] rfl ?_
  refine n_iinc d_R_recoverTwo_117 1 (by decide) 6 rfl (Nat.le_of_ble_eq_true rfl) (lv' := [(6, .int (nI 1)), _, _, _, _, _, _]) rfl ?_
  refine j_goto d_R_recoverTwo_120 13 rfl ?_
  have hv0 : ∀ i, i < 120 → (vu (vu V (r + 1) ((first + lo) * 5 + 0) (rtl V r first lo hi 0)) (r + 1) ((first + hi) * 5 + 0) (rth V r first lo hi 0)) (r + 1) i < 2147483647 := fun i hi => by
    unfold vu
    repeat' split
    all_goals first | exact fmi_lt _ _ | exact fti_lt _ _ | exact hV i hi
  refine j_iload d_R_recoverTwo_13 0 rfl ?_
  refine n_iconst d_R_recoverTwo_15 4 (by decide) ?_
  refine n_icmp_ge d_R_recoverTwo_16 123 rfl (by omega) (by omega) (fun h => absurd h (by omega)) (fun h => ?_)
  refine j_aload_n d_R_recoverTwo_19 rfl 1 rfl ?_
  refine j_iload_n d_R_recoverTwo_20 rfl 2 rfl ?_
  refine n_iconst d_R_recoverTwo_21 0 (by decide) ?_
  refine j_iload d_R_recoverTwo_22 0 rfl ?_
  refine v_callV d_R_recoverTwo_24 mt_R_rest ln_R_58 im_R_rest se_R_rest hr (Nat.lt_of_succ_lt hlt) rfl rfl ⟨Nat.le_of_ble_eq_true rfl, Nat.le_of_ble_eq_true rfl⟩ (Nat.le_of_ble_eq_true rfl) rfl (Nat.zero_le _) (Nat.zero_le _) (c_R_rest g (vu (vu V (r + 1) ((first + lo) * 5 + 0) (rtl V r first lo hi 0)) (r + 1) ((first + hi) * 5 + 0) (rth V r first lo hi 0)) L r hr hn hlt first 0 1 hf (by omega) (by omega) hv0) rfl ?_
  rintro _ _ _ ⟨rfl, rfl, rfl⟩
  rw [show fmi ((vu (vu V (r + 1) ((first + lo) * 5 + 0) (rtl V r first lo hi 0)) (r + 1) ((first + hi) * 5 + 0) (rth V r first lo hi 0)) (r + 1) ((first + 4 + 0) * 5 + 1)) (cwd (fun q => (vu (vu V (r + 1) ((first + lo) * 5 + 0) (rtl V r first lo hi 0)) (r + 1) ((first + hi) * 5 + 0) (rth V r first lo hi 0)) (r + 1) ((first + q) * 5 + 1)) 0) = rst V r first 0 1 from rst_eq (fun i hi => by rw [vu_ne _ _ (by omega), vu_ne _ _ (by omega)])]
  refine j_iload d_R_recoverTwo_27 5 rfl ?_
  refine j_iload d_R_recoverTwo_29 6 rfl ?_
  refine n_mul d_R_recoverTwo_31 ?_
  refine v_callS d_R_recoverTwo_32 mt_F_times ln_R_38 sm_F_times ⟨Nat.le_of_ble_eq_true rfl, Nat.le_of_ble_eq_true rfl⟩ (Nat.le_of_ble_eq_true rfl) rfl (Nat.zero_le _) (Nat.zero_le _) (c_F_ti g (vu (vu V (r + 1) ((first + lo) * 5 + 0) (rtl V r first lo hi 0)) (r + 1) ((first + hi) * 5 + 0) (rth V r first lo hi 0)) L (rst V r first 0 1) ((4 - lo) * (4 - hi)) (Nat.lt_of_lt_of_le (fmi_lt _ _) (by decide)) (by omega)) rfl ?_
  rintro _ _ _ ⟨rfl, rfl, rfl⟩
  refine j_istore d_R_recoverTwo_35 (i := 7) (Nat.le_of_ble_eq_true rfl) (lv' := [_, _, _, _, _, _, _, _]) rfl ?_
  refine j_aload_n d_R_recoverTwo_37 rfl 2 rfl ?_
  refine j_iload_n d_R_recoverTwo_38 rfl 3 rfl ?_
  refine n_iconst d_R_recoverTwo_39 1 (by decide) ?_
  refine j_iload d_R_recoverTwo_40 1 rfl ?_
  refine v_callV d_R_recoverTwo_42 mt_R_rest ln_R_58 im_R_rest se_R_rest hr (Nat.lt_of_succ_lt hlt) rfl rfl ⟨Nat.le_of_ble_eq_true rfl, Nat.le_of_ble_eq_true rfl⟩ (Nat.le_of_ble_eq_true rfl) rfl (Nat.zero_le _) (Nat.zero_le _) (c_R_rest g (vu (vu V (r + 1) ((first + lo) * 5 + 0) (rtl V r first lo hi 0)) (r + 1) ((first + hi) * 5 + 0) (rth V r first lo hi 0)) L r hr hn hlt first 1 1 hf (by omega) (by omega) hv0) rfl ?_
  rintro _ _ _ ⟨rfl, rfl, rfl⟩
  rw [show fmi ((vu (vu V (r + 1) ((first + lo) * 5 + 0) (rtl V r first lo hi 0)) (r + 1) ((first + hi) * 5 + 0) (rth V r first lo hi 0)) (r + 1) ((first + 4 + 1) * 5 + 1)) (cwd (fun q => (vu (vu V (r + 1) ((first + lo) * 5 + 0) (rtl V r first lo hi 0)) (r + 1) ((first + hi) * 5 + 0) (rth V r first lo hi 0)) (r + 1) ((first + q) * 5 + 1)) 1) = rst V r first 1 1 from rst_eq (fun i hi => by rw [vu_ne _ _ (by omega), vu_ne _ _ (by omega)])]
  refine j_iload d_R_recoverTwo_45 6 rfl ?_
  refine n_iconst d_R_recoverTwo_47 1 (by decide) ?_
  refine n_add d_R_recoverTwo_48 ?_
  refine j_iload d_R_recoverTwo_49 7 rfl ?_
  refine n_iconst d_R_recoverTwo_51 1 (by decide) ?_
  refine n_add d_R_recoverTwo_52 ?_
  refine n_mul d_R_recoverTwo_53 ?_
  refine v_callS d_R_recoverTwo_54 mt_F_times ln_R_38 sm_F_times ⟨Nat.le_of_ble_eq_true rfl, Nat.le_of_ble_eq_true rfl⟩ (Nat.le_of_ble_eq_true rfl) rfl (Nat.zero_le _) (Nat.zero_le _) (c_F_ti g (vu (vu V (r + 1) ((first + lo) * 5 + 0) (rtl V r first lo hi 0)) (r + 1) ((first + hi) * 5 + 0) (rth V r first lo hi 0)) L (rst V r first 1 1) ((4 - lo + 1) * (4 - hi + 1)) (Nat.lt_of_lt_of_le (fmi_lt _ _) (by decide)) (by omega)) rfl ?_
  rintro _ _ _ ⟨rfl, rfl, rfl⟩
  refine j_iload d_R_recoverTwo_57 0 rfl ?_
  refine v_callS d_R_recoverTwo_59 mt_F_minus ln_R_61 sm_F_minus ⟨Nat.le_of_ble_eq_true rfl, Nat.le_of_ble_eq_true rfl⟩ (Nat.le_of_ble_eq_true rfl) rfl (Nat.zero_le _) (Nat.zero_le _) (c_F_mi g (vu (vu V (r + 1) ((first + lo) * 5 + 0) (rtl V r first lo hi 0)) (r + 1) ((first + hi) * 5 + 0) (rth V r first lo hi 0)) L (fti (rst V r first 1 1) ((4 - lo + 1) * (4 - hi + 1))) (rtx V r first lo hi 1) (fti_lt _ _) (fti_lt _ _)) rfl ?_
  rintro _ _ _ ⟨rfl, rfl, rfl⟩
  refine j_istore d_R_recoverTwo_62 (i := 8) (Nat.le_of_ble_eq_true rfl) (lv' := [_, _, _, _, _, _, _, _, _]) rfl ?_
  refine j_iload d_R_recoverTwo_64 1 rfl ?_
  refine j_iload d_R_recoverTwo_66 0 rfl ?_
  refine j_iload d_R_recoverTwo_68 8 rfl ?_
  refine v_callS d_R_recoverTwo_70 mt_F_times ln_R_38 sm_F_times ⟨Nat.le_of_ble_eq_true rfl, Nat.le_of_ble_eq_true rfl⟩ (Nat.le_of_ble_eq_true rfl) rfl (Nat.zero_le _) (Nat.zero_le _) (c_F_ti g (vu (vu V (r + 1) ((first + lo) * 5 + 0) (rtl V r first lo hi 0)) (r + 1) ((first + hi) * 5 + 0) (rth V r first lo hi 0)) L (rtb V r first lo hi 1) (4 - hi) (Nat.lt_of_lt_of_le (fmi_lt _ _) (by decide)) (by omega)) rfl ?_
  rintro _ _ _ ⟨rfl, rfl, rfl⟩
  refine v_callS d_R_recoverTwo_73 mt_F_minus ln_R_61 sm_F_minus ⟨Nat.le_of_ble_eq_true rfl, Nat.le_of_ble_eq_true rfl⟩ (Nat.le_of_ble_eq_true rfl) rfl (Nat.zero_le _) (Nat.zero_le _) (c_F_mi g (vu (vu V (r + 1) ((first + lo) * 5 + 0) (rtl V r first lo hi 0)) (r + 1) ((first + hi) * 5 + 0) (rth V r first lo hi 0)) L (rtx V r first lo hi 1) (fti (rtb V r first lo hi 1) (4 - hi)) (fti_lt _ _) (fti_lt _ _)) rfl ?_
  rintro _ _ _ ⟨rfl, rfl, rfl⟩
  refine j_gets d_R_recoverTwo_76 li_R_33 ?_
  refine j_iload d_R_recoverTwo_79 7 rfl ?_
  refine j_iload d_R_recoverTwo_81 8 rfl ?_
  refine n_sub d_R_recoverTwo_83 (by omega) ?_
  refine v_inv d_R_recoverTwo_84 rfl (by omega) ?_
  refine v_callS d_R_recoverTwo_85 mt_F_times ln_R_38 sm_F_times ⟨Nat.le_of_ble_eq_true rfl, Nat.le_of_ble_eq_true rfl⟩ (Nat.le_of_ble_eq_true rfl) rfl (Nat.zero_le _) (Nat.zero_le _) (c_F_ti g (vu (vu V (r + 1) ((first + lo) * 5 + 0) (rtl V r first lo hi 0)) (r + 1) ((first + hi) * 5 + 0) (rth V r first lo hi 0)) L (fmi (rtx V r first lo hi 1) (fti (rtb V r first lo hi 1) (4 - hi))) (jinvN (4 - lo - (4 - hi))) (Nat.lt_of_lt_of_le (fmi_lt _ _) (by decide)) (Nat.lt_of_lt_of_le (jinvN_lt _) (by decide))) rfl ?_
  rintro _ _ _ ⟨rfl, rfl, rfl⟩
  refine j_istore d_R_recoverTwo_88 (i := 9) (Nat.le_of_ble_eq_true rfl) (lv' := [_, _, _, _, _, _, _, _, _, _]) rfl ?_
  refine j_aload_n d_R_recoverTwo_90 rfl 4 rfl ?_
  refine j_iload_n d_R_recoverTwo_91 rfl 5 rfl ?_
  refine j_iload_n d_R_recoverTwo_92 rfl 6 rfl ?_
  refine n_add d_R_recoverTwo_93 ?_
  refine j_iload d_R_recoverTwo_94 3 rfl ?_
  refine j_iload d_R_recoverTwo_96 1 rfl ?_
  refine j_iload d_R_recoverTwo_98 0 rfl ?_
  refine v_callS d_R_recoverTwo_100 mt_F_minus ln_R_61 sm_F_minus ⟨Nat.le_of_ble_eq_true rfl, Nat.le_of_ble_eq_true rfl⟩ (Nat.le_of_ble_eq_true rfl) rfl (Nat.zero_le _) (Nat.zero_le _) (c_F_mi g (vu (vu V (r + 1) ((first + lo) * 5 + 0) (rtl V r first lo hi 0)) (r + 1) ((first + hi) * 5 + 0) (rth V r first lo hi 0)) L (rtb V r first lo hi 1) (rth V r first lo hi 1) (fmi_lt _ _) (fti_lt _ _)) rfl ?_
  rintro _ _ _ ⟨rfl, rfl, rfl⟩
  refine v_callV d_R_recoverTwo_103 mt_R_set ln_R_21 im_R_set se_R_set hr (Nat.lt_of_succ_lt hlt) rfl rfl ⟨Nat.le_of_ble_eq_true rfl, Nat.le_of_ble_eq_true rfl⟩ (Nat.le_of_ble_eq_true rfl) rfl (Nat.zero_le _) (Nat.zero_le _) (c_R_set g (vu (vu V (r + 1) ((first + lo) * 5 + 0) (rtl V r first lo hi 0)) (r + 1) ((first + hi) * 5 + 0) (rth V r first lo hi 0)) L r hr hn hlt (first + lo) 1 (by omega) (by omega) (rtl V r first lo hi 1)) rfl ?_
  rintro _ _ _ ⟨rfl, rfl, rfl⟩
  refine j_aload_n d_R_recoverTwo_106 rfl 4 rfl ?_
  refine j_iload_n d_R_recoverTwo_107 rfl 5 rfl ?_
  refine j_iload_n d_R_recoverTwo_108 rfl 7 rfl ?_
  refine n_add d_R_recoverTwo_109 ?_
  refine j_iload d_R_recoverTwo_110 3 rfl ?_
  refine j_iload d_R_recoverTwo_112 0 rfl ?_
  refine v_callV d_R_recoverTwo_114 mt_R_set ln_R_21 im_R_set se_R_set hr (Nat.lt_of_succ_lt hlt) rfl rfl ⟨Nat.le_of_ble_eq_true rfl, Nat.le_of_ble_eq_true rfl⟩ (Nat.le_of_ble_eq_true rfl) rfl (Nat.zero_le _) (Nat.zero_le _) (c_R_set g (vu (vu (vu V (r + 1) ((first + lo) * 5 + 0) (rtl V r first lo hi 0)) (r + 1) ((first + hi) * 5 + 0) (rth V r first lo hi 0)) (r + 1) ((first + lo) * 5 + 1) (rtl V r first lo hi 1)) L r hr hn hlt (first + hi) 1 (by omega) (by omega) (rth V r first lo hi 1)) rfl ?_
  rintro _ _ _ ⟨rfl, rfl, rfl⟩
  refine j_lv [4, 5, 6, 7, 8, 9, 3] rfl ?_
  refine n_iinc d_R_recoverTwo_117 1 (by decide) 6 rfl (Nat.le_of_ble_eq_true rfl) (lv' := [(6, .int (nI 2)), _, _, _, _, _, _]) rfl ?_
  refine j_goto d_R_recoverTwo_120 13 rfl ?_
  have hv1 : ∀ i, i < 120 → (vu (vu (vu (vu V (r + 1) ((first + lo) * 5 + 0) (rtl V r first lo hi 0)) (r + 1) ((first + hi) * 5 + 0) (rth V r first lo hi 0)) (r + 1) ((first + lo) * 5 + 1) (rtl V r first lo hi 1)) (r + 1) ((first + hi) * 5 + 1) (rth V r first lo hi 1)) (r + 1) i < 2147483647 := fun i hi => by
    unfold vu
    repeat' split
    all_goals first | exact fmi_lt _ _ | exact fti_lt _ _ | exact hV i hi
  refine j_iload d_R_recoverTwo_13 0 rfl ?_
  refine n_iconst d_R_recoverTwo_15 4 (by decide) ?_
  refine n_icmp_ge d_R_recoverTwo_16 123 rfl (by omega) (by omega) (fun h => absurd h (by omega)) (fun h => ?_)
  refine j_aload_n d_R_recoverTwo_19 rfl 1 rfl ?_
  refine j_iload_n d_R_recoverTwo_20 rfl 2 rfl ?_
  refine n_iconst d_R_recoverTwo_21 0 (by decide) ?_
  refine j_iload d_R_recoverTwo_22 0 rfl ?_
  refine v_callV d_R_recoverTwo_24 mt_R_rest ln_R_58 im_R_rest se_R_rest hr (Nat.lt_of_succ_lt hlt) rfl rfl ⟨Nat.le_of_ble_eq_true rfl, Nat.le_of_ble_eq_true rfl⟩ (Nat.le_of_ble_eq_true rfl) rfl (Nat.zero_le _) (Nat.zero_le _) (c_R_rest g (vu (vu (vu (vu V (r + 1) ((first + lo) * 5 + 0) (rtl V r first lo hi 0)) (r + 1) ((first + hi) * 5 + 0) (rth V r first lo hi 0)) (r + 1) ((first + lo) * 5 + 1) (rtl V r first lo hi 1)) (r + 1) ((first + hi) * 5 + 1) (rth V r first lo hi 1)) L r hr hn hlt first 0 2 hf (by omega) (by omega) hv1) rfl ?_
  rintro _ _ _ ⟨rfl, rfl, rfl⟩
  rw [show fmi ((vu (vu (vu (vu V (r + 1) ((first + lo) * 5 + 0) (rtl V r first lo hi 0)) (r + 1) ((first + hi) * 5 + 0) (rth V r first lo hi 0)) (r + 1) ((first + lo) * 5 + 1) (rtl V r first lo hi 1)) (r + 1) ((first + hi) * 5 + 1) (rth V r first lo hi 1)) (r + 1) ((first + 4 + 0) * 5 + 2)) (cwd (fun q => (vu (vu (vu (vu V (r + 1) ((first + lo) * 5 + 0) (rtl V r first lo hi 0)) (r + 1) ((first + hi) * 5 + 0) (rth V r first lo hi 0)) (r + 1) ((first + lo) * 5 + 1) (rtl V r first lo hi 1)) (r + 1) ((first + hi) * 5 + 1) (rth V r first lo hi 1)) (r + 1) ((first + q) * 5 + 2)) 0) = rst V r first 0 2 from rst_eq (fun i hi => by rw [vu_ne _ _ (by omega), vu_ne _ _ (by omega), vu_ne _ _ (by omega), vu_ne _ _ (by omega)])]
  refine j_iload d_R_recoverTwo_27 5 rfl ?_
  refine j_iload d_R_recoverTwo_29 6 rfl ?_
  refine n_mul d_R_recoverTwo_31 ?_
  refine v_callS d_R_recoverTwo_32 mt_F_times ln_R_38 sm_F_times ⟨Nat.le_of_ble_eq_true rfl, Nat.le_of_ble_eq_true rfl⟩ (Nat.le_of_ble_eq_true rfl) rfl (Nat.zero_le _) (Nat.zero_le _) (c_F_ti g (vu (vu (vu (vu V (r + 1) ((first + lo) * 5 + 0) (rtl V r first lo hi 0)) (r + 1) ((first + hi) * 5 + 0) (rth V r first lo hi 0)) (r + 1) ((first + lo) * 5 + 1) (rtl V r first lo hi 1)) (r + 1) ((first + hi) * 5 + 1) (rth V r first lo hi 1)) L (rst V r first 0 2) ((4 - lo) * (4 - hi)) (Nat.lt_of_lt_of_le (fmi_lt _ _) (by decide)) (by omega)) rfl ?_
  rintro _ _ _ ⟨rfl, rfl, rfl⟩
  refine j_istore d_R_recoverTwo_35 (i := 7) (Nat.le_of_ble_eq_true rfl) (lv' := [_, _, _, _, _, _, _, _]) rfl ?_
  refine j_aload_n d_R_recoverTwo_37 rfl 2 rfl ?_
  refine j_iload_n d_R_recoverTwo_38 rfl 3 rfl ?_
  refine n_iconst d_R_recoverTwo_39 1 (by decide) ?_
  refine j_iload d_R_recoverTwo_40 1 rfl ?_
  refine v_callV d_R_recoverTwo_42 mt_R_rest ln_R_58 im_R_rest se_R_rest hr (Nat.lt_of_succ_lt hlt) rfl rfl ⟨Nat.le_of_ble_eq_true rfl, Nat.le_of_ble_eq_true rfl⟩ (Nat.le_of_ble_eq_true rfl) rfl (Nat.zero_le _) (Nat.zero_le _) (c_R_rest g (vu (vu (vu (vu V (r + 1) ((first + lo) * 5 + 0) (rtl V r first lo hi 0)) (r + 1) ((first + hi) * 5 + 0) (rth V r first lo hi 0)) (r + 1) ((first + lo) * 5 + 1) (rtl V r first lo hi 1)) (r + 1) ((first + hi) * 5 + 1) (rth V r first lo hi 1)) L r hr hn hlt first 1 2 hf (by omega) (by omega) hv1) rfl ?_
  rintro _ _ _ ⟨rfl, rfl, rfl⟩
  rw [show fmi ((vu (vu (vu (vu V (r + 1) ((first + lo) * 5 + 0) (rtl V r first lo hi 0)) (r + 1) ((first + hi) * 5 + 0) (rth V r first lo hi 0)) (r + 1) ((first + lo) * 5 + 1) (rtl V r first lo hi 1)) (r + 1) ((first + hi) * 5 + 1) (rth V r first lo hi 1)) (r + 1) ((first + 4 + 1) * 5 + 2)) (cwd (fun q => (vu (vu (vu (vu V (r + 1) ((first + lo) * 5 + 0) (rtl V r first lo hi 0)) (r + 1) ((first + hi) * 5 + 0) (rth V r first lo hi 0)) (r + 1) ((first + lo) * 5 + 1) (rtl V r first lo hi 1)) (r + 1) ((first + hi) * 5 + 1) (rth V r first lo hi 1)) (r + 1) ((first + q) * 5 + 2)) 1) = rst V r first 1 2 from rst_eq (fun i hi => by rw [vu_ne _ _ (by omega), vu_ne _ _ (by omega), vu_ne _ _ (by omega), vu_ne _ _ (by omega)])]
  refine j_iload d_R_recoverTwo_45 6 rfl ?_
  refine n_iconst d_R_recoverTwo_47 1 (by decide) ?_
  refine n_add d_R_recoverTwo_48 ?_
  refine j_iload d_R_recoverTwo_49 7 rfl ?_
  refine n_iconst d_R_recoverTwo_51 1 (by decide) ?_
  refine n_add d_R_recoverTwo_52 ?_
  refine n_mul d_R_recoverTwo_53 ?_
  refine v_callS d_R_recoverTwo_54 mt_F_times ln_R_38 sm_F_times ⟨Nat.le_of_ble_eq_true rfl, Nat.le_of_ble_eq_true rfl⟩ (Nat.le_of_ble_eq_true rfl) rfl (Nat.zero_le _) (Nat.zero_le _) (c_F_ti g (vu (vu (vu (vu V (r + 1) ((first + lo) * 5 + 0) (rtl V r first lo hi 0)) (r + 1) ((first + hi) * 5 + 0) (rth V r first lo hi 0)) (r + 1) ((first + lo) * 5 + 1) (rtl V r first lo hi 1)) (r + 1) ((first + hi) * 5 + 1) (rth V r first lo hi 1)) L (rst V r first 1 2) ((4 - lo + 1) * (4 - hi + 1)) (Nat.lt_of_lt_of_le (fmi_lt _ _) (by decide)) (by omega)) rfl ?_
  rintro _ _ _ ⟨rfl, rfl, rfl⟩
  refine j_iload d_R_recoverTwo_57 0 rfl ?_
  refine v_callS d_R_recoverTwo_59 mt_F_minus ln_R_61 sm_F_minus ⟨Nat.le_of_ble_eq_true rfl, Nat.le_of_ble_eq_true rfl⟩ (Nat.le_of_ble_eq_true rfl) rfl (Nat.zero_le _) (Nat.zero_le _) (c_F_mi g (vu (vu (vu (vu V (r + 1) ((first + lo) * 5 + 0) (rtl V r first lo hi 0)) (r + 1) ((first + hi) * 5 + 0) (rth V r first lo hi 0)) (r + 1) ((first + lo) * 5 + 1) (rtl V r first lo hi 1)) (r + 1) ((first + hi) * 5 + 1) (rth V r first lo hi 1)) L (fti (rst V r first 1 2) ((4 - lo + 1) * (4 - hi + 1))) (rtx V r first lo hi 2) (fti_lt _ _) (fti_lt _ _)) rfl ?_
  rintro _ _ _ ⟨rfl, rfl, rfl⟩
  refine j_istore d_R_recoverTwo_62 (i := 8) (Nat.le_of_ble_eq_true rfl) (lv' := [_, _, _, _, _, _, _, _, _]) rfl ?_
  refine j_iload d_R_recoverTwo_64 1 rfl ?_
  refine j_iload d_R_recoverTwo_66 0 rfl ?_
  refine j_iload d_R_recoverTwo_68 8 rfl ?_
  refine v_callS d_R_recoverTwo_70 mt_F_times ln_R_38 sm_F_times ⟨Nat.le_of_ble_eq_true rfl, Nat.le_of_ble_eq_true rfl⟩ (Nat.le_of_ble_eq_true rfl) rfl (Nat.zero_le _) (Nat.zero_le _) (c_F_ti g (vu (vu (vu (vu V (r + 1) ((first + lo) * 5 + 0) (rtl V r first lo hi 0)) (r + 1) ((first + hi) * 5 + 0) (rth V r first lo hi 0)) (r + 1) ((first + lo) * 5 + 1) (rtl V r first lo hi 1)) (r + 1) ((first + hi) * 5 + 1) (rth V r first lo hi 1)) L (rtb V r first lo hi 2) (4 - hi) (Nat.lt_of_lt_of_le (fmi_lt _ _) (by decide)) (by omega)) rfl ?_
  rintro _ _ _ ⟨rfl, rfl, rfl⟩
  refine v_callS d_R_recoverTwo_73 mt_F_minus ln_R_61 sm_F_minus ⟨Nat.le_of_ble_eq_true rfl, Nat.le_of_ble_eq_true rfl⟩ (Nat.le_of_ble_eq_true rfl) rfl (Nat.zero_le _) (Nat.zero_le _) (c_F_mi g (vu (vu (vu (vu V (r + 1) ((first + lo) * 5 + 0) (rtl V r first lo hi 0)) (r + 1) ((first + hi) * 5 + 0) (rth V r first lo hi 0)) (r + 1) ((first + lo) * 5 + 1) (rtl V r first lo hi 1)) (r + 1) ((first + hi) * 5 + 1) (rth V r first lo hi 1)) L (rtx V r first lo hi 2) (fti (rtb V r first lo hi 2) (4 - hi)) (fti_lt _ _) (fti_lt _ _)) rfl ?_
  rintro _ _ _ ⟨rfl, rfl, rfl⟩
  refine j_gets d_R_recoverTwo_76 li_R_33 ?_
  refine j_iload d_R_recoverTwo_79 7 rfl ?_
  refine j_iload d_R_recoverTwo_81 8 rfl ?_
  refine n_sub d_R_recoverTwo_83 (by omega) ?_
  refine v_inv d_R_recoverTwo_84 rfl (by omega) ?_
  refine v_callS d_R_recoverTwo_85 mt_F_times ln_R_38 sm_F_times ⟨Nat.le_of_ble_eq_true rfl, Nat.le_of_ble_eq_true rfl⟩ (Nat.le_of_ble_eq_true rfl) rfl (Nat.zero_le _) (Nat.zero_le _) (c_F_ti g (vu (vu (vu (vu V (r + 1) ((first + lo) * 5 + 0) (rtl V r first lo hi 0)) (r + 1) ((first + hi) * 5 + 0) (rth V r first lo hi 0)) (r + 1) ((first + lo) * 5 + 1) (rtl V r first lo hi 1)) (r + 1) ((first + hi) * 5 + 1) (rth V r first lo hi 1)) L (fmi (rtx V r first lo hi 2) (fti (rtb V r first lo hi 2) (4 - hi))) (jinvN (4 - lo - (4 - hi))) (Nat.lt_of_lt_of_le (fmi_lt _ _) (by decide)) (Nat.lt_of_lt_of_le (jinvN_lt _) (by decide))) rfl ?_
  rintro _ _ _ ⟨rfl, rfl, rfl⟩
  refine j_istore d_R_recoverTwo_88 (i := 9) (Nat.le_of_ble_eq_true rfl) (lv' := [_, _, _, _, _, _, _, _, _, _]) rfl ?_
  refine j_aload_n d_R_recoverTwo_90 rfl 4 rfl ?_
  refine j_iload_n d_R_recoverTwo_91 rfl 5 rfl ?_
  refine j_iload_n d_R_recoverTwo_92 rfl 6 rfl ?_
  refine n_add d_R_recoverTwo_93 ?_
  refine j_iload d_R_recoverTwo_94 3 rfl ?_
  refine j_iload d_R_recoverTwo_96 1 rfl ?_
  refine j_iload d_R_recoverTwo_98 0 rfl ?_
  refine v_callS d_R_recoverTwo_100 mt_F_minus ln_R_61 sm_F_minus ⟨Nat.le_of_ble_eq_true rfl, Nat.le_of_ble_eq_true rfl⟩ (Nat.le_of_ble_eq_true rfl) rfl (Nat.zero_le _) (Nat.zero_le _) (c_F_mi g (vu (vu (vu (vu V (r + 1) ((first + lo) * 5 + 0) (rtl V r first lo hi 0)) (r + 1) ((first + hi) * 5 + 0) (rth V r first lo hi 0)) (r + 1) ((first + lo) * 5 + 1) (rtl V r first lo hi 1)) (r + 1) ((first + hi) * 5 + 1) (rth V r first lo hi 1)) L (rtb V r first lo hi 2) (rth V r first lo hi 2) (fmi_lt _ _) (fti_lt _ _)) rfl ?_
  rintro _ _ _ ⟨rfl, rfl, rfl⟩
  refine v_callV d_R_recoverTwo_103 mt_R_set ln_R_21 im_R_set se_R_set hr (Nat.lt_of_succ_lt hlt) rfl rfl ⟨Nat.le_of_ble_eq_true rfl, Nat.le_of_ble_eq_true rfl⟩ (Nat.le_of_ble_eq_true rfl) rfl (Nat.zero_le _) (Nat.zero_le _) (c_R_set g (vu (vu (vu (vu V (r + 1) ((first + lo) * 5 + 0) (rtl V r first lo hi 0)) (r + 1) ((first + hi) * 5 + 0) (rth V r first lo hi 0)) (r + 1) ((first + lo) * 5 + 1) (rtl V r first lo hi 1)) (r + 1) ((first + hi) * 5 + 1) (rth V r first lo hi 1)) L r hr hn hlt (first + lo) 2 (by omega) (by omega) (rtl V r first lo hi 2)) rfl ?_
  rintro _ _ _ ⟨rfl, rfl, rfl⟩
  refine j_aload_n d_R_recoverTwo_106 rfl 4 rfl ?_
  refine j_iload_n d_R_recoverTwo_107 rfl 5 rfl ?_
  refine j_iload_n d_R_recoverTwo_108 rfl 7 rfl ?_
  refine n_add d_R_recoverTwo_109 ?_
  refine j_iload d_R_recoverTwo_110 3 rfl ?_
  refine j_iload d_R_recoverTwo_112 0 rfl ?_
  refine v_callV d_R_recoverTwo_114 mt_R_set ln_R_21 im_R_set se_R_set hr (Nat.lt_of_succ_lt hlt) rfl rfl ⟨Nat.le_of_ble_eq_true rfl, Nat.le_of_ble_eq_true rfl⟩ (Nat.le_of_ble_eq_true rfl) rfl (Nat.zero_le _) (Nat.zero_le _) (c_R_set g (vu (vu (vu (vu (vu V (r + 1) ((first + lo) * 5 + 0) (rtl V r first lo hi 0)) (r + 1) ((first + hi) * 5 + 0) (rth V r first lo hi 0)) (r + 1) ((first + lo) * 5 + 1) (rtl V r first lo hi 1)) (r + 1) ((first + hi) * 5 + 1) (rth V r first lo hi 1)) (r + 1) ((first + lo) * 5 + 2) (rtl V r first lo hi 2)) L r hr hn hlt (first + hi) 2 (by omega) (by omega) (rth V r first lo hi 2)) rfl ?_
  rintro _ _ _ ⟨rfl, rfl, rfl⟩
  refine j_lv [4, 5, 6, 7, 8, 9, 3] rfl ?_
  refine n_iinc d_R_recoverTwo_117 1 (by decide) 6 rfl (Nat.le_of_ble_eq_true rfl) (lv' := [(6, .int (nI 3)), _, _, _, _, _, _]) rfl ?_
  refine j_goto d_R_recoverTwo_120 13 rfl ?_
  have hv2 : ∀ i, i < 120 → (vu (vu (vu (vu (vu (vu V (r + 1) ((first + lo) * 5 + 0) (rtl V r first lo hi 0)) (r + 1) ((first + hi) * 5 + 0) (rth V r first lo hi 0)) (r + 1) ((first + lo) * 5 + 1) (rtl V r first lo hi 1)) (r + 1) ((first + hi) * 5 + 1) (rth V r first lo hi 1)) (r + 1) ((first + lo) * 5 + 2) (rtl V r first lo hi 2)) (r + 1) ((first + hi) * 5 + 2) (rth V r first lo hi 2)) (r + 1) i < 2147483647 := fun i hi => by
    unfold vu
    repeat' split
    all_goals first | exact fmi_lt _ _ | exact fti_lt _ _ | exact hV i hi
  refine j_iload d_R_recoverTwo_13 0 rfl ?_
  refine n_iconst d_R_recoverTwo_15 4 (by decide) ?_
  refine n_icmp_ge d_R_recoverTwo_16 123 rfl (by omega) (by omega) (fun h => absurd h (by omega)) (fun h => ?_)
  refine j_aload_n d_R_recoverTwo_19 rfl 1 rfl ?_
  refine j_iload_n d_R_recoverTwo_20 rfl 2 rfl ?_
  refine n_iconst d_R_recoverTwo_21 0 (by decide) ?_
  refine j_iload d_R_recoverTwo_22 0 rfl ?_
  refine v_callV d_R_recoverTwo_24 mt_R_rest ln_R_58 im_R_rest se_R_rest hr (Nat.lt_of_succ_lt hlt) rfl rfl ⟨Nat.le_of_ble_eq_true rfl, Nat.le_of_ble_eq_true rfl⟩ (Nat.le_of_ble_eq_true rfl) rfl (Nat.zero_le _) (Nat.zero_le _) (c_R_rest g (vu (vu (vu (vu (vu (vu V (r + 1) ((first + lo) * 5 + 0) (rtl V r first lo hi 0)) (r + 1) ((first + hi) * 5 + 0) (rth V r first lo hi 0)) (r + 1) ((first + lo) * 5 + 1) (rtl V r first lo hi 1)) (r + 1) ((first + hi) * 5 + 1) (rth V r first lo hi 1)) (r + 1) ((first + lo) * 5 + 2) (rtl V r first lo hi 2)) (r + 1) ((first + hi) * 5 + 2) (rth V r first lo hi 2)) L r hr hn hlt first 0 3 hf (by omega) (by omega) hv2) rfl ?_
  rintro _ _ _ ⟨rfl, rfl, rfl⟩
  rw [show fmi ((vu (vu (vu (vu (vu (vu V (r + 1) ((first + lo) * 5 + 0) (rtl V r first lo hi 0)) (r + 1) ((first + hi) * 5 + 0) (rth V r first lo hi 0)) (r + 1) ((first + lo) * 5 + 1) (rtl V r first lo hi 1)) (r + 1) ((first + hi) * 5 + 1) (rth V r first lo hi 1)) (r + 1) ((first + lo) * 5 + 2) (rtl V r first lo hi 2)) (r + 1) ((first + hi) * 5 + 2) (rth V r first lo hi 2)) (r + 1) ((first + 4 + 0) * 5 + 3)) (cwd (fun q => (vu (vu (vu (vu (vu (vu V (r + 1) ((first + lo) * 5 + 0) (rtl V r first lo hi 0)) (r + 1) ((first + hi) * 5 + 0) (rth V r first lo hi 0)) (r + 1) ((first + lo) * 5 + 1) (rtl V r first lo hi 1)) (r + 1) ((first + hi) * 5 + 1) (rth V r first lo hi 1)) (r + 1) ((first + lo) * 5 + 2) (rtl V r first lo hi 2)) (r + 1) ((first + hi) * 5 + 2) (rth V r first lo hi 2)) (r + 1) ((first + q) * 5 + 3)) 0) = rst V r first 0 3 from rst_eq (fun i hi => by rw [vu_ne _ _ (by omega), vu_ne _ _ (by omega), vu_ne _ _ (by omega), vu_ne _ _ (by omega), vu_ne _ _ (by omega), vu_ne _ _ (by omega)])]
  refine j_iload d_R_recoverTwo_27 5 rfl ?_
  refine j_iload d_R_recoverTwo_29 6 rfl ?_
  refine n_mul d_R_recoverTwo_31 ?_
  refine v_callS d_R_recoverTwo_32 mt_F_times ln_R_38 sm_F_times ⟨Nat.le_of_ble_eq_true rfl, Nat.le_of_ble_eq_true rfl⟩ (Nat.le_of_ble_eq_true rfl) rfl (Nat.zero_le _) (Nat.zero_le _) (c_F_ti g (vu (vu (vu (vu (vu (vu V (r + 1) ((first + lo) * 5 + 0) (rtl V r first lo hi 0)) (r + 1) ((first + hi) * 5 + 0) (rth V r first lo hi 0)) (r + 1) ((first + lo) * 5 + 1) (rtl V r first lo hi 1)) (r + 1) ((first + hi) * 5 + 1) (rth V r first lo hi 1)) (r + 1) ((first + lo) * 5 + 2) (rtl V r first lo hi 2)) (r + 1) ((first + hi) * 5 + 2) (rth V r first lo hi 2)) L (rst V r first 0 3) ((4 - lo) * (4 - hi)) (Nat.lt_of_lt_of_le (fmi_lt _ _) (by decide)) (by omega)) rfl ?_
  rintro _ _ _ ⟨rfl, rfl, rfl⟩
  refine j_istore d_R_recoverTwo_35 (i := 7) (Nat.le_of_ble_eq_true rfl) (lv' := [_, _, _, _, _, _, _, _]) rfl ?_
  refine j_aload_n d_R_recoverTwo_37 rfl 2 rfl ?_
  refine j_iload_n d_R_recoverTwo_38 rfl 3 rfl ?_
  refine n_iconst d_R_recoverTwo_39 1 (by decide) ?_
  refine j_iload d_R_recoverTwo_40 1 rfl ?_
  refine v_callV d_R_recoverTwo_42 mt_R_rest ln_R_58 im_R_rest se_R_rest hr (Nat.lt_of_succ_lt hlt) rfl rfl ⟨Nat.le_of_ble_eq_true rfl, Nat.le_of_ble_eq_true rfl⟩ (Nat.le_of_ble_eq_true rfl) rfl (Nat.zero_le _) (Nat.zero_le _) (c_R_rest g (vu (vu (vu (vu (vu (vu V (r + 1) ((first + lo) * 5 + 0) (rtl V r first lo hi 0)) (r + 1) ((first + hi) * 5 + 0) (rth V r first lo hi 0)) (r + 1) ((first + lo) * 5 + 1) (rtl V r first lo hi 1)) (r + 1) ((first + hi) * 5 + 1) (rth V r first lo hi 1)) (r + 1) ((first + lo) * 5 + 2) (rtl V r first lo hi 2)) (r + 1) ((first + hi) * 5 + 2) (rth V r first lo hi 2)) L r hr hn hlt first 1 3 hf (by omega) (by omega) hv2) rfl ?_
  rintro _ _ _ ⟨rfl, rfl, rfl⟩
  rw [show fmi ((vu (vu (vu (vu (vu (vu V (r + 1) ((first + lo) * 5 + 0) (rtl V r first lo hi 0)) (r + 1) ((first + hi) * 5 + 0) (rth V r first lo hi 0)) (r + 1) ((first + lo) * 5 + 1) (rtl V r first lo hi 1)) (r + 1) ((first + hi) * 5 + 1) (rth V r first lo hi 1)) (r + 1) ((first + lo) * 5 + 2) (rtl V r first lo hi 2)) (r + 1) ((first + hi) * 5 + 2) (rth V r first lo hi 2)) (r + 1) ((first + 4 + 1) * 5 + 3)) (cwd (fun q => (vu (vu (vu (vu (vu (vu V (r + 1) ((first + lo) * 5 + 0) (rtl V r first lo hi 0)) (r + 1) ((first + hi) * 5 + 0) (rth V r first lo hi 0)) (r + 1) ((first + lo) * 5 + 1) (rtl V r first lo hi 1)) (r + 1) ((first + hi) * 5 + 1) (rth V r first lo hi 1)) (r + 1) ((first + lo) * 5 + 2) (rtl V r first lo hi 2)) (r + 1) ((first + hi) * 5 + 2) (rth V r first lo hi 2)) (r + 1) ((first + q) * 5 + 3)) 1) = rst V r first 1 3 from rst_eq (fun i hi => by rw [vu_ne _ _ (by omega), vu_ne _ _ (by omega), vu_ne _ _ (by omega), vu_ne _ _ (by omega), vu_ne _ _ (by omega), vu_ne _ _ (by omega)])]
  refine j_iload d_R_recoverTwo_45 6 rfl ?_
  refine n_iconst d_R_recoverTwo_47 1 (by decide) ?_
  refine n_add d_R_recoverTwo_48 ?_
  refine j_iload d_R_recoverTwo_49 7 rfl ?_
  refine n_iconst d_R_recoverTwo_51 1 (by decide) ?_
  refine n_add d_R_recoverTwo_52 ?_
  refine n_mul d_R_recoverTwo_53 ?_
  refine v_callS d_R_recoverTwo_54 mt_F_times ln_R_38 sm_F_times ⟨Nat.le_of_ble_eq_true rfl, Nat.le_of_ble_eq_true rfl⟩ (Nat.le_of_ble_eq_true rfl) rfl (Nat.zero_le _) (Nat.zero_le _) (c_F_ti g (vu (vu (vu (vu (vu (vu V (r + 1) ((first + lo) * 5 + 0) (rtl V r first lo hi 0)) (r + 1) ((first + hi) * 5 + 0) (rth V r first lo hi 0)) (r + 1) ((first + lo) * 5 + 1) (rtl V r first lo hi 1)) (r + 1) ((first + hi) * 5 + 1) (rth V r first lo hi 1)) (r + 1) ((first + lo) * 5 + 2) (rtl V r first lo hi 2)) (r + 1) ((first + hi) * 5 + 2) (rth V r first lo hi 2)) L (rst V r first 1 3) ((4 - lo + 1) * (4 - hi + 1)) (Nat.lt_of_lt_of_le (fmi_lt _ _) (by decide)) (by omega)) rfl ?_
  rintro _ _ _ ⟨rfl, rfl, rfl⟩
  refine j_iload d_R_recoverTwo_57 0 rfl ?_
  refine v_callS d_R_recoverTwo_59 mt_F_minus ln_R_61 sm_F_minus ⟨Nat.le_of_ble_eq_true rfl, Nat.le_of_ble_eq_true rfl⟩ (Nat.le_of_ble_eq_true rfl) rfl (Nat.zero_le _) (Nat.zero_le _) (c_F_mi g (vu (vu (vu (vu (vu (vu V (r + 1) ((first + lo) * 5 + 0) (rtl V r first lo hi 0)) (r + 1) ((first + hi) * 5 + 0) (rth V r first lo hi 0)) (r + 1) ((first + lo) * 5 + 1) (rtl V r first lo hi 1)) (r + 1) ((first + hi) * 5 + 1) (rth V r first lo hi 1)) (r + 1) ((first + lo) * 5 + 2) (rtl V r first lo hi 2)) (r + 1) ((first + hi) * 5 + 2) (rth V r first lo hi 2)) L (fti (rst V r first 1 3) ((4 - lo + 1) * (4 - hi + 1))) (rtx V r first lo hi 3) (fti_lt _ _) (fti_lt _ _)) rfl ?_
  rintro _ _ _ ⟨rfl, rfl, rfl⟩
  refine j_istore d_R_recoverTwo_62 (i := 8) (Nat.le_of_ble_eq_true rfl) (lv' := [_, _, _, _, _, _, _, _, _]) rfl ?_
  refine j_iload d_R_recoverTwo_64 1 rfl ?_
  refine j_iload d_R_recoverTwo_66 0 rfl ?_
  refine j_iload d_R_recoverTwo_68 8 rfl ?_
  refine v_callS d_R_recoverTwo_70 mt_F_times ln_R_38 sm_F_times ⟨Nat.le_of_ble_eq_true rfl, Nat.le_of_ble_eq_true rfl⟩ (Nat.le_of_ble_eq_true rfl) rfl (Nat.zero_le _) (Nat.zero_le _) (c_F_ti g (vu (vu (vu (vu (vu (vu V (r + 1) ((first + lo) * 5 + 0) (rtl V r first lo hi 0)) (r + 1) ((first + hi) * 5 + 0) (rth V r first lo hi 0)) (r + 1) ((first + lo) * 5 + 1) (rtl V r first lo hi 1)) (r + 1) ((first + hi) * 5 + 1) (rth V r first lo hi 1)) (r + 1) ((first + lo) * 5 + 2) (rtl V r first lo hi 2)) (r + 1) ((first + hi) * 5 + 2) (rth V r first lo hi 2)) L (rtb V r first lo hi 3) (4 - hi) (Nat.lt_of_lt_of_le (fmi_lt _ _) (by decide)) (by omega)) rfl ?_
  rintro _ _ _ ⟨rfl, rfl, rfl⟩
  refine v_callS d_R_recoverTwo_73 mt_F_minus ln_R_61 sm_F_minus ⟨Nat.le_of_ble_eq_true rfl, Nat.le_of_ble_eq_true rfl⟩ (Nat.le_of_ble_eq_true rfl) rfl (Nat.zero_le _) (Nat.zero_le _) (c_F_mi g (vu (vu (vu (vu (vu (vu V (r + 1) ((first + lo) * 5 + 0) (rtl V r first lo hi 0)) (r + 1) ((first + hi) * 5 + 0) (rth V r first lo hi 0)) (r + 1) ((first + lo) * 5 + 1) (rtl V r first lo hi 1)) (r + 1) ((first + hi) * 5 + 1) (rth V r first lo hi 1)) (r + 1) ((first + lo) * 5 + 2) (rtl V r first lo hi 2)) (r + 1) ((first + hi) * 5 + 2) (rth V r first lo hi 2)) L (rtx V r first lo hi 3) (fti (rtb V r first lo hi 3) (4 - hi)) (fti_lt _ _) (fti_lt _ _)) rfl ?_
  rintro _ _ _ ⟨rfl, rfl, rfl⟩
  refine j_gets d_R_recoverTwo_76 li_R_33 ?_
  refine j_iload d_R_recoverTwo_79 7 rfl ?_
  refine j_iload d_R_recoverTwo_81 8 rfl ?_
  refine n_sub d_R_recoverTwo_83 (by omega) ?_
  refine v_inv d_R_recoverTwo_84 rfl (by omega) ?_
  refine v_callS d_R_recoverTwo_85 mt_F_times ln_R_38 sm_F_times ⟨Nat.le_of_ble_eq_true rfl, Nat.le_of_ble_eq_true rfl⟩ (Nat.le_of_ble_eq_true rfl) rfl (Nat.zero_le _) (Nat.zero_le _) (c_F_ti g (vu (vu (vu (vu (vu (vu V (r + 1) ((first + lo) * 5 + 0) (rtl V r first lo hi 0)) (r + 1) ((first + hi) * 5 + 0) (rth V r first lo hi 0)) (r + 1) ((first + lo) * 5 + 1) (rtl V r first lo hi 1)) (r + 1) ((first + hi) * 5 + 1) (rth V r first lo hi 1)) (r + 1) ((first + lo) * 5 + 2) (rtl V r first lo hi 2)) (r + 1) ((first + hi) * 5 + 2) (rth V r first lo hi 2)) L (fmi (rtx V r first lo hi 3) (fti (rtb V r first lo hi 3) (4 - hi))) (jinvN (4 - lo - (4 - hi))) (Nat.lt_of_lt_of_le (fmi_lt _ _) (by decide)) (Nat.lt_of_lt_of_le (jinvN_lt _) (by decide))) rfl ?_
  rintro _ _ _ ⟨rfl, rfl, rfl⟩
  refine j_istore d_R_recoverTwo_88 (i := 9) (Nat.le_of_ble_eq_true rfl) (lv' := [_, _, _, _, _, _, _, _, _, _]) rfl ?_
  refine j_aload_n d_R_recoverTwo_90 rfl 4 rfl ?_
  refine j_iload_n d_R_recoverTwo_91 rfl 5 rfl ?_
  refine j_iload_n d_R_recoverTwo_92 rfl 6 rfl ?_
  refine n_add d_R_recoverTwo_93 ?_
  refine j_iload d_R_recoverTwo_94 3 rfl ?_
  refine j_iload d_R_recoverTwo_96 1 rfl ?_
  refine j_iload d_R_recoverTwo_98 0 rfl ?_
  refine v_callS d_R_recoverTwo_100 mt_F_minus ln_R_61 sm_F_minus ⟨Nat.le_of_ble_eq_true rfl, Nat.le_of_ble_eq_true rfl⟩ (Nat.le_of_ble_eq_true rfl) rfl (Nat.zero_le _) (Nat.zero_le _) (c_F_mi g (vu (vu (vu (vu (vu (vu V (r + 1) ((first + lo) * 5 + 0) (rtl V r first lo hi 0)) (r + 1) ((first + hi) * 5 + 0) (rth V r first lo hi 0)) (r + 1) ((first + lo) * 5 + 1) (rtl V r first lo hi 1)) (r + 1) ((first + hi) * 5 + 1) (rth V r first lo hi 1)) (r + 1) ((first + lo) * 5 + 2) (rtl V r first lo hi 2)) (r + 1) ((first + hi) * 5 + 2) (rth V r first lo hi 2)) L (rtb V r first lo hi 3) (rth V r first lo hi 3) (fmi_lt _ _) (fti_lt _ _)) rfl ?_
  rintro _ _ _ ⟨rfl, rfl, rfl⟩
  refine v_callV d_R_recoverTwo_103 mt_R_set ln_R_21 im_R_set se_R_set hr (Nat.lt_of_succ_lt hlt) rfl rfl ⟨Nat.le_of_ble_eq_true rfl, Nat.le_of_ble_eq_true rfl⟩ (Nat.le_of_ble_eq_true rfl) rfl (Nat.zero_le _) (Nat.zero_le _) (c_R_set g (vu (vu (vu (vu (vu (vu V (r + 1) ((first + lo) * 5 + 0) (rtl V r first lo hi 0)) (r + 1) ((first + hi) * 5 + 0) (rth V r first lo hi 0)) (r + 1) ((first + lo) * 5 + 1) (rtl V r first lo hi 1)) (r + 1) ((first + hi) * 5 + 1) (rth V r first lo hi 1)) (r + 1) ((first + lo) * 5 + 2) (rtl V r first lo hi 2)) (r + 1) ((first + hi) * 5 + 2) (rth V r first lo hi 2)) L r hr hn hlt (first + lo) 3 (by omega) (by omega) (rtl V r first lo hi 3)) rfl ?_
  rintro _ _ _ ⟨rfl, rfl, rfl⟩
  refine j_aload_n d_R_recoverTwo_106 rfl 4 rfl ?_
  refine j_iload_n d_R_recoverTwo_107 rfl 5 rfl ?_
  refine j_iload_n d_R_recoverTwo_108 rfl 7 rfl ?_
  refine n_add d_R_recoverTwo_109 ?_
  refine j_iload d_R_recoverTwo_110 3 rfl ?_
  refine j_iload d_R_recoverTwo_112 0 rfl ?_
  refine v_callV d_R_recoverTwo_114 mt_R_set ln_R_21 im_R_set se_R_set hr (Nat.lt_of_succ_lt hlt) rfl rfl ⟨Nat.le_of_ble_eq_true rfl, Nat.le_of_ble_eq_true rfl⟩ (Nat.le_of_ble_eq_true rfl) rfl (Nat.zero_le _) (Nat.zero_le _) (c_R_set g (vu (vu (vu (vu (vu (vu (vu V (r + 1) ((first + lo) * 5 + 0) (rtl V r first lo hi 0)) (r + 1) ((first + hi) * 5 + 0) (rth V r first lo hi 0)) (r + 1) ((first + lo) * 5 + 1) (rtl V r first lo hi 1)) (r + 1) ((first + hi) * 5 + 1) (rth V r first lo hi 1)) (r + 1) ((first + lo) * 5 + 2) (rtl V r first lo hi 2)) (r + 1) ((first + hi) * 5 + 2) (rth V r first lo hi 2)) (r + 1) ((first + lo) * 5 + 3) (rtl V r first lo hi 3)) L r hr hn hlt (first + hi) 3 (by omega) (by omega) (rth V r first lo hi 3)) rfl ?_
  rintro _ _ _ ⟨rfl, rfl, rfl⟩
  refine j_lv [4, 5, 6, 7, 8, 9, 3] rfl ?_
  refine n_iinc d_R_recoverTwo_117 1 (by decide) 6 rfl (Nat.le_of_ble_eq_true rfl) (lv' := [(6, .int (nI 4)), _, _, _, _, _, _]) rfl ?_
  refine j_goto d_R_recoverTwo_120 13 rfl ?_
  refine j_iload d_R_recoverTwo_13 0 rfl ?_
  refine n_iconst d_R_recoverTwo_15 4 (by decide) ?_
  refine n_icmp_ge d_R_recoverTwo_16 123 rfl (by omega) (by omega) (fun h => ?_) (fun h => absurd h (by omega))
  exact v_vret d_R_recoverTwo_123 rfl (Nat.zero_le _) (Nat.zero_le _) rfl jA0_rfl
def clr (V : Nat → Nat → Nat) (r row : Nat) : Nat → Nat → Nat := fun a i => if a = r + 1 ∧ row * 5 ≤ i ∧ i < row * 5 + 5 then 0 else V a i
theorem clr_lt {V : Nat → Nat → Nat} {r row : Nat} (hV : ∀ i, i < 120 → V (r + 1) i < 2147483647) : ∀ i, i < 120 → clr V r row (r + 1) i < 2147483647 := by
  intro i hi
  unfold clr
  split
  · omega
  · exact hV i hi
theorem nms_le (V : Nat → Nat → Nat) (fr : Nat) : nms V fr ≤ 4 := by
  unfold nms
  repeat' split
  all_goals omega
theorem nms_ge (V : Nat → Nat → Nat) {fr : Nat} (h : fr ≤ 4) : fr ≤ nms V fr := by
  unfold nms
  repeat' split
  all_goals omega
/-- a group made whole -/
def rcv (V : Nat → Nat → Nat) (first : Nat) : Nat → Nat → Nat :=
  if nms V 0 = 4 then V else if nms V (nms V 0 + 1) = 4 then rc1 (clr V 82 (first + nms V 0)) 82 first (nms V 0) (if V 84 4 = 0 then 1 else 0)
  else rc2 (clr (clr V 82 (first + nms V 0)) 82 (first + nms V (nms V 0 + 1))) 82 first (nms V 0) (nms V (nms V 0 + 1))
theorem c_R_recover (g : jG) (V : Nat → Nat → Nat) (L : Nat → Nat → Int64) (first : Nat) (hf : first + 6 ≤ 24) (hV : ∀ i, i < 120 → V 83 i < 2147483647) (hp : ∀ i, i < 6 → V 84 i ≤ 1) : jK g Y_R_recover (4, 99) [.ref (jb g + 82), .int (nI first), .ref (jb g + 84)] V L (jA0 none (rcv V first) L) := by
  refine jK_entry (by decide +kernel) rfl (Nat.le_of_ble_eq_true rfl) ?_
  show jJ (g, Y_R_recover, (4, 99), 0, 0, jVQ g (jA0 none (rcv V first) L)) [(0, .ref (jb g + 82)), (1, .int (nI first)), (2, .ref (jb g + 84))] (jv (g, Y_R_recover, (4, 99), 0, 0, jVQ g (jA0 none (rcv V first) L)) V L 0 0) 0 []
  have b0 := nms_le V 0
  have b1 := nms_le V (nms V 0 + 1)
  have b2 : nms V 0 < 4 → nms V 0 + 1 ≤ nms V (nms V 0 + 1) := fun h => nms_ge V (by omega)
  refine j_aload_n d_R_recover_0 rfl 2 rfl ?_
  refine n_iconst d_R_recover_1 0 (by decide) ?_
  refine v_callS d_R_recover_2 mt_R_nextMissing ln_R_44 sm_R_nextMissing ⟨Nat.le_of_ble_eq_true rfl, Nat.le_of_ble_eq_true rfl⟩ (Nat.le_of_ble_eq_true rfl) rfl (Nat.zero_le _) (Nat.zero_le _) (c_R_nextMissing g V L 0 (by omega) hp) rfl ?_
  rintro _ _ _ ⟨rfl, rfl, rfl⟩
  refine j_istore_n d_R_recover_5 (i := 3) rfl (Nat.le_of_ble_eq_true rfl) (lv' := [_, _, _, _]) rfl ?_
  refine j_iload_n d_R_recover_6 rfl 0 rfl ?_
  refine n_iconst d_R_recover_7 4 (by decide) ?_
  refine n_icmp_ne d_R_recover_8 12 rfl (by omega) (by omega) (fun h4 => ?_) (fun h4 => ?_)
  · refine j_aload_n d_R_recover_12 rfl 1 rfl ?_
    refine j_iload_n d_R_recover_13 rfl 2 rfl ?_
    refine j_iload_n d_R_recover_14 rfl 0 rfl ?_
    refine n_add d_R_recover_15 ?_
    refine v_callV d_R_recover_16 mt_R_clearRow ln_R_48 im_R_clearRow se_R_clearRow rfl (Nat.le_of_ble_eq_true rfl) rfl rfl ⟨Nat.le_of_ble_eq_true rfl, Nat.le_of_ble_eq_true rfl⟩ (Nat.le_of_ble_eq_true rfl) rfl (Nat.zero_le _) (Nat.zero_le _) (c_R_clearRow g V L 82 rfl rfl (by decide) (first + nms V 0) (by omega)) rfl ?_
    rintro _ _ _ ⟨rfl, rfl, rfl⟩
    show jJ _ _ (jv _ (clr V 82 (first + nms V 0)) L 0 0) _ _
    refine j_aload_n d_R_recover_19 rfl 3 rfl ?_
    refine j_iload_n d_R_recover_20 rfl 0 rfl ?_
    refine n_iconst d_R_recover_21 1 (by decide) ?_
    refine n_add d_R_recover_22 ?_
    refine v_callS d_R_recover_23 mt_R_nextMissing ln_R_44 sm_R_nextMissing ⟨Nat.le_of_ble_eq_true rfl, Nat.le_of_ble_eq_true rfl⟩ (Nat.le_of_ble_eq_true rfl) rfl (Nat.zero_le _) (Nat.zero_le _) (c_R_nextMissing g (clr V 82 (first + nms V 0)) L (nms V 0 + 1) (by omega) hp) rfl ?_
    rintro _ _ _ ⟨rfl, rfl, rfl⟩
    rw [show nms (clr V 82 (first + nms V 0)) (nms V 0 + 1) = nms V (nms V 0 + 1) from rfl]
    refine j_istore d_R_recover_26 (i := 4) (Nat.le_of_ble_eq_true rfl) (lv' := [_, _, _, _, _]) rfl ?_
    refine j_iload d_R_recover_28 0 rfl ?_
    refine n_iconst d_R_recover_30 4 (by decide) ?_
    refine n_icmp_ne d_R_recover_31 54 rfl (by omega) (by omega) (fun h5 => ?_) (fun h5 => ?_)
    · refine j_aload_n d_R_recover_54 rfl 2 rfl ?_
      refine j_iload_n d_R_recover_55 rfl 3 rfl ?_
      refine j_iload d_R_recover_56 0 rfl ?_
      refine n_add d_R_recover_58 ?_
      refine v_callV d_R_recover_59 mt_R_clearRow ln_R_48 im_R_clearRow se_R_clearRow rfl (Nat.le_of_ble_eq_true rfl) rfl rfl ⟨Nat.le_of_ble_eq_true rfl, Nat.le_of_ble_eq_true rfl⟩ (Nat.le_of_ble_eq_true rfl) rfl (Nat.zero_le _) (Nat.zero_le _) (c_R_clearRow g (clr V 82 (first + nms V 0)) L 82 rfl rfl (by decide) (first + nms V (nms V 0 + 1)) (by omega)) rfl ?_
      rintro _ _ _ ⟨rfl, rfl, rfl⟩
      show jJ _ _ (jv _ (clr (clr V 82 (first + nms V 0)) 82 (first + nms V (nms V 0 + 1))) L 0 0) _ _
      refine j_aload_n d_R_recover_62 rfl 2 rfl ?_
      refine j_iload_n d_R_recover_63 rfl 3 rfl ?_
      refine j_iload_n d_R_recover_64 rfl 1 rfl ?_
      refine j_iload d_R_recover_65 0 rfl ?_
      rw [show rcv V first = rc2 (clr (clr V 82 (first + nms V 0)) 82 (first + nms V (nms V 0 + 1))) 82 first (nms V 0) (nms V (nms V 0 + 1)) from by unfold rcv; rw [if_neg h4, if_neg h5]]
      refine v_callV d_R_recover_67 mt_R_recoverTwo ln_R_55 im_R_recoverTwo se_R_recoverTwo rfl (Nat.le_of_ble_eq_true rfl) rfl rfl ⟨Nat.le_of_ble_eq_true rfl, Nat.le_of_ble_eq_true rfl⟩ (Nat.le_of_ble_eq_true rfl) rfl (Nat.zero_le _) (Nat.zero_le _) (c_R_recoverTwo g (clr (clr V 82 (first + nms V 0)) 82 (first + nms V (nms V 0 + 1))) L 82 rfl rfl (by decide) first (nms V 0) (nms V (nms V 0 + 1)) hf (by omega) (by omega) (clr_lt (clr_lt hV))) rfl ?_
      rintro _ _ _ ⟨rfl, rfl, rfl⟩
      exact v_vret d_R_recover_70 rfl (Nat.zero_le _) (Nat.zero_le _) rfl jA0_rfl
    · refine j_aload_n d_R_recover_34 rfl 2 rfl ?_
      refine j_iload_n d_R_recover_35 rfl 3 rfl ?_
      refine j_iload_n d_R_recover_36 rfl 1 rfl ?_
      refine j_aload_n d_R_recover_37 rfl 4 rfl ?_
      refine n_iconst d_R_recover_38 4 (by decide) ?_
      refine v_zld d_R_recover_39 rfl rfl (Nat.le_of_ble_eq_true rfl) rfl (by omega) (by omega) ?_
      refine n_if_eq d_R_recover_40 47 rfl (Nat.lt_of_le_of_lt (hp 4 (by omega)) (by decide)) (fun h6 => ?_) (fun h6 => ?_)
      · refine n_iconst d_R_recover_47 1 (by decide) ?_
        have h7 : V 84 4 = 0 := h6
        have e7 : rcv V first = rc1 (clr V 82 (first + nms V 0)) 82 first (nms V 0) 1 := by
          unfold rcv
          rw [if_neg h4, if_pos h5, if_pos h7]
        rw [e7]
        refine v_callV d_R_recover_48 mt_R_recoverOne ln_R_52 im_R_recoverOne se_R_recoverOne rfl (Nat.le_of_ble_eq_true rfl) rfl rfl ⟨Nat.le_of_ble_eq_true rfl, Nat.le_of_ble_eq_true rfl⟩ (Nat.le_of_ble_eq_true rfl) rfl (Nat.zero_le _) (Nat.zero_le _) (c_R_recoverOne g (clr V 82 (first + nms V 0)) L 82 rfl rfl (by decide) first (nms V 0) 1 hf (by omega) (by omega) (clr_lt hV)) rfl ?_
        rintro _ _ _ ⟨rfl, rfl, rfl⟩
        refine j_goto d_R_recover_51 70 rfl ?_
        exact v_vret d_R_recover_70 rfl (Nat.zero_le _) (Nat.zero_le _) rfl jA0_rfl
      · refine n_iconst d_R_recover_43 0 (by decide) ?_
        refine j_goto d_R_recover_44 48 rfl ?_
        have h7 : ¬ V 84 4 = 0 := h6
        have e7 : rcv V first = rc1 (clr V 82 (first + nms V 0)) 82 first (nms V 0) 0 := by
          unfold rcv
          rw [if_neg h4, if_pos h5, if_neg h7]
        rw [e7]
        refine v_callV d_R_recover_48 mt_R_recoverOne ln_R_52 im_R_recoverOne se_R_recoverOne rfl (Nat.le_of_ble_eq_true rfl) rfl rfl ⟨Nat.le_of_ble_eq_true rfl, Nat.le_of_ble_eq_true rfl⟩ (Nat.le_of_ble_eq_true rfl) rfl (Nat.zero_le _) (Nat.zero_le _) (c_R_recoverOne g (clr V 82 (first + nms V 0)) L 82 rfl rfl (by decide) first (nms V 0) 0 hf (by omega) (by omega) (clr_lt hV)) rfl ?_
        rintro _ _ _ ⟨rfl, rfl, rfl⟩
        refine j_goto d_R_recover_51 70 rfl ?_
        exact v_vret d_R_recover_70 rfl (Nat.zero_le _) (Nat.zero_le _) rfl jA0_rfl
  · rw [show rcv V first = V from if_pos h4]
    exact v_vret d_R_recover_11 rfl (Nat.zero_le _) (Nat.zero_le _) rfl jA0_rfl
theorem wb_tb (n : Nat) : (lN n).toBitVec = BitVec.ofNat 64 n := rfl
theorem wb_inj {a b : Int64} (h : a.toBitVec = b.toBitVec) : a = b := Int64.toBitVec_inj.mp h
theorem wb_tn {n : Nat} (h : n < 2 ^ 64) : (lN n).toBitVec.toNat = n := by rw [wb_tb, BitVec.toNat_ofNat, Nat.mod_eq_of_lt h]
theorem wb_of (x : Int64) : ∃ n, n < 2 ^ 64 ∧ x = lN n := ⟨x.toBitVec.toNat, x.toBitVec.isLt, wb_inj (by rw [wb_tb]; simp)⟩
theorem wb_of32 (x : Int32) : ∃ n, n < 2 ^ 32 ∧ x = nI n := ⟨x.toBitVec.toNat, x.toBitVec.isLt, Int32.toBitVec_inj.mp (by show _ = BitVec.ofNat 32 _; simp)⟩
theorem wb_c : ∀ k, k < 64 → ((nI k).toInt64 &&& 63) = lN k := by decide +kernel
theorem wb_cu : ∀ k, k < 64 → ((nI k).toInt64.toUInt64 &&& Int64.toUInt64 63) = UInt64.ofNat k := by decide +kernel
theorem wb_sm : ∀ k, k < 64 → (BitVec.ofNat 64 k).smod 64 = BitVec.ofNat 64 k := by decide +kernel
theorem wb_pw {a b : Nat} (h : a ≤ b) : 2 ^ b = 2 ^ a * 2 ^ (b - a) := by rw [← Nat.pow_add]; congr 1; omega
theorem wb_lt2 {a b : Nat} (h : a < b) : 2 ^ a < 2 ^ b := Nat.pow_lt_pow_right (by decide) h
theorem wb_mod (n : Nat) : lN n = lN (n % 2 ^ 64) := wb_inj (by rw [wb_tb, wb_tb]; apply BitVec.eq_of_toNat_eq; rw [BitVec.toNat_ofNat, BitVec.toNat_ofNat, Nat.mod_mod])
theorem wb_shr {n k : Nat} (hn : n < 2 ^ 64) (hk : k < 64) : ((lN n).toUInt64 >>> ((nI k).toInt64.toUInt64 &&& Int64.toUInt64 63)).toInt64 = lN (n / 2 ^ k) := by
  rw [wb_cu k hk]
  apply wb_inj
  apply BitVec.eq_of_toNat_eq
  show ((lN n).toUInt64 >>> UInt64.ofNat k).toNat = (BitVec.ofNat 64 _).toNat
  have h1 : (UInt64.ofNat k).toNat = k := by
    show (BitVec.ofNat 64 k).toNat = k
    rw [BitVec.toNat_ofNat, Nat.mod_eq_of_lt (by omega)]
  have h2 : (lN n).toUInt64.toNat = n := wb_tn hn
  rw [UInt64.toNat_shiftRight, h1, h2, Nat.mod_eq_of_lt hk, Nat.shiftRight_eq_div_pow, BitVec.toNat_ofNat, Nat.mod_eq_of_lt (Nat.lt_of_le_of_lt (Nat.div_le_self _ _) hn)]
def hsh (x : Int64) (k : Nat) : Int64 := x ^^^ (x.toUInt64 >>> ((nI k).toInt64.toUInt64 &&& Int64.toUInt64 63)).toInt64
def hrd (b x : Int64) : Int64 := hsh (hsh (hsh x 30 * (-4658895280553007687)) 27 * (-7723592293110705685)) 31 + b
def hsx (a b : Int64) (n : Nat) : Int64 := hrd b (hrd b (hrd b (hrd b (a + lN n * (-7046029254386353131)))))
/-- the secret of number n under the keys a, b -/
def sN (a b : Int64) (n : Nat) : Nat := (hsx a b n).toBitVec.toNat / 2 ^ 33 % 2147483647
theorem sN_lt (a b : Int64) (n : Nat) : sN a b n < 2147483647 := Nat.mod_lt _ (by omega)
theorem hs33 (x : Int64) : (x.toUInt64 >>> ((nI 33).toInt64.toUInt64 &&& Int64.toUInt64 63)).toInt64 = lN (x.toBitVec.toNat / 2 ^ 33) := by
  obtain ⟨n, hn, rfl⟩ := wb_of x
  rw [wb_shr hn (by omega), wb_tn hn]
theorem hs33_lt (x : Int64) : x.toBitVec.toNat / 2 ^ 33 < 2 ^ 31 := by
  have := x.toBitVec.isLt
  omega
theorem c_F_secret (g : jG) (V : Nat → Nat → Nat) (L : Nat → Nat → Int64) (a b : Int64) (n : Nat) (hn : n < 2147483648) : jK g Y_F_secret (0, 0) [.long a, .long b, .int (nI n)] V L (jA0 (some (.int (nI (sN a b n)))) V L) := by
  refine jK_entry (by decide +kernel) rfl (Nat.le_of_ble_eq_true rfl) ?_
  show jJ (g, Y_F_secret, (0, 0), 0, 0, jVQ g (jA0 (some (.int (nI (sN a b n)))) V L)) [(0, .long a), (2, .long b), (4, .int (nI n))] (jv (g, Y_F_secret, (0, 0), 0, 0, jVQ g (jA0 (some (.int (nI (sN a b n)))) V L)) V L 0 0) 0 []
  refine j_lload_n d_F_secret_0 rfl 0 rfl ?_
  refine j_iload d_F_secret_1 2 rfl ?_
  refine n_i2l d_F_secret_3 (by omega) ?_
  refine j_ldc2 d_F_secret_4 ct_F_12 ?_
  refine j_lmul d_F_secret_7 ?_
  refine j_ladd d_F_secret_8 ?_
  refine j_lstore d_F_secret_9 (i := 5) (Nat.le_of_ble_eq_true rfl) (lv' := [_, _, _, _]) rfl ?_
  refine n_iconst d_F_secret_11 0 (by decide) ?_
  refine j_istore d_F_secret_12 (i := 7) (Nat.le_of_ble_eq_true rfl) (lv' := [_, _, _, _, _]) rfl ?_
  refine j_iload d_F_secret_14 0 rfl ?_
  refine n_iconst d_F_secret_16 4 (by decide) ?_
  refine n_icmp_ge d_F_secret_17 66 rfl (by omega) (by omega) (fun h => absurd h (by omega)) (fun h => ?_)
  refine j_lload d_F_secret_20 1 rfl ?_
  refine j_lload d_F_secret_22 1 rfl ?_
  refine n_bipush d_F_secret_24 30 (by decide) ?_
  refine j_lushr d_F_secret_26 rfl ?_
  refine j_lxor d_F_secret_27 ?_
  refine j_ldc2 d_F_secret_28 ct_F_14 ?_
  refine j_lmul d_F_secret_31 ?_
  refine j_lstore d_F_secret_32 (i := 5) (Nat.le_of_ble_eq_true rfl) (lv' := [_, _, _, _, _]) rfl ?_
  refine j_lload d_F_secret_34 0 rfl ?_
  refine j_lload d_F_secret_36 0 rfl ?_
  refine n_bipush d_F_secret_38 27 (by decide) ?_
  refine j_lushr d_F_secret_40 rfl ?_
  refine j_lxor d_F_secret_41 ?_
  refine j_ldc2 d_F_secret_42 ct_F_16 ?_
  refine j_lmul d_F_secret_45 ?_
  refine j_lstore d_F_secret_46 (i := 5) (Nat.le_of_ble_eq_true rfl) (lv' := [_, _, _, _, _]) rfl ?_
  refine j_lload d_F_secret_48 0 rfl ?_
  refine j_lload d_F_secret_50 0 rfl ?_
  refine n_bipush d_F_secret_52 31 (by decide) ?_
  refine j_lushr d_F_secret_54 rfl ?_
  refine j_lxor d_F_secret_55 ?_
  refine j_lload_n d_F_secret_56 rfl 3 rfl ?_
  refine j_ladd d_F_secret_57 ?_
  refine j_lstore d_F_secret_58 (i := 5) (Nat.le_of_ble_eq_true rfl) (lv' := [_, _, _, _, _]) rfl ?_
  refine n_iinc d_F_secret_60 1 (by decide) 1 rfl (Nat.le_of_ble_eq_true rfl) (lv' := [(7, .int (nI 1)), _, _, _, _]) rfl ?_
  refine j_goto d_F_secret_63 14 rfl ?_
  refine j_iload d_F_secret_14 0 rfl ?_
  refine n_iconst d_F_secret_16 4 (by decide) ?_
  refine n_icmp_ge d_F_secret_17 66 rfl (by omega) (by omega) (fun h => absurd h (by omega)) (fun h => ?_)
  refine j_lload d_F_secret_20 1 rfl ?_
  refine j_lload d_F_secret_22 1 rfl ?_
  refine n_bipush d_F_secret_24 30 (by decide) ?_
  refine j_lushr d_F_secret_26 rfl ?_
  refine j_lxor d_F_secret_27 ?_
  refine j_ldc2 d_F_secret_28 ct_F_14 ?_
  refine j_lmul d_F_secret_31 ?_
  refine j_lstore d_F_secret_32 (i := 5) (Nat.le_of_ble_eq_true rfl) (lv' := [_, _, _, _, _]) rfl ?_
  refine j_lload d_F_secret_34 0 rfl ?_
  refine j_lload d_F_secret_36 0 rfl ?_
  refine n_bipush d_F_secret_38 27 (by decide) ?_
  refine j_lushr d_F_secret_40 rfl ?_
  refine j_lxor d_F_secret_41 ?_
  refine j_ldc2 d_F_secret_42 ct_F_16 ?_
  refine j_lmul d_F_secret_45 ?_
  refine j_lstore d_F_secret_46 (i := 5) (Nat.le_of_ble_eq_true rfl) (lv' := [_, _, _, _, _]) rfl ?_
  refine j_lload d_F_secret_48 0 rfl ?_
  refine j_lload d_F_secret_50 0 rfl ?_
  refine n_bipush d_F_secret_52 31 (by decide) ?_
  refine j_lushr d_F_secret_54 rfl ?_
  refine j_lxor d_F_secret_55 ?_
  refine j_lload_n d_F_secret_56 rfl 3 rfl ?_
  refine j_ladd d_F_secret_57 ?_
  refine j_lstore d_F_secret_58 (i := 5) (Nat.le_of_ble_eq_true rfl) (lv' := [_, _, _, _, _]) rfl ?_
  refine n_iinc d_F_secret_60 1 (by decide) 1 rfl (Nat.le_of_ble_eq_true rfl) (lv' := [(7, .int (nI 2)), _, _, _, _]) rfl ?_
  refine j_goto d_F_secret_63 14 rfl ?_
  refine j_iload d_F_secret_14 0 rfl ?_
  refine n_iconst d_F_secret_16 4 (by decide) ?_
  refine n_icmp_ge d_F_secret_17 66 rfl (by omega) (by omega) (fun h => absurd h (by omega)) (fun h => ?_)
  refine j_lload d_F_secret_20 1 rfl ?_
  refine j_lload d_F_secret_22 1 rfl ?_
  refine n_bipush d_F_secret_24 30 (by decide) ?_
  refine j_lushr d_F_secret_26 rfl ?_
  refine j_lxor d_F_secret_27 ?_
  refine j_ldc2 d_F_secret_28 ct_F_14 ?_
  refine j_lmul d_F_secret_31 ?_
  refine j_lstore d_F_secret_32 (i := 5) (Nat.le_of_ble_eq_true rfl) (lv' := [_, _, _, _, _]) rfl ?_
  refine j_lload d_F_secret_34 0 rfl ?_
  refine j_lload d_F_secret_36 0 rfl ?_
  refine n_bipush d_F_secret_38 27 (by decide) ?_
  refine j_lushr d_F_secret_40 rfl ?_
  refine j_lxor d_F_secret_41 ?_
  refine j_ldc2 d_F_secret_42 ct_F_16 ?_
  refine j_lmul d_F_secret_45 ?_
  refine j_lstore d_F_secret_46 (i := 5) (Nat.le_of_ble_eq_true rfl) (lv' := [_, _, _, _, _]) rfl ?_
  refine j_lload d_F_secret_48 0 rfl ?_
  refine j_lload d_F_secret_50 0 rfl ?_
  refine n_bipush d_F_secret_52 31 (by decide) ?_
  refine j_lushr d_F_secret_54 rfl ?_
  refine j_lxor d_F_secret_55 ?_
  refine j_lload_n d_F_secret_56 rfl 3 rfl ?_
  refine j_ladd d_F_secret_57 ?_
  refine j_lstore d_F_secret_58 (i := 5) (Nat.le_of_ble_eq_true rfl) (lv' := [_, _, _, _, _]) rfl ?_
  refine n_iinc d_F_secret_60 1 (by decide) 1 rfl (Nat.le_of_ble_eq_true rfl) (lv' := [(7, .int (nI 3)), _, _, _, _]) rfl ?_
  refine j_goto d_F_secret_63 14 rfl ?_
  refine j_iload d_F_secret_14 0 rfl ?_
  refine n_iconst d_F_secret_16 4 (by decide) ?_
  refine n_icmp_ge d_F_secret_17 66 rfl (by omega) (by omega) (fun h => absurd h (by omega)) (fun h => ?_)
  refine j_lload d_F_secret_20 1 rfl ?_
  refine j_lload d_F_secret_22 1 rfl ?_
  refine n_bipush d_F_secret_24 30 (by decide) ?_
  refine j_lushr d_F_secret_26 rfl ?_
  refine j_lxor d_F_secret_27 ?_
  refine j_ldc2 d_F_secret_28 ct_F_14 ?_
  refine j_lmul d_F_secret_31 ?_
  refine j_lstore d_F_secret_32 (i := 5) (Nat.le_of_ble_eq_true rfl) (lv' := [_, _, _, _, _]) rfl ?_
  refine j_lload d_F_secret_34 0 rfl ?_
  refine j_lload d_F_secret_36 0 rfl ?_
  refine n_bipush d_F_secret_38 27 (by decide) ?_
  refine j_lushr d_F_secret_40 rfl ?_
  refine j_lxor d_F_secret_41 ?_
  refine j_ldc2 d_F_secret_42 ct_F_16 ?_
  refine j_lmul d_F_secret_45 ?_
  refine j_lstore d_F_secret_46 (i := 5) (Nat.le_of_ble_eq_true rfl) (lv' := [_, _, _, _, _]) rfl ?_
  refine j_lload d_F_secret_48 0 rfl ?_
  refine j_lload d_F_secret_50 0 rfl ?_
  refine n_bipush d_F_secret_52 31 (by decide) ?_
  refine j_lushr d_F_secret_54 rfl ?_
  refine j_lxor d_F_secret_55 ?_
  refine j_lload_n d_F_secret_56 rfl 3 rfl ?_
  refine j_ladd d_F_secret_57 ?_
  refine j_lstore d_F_secret_58 (i := 5) (Nat.le_of_ble_eq_true rfl) (lv' := [_, _, _, _, _]) rfl ?_
  refine n_iinc d_F_secret_60 1 (by decide) 1 rfl (Nat.le_of_ble_eq_true rfl) (lv' := [(7, .int (nI 4)), _, _, _, _]) rfl ?_
  refine j_goto d_F_secret_63 14 rfl ?_
  refine j_iload d_F_secret_14 0 rfl ?_
  refine n_iconst d_F_secret_16 4 (by decide) ?_
  refine n_icmp_ge d_F_secret_17 66 rfl (by omega) (by omega) (fun h => ?_) (fun h => absurd h (by omega))
  refine j_lload d_F_secret_66 1 rfl ?_
  refine n_bipush d_F_secret_68 33 (by decide) ?_
  refine j_lushr d_F_secret_70 rfl ?_
  rw [hs33]
  refine j_ldc2 d_F_secret_71 ct_F_10 ?_
  rw [show (2147483647 : Int64) = lN 2147483647 from by decide]
  refine n_lrem d_F_secret_74 (Nat.lt_trans (hs33_lt _) (by decide)) (by omega) (by omega) ?_
  refine n_l2i d_F_secret_75 ?_
  exact v_iret d_F_secret_76 rfl (Nat.zero_le _) (Nat.zero_le _) rfl jA0_rfl
end
section
theorem jshp_ER : ∀ f, f < 3 → jshp (6 + 5 * f) = jo 5 [(6 + 5 * f + 1) + 2] ∧ jshp (6 + 5 * f + 1) = .inl (0, 120) := by
  intro f hf
  match f, hf with
  | 0, _ => exact ⟨rfl, rfl⟩
  | 1, _ => exact ⟨rfl, rfl⟩
  | 2, _ => exact ⟨rfl, rfl⟩
theorem jshp_YR : ∀ k, k < 4 → ∀ f, f < 3 → jshp (22 + 14 * k + 4 * f) = jo 5 [(22 + 14 * k + 4 * f + 1) + 2] ∧ jshp (22 + 14 * k + 4 * f + 1) = .inl (0, 120) := by
  intro k hk f hf
  match k, hk, f, hf with
  | 0, _, 0, _ => exact ⟨rfl, rfl⟩
  | 0, _, 1, _ => exact ⟨rfl, rfl⟩
  | 0, _, 2, _ => exact ⟨rfl, rfl⟩
  | 1, _, 0, _ => exact ⟨rfl, rfl⟩
  | 1, _, 1, _ => exact ⟨rfl, rfl⟩
  | 1, _, 2, _ => exact ⟨rfl, rfl⟩
  | 2, _, 0, _ => exact ⟨rfl, rfl⟩
  | 2, _, 1, _ => exact ⟨rfl, rfl⟩
  | 2, _, 2, _ => exact ⟨rfl, rfl⟩
  | 3, _, 0, _ => exact ⟨rfl, rfl⟩
  | 3, _, 1, _ => exact ⟨rfl, rfl⟩
  | 3, _, 2, _ => exact ⟨rfl, rfl⟩
/-! AuditDesk.Deposit: tags, completion, secrets, making -/
def tgd (m : Nat) (al x : Nat → Nat) : Nat := fpl (fpl (fpl (fpl m (fti (al 0) (x 0))) (fti (al 1) (x 1))) (fti (al 2) (x 2))) (fti (al 3) (x 3))
theorem tgd_lt (m : Nat) (al x : Nat → Nat) : tgd m al x < 2147483647 := fpl_lt _ _
theorem tgd_eq {m m' : Nat} {al al' x x' : Nat → Nat} (hm : m = m') (ha : ∀ j, j < 4 → al j = al' j) (hx : ∀ j, j < 4 → x j = x' j) : tgd m al x = tgd m' al' x' := by
  unfold tgd
  rw [hm, ha 0 (by omega), ha 1 (by omega), ha 2 (by omega), ha 3 (by omega), hx 0 (by omega), hx 1 (by omega), hx 2 (by omega), hx 3 (by omega)]
theorem inl_ne {q q' t n t' n' : Nat} (h : jshp q = .inl (t, n)) (h' : jshp q' = .inl (t', n')) (hne : n ≠ n') : q ≠ q' := fun e => by
  rw [e, h'] at h
  cases h
  exact hne rfl
theorem inl_no {q q' t n ci : Nat} {fl : List Nat} (h : jshp q = .inl (t, n)) (h' : jshp q' = jo ci fl) : q ≠ q' := fun e => by
  rw [e, h'] at h
  cases h
theorem c_E_tagOf (g : jG) (V : Nat → Nat → Nat) (L : Nat → Nat → Int64) (f : Nat) (hf : f < 3) (r : Nat) (hr : jshp r = jo 5 [(r + 1) + 2]) (hn : jshp (r + 1) = .inl (0, 120)) (hlt : r + 1 < 104) (row : Nat) (hrow : row < 24) (hV : ∀ i, i < 120 → V (r + 1) i < 2147483647) (hal : ∀ i, i < 4 → V (4 + 5 * f) i < 2147483647) (hms : ∀ i, i < 24 → V (5 + 5 * f) i < 2147483647) : jK g Y_E_tagOf (1, 22) [.ref (jb g + (3 + 5 * f)), .ref (jb g + r), .int (nI row)] V L (jA0 (some (.int (nI (tgd (V (5 + 5 * f) row) (V (4 + 5 * f)) (fun j => V (r + 1) (row * 5 + j)))))) V L) := by
  refine jK_entry (by decide +kernel) rfl (Nat.le_of_ble_eq_true rfl) ?_
  show jJ (g, Y_E_tagOf, (1, 22), 0, 0, jVQ g (jA0 (some (.int (nI (tgd (V (5 + 5 * f) row) (V (4 + 5 * f)) (fun j => V (r + 1) (row * 5 + j)))))) V L)) [(0, .ref (jb g + (3 + 5 * f))), (1, .ref (jb g + r)), (2, .int (nI row))] (jv (g, Y_E_tagOf, (1, 22), 0, 0, jVQ g (jA0 (some (.int (nI (tgd (V (5 + 5 * f) row) (V (4 + 5 * f)) (fun j => V (r + 1) (row * 5 + j)))))) V L)) V L 0 0) 0 []
  refine j_aload_n d_E_tagOf_0 rfl 0 rfl ?_
  refine v_getR d_E_tagOf_1 lf_E_15 (jshp_E f hf).1 (by omega) rfl ?_
  refine j_iload_n d_E_tagOf_4 rfl 2 rfl ?_
  refine v_ild d_E_tagOf_5 (jshp_E f hf).2.2.1 rfl (by omega) rfl (by omega) (by omega) ?_
  refine j_istore_n d_E_tagOf_6 (i := 3) rfl (Nat.le_of_ble_eq_true rfl) (lv' := [_, _, _, _]) rfl ?_
  refine n_iconst d_E_tagOf_7 0 (by decide) ?_
  refine j_istore d_E_tagOf_8 (i := 4) (Nat.le_of_ble_eq_true rfl) (lv' := [_, _, _, _, _]) rfl ?_
  refine j_iload d_E_tagOf_10 0 rfl ?_
  refine n_iconst d_E_tagOf_12 4 (by decide) ?_
  refine n_icmp_ge d_E_tagOf_13 44 rfl (by omega) (by omega) (fun h => absurd h (by omega)) (fun h => ?_)
  refine j_iload_n d_E_tagOf_16 rfl 1 rfl ?_
  refine j_aload_n d_E_tagOf_17 rfl 2 rfl ?_
  refine v_getR d_E_tagOf_18 lf_E_9 (jshp_E f hf).1 (by omega) rfl ?_
  refine j_iload d_E_tagOf_21 0 rfl ?_
  refine v_ild d_E_tagOf_23 (jshp_E f hf).2.1 rfl (by omega) rfl (by omega) (by omega) ?_
  refine j_aload_n d_E_tagOf_24 rfl 3 rfl ?_
  refine j_iload_n d_E_tagOf_25 rfl 4 rfl ?_
  refine j_iload d_E_tagOf_26 0 rfl ?_
  refine v_callV d_E_tagOf_28 mt_R_get ln_E_58 im_R_get se_R_get hr (Nat.lt_of_succ_lt hlt) rfl rfl ⟨Nat.le_of_ble_eq_true rfl, Nat.le_of_ble_eq_true rfl⟩ (Nat.le_of_ble_eq_true rfl) rfl (Nat.zero_le _) (Nat.zero_le _) (c_R_get g V L r hr hn hlt row 0 hrow (by omega)) rfl ?_
  rintro _ _ _ ⟨rfl, rfl, rfl⟩
  refine v_callS d_E_tagOf_31 mt_F_times ln_E_62 sm_F_times ⟨Nat.le_of_ble_eq_true rfl, Nat.le_of_ble_eq_true rfl⟩ (Nat.le_of_ble_eq_true rfl) rfl (Nat.zero_le _) (Nat.zero_le _) (c_F_ti g V L (V (4 + 5 * f) 0) (V (r + 1) (row * 5 + 0)) (Nat.lt_of_lt_of_le (hal _ (by omega)) (by decide)) (Nat.lt_of_lt_of_le (hV _ (by omega)) (by decide))) rfl ?_
  rintro _ _ _ ⟨rfl, rfl, rfl⟩
  refine v_callS d_E_tagOf_34 mt_F_plus ln_E_65 sm_F_plus ⟨Nat.le_of_ble_eq_true rfl, Nat.le_of_ble_eq_true rfl⟩ (Nat.le_of_ble_eq_true rfl) rfl (Nat.zero_le _) (Nat.zero_le _) (c_F_pl g V L (V (5 + 5 * f) row) (fti (V (4 + 5 * f) 0) (V (r + 1) (row * 5 + 0))) (Nat.lt_of_lt_of_le (hms _ hrow) (by decide)) (Nat.lt_of_lt_of_le (fti_lt _ _) (by decide))) rfl ?_
  rintro _ _ _ ⟨rfl, rfl, rfl⟩
  refine j_istore_n d_E_tagOf_37 (i := 3) rfl (Nat.le_of_ble_eq_true rfl) (lv' := [_, _, _, _, _]) rfl ?_
  refine j_lv [2, 3, 4, 0, 1] rfl ?_
  refine n_iinc d_E_tagOf_38 1 (by decide) 4 rfl (Nat.le_of_ble_eq_true rfl) (lv' := [(4, .int (nI 1)), _, _, _, _]) rfl ?_
  refine j_goto d_E_tagOf_41 10 rfl ?_
  refine j_iload d_E_tagOf_10 0 rfl ?_
  refine n_iconst d_E_tagOf_12 4 (by decide) ?_
  refine n_icmp_ge d_E_tagOf_13 44 rfl (by omega) (by omega) (fun h => absurd h (by omega)) (fun h => ?_)
  refine j_iload_n d_E_tagOf_16 rfl 4 rfl ?_
  refine j_aload_n d_E_tagOf_17 rfl 1 rfl ?_
  refine v_getR d_E_tagOf_18 lf_E_9 (jshp_E f hf).1 (by omega) rfl ?_
  refine j_iload d_E_tagOf_21 0 rfl ?_
  refine v_ild d_E_tagOf_23 (jshp_E f hf).2.1 rfl (by omega) rfl (by omega) (by omega) ?_
  refine j_aload_n d_E_tagOf_24 rfl 2 rfl ?_
  refine j_iload_n d_E_tagOf_25 rfl 3 rfl ?_
  refine j_iload d_E_tagOf_26 0 rfl ?_
  refine v_callV d_E_tagOf_28 mt_R_get ln_E_58 im_R_get se_R_get hr (Nat.lt_of_succ_lt hlt) rfl rfl ⟨Nat.le_of_ble_eq_true rfl, Nat.le_of_ble_eq_true rfl⟩ (Nat.le_of_ble_eq_true rfl) rfl (Nat.zero_le _) (Nat.zero_le _) (c_R_get g V L r hr hn hlt row 1 hrow (by omega)) rfl ?_
  rintro _ _ _ ⟨rfl, rfl, rfl⟩
  refine v_callS d_E_tagOf_31 mt_F_times ln_E_62 sm_F_times ⟨Nat.le_of_ble_eq_true rfl, Nat.le_of_ble_eq_true rfl⟩ (Nat.le_of_ble_eq_true rfl) rfl (Nat.zero_le _) (Nat.zero_le _) (c_F_ti g V L (V (4 + 5 * f) 1) (V (r + 1) (row * 5 + 1)) (Nat.lt_of_lt_of_le (hal _ (by omega)) (by decide)) (Nat.lt_of_lt_of_le (hV _ (by omega)) (by decide))) rfl ?_
  rintro _ _ _ ⟨rfl, rfl, rfl⟩
  refine v_callS d_E_tagOf_34 mt_F_plus ln_E_65 sm_F_plus ⟨Nat.le_of_ble_eq_true rfl, Nat.le_of_ble_eq_true rfl⟩ (Nat.le_of_ble_eq_true rfl) rfl (Nat.zero_le _) (Nat.zero_le _) (c_F_pl g V L (fpl (V (5 + 5 * f) row) (fti (V (4 + 5 * f) 0) (V (r + 1) (row * 5 + 0)))) (fti (V (4 + 5 * f) 1) (V (r + 1) (row * 5 + 1))) (Nat.lt_of_lt_of_le (fpl_lt _ _) (by decide)) (Nat.lt_of_lt_of_le (fti_lt _ _) (by decide))) rfl ?_
  rintro _ _ _ ⟨rfl, rfl, rfl⟩
  refine j_istore_n d_E_tagOf_37 (i := 3) rfl (Nat.le_of_ble_eq_true rfl) (lv' := [_, _, _, _, _]) rfl ?_
  refine j_lv [2, 3, 4, 0, 1] rfl ?_
  refine n_iinc d_E_tagOf_38 1 (by decide) 4 rfl (Nat.le_of_ble_eq_true rfl) (lv' := [(4, .int (nI 2)), _, _, _, _]) rfl ?_
  refine j_goto d_E_tagOf_41 10 rfl ?_
  refine j_iload d_E_tagOf_10 0 rfl ?_
  refine n_iconst d_E_tagOf_12 4 (by decide) ?_
  refine n_icmp_ge d_E_tagOf_13 44 rfl (by omega) (by omega) (fun h => absurd h (by omega)) (fun h => ?_)
  refine j_iload_n d_E_tagOf_16 rfl 4 rfl ?_
  refine j_aload_n d_E_tagOf_17 rfl 1 rfl ?_
  refine v_getR d_E_tagOf_18 lf_E_9 (jshp_E f hf).1 (by omega) rfl ?_
  refine j_iload d_E_tagOf_21 0 rfl ?_
  refine v_ild d_E_tagOf_23 (jshp_E f hf).2.1 rfl (by omega) rfl (by omega) (by omega) ?_
  refine j_aload_n d_E_tagOf_24 rfl 2 rfl ?_
  refine j_iload_n d_E_tagOf_25 rfl 3 rfl ?_
  refine j_iload d_E_tagOf_26 0 rfl ?_
  refine v_callV d_E_tagOf_28 mt_R_get ln_E_58 im_R_get se_R_get hr (Nat.lt_of_succ_lt hlt) rfl rfl ⟨Nat.le_of_ble_eq_true rfl, Nat.le_of_ble_eq_true rfl⟩ (Nat.le_of_ble_eq_true rfl) rfl (Nat.zero_le _) (Nat.zero_le _) (c_R_get g V L r hr hn hlt row 2 hrow (by omega)) rfl ?_
  rintro _ _ _ ⟨rfl, rfl, rfl⟩
  refine v_callS d_E_tagOf_31 mt_F_times ln_E_62 sm_F_times ⟨Nat.le_of_ble_eq_true rfl, Nat.le_of_ble_eq_true rfl⟩ (Nat.le_of_ble_eq_true rfl) rfl (Nat.zero_le _) (Nat.zero_le _) (c_F_ti g V L (V (4 + 5 * f) 2) (V (r + 1) (row * 5 + 2)) (Nat.lt_of_lt_of_le (hal _ (by omega)) (by decide)) (Nat.lt_of_lt_of_le (hV _ (by omega)) (by decide))) rfl ?_
  rintro _ _ _ ⟨rfl, rfl, rfl⟩
  refine v_callS d_E_tagOf_34 mt_F_plus ln_E_65 sm_F_plus ⟨Nat.le_of_ble_eq_true rfl, Nat.le_of_ble_eq_true rfl⟩ (Nat.le_of_ble_eq_true rfl) rfl (Nat.zero_le _) (Nat.zero_le _) (c_F_pl g V L (fpl (fpl (V (5 + 5 * f) row) (fti (V (4 + 5 * f) 0) (V (r + 1) (row * 5 + 0)))) (fti (V (4 + 5 * f) 1) (V (r + 1) (row * 5 + 1)))) (fti (V (4 + 5 * f) 2) (V (r + 1) (row * 5 + 2))) (Nat.lt_of_lt_of_le (fpl_lt _ _) (by decide)) (Nat.lt_of_lt_of_le (fti_lt _ _) (by decide))) rfl ?_
  rintro _ _ _ ⟨rfl, rfl, rfl⟩
  refine j_istore_n d_E_tagOf_37 (i := 3) rfl (Nat.le_of_ble_eq_true rfl) (lv' := [_, _, _, _, _]) rfl ?_
  refine j_lv [2, 3, 4, 0, 1] rfl ?_
  refine n_iinc d_E_tagOf_38 1 (by decide) 4 rfl (Nat.le_of_ble_eq_true rfl) (lv' := [(4, .int (nI 3)), _, _, _, _]) rfl ?_
  refine j_goto d_E_tagOf_41 10 rfl ?_
  refine j_iload d_E_tagOf_10 0 rfl ?_
  refine n_iconst d_E_tagOf_12 4 (by decide) ?_
  refine n_icmp_ge d_E_tagOf_13 44 rfl (by omega) (by omega) (fun h => absurd h (by omega)) (fun h => ?_)
  refine j_iload_n d_E_tagOf_16 rfl 4 rfl ?_
  refine j_aload_n d_E_tagOf_17 rfl 1 rfl ?_
  refine v_getR d_E_tagOf_18 lf_E_9 (jshp_E f hf).1 (by omega) rfl ?_
  refine j_iload d_E_tagOf_21 0 rfl ?_
  refine v_ild d_E_tagOf_23 (jshp_E f hf).2.1 rfl (by omega) rfl (by omega) (by omega) ?_
  refine j_aload_n d_E_tagOf_24 rfl 2 rfl ?_
  refine j_iload_n d_E_tagOf_25 rfl 3 rfl ?_
  refine j_iload d_E_tagOf_26 0 rfl ?_
  refine v_callV d_E_tagOf_28 mt_R_get ln_E_58 im_R_get se_R_get hr (Nat.lt_of_succ_lt hlt) rfl rfl ⟨Nat.le_of_ble_eq_true rfl, Nat.le_of_ble_eq_true rfl⟩ (Nat.le_of_ble_eq_true rfl) rfl (Nat.zero_le _) (Nat.zero_le _) (c_R_get g V L r hr hn hlt row 3 hrow (by omega)) rfl ?_
  rintro _ _ _ ⟨rfl, rfl, rfl⟩
  refine v_callS d_E_tagOf_31 mt_F_times ln_E_62 sm_F_times ⟨Nat.le_of_ble_eq_true rfl, Nat.le_of_ble_eq_true rfl⟩ (Nat.le_of_ble_eq_true rfl) rfl (Nat.zero_le _) (Nat.zero_le _) (c_F_ti g V L (V (4 + 5 * f) 3) (V (r + 1) (row * 5 + 3)) (Nat.lt_of_lt_of_le (hal _ (by omega)) (by decide)) (Nat.lt_of_lt_of_le (hV _ (by omega)) (by decide))) rfl ?_
  rintro _ _ _ ⟨rfl, rfl, rfl⟩
  refine v_callS d_E_tagOf_34 mt_F_plus ln_E_65 sm_F_plus ⟨Nat.le_of_ble_eq_true rfl, Nat.le_of_ble_eq_true rfl⟩ (Nat.le_of_ble_eq_true rfl) rfl (Nat.zero_le _) (Nat.zero_le _) (c_F_pl g V L (fpl (fpl (fpl (V (5 + 5 * f) row) (fti (V (4 + 5 * f) 0) (V (r + 1) (row * 5 + 0)))) (fti (V (4 + 5 * f) 1) (V (r + 1) (row * 5 + 1)))) (fti (V (4 + 5 * f) 2) (V (r + 1) (row * 5 + 2)))) (fti (V (4 + 5 * f) 3) (V (r + 1) (row * 5 + 3))) (Nat.lt_of_lt_of_le (fpl_lt _ _) (by decide)) (Nat.lt_of_lt_of_le (fti_lt _ _) (by decide))) rfl ?_
  rintro _ _ _ ⟨rfl, rfl, rfl⟩
  refine j_istore_n d_E_tagOf_37 (i := 3) rfl (Nat.le_of_ble_eq_true rfl) (lv' := [_, _, _, _, _]) rfl ?_
  refine j_lv [2, 3, 4, 0, 1] rfl ?_
  refine n_iinc d_E_tagOf_38 1 (by decide) 4 rfl (Nat.le_of_ble_eq_true rfl) (lv' := [(4, .int (nI 4)), _, _, _, _]) rfl ?_
  refine j_goto d_E_tagOf_41 10 rfl ?_
  refine j_iload d_E_tagOf_10 0 rfl ?_
  refine n_iconst d_E_tagOf_12 4 (by decide) ?_
  refine n_icmp_ge d_E_tagOf_13 44 rfl (by omega) (by omega) (fun h => ?_) (fun h => absurd h (by omega))
  refine j_iload_n d_E_tagOf_44 rfl 4 rfl ?_
  exact v_iret d_E_tagOf_45 rfl (Nat.zero_le _) (Nat.zero_le _) rfl jA0_rfl
def drs (V : Nat → Nat → Nat) (a b : Int64) (f : Nat) : Nat → Nat → Nat := fun q i => if q = 4 + 5 * f ∧ i < 4 then sN a b (64 * f + i) else if q = 5 + 5 * f ∧ i < 24 then sN a b (64 * f + 8 + i) else V q i
theorem c_E_drawSecrets (g : jG) (V : Nat → Nat → Nat) (L : Nat → Nat → Int64) (f : Nat) (hf : f < 3) (a b : Int64) : jK g Y_E_drawSecrets (1, 27) [.ref (jb g + (3 + 5 * f)), .long a, .long b, .int (nI f)] V L (jA0 none (drs V a b f) L) := by
  refine jK_entry (by decide +kernel) rfl (Nat.le_of_ble_eq_true rfl) ?_
  show jJ (g, Y_E_drawSecrets, (1, 27), 0, 0, jVQ g (jA0 none (drs V a b f) L)) [(0, .ref (jb g + (3 + 5 * f))), (1, .long a), (3, .long b), (5, .int (nI f))] (jv (g, Y_E_drawSecrets, (1, 27), 0, 0, jVQ g (jA0 none (drs V a b f) L)) V L 0 0) 0 []
  refine n_iconst d_E_drawSecrets_0 0 (by decide) ?_
  refine j_istore d_E_drawSecrets_1 (i := 6) (Nat.le_of_ble_eq_true rfl) (lv' := [_, _, _, _, _]) rfl ?_
  refine j_iload d_E_drawSecrets_3 0 rfl ?_
  refine n_iconst d_E_drawSecrets_5 4 (by decide) ?_
  refine n_icmp_ge d_E_drawSecrets_6 35 rfl (by omega) (by omega) (fun h => absurd h (by omega)) (fun h => ?_)
  refine j_aload_n d_E_drawSecrets_9 rfl 1 rfl ?_
  refine v_getR d_E_drawSecrets_10 lf_E_9 (jshp_E f hf).1 (by omega) rfl ?_
  refine j_iload d_E_drawSecrets_13 0 rfl ?_
  refine j_lload_n d_E_drawSecrets_15 rfl 2 rfl ?_
  refine j_lload_n d_E_drawSecrets_16 rfl 3 rfl ?_
  refine n_bipush d_E_drawSecrets_17 64 (by decide) ?_
  refine j_iload d_E_drawSecrets_19 4 rfl ?_
  refine n_mul d_E_drawSecrets_21 ?_
  refine j_iload d_E_drawSecrets_22 0 rfl ?_
  refine n_add d_E_drawSecrets_24 ?_
  refine v_callS d_E_drawSecrets_25 mt_F_secret ln_E_25 sm_F_secret ⟨Nat.le_of_ble_eq_true rfl, Nat.le_of_ble_eq_true rfl⟩ (Nat.le_of_ble_eq_true rfl) rfl (Nat.zero_le _) (Nat.zero_le _) (c_F_secret g V L a b (64 * f + 0) (by omega)) rfl ?_
  rintro _ _ _ ⟨rfl, rfl, rfl⟩
  refine v_ist d_E_drawSecrets_28 (jshp_E f hf).2.1 rfl (by omega) rfl (by omega) (by omega) ?_
  refine n_iinc d_E_drawSecrets_29 1 (by decide) 0 rfl (Nat.le_of_ble_eq_true rfl) (lv' := [(6, .int (nI 1)), _, _, _, _]) rfl ?_
  refine j_goto d_E_drawSecrets_32 3 rfl ?_
  refine j_iload d_E_drawSecrets_3 0 rfl ?_
  refine n_iconst d_E_drawSecrets_5 4 (by decide) ?_
  refine n_icmp_ge d_E_drawSecrets_6 35 rfl (by omega) (by omega) (fun h => absurd h (by omega)) (fun h => ?_)
  refine j_aload_n d_E_drawSecrets_9 rfl 1 rfl ?_
  refine v_getR d_E_drawSecrets_10 lf_E_9 (jshp_E f hf).1 (by omega) rfl ?_
  refine j_iload d_E_drawSecrets_13 0 rfl ?_
  refine j_lload_n d_E_drawSecrets_15 rfl 2 rfl ?_
  refine j_lload_n d_E_drawSecrets_16 rfl 3 rfl ?_
  refine n_bipush d_E_drawSecrets_17 64 (by decide) ?_
  refine j_iload d_E_drawSecrets_19 4 rfl ?_
  refine n_mul d_E_drawSecrets_21 ?_
  refine j_iload d_E_drawSecrets_22 0 rfl ?_
  refine n_add d_E_drawSecrets_24 ?_
  refine v_callS d_E_drawSecrets_25 mt_F_secret ln_E_25 sm_F_secret ⟨Nat.le_of_ble_eq_true rfl, Nat.le_of_ble_eq_true rfl⟩ (Nat.le_of_ble_eq_true rfl) rfl (Nat.zero_le _) (Nat.zero_le _) (c_F_secret g (vu V (4 + 5 * f) 0 (sN a b (64 * f + 0))) L a b (64 * f + 1) (by omega)) rfl ?_
  rintro _ _ _ ⟨rfl, rfl, rfl⟩
  refine v_ist d_E_drawSecrets_28 (jshp_E f hf).2.1 rfl (by omega) rfl (by omega) (by omega) ?_
  refine n_iinc d_E_drawSecrets_29 1 (by decide) 0 rfl (Nat.le_of_ble_eq_true rfl) (lv' := [(6, .int (nI 2)), _, _, _, _]) rfl ?_
  refine j_goto d_E_drawSecrets_32 3 rfl ?_
  refine j_iload d_E_drawSecrets_3 0 rfl ?_
  refine n_iconst d_E_drawSecrets_5 4 (by decide) ?_
  refine n_icmp_ge d_E_drawSecrets_6 35 rfl (by omega) (by omega) (fun h => absurd h (by omega)) (fun h => ?_)
  refine j_aload_n d_E_drawSecrets_9 rfl 1 rfl ?_
  refine v_getR d_E_drawSecrets_10 lf_E_9 (jshp_E f hf).1 (by omega) rfl ?_
  refine j_iload d_E_drawSecrets_13 0 rfl ?_
  refine j_lload_n d_E_drawSecrets_15 rfl 2 rfl ?_
  refine j_lload_n d_E_drawSecrets_16 rfl 3 rfl ?_
  refine n_bipush d_E_drawSecrets_17 64 (by decide) ?_
  refine j_iload d_E_drawSecrets_19 4 rfl ?_
  refine n_mul d_E_drawSecrets_21 ?_
  refine j_iload d_E_drawSecrets_22 0 rfl ?_
  refine n_add d_E_drawSecrets_24 ?_
  refine v_callS d_E_drawSecrets_25 mt_F_secret ln_E_25 sm_F_secret ⟨Nat.le_of_ble_eq_true rfl, Nat.le_of_ble_eq_true rfl⟩ (Nat.le_of_ble_eq_true rfl) rfl (Nat.zero_le _) (Nat.zero_le _) (c_F_secret g (vu (vu V (4 + 5 * f) 0 (sN a b (64 * f + 0))) (4 + 5 * f) 1 (sN a b (64 * f + 1))) L a b (64 * f + 2) (by omega)) rfl ?_
  rintro _ _ _ ⟨rfl, rfl, rfl⟩
  refine v_ist d_E_drawSecrets_28 (jshp_E f hf).2.1 rfl (by omega) rfl (by omega) (by omega) ?_
  refine n_iinc d_E_drawSecrets_29 1 (by decide) 0 rfl (Nat.le_of_ble_eq_true rfl) (lv' := [(6, .int (nI 3)), _, _, _, _]) rfl ?_
  refine j_goto d_E_drawSecrets_32 3 rfl ?_
  refine j_iload d_E_drawSecrets_3 0 rfl ?_
  refine n_iconst d_E_drawSecrets_5 4 (by decide) ?_
  refine n_icmp_ge d_E_drawSecrets_6 35 rfl (by omega) (by omega) (fun h => absurd h (by omega)) (fun h => ?_)
  refine j_aload_n d_E_drawSecrets_9 rfl 1 rfl ?_
  refine v_getR d_E_drawSecrets_10 lf_E_9 (jshp_E f hf).1 (by omega) rfl ?_
  refine j_iload d_E_drawSecrets_13 0 rfl ?_
  refine j_lload_n d_E_drawSecrets_15 rfl 2 rfl ?_
  refine j_lload_n d_E_drawSecrets_16 rfl 3 rfl ?_
  refine n_bipush d_E_drawSecrets_17 64 (by decide) ?_
  refine j_iload d_E_drawSecrets_19 4 rfl ?_
  refine n_mul d_E_drawSecrets_21 ?_
  refine j_iload d_E_drawSecrets_22 0 rfl ?_
  refine n_add d_E_drawSecrets_24 ?_
  refine v_callS d_E_drawSecrets_25 mt_F_secret ln_E_25 sm_F_secret ⟨Nat.le_of_ble_eq_true rfl, Nat.le_of_ble_eq_true rfl⟩ (Nat.le_of_ble_eq_true rfl) rfl (Nat.zero_le _) (Nat.zero_le _) (c_F_secret g (vu (vu (vu V (4 + 5 * f) 0 (sN a b (64 * f + 0))) (4 + 5 * f) 1 (sN a b (64 * f + 1))) (4 + 5 * f) 2 (sN a b (64 * f + 2))) L a b (64 * f + 3) (by omega)) rfl ?_
  rintro _ _ _ ⟨rfl, rfl, rfl⟩
  refine v_ist d_E_drawSecrets_28 (jshp_E f hf).2.1 rfl (by omega) rfl (by omega) (by omega) ?_
  refine n_iinc d_E_drawSecrets_29 1 (by decide) 0 rfl (Nat.le_of_ble_eq_true rfl) (lv' := [(6, .int (nI 4)), _, _, _, _]) rfl ?_
  refine j_goto d_E_drawSecrets_32 3 rfl ?_
  refine j_iload d_E_drawSecrets_3 0 rfl ?_
  refine n_iconst d_E_drawSecrets_5 4 (by decide) ?_
  refine n_icmp_ge d_E_drawSecrets_6 35 rfl (by omega) (by omega) (fun h => ?_) (fun h => absurd h (by omega))
  refine n_iconst d_E_drawSecrets_35 0 (by decide) ?_
  refine j_istore d_E_drawSecrets_36 (i := 6) (Nat.le_of_ble_eq_true rfl) (lv' := [_, _, _, _, _]) rfl ?_
  refine j_lv [1, 2, 3, 4, 0] rfl ?_
  generalize hφ : jA0 none (drs V a b f) L = φ
  have loop : ∀ (m x : Nat), x + m = 24 → jJ (g, Y_E_drawSecrets, (1, 27), 0, 0, jVQ g φ) [(0, .ref (jb g + (3 + 5 * f))), (1, .long a), (3, .long b), (5, .int (nI f)), (6, .int (nI x))] (jv (g, Y_E_drawSecrets, (1, 27), 0, 0, jVQ g φ) (fun q i => if q = 4 + 5 * f ∧ i < 4 then sN a b (64 * f + i) else if q = 5 + 5 * f ∧ i < x then sN a b (64 * f + 8 + i) else V q i) L 0 0) 38 [] := by
    intro m
    induction m with
    | zero =>
      intro x hx
      obtain rfl : x = 24 := by omega
      refine j_iload d_E_drawSecrets_38 4 rfl ?_
      refine n_bipush d_E_drawSecrets_40 24 (by decide) ?_
      refine n_icmp_ge d_E_drawSecrets_42 74 rfl (by omega) (by omega) (fun h => ?_) (fun h => absurd h (by omega))
      subst hφ
      exact v_vret d_E_drawSecrets_74 rfl (Nat.zero_le _) (Nat.zero_le _) rfl jA0_rfl
    | succ m ih =>
      intro x hx
      refine j_iload d_E_drawSecrets_38 4 rfl ?_
      refine n_bipush d_E_drawSecrets_40 24 (by decide) ?_
      refine n_icmp_ge d_E_drawSecrets_42 74 rfl (by omega) (by omega) (fun h => absurd h (by omega)) (fun h => ?_)
      refine j_aload_n d_E_drawSecrets_45 rfl 0 rfl ?_
      refine v_getR d_E_drawSecrets_46 lf_E_15 (jshp_E f hf).1 (by omega) rfl ?_
      refine j_iload d_E_drawSecrets_49 4 rfl ?_
      refine j_lload_n d_E_drawSecrets_51 rfl 1 rfl ?_
      refine j_lload_n d_E_drawSecrets_52 rfl 2 rfl ?_
      refine n_bipush d_E_drawSecrets_53 64 (by decide) ?_
      refine j_iload d_E_drawSecrets_55 3 rfl ?_
      refine n_mul d_E_drawSecrets_57 ?_
      refine n_bipush d_E_drawSecrets_58 8 (by decide) ?_
      refine n_add d_E_drawSecrets_60 ?_
      refine j_iload d_E_drawSecrets_61 4 rfl ?_
      refine n_add d_E_drawSecrets_63 ?_
      refine v_callS d_E_drawSecrets_64 mt_F_secret ln_E_25 sm_F_secret ⟨Nat.le_of_ble_eq_true rfl, Nat.le_of_ble_eq_true rfl⟩ (Nat.le_of_ble_eq_true rfl) rfl (Nat.zero_le _) (Nat.zero_le _) (c_F_secret g (fun q i => if q = 4 + 5 * f ∧ i < 4 then sN a b (64 * f + i) else if q = 5 + 5 * f ∧ i < x then sN a b (64 * f + 8 + i) else V q i) L a b (64 * f + 8 + x) (by omega)) rfl ?_
      rintro _ _ _ ⟨rfl, rfl, rfl⟩
      refine v_ist d_E_drawSecrets_67 (jshp_E f hf).2.2.1 rfl (by omega) rfl (by omega) (by omega) ?_
      refine n_iinc d_E_drawSecrets_68 1 (by decide) 4 rfl (Nat.le_of_ble_eq_true rfl) (lv' := [_, _, _, _, _]) rfl ?_
      refine j_goto d_E_drawSecrets_71 38 rfl ?_
      refine j_lv [1, 2, 3, 4, 0] rfl ?_
      rw [show vu (fun q i => if q = 4 + 5 * f ∧ i < 4 then sN a b (64 * f + i) else if q = 5 + 5 * f ∧ i < x then sN a b (64 * f + 8 + i) else V q i) (5 + 5 * f) x (sN a b (64 * f + 8 + x)) = (fun q i => if q = 4 + 5 * f ∧ i < 4 then sN a b (64 * f + i) else if q = 5 + 5 * f ∧ i < (x + 1) then sN a b (64 * f + 8 + i) else V q i) from by
        funext q i
        simp only [vu]
        repeat' split
        all_goals first | with_reducible rfl | (exfalso; omega) | (congr 1; omega)]
      exact ih (x + 1) (by omega)
  rw [show (vu (vu (vu (vu V (4 + 5 * f) 0 (sN a b (64 * f + 0))) (4 + 5 * f) 1 (sN a b (64 * f + 1))) (4 + 5 * f) 2 (sN a b (64 * f + 2))) (4 + 5 * f) 3 (sN a b (64 * f + 3))) = (fun q i => if q = 4 + 5 * f ∧ i < 4 then sN a b (64 * f + i) else if q = 5 + 5 * f ∧ i < 0 then sN a b (64 * f + 8 + i) else V q i) from by
    funext q i
    simp only [vu]
    repeat' split
    all_goals first | with_reducible rfl | (exfalso; omega) | (congr 1; omega)]
  exact loop 24 0 (by omega)
end
section
/-! Deposit.complete, Deposit.make; Copy; Keeper.tally -/
/-- the coded rows of the first t groups laid -/
def spall (V : Nat → Nat → Nat) (r : Nat) : Nat → Nat → Nat → Nat
  | 0 => V
  | t + 1 => spd (spall V r t) r (6 * t)
theorem spd_nq {V : Nat → Nat → Nat} {r first a : Nat} (h : a ≠ r + 1) : spd V r first a = V a := by
  unfold spd
  rw [vu_nq _ _ _ h, vu_nq _ _ _ h, vu_nq _ _ _ h, vu_nq _ _ _ h, vu_nq _ _ _ h, vu_nq _ _ _ h, vu_nq _ _ _ h, vu_nq _ _ _ h]
theorem spall_nq {V : Nat → Nat → Nat} {r a : Nat} (h : a ≠ r + 1) : ∀ t, spall V r t a = V a
  | 0 => rfl
  | t + 1 => (spd_nq h).trans (spall_nq h t)
theorem spall_lt {V : Nat → Nat → Nat} {r : Nat} (hV : ∀ i, i < 120 → V (r + 1) i < 2147483647) : ∀ t i, i < 120 → spall V r t (r + 1) i < 2147483647
  | 0 => hV
  | t + 1 => spd_lt (spall_lt hV t)
/-- the tags of the first n rows laid -/
def tall (V : Nat → Nat → Nat) (f r : Nat) : Nat → Nat → Nat → Nat
  | 0 => V
  | n + 1 => vu (tall V f r n) (r + 1) (n * 5 + 4) (tgd (tall V f r n (5 + 5 * f) n) (tall V f r n (4 + 5 * f)) (fun j => tall V f r n (r + 1) (n * 5 + j)))
theorem tall_nq {V : Nat → Nat → Nat} {f r a : Nat} (h : a ≠ r + 1) : ∀ n, tall V f r n a = V a
  | 0 => rfl
  | n + 1 => (vu_nq _ _ _ h).trans (tall_nq h n)
theorem tall_lt {V : Nat → Nat → Nat} {f r : Nat} (hV : ∀ i, i < 120 → V (r + 1) i < 2147483647) : ∀ n i, i < 120 → tall V f r n (r + 1) i < 2147483647
  | 0 => hV
  | n + 1 => fun i hi => by
    unfold tall vu
    split
    · exact tgd_lt _ _ _
    · exact tall_lt hV n i hi
def cmpl (V : Nat → Nat → Nat) (f r G : Nat) : Nat → Nat → Nat := tall (spall V r G) f r (6 * G)
theorem c_E_complete (g : jG) (V : Nat → Nat → Nat) (L : Nat → Nat → Int64) (f : Nat) (hf : f < 3) (r : Nat) (hr : jshp r = jo 5 [(r + 1) + 2]) (hn : jshp (r + 1) = .inl (0, 120)) (hlt : r + 1 < 104) (G : Nat) (hG : G ≤ 4) (hrc : V (3 + 5 * f) 1 = 6 * G) (hV : ∀ i, i < 120 → V (r + 1) i < 2147483647) (hal : ∀ i, i < 4 → V (4 + 5 * f) i < 2147483647) (hms : ∀ i, i < 24 → V (5 + 5 * f) i < 2147483647) : jK g Y_E_complete (3, 70) [.ref (jb g + (3 + 5 * f)), .ref (jb g + r)] V L (jA0 none (cmpl V f r G) L) := by
  refine jK_entry (by decide +kernel) rfl (Nat.le_of_ble_eq_true rfl) ?_
  show jJ (g, Y_E_complete, (3, 70), 0, 0, jVQ g (jA0 none (cmpl V f r G) L)) [(0, .ref (jb g + (3 + 5 * f))), (1, .ref (jb g + r))] (jv (g, Y_E_complete, (3, 70), 0, 0, jVQ g (jA0 none (cmpl V f r G) L)) V L 0 0) 0 []
  have n3 : 3 + 5 * f ≠ r + 1 := (inl_no hn (jshp_E f hf).1).symm
  have n4 : 4 + 5 * f ≠ r + 1 := (inl_ne hn (jshp_E f hf).2.1 (by decide)).symm
  have n5 : 5 + 5 * f ≠ r + 1 := (inl_ne hn (jshp_E f hf).2.2.1 (by decide)).symm
  generalize hφ : jA0 none (cmpl V f r G) L = φ
  have loop2 : ∀ (m x : Nat), x + m = 6 * G → jJ (g, Y_E_complete, (3, 70), 0, 0, jVQ g φ) [(0, .ref (jb g + (3 + 5 * f))), (1, .ref (jb g + r)), (2, .int (nI x))] (jv (g, Y_E_complete, (3, 70), 0, 0, jVQ g φ) (tall (spall V r G) f r x) L 0 0) 23 [] := by
    intro m
    induction m with
    | zero =>
      intro x hx
      obtain rfl : x = 6 * G := by omega
      refine j_iload_n d_E_complete_23 rfl 2 rfl ?_
      refine j_aload_n d_E_complete_24 rfl 0 rfl ?_
      refine v_getI d_E_complete_25 lf_E_35 (jshp_E f hf).1 (by omega) rfl ?_
      rw [(show tall (spall V r G) f r (6 * G) (3 + 5 * f) 1 = 6 * G from by rw [tall_nq n3, spall_nq n3, hrc])]
      refine n_icmp_ge d_E_complete_28 49 rfl (by omega) (by omega) (fun h => ?_) (fun h => absurd h (by omega))
      subst hφ
      exact v_vret d_E_complete_49 rfl (Nat.zero_le _) (Nat.zero_le _) rfl jA0_rfl
    | succ m ih =>
      intro x hx
      refine j_iload_n d_E_complete_23 rfl 2 rfl ?_
      refine j_aload_n d_E_complete_24 rfl 0 rfl ?_
      refine v_getI d_E_complete_25 lf_E_35 (jshp_E f hf).1 (by omega) rfl ?_
      rw [(show tall (spall V r G) f r x (3 + 5 * f) 1 = 6 * G from by rw [tall_nq n3, spall_nq n3, hrc])]
      refine n_icmp_ge d_E_complete_28 49 rfl (by omega) (by omega) (fun h => absurd h (by omega)) (fun h => ?_)
      refine j_aload_n d_E_complete_31 rfl 1 rfl ?_
      refine j_iload_n d_E_complete_32 rfl 2 rfl ?_
      refine n_iconst d_E_complete_33 4 (by decide) ?_
      refine j_aload_n d_E_complete_34 rfl 0 rfl ?_
      refine j_aload_n d_E_complete_35 rfl 1 rfl ?_
      refine j_iload_n d_E_complete_36 rfl 2 rfl ?_
      refine v_callV d_E_complete_37 mt_E_tagOf ln_E_54 im_E_tagOf se_E_tagOf (jshp_E f hf).1 (by omega) rfl rfl ⟨Nat.le_of_ble_eq_true rfl, Nat.le_of_ble_eq_true rfl⟩ (Nat.le_of_ble_eq_true rfl) rfl (Nat.zero_le _) (Nat.zero_le _) (c_E_tagOf g (tall (spall V r G) f r x) L f hf r hr hn hlt x (by omega) (tall_lt (spall_lt hV G) x) (by rw [tall_nq n4, spall_nq n4]; exact hal) (by rw [tall_nq n5, spall_nq n5]; exact hms)) rfl ?_
      rintro _ _ _ ⟨rfl, rfl, rfl⟩
      refine v_callV d_E_complete_40 mt_R_set ln_E_42 im_R_set se_R_set hr (Nat.lt_of_succ_lt hlt) rfl rfl ⟨Nat.le_of_ble_eq_true rfl, Nat.le_of_ble_eq_true rfl⟩ (Nat.le_of_ble_eq_true rfl) rfl (Nat.zero_le _) (Nat.zero_le _) (c_R_set g (tall (spall V r G) f r x) L r hr hn hlt x 4 (by omega) (by omega) _) rfl ?_
      rintro _ _ _ ⟨rfl, rfl, rfl⟩
      refine n_iinc d_E_complete_43 1 (by decide) 2 rfl (Nat.le_of_ble_eq_true rfl) (lv' := [_, _, _]) rfl ?_
      refine j_goto d_E_complete_46 23 rfl ?_
      refine j_lv [1, 2, 0] rfl ?_
      exact ih (x + 1) (by omega)
  have loop1 : ∀ (m t : Nat), t + m = G → jJ (g, Y_E_complete, (3, 70), 0, 0, jVQ g φ) [(0, .ref (jb g + (3 + 5 * f))), (1, .ref (jb g + r)), (2, .int (nI (6 * t)))] (jv (g, Y_E_complete, (3, 70), 0, 0, jVQ g φ) (spall V r t) L 0 0) 2 [] := by
    intro m
    induction m with
    | zero =>
      intro t ht
      obtain rfl : t = G := by omega
      refine j_iload_n d_E_complete_2 rfl 2 rfl ?_
      refine j_aload_n d_E_complete_3 rfl 0 rfl ?_
      refine v_getI d_E_complete_4 lf_E_35 (jshp_E f hf).1 (by omega) rfl ?_
      rw [show spall V r t (3 + 5 * f) 1 = 6 * t from by rw [spall_nq n3, hrc]]
      refine n_icmp_ge d_E_complete_7 21 rfl (by omega) (by omega) (fun h => ?_) (fun h => absurd h (by omega))
      refine n_iconst d_E_complete_21 0 (by decide) ?_
      refine j_istore_n d_E_complete_22 (i := 2) rfl (Nat.le_of_ble_eq_true rfl) (lv' := [_, _, _]) rfl ?_
      refine j_lv [1, 2, 0] rfl ?_
      exact loop2 (6 * t) 0 (by omega)
    | succ m ih =>
      intro t ht
      refine j_iload_n d_E_complete_2 rfl 2 rfl ?_
      refine j_aload_n d_E_complete_3 rfl 0 rfl ?_
      refine v_getI d_E_complete_4 lf_E_35 (jshp_E f hf).1 (by omega) rfl ?_
      rw [(show spall V r t (3 + 5 * f) 1 = 6 * G from by rw [spall_nq n3, hrc])]
      refine n_icmp_ge d_E_complete_7 21 rfl (by omega) (by omega) (fun h => absurd h (by omega)) (fun h => ?_)
      refine j_aload_n d_E_complete_10 rfl 1 rfl ?_
      refine j_iload_n d_E_complete_11 rfl 2 rfl ?_
      refine v_callV d_E_complete_12 mt_R_spread ln_E_50 im_R_spread se_R_spread hr (Nat.lt_of_succ_lt hlt) rfl rfl ⟨Nat.le_of_ble_eq_true rfl, Nat.le_of_ble_eq_true rfl⟩ (Nat.le_of_ble_eq_true rfl) rfl (Nat.zero_le _) (Nat.zero_le _) (c_R_spread g (spall V r t) L r hr hn hlt (6 * t) (by omega) (spall_lt hV t)) rfl ?_
      rintro _ _ _ ⟨rfl, rfl, rfl⟩
      refine n_iinc d_E_complete_15 6 (by decide) 2 rfl (Nat.le_of_ble_eq_true rfl) (lv' := [_, _, _]) rfl ?_
      refine j_goto d_E_complete_18 2 rfl ?_
      refine j_lv [1, 2, 0] rfl ?_
      exact ih (t + 1) (by omega)
  refine n_iconst d_E_complete_0 0 (by decide) ?_
  refine j_istore_n d_E_complete_1 (i := 2) rfl (Nat.le_of_ble_eq_true rfl) (lv' := [_, _, _]) rfl ?_
  refine j_lv [1, 2, 0] rfl ?_
  exact loop1 G 0 (by omega)
/-- the first t words laid into the plain rows of file f -/
def mkw (V : Nat → Nat → Nat) (f : Nat) : Nat → Nat → Nat → Nat
  | 0 => V
  | t + 1 => vu (mkw V f t) (6 + 5 * f + 1) ((t / 16 * 6 + t % 16 / 4) * 5 + t % 4) (mkw V f t 1 t)
theorem mkw_nq {V : Nat → Nat → Nat} {f a : Nat} (h : a ≠ 6 + 5 * f + 1) : ∀ t, mkw V f t a = V a
  | 0 => rfl
  | t + 1 => (vu_nq _ _ _ h).trans (mkw_nq h t)
theorem mkw_lt {V : Nat → Nat → Nat} {f : Nat} (hV : ∀ i, i < 120 → V (6 + 5 * f + 1) i < 2147483647) (hB : ∀ i, i < 64 → V 1 i < 2147483647) : ∀ t, t ≤ 64 → ∀ i, i < 120 → mkw V f t (6 + 5 * f + 1) i < 2147483647
  | 0 => fun _ => hV
  | t + 1 => fun ht i hi => by
    unfold mkw vu
    split
    · rw [mkw_nq (by omega)]
      exact hB t (by omega)
    · exact mkw_lt hV hB t (by omega) i hi
def mkv (V : Nat → Nat → Nat) (f n : Nat) : Nat → Nat → Nat := cmpl (mkw (vu (vu V (3 + 5 * f) 0 n) (3 + 5 * f) 1 ((n + 16 - 1) / 16 * 6)) f n) f (6 + 5 * f) ((n + 15) / 16)
theorem c_E_make (g : jG) (V : Nat → Nat → Nat) (L : Nat → Nat → Int64) (f : Nat) (hf : f < 3) (n : Nat) (h1 : 1 ≤ n) (h64 : n ≤ 64) (hV : ∀ i, i < 120 → V (6 + 5 * f + 1) i < 2147483647) (hB : ∀ i, i < 64 → V 1 i < 2147483647) (hal : ∀ i, i < 4 → V (4 + 5 * f) i < 2147483647) (hms : ∀ i, i < 24 → V (5 + 5 * f) i < 2147483647) : jK g Y_E_make (4, 92) [.ref (jb g + (3 + 5 * f)), .ref (jb g + 1), .int (nI n)] V L (jA0 none (mkv V f n) L) := by
  refine jK_entry (by decide +kernel) rfl (Nat.le_of_ble_eq_true rfl) ?_
  show jJ (g, Y_E_make, (4, 92), 0, 0, jVQ g (jA0 none (mkv V f n) L)) [(0, .ref (jb g + (3 + 5 * f))), (1, .ref (jb g + 1)), (2, .int (nI n))] (jv (g, Y_E_make, (4, 92), 0, 0, jVQ g (jA0 none (mkv V f n) L)) V L 0 0) 0 []
  generalize hφ : jA0 none (mkv V f n) L = φ
  have hV0 : ∀ i, i < 120 → (vu (vu V (3 + 5 * f) 0 n) (3 + 5 * f) 1 ((n + 16 - 1) / 16 * 6)) (6 + 5 * f + 1) i < 2147483647 := by rw [vu_nq _ _ _ (by omega), vu_nq _ _ _ (by omega)]; exact hV
  have hB0 : ∀ i, i < 64 → (vu (vu V (3 + 5 * f) 0 n) (3 + 5 * f) 1 ((n + 16 - 1) / 16 * 6)) 1 i < 2147483647 := by rw [vu_nq _ _ _ (by omega), vu_nq _ _ _ (by omega)]; exact hB
  have loop : ∀ (m t : Nat), t + m = n → jJ (g, Y_E_make, (4, 92), 0, 0, jVQ g φ) [(0, .ref (jb g + (3 + 5 * f))), (1, .ref (jb g + 1)), (2, .int (nI n)), (3, .int (nI t))] (jv (g, Y_E_make, (4, 92), 0, 0, jVQ g φ) (mkw (vu (vu V (3 + 5 * f) 0 n) (3 + 5 * f) 1 ((n + 16 - 1) / 16 * 6)) f t) L 0 0) 23 [] := by
    intro m
    induction m with
    | zero =>
      intro t ht
      obtain rfl : t = n := by omega
      refine j_iload_n d_E_make_23 rfl 3 rfl ?_
      refine j_iload_n d_E_make_24 rfl 2 rfl ?_
      refine n_icmp_ge d_E_make_25 51 rfl (by omega) (by omega) (fun h => ?_) (fun h => absurd h (by omega))
      refine j_aload_n d_E_make_51 rfl 0 rfl ?_
      refine j_aload_n d_E_make_52 rfl 0 rfl ?_
      refine v_getR d_E_make_53 lf_E_21 (jshp_E f hf).1 (by omega) rfl ?_
      refine v_callV d_E_make_56 mt_E_complete ln_E_46 im_E_complete se_E_complete (jshp_E f hf).1 (by omega) rfl rfl ⟨Nat.le_of_ble_eq_true rfl, Nat.le_of_ble_eq_true rfl⟩ (Nat.le_of_ble_eq_true rfl) rfl (Nat.zero_le _) (Nat.zero_le _) (c_E_complete g (mkw (vu (vu V (3 + 5 * f) 0 t) (3 + 5 * f) 1 ((t + 16 - 1) / 16 * 6)) f t) L f hf (6 + 5 * f) (jshp_ER f hf).1 (jshp_ER f hf).2 (by omega) ((t + 15) / 16) (by omega) (by rw [mkw_nq (by omega), vu_eq]; omega) (mkw_lt hV0 hB0 t (by omega)) (by rw [mkw_nq (by omega), vu_nq _ _ _ (by omega), vu_nq _ _ _ (by omega)]; exact hal) (by rw [mkw_nq (by omega), vu_nq _ _ _ (by omega), vu_nq _ _ _ (by omega)]; exact hms)) rfl ?_
      rintro _ _ _ ⟨rfl, rfl, rfl⟩
      subst hφ
      exact v_vret d_E_make_59 rfl (Nat.zero_le _) (Nat.zero_le _) rfl jA0_rfl
    | succ m ih =>
      intro t ht
      refine j_iload_n d_E_make_23 rfl 3 rfl ?_
      refine j_iload_n d_E_make_24 rfl 2 rfl ?_
      refine n_icmp_ge d_E_make_25 51 rfl (by omega) (by omega) (fun h => absurd h (by omega)) (fun h => ?_)
      refine j_aload_n d_E_make_28 rfl 0 rfl ?_
      refine v_getR d_E_make_29 lf_E_21 (jshp_E f hf).1 (by omega) rfl ?_
      refine j_iload_n d_E_make_32 rfl 3 rfl ?_
      refine v_callS d_E_make_33 mt_R_rowOfWord ln_E_38 sm_R_rowOfWord ⟨Nat.le_of_ble_eq_true rfl, Nat.le_of_ble_eq_true rfl⟩ (Nat.le_of_ble_eq_true rfl) rfl (Nat.zero_le _) (Nat.zero_le _) (c_R_rowOfWord g (mkw (vu (vu V (3 + 5 * f) 0 n) (3 + 5 * f) 1 ((n + 16 - 1) / 16 * 6)) f t) L t (by omega)) rfl ?_
      rintro _ _ _ ⟨rfl, rfl, rfl⟩
      refine j_iload_n d_E_make_36 rfl 3 rfl ?_
      refine n_iconst d_E_make_37 4 (by decide) ?_
      refine n_rem d_E_make_38 (by omega) (by omega) (by omega) ?_
      refine j_aload_n d_E_make_39 rfl 1 rfl ?_
      refine j_iload_n d_E_make_40 rfl 3 rfl ?_
      refine v_ild d_E_make_41 rfl rfl (Nat.le_of_ble_eq_true rfl) rfl (by omega) (by omega) ?_
      refine v_callV d_E_make_42 mt_R_set ln_E_42 im_R_set se_R_set (jshp_ER f hf).1 (by omega) rfl rfl ⟨Nat.le_of_ble_eq_true rfl, Nat.le_of_ble_eq_true rfl⟩ (Nat.le_of_ble_eq_true rfl) rfl (Nat.zero_le _) (Nat.zero_le _) (c_R_set g (mkw (vu (vu V (3 + 5 * f) 0 n) (3 + 5 * f) 1 ((n + 16 - 1) / 16 * 6)) f t) L (6 + 5 * f) (jshp_ER f hf).1 (jshp_ER f hf).2 (by omega) (t / 16 * 6 + t % 16 / 4) (t % 4) (by omega) (by omega) _) rfl ?_
      rintro _ _ _ ⟨rfl, rfl, rfl⟩
      refine n_iinc d_E_make_45 1 (by decide) 3 rfl (Nat.le_of_ble_eq_true rfl) (lv' := [_, _, _, _]) rfl ?_
      refine j_goto d_E_make_48 23 rfl ?_
      refine j_lv [1, 2, 3, 0] rfl ?_
      exact ih (t + 1) (by omega)
  refine j_aload_n d_E_make_0 rfl 0 rfl ?_
  refine j_iload_n d_E_make_1 rfl 2 rfl ?_
  refine v_putI d_E_make_2 lf_E_31 (jshp_E f hf).1 (by omega) rfl rfl rfl rfl ?_
  refine j_aload_n d_E_make_5 rfl 0 rfl ?_
  refine j_iload_n d_E_make_6 rfl 2 rfl ?_
  refine n_bipush d_E_make_7 16 (by decide) ?_
  refine n_add d_E_make_9 ?_
  refine n_iconst d_E_make_10 1 (by decide) ?_
  refine n_sub d_E_make_11 (by omega) ?_
  refine n_bipush d_E_make_12 16 (by decide) ?_
  refine n_div d_E_make_14 (by omega) (by omega) (by omega) ?_
  refine n_bipush d_E_make_15 6 (by decide) ?_
  refine n_mul d_E_make_17 ?_
  refine v_putI d_E_make_18 lf_E_35 (jshp_E f hf).1 (by omega) rfl rfl rfl rfl ?_
  refine n_iconst d_E_make_21 0 (by decide) ?_
  refine j_istore_n d_E_make_22 (i := 3) rfl (Nat.le_of_ble_eq_true rfl) (lv' := [_, _, _, _]) rfl ?_
  refine j_lv [1, 2, 3, 0] rfl ?_
  exact loop n 0 (by omega)
end
section
/-! AuditDesk.Copy, Keeper.tally, Challenge -/
theorem c_Y_drop (g : jG) (V : Nat → Nat → Nat) (L : Nat → Nat → Int64) (k : Nat) (hk : k < 4) (f : Nat) (hf : f < 3) (row : Nat) (hrow : row < 24) : jK g Y_Y_drop (2, 45) [.ref (jb g + (21 + 14 * k + 4 * f)), .int (nI row)] V L (jA0 none (clr (vu V (24 + 14 * k + 4 * f) row 1) (22 + 14 * k + 4 * f) row) L) := by
  refine jK_entry (by decide +kernel) rfl (Nat.le_of_ble_eq_true rfl) ?_
  show jJ (g, Y_Y_drop, (2, 45), 0, 0, jVQ g (jA0 none (clr (vu V (24 + 14 * k + 4 * f) row 1) (22 + 14 * k + 4 * f) row) L)) [(0, .ref (jb g + (21 + 14 * k + 4 * f))), (1, .int (nI row))] (jv (g, Y_Y_drop, (2, 45), 0, 0, jVQ g (jA0 none (clr (vu V (24 + 14 * k + 4 * f) row 1) (22 + 14 * k + 4 * f) row) L)) V L 0 0) 0 []
  refine j_aload_n d_Y_drop_0 rfl 0 rfl ?_
  refine v_getR d_Y_drop_1 lf_Y_18 (jshp_Y k hk f hf).1 (by omega) rfl ?_
  refine j_iload_n d_Y_drop_4 rfl 1 rfl ?_
  refine n_iconst d_Y_drop_5 1 (by decide) ?_
  refine v_zst d_Y_drop_6 (jshp_Y k hk f hf).2.2.2 rfl (by omega) rfl (by omega) (by omega) (by omega) ?_
  refine j_aload_n d_Y_drop_7 rfl 0 rfl ?_
  refine v_getR d_Y_drop_8 lf_Y_12 (jshp_Y k hk f hf).1 (by omega) rfl ?_
  refine j_iload_n d_Y_drop_11 rfl 1 rfl ?_
  refine v_callV d_Y_drop_12 mt_R_clearRow ln_Y_22 im_R_clearRow se_R_clearRow (jshp_YR k hk f hf).1 (by omega) rfl rfl ⟨Nat.le_of_ble_eq_true rfl, Nat.le_of_ble_eq_true rfl⟩ (Nat.le_of_ble_eq_true rfl) rfl (Nat.zero_le _) (Nat.zero_le _) (c_R_clearRow g (vu V (24 + 14 * k + 4 * f) row 1) L (22 + 14 * k + 4 * f) (jshp_YR k hk f hf).1 (jshp_YR k hk f hf).2 (by omega) row hrow) rfl ?_
  rintro _ _ _ ⟨rfl, rfl, rfl⟩
  exact v_vret d_Y_drop_15 rfl (Nat.zero_le _) (Nat.zero_le _) rfl jA0_rfl
def tak (V : Nat → Nat → Nat) (r r2 row : Nat) : Nat → Nat → Nat := fun a i => if a = r + 1 ∧ row * 5 ≤ i ∧ i < row * 5 + 5 then V (r2 + 1) i else V a i
def sam (V : Nat → Nat → Nat) (r r2 row : Nat) : Nat := (if V (r + 1) (row * 5 + 0) = V (r2 + 1) (row * 5 + 0) ∧ V (r + 1) (row * 5 + 1) = V (r2 + 1) (row * 5 + 1) ∧ V (r + 1) (row * 5 + 2) = V (r2 + 1) (row * 5 + 2) ∧ V (r + 1) (row * 5 + 3) = V (r2 + 1) (row * 5 + 3) ∧ V (r + 1) (row * 5 + 4) = V (r2 + 1) (row * 5 + 4) then 1 else 0)
theorem sam_le (V : Nat → Nat → Nat) (r r2 row : Nat) : sam V r r2 row ≤ 1 := by
  unfold sam
  split <;> omega
/-- the first t rows of keeper k's copy of f taken from r2 -/
def bcm (V : Nat → Nat → Nat) (k f r2 : Nat) : Nat → Nat → Nat → Nat
  | 0 => V
  | t + 1 => tak (vu (bcm V k f r2 t) (24 + 14 * k + 4 * f) t 0) (22 + 14 * k + 4 * f) r2 t
/-- how many of them were other, or lost, or not there -/
def bco (V : Nat → Nat → Nat) (k f r2 : Nat) : Nat → Nat
  | 0 => 0
  | t + 1 => bco V k f r2 t + (if bcm V k f r2 t (21 + 14 * k + 4 * f) 0 = 0 then 1 else if bcm V k f r2 t (24 + 14 * k + 4 * f) t = 0 then (if sam (bcm V k f r2 t) (22 + 14 * k + 4 * f) r2 t = 0 then 1 else 0) else 1)
theorem bco_s (V : Nat → Nat → Nat) (k f r2 t : Nat) : bco V k f r2 (t + 1) = bco V k f r2 t + (if bcm V k f r2 t (21 + 14 * k + 4 * f) 0 = 0 then 1 else if bcm V k f r2 t (24 + 14 * k + 4 * f) t = 0 then (if sam (bcm V k f r2 t) (22 + 14 * k + 4 * f) r2 t = 0 then 1 else 0) else 1) := rfl
theorem bco_le (V : Nat → Nat → Nat) (k f r2 : Nat) : ∀ t, bco V k f r2 t ≤ t
  | 0 => Nat.le_refl _
  | t + 1 => by
    have := bco_le V k f r2 t
    unfold bco
    repeat' split
    all_goals omega
theorem bcm_nq {V : Nat → Nat → Nat} {k f r2 a : Nat} (h1 : a ≠ 24 + 14 * k + 4 * f) (h2 : a ≠ 22 + 14 * k + 4 * f + 1) : ∀ t, bcm V k f r2 t a = V a
  | 0 => rfl
  | t + 1 => by
    funext i
    show tak _ _ _ _ a i = _
    unfold tak
    rw [if_neg (fun z => h2 z.1), vu_nq _ _ _ h1, bcm_nq h1 h2 t]
theorem bcm_lost {V : Nat → Nat → Nat} {k f r2 i : Nat} (hV : V (24 + 14 * k + 4 * f) i ≤ 1) : ∀ t, bcm V k f r2 t (24 + 14 * k + 4 * f) i ≤ 1
  | 0 => hV
  | t + 1 => by
    show tak _ _ _ _ _ _ ≤ 1
    unfold tak
    rw [if_neg (by omega)]
    unfold vu
    split
    · omega
    · exact bcm_lost hV t
theorem bcm_lt {V : Nat → Nat → Nat} {k f r2 : Nat} (h1 : r2 + 1 ≠ 24 + 14 * k + 4 * f) (h2 : r2 + 1 ≠ 22 + 14 * k + 4 * f + 1) (hV : ∀ i, i < 120 → V (22 + 14 * k + 4 * f + 1) i < 2147483647) (hV2 : ∀ i, i < 120 → V (r2 + 1) i < 2147483647) : ∀ t i, i < 120 → bcm V k f r2 t (22 + 14 * k + 4 * f + 1) i < 2147483647
  | 0 => hV
  | t + 1 => fun i hi => by
    show tak _ _ _ _ _ _ < _
    unfold tak
    split
    · rw [vu_nq _ _ _ h1, bcm_nq h1 h2]
      exact hV2 i hi
    · rw [vu_nq _ _ _ (by omega)]
      exact bcm_lt h1 h2 hV hV2 t i hi
theorem c_Y_become (g : jG) (V : Nat → Nat → Nat) (L : Nat → Nat → Int64) (k : Nat) (hk : k < 4) (f : Nat) (hf : f < 3) (r2 : Nat) (hr2 : jshp r2 = jo 5 [(r2 + 1) + 2]) (hn2 : jshp (r2 + 1) = .inl (0, 120)) (hlt2 : r2 + 1 < 104) (h2 : r2 + 1 ≠ 22 + 14 * k + 4 * f + 1) (rc : Nat) (hrc : rc ≤ 24) (hh : V (21 + 14 * k + 4 * f) 0 ≤ 1) (hls : ∀ i, i < 24 → V (24 + 14 * k + 4 * f) i ≤ 1) (hV : ∀ i, i < 120 → V (22 + 14 * k + 4 * f + 1) i < 2147483647) (hV2 : ∀ i, i < 120 → V (r2 + 1) i < 2147483647) : jK g Y_Y_become (2, 70) [.ref (jb g + (21 + 14 * k + 4 * f)), .ref (jb g + r2), .int (nI rc)] V L (jA0 (some (.int (nI (bco V k f r2 rc)))) (vu (bcm V k f r2 rc) (21 + 14 * k + 4 * f) 0 1) L) := by
  refine jK_entry (by decide +kernel) rfl (Nat.le_of_ble_eq_true rfl) ?_
  show jJ (g, Y_Y_become, (2, 70), 0, 0, jVQ g (jA0 (some (.int (nI (bco V k f r2 rc)))) (vu (bcm V k f r2 rc) (21 + 14 * k + 4 * f) 0 1) L)) [(0, .ref (jb g + (21 + 14 * k + 4 * f))), (1, .ref (jb g + r2)), (2, .int (nI rc))] (jv (g, Y_Y_become, (2, 70), 0, 0, jVQ g (jA0 (some (.int (nI (bco V k f r2 rc)))) (vu (bcm V k f r2 rc) (21 + 14 * k + 4 * f) 0 1) L)) V L 0 0) 0 []
  have h1 : r2 + 1 ≠ 24 + 14 * k + 4 * f := inl_ne hn2 (jshp_Y k hk f hf).2.2.2 (by decide)
  generalize hφ : jA0 (some (.int (nI (bco V k f r2 rc)))) (vu (bcm V k f r2 rc) (21 + 14 * k + 4 * f) 0 1) L = φ
  have loop : ∀ (m t : Nat), t + m = rc → jJ (g, Y_Y_become, (2, 70), 0, 0, jVQ g φ) [(0, .ref (jb g + (21 + 14 * k + 4 * f))), (1, .ref (jb g + r2)), (2, .int (nI rc)), (3, .int (nI (bco V k f r2 t))), (4, .int (nI t))] (jv (g, Y_Y_become, (2, 70), 0, 0, jVQ g φ) (bcm V k f r2 t) L 0 0) 5 [] := by
    intro m
    induction m with
    | zero =>
      intro t ht
      obtain rfl : t = rc := by omega
      refine j_iload d_Y_become_5 4 rfl ?_
      refine j_iload_n d_Y_become_7 rfl 2 rfl ?_
      refine n_icmp_ge d_Y_become_8 68 rfl (by omega) (by omega) (fun h => ?_) (fun h => absurd h (by omega))
      refine j_aload_n d_Y_become_68 rfl 0 rfl ?_
      refine n_iconst d_Y_become_69 1 (by decide) ?_
      refine v_putI d_Y_become_70 lf_Y_26 (jshp_Y k hk f hf).1 (by omega) rfl rfl (nar_b (by omega)) (fit_b (by omega)) ?_
      subst hφ
      refine j_iload_n d_Y_become_73 rfl 3 rfl ?_
      exact v_iret d_Y_become_74 rfl (Nat.zero_le _) (Nat.zero_le _) rfl jA0_rfl
    | succ m ih =>
      intro t ht
      have hb := bco_le V k f r2 t
      have tail : ∀ o, o = bco V k f r2 (t + 1) → jJ (g, Y_Y_become, (2, 70), 0, 0, jVQ g φ) [(0, .ref (jb g + (21 + 14 * k + 4 * f))), (1, .ref (jb g + r2)), (2, .int (nI rc)), (3, .int (nI o)), (4, .int (nI t))] (jv (g, Y_Y_become, (2, 70), 0, 0, jVQ g φ) (bcm V k f r2 t) L 0 0) 44 [] := by
        intro o ho
        refine j_aload_n d_Y_become_44 rfl 0 rfl ?_
        refine v_getR d_Y_become_45 lf_Y_18 (jshp_Y k hk f hf).1 (by omega) rfl ?_
        refine j_iload d_Y_become_48 4 rfl ?_
        refine n_iconst d_Y_become_50 0 (by decide) ?_
        refine v_zst d_Y_become_51 (jshp_Y k hk f hf).2.2.2 rfl (by omega) rfl (by omega) (by omega) (by omega) ?_
        refine j_aload_n d_Y_become_52 rfl 0 rfl ?_
        refine v_getR d_Y_become_53 lf_Y_12 (jshp_Y k hk f hf).1 (by omega) rfl ?_
        refine j_aload_n d_Y_become_56 rfl 1 rfl ?_
        refine j_iload d_Y_become_57 4 rfl ?_
        refine v_callV d_Y_become_59 mt_R_takeRow ln_Y_34 im_R_takeRow se_R_takeRow (jshp_YR k hk f hf).1 (by omega) rfl rfl ⟨Nat.le_of_ble_eq_true rfl, Nat.le_of_ble_eq_true rfl⟩ (Nat.le_of_ble_eq_true rfl) rfl (Nat.zero_le _) (Nat.zero_le _) (c_R_takeRow g (vu (bcm V k f r2 t) (24 + 14 * k + 4 * f) t 0) L (22 + 14 * k + 4 * f) (jshp_YR k hk f hf).1 (jshp_YR k hk f hf).2 (by omega) r2 hr2 hn2 hlt2 t (by omega)) rfl ?_
        rintro _ _ _ ⟨rfl, rfl, rfl⟩
        refine n_iinc d_Y_become_62 1 (by decide) 4 rfl (Nat.le_of_ble_eq_true rfl) (lv' := [_, _, _, _, _]) rfl ?_
        refine j_goto d_Y_become_65 5 rfl ?_
        refine j_lv [1, 2, 3, 4, 0] rfl ?_
        rw [ho]
        exact ih (t + 1) (by omega)
      refine j_iload d_Y_become_5 4 rfl ?_
      refine j_iload_n d_Y_become_7 rfl 2 rfl ?_
      refine n_icmp_ge d_Y_become_8 68 rfl (by omega) (by omega) (fun h => absurd h (by omega)) (fun h => ?_)
      refine j_aload_n d_Y_become_11 rfl 0 rfl ?_
      refine v_getI d_Y_become_12 lf_Y_26 (jshp_Y k hk f hf).1 (by omega) rfl ?_
      refine n_if_eq d_Y_become_15 41 rfl (Nat.lt_of_le_of_lt (show bcm V k f r2 t (21 + 14 * k + 4 * f) 0 ≤ 1 from by rw [bcm_nq (by omega) (by omega)]; exact hh) (by decide)) (fun a1 => ?_) (fun a1 => ?_)
      · refine n_iinc d_Y_become_41 1 (by decide) 3 rfl (Nat.le_of_ble_eq_true rfl) (lv' := [_, _, _, _, _]) rfl ?_
        refine j_lv [1, 2, 3, 0, 4] rfl ?_
        exact tail _ (by rw [bco_s, if_pos a1])
      · refine j_aload_n d_Y_become_18 rfl 0 rfl ?_
        refine v_getR d_Y_become_19 lf_Y_18 (jshp_Y k hk f hf).1 (by omega) rfl ?_
        refine j_iload d_Y_become_22 4 rfl ?_
        refine v_zld d_Y_become_24 (jshp_Y k hk f hf).2.2.2 rfl (by omega) rfl (by omega) (by omega) ?_
        refine n_if_ne d_Y_become_25 41 rfl (Nat.lt_of_le_of_lt (bcm_lost (hls t (by omega)) t) (by decide)) (fun a2 => ?_) (fun a2 => ?_)
        · refine n_iinc d_Y_become_41 1 (by decide) 3 rfl (Nat.le_of_ble_eq_true rfl) (lv' := [_, _, _, _, _]) rfl ?_
          refine j_lv [1, 2, 3, 0, 4] rfl ?_
          exact tail _ (by rw [bco_s, if_neg a1, if_neg a2])
        · refine j_aload_n d_Y_become_28 rfl 0 rfl ?_
          refine v_getR d_Y_become_29 lf_Y_12 (jshp_Y k hk f hf).1 (by omega) rfl ?_
          refine j_aload_n d_Y_become_32 rfl 1 rfl ?_
          refine j_iload d_Y_become_33 4 rfl ?_
          refine v_callV d_Y_become_35 mt_R_sameRow ln_Y_30 im_R_sameRow se_R_sameRow (jshp_YR k hk f hf).1 (by omega) rfl rfl ⟨Nat.le_of_ble_eq_true rfl, Nat.le_of_ble_eq_true rfl⟩ (Nat.le_of_ble_eq_true rfl) rfl (Nat.zero_le _) (Nat.zero_le _) (c_R_sameRow g (bcm V k f r2 t) L (22 + 14 * k + 4 * f) (jshp_YR k hk f hf).1 (jshp_YR k hk f hf).2 (by omega) r2 hr2 hn2 hlt2 t (by omega) (fun i hi => Nat.lt_trans (bcm_lt h1 h2 hV hV2 t i hi) (by decide)) (fun i hi => by rw [bcm_nq h1 h2]; exact Nat.lt_trans (hV2 i hi) (by decide))) rfl ?_
          rintro _ _ _ ⟨rfl, rfl, rfl⟩
          refine n_if_ne d_Y_become_38 44 rfl (Nat.lt_of_le_of_lt (sam_le (bcm V k f r2 t) _ r2 t) (by decide)) (fun a3 => ?_) (fun a3 => ?_)
          · have a4 : ¬ sam (bcm V k f r2 t) (22 + 14 * k + 4 * f) r2 t = 0 := a3
            exact tail _ (by rw [bco_s, if_neg a1, if_pos a2, if_neg a4, Nat.add_zero])
          · have a4 : sam (bcm V k f r2 t) (22 + 14 * k + 4 * f) r2 t = 0 := a3
            refine n_iinc d_Y_become_41 1 (by decide) 3 rfl (Nat.le_of_ble_eq_true rfl) (lv' := [_, _, _, _, _]) rfl ?_
            refine j_lv [1, 2, 3, 0, 4] rfl ?_
            exact tail _ (by rw [bco_s, if_neg a1, if_pos a2, if_pos a4])
  refine n_iconst d_Y_become_0 0 (by decide) ?_
  refine j_istore_n d_Y_become_1 (i := 3) rfl (Nat.le_of_ble_eq_true rfl) (lv' := [_, _, _, _]) rfl ?_
  refine n_iconst d_Y_become_2 0 (by decide) ?_
  refine j_istore d_Y_become_3 (i := 4) (Nat.le_of_ble_eq_true rfl) (lv' := [_, _, _, _, _]) rfl ?_
  refine j_lv [2, 3, 4, 1, 0] rfl ?_
  exact loop rc 0 (by omega)
theorem i32_3 {x : Int32} (h0 : ¬ x = 0) (h1 : ¬ x = 1) (h2 : ¬ x = 2) : x.toInt < 0 ∨ 2 < x.toInt := by
  by_cases h : x.toInt < 0 ∨ 2 < x.toInt
  · exact h
  · exfalso
    rcases (by omega : x.toInt = 0 ∨ x.toInt = 1 ∨ x.toInt = 2) with e | e | e
    · exact h0 (Int32.toInt_inj.mp e)
    · exact h1 (Int32.toInt_inj.mp e)
    · exact h2 (Int32.toInt_inj.mp e)
theorem c_K_tally (g : jG) (V : Nat → Nat → Nat) (L : Nat → Nat → Int64) (k : Nat) (hk : k < 4) (z : Int32) : jK g Y_K_tally (0, 0) [.ref (jb g + (19 + 14 * k)), .int z] V L (jA0 (some (.int (if z = 0 then nI (V (19 + 14 * k) 1) else if z = 1 then nI (V (19 + 14 * k) 2) else if z = 2 then nI (V (19 + 14 * k) 3) else -1))) V L) := by
  refine jK_entry (by decide +kernel) rfl (Nat.le_of_ble_eq_true rfl) ?_
  show jJ (g, Y_K_tally, (0, 0), 0, 0, jVQ g (jA0 (some (.int (if z = 0 then nI (V (19 + 14 * k) 1) else if z = 1 then nI (V (19 + 14 * k) 2) else if z = 2 then nI (V (19 + 14 * k) 3) else -1))) V L)) [(0, .ref (jb g + (19 + 14 * k))), (1, .int z)] (jv (g, Y_K_tally, (0, 0), 0, 0, jVQ g (jA0 (some (.int (if z = 0 then nI (V (19 + 14 * k) 1) else if z = 1 then nI (V (19 + 14 * k) 2) else if z = 2 then nI (V (19 + 14 * k) 3) else -1))) V L)) V L 0 0) 0 []
  refine j_iload_n d_K_tally_0 rfl 1 rfl ?_
  by_cases z0 : z = 0
  · subst z0
    refine j_tableIn d_K_tally_1 (by decide) (by decide) (off := 27) (by decide) 28 rfl ?_
    rw [if_pos rfl]
    refine j_aload_n d_K_tally_28 rfl 0 rfl ?_
    refine v_getI d_K_tally_29 lf_K_18 (jshp_K k hk).1 (by omega) rfl ?_
    exact v_iret d_K_tally_32 rfl (Nat.zero_le _) (Nat.zero_le _) rfl jA0_rfl
  by_cases z1 : z = 1
  · subst z1
    refine j_tableIn d_K_tally_1 (by decide) (by decide) (off := 32) (by decide) 33 rfl ?_
    rw [if_neg (by decide), if_pos rfl]
    refine j_aload_n d_K_tally_33 rfl 0 rfl ?_
    refine v_getI d_K_tally_34 lf_K_22 (jshp_K k hk).1 (by omega) rfl ?_
    exact v_iret d_K_tally_37 rfl (Nat.zero_le _) (Nat.zero_le _) rfl jA0_rfl
  by_cases z2 : z = 2
  · subst z2
    refine j_tableIn d_K_tally_1 (by decide) (by decide) (off := 37) (by decide) 38 rfl ?_
    rw [if_neg (by decide), if_neg (by decide), if_pos rfl]
    refine j_aload_n d_K_tally_38 rfl 0 rfl ?_
    refine v_getI d_K_tally_39 lf_K_25 (jshp_K k hk).1 (by omega) rfl ?_
    exact v_iret d_K_tally_42 rfl (Nat.zero_le _) (Nat.zero_le _) rfl jA0_rfl
  refine j_tableOut d_K_tally_1 (i32_3 z0 z1 z2) 43 rfl ?_
  rw [if_neg z0, if_neg z1, if_neg z2]
  refine j_iconst d_K_tally_43 (v := -1) rfl ?_
  exact v_iret d_K_tally_44 rfl (Nat.zero_le _) (Nat.zero_le _) rfl jA0_rfl
theorem c_C_pose (g : jG) (V : Nat → Nat → Nat) (L : Nat → Nat → Int64) (f k : Nat) : jK g Y_C_pose (0, 0) [.ref (jb g + 75), .int (nI f), .int (nI k)] V L (jA0 none (vu (vu (vu V 75 0 1) 75 1 f) 75 2 k) L) := by
  refine jK_entry (by decide +kernel) rfl (Nat.le_of_ble_eq_true rfl) ?_
  show jJ (g, Y_C_pose, (0, 0), 0, 0, jVQ g (jA0 none (vu (vu (vu V 75 0 1) 75 1 f) 75 2 k) L)) [(0, .ref (jb g + 75)), (1, .int (nI f)), (2, .int (nI k))] (jv (g, Y_C_pose, (0, 0), 0, 0, jVQ g (jA0 none (vu (vu (vu V 75 0 1) 75 1 f) 75 2 k) L)) V L 0 0) 0 []
  refine j_aload_n d_C_pose_0 rfl 0 rfl ?_
  refine n_iconst d_C_pose_1 1 (by decide) ?_
  refine v_putI d_C_pose_2 lf_C_25 rfl (Nat.le_of_ble_eq_true rfl) rfl rfl (nar_b (by omega)) (fit_b (by omega)) ?_
  refine j_aload_n d_C_pose_5 rfl 0 rfl ?_
  refine j_iload_n d_C_pose_6 rfl 1 rfl ?_
  refine v_putI d_C_pose_7 lf_C_29 rfl (Nat.le_of_ble_eq_true rfl) rfl rfl rfl rfl ?_
  refine j_aload_n d_C_pose_10 rfl 0 rfl ?_
  refine j_iload_n d_C_pose_11 rfl 2 rfl ?_
  refine v_putI d_C_pose_12 lf_C_33 rfl (Nat.le_of_ble_eq_true rfl) rfl rfl rfl rfl ?_
  exact v_vret d_C_pose_15 rfl (Nat.zero_le _) (Nat.zero_le _) rfl jA0_rfl
end
section
/-! AuditDesk.Challenge: drawing, answering, holding -/
theorem nI_md (n : Nat) : nI n = nI (n % 2 ^ 32) := by
  unfold nI
  apply Int32.toBitVec_inj.mp
  show BitVec.ofNat 32 n = BitVec.ofNat 32 (n % 2 ^ 32)
  apply BitVec.eq_of_toNat_eq
  rw [BitVec.toNat_ofNat, BitVec.toNat_ofNat, Nat.mod_mod]
/-- the next number of the drawing -/
def stp (s : Nat) : Nat := (s * 1103515245 + 12345) % 2 ^ 32
theorem stp_lt (s : Nat) : stp s < 2 ^ 32 := Nat.mod_lt _ (by omega)
theorem us16 {n : Nat} (h : n < 2 ^ 32) : ((nI n).toUInt32 >>> ((nI 16).toUInt32 &&& Int32.toUInt32 31)).toInt32 = nI (n / 2 ^ 16) := pk_ushrN h (nI 16) 16 (by decide)
theorem us1 {n : Nat} (h : n < 2 ^ 32) : ((nI n).toUInt32 >>> ((nI 1).toUInt32 &&& Int32.toUInt32 31)).toInt32 = nI (n / 2 ^ 1) := pk_ushrN h (nI 1) 1 (by decide)
theorem c_C_step (g : jG) (V : Nat → Nat → Nat) (L : Nat → Nat → Int64) (s : Nat) : jK g Y_C_step (0, 0) [.int (nI s)] V L (jA0 (some (.int (nI (stp s)))) V L) := by
  refine jK_entry (by decide +kernel) rfl (Nat.le_of_ble_eq_true rfl) ?_
  show jJ (g, Y_C_step, (0, 0), 0, 0, jVQ g (jA0 (some (.int (nI (stp s)))) V L)) [(0, .int (nI s))] (jv (g, Y_C_step, (0, 0), 0, 0, jVQ g (jA0 (some (.int (nI (stp s)))) V L)) V L 0 0) 0 []
  refine j_iload_n d_C_step_0 rfl 0 rfl ?_
  refine j_ldc d_C_step_1 ct_C_50 ?_
  rw [show (1103515245 : Int32) = nI 1103515245 from by decide]
  refine n_mul d_C_step_3 ?_
  refine n_sipush d_C_step_4 12345 (by decide) ?_
  refine n_add d_C_step_7 ?_
  rw [show nI (s * 1103515245 + 12345) = nI (stp s) from nI_md (s * 1103515245 + 12345)]
  exact v_iret d_C_step_8 rfl (Nat.zero_le _) (Nat.zero_le _) rfl jA0_rfl
/-- from a row on, the first that is not drawn -/
def nxu (d : Nat → Nat) (rc : Nat) : Nat → Nat → Nat
  | 0, row => row
  | n + 1, row => if d row = 0 then row else nxu d rc n (if row + 1 < rc then row + 1 else 0)
theorem nxu_lt {d : Nat → Nat} {rc : Nat} : ∀ (n row : Nat), row < rc → nxu d rc n row < rc
  | 0, row, h => h
  | n + 1, row, h => by
    unfold nxu
    split
    · exact h
    · apply nxu_lt n
      split <;> omega
theorem c_C_nextUndrawn (g : jG) (V : Nat → Nat → Nat) (L : Nat → Nat → Int64) (fr rc : Nat) (hfr : fr < rc) (hrc : rc ≤ 24) (hd : ∀ i, i < 24 → V 79 i ≤ 1) : jK g Y_C_nextUndrawn (0, 0) [.ref (jb g + 75), .int (nI fr), .int (nI rc)] V L (jA0 (some (.int (nI (nxu (V 79) rc rc fr)))) V L) := by
  refine jK_entry (by decide +kernel) rfl (Nat.le_of_ble_eq_true rfl) ?_
  show jJ (g, Y_C_nextUndrawn, (0, 0), 0, 0, jVQ g (jA0 (some (.int (nI (nxu (V 79) rc rc fr)))) V L)) [(0, .ref (jb g + 75)), (1, .int (nI fr)), (2, .int (nI rc))] (jv (g, Y_C_nextUndrawn, (0, 0), 0, 0, jVQ g (jA0 (some (.int (nI (nxu (V 79) rc rc fr)))) V L)) V L 0 0) 0 []
  generalize hφ : jA0 (some (.int (nI (nxu (V 79) rc rc fr)))) V L = φ
  have loop : ∀ (m t row : Nat), t + m = rc → row < rc → nxu (V 79) rc m row = nxu (V 79) rc rc fr → jJ (g, Y_C_nextUndrawn, (0, 0), 0, 0, jVQ g φ) [(0, .ref (jb g + 75)), (1, .int (nI fr)), (2, .int (nI rc)), (3, .int (nI row)), (4, .int (nI t))] (jv (g, Y_C_nextUndrawn, (0, 0), 0, 0, jVQ g φ) V L 0 0) 5 [] := by
    intro m
    induction m with
    | zero =>
      intro t row ht hr he
      refine j_iload d_C_nextUndrawn_5 4 rfl ?_
      refine j_iload_n d_C_nextUndrawn_7 rfl 2 rfl ?_
      refine n_icmp_ge d_C_nextUndrawn_8 41 rfl (by omega) (by omega) (fun h => ?_) (fun h => absurd h (by omega))
      subst hφ
      rw [← he]
      refine j_iload_n d_C_nextUndrawn_41 rfl 3 rfl ?_
      exact v_iret d_C_nextUndrawn_42 rfl (Nat.zero_le _) (Nat.zero_le _) rfl jA0_rfl
    | succ m ih =>
      intro t row ht hr he
      refine j_iload d_C_nextUndrawn_5 4 rfl ?_
      refine j_iload_n d_C_nextUndrawn_7 rfl 2 rfl ?_
      refine n_icmp_ge d_C_nextUndrawn_8 41 rfl (by omega) (by omega) (fun h => absurd h (by omega)) (fun h => ?_)
      refine j_aload_n d_C_nextUndrawn_11 rfl 0 rfl ?_
      refine v_getR d_C_nextUndrawn_12 lf_C_21 rfl (Nat.le_of_ble_eq_true rfl) rfl ?_
      refine j_iload_n d_C_nextUndrawn_15 rfl 3 rfl ?_
      refine v_zld d_C_nextUndrawn_16 rfl rfl (Nat.le_of_ble_eq_true rfl) rfl (by omega) (by omega) ?_
      refine n_if_eq d_C_nextUndrawn_17 41 rfl (Nat.lt_of_le_of_lt (hd row (by omega)) (by decide)) (fun a1 => ?_) (fun a1 => ?_)
      · subst hφ
        rw [← he, show nxu (V 79) rc (m + 1) row = row from if_pos a1]
        refine j_iload_n d_C_nextUndrawn_41 rfl 3 rfl ?_
        exact v_iret d_C_nextUndrawn_42 rfl (Nat.zero_le _) (Nat.zero_le _) rfl jA0_rfl
      · refine j_iload_n d_C_nextUndrawn_20 rfl 3 rfl ?_
        refine n_iconst d_C_nextUndrawn_21 1 (by decide) ?_
        refine n_add d_C_nextUndrawn_22 ?_
        refine j_iload_n d_C_nextUndrawn_23 rfl 2 rfl ?_
        refine n_icmp_ge d_C_nextUndrawn_24 33 rfl (by omega) (by omega) (fun a2 => ?_) (fun a2 => ?_)
        · refine n_iconst d_C_nextUndrawn_33 0 (by decide) ?_
          refine j_istore_n d_C_nextUndrawn_34 (i := 3) rfl (Nat.le_of_ble_eq_true rfl) (lv' := [_, _, _, _, _]) rfl ?_
          refine n_iinc d_C_nextUndrawn_35 1 (by decide) 4 rfl (Nat.le_of_ble_eq_true rfl) (lv' := [_, _, _, _, _]) rfl ?_
          refine j_goto d_C_nextUndrawn_38 5 rfl ?_
          refine j_lv [2, 3, 4, 1, 0] rfl ?_
          exact ih (t + 1) 0 (by omega) (by omega) (by rw [← he, show nxu (V 79) rc (m + 1) row = nxu (V 79) rc m (if row + 1 < rc then row + 1 else 0) from if_neg a1, if_neg (by omega)])
        · refine j_iload_n d_C_nextUndrawn_27 rfl 3 rfl ?_
          refine n_iconst d_C_nextUndrawn_28 1 (by decide) ?_
          refine n_add d_C_nextUndrawn_29 ?_
          refine j_goto d_C_nextUndrawn_30 34 rfl ?_
          refine j_istore_n d_C_nextUndrawn_34 (i := 3) rfl (Nat.le_of_ble_eq_true rfl) (lv' := [_, _, _, _, _]) rfl ?_
          refine n_iinc d_C_nextUndrawn_35 1 (by decide) 4 rfl (Nat.le_of_ble_eq_true rfl) (lv' := [_, _, _, _, _]) rfl ?_
          refine j_goto d_C_nextUndrawn_38 5 rfl ?_
          refine j_lv [2, 3, 4, 1, 0] rfl ?_
          exact ih (t + 1) (row + 1) (by omega) (by omega) (by rw [← he, show nxu (V 79) rc (m + 1) row = nxu (V 79) rc m (if row + 1 < rc then row + 1 else 0) from if_neg a1, if_pos a2])
  refine j_iload_n d_C_nextUndrawn_0 rfl 1 rfl ?_
  refine j_istore_n d_C_nextUndrawn_1 (i := 3) rfl (Nat.le_of_ble_eq_true rfl) (lv' := [_, _, _, _]) rfl ?_
  refine n_iconst d_C_nextUndrawn_2 0 (by decide) ?_
  refine j_istore d_C_nextUndrawn_3 (i := 4) (Nat.le_of_ble_eq_true rfl) (lv' := [_, _, _, _, _]) rfl ?_
  refine j_lv [2, 3, 4, 1, 0] rfl ?_
  exact loop rc 0 fr (by omega) hfr rfl
def sdn (s : Nat) : Nat → Nat
  | 0 => s
  | i + 1 => stp (stp (sdn s i))
theorem sdn_lt {s : Nat} (h : s < 2 ^ 32) : ∀ i, sdn s i < 2 ^ 32
  | 0 => h
  | i + 1 => stp_lt _
def dr0 (V : Nat → Nat → Nat) : Nat → Nat → Nat → Nat
  | 0 => V
  | t + 1 => vu (dr0 V t) 79 t 0
/-- the row that is drawn as the i-th, and its coefficient -/
def drr (V : Nat → Nat → Nat) (s rc i : Nat) : Nat := nxu (V 79) rc rc (stp (sdn s i) / 2 ^ 16 % rc)
def drc (s i : Nat) : Nat := 1 + stp (stp (sdn s i)) / 2 ^ 1 % 2147483646
def drw (V : Nat → Nat → Nat) (s rc : Nat) : Nat → Nat → Nat → Nat
  | 0 => V
  | i + 1 => vu (vu (vu (drw V s rc i) 76 i (drr (drw V s rc i) s rc i)) 79 (drr (drw V s rc i) s rc i) 1) 77 i (drc s i)
theorem drr_lt {V : Nat → Nat → Nat} {s rc i : Nat} (h : 0 < rc) : drr V s rc i < rc := nxu_lt _ _ (Nat.mod_lt _ h)
theorem dr0_nq {V : Nat → Nat → Nat} {a : Nat} (h : a ≠ 79) : ∀ t, dr0 V t a = V a
  | 0 => rfl
  | t + 1 => (vu_nq _ _ _ h).trans (dr0_nq h t)
theorem dr0_le {V : Nat → Nat → Nat} (hd : ∀ i, i < 24 → V 79 i ≤ 1) : ∀ t i, i < 24 → dr0 V t 79 i ≤ 1
  | 0 => hd
  | t + 1 => fun i hi => by
    unfold dr0 vu
    split
    · omega
    · exact dr0_le hd t i hi
theorem drw_nq {V : Nat → Nat → Nat} {s rc a : Nat} (h1 : a ≠ 76) (h2 : a ≠ 77) (h3 : a ≠ 79) : ∀ i, drw V s rc i a = V a
  | 0 => rfl
  | i + 1 => by
    show vu _ _ _ _ a = _
    rw [vu_nq _ _ _ h2, vu_nq _ _ _ h3, vu_nq _ _ _ h1, drw_nq h1 h2 h3 i]
theorem drw_le {V : Nat → Nat → Nat} {s rc : Nat} (hd : ∀ i, i < 24 → V 79 i ≤ 1) : ∀ t i, i < 24 → drw V s rc t 79 i ≤ 1
  | 0 => hd
  | t + 1 => fun i hi => by
    show vu _ _ _ _ 79 i ≤ 1
    rw [vu_nq _ _ _ (by decide)]
    unfold vu
    split
    · omega
    · rw [if_neg (by omega)]
      exact drw_le hd t i hi
def drv (V : Nat → Nat → Nat) (s m rc : Nat) : Nat → Nat → Nat := drw (vu (dr0 V rc) 75 3 m) s rc m
theorem c_C_draw (g : jG) (V : Nat → Nat → Nat) (L : Nat → Nat → Int64) (s m rc : Nat) (hs : s < 2 ^ 32) (hm : m ≤ rc) (h0 : 0 < rc) (hrc : rc ≤ 24) (hd : ∀ i, i < 24 → V 79 i ≤ 1) : jK g Y_C_draw (1, 24) [.ref (jb g + 75), .int (nI s), .int (nI m), .int (nI rc)] V L (jA0 none (drv V s m rc) L) := by
  refine jK_entry (by decide +kernel) rfl (Nat.le_of_ble_eq_true rfl) ?_
  show jJ (g, Y_C_draw, (1, 24), 0, 0, jVQ g (jA0 none (drv V s m rc) L)) [(0, .ref (jb g + 75)), (1, .int (nI s)), (2, .int (nI m)), (3, .int (nI rc))] (jv (g, Y_C_draw, (1, 24), 0, 0, jVQ g (jA0 none (drv V s m rc) L)) V L 0 0) 0 []
  generalize hφ : jA0 none (drv V s m rc) L = φ
  have hd0 : ∀ i, i < 24 → vu (dr0 V rc) 75 3 m 79 i ≤ 1 := by rw [vu_nq _ _ _ (by decide)]; exact dr0_le hd rc
  have loop2 : ∀ (n i : Nat), i + n = m → jJ (g, Y_C_draw, (1, 24), 0, 0, jVQ g φ) [(0, .ref (jb g + 75)), (1, .int (nI s)), (2, .int (nI m)), (3, .int (nI rc)), (4, .int (nI (sdn s i))), (5, .int (nI i))] (jv (g, Y_C_draw, (1, 24), 0, 0, jVQ g φ) (drw (vu (dr0 V rc) 75 3 m) s rc i) L 0 0) 34 [] := by
    intro n
    induction n with
    | zero =>
      intro i hi
      obtain rfl : i = m := by omega
      refine j_iload d_C_draw_34 5 rfl ?_
      refine j_iload_n d_C_draw_36 rfl 2 rfl ?_
      refine n_icmp_ge d_C_draw_37 108 rfl (by omega) (by omega) (fun h => ?_) (fun h => absurd h (by omega))
      subst hφ
      exact v_vret d_C_draw_108 rfl (Nat.zero_le _) (Nat.zero_le _) rfl jA0_rfl
    | succ n ih =>
      intro i hi
      have hw : drr (drw (vu (dr0 V rc) 75 3 m) s rc i) s rc i < rc := drr_lt h0
      have hq : stp (sdn s i) / 2 ^ 16 < 2 ^ 16 := by have := stp_lt (sdn s i); omega
      have hq1 : stp (stp (sdn s i)) / 2 ^ 1 < 2 ^ 31 := by have := stp_lt (stp (sdn s i)); omega
      refine j_iload d_C_draw_34 5 rfl ?_
      refine j_iload_n d_C_draw_36 rfl 2 rfl ?_
      refine n_icmp_ge d_C_draw_37 108 rfl (by omega) (by omega) (fun h => absurd h (by omega)) (fun h => ?_)
      refine j_iload d_C_draw_40 4 rfl ?_
      refine v_callS d_C_draw_42 mt_C_step ln_C_39 sm_C_step ⟨Nat.le_of_ble_eq_true rfl, Nat.le_of_ble_eq_true rfl⟩ (Nat.le_of_ble_eq_true rfl) rfl (Nat.zero_le _) (Nat.zero_le _) (c_C_step g (drw (vu (dr0 V rc) 75 3 m) s rc i) L (sdn s i)) rfl ?_
      rintro _ _ _ ⟨rfl, rfl, rfl⟩
      refine j_istore d_C_draw_45 (i := 4) (Nat.le_of_ble_eq_true rfl) (lv' := [_, _, _, _, _, _]) rfl ?_
      refine j_aload_n d_C_draw_47 rfl 1 rfl ?_
      refine v_getR d_C_draw_48 lf_C_9 rfl (Nat.le_of_ble_eq_true rfl) rfl ?_
      refine j_iload d_C_draw_51 5 rfl ?_
      refine j_aload_n d_C_draw_53 rfl 1 rfl ?_
      refine j_iload d_C_draw_54 0 rfl ?_
      refine n_bipush d_C_draw_56 16 (by decide) ?_
      refine j_iushr d_C_draw_58 rfl ?_
      rw [us16 (stp_lt _)]
      refine j_iload_n d_C_draw_59 rfl 4 rfl ?_
      refine n_rem d_C_draw_60 (by omega) (by omega) (by omega) ?_
      refine j_iload_n d_C_draw_61 rfl 4 rfl ?_
      refine v_callV d_C_draw_62 mt_C_nextUndrawn ln_C_43 im_C_nextUndrawn se_C_nextUndrawn rfl (Nat.le_of_ble_eq_true rfl) rfl rfl ⟨Nat.le_of_ble_eq_true rfl, Nat.le_of_ble_eq_true rfl⟩ (Nat.le_of_ble_eq_true rfl) rfl (Nat.zero_le _) (Nat.zero_le _) (c_C_nextUndrawn g (drw (vu (dr0 V rc) 75 3 m) s rc i) L (stp (sdn s i) / 2 ^ 16 % rc) rc (Nat.mod_lt _ h0) hrc (drw_le hd0 i)) rfl ?_
      rintro _ _ _ ⟨rfl, rfl, rfl⟩
      refine v_ist d_C_draw_65 rfl rfl (Nat.le_of_ble_eq_true rfl) rfl (by omega) (by omega) ?_
      refine j_aload_n d_C_draw_66 rfl 1 rfl ?_
      refine v_getR d_C_draw_67 lf_C_21 rfl (Nat.le_of_ble_eq_true rfl) rfl ?_
      refine j_aload_n d_C_draw_70 rfl 1 rfl ?_
      refine v_getR d_C_draw_71 lf_C_9 rfl (Nat.le_of_ble_eq_true rfl) rfl ?_
      refine j_iload d_C_draw_74 5 rfl ?_
      refine v_ild d_C_draw_76 rfl rfl (Nat.le_of_ble_eq_true rfl) rfl (by omega) (by omega) ?_
      rw [show vu (drw (vu (dr0 V rc) 75 3 m) s rc i) 76 i (nxu ((drw (vu (dr0 V rc) 75 3 m) s rc i) 79) rc rc (stp (sdn s i) / 2 ^ 16 % rc)) 76 i = drr (drw (vu (dr0 V rc) 75 3 m) s rc i) s rc i from vu_eq _ _ _ _]
      refine n_iconst d_C_draw_77 1 (by decide) ?_
      refine v_zst d_C_draw_78 rfl rfl (Nat.le_of_ble_eq_true rfl) rfl (by omega) (by omega) (by omega) ?_
      refine j_iload d_C_draw_79 0 rfl ?_
      refine v_callS d_C_draw_81 mt_C_step ln_C_39 sm_C_step ⟨Nat.le_of_ble_eq_true rfl, Nat.le_of_ble_eq_true rfl⟩ (Nat.le_of_ble_eq_true rfl) rfl (Nat.zero_le _) (Nat.zero_le _) (c_C_step g (vu (vu (drw (vu (dr0 V rc) 75 3 m) s rc i) 76 i (drr (drw (vu (dr0 V rc) 75 3 m) s rc i) s rc i)) 79 (drr (drw (vu (dr0 V rc) 75 3 m) s rc i) s rc i) 1) L (stp (sdn s i))) rfl ?_
      rintro _ _ _ ⟨rfl, rfl, rfl⟩
      refine j_istore d_C_draw_84 (i := 4) (Nat.le_of_ble_eq_true rfl) (lv' := [_, _, _, _, _, _]) rfl ?_
      refine j_aload_n d_C_draw_86 rfl 1 rfl ?_
      refine v_getR d_C_draw_87 lf_C_15 rfl (Nat.le_of_ble_eq_true rfl) rfl ?_
      refine j_iload d_C_draw_90 5 rfl ?_
      refine n_iconst d_C_draw_92 1 (by decide) ?_
      refine j_iload d_C_draw_93 0 rfl ?_
      refine n_iconst d_C_draw_95 1 (by decide) ?_
      refine j_iushr d_C_draw_96 rfl ?_
      rw [us1 (stp_lt _)]
      refine j_ldc d_C_draw_97 ct_C_49 ?_
      rw [show (2147483646 : Int32) = nI 2147483646 from by decide]
      refine n_rem d_C_draw_99 (by omega) (by omega) (by omega) ?_
      refine n_add d_C_draw_100 ?_
      refine v_ist d_C_draw_101 rfl rfl (Nat.le_of_ble_eq_true rfl) rfl (by omega) (by omega) ?_
      refine n_iinc d_C_draw_102 1 (by decide) 5 rfl (Nat.le_of_ble_eq_true rfl) (lv' := [_, _, _, _, _, _]) rfl ?_
      refine j_goto d_C_draw_105 34 rfl ?_
      refine j_lv [2, 3, 4, 5, 1, 0] rfl ?_
      exact ih (i + 1) (by omega)
  have loop1 : ∀ (n t : Nat), t + n = rc → jJ (g, Y_C_draw, (1, 24), 0, 0, jVQ g φ) [(0, .ref (jb g + 75)), (1, .int (nI s)), (2, .int (nI m)), (3, .int (nI rc)), (4, .int (nI t))] (jv (g, Y_C_draw, (1, 24), 0, 0, jVQ g φ) (dr0 V t) L 0 0) 3 [] := by
    intro n
    induction n with
    | zero =>
      intro t ht
      obtain rfl : t = rc := by omega
      refine j_iload d_C_draw_3 4 rfl ?_
      refine j_iload_n d_C_draw_5 rfl 3 rfl ?_
      refine n_icmp_ge d_C_draw_6 23 rfl (by omega) (by omega) (fun h => ?_) (fun h => absurd h (by omega))
      refine j_aload_n d_C_draw_23 rfl 0 rfl ?_
      refine j_iload_n d_C_draw_24 rfl 2 rfl ?_
      refine v_putI d_C_draw_25 lf_C_36 rfl (Nat.le_of_ble_eq_true rfl) rfl rfl rfl rfl ?_
      refine j_iload_n d_C_draw_28 rfl 1 rfl ?_
      refine j_istore d_C_draw_29 (i := 4) (Nat.le_of_ble_eq_true rfl) (lv' := [_, _, _, _, _]) rfl ?_
      refine n_iconst d_C_draw_31 0 (by decide) ?_
      refine j_istore d_C_draw_32 (i := 5) (Nat.le_of_ble_eq_true rfl) (lv' := [_, _, _, _, _, _]) rfl ?_
      refine j_lv [2, 3, 4, 5, 1, 0] rfl ?_
      exact loop2 m 0 (by omega)
    | succ n ih =>
      intro t ht
      refine j_iload d_C_draw_3 4 rfl ?_
      refine j_iload_n d_C_draw_5 rfl 3 rfl ?_
      refine n_icmp_ge d_C_draw_6 23 rfl (by omega) (by omega) (fun h => absurd h (by omega)) (fun h => ?_)
      refine j_aload_n d_C_draw_9 rfl 0 rfl ?_
      refine v_getR d_C_draw_10 lf_C_21 rfl (Nat.le_of_ble_eq_true rfl) rfl ?_
      refine j_iload d_C_draw_13 4 rfl ?_
      refine n_iconst d_C_draw_15 0 (by decide) ?_
      refine v_zst d_C_draw_16 rfl rfl (Nat.le_of_ble_eq_true rfl) rfl (by omega) (by omega) (by omega) ?_
      refine n_iinc d_C_draw_17 1 (by decide) 4 rfl (Nat.le_of_ble_eq_true rfl) (lv' := [_, _, _, _, _]) rfl ?_
      refine j_goto d_C_draw_20 3 rfl ?_
      refine j_lv [1, 2, 3, 4, 0] rfl ?_
      exact ih (t + 1) (by omega)
  refine n_iconst d_C_draw_0 0 (by decide) ?_
  refine j_istore d_C_draw_1 (i := 4) (Nat.le_of_ble_eq_true rfl) (lv' := [_, _, _, _, _]) rfl ?_
  refine j_lv [1, 2, 3, 4, 0] rfl ?_
  exact loop1 rc 0 (by omega)
end
section
/-! AuditDesk.Challenge: answers and when they hold -/
/-- the sum of the first i asked rows' numbers j, weighed -/
def asm (V : Nat → Nat → Nat) (r j : Nat) : Nat → Nat
  | 0 => 0
  | i + 1 => fpl (asm V r j i) (fti (V 77 i) (V (r + 1) (V 76 i * 5 + j)))
theorem asm_lt (V : Nat → Nat → Nat) (r j : Nat) : ∀ i, asm V r j i < 2147483647
  | 0 => by show 0 < _; omega
  | i + 1 => fpl_lt _ _
def anv (V : Nat → Nat → Nat) (r m : Nat) : Nat → Nat → Nat → Nat
  | 0 => V
  | j + 1 => vu (anv V r m j) 78 j (asm (anv V r m j) r j m)
theorem anv_nq {V : Nat → Nat → Nat} {r m a : Nat} (h : a ≠ 78) : ∀ j, anv V r m j a = V a
  | 0 => rfl
  | j + 1 => (vu_nq _ _ _ h).trans (anv_nq h j)
theorem c_C_answerFrom (g : jG) (V : Nat → Nat → Nat) (L : Nat → Nat → Int64) (r : Nat) (hr : jshp r = jo 5 [(r + 1) + 2]) (hn : jshp (r + 1) = .inl (0, 120)) (hlt : r + 1 < 104) (m : Nat) (hm : m ≤ 24) (hcn : V 75 3 = m) (h76 : ∀ i, i < m → V 76 i < 24) (h77 : ∀ i, i < m → V 77 i < 2147483647) (hV : ∀ i, i < 120 → V (r + 1) i < 2147483647) : jK g Y_C_answerFrom (1, 22) [.ref (jb g + 75), .ref (jb g + r)] V L (jA0 none (anv V r m 5) L) := by
  refine jK_entry (by decide +kernel) rfl (Nat.le_of_ble_eq_true rfl) ?_
  show jJ (g, Y_C_answerFrom, (1, 22), 0, 0, jVQ g (jA0 none (anv V r m 5) L)) [(0, .ref (jb g + 75)), (1, .ref (jb g + r))] (jv (g, Y_C_answerFrom, (1, 22), 0, 0, jVQ g (jA0 none (anv V r m 5) L)) V L 0 0) 0 []
  have n78 : r + 1 ≠ 78 := inl_ne hn (show jshp 78 = .inl (0, 5) from rfl) (by decide)
  generalize hφ : jA0 none (anv V r m 5) L = φ
  have loop1 : ∀ (n j : Nat), j + n = 5 → jJ (g, Y_C_answerFrom, (1, 22), 0, 0, jVQ g φ) [(0, .ref (jb g + 75)), (1, .ref (jb g + r)), (2, .int (nI j))] (jv (g, Y_C_answerFrom, (1, 22), 0, 0, jVQ g φ) (anv V r m j) L 0 0) 2 [] := by
    intro n
    induction n with
    | zero =>
      intro j hj
      obtain rfl : j = 5 := by omega
      refine j_iload_n d_C_answerFrom_2 rfl 2 rfl ?_
      refine n_iconst d_C_answerFrom_3 5 (by decide) ?_
      refine n_icmp_ge d_C_answerFrom_4 67 rfl (by omega) (by omega) (fun h => ?_) (fun h => absurd h (by omega))
      subst hφ
      exact v_vret d_C_answerFrom_67 rfl (Nat.zero_le _) (Nat.zero_le _) rfl jA0_rfl
    | succ n ih =>
      intro j hj
      have inner : ∀ (n i : Nat), i + n = m → jJ (g, Y_C_answerFrom, (1, 22), 0, 0, jVQ g φ) [(0, .ref (jb g + 75)), (1, .ref (jb g + r)), (2, .int (nI j)), (3, .int (nI (asm (anv V r m j) r j i))), (4, .int (nI i))] (jv (g, Y_C_answerFrom, (1, 22), 0, 0, jVQ g φ) (anv V r m j) L 0 0) 12 [] := by
        intro n
        induction n with
        | zero =>
          intro i hi
          obtain rfl : i = m := by omega
          refine j_iload d_C_answerFrom_12 4 rfl ?_
          refine j_aload_n d_C_answerFrom_14 rfl 0 rfl ?_
          refine v_getI d_C_answerFrom_15 lf_C_36 rfl (Nat.le_of_ble_eq_true rfl) rfl ?_
          rw [show anv V r i j 75 3 = i from by rw [anv_nq (by decide), hcn]]
          refine n_icmp_ge d_C_answerFrom_18 54 rfl (by omega) (by omega) (fun h => ?_) (fun h => absurd h (by omega))
          refine j_aload_n d_C_answerFrom_54 rfl 0 rfl ?_
          refine v_getR d_C_answerFrom_55 lf_C_18 rfl (Nat.le_of_ble_eq_true rfl) rfl ?_
          refine j_iload_n d_C_answerFrom_58 rfl 2 rfl ?_
          refine j_iload_n d_C_answerFrom_59 rfl 3 rfl ?_
          refine v_ist d_C_answerFrom_60 rfl rfl (Nat.le_of_ble_eq_true rfl) rfl (by omega) (by omega) ?_
          refine j_lv [0, 1, 2] rfl ?_
          refine n_iinc d_C_answerFrom_61 1 (by decide) 2 rfl (Nat.le_of_ble_eq_true rfl) (lv' := [_, _, _]) rfl ?_
          refine j_goto d_C_answerFrom_64 2 rfl ?_
          refine j_lv [1, 2, 0] rfl ?_
          exact ih (j + 1) (by omega)
        | succ n ihn =>
          intro i hi
          refine j_iload d_C_answerFrom_12 4 rfl ?_
          refine j_aload_n d_C_answerFrom_14 rfl 0 rfl ?_
          refine v_getI d_C_answerFrom_15 lf_C_36 rfl (Nat.le_of_ble_eq_true rfl) rfl ?_
          rw [show anv V r m j 75 3 = m from by rw [anv_nq (by decide), hcn]]
          refine n_icmp_ge d_C_answerFrom_18 54 rfl (by omega) (by omega) (fun h => absurd h (by omega)) (fun h => ?_)
          refine j_iload_n d_C_answerFrom_21 rfl 3 rfl ?_
          refine j_aload_n d_C_answerFrom_22 rfl 0 rfl ?_
          refine v_getR d_C_answerFrom_23 lf_C_15 rfl (Nat.le_of_ble_eq_true rfl) rfl ?_
          refine j_iload d_C_answerFrom_26 4 rfl ?_
          refine v_ild d_C_answerFrom_28 rfl rfl (Nat.le_of_ble_eq_true rfl) rfl (by omega) (by omega) ?_
          refine j_aload_n d_C_answerFrom_29 rfl 1 rfl ?_
          refine j_aload_n d_C_answerFrom_30 rfl 0 rfl ?_
          refine v_getR d_C_answerFrom_31 lf_C_9 rfl (Nat.le_of_ble_eq_true rfl) rfl ?_
          refine j_iload d_C_answerFrom_34 4 rfl ?_
          refine v_ild d_C_answerFrom_36 rfl rfl (Nat.le_of_ble_eq_true rfl) rfl (by omega) (by omega) ?_
          refine j_iload_n d_C_answerFrom_37 rfl 2 rfl ?_
          refine v_callV d_C_answerFrom_38 mt_R_get ln_C_51 im_R_get se_R_get hr (Nat.lt_of_succ_lt hlt) rfl rfl ⟨Nat.le_of_ble_eq_true rfl, Nat.le_of_ble_eq_true rfl⟩ (Nat.le_of_ble_eq_true rfl) rfl (Nat.zero_le _) (Nat.zero_le _) (c_R_get g (anv V r m j) L r hr hn hlt (anv V r m j 76 i) j (by rw [anv_nq (by decide)]; exact h76 i (by omega)) (by omega)) rfl ?_
          rintro _ _ _ ⟨rfl, rfl, rfl⟩
          refine v_callS d_C_answerFrom_41 mt_F_times ln_C_56 sm_F_times ⟨Nat.le_of_ble_eq_true rfl, Nat.le_of_ble_eq_true rfl⟩ (Nat.le_of_ble_eq_true rfl) rfl (Nat.zero_le _) (Nat.zero_le _) (c_F_ti g (anv V r m j) L (anv V r m j 77 i) (anv V r m j (r + 1) (anv V r m j 76 i * 5 + j)) (by rw [anv_nq (by decide)]; exact Nat.lt_trans (h77 i (by omega)) (by decide)) (by rw [anv_nq n78, anv_nq (by decide)]; exact Nat.lt_trans (hV _ (by have := h76 i (by omega); omega)) (by decide))) rfl ?_
          rintro _ _ _ ⟨rfl, rfl, rfl⟩
          refine v_callS d_C_answerFrom_44 mt_F_plus ln_C_59 sm_F_plus ⟨Nat.le_of_ble_eq_true rfl, Nat.le_of_ble_eq_true rfl⟩ (Nat.le_of_ble_eq_true rfl) rfl (Nat.zero_le _) (Nat.zero_le _) (c_F_pl g (anv V r m j) L (asm (anv V r m j) r j i) _ (Nat.lt_of_lt_of_le (asm_lt _ _ _ _) (by decide)) (Nat.lt_of_lt_of_le (fti_lt _ _) (by decide))) rfl ?_
          rintro _ _ _ ⟨rfl, rfl, rfl⟩
          refine j_istore_n d_C_answerFrom_47 (i := 3) rfl (Nat.le_of_ble_eq_true rfl) (lv' := [_, _, _, _, _]) rfl ?_
          refine n_iinc d_C_answerFrom_48 1 (by decide) 4 rfl (Nat.le_of_ble_eq_true rfl) (lv' := [_, _, _, _, _]) rfl ?_
          refine j_goto d_C_answerFrom_51 12 rfl ?_
          refine j_lv [2, 3, 4, 1, 0] rfl ?_
          exact ihn (i + 1) (by omega)
      refine j_iload_n d_C_answerFrom_2 rfl 2 rfl ?_
      refine n_iconst d_C_answerFrom_3 5 (by decide) ?_
      refine n_icmp_ge d_C_answerFrom_4 67 rfl (by omega) (by omega) (fun h => absurd h (by omega)) (fun h => ?_)
      refine n_iconst d_C_answerFrom_7 0 (by decide) ?_
      refine j_istore_n d_C_answerFrom_8 (i := 3) rfl (Nat.le_of_ble_eq_true rfl) (lv' := [_, _, _, _]) rfl ?_
      refine n_iconst d_C_answerFrom_9 0 (by decide) ?_
      refine j_istore d_C_answerFrom_10 (i := 4) (Nat.le_of_ble_eq_true rfl) (lv' := [_, _, _, _, _]) rfl ?_
      refine j_lv [2, 3, 4, 1, 0] rfl ?_
      exact inner m 0 (by omega)
  refine n_iconst d_C_answerFrom_0 0 (by decide) ?_
  refine j_istore_n d_C_answerFrom_1 (i := 2) rfl (Nat.le_of_ble_eq_true rfl) (lv' := [_, _, _]) rfl ?_
  refine j_lv [1, 2, 0] rfl ?_
  exact loop1 5 0 (by omega)
def hdm (V : Nat → Nat → Nat) (f : Nat) : Nat → Nat
  | 0 => 0
  | i + 1 => fpl (hdm V f i) (fti (V 77 i) (V (5 + 5 * f) (V 76 i)))
theorem hdm_lt (V : Nat → Nat → Nat) (f : Nat) : ∀ i, hdm V f i < 2147483647
  | 0 => by show 0 < _; omega
  | i + 1 => fpl_lt _ _
def hld (V : Nat → Nat → Nat) (f m : Nat) : Nat := if V 78 4 = tgd (hdm V f m) (V (4 + 5 * f)) (V 78) then 1 else 0
theorem hld_le (V : Nat → Nat → Nat) (f m : Nat) : hld V f m ≤ 1 := by
  unfold hld
  split <;> omega
theorem c_C_holds (g : jG) (V : Nat → Nat → Nat) (L : Nat → Nat → Int64) (f : Nat) (hf : f < 3) (m : Nat) (hm : m ≤ 24) (hcn : V 75 3 = m) (h76 : ∀ i, i < m → V 76 i < 24) (h77 : ∀ i, i < m → V 77 i < 2147483647) (hal : ∀ i, i < 4 → V (4 + 5 * f) i < 2147483647) (hms : ∀ i, i < 24 → V (5 + 5 * f) i < 2147483647) (han : ∀ i, i < 5 → V 78 i < 2147483647) : jK g Y_C_holds (1, 21) [.ref (jb g + 75), .ref (jb g + (3 + 5 * f))] V L (jA0 (some (.int (nI (hld V f m)))) V L) := by
  refine jK_entry (by decide +kernel) rfl (Nat.le_of_ble_eq_true rfl) ?_
  show jJ (g, Y_C_holds, (1, 21), 0, 0, jVQ g (jA0 (some (.int (nI (hld V f m)))) V L)) [(0, .ref (jb g + 75)), (1, .ref (jb g + (3 + 5 * f)))] (jv (g, Y_C_holds, (1, 21), 0, 0, jVQ g (jA0 (some (.int (nI (hld V f m)))) V L)) V L 0 0) 0 []
  generalize hφ : jA0 (some (.int (nI (hld V f m)))) V L = φ
  have loop : ∀ (n i : Nat), i + n = m → jJ (g, Y_C_holds, (1, 21), 0, 0, jVQ g φ) [(0, .ref (jb g + 75)), (1, .ref (jb g + (3 + 5 * f))), (2, .int (nI (hdm V f i))), (3, .int (nI i))] (jv (g, Y_C_holds, (1, 21), 0, 0, jVQ g φ) V L 0 0) 4 [] := by
    intro n
    induction n with
    | zero =>
      intro i hi
      obtain rfl : i = m := by omega
      refine j_iload_n d_C_holds_4 rfl 3 rfl ?_
      refine j_aload_n d_C_holds_5 rfl 0 rfl ?_
      refine v_getI d_C_holds_6 lf_C_36 rfl (Nat.le_of_ble_eq_true rfl) rfl ?_
      rw [hcn]
      refine n_icmp_ge d_C_holds_9 43 rfl (by omega) (by omega) (fun h => ?_) (fun h => absurd h (by omega))
      refine n_iconst d_C_holds_43 0 (by decide) ?_
      refine j_istore_n d_C_holds_44 (i := 3) rfl (Nat.le_of_ble_eq_true rfl) (lv' := [_, _, _, _]) rfl ?_
      refine j_iload_n d_C_holds_45 rfl 0 rfl ?_
      refine n_iconst d_C_holds_46 4 (by decide) ?_
      refine n_icmp_ge d_C_holds_47 76 rfl (by omega) (by omega) (fun h => absurd h (by omega)) (fun h => ?_)
      refine j_iload_n d_C_holds_50 rfl 3 rfl ?_
      refine j_aload_n d_C_holds_51 rfl 2 rfl ?_
      refine v_getR d_C_holds_52 lf_C_67 (jshp_E f hf).1 (by omega) rfl ?_
      refine j_iload_n d_C_holds_55 rfl 0 rfl ?_
      refine v_ild d_C_holds_56 (jshp_E f hf).2.1 rfl (by omega) rfl (by omega) (by omega) ?_
      refine j_aload_n d_C_holds_57 rfl 1 rfl ?_
      refine v_getR d_C_holds_58 lf_C_18 rfl (Nat.le_of_ble_eq_true rfl) rfl ?_
      refine j_iload_n d_C_holds_61 rfl 0 rfl ?_
      refine v_ild d_C_holds_62 rfl rfl (Nat.le_of_ble_eq_true rfl) rfl (by omega) (by omega) ?_
      refine v_callS d_C_holds_63 mt_F_times ln_C_56 sm_F_times ⟨Nat.le_of_ble_eq_true rfl, Nat.le_of_ble_eq_true rfl⟩ (Nat.le_of_ble_eq_true rfl) rfl (Nat.zero_le _) (Nat.zero_le _) (c_F_ti g V L (V (4 + 5 * f) 0) (V 78 0) (Nat.lt_of_lt_of_le (hal _ (by omega)) (by decide)) (Nat.lt_of_lt_of_le (han _ (by omega)) (by decide))) rfl ?_
      rintro _ _ _ ⟨rfl, rfl, rfl⟩
      refine v_callS d_C_holds_66 mt_F_plus ln_C_59 sm_F_plus ⟨Nat.le_of_ble_eq_true rfl, Nat.le_of_ble_eq_true rfl⟩ (Nat.le_of_ble_eq_true rfl) rfl (Nat.zero_le _) (Nat.zero_le _) (c_F_pl g V L (hdm V f i) (fti (V (4 + 5 * f) 0) (V 78 0)) (Nat.lt_of_lt_of_le (hdm_lt _ _ _) (by decide)) (Nat.lt_of_lt_of_le (fti_lt _ _) (by decide))) rfl ?_
      rintro _ _ _ ⟨rfl, rfl, rfl⟩
      refine j_istore_n d_C_holds_69 (i := 2) rfl (Nat.le_of_ble_eq_true rfl) (lv' := [_, _, _, _]) rfl ?_
      refine j_lv [2, 3, 0, 1] rfl ?_
      refine n_iinc d_C_holds_70 1 (by decide) 3 rfl (Nat.le_of_ble_eq_true rfl) (lv' := [(3, .int (nI 1)), _, _, _]) rfl ?_
      refine j_goto d_C_holds_73 45 rfl ?_
      refine j_iload_n d_C_holds_45 rfl 0 rfl ?_
      refine n_iconst d_C_holds_46 4 (by decide) ?_
      refine n_icmp_ge d_C_holds_47 76 rfl (by omega) (by omega) (fun h => absurd h (by omega)) (fun h => ?_)
      refine j_iload_n d_C_holds_50 rfl 3 rfl ?_
      refine j_aload_n d_C_holds_51 rfl 2 rfl ?_
      refine v_getR d_C_holds_52 lf_C_67 (jshp_E f hf).1 (by omega) rfl ?_
      refine j_iload_n d_C_holds_55 rfl 0 rfl ?_
      refine v_ild d_C_holds_56 (jshp_E f hf).2.1 rfl (by omega) rfl (by omega) (by omega) ?_
      refine j_aload_n d_C_holds_57 rfl 1 rfl ?_
      refine v_getR d_C_holds_58 lf_C_18 rfl (Nat.le_of_ble_eq_true rfl) rfl ?_
      refine j_iload_n d_C_holds_61 rfl 0 rfl ?_
      refine v_ild d_C_holds_62 rfl rfl (Nat.le_of_ble_eq_true rfl) rfl (by omega) (by omega) ?_
      refine v_callS d_C_holds_63 mt_F_times ln_C_56 sm_F_times ⟨Nat.le_of_ble_eq_true rfl, Nat.le_of_ble_eq_true rfl⟩ (Nat.le_of_ble_eq_true rfl) rfl (Nat.zero_le _) (Nat.zero_le _) (c_F_ti g V L (V (4 + 5 * f) 1) (V 78 1) (Nat.lt_of_lt_of_le (hal _ (by omega)) (by decide)) (Nat.lt_of_lt_of_le (han _ (by omega)) (by decide))) rfl ?_
      rintro _ _ _ ⟨rfl, rfl, rfl⟩
      refine v_callS d_C_holds_66 mt_F_plus ln_C_59 sm_F_plus ⟨Nat.le_of_ble_eq_true rfl, Nat.le_of_ble_eq_true rfl⟩ (Nat.le_of_ble_eq_true rfl) rfl (Nat.zero_le _) (Nat.zero_le _) (c_F_pl g V L (fpl (hdm V f i) (fti (V (4 + 5 * f) 0) (V 78 0))) (fti (V (4 + 5 * f) 1) (V 78 1)) (Nat.lt_of_lt_of_le (fpl_lt _ _) (by decide)) (Nat.lt_of_lt_of_le (fti_lt _ _) (by decide))) rfl ?_
      rintro _ _ _ ⟨rfl, rfl, rfl⟩
      refine j_istore_n d_C_holds_69 (i := 2) rfl (Nat.le_of_ble_eq_true rfl) (lv' := [_, _, _, _]) rfl ?_
      refine j_lv [2, 3, 0, 1] rfl ?_
      refine n_iinc d_C_holds_70 1 (by decide) 3 rfl (Nat.le_of_ble_eq_true rfl) (lv' := [(3, .int (nI 2)), _, _, _]) rfl ?_
      refine j_goto d_C_holds_73 45 rfl ?_
      refine j_iload_n d_C_holds_45 rfl 0 rfl ?_
      refine n_iconst d_C_holds_46 4 (by decide) ?_
      refine n_icmp_ge d_C_holds_47 76 rfl (by omega) (by omega) (fun h => absurd h (by omega)) (fun h => ?_)
      refine j_iload_n d_C_holds_50 rfl 3 rfl ?_
      refine j_aload_n d_C_holds_51 rfl 2 rfl ?_
      refine v_getR d_C_holds_52 lf_C_67 (jshp_E f hf).1 (by omega) rfl ?_
      refine j_iload_n d_C_holds_55 rfl 0 rfl ?_
      refine v_ild d_C_holds_56 (jshp_E f hf).2.1 rfl (by omega) rfl (by omega) (by omega) ?_
      refine j_aload_n d_C_holds_57 rfl 1 rfl ?_
      refine v_getR d_C_holds_58 lf_C_18 rfl (Nat.le_of_ble_eq_true rfl) rfl ?_
      refine j_iload_n d_C_holds_61 rfl 0 rfl ?_
      refine v_ild d_C_holds_62 rfl rfl (Nat.le_of_ble_eq_true rfl) rfl (by omega) (by omega) ?_
      refine v_callS d_C_holds_63 mt_F_times ln_C_56 sm_F_times ⟨Nat.le_of_ble_eq_true rfl, Nat.le_of_ble_eq_true rfl⟩ (Nat.le_of_ble_eq_true rfl) rfl (Nat.zero_le _) (Nat.zero_le _) (c_F_ti g V L (V (4 + 5 * f) 2) (V 78 2) (Nat.lt_of_lt_of_le (hal _ (by omega)) (by decide)) (Nat.lt_of_lt_of_le (han _ (by omega)) (by decide))) rfl ?_
      rintro _ _ _ ⟨rfl, rfl, rfl⟩
      refine v_callS d_C_holds_66 mt_F_plus ln_C_59 sm_F_plus ⟨Nat.le_of_ble_eq_true rfl, Nat.le_of_ble_eq_true rfl⟩ (Nat.le_of_ble_eq_true rfl) rfl (Nat.zero_le _) (Nat.zero_le _) (c_F_pl g V L (fpl (fpl (hdm V f i) (fti (V (4 + 5 * f) 0) (V 78 0))) (fti (V (4 + 5 * f) 1) (V 78 1))) (fti (V (4 + 5 * f) 2) (V 78 2)) (Nat.lt_of_lt_of_le (fpl_lt _ _) (by decide)) (Nat.lt_of_lt_of_le (fti_lt _ _) (by decide))) rfl ?_
      rintro _ _ _ ⟨rfl, rfl, rfl⟩
      refine j_istore_n d_C_holds_69 (i := 2) rfl (Nat.le_of_ble_eq_true rfl) (lv' := [_, _, _, _]) rfl ?_
      refine j_lv [2, 3, 0, 1] rfl ?_
      refine n_iinc d_C_holds_70 1 (by decide) 3 rfl (Nat.le_of_ble_eq_true rfl) (lv' := [(3, .int (nI 3)), _, _, _]) rfl ?_
      refine j_goto d_C_holds_73 45 rfl ?_
      refine j_iload_n d_C_holds_45 rfl 0 rfl ?_
      refine n_iconst d_C_holds_46 4 (by decide) ?_
      refine n_icmp_ge d_C_holds_47 76 rfl (by omega) (by omega) (fun h => absurd h (by omega)) (fun h => ?_)
      refine j_iload_n d_C_holds_50 rfl 3 rfl ?_
      refine j_aload_n d_C_holds_51 rfl 2 rfl ?_
      refine v_getR d_C_holds_52 lf_C_67 (jshp_E f hf).1 (by omega) rfl ?_
      refine j_iload_n d_C_holds_55 rfl 0 rfl ?_
      refine v_ild d_C_holds_56 (jshp_E f hf).2.1 rfl (by omega) rfl (by omega) (by omega) ?_
      refine j_aload_n d_C_holds_57 rfl 1 rfl ?_
      refine v_getR d_C_holds_58 lf_C_18 rfl (Nat.le_of_ble_eq_true rfl) rfl ?_
      refine j_iload_n d_C_holds_61 rfl 0 rfl ?_
      refine v_ild d_C_holds_62 rfl rfl (Nat.le_of_ble_eq_true rfl) rfl (by omega) (by omega) ?_
      refine v_callS d_C_holds_63 mt_F_times ln_C_56 sm_F_times ⟨Nat.le_of_ble_eq_true rfl, Nat.le_of_ble_eq_true rfl⟩ (Nat.le_of_ble_eq_true rfl) rfl (Nat.zero_le _) (Nat.zero_le _) (c_F_ti g V L (V (4 + 5 * f) 3) (V 78 3) (Nat.lt_of_lt_of_le (hal _ (by omega)) (by decide)) (Nat.lt_of_lt_of_le (han _ (by omega)) (by decide))) rfl ?_
      rintro _ _ _ ⟨rfl, rfl, rfl⟩
      refine v_callS d_C_holds_66 mt_F_plus ln_C_59 sm_F_plus ⟨Nat.le_of_ble_eq_true rfl, Nat.le_of_ble_eq_true rfl⟩ (Nat.le_of_ble_eq_true rfl) rfl (Nat.zero_le _) (Nat.zero_le _) (c_F_pl g V L (fpl (fpl (fpl (hdm V f i) (fti (V (4 + 5 * f) 0) (V 78 0))) (fti (V (4 + 5 * f) 1) (V 78 1))) (fti (V (4 + 5 * f) 2) (V 78 2))) (fti (V (4 + 5 * f) 3) (V 78 3)) (Nat.lt_of_lt_of_le (fpl_lt _ _) (by decide)) (Nat.lt_of_lt_of_le (fti_lt _ _) (by decide))) rfl ?_
      rintro _ _ _ ⟨rfl, rfl, rfl⟩
      refine j_istore_n d_C_holds_69 (i := 2) rfl (Nat.le_of_ble_eq_true rfl) (lv' := [_, _, _, _]) rfl ?_
      refine j_lv [2, 3, 0, 1] rfl ?_
      refine n_iinc d_C_holds_70 1 (by decide) 3 rfl (Nat.le_of_ble_eq_true rfl) (lv' := [(3, .int (nI 4)), _, _, _]) rfl ?_
      refine j_goto d_C_holds_73 45 rfl ?_
      refine j_iload_n d_C_holds_45 rfl 0 rfl ?_
      refine n_iconst d_C_holds_46 4 (by decide) ?_
      refine n_icmp_ge d_C_holds_47 76 rfl (by omega) (by omega) (fun h => ?_) (fun h => absurd h (by omega))
      refine j_aload_n d_C_holds_76 rfl 1 rfl ?_
      refine v_getR d_C_holds_77 lf_C_18 rfl (Nat.le_of_ble_eq_true rfl) rfl ?_
      refine n_iconst d_C_holds_80 4 (by decide) ?_
      refine v_ild d_C_holds_81 rfl rfl (Nat.le_of_ble_eq_true rfl) rfl (by omega) (by omega) ?_
      refine j_iload_n d_C_holds_82 rfl 3 rfl ?_
      refine n_icmp_ne d_C_holds_83 90 rfl (Nat.lt_of_lt_of_le (han _ (by omega)) (by decide)) (Nat.lt_of_lt_of_le (fpl_lt _ _) (by decide)) (fun a1 => ?_) (fun a1 => ?_)
      · subst hφ
        rw [show hld V f i = 0 from if_neg a1]
        refine n_iconst d_C_holds_90 0 (by decide) ?_
        exact v_zret d_C_holds_91 rfl (by omega) (Nat.zero_le _) (Nat.zero_le _) rfl jA0_rfl
      · subst hφ
        rw [show hld V f i = 1 from if_pos a1]
        refine n_iconst d_C_holds_86 1 (by decide) ?_
        refine j_goto d_C_holds_87 91 rfl ?_
        exact v_zret d_C_holds_91 rfl (by omega) (Nat.zero_le _) (Nat.zero_le _) rfl jA0_rfl
    | succ n ih =>
      intro i hi
      refine j_iload_n d_C_holds_4 rfl 3 rfl ?_
      refine j_aload_n d_C_holds_5 rfl 0 rfl ?_
      refine v_getI d_C_holds_6 lf_C_36 rfl (Nat.le_of_ble_eq_true rfl) rfl ?_
      rw [hcn]
      refine n_icmp_ge d_C_holds_9 43 rfl (by omega) (by omega) (fun h => absurd h (by omega)) (fun h => ?_)
      refine j_iload_n d_C_holds_12 rfl 2 rfl ?_
      refine j_aload_n d_C_holds_13 rfl 0 rfl ?_
      refine v_getR d_C_holds_14 lf_C_15 rfl (Nat.le_of_ble_eq_true rfl) rfl ?_
      refine j_iload_n d_C_holds_17 rfl 3 rfl ?_
      refine v_ild d_C_holds_18 rfl rfl (Nat.le_of_ble_eq_true rfl) rfl (by omega) (by omega) ?_
      refine j_aload_n d_C_holds_19 rfl 1 rfl ?_
      refine v_getR d_C_holds_20 lf_C_62 (jshp_E f hf).1 (by omega) rfl ?_
      refine j_aload_n d_C_holds_23 rfl 0 rfl ?_
      refine v_getR d_C_holds_24 lf_C_9 rfl (Nat.le_of_ble_eq_true rfl) rfl ?_
      refine j_iload_n d_C_holds_27 rfl 3 rfl ?_
      refine v_ild d_C_holds_28 rfl rfl (Nat.le_of_ble_eq_true rfl) rfl (by omega) (by omega) ?_
      refine v_ild d_C_holds_29 (jshp_E f hf).2.2.1 rfl (by omega) rfl (h76 i (by omega)) (by omega) ?_
      refine v_callS d_C_holds_30 mt_F_times ln_C_56 sm_F_times ⟨Nat.le_of_ble_eq_true rfl, Nat.le_of_ble_eq_true rfl⟩ (Nat.le_of_ble_eq_true rfl) rfl (Nat.zero_le _) (Nat.zero_le _) (c_F_ti g V L (V 77 i) (V (5 + 5 * f) (V 76 i)) (Nat.lt_of_lt_of_le (h77 i (by omega)) (by decide)) (Nat.lt_of_lt_of_le (hms _ (h76 i (by omega))) (by decide))) rfl ?_
      rintro _ _ _ ⟨rfl, rfl, rfl⟩
      refine v_callS d_C_holds_33 mt_F_plus ln_C_59 sm_F_plus ⟨Nat.le_of_ble_eq_true rfl, Nat.le_of_ble_eq_true rfl⟩ (Nat.le_of_ble_eq_true rfl) rfl (Nat.zero_le _) (Nat.zero_le _) (c_F_pl g V L (hdm V f i) _ (Nat.lt_of_lt_of_le (hdm_lt _ _ _) (by decide)) (Nat.lt_of_lt_of_le (fti_lt _ _) (by decide))) rfl ?_
      rintro _ _ _ ⟨rfl, rfl, rfl⟩
      refine j_istore_n d_C_holds_36 (i := 2) rfl (Nat.le_of_ble_eq_true rfl) (lv' := [_, _, _, _]) rfl ?_
      refine n_iinc d_C_holds_37 1 (by decide) 3 rfl (Nat.le_of_ble_eq_true rfl) (lv' := [_, _, _, _]) rfl ?_
      refine j_goto d_C_holds_40 4 rfl ?_
      refine j_lv [2, 3, 1, 0] rfl ?_
      exact ih (i + 1) (by omega)
  refine n_iconst d_C_holds_0 0 (by decide) ?_
  refine j_istore_n d_C_holds_1 (i := 2) rfl (Nat.le_of_ble_eq_true rfl) (lv' := [_, _, _]) rfl ?_
  refine n_iconst d_C_holds_2 0 (by decide) ?_
  refine j_istore_n d_C_holds_3 (i := 3) rfl (Nat.le_of_ble_eq_true rfl) (lv' := [_, _, _, _]) rfl ?_
  refine j_lv [2, 3, 1, 0] rfl ?_
  exact loop m 0 (by omega)
end
section
/-! throwing: the words, the row; the contract of a method that throws -/
theorem own0 : ∀ w ∈ Bundle.ownAtoms "AuditDesk" 59 (jex 0) ["java/lang/RuntimeException", "java/lang/Exception"], w ∈ jTab ∨ w ∈ jXw := by
  have e : Bundle.ownAtoms "AuditDesk" 59 (jex 0) ["java/lang/RuntimeException", "java/lang/Exception"] = [8, 274, 283, 287, 290, 292, 275, 276, 22, 23, 277, 282, 288, 308, 264, 309, 266, 310, 268, 278, 279, 280, 281, 270, 304, 305, 307, 270, 295, 296, 297, 298, 256, 298, 299, 300, 301, 258, 301, 302, 303, 304, 260, 294, 253, 254, 261, 262, 263, 265, 267, 269, 850, 851, 273, 272, 271].filterMap (fun i => (tables_1 ++ jXw)[i]?) := by decide +kernel
  have hg : (Bundle.ownAtoms "AuditDesk" 59 (jex 0) ["java/lang/RuntimeException", "java/lang/Exception"]).all (fun w => jgood w || decide (w ∈ jXw)) = true := by decide +kernel
  intro w hw
  have h1 := List.all_eq_true.mp hg w hw
  rw [e] at hw
  obtain ⟨i, -, hi⟩ := List.mem_filterMap.mp hw
  have hm : w ∈ tables_1 ++ jXw := List.mem_of_getElem? hi
  rcases List.mem_append.mp hm with h | h
  · simp only [Bool.or_eq_true, decide_eq_true_eq] at h1
    rcases h1 with h2 | h2
    · exact Or.inl (List.mem_filter.mpr ⟨List.mem_append_right _ h, h2⟩)
    · exact Or.inr h2
  · exact Or.inr h
theorem own1 : ∀ w ∈ Bundle.ownAtoms "AuditDesk" 79 (jex 1) ["java/lang/RuntimeException", "java/lang/Exception"], w ∈ jTab ∨ w ∈ jXw := by
  have e : Bundle.ownAtoms "AuditDesk" 79 (jex 1) ["java/lang/RuntimeException", "java/lang/Exception"] = [8, 274, 283, 287, 290, 292, 275, 276, 22, 23, 277, 282, 288, 308, 264, 309, 266, 310, 268, 278, 279, 280, 281, 270, 304, 305, 307, 270, 339, 340, 341, 298, 256, 298, 299, 300, 301, 258, 301, 302, 303, 304, 260, 338, 329, 330, 331, 285, 332, 333, 334, 335, 850, 851, 273, 272, 336].filterMap (fun i => (tables_1 ++ jXw)[i]?) := by decide +kernel
  have hg : (Bundle.ownAtoms "AuditDesk" 79 (jex 1) ["java/lang/RuntimeException", "java/lang/Exception"]).all (fun w => jgood w || decide (w ∈ jXw)) = true := by decide +kernel
  intro w hw
  have h1 := List.all_eq_true.mp hg w hw
  rw [e] at hw
  obtain ⟨i, -, hi⟩ := List.mem_filterMap.mp hw
  have hm : w ∈ tables_1 ++ jXw := List.mem_of_getElem? hi
  rcases List.mem_append.mp hm with h | h
  · simp only [Bool.or_eq_true, decide_eq_true_eq] at h1
    rcases h1 with h2 | h2
    · exact Or.inl (List.mem_filter.mpr ⟨List.mem_append_right _ h, h2⟩)
    · exact Or.inr h2
  · exact Or.inr h
theorem own2 : ∀ w ∈ Bundle.ownAtoms "AuditDesk" 100 (jex 2) ["java/lang/RuntimeException", "java/lang/Exception"], w ∈ jTab ∨ w ∈ jXw := by
  have e : Bundle.ownAtoms "AuditDesk" 100 (jex 2) ["java/lang/RuntimeException", "java/lang/Exception"] = [8, 274, 283, 287, 290, 292, 275, 276, 22, 23, 277, 282, 288, 308, 264, 309, 266, 310, 268, 278, 279, 280, 281, 270, 304, 305, 307, 270, 415, 416, 417, 298, 256, 298, 299, 300, 301, 258, 301, 302, 303, 304, 260, 414, 405, 406, 407, 286, 408, 409, 410, 411, 850, 851, 273, 272, 412].filterMap (fun i => (tables_1 ++ jXw)[i]?) := by decide +kernel
  have hg : (Bundle.ownAtoms "AuditDesk" 100 (jex 2) ["java/lang/RuntimeException", "java/lang/Exception"]).all (fun w => jgood w || decide (w ∈ jXw)) = true := by decide +kernel
  intro w hw
  have h1 := List.all_eq_true.mp hg w hw
  rw [e] at hw
  obtain ⟨i, -, hi⟩ := List.mem_filterMap.mp hw
  have hm : w ∈ tables_1 ++ jXw := List.mem_of_getElem? hi
  rcases List.mem_append.mp hm with h | h
  · simp only [Bool.or_eq_true, decide_eq_true_eq] at h1
    rcases h1 with h2 | h2
    · exact Or.inl (List.mem_filter.mpr ⟨List.mem_append_right _ h, h2⟩)
    · exact Or.inr h2
  · exact Or.inr h
def jTQ (g : jG) (kd : Nat) (φ : (Nat → Nat → Nat) → (Nat → Nat → Int64) → Prop) : jQ := fun r N mu x => r = .inr kd ∧ N = 104 ∧ x = false ∧ ∃ V L, mu = jmem (jb g) (jn V) L ∧ φ V L
/-- a method that throws -/
def jT (g : jG) (y : jY) (d : Nat × Nat) (as : List Value) (V : Nat → Nat → Nat) (L : Nat → Nat → Int64) (kd : Nat) (φ : (Nat → Nat → Nat) → (Nat → Nat → Int64) → Prop) : Prop := jMet g y d 1 6 as 104 (jmem (jb g) (jn V) L) false (jTQ g kd φ)
def jB0 (V : Nat → Nat → Nat) (L : Nat → Nat → Int64) : (Nat → Nat → Nat) → (Nat → Nat → Int64) → Prop := fun V' L' => V = V' ∧ L = L'
theorem jT_entry {g : jG} {y : jY} {d : Nat × Nat} {as : List Value} {V : Nat → Nat → Nat} {L : Nat → Nat → Int64} {kd : Nat} {φ : (Nat → Nat → Nat) → (Nat → Nat → Int64) → Prop} (hpl : plainName (jyn y).cls = true) (hown : (jyn y).cls = jyo y) (hlen : (lg_sl as).length ≤ jyL y)
    (hJ : jJ (g, y, d, 1, 6, jTQ g kd φ) (lv_args 0 as) (jv (g, y, d, 1, 6, jTQ g kd φ) V L 0 0) 0 []) : jT g y d as V L kd φ := j_entry hpl hown hlen hJ
theorem v_throw {f : jF} {lv : List (Nat × Value)} {V : Nat → Nat → Nat} {L : Nat → Nat → Int64} {pc : Nat} {ic is inw kd : Nat} {tx : String} {φ : (Nat → Nat → Nat) → (Nat → Nat → Int64) → Prop} (h0 : decode (jyc f.2.1) pc = .ok (.new inw, 3)) (h3 : decode (jyc f.2.1) (pc + 3) = .ok (.dup, 1)) (h4 : decode (jyc f.2.1) (pc + 3 + 1) = .ok (.ldc is, 2)) (h6 : decode (jyc f.2.1) (pc + 3 + 1 + 2) = .ok (.invokespecial ic, 3)) (h9 : decode (jyc f.2.1) (pc + 3 + 1 + 2 + 3) = .ok (.athrow, 1))
    (hh : jyh f.2.1 = []) (ho : jyo f.2.1 = "AuditDesk") (hw1 : Cond.classLink "AuditDesk" inw (jex kd) ∈ jTab) (hw2 : Cond.instantiable (jex kd) 6 ∈ jTab) (hw3 : Cond.initialized (jex kd) ∈ jTab) (hfit : Bundle.fit (jex kd) = true) (hs : (is, tx) ∈ jStr)
    (hw : ∀ w ∈ Bundle.ownAtoms "AuditDesk" ic (jex kd) ["java/lang/RuntimeException", "java/lang/Exception"], w ∈ jTab ∨ w ∈ jXw)
    (hR : 5 < f.2.2.1.1 ∧ 86 ≤ f.2.2.1.2) (hk : 1 ≤ f.2.2.2.1) (hn : 6 ≤ f.2.2.2.2.1) (hf : f.2.2.2.2.2 = jTQ f.1 kd φ) (hφ : φ V L) : jJ f lv (jv f V L 0 0) pc [] := by
  refine j_throw (tx := tx) h0 h3 h4 h6 h9 hh (by rw [ho]; exact hw1) hw2 hw3 hfit (by rw [ho]; exact ⟨rfl, hs, hw⟩) hR (by decide) (by omega) (by omega) ?_
  rw [hf]
  exact ⟨rfl, rfl, rfl, V, L, rfl, hφ⟩
theorem c_D_key (g : jG) (V : Nat → Nat → Nat) (L : Nat → Nat → Int64) (a b : Int64) (h0 : V 0 4 = 0) : jK g Y_D_key (6, 86) [.ref (jb g + 0), .long a, .long b] V L (jA0 none V (jupL (jupL L 0 0 a) 0 1 b)) := by
  refine jK_entry (by decide +kernel) rfl (Nat.le_of_ble_eq_true rfl) ?_
  show jJ (g, Y_D_key, (6, 86), 0, 0, jVQ g (jA0 none V (jupL (jupL L 0 0 a) 0 1 b))) [(0, .ref (jb g + 0)), (1, .long a), (3, .long b)] (jv (g, Y_D_key, (6, 86), 0, 0, jVQ g (jA0 none V (jupL (jupL L 0 0 a) 0 1 b))) V L 0 0) 0 []
  refine j_aload_n d_D_key_0 rfl 0 rfl ?_
  refine v_getI d_D_key_1 lf_D_51 rfl (Nat.le_of_ble_eq_true rfl) rfl ?_
  rw [h0]
  refine n_ift_le d_D_key_4 17 rfl rfl (by decide) ?_
  refine j_aload_n d_D_key_17 rfl 0 rfl ?_
  refine j_lload_n d_D_key_18 rfl 1 rfl ?_
  refine v_putL d_D_key_19 lf_D_62 rfl (Nat.le_of_ble_eq_true rfl) rfl rfl rfl rfl ?_
  refine j_aload_n d_D_key_22 rfl 0 rfl ?_
  refine j_lload_n d_D_key_23 rfl 2 rfl ?_
  refine v_putL d_D_key_24 lf_D_66 rfl (Nat.le_of_ble_eq_true rfl) rfl rfl rfl rfl ?_
  exact v_vret d_D_key_27 rfl (Nat.zero_le _) (Nat.zero_le _) rfl jA0_rfl
theorem t_D_key (g : jG) (V : Nat → Nat → Nat) (L : Nat → Nat → Int64) (a b : Int64) (h0 : 0 < V 0 4) (h3 : V 0 4 ≤ 3) : jT g Y_D_key (6, 86) [.ref (jb g + 0), .long a, .long b] V L 0 (jB0 V L) := by
  refine jT_entry (by decide +kernel) rfl (Nat.le_of_ble_eq_true rfl) ?_
  show jJ (g, Y_D_key, (6, 86), 1, 6, jTQ g 0 (jB0 V L)) [(0, .ref (jb g + 0)), (1, .long a), (3, .long b)] (jv (g, Y_D_key, (6, 86), 1, 6, jTQ g 0 (jB0 V L)) V L 0 0) 0 []
  refine j_aload_n d_D_key_0 rfl 0 rfl ?_
  refine v_getI d_D_key_1 lf_D_51 rfl (Nat.le_of_ble_eq_true rfl) rfl ?_
  refine n_iff_le d_D_key_4 17 rfl h0 (by omega) ?_
  exact v_throw (kd := 0) (tx := "there is a file") d_D_key_7 d_D_key_10 d_D_key_11 d_D_key_13 d_D_key_16 rfl rfl lc_D_55 it_ISE iz_ISE (by decide +kernel) (by decide +kernel) own0 ⟨Nat.le_of_ble_eq_true rfl, Nat.le_of_ble_eq_true rfl⟩ (Nat.le_of_ble_eq_true rfl) (Nat.le_of_ble_eq_true rfl) rfl ⟨rfl, rfl⟩
end
