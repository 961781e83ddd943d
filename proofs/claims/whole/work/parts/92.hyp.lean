/-! the hypothesis of the run, at the law's entry -/
theorem jstart {s : State} {l : Launch} {b L : Nat} {xs : Nat → Int32} (htr : ∀ e : Env, l.admits e → e.platform.stackTraces = false) (hts : ∀ w ∈ lw_tbl, w.before #[Value.ref b] s = true) (hX : va_X b L xs s s.heap) (hbl : b < s.heap.size) (hgv : (Jvm.Cond.and given_1 narrow_1).before #[Value.ref b] s = true) : ∃ (aI : Nat) (D : va_G) (cA : Nat → ClassId), jHyp (l, (s.heap.size, b, L, aI), xs, D, cA) s := by
  have hs := flat_of_before _ hgv
  have hT := jTab_of hts
  have htb : ∀ w ∈ tables_1, w.before #[Value.ref b] s = true := fun w hw => hts w (List.mem_append_right _ hw)
  have hA : ∀ a : Nat, a < s.heap.size → ¬ s.heap.size ≤ a := fun a h => Nat.not_le.mpr h
  have hl0 := htb (Cond.laysStatic "AuditDesk$Field" "INVERSES" "[I") (List.mem_of_getElem? (i := 383) (by decide +kernel))
  have hl1 := htb (Cond.laysStatic "java/lang/Throwable" "UNASSIGNED_STACK" jU) (List.mem_of_getElem? (i := 279) (by decide +kernel))
  have hl2 := htb (Cond.laysStatic "java/lang/Throwable" "SUPPRESSED_SENTINEL" "Ljava/util/List;") (List.mem_of_getElem? (i := 281) (by decide +kernel))
  have r1 := hs (Cond.isRef (.static "java/lang/Throwable" "UNASSIGNED_STACK" jU)) (by decide +kernel)
  have r2 := hs (Cond.isRef (.static "java/lang/Throwable" "SUPPRESSED_SENTINEL" "Ljava/util/List;")) (by decide +kernel)
  have a0 := hs (Cond.arrayOf (.static "AuditDesk$Field" "INVERSES" "[I") .int) (by decide +kernel)
  have a1 := eqi_of (hs (Cond.eq (.length (.static "AuditDesk$Field" "INVERSES" "[I")) (.int 6)) (by decide +kernel))
  have e0 := eqi_of (hs (Cond.eq (.elem (.static "AuditDesk$Field" "INVERSES" "[I") (.int 0)) (.int 0)) (by decide +kernel))
  have e1 := eqi_of (hs (Cond.eq (.elem (.static "AuditDesk$Field" "INVERSES" "[I") (.int 1)) (.int 1)) (by decide +kernel))
  have e2 := eqi_of (hs (Cond.eq (.elem (.static "AuditDesk$Field" "INVERSES" "[I") (.int 2)) (.int 1073741824)) (by decide +kernel))
  have e3 := eqi_of (hs (Cond.eq (.elem (.static "AuditDesk$Field" "INVERSES" "[I") (.int 3)) (.int 1431655765)) (by decide +kernel))
  have e4 := eqi_of (hs (Cond.eq (.elem (.static "AuditDesk$Field" "INVERSES" "[I") (.int 4)) (.int 536870912)) (by decide +kernel))
  have e5 := eqi_of (hs (Cond.eq (.elem (.static "AuditDesk$Field" "INVERSES" "[I") (.int 5)) (.int 858993459)) (by decide +kernel))
  obtain ⟨aI, hev, hTI⟩ := va_Tof (tm := (.static "AuditDesk$Field" "INVERSES" "[I")) (ty := .int) (N := 6) (f := fun j => .int (jinv j)) (A := fun q => s.heap.size ≤ q) (by decide) a0 a1 (fun j hj => by
    match j, hj with
    | 0, _ => exact e0
    | 1, _ => exact e1
    | 2, _ => exact e2
    | 3, _ => exact e3
    | 4, _ => exact e4
    | 5, _ => exact e5) hA
  obtain ⟨D, cA, hK⟩ := jK_start hT
  have s57 : ∃ a, vk_R "AuditDesk" 57 "there is a file" a s := strR (htb (Cond.stringRef "AuditDesk" 57 "there is a file") (List.mem_of_getElem? (i := 293) (by decide +kernel))) (hs (Cond.exactly (.string "AuditDesk" 57) "java/lang/String") (by decide +kernel))
  have s77 : ∃ a, vk_R "AuditDesk" 77 "a file has 1 to 64 words" a s := strR (htb (Cond.stringRef "AuditDesk" 77 "a file has 1 to 64 words") (List.mem_of_getElem? (i := 337) (by decide +kernel))) (hs (Cond.exactly (.string "AuditDesk" 77) "java/lang/String") (by decide +kernel))
  have s80 : ∃ a, vk_R "AuditDesk" 80 "there are 3 files" a s := strR (htb (Cond.stringRef "AuditDesk" 80 "there are 3 files") (List.mem_of_getElem? (i := 344) (by decide +kernel))) (hs (Cond.exactly (.string "AuditDesk" 80) "java/lang/String") (by decide +kernel))
  have s98 : ∃ a, vk_R "AuditDesk" 98 "no such file or keeper" a s := strR (htb (Cond.stringRef "AuditDesk" 98 "no such file or keeper") (List.mem_of_getElem? (i := 413) (by decide +kernel))) (hs (Cond.exactly (.string "AuditDesk" 98) "java/lang/String") (by decide +kernel))
  have s125 : ∃ a, vk_R "AuditDesk" 125 "no such row of a keeper" a s := strR (htb (Cond.stringRef "AuditDesk" 125 "no such row of a keeper") (List.mem_of_getElem? (i := 450) (by decide +kernel))) (hs (Cond.exactly (.string "AuditDesk" 125) "java/lang/String") (by decide +kernel))
  have s137 : ∃ a, vk_R "AuditDesk" 137 "no such number of a keeper's row, or d is not of the field" a s := strR (htb (Cond.stringRef "AuditDesk" 137 "no such number of a keeper's row, or d is not of the field") (List.mem_of_getElem? (i := 466) (by decide +kernel))) (hs (Cond.exactly (.string "AuditDesk" 137) "java/lang/String") (by decide +kernel))
  have s139 : ∃ a, vk_R "AuditDesk" 139 "the row is lost" a s := strR (htb (Cond.stringRef "AuditDesk" 139 "the row is lost") (List.mem_of_getElem? (i := 467) (by decide +kernel))) (hs (Cond.exactly (.string "AuditDesk" 139) "java/lang/String") (by decide +kernel))
  have s157 : ∃ a, vk_R "AuditDesk" 157 "the keeper has no such file, or m is not 1 to its rows" a s := strR (htb (Cond.stringRef "AuditDesk" 157 "the keeper has no such file, or m is not 1 to its rows") (List.mem_of_getElem? (i := 477) (by decide +kernel))) (hs (Cond.exactly (.string "AuditDesk" 157) "java/lang/String") (by decide +kernel))
  have s184 : ∃ a, vk_R "AuditDesk" 184 "no challenge" a s := strR (htb (Cond.stringRef "AuditDesk" 184 "no challenge") (List.mem_of_getElem? (i := 509) (by decide +kernel))) (hs (Cond.exactly (.string "AuditDesk" 184) "java/lang/String") (by decide +kernel))
  have s202 : ∃ a, vk_R "AuditDesk" 202 "the keeper has no such file" a s := strR (htb (Cond.stringRef "AuditDesk" 202 "the keeper has no such file") (List.mem_of_getElem? (i := 521) (by decide +kernel))) (hs (Cond.exactly (.string "AuditDesk" 202) "java/lang/String") (by decide +kernel))
  have s213 : ∃ a, vk_R "AuditDesk" 213 "a group has not four good rows" a s := strR (htb (Cond.stringRef "AuditDesk" 213 "a group has not four good rows") (List.mem_of_getElem? (i := 571) (by decide +kernel))) (hs (Cond.exactly (.string "AuditDesk" 213) "java/lang/String") (by decide +kernel))
  have s218 : ∃ a, vk_R "AuditDesk" 218 "no such file" a s := strR (htb (Cond.stringRef "AuditDesk" 218 "no such file") (List.mem_of_getElem? (i := 579) (by decide +kernel))) (hs (Cond.exactly (.string "AuditDesk" 218) "java/lang/String") (by decide +kernel))
  have s230 : ∃ a, vk_R "AuditDesk" 230 "no such number of a file's row" a s := strR (htb (Cond.stringRef "AuditDesk" 230 "no such number of a file's row") (List.mem_of_getElem? (i := 588) (by decide +kernel))) (hs (Cond.exactly (.string "AuditDesk" 230) "java/lang/String") (by decide +kernel))
  have s232 : ∃ a, vk_R "AuditDesk" 232 "no such number of a keeper's row" a s := strR (htb (Cond.stringRef "AuditDesk" 232 "no such number of a keeper's row") (List.mem_of_getElem? (i := 596) (by decide +kernel))) (hs (Cond.exactly (.string "AuditDesk" 232) "java/lang/String") (by decide +kernel))
  have c1 := nocast (hs (Cond.not (Cond.castable "java/lang/IllegalStateException" "java/lang/IllegalArgumentException")) (by decide +kernel))
  have c2 := nocast (hs (Cond.not (Cond.castable "java/lang/IllegalStateException" "java/lang/IndexOutOfBoundsException")) (by decide +kernel))
  have hst : ∀ q ∈ jStr, ∃ a, vk_R "AuditDesk" q.1 q.2 a s := List.forall_mem_cons.mpr ⟨s57, List.forall_mem_cons.mpr ⟨s77, List.forall_mem_cons.mpr ⟨s80, List.forall_mem_cons.mpr ⟨s98, List.forall_mem_cons.mpr ⟨s125, List.forall_mem_cons.mpr ⟨s137, List.forall_mem_cons.mpr ⟨s139, List.forall_mem_cons.mpr ⟨s157, List.forall_mem_cons.mpr ⟨s184, List.forall_mem_cons.mpr ⟨s202, List.forall_mem_cons.mpr ⟨s213, List.forall_mem_cons.mpr ⟨s218, List.forall_mem_cons.mpr ⟨s230, List.forall_mem_cons.mpr ⟨s232, fun _ h => absurd h List.not_mem_nil⟩⟩⟩⟩⟩⟩⟩⟩⟩⟩⟩⟩⟩⟩
  have hno : ∀ q ∈ jNos, ∀ c t : ClassId, s.vm.findClass q.1 = some c → s.vm.findClass q.2 = some t → s.vm.assignable c t = false := List.forall_mem_cons.mpr ⟨c1, List.forall_mem_cons.mpr ⟨c2, fun _ h => absurd h List.not_mem_nil⟩⟩
  exact ⟨aI, D, cA, hT, hK, Nat.le_refl _, ⟨hbl, hX⟩, ⟨va_Zof hl0 (hT _ iz_F _) hev hA, hTI, ⟨va_Zqof hl1 (hT _ iz_Thr _) r1 hA, va_Zqof hl2 (hT _ iz_Thr _) r2 hA⟩, ⟨jLs_of hl1 rfl, jLs_of hl2 rfl⟩, hst, hno⟩, htr⟩
