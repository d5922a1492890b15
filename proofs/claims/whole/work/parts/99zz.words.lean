/-! the words of the start -/
/-- the words of the start that are looked for -/
def z_fl : List Cond := flatC (Jvm.Cond.and given_1 narrow_1)
def z_st (j : Nat) : Term := .static "FlakeArms$Flake" (ma_sn j) "[I"
def z_tm (i : Nat) : Term := .string "FlakeArms$LawReader" (ma_ti.getD i 0)
theorem z_cells : ∀ j, j < 2 → Cond.laysStatic "FlakeArms$Flake" (ma_sn j) "[I" ∈ lw_tbl ∧ Cond.arrayOf (z_st j) .int ∈ z_fl ∧ Cond.eq (.length (z_st j)) (.int (Int32.ofNat (ma_sl j))) ∈ z_fl := by decide +kernel
theorem z_ini : Cond.initialized "FlakeArms$Flake" ∈ lw_tbl ∧ Cond.initialized "java/lang/String" ∈ lw_tbl ∧ Cond.initialized "jdk/internal/util/Preconditions" ∈ lw_tbl ∧ Cond.laysStatic "java/lang/String" "COMPACT_STRINGS" "Z" ∈ lw_tbl ∧ Cond.laysStatic "jdk/internal/util/Preconditions" "SIOOBE_FORMATTER" "Ljava/util/function/BiFunction;" ∈ lw_tbl ∧ Cond.eq (.static "java/lang/String" "COMPACT_STRINGS" "Z") (.int 1) ∈ z_fl ∧ Cond.isRef (.static "jdk/internal/util/Preconditions" "SIOOBE_FORMATTER" "Ljava/util/function/BiFunction;") ∈ z_fl := by decide +kernel
theorem z_el0 : ∀ k, k < 91 → Cond.eq (.elem (z_st 0) (.int (Int32.ofNat k))) (.int (ma_sv 0 k)) ∈ z_fl := by decide +kernel
theorem z_el1 : ∀ k, k < 6 → Cond.eq (.elem (z_st 1) (.int (Int32.ofNat k))) (.int (ma_sv 1 k)) ∈ z_fl := by decide +kernel
theorem z_tx : ∀ i, i < 12 → Cond.exactly (z_tm i) "java/lang/String" ∈ z_fl ∧ Cond.eq (.field (z_tm i) "java/lang/String" "coder" "B") (.int 0) ∈ z_fl ∧ Cond.arrayOf (.field (z_tm i) "java/lang/String" "value" "[B") .byte ∈ z_fl ∧ Cond.eq (.length (.field (z_tm i) "java/lang/String" "value" "[B")) (.int (Int32.ofNat (ma_tl.getD i 0))) ∈ z_fl ∧ Cond.stringRef "FlakeArms$LawReader" (ma_ti.getD i 0) (ma_tx.getD i "") ∈ lw_tbl := by decide +kernel
theorem z_te : ∀ i, i < 12 → ∀ j, j < ma_tl.getD i 0 → Cond.eq (.elem (.field (z_tm i) "java/lang/String" "value" "[B") (.int (Int32.ofNat j))) (.int ((ma_tb.getD i []).getD j 0)) ∈ z_fl := by decide +kernel
theorem z_gk : ∀ c, ma_gk c = true → c < 9 := by
  intro c h
  unfold ma_gk at h
  simp at h
  omega
theorem z_ao : Cond.arrayOver (.object "FlakeArms$Flake") ∈ lw_tbl ∧ Cond.arrayOver (.object "FlakeArms$Growth") ∈ lw_tbl ∧ Cond.arrayOver (.array .int) ∈ lw_tbl ∧ Cond.arrayClass .int ∈ lw_tbl ∧ Cond.arrayClass .long ∈ lw_tbl ∧ Cond.arrayClass .byte ∈ lw_tbl ∧ Cond.arrayClass .boolean ∈ lw_tbl := by decide +kernel
theorem z_in : ∀ c, c < 13 → Cond.instantiable (ct_R c) (ct_N c) ∈ lw_tbl := by decide +kernel

theorem z_ne_6_7 : Cond.not (Cond.eq (z_tm 6) (z_tm 7)) ∈ z_fl := List.mem_of_getElem? (i := 245) (by decide +kernel)
theorem z_ne_6_8 : Cond.not (Cond.eq (z_tm 6) (z_tm 8)) ∈ z_fl := List.mem_of_getElem? (i := 254) (by decide +kernel)
theorem z_ne_7_8 : Cond.not (Cond.eq (z_tm 7) (z_tm 8)) ∈ z_fl := List.mem_of_getElem? (i := 255) (by decide +kernel)
theorem z_ne_6_9 : Cond.not (Cond.eq (z_tm 6) (z_tm 9)) ∈ z_fl := List.mem_of_getElem? (i := 264) (by decide +kernel)
theorem z_ne_7_9 : Cond.not (Cond.eq (z_tm 7) (z_tm 9)) ∈ z_fl := List.mem_of_getElem? (i := 265) (by decide +kernel)
theorem z_ne_8_9 : Cond.not (Cond.eq (z_tm 8) (z_tm 9)) ∈ z_fl := List.mem_of_getElem? (i := 266) (by decide +kernel)
theorem z_ne_6_10 : Cond.not (Cond.eq (z_tm 6) (z_tm 10)) ∈ z_fl := List.mem_of_getElem? (i := 275) (by decide +kernel)
theorem z_ne_7_10 : Cond.not (Cond.eq (z_tm 7) (z_tm 10)) ∈ z_fl := List.mem_of_getElem? (i := 276) (by decide +kernel)
theorem z_ne_8_10 : Cond.not (Cond.eq (z_tm 8) (z_tm 10)) ∈ z_fl := List.mem_of_getElem? (i := 277) (by decide +kernel)
theorem z_ne_9_10 : Cond.not (Cond.eq (z_tm 9) (z_tm 10)) ∈ z_fl := List.mem_of_getElem? (i := 278) (by decide +kernel)
theorem z_ne_6_11 : Cond.not (Cond.eq (z_tm 6) (z_tm 11)) ∈ z_fl := List.mem_of_getElem? (i := 289) (by decide +kernel)
theorem z_ne_7_11 : Cond.not (Cond.eq (z_tm 7) (z_tm 11)) ∈ z_fl := List.mem_of_getElem? (i := 290) (by decide +kernel)
theorem z_ne_8_11 : Cond.not (Cond.eq (z_tm 8) (z_tm 11)) ∈ z_fl := List.mem_of_getElem? (i := 291) (by decide +kernel)
theorem z_ne_9_11 : Cond.not (Cond.eq (z_tm 9) (z_tm 11)) ∈ z_fl := List.mem_of_getElem? (i := 292) (by decide +kernel)
theorem z_ne_10_11 : Cond.not (Cond.eq (z_tm 10) (z_tm 11)) ∈ z_fl := List.mem_of_getElem? (i := 293) (by decide +kernel)
theorem z_ne_6_0 : Cond.not (Cond.eq (z_tm 6) (z_tm 0)) ∈ z_fl := List.mem_of_getElem? (i := 301) (by decide +kernel)
theorem z_ne_7_0 : Cond.not (Cond.eq (z_tm 7) (z_tm 0)) ∈ z_fl := List.mem_of_getElem? (i := 302) (by decide +kernel)
theorem z_ne_8_0 : Cond.not (Cond.eq (z_tm 8) (z_tm 0)) ∈ z_fl := List.mem_of_getElem? (i := 303) (by decide +kernel)
theorem z_ne_9_0 : Cond.not (Cond.eq (z_tm 9) (z_tm 0)) ∈ z_fl := List.mem_of_getElem? (i := 304) (by decide +kernel)
theorem z_ne_10_0 : Cond.not (Cond.eq (z_tm 10) (z_tm 0)) ∈ z_fl := List.mem_of_getElem? (i := 305) (by decide +kernel)
theorem z_ne_11_0 : Cond.not (Cond.eq (z_tm 11) (z_tm 0)) ∈ z_fl := List.mem_of_getElem? (i := 306) (by decide +kernel)
theorem z_ne_6_1 : Cond.not (Cond.eq (z_tm 6) (z_tm 1)) ∈ z_fl := List.mem_of_getElem? (i := 315) (by decide +kernel)
theorem z_ne_7_1 : Cond.not (Cond.eq (z_tm 7) (z_tm 1)) ∈ z_fl := List.mem_of_getElem? (i := 316) (by decide +kernel)
theorem z_ne_8_1 : Cond.not (Cond.eq (z_tm 8) (z_tm 1)) ∈ z_fl := List.mem_of_getElem? (i := 317) (by decide +kernel)
theorem z_ne_9_1 : Cond.not (Cond.eq (z_tm 9) (z_tm 1)) ∈ z_fl := List.mem_of_getElem? (i := 318) (by decide +kernel)
theorem z_ne_10_1 : Cond.not (Cond.eq (z_tm 10) (z_tm 1)) ∈ z_fl := List.mem_of_getElem? (i := 319) (by decide +kernel)
theorem z_ne_11_1 : Cond.not (Cond.eq (z_tm 11) (z_tm 1)) ∈ z_fl := List.mem_of_getElem? (i := 320) (by decide +kernel)
theorem z_ne_0_1 : Cond.not (Cond.eq (z_tm 0) (z_tm 1)) ∈ z_fl := List.mem_of_getElem? (i := 321) (by decide +kernel)
theorem z_ne_6_2 : Cond.not (Cond.eq (z_tm 6) (z_tm 2)) ∈ z_fl := List.mem_of_getElem? (i := 328) (by decide +kernel)
theorem z_ne_7_2 : Cond.not (Cond.eq (z_tm 7) (z_tm 2)) ∈ z_fl := List.mem_of_getElem? (i := 329) (by decide +kernel)
theorem z_ne_8_2 : Cond.not (Cond.eq (z_tm 8) (z_tm 2)) ∈ z_fl := List.mem_of_getElem? (i := 330) (by decide +kernel)
theorem z_ne_9_2 : Cond.not (Cond.eq (z_tm 9) (z_tm 2)) ∈ z_fl := List.mem_of_getElem? (i := 331) (by decide +kernel)
theorem z_ne_10_2 : Cond.not (Cond.eq (z_tm 10) (z_tm 2)) ∈ z_fl := List.mem_of_getElem? (i := 332) (by decide +kernel)
theorem z_ne_11_2 : Cond.not (Cond.eq (z_tm 11) (z_tm 2)) ∈ z_fl := List.mem_of_getElem? (i := 333) (by decide +kernel)
theorem z_ne_0_2 : Cond.not (Cond.eq (z_tm 0) (z_tm 2)) ∈ z_fl := List.mem_of_getElem? (i := 334) (by decide +kernel)
theorem z_ne_1_2 : Cond.not (Cond.eq (z_tm 1) (z_tm 2)) ∈ z_fl := List.mem_of_getElem? (i := 335) (by decide +kernel)
theorem z_ne_6_3 : Cond.not (Cond.eq (z_tm 6) (z_tm 3)) ∈ z_fl := List.mem_of_getElem? (i := 342) (by decide +kernel)
theorem z_ne_7_3 : Cond.not (Cond.eq (z_tm 7) (z_tm 3)) ∈ z_fl := List.mem_of_getElem? (i := 343) (by decide +kernel)
theorem z_ne_8_3 : Cond.not (Cond.eq (z_tm 8) (z_tm 3)) ∈ z_fl := List.mem_of_getElem? (i := 344) (by decide +kernel)
theorem z_ne_9_3 : Cond.not (Cond.eq (z_tm 9) (z_tm 3)) ∈ z_fl := List.mem_of_getElem? (i := 345) (by decide +kernel)
theorem z_ne_10_3 : Cond.not (Cond.eq (z_tm 10) (z_tm 3)) ∈ z_fl := List.mem_of_getElem? (i := 346) (by decide +kernel)
theorem z_ne_11_3 : Cond.not (Cond.eq (z_tm 11) (z_tm 3)) ∈ z_fl := List.mem_of_getElem? (i := 347) (by decide +kernel)
theorem z_ne_0_3 : Cond.not (Cond.eq (z_tm 0) (z_tm 3)) ∈ z_fl := List.mem_of_getElem? (i := 348) (by decide +kernel)
theorem z_ne_1_3 : Cond.not (Cond.eq (z_tm 1) (z_tm 3)) ∈ z_fl := List.mem_of_getElem? (i := 349) (by decide +kernel)
theorem z_ne_2_3 : Cond.not (Cond.eq (z_tm 2) (z_tm 3)) ∈ z_fl := List.mem_of_getElem? (i := 350) (by decide +kernel)
theorem z_ne_6_4 : Cond.not (Cond.eq (z_tm 6) (z_tm 4)) ∈ z_fl := List.mem_of_getElem? (i := 358) (by decide +kernel)
theorem z_ne_7_4 : Cond.not (Cond.eq (z_tm 7) (z_tm 4)) ∈ z_fl := List.mem_of_getElem? (i := 359) (by decide +kernel)
theorem z_ne_8_4 : Cond.not (Cond.eq (z_tm 8) (z_tm 4)) ∈ z_fl := List.mem_of_getElem? (i := 360) (by decide +kernel)
theorem z_ne_9_4 : Cond.not (Cond.eq (z_tm 9) (z_tm 4)) ∈ z_fl := List.mem_of_getElem? (i := 361) (by decide +kernel)
theorem z_ne_10_4 : Cond.not (Cond.eq (z_tm 10) (z_tm 4)) ∈ z_fl := List.mem_of_getElem? (i := 362) (by decide +kernel)
theorem z_ne_11_4 : Cond.not (Cond.eq (z_tm 11) (z_tm 4)) ∈ z_fl := List.mem_of_getElem? (i := 363) (by decide +kernel)
theorem z_ne_0_4 : Cond.not (Cond.eq (z_tm 0) (z_tm 4)) ∈ z_fl := List.mem_of_getElem? (i := 364) (by decide +kernel)
theorem z_ne_1_4 : Cond.not (Cond.eq (z_tm 1) (z_tm 4)) ∈ z_fl := List.mem_of_getElem? (i := 365) (by decide +kernel)
theorem z_ne_2_4 : Cond.not (Cond.eq (z_tm 2) (z_tm 4)) ∈ z_fl := List.mem_of_getElem? (i := 366) (by decide +kernel)
theorem z_ne_3_4 : Cond.not (Cond.eq (z_tm 3) (z_tm 4)) ∈ z_fl := List.mem_of_getElem? (i := 367) (by decide +kernel)
theorem z_ne_6_5 : Cond.not (Cond.eq (z_tm 6) (z_tm 5)) ∈ z_fl := List.mem_of_getElem? (i := 375) (by decide +kernel)
theorem z_ne_7_5 : Cond.not (Cond.eq (z_tm 7) (z_tm 5)) ∈ z_fl := List.mem_of_getElem? (i := 376) (by decide +kernel)
theorem z_ne_8_5 : Cond.not (Cond.eq (z_tm 8) (z_tm 5)) ∈ z_fl := List.mem_of_getElem? (i := 377) (by decide +kernel)
theorem z_ne_9_5 : Cond.not (Cond.eq (z_tm 9) (z_tm 5)) ∈ z_fl := List.mem_of_getElem? (i := 378) (by decide +kernel)
theorem z_ne_10_5 : Cond.not (Cond.eq (z_tm 10) (z_tm 5)) ∈ z_fl := List.mem_of_getElem? (i := 379) (by decide +kernel)
theorem z_ne_11_5 : Cond.not (Cond.eq (z_tm 11) (z_tm 5)) ∈ z_fl := List.mem_of_getElem? (i := 380) (by decide +kernel)
theorem z_ne_0_5 : Cond.not (Cond.eq (z_tm 0) (z_tm 5)) ∈ z_fl := List.mem_of_getElem? (i := 381) (by decide +kernel)
theorem z_ne_1_5 : Cond.not (Cond.eq (z_tm 1) (z_tm 5)) ∈ z_fl := List.mem_of_getElem? (i := 382) (by decide +kernel)
theorem z_ne_2_5 : Cond.not (Cond.eq (z_tm 2) (z_tm 5)) ∈ z_fl := List.mem_of_getElem? (i := 383) (by decide +kernel)
theorem z_ne_3_5 : Cond.not (Cond.eq (z_tm 3) (z_tm 5)) ∈ z_fl := List.mem_of_getElem? (i := 384) (by decide +kernel)
theorem z_ne_4_5 : Cond.not (Cond.eq (z_tm 4) (z_tm 5)) ∈ z_fl := List.mem_of_getElem? (i := 385) (by decide +kernel)
def z_nl : List (Nat × Nat) := [(6, 7), (6, 8), (7, 8), (6, 9), (7, 9), (8, 9), (6, 10), (7, 10), (8, 10), (9, 10), (6, 11), (7, 11), (8, 11), (9, 11), (10, 11), (6, 0), (7, 0), (8, 0), (9, 0), (10, 0), (11, 0), (6, 1), (7, 1), (8, 1), (9, 1), (10, 1), (11, 1), (0, 1), (6, 2), (7, 2), (8, 2), (9, 2), (10, 2), (11, 2), (0, 2), (1, 2), (6, 3), (7, 3), (8, 3), (9, 3), (10, 3), (11, 3), (0, 3), (1, 3), (2, 3), (6, 4), (7, 4), (8, 4), (9, 4), (10, 4), (11, 4), (0, 4), (1, 4), (2, 4), (3, 4), (6, 5), (7, 5), (8, 5), (9, 5), (10, 5), (11, 5), (0, 5), (1, 5), (2, 5), (3, 5), (4, 5)]
theorem z_nel : ∀ q ∈ z_nl, Cond.not (Cond.eq (z_tm q.1) (z_tm q.2)) ∈ z_fl := List.forall_mem_cons.mpr ⟨z_ne_6_7, List.forall_mem_cons.mpr ⟨z_ne_6_8, List.forall_mem_cons.mpr ⟨z_ne_7_8, List.forall_mem_cons.mpr ⟨z_ne_6_9, List.forall_mem_cons.mpr ⟨z_ne_7_9, List.forall_mem_cons.mpr ⟨z_ne_8_9, List.forall_mem_cons.mpr ⟨z_ne_6_10, List.forall_mem_cons.mpr ⟨z_ne_7_10, List.forall_mem_cons.mpr ⟨z_ne_8_10, List.forall_mem_cons.mpr ⟨z_ne_9_10, List.forall_mem_cons.mpr ⟨z_ne_6_11, List.forall_mem_cons.mpr ⟨z_ne_7_11, List.forall_mem_cons.mpr ⟨z_ne_8_11, List.forall_mem_cons.mpr ⟨z_ne_9_11, List.forall_mem_cons.mpr ⟨z_ne_10_11, List.forall_mem_cons.mpr ⟨z_ne_6_0, List.forall_mem_cons.mpr ⟨z_ne_7_0, List.forall_mem_cons.mpr ⟨z_ne_8_0, List.forall_mem_cons.mpr ⟨z_ne_9_0, List.forall_mem_cons.mpr ⟨z_ne_10_0, List.forall_mem_cons.mpr ⟨z_ne_11_0, List.forall_mem_cons.mpr ⟨z_ne_6_1, List.forall_mem_cons.mpr ⟨z_ne_7_1, List.forall_mem_cons.mpr ⟨z_ne_8_1, List.forall_mem_cons.mpr ⟨z_ne_9_1, List.forall_mem_cons.mpr ⟨z_ne_10_1, List.forall_mem_cons.mpr ⟨z_ne_11_1, List.forall_mem_cons.mpr ⟨z_ne_0_1, List.forall_mem_cons.mpr ⟨z_ne_6_2, List.forall_mem_cons.mpr ⟨z_ne_7_2, List.forall_mem_cons.mpr ⟨z_ne_8_2, List.forall_mem_cons.mpr ⟨z_ne_9_2, List.forall_mem_cons.mpr ⟨z_ne_10_2, List.forall_mem_cons.mpr ⟨z_ne_11_2, List.forall_mem_cons.mpr ⟨z_ne_0_2, List.forall_mem_cons.mpr ⟨z_ne_1_2, List.forall_mem_cons.mpr ⟨z_ne_6_3, List.forall_mem_cons.mpr ⟨z_ne_7_3, List.forall_mem_cons.mpr ⟨z_ne_8_3, List.forall_mem_cons.mpr ⟨z_ne_9_3, List.forall_mem_cons.mpr ⟨z_ne_10_3, List.forall_mem_cons.mpr ⟨z_ne_11_3, List.forall_mem_cons.mpr ⟨z_ne_0_3, List.forall_mem_cons.mpr ⟨z_ne_1_3, List.forall_mem_cons.mpr ⟨z_ne_2_3, List.forall_mem_cons.mpr ⟨z_ne_6_4, List.forall_mem_cons.mpr ⟨z_ne_7_4, List.forall_mem_cons.mpr ⟨z_ne_8_4, List.forall_mem_cons.mpr ⟨z_ne_9_4, List.forall_mem_cons.mpr ⟨z_ne_10_4, List.forall_mem_cons.mpr ⟨z_ne_11_4, List.forall_mem_cons.mpr ⟨z_ne_0_4, List.forall_mem_cons.mpr ⟨z_ne_1_4, List.forall_mem_cons.mpr ⟨z_ne_2_4, List.forall_mem_cons.mpr ⟨z_ne_3_4, List.forall_mem_cons.mpr ⟨z_ne_6_5, List.forall_mem_cons.mpr ⟨z_ne_7_5, List.forall_mem_cons.mpr ⟨z_ne_8_5, List.forall_mem_cons.mpr ⟨z_ne_9_5, List.forall_mem_cons.mpr ⟨z_ne_10_5, List.forall_mem_cons.mpr ⟨z_ne_11_5, List.forall_mem_cons.mpr ⟨z_ne_0_5, List.forall_mem_cons.mpr ⟨z_ne_1_5, List.forall_mem_cons.mpr ⟨z_ne_2_5, List.forall_mem_cons.mpr ⟨z_ne_3_5, List.forall_mem_cons.mpr ⟨z_ne_4_5, fun _ h => absurd h List.not_mem_nil⟩⟩⟩⟩⟩⟩⟩⟩⟩⟩⟩⟩⟩⟩⟩⟩⟩⟩⟩⟩⟩⟩⟩⟩⟩⟩⟩⟩⟩⟩⟩⟩⟩⟩⟩⟩⟩⟩⟩⟩⟩⟩⟩⟩⟩⟩⟩⟩⟩⟩⟩⟩⟩⟩⟩⟩⟩⟩⟩⟩⟩⟩⟩⟩⟩⟩
theorem z_nep : ∀ i, i < 12 → ∀ j, j < 12 → i ≠ j → z_nl.contains (i, j) = true ∨ z_nl.contains (j, i) = true := by decide +kernel
theorem z_ne : ∀ i, i < 12 → ∀ j, j < 12 → i ≠ j → Cond.not (Cond.eq (z_tm i) (z_tm j)) ∈ z_fl ∨ Cond.not (Cond.eq (z_tm j) (z_tm i)) ∈ z_fl := fun i hi j hj ne => (z_nep i hi j hj ne).imp (fun h => z_nel (i, j) (by simpa using h)) (fun h => z_nel (j, i) (by simpa using h))
theorem z_nc_0_1 : Cond.not (Cond.castable (ct_R 0) (ct_R 1)) ∈ z_fl := List.mem_of_getElem? (i := 166) (by decide +kernel)
theorem z_nc_0_6 : Cond.not (Cond.castable (ct_R 0) (ct_R 6)) ∈ z_fl := List.mem_of_getElem? (i := 130) (by decide +kernel)
theorem z_nc_0_8 : Cond.not (Cond.castable (ct_R 0) (ct_R 8)) ∈ z_fl := List.mem_of_getElem? (i := 154) (by decide +kernel)
theorem z_nc_1_0 : Cond.not (Cond.castable (ct_R 1) (ct_R 0)) ∈ z_fl := List.mem_of_getElem? (i := 143) (by decide +kernel)
theorem z_nc_1_6 : Cond.not (Cond.castable (ct_R 1) (ct_R 6)) ∈ z_fl := List.mem_of_getElem? (i := 132) (by decide +kernel)
theorem z_nc_1_7 : Cond.not (Cond.castable (ct_R 1) (ct_R 7)) ∈ z_fl := List.mem_of_getElem? (i := 120) (by decide +kernel)
theorem z_nc_1_8 : Cond.not (Cond.castable (ct_R 1) (ct_R 8)) ∈ z_fl := List.mem_of_getElem? (i := 155) (by decide +kernel)
theorem z_nc_3_0 : Cond.not (Cond.castable (ct_R 3) (ct_R 0)) ∈ z_fl := List.mem_of_getElem? (i := 144) (by decide +kernel)
theorem z_nc_3_1 : Cond.not (Cond.castable (ct_R 3) (ct_R 1)) ∈ z_fl := List.mem_of_getElem? (i := 168) (by decide +kernel)
theorem z_nc_3_6 : Cond.not (Cond.castable (ct_R 3) (ct_R 6)) ∈ z_fl := List.mem_of_getElem? (i := 133) (by decide +kernel)
theorem z_nc_3_7 : Cond.not (Cond.castable (ct_R 3) (ct_R 7)) ∈ z_fl := List.mem_of_getElem? (i := 121) (by decide +kernel)
theorem z_nc_3_8 : Cond.not (Cond.castable (ct_R 3) (ct_R 8)) ∈ z_fl := List.mem_of_getElem? (i := 156) (by decide +kernel)
theorem z_nc_6_0 : Cond.not (Cond.castable (ct_R 6) (ct_R 0)) ∈ z_fl := List.mem_of_getElem? (i := 142) (by decide +kernel)
theorem z_nc_6_1 : Cond.not (Cond.castable (ct_R 6) (ct_R 1)) ∈ z_fl := List.mem_of_getElem? (i := 165) (by decide +kernel)
theorem z_nc_6_7 : Cond.not (Cond.castable (ct_R 6) (ct_R 7)) ∈ z_fl := List.mem_of_getElem? (i := 119) (by decide +kernel)
theorem z_nc_6_8 : Cond.not (Cond.castable (ct_R 6) (ct_R 8)) ∈ z_fl := List.mem_of_getElem? (i := 153) (by decide +kernel)
theorem z_nc_7_0 : Cond.not (Cond.castable (ct_R 7) (ct_R 0)) ∈ z_fl := List.mem_of_getElem? (i := 141) (by decide +kernel)
theorem z_nc_7_1 : Cond.not (Cond.castable (ct_R 7) (ct_R 1)) ∈ z_fl := List.mem_of_getElem? (i := 164) (by decide +kernel)
theorem z_nc_7_6 : Cond.not (Cond.castable (ct_R 7) (ct_R 6)) ∈ z_fl := List.mem_of_getElem? (i := 129) (by decide +kernel)
theorem z_nc_7_8 : Cond.not (Cond.castable (ct_R 7) (ct_R 8)) ∈ z_fl := List.mem_of_getElem? (i := 152) (by decide +kernel)
theorem z_nc_8_1 : Cond.not (Cond.castable (ct_R 8) (ct_R 1)) ∈ z_fl := List.mem_of_getElem? (i := 167) (by decide +kernel)
theorem z_nc_8_6 : Cond.not (Cond.castable (ct_R 8) (ct_R 6)) ∈ z_fl := List.mem_of_getElem? (i := 131) (by decide +kernel)
theorem z_ca_0_7 : Cond.castable (ct_R 0) (ct_R 7) ∈ lw_tbl := by decide +kernel
theorem z_ca_0_3 : Cond.castable (ct_R 0) (ct_R 3) ∈ lw_tbl := by decide +kernel
theorem z_ca_8_0 : Cond.castable (ct_R 8) (ct_R 0) ∈ lw_tbl := by decide +kernel
theorem z_ca_8_7 : Cond.castable (ct_R 8) (ct_R 7) ∈ lw_tbl := by decide +kernel
theorem z_ca_8_3 : Cond.castable (ct_R 8) (ct_R 3) ∈ lw_tbl := by decide +kernel
theorem z_ca_7_3 : Cond.castable (ct_R 7) (ct_R 3) ∈ lw_tbl := by decide +kernel
theorem z_ca_1_3 : Cond.castable (ct_R 1) (ct_R 3) ∈ lw_tbl := by decide +kernel
theorem z_ca_6_3 : Cond.castable (ct_R 6) (ct_R 3) ∈ lw_tbl := by decide +kernel
def z_ncl : List (Nat × Nat) := [(0, 1), (0, 6), (0, 8), (1, 0), (1, 6), (1, 7), (1, 8), (3, 0), (3, 1), (3, 6), (3, 7), (3, 8), (6, 0), (6, 1), (6, 7), (6, 8), (7, 0), (7, 1), (7, 6), (7, 8), (8, 1), (8, 6)]
def z_cal : List (Nat × Nat) := [(0, 7), (0, 3), (8, 0), (8, 7), (8, 3), (7, 3), (1, 3), (6, 3)]
theorem z_nca : ∀ q ∈ z_ncl, Cond.not (Cond.castable (ct_R q.1) (ct_R q.2)) ∈ z_fl := List.forall_mem_cons.mpr ⟨z_nc_0_1, List.forall_mem_cons.mpr ⟨z_nc_0_6, List.forall_mem_cons.mpr ⟨z_nc_0_8, List.forall_mem_cons.mpr ⟨z_nc_1_0, List.forall_mem_cons.mpr ⟨z_nc_1_6, List.forall_mem_cons.mpr ⟨z_nc_1_7, List.forall_mem_cons.mpr ⟨z_nc_1_8, List.forall_mem_cons.mpr ⟨z_nc_3_0, List.forall_mem_cons.mpr ⟨z_nc_3_1, List.forall_mem_cons.mpr ⟨z_nc_3_6, List.forall_mem_cons.mpr ⟨z_nc_3_7, List.forall_mem_cons.mpr ⟨z_nc_3_8, List.forall_mem_cons.mpr ⟨z_nc_6_0, List.forall_mem_cons.mpr ⟨z_nc_6_1, List.forall_mem_cons.mpr ⟨z_nc_6_7, List.forall_mem_cons.mpr ⟨z_nc_6_8, List.forall_mem_cons.mpr ⟨z_nc_7_0, List.forall_mem_cons.mpr ⟨z_nc_7_1, List.forall_mem_cons.mpr ⟨z_nc_7_6, List.forall_mem_cons.mpr ⟨z_nc_7_8, List.forall_mem_cons.mpr ⟨z_nc_8_1, List.forall_mem_cons.mpr ⟨z_nc_8_6, fun _ h => absurd h List.not_mem_nil⟩⟩⟩⟩⟩⟩⟩⟩⟩⟩⟩⟩⟩⟩⟩⟩⟩⟩⟩⟩⟩⟩
theorem z_caa : ∀ q ∈ z_cal, Cond.castable (ct_R q.1) (ct_R q.2) ∈ lw_tbl := List.forall_mem_cons.mpr ⟨z_ca_0_7, List.forall_mem_cons.mpr ⟨z_ca_0_3, List.forall_mem_cons.mpr ⟨z_ca_8_0, List.forall_mem_cons.mpr ⟨z_ca_8_7, List.forall_mem_cons.mpr ⟨z_ca_8_3, List.forall_mem_cons.mpr ⟨z_ca_7_3, List.forall_mem_cons.mpr ⟨z_ca_1_3, List.forall_mem_cons.mpr ⟨z_ca_6_3, fun _ h => absurd h List.not_mem_nil⟩⟩⟩⟩⟩⟩⟩⟩
theorem z_ncp : ∀ c, c < 9 → ∀ t, t < 9 → (ma_gk c && ma_gk t && !(ma_sub c t)) = true → z_ncl.contains (c, t) = true := by decide +kernel
theorem z_cap : ∀ c, c < 9 → ∀ t, t < 9 → (ma_gk c && ma_gk t && ma_sub c t && !(c == t)) = true → z_cal.contains (c, t) = true := by decide +kernel
theorem z_nc {c t : Nat} (g1 : ma_gk c = true) (g2 : ma_gk t = true) (g3 : ma_sub c t = false) : Cond.not (Cond.castable (ct_R c) (ct_R t)) ∈ z_fl := z_nca (c, t) (by simpa using z_ncp c (z_gk c g1) t (z_gk t g2) (by rw [g1, g2, g3]; rfl))
theorem z_ca {c t : Nat} (g1 : ma_gk c = true) (g2 : ma_gk t = true) (g3 : ma_sub c t = true) (g4 : c ≠ t) : Cond.castable (ct_R c) (ct_R t) ∈ lw_tbl := z_caa (c, t) (by simpa using z_cap c (z_gk c g1) t (z_gk t g2) (by rw [g1, g2, g3, beq_false_of_ne g4]; rfl))
