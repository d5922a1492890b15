/-! a WORLD becomes another, on -/
theorem s53k {h : ma_H} {Q : ma_Q} (H : Sh h) (k : Q none (ma_set (ma_set (ma_set (ma_set h 72 (.inr (4, [.int (fi h 49 0), .ref 73, .ref 74, .ref 75, .int (fi h 49 4)]))) 73 (.inl (.int, 8, .inl (va_cpy (ai h 50) (ai h 73) 0 0 8)))) 74 (.inl (.int, 8, .inl (va_cpy (ai h 51) (ai h 74) 0 0 8)))) 75 (.inl (.int, 200, .inl (va_cpy (ai h 52) (ai h 75) 0 0 200))))) : ma_X 53 [.ref 72, .ref 49] h Q := by
  refine ma_enter (m := 53) (Or.inl (by decide)) (by show 2 ≤ mt_n 53; decide +kernel) ?_
  show At 53 Q 0 (mt_c 53) [some (.ref 72), some (.ref 49)] [] h
  refine go 7 (by decide) ?_
  simp only [KX, KY, KZ, KW, KV, Nat.reduceAdd, Nat.reduceSub, Nat.reduceLeDiff, true_and, and_true, true_or, or_true, or_self, reduceCtorEq, if_true, if_false, not_false_eq_true, eq_self, c53, H.e72, H.e73, H.e74, H.e75, H.e49, H.e50, H.e51, H.e52, ma_set_at, ma_set_set, List.set_cons_succ, List.set_cons_zero, ma_get, Nat.reduceEqDiff, ↓reduceIte, Int32.reduceLT, Int32.reduceLE]
  refine ⟨by simp only [List.length_cons, List.length_nil]; omega, trivial, by simp only [List.length_cons, List.length_nil]; omega, trivial, ?_⟩
  refine go 60 (by decide) ?_
  simp only [KX, KY, KZ, KW, KV, Nat.reduceAdd, Nat.reduceSub, Nat.reduceLeDiff, true_and, and_true, true_or, or_true, or_self, reduceCtorEq, if_true, if_false, not_false_eq_true, eq_self, c53, kj3, H.e72, H.e73, H.e74, H.e75, H.e49, H.e50, H.e51, H.e52, ma_set_at, List.set_cons_succ, List.set_cons_zero, ma_get, Nat.reduceEqDiff, ↓reduceIte, Int32.reduceLT, Int32.reduceLE, show Int32.toNatClampNeg 0 = 0 from rfl, show Int32.toNatClampNeg (nI 8) = 8 from rfl, show Int32.toNatClampNeg (nI 200) = 200 from rfl, show Int32.toNatClampNeg 24 = 24 from rfl, show ((nI 8 : Int32) < 0) = False from by decide, show ((nI 200 : Int32) < 0) = False from by decide, Nat.zero_add, Nat.reduceLeDiff, Nat.le_refl]
  exact k
def Bk (h h' : ma_H) : Prop := Sh h' ∧ h'.1 = h.1 ∧ (∀ a, a ≠ 57 → ¬ (59 ≤ a ∧ a ≤ 77) → h'.2.1 a = h.2.1 a) ∧ (∀ f, f < 4 → ai h' (60 + 3 * f) = va_cpy (ai h (37 + 3 * f)) (ai h (60 + 3 * f)) 0 0 169 ∧ fi h' (59 + 3 * f) 0 = fi h (36 + 3 * f) 0) ∧ (∀ j, j < 6 → ar h' 71 j = ar h 48 j) ∧ (fi h' 57 2 = fi h 34 2 ∧ fi h' 57 6 = fi h 34 6 ∧ fi h' 57 7 = fi h 34 7) ∧ (fi h' 72 0 = fi h 49 0 ∧ ai h' 73 = va_cpy (ai h 50) (ai h 73) 0 0 8 ∧ ai h' 74 = va_cpy (ai h 51) (ai h 74) 0 0 8 ∧ ai h' 75 = va_cpy (ai h 52) (ai h 75) 0 0 200) ∧ ai h' 76 = va_cpy (ai h 53) (ai h 76) 0 0 24 ∧ ai h' 77 = va_cpy (ai h 54) (ai h 77) 0 0 24
theorem t94k {h h0 h2 : ma_H} {Q : ma_Q} (F : Fk h 4 h0) (G : Gk h h0 6 h2) (k : ∀ h3, Bk h h3 → Q none h3) : At 94 Q 20 (0, 0) [some (.ref 57), some (.ref 34), some (.int (nI 6))] [] h2 := by
  obtain ⟨H2, G2, G3, G4⟩ := id G
  have H3 : Sh (ma_set h2 57 (.inr (10, [.ref 58, .ref 71, .int (fi h2 34 2), .ref 72, .ref 76, .ref 77, .int (fi h2 57 6), .int (fi h2 57 7), .ref 78, .ref 79]))) := sh_set H2 rfl
  refine go 60 (by decide) ?_
  simp only [KX, KY, KZ, KW, KV, Nat.reduceAdd, Nat.reduceSub, Nat.reduceLeDiff, true_and, and_true, true_or, or_true, or_self, reduceCtorEq, if_true, if_false, not_false_eq_true, eq_self, c94, H2.e57, H2.e34, H2.e76, H2.e77, H2.e53, H2.e54, H2.e71, H2.e72, List.set_cons_succ, List.set_cons_zero, ma_get, Nat.reduceEqDiff, ↓reduceIte, Int32.reduceLT, Int32.reduceLE]
  rw [if_neg (nI_nlt (Nat.le_refl _) (by decide))]
  refine ⟨by simp only [List.length_cons, List.length_nil]; omega, trivial, ?_⟩
  refine s53k H3 ?_
  refine go 60 (by decide) ?_
  simp only [KX, KY, KZ, KW, KV, Nat.reduceAdd, Nat.reduceSub, Nat.reduceLeDiff, true_and, and_true, true_or, or_true, or_self, reduceCtorEq, if_true, if_false, not_false_eq_true, eq_self, c94, kj3, H2.e57, H2.e34, H2.e76, H2.e77, H2.e53, H2.e54, ma_set_at, List.set_cons_succ, List.set_cons_zero, ma_get, Nat.reduceEqDiff, ↓reduceIte, Int32.reduceLT, Int32.reduceLE, show Int32.toNatClampNeg 0 = 0 from rfl, show Int32.toNatClampNeg (nI 8) = 8 from rfl, show Int32.toNatClampNeg (nI 200) = 200 from rfl, show Int32.toNatClampNeg 24 = 24 from rfl, show ((nI 8 : Int32) < 0) = False from by decide, show ((nI 200 : Int32) < 0) = False from by decide, Nat.zero_add, Nat.reduceLeDiff, Nat.le_refl, show Int32.toNatClampNeg 24 = 24 from rfl]
  obtain ⟨F1, F2, F3, F4, F5⟩ := F
  have c2 : ∀ a, ¬ (59 ≤ a ∧ a ≤ 70) → a ≠ 71 → h2.2.1 a = h.2.1 a := fun a a1 a2 => (G3 a a2).trans (F3 a a1)
  have oB : ∀ i, fi h2 34 i = fi h 34 i := fun i => by show fiC _ i = fiC _ i; rw [c2 34 (by decide) (by decide)]
  have oL : ∀ i, fi h2 49 i = fi h 49 i := fun i => by show fiC _ i = fiC _ i; rw [c2 49 (by decide) (by decide)]
  have e73 : ai h2 73 = ai h 73 := by show aiC _ = aiC _; rw [c2 73 (by decide) (by decide)]
  have e74 : ai h2 74 = ai h 74 := by show aiC _ = aiC _; rw [c2 74 (by decide) (by decide)]
  have e75 : ai h2 75 = ai h 75 := by show aiC _ = aiC _; rw [c2 75 (by decide) (by decide)]
  have e50 : ai h2 50 = ai h 50 := by show aiC _ = aiC _; rw [c2 50 (by decide) (by decide)]
  have e51 : ai h2 51 = ai h 51 := by show aiC _ = aiC _; rw [c2 51 (by decide) (by decide)]
  have e52 : ai h2 52 = ai h 52 := by show aiC _ = aiC _; rw [c2 52 (by decide) (by decide)]
  have e76 : ai h2 76 = ai h 76 := by show aiC _ = aiC _; rw [c2 76 (by decide) (by decide)]
  have e77 : ai h2 77 = ai h 77 := by show aiC _ = aiC _; rw [c2 77 (by decide) (by decide)]
  have e53 : ai h2 53 = ai h 53 := by show aiC _ = aiC _; rw [c2 53 (by decide) (by decide)]
  have e54 : ai h2 54 = ai h 54 := by show aiC _ = aiC _; rw [c2 54 (by decide) (by decide)]
  refine ⟨by simp only [List.length_cons, List.length_nil]; omega, trivial, by simp only [List.length_cons, List.length_nil]; omega, trivial, ?_⟩
  refine k _ ⟨(sh_set (sh_set (sh_set (sh_set (sh_set (sh_set (sh_set (sh_set (sh_set H2 rfl) rfl) rfl) rfl) rfl) rfl) rfl) rfl) rfl), G2.trans F2, fun a ha0 ha => ?_, fun f hf => ?_, fun j hj => G4 j hj, ⟨oB 2, oB 6, oB 7⟩, ⟨oL 0, ?_, ?_, ?_⟩, ?_, ?_⟩
  · simp (disch := omega) only [ma_set_ne]
    exact c2 a (by omega) (by omega)
  · simp (disch := omega) only [ai_ne, fi_ne]
    rw [show ai h2 (60 + 3 * f) = ai h0 (60 + 3 * f) from by show aiC _ = aiC _; rw [G3 _ (by omega)], show fi h2 (59 + 3 * f) 0 = fi h0 (59 + 3 * f) 0 from by show fiC _ 0 = fiC _ 0; rw [G3 _ (by omega)]]
    exact F4 f hf
  · show va_cpy (ai h2 50) (ai h2 73) 0 0 8 = _
    rw [e50, e73]
  · show va_cpy (ai h2 51) (ai h2 74) 0 0 8 = _
    rw [e51, e74]
  · show va_cpy (ai h2 52) (ai h2 75) 0 0 200 = _
    rw [e52, e75]
  · show va_cpy (ai h2 53) (ai h2 76) 0 0 24 = _
    rw [e53, e76]
  · show va_cpy (ai h2 54) (ai h2 77) 0 0 24 = _
    rw [e54, e77]
theorem s94k {h : ma_H} {Q : ma_Q} (H : Sh h) (R : Rr h) (W : ∀ i, i < 6 → ar h 48 i = none ∨ ∃ r k j a, ar h 48 i = some r ∧ 115 ≤ r ∧ r < h.1 ∧ k < 6 ∧ h.2.1 r = g_obj k j a) (k : ∀ h3, Bk h h3 → Q none h3) : ma_X 94 [.ref 57, .ref 34] h Q := by
  have lg : ∀ h0, Fk h 4 h0 → ∀ n i h1, i + n = 6 → Gk h h0 i h1 → At 94 Q 20 (0, 0) [some (.ref 57), some (.ref 34), some (.int (nI i))] [] h1 := by
    intro h0 F n
    induction n with
    | zero =>
      intro i h1 e G
      obtain rfl : i = 6 := by omega
      exact t94k F G k
    | succ n ih =>
      intro i h1 e G
      refine l94gk (h := h) (by omega) (by show arC _ = arC _; rw [F.2.2.1 48 (by decide)]) ?_ G (fun h2 G2 => ih (i + 1) h2 (by omega) G2)
      rcases W i (by omega) with w | ⟨r, k0, j, a, w1, w2, w3, w4, w5⟩
      · exact Or.inl w
      · exact Or.inr ⟨r, k0, j, a, w1, w2, w3, w4, (F.2.2.1 r (by omega)).trans w5⟩
  have lf_ : ∀ n i h1, i + n = 4 → Fk h i h1 → At 94 Q 2 (0, 0) [some (.ref 57), some (.ref 34), some (.int (nI i))] [] h1 := by
    intro n
    induction n with
    | zero =>
      intro i h1 e F
      obtain rfl : i = 4 := by omega
      have oA := F.1.e57
      refine go 60 (by decide) ?_
      simp only [KX, KY, KZ, KW, KV, Nat.reduceAdd, Nat.reduceSub, Nat.reduceLeDiff, true_and, and_true, true_or, or_true, or_self, reduceCtorEq, if_true, if_false, not_false_eq_true, eq_self, c94, oA, F.1.e58]
      rw [if_neg (nI_nlt (Nat.le_refl _) (by decide))]
      exact lg h1 F 6 0 h1 rfl ⟨F.1, rfl, fun a _ => rfl, fun j hj => absurd hj (Nat.not_lt_zero j)⟩
    | succ n ih =>
      intro i h1 e F
      exact l94fk H R (by omega) F (fun h2 F2 => ih (i + 1) h2 (by omega) F2)
  refine ma_enter (m := 94) (Or.inl (by decide)) (by show 2 ≤ mt_n 94; decide +kernel) ?_
  show At 94 Q 0 (mt_c 94) [some (.ref 57), some (.ref 34), none] [] h
  refine go 60 (by decide) ?_
  simp only [KX, KY, KZ, KW, KV, Nat.reduceAdd, Nat.reduceSub, Nat.reduceLeDiff, true_and, and_true, true_or, or_true, or_self, reduceCtorEq, if_true, if_false, not_false_eq_true, eq_self, c94]
  exact lf_ 4 0 h rfl ⟨H, rfl, fun a _ => rfl, fun f hf => absurd hf (Nat.not_lt_zero f), fun f _ _ => rfl⟩
theorem s53n {h : ma_H} {Q : ma_Q} (H : Sh h) (k : Q none (ma_set (ma_set (ma_set (ma_set h 49 (.inr (4, [.int (fi h 72 0), .ref 50, .ref 51, .ref 52, .int (fi h 72 4)]))) 50 (.inl (.int, 8, .inl (va_cpy (ai h 73) (ai h 50) 0 0 8)))) 51 (.inl (.int, 8, .inl (va_cpy (ai h 74) (ai h 51) 0 0 8)))) 52 (.inl (.int, 200, .inl (va_cpy (ai h 75) (ai h 52) 0 0 200))))) : ma_X 53 [.ref 49, .ref 72] h Q := by
  refine ma_enter (m := 53) (Or.inl (by decide)) (by show 2 ≤ mt_n 53; decide +kernel) ?_
  show At 53 Q 0 (mt_c 53) [some (.ref 49), some (.ref 72)] [] h
  refine go 7 (by decide) ?_
  simp only [KX, KY, KZ, KW, KV, Nat.reduceAdd, Nat.reduceSub, Nat.reduceLeDiff, true_and, and_true, true_or, or_true, or_self, reduceCtorEq, if_true, if_false, not_false_eq_true, eq_self, c53, H.e49, H.e50, H.e51, H.e52, H.e72, H.e73, H.e74, H.e75, ma_set_at, ma_set_set, List.set_cons_succ, List.set_cons_zero, ma_get, Nat.reduceEqDiff, ↓reduceIte, Int32.reduceLT, Int32.reduceLE]
  refine ⟨by simp only [List.length_cons, List.length_nil]; omega, trivial, by simp only [List.length_cons, List.length_nil]; omega, trivial, ?_⟩
  refine go 60 (by decide) ?_
  simp only [KX, KY, KZ, KW, KV, Nat.reduceAdd, Nat.reduceSub, Nat.reduceLeDiff, true_and, and_true, true_or, or_true, or_self, reduceCtorEq, if_true, if_false, not_false_eq_true, eq_self, c53, kj3, H.e49, H.e50, H.e51, H.e52, H.e72, H.e73, H.e74, H.e75, ma_set_at, List.set_cons_succ, List.set_cons_zero, ma_get, Nat.reduceEqDiff, ↓reduceIte, Int32.reduceLT, Int32.reduceLE, show Int32.toNatClampNeg 0 = 0 from rfl, show Int32.toNatClampNeg (nI 8) = 8 from rfl, show Int32.toNatClampNeg (nI 200) = 200 from rfl, show Int32.toNatClampNeg 24 = 24 from rfl, show ((nI 8 : Int32) < 0) = False from by decide, show ((nI 200 : Int32) < 0) = False from by decide, Nat.zero_add, Nat.reduceLeDiff, Nat.le_refl]
  exact k
def Bn (h h' : ma_H) : Prop := Sh h' ∧ h'.1 = h.1 ∧ (∀ a, a ≠ 34 → ¬ (36 ≤ a ∧ a ≤ 54) → h'.2.1 a = h.2.1 a) ∧ (∀ f, f < 4 → ai h' (37 + 3 * f) = va_cpy (ai h (60 + 3 * f)) (ai h (37 + 3 * f)) 0 0 169 ∧ fi h' (36 + 3 * f) 0 = fi h (59 + 3 * f) 0) ∧ (∀ j, j < 6 → ar h' 48 j = ar h 71 j) ∧ (fi h' 34 2 = fi h 57 2 ∧ fi h' 34 6 = fi h 57 6 ∧ fi h' 34 7 = fi h 57 7) ∧ (fi h' 49 0 = fi h 72 0 ∧ ai h' 50 = va_cpy (ai h 73) (ai h 50) 0 0 8 ∧ ai h' 51 = va_cpy (ai h 74) (ai h 51) 0 0 8 ∧ ai h' 52 = va_cpy (ai h 75) (ai h 52) 0 0 200) ∧ ai h' 53 = va_cpy (ai h 76) (ai h 53) 0 0 24 ∧ ai h' 54 = va_cpy (ai h 77) (ai h 54) 0 0 24
theorem t94n {h h0 h2 : ma_H} {Q : ma_Q} (F : Fn h 4 h0) (G : Gn h h0 6 h2) (k : ∀ h3, Bn h h3 → Q none h3) : At 94 Q 20 (0, 0) [some (.ref 34), some (.ref 57), some (.int (nI 6))] [] h2 := by
  obtain ⟨H2, G2, G3, G4⟩ := id G
  have H3 : Sh (ma_set h2 34 (.inr (10, [.ref 35, .ref 48, .int (fi h2 57 2), .ref 49, .ref 53, .ref 54, .int (fi h2 34 6), .int (fi h2 34 7), .ref 55, .ref 56]))) := sh_set H2 rfl
  refine go 60 (by decide) ?_
  simp only [KX, KY, KZ, KW, KV, Nat.reduceAdd, Nat.reduceSub, Nat.reduceLeDiff, true_and, and_true, true_or, or_true, or_self, reduceCtorEq, if_true, if_false, not_false_eq_true, eq_self, c94, H2.e34, H2.e57, H2.e53, H2.e54, H2.e76, H2.e77, H2.e48, H2.e49, List.set_cons_succ, List.set_cons_zero, ma_get, Nat.reduceEqDiff, ↓reduceIte, Int32.reduceLT, Int32.reduceLE]
  rw [if_neg (nI_nlt (Nat.le_refl _) (by decide))]
  refine ⟨by simp only [List.length_cons, List.length_nil]; omega, trivial, ?_⟩
  refine s53n H3 ?_
  refine go 60 (by decide) ?_
  simp only [KX, KY, KZ, KW, KV, Nat.reduceAdd, Nat.reduceSub, Nat.reduceLeDiff, true_and, and_true, true_or, or_true, or_self, reduceCtorEq, if_true, if_false, not_false_eq_true, eq_self, c94, kj3, H2.e34, H2.e57, H2.e53, H2.e54, H2.e76, H2.e77, ma_set_at, List.set_cons_succ, List.set_cons_zero, ma_get, Nat.reduceEqDiff, ↓reduceIte, Int32.reduceLT, Int32.reduceLE, show Int32.toNatClampNeg 0 = 0 from rfl, show Int32.toNatClampNeg (nI 8) = 8 from rfl, show Int32.toNatClampNeg (nI 200) = 200 from rfl, show Int32.toNatClampNeg 24 = 24 from rfl, show ((nI 8 : Int32) < 0) = False from by decide, show ((nI 200 : Int32) < 0) = False from by decide, Nat.zero_add, Nat.reduceLeDiff, Nat.le_refl, show Int32.toNatClampNeg 24 = 24 from rfl]
  obtain ⟨F1, F2, F3, F4, F5⟩ := F
  have c2 : ∀ a, ¬ (36 ≤ a ∧ a ≤ 47) → a ≠ 48 → h2.2.1 a = h.2.1 a := fun a a1 a2 => (G3 a a2).trans (F3 a a1)
  have oB : ∀ i, fi h2 57 i = fi h 57 i := fun i => by show fiC _ i = fiC _ i; rw [c2 57 (by decide) (by decide)]
  have oL : ∀ i, fi h2 72 i = fi h 72 i := fun i => by show fiC _ i = fiC _ i; rw [c2 72 (by decide) (by decide)]
  have e50 : ai h2 50 = ai h 50 := by show aiC _ = aiC _; rw [c2 50 (by decide) (by decide)]
  have e51 : ai h2 51 = ai h 51 := by show aiC _ = aiC _; rw [c2 51 (by decide) (by decide)]
  have e52 : ai h2 52 = ai h 52 := by show aiC _ = aiC _; rw [c2 52 (by decide) (by decide)]
  have e73 : ai h2 73 = ai h 73 := by show aiC _ = aiC _; rw [c2 73 (by decide) (by decide)]
  have e74 : ai h2 74 = ai h 74 := by show aiC _ = aiC _; rw [c2 74 (by decide) (by decide)]
  have e75 : ai h2 75 = ai h 75 := by show aiC _ = aiC _; rw [c2 75 (by decide) (by decide)]
  have e53 : ai h2 53 = ai h 53 := by show aiC _ = aiC _; rw [c2 53 (by decide) (by decide)]
  have e54 : ai h2 54 = ai h 54 := by show aiC _ = aiC _; rw [c2 54 (by decide) (by decide)]
  have e76 : ai h2 76 = ai h 76 := by show aiC _ = aiC _; rw [c2 76 (by decide) (by decide)]
  have e77 : ai h2 77 = ai h 77 := by show aiC _ = aiC _; rw [c2 77 (by decide) (by decide)]
  refine ⟨by simp only [List.length_cons, List.length_nil]; omega, trivial, by simp only [List.length_cons, List.length_nil]; omega, trivial, ?_⟩
  refine k _ ⟨(sh_set (sh_set (sh_set (sh_set (sh_set (sh_set (sh_set (sh_set (sh_set H2 rfl) rfl) rfl) rfl) rfl) rfl) rfl) rfl) rfl), G2.trans F2, fun a ha0 ha => ?_, fun f hf => ?_, fun j hj => G4 j hj, ⟨oB 2, oB 6, oB 7⟩, ⟨oL 0, ?_, ?_, ?_⟩, ?_, ?_⟩
  · simp (disch := omega) only [ma_set_ne]
    exact c2 a (by omega) (by omega)
  · simp (disch := omega) only [ai_ne, fi_ne]
    rw [show ai h2 (37 + 3 * f) = ai h0 (37 + 3 * f) from by show aiC _ = aiC _; rw [G3 _ (by omega)], show fi h2 (36 + 3 * f) 0 = fi h0 (36 + 3 * f) 0 from by show fiC _ 0 = fiC _ 0; rw [G3 _ (by omega)]]
    exact F4 f hf
  · show va_cpy (ai h2 73) (ai h2 50) 0 0 8 = _
    rw [e73, e50]
  · show va_cpy (ai h2 74) (ai h2 51) 0 0 8 = _
    rw [e74, e51]
  · show va_cpy (ai h2 75) (ai h2 52) 0 0 200 = _
    rw [e75, e52]
  · show va_cpy (ai h2 76) (ai h2 53) 0 0 24 = _
    rw [e76, e53]
  · show va_cpy (ai h2 77) (ai h2 54) 0 0 24 = _
    rw [e77, e54]
theorem s94n {h : ma_H} {Q : ma_Q} (H : Sh h) (R : Rr h) (W : ∀ i, i < 6 → ar h 71 i = none ∨ ∃ r k j a, ar h 71 i = some r ∧ 115 ≤ r ∧ r < h.1 ∧ k < 6 ∧ h.2.1 r = g_obj k j a) (k : ∀ h3, Bn h h3 → Q none h3) : ma_X 94 [.ref 34, .ref 57] h Q := by
  have lg : ∀ h0, Fn h 4 h0 → ∀ n i h1, i + n = 6 → Gn h h0 i h1 → At 94 Q 20 (0, 0) [some (.ref 34), some (.ref 57), some (.int (nI i))] [] h1 := by
    intro h0 F n
    induction n with
    | zero =>
      intro i h1 e G
      obtain rfl : i = 6 := by omega
      exact t94n F G k
    | succ n ih =>
      intro i h1 e G
      refine l94gn (h := h) (by omega) (by show arC _ = arC _; rw [F.2.2.1 71 (by decide)]) ?_ G (fun h2 G2 => ih (i + 1) h2 (by omega) G2)
      rcases W i (by omega) with w | ⟨r, k0, j, a, w1, w2, w3, w4, w5⟩
      · exact Or.inl w
      · exact Or.inr ⟨r, k0, j, a, w1, w2, w3, w4, (F.2.2.1 r (by omega)).trans w5⟩
  have lf_ : ∀ n i h1, i + n = 4 → Fn h i h1 → At 94 Q 2 (0, 0) [some (.ref 34), some (.ref 57), some (.int (nI i))] [] h1 := by
    intro n
    induction n with
    | zero =>
      intro i h1 e F
      obtain rfl : i = 4 := by omega
      have oA := F.1.e34
      refine go 60 (by decide) ?_
      simp only [KX, KY, KZ, KW, KV, Nat.reduceAdd, Nat.reduceSub, Nat.reduceLeDiff, true_and, and_true, true_or, or_true, or_self, reduceCtorEq, if_true, if_false, not_false_eq_true, eq_self, c94, oA, F.1.e35]
      rw [if_neg (nI_nlt (Nat.le_refl _) (by decide))]
      exact lg h1 F 6 0 h1 rfl ⟨F.1, rfl, fun a _ => rfl, fun j hj => absurd hj (Nat.not_lt_zero j)⟩
    | succ n ih =>
      intro i h1 e F
      exact l94fn H R (by omega) F (fun h2 F2 => ih (i + 1) h2 (by omega) F2)
  refine ma_enter (m := 94) (Or.inl (by decide)) (by show 2 ≤ mt_n 94; decide +kernel) ?_
  show At 94 Q 0 (mt_c 94) [some (.ref 34), some (.ref 57), none] [] h
  refine go 60 (by decide) ?_
  simp only [KX, KY, KZ, KW, KV, Nat.reduceAdd, Nat.reduceSub, Nat.reduceLeDiff, true_and, and_true, true_or, or_true, or_self, reduceCtorEq, if_true, if_false, not_false_eq_true, eq_self, c94]
  exact lf_ 4 0 h rfl ⟨H, rfl, fun a _ => rfl, fun f hf => absurd hf (Nat.not_lt_zero f), fun f _ _ => rfl⟩
