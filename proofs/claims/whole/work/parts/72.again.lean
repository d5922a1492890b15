/-! again: both -/
theorem s275 {h : ma_H} {Q : ma_Q} (H : Sh h) (z : ¬ fi h 80 55 = 0) (k : ∀ h1, MB h 6 h1 → Q (some (.int (ai h 113 0))) (ma_set h1 80 (.inr (12, [.ref 81, .ref 82, .ref 83, .ref 84, .ref 85, .ref 86, .ref 87, .ref 88, .ref 89, .int (ai h 113 0), .ref 90, .int (ai h 113 1), .int (ai h 113 2), .ref 91, .int (ai h 113 3), .ref 92, .ref 93, .ref 94, .int (fi h 80 18), .int (fi h 80 19), .int (fi h 80 20), .int (fi h 80 21), .long (fj h 80 22), .int (fi h 80 23), .int (fi h 80 24), .ref 95, .ref 96, .ref 97, .int (fi h 80 28), .int (fi h 80 29), .int (fi h 80 30), .ref 98, .ref 99, .ref 100, .ref 101, .long (fj h 80 35), .long (fj h 80 36), .ref 102, .ref 103, .ref 104, .ref 105, .int (fi h 80 41), .int (fi h 80 42), .ref 106, .ref 107, .ref 108, .ref 109, .ref 110, .ref 111, .int (fi h 80 49), .int (fi h 80 50), .int (fi h 80 51), .ref 112, .int (fi h 80 53), .int (fi h 80 54), .int (fi h 80 55), .ref 113, .int (nI (ro 6)), .ref 114])))) : ma_X 275 [.ref 80] h Q := by
  refine ma_enter (m := 275) (Or.inl (by decide)) (by show 1 ≤ mt_n 275; decide +kernel) ?_
  show At 275 Q 0 (mt_c 275) [some (.ref 80)] [] h
  refine go 60 (by decide) ?_
  simp only [KX, KY, KZ, KW, KV, Nat.reduceAdd, Nat.reduceSub, Nat.reduceLeDiff, true_and, and_true, true_or, or_true, or_self, reduceCtorEq, if_true, if_false, not_false_eq_true, eq_self, c275, H.e80]
  rw [if_neg z]
  refine s273b H (fun h1 P => ?_)
  obtain ⟨P1, P2, P3, P4, P5, P6⟩ := id P
  have z0 := P6 0 (by decide)
  have z1 := P6 1 (by decide)
  have z2 := P6 2 (by decide)
  have z3 := P6 3 (by decide)
  refine go 5 (by decide) ?_
  simp only [KX, KY, KZ, KW, KV, Nat.reduceAdd, Nat.reduceSub, Nat.reduceLeDiff, true_and, and_true, true_or, or_true, or_self, reduceCtorEq, if_true, if_false, not_false_eq_true, eq_self, c275, P4, P1.e114, z0, List.set_cons_succ, List.set_cons_zero, ma_set_at, ma_set_set, show Int32.toNatClampNeg 0 = 0 from rfl, show Int32.toNatClampNeg 1 = 1 from rfl, show Int32.toNatClampNeg 2 = 2 from rfl, show Int32.toNatClampNeg 3 = 3 from rfl, ma_get, Nat.reduceEqDiff, ↓reduceIte, Int32.reduceLT, Int32.reduceLE]
  refine ⟨nI_in (c := 0) (by decide) (by decide), by simp only [List.length_cons, List.length_nil]; omega, trivial, ?_⟩
  refine go 5 (by decide) ?_
  simp only [KX, KY, KZ, KW, KV, Nat.reduceAdd, Nat.reduceSub, Nat.reduceLeDiff, true_and, and_true, true_or, or_true, or_self, reduceCtorEq, if_true, if_false, not_false_eq_true, eq_self, c275, P4, P1.e114, z1, List.set_cons_succ, List.set_cons_zero, ma_set_at, ma_set_set, show Int32.toNatClampNeg 0 = 0 from rfl, show Int32.toNatClampNeg 1 = 1 from rfl, show Int32.toNatClampNeg 2 = 2 from rfl, show Int32.toNatClampNeg 3 = 3 from rfl, ma_get, Nat.reduceEqDiff, ↓reduceIte, Int32.reduceLT, Int32.reduceLE]
  refine ⟨nI_in (c := 1) (by decide) (by decide), by simp only [List.length_cons, List.length_nil]; omega, trivial, ?_⟩
  refine go 5 (by decide) ?_
  simp only [KX, KY, KZ, KW, KV, Nat.reduceAdd, Nat.reduceSub, Nat.reduceLeDiff, true_and, and_true, true_or, or_true, or_self, reduceCtorEq, if_true, if_false, not_false_eq_true, eq_self, c275, P4, P1.e114, z2, List.set_cons_succ, List.set_cons_zero, ma_set_at, ma_set_set, show Int32.toNatClampNeg 0 = 0 from rfl, show Int32.toNatClampNeg 1 = 1 from rfl, show Int32.toNatClampNeg 2 = 2 from rfl, show Int32.toNatClampNeg 3 = 3 from rfl, ma_get, Nat.reduceEqDiff, ↓reduceIte, Int32.reduceLT, Int32.reduceLE]
  refine ⟨nI_in (c := 2) (by decide) (by decide), by simp only [List.length_cons, List.length_nil]; omega, trivial, ?_⟩
  refine go 5 (by decide) ?_
  simp only [KX, KY, KZ, KW, KV, Nat.reduceAdd, Nat.reduceSub, Nat.reduceLeDiff, true_and, and_true, true_or, or_true, or_self, reduceCtorEq, if_true, if_false, not_false_eq_true, eq_self, c275, P4, P1.e114, z3, List.set_cons_succ, List.set_cons_zero, ma_set_at, ma_set_set, show Int32.toNatClampNeg 0 = 0 from rfl, show Int32.toNatClampNeg 1 = 1 from rfl, show Int32.toNatClampNeg 2 = 2 from rfl, show Int32.toNatClampNeg 3 = 3 from rfl, ma_get, Nat.reduceEqDiff, ↓reduceIte, Int32.reduceLT, Int32.reduceLE]
  refine ⟨nI_in (c := 3) (by decide) (by decide), by simp only [List.length_cons, List.length_nil]; omega, trivial, ?_⟩
  refine go 60 (by decide) ?_
  simp only [KX, KY, KZ, KW, KV, Nat.reduceAdd, Nat.reduceSub, Nat.reduceLeDiff, true_and, and_true, true_or, or_true, or_self, reduceCtorEq, if_true, if_false, not_false_eq_true, eq_self, c275, List.set_cons_succ, List.set_cons_zero, ma_set_at, ma_set_set, show Int32.toNatClampNeg 0 = 0 from rfl, show Int32.toNatClampNeg 1 = 1 from rfl, show Int32.toNatClampNeg 2 = 2 from rfl, show Int32.toNatClampNeg 3 = 3 from rfl, ma_get, Nat.reduceEqDiff, ↓reduceIte, Int32.reduceLT, Int32.reduceLE]
  exact k h1 P
theorem s275n {h : ma_H} {Q : ma_Q} (H : Sh h) (z : fi h 80 55 = 0) (k : Q (some (.int (-3))) h) : ma_X 275 [.ref 80] h Q := by
  refine ma_enter (m := 275) (Or.inl (by decide)) (by show 1 ≤ mt_n 275; decide +kernel) ?_
  show At 275 Q 0 (mt_c 275) [some (.ref 80)] [] h
  refine go 60 (by decide) ?_
  simp only [KX, KY, KZ, KW, KV, Nat.reduceAdd, Nat.reduceSub, Nat.reduceLeDiff, true_and, and_true, true_or, or_true, or_self, reduceCtorEq, if_true, if_false, not_false_eq_true, eq_self, c275, H.e80]
  rw [if_pos z]
  exact k
theorem s144 {h : ma_H} {Q : ma_Q} (H : Sh h) (R : Rr h) (W : ∀ i, i < 6 → ar h 71 i = none ∨ ∃ r k j a, ar h 71 i = some r ∧ 115 ≤ r ∧ r < h.1 ∧ k < 6 ∧ h.2.1 r = g_obj k j a) (z : ¬ fi h 0 2 = 0) (k : ∀ h3, Bn h h3 → Q (some (.int (fi h3 34 2))) h3) : ma_X 144 [.ref 0] h Q := by
  refine ma_enter (m := 144) (Or.inl (by decide)) (by show 1 ≤ mt_n 144; decide +kernel) ?_
  show At 144 Q 0 (mt_c 144) [some (.ref 0)] [] h
  refine go 60 (by decide) ?_
  simp only [KX, KY, KZ, KW, KV, Nat.reduceAdd, Nat.reduceSub, Nat.reduceLeDiff, true_and, and_true, true_or, or_true, or_self, reduceCtorEq, if_true, if_false, not_false_eq_true, eq_self, c144, H.e0, H.e34]
  rw [if_neg z]
  refine s94n H R W (fun h3 P => ?_)
  refine go 60 (by decide) ?_
  simp only [KX, KY, KZ, KW, KV, Nat.reduceAdd, Nat.reduceSub, Nat.reduceLeDiff, true_and, and_true, true_or, or_true, or_self, reduceCtorEq, if_true, if_false, not_false_eq_true, eq_self, c144, P.1.e0, P.1.e34]
  exact k h3 P
theorem s144n {h : ma_H} {Q : ma_Q} (H : Sh h) (z : fi h 0 2 = 0) (k : Q (some (.int (-3))) h) : ma_X 144 [.ref 0] h Q := by
  refine ma_enter (m := 144) (Or.inl (by decide)) (by show 1 ≤ mt_n 144; decide +kernel) ?_
  show At 144 Q 0 (mt_c 144) [some (.ref 0)] [] h
  refine go 60 (by decide) ?_
  simp only [KX, KY, KZ, KW, KV, Nat.reduceAdd, Nat.reduceSub, Nat.reduceLeDiff, true_and, and_true, true_or, or_true, or_self, reduceCtorEq, if_true, if_false, not_false_eq_true, eq_self, c144, H.e0]
  rw [if_pos z]
  exact k
