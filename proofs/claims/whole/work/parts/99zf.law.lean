/-! law: the draft becomes the law -/
theorem s53l {h : ma_H} {Q : ma_Q} (H : Sh h) (k : Q none (ma_set (ma_set (ma_set (ma_set h 49 (.inr (4, [.int (fi h 7 0), .ref 50, .ref 51, .ref 52, .int (fi h 7 4)]))) 50 (.inl (.int, 8, .inl (va_cpy (ai h 8) (ai h 50) 0 0 8)))) 51 (.inl (.int, 8, .inl (va_cpy (ai h 9) (ai h 51) 0 0 8)))) 52 (.inl (.int, 200, .inl (va_cpy (ai h 10) (ai h 52) 0 0 200))))) : ma_X 53 [.ref 49, .ref 7] h Q := by
  refine ma_enter (m := 53) (Or.inl (by decide)) (by show 2 ≤ mt_n 53; decide +kernel) ?_
  show At 53 Q 0 (mt_c 53) [some (.ref 49), some (.ref 7)] [] h
  refine go 7 (by decide) ?_
  simp only [KX, KY, KZ, KW, KV, Nat.reduceAdd, Nat.reduceSub, Nat.reduceLeDiff, true_and, and_true, true_or, or_true, or_self, reduceCtorEq, if_true, if_false, not_false_eq_true, eq_self, c53, H.e49, H.e50, H.e51, H.e52, H.e7, H.e8, H.e9, H.e10, ma_set_at, ma_set_set, List.set_cons_succ, List.set_cons_zero, ma_get, Nat.reduceEqDiff, ↓reduceIte, Int32.reduceLT, Int32.reduceLE]
  refine ⟨by simp only [List.length_cons, List.length_nil]; omega, trivial, by simp only [List.length_cons, List.length_nil]; omega, trivial, ?_⟩
  refine go 60 (by decide) ?_
  simp only [KX, KY, KZ, KW, KV, Nat.reduceAdd, Nat.reduceSub, Nat.reduceLeDiff, true_and, and_true, true_or, or_true, or_self, reduceCtorEq, if_true, if_false, not_false_eq_true, eq_self, c53, kj3, H.e49, H.e50, H.e51, H.e52, H.e7, H.e8, H.e9, H.e10, ma_set_at, List.set_cons_succ, List.set_cons_zero, ma_get, Nat.reduceEqDiff, ↓reduceIte, Int32.reduceLT, Int32.reduceLE, show Int32.toNatClampNeg 0 = 0 from rfl, show Int32.toNatClampNeg (nI 8) = 8 from rfl, show Int32.toNatClampNeg (nI 200) = 200 from rfl, show ((nI 8 : Int32) < 0) = False from by decide, show ((nI 200 : Int32) < 0) = False from by decide, Nat.zero_add, Nat.reduceLeDiff, Nat.le_refl]
  exact k
