/-! FLAKEARMS: begin -/
theorem s105n {h : ma_H} {Q : ma_Q} {x : Int32} (H : Sh h) (hx : x < 0 ∨ ¬ x < nI 4) (k : Q (some (.int (-1))) h) : ma_X 105 [.ref 0, .int x] h Q := by
  refine ma_enter (m := 105) (Or.inl (by decide)) (by show 2 ≤ mt_n 105; decide +kernel) ?_
  show At 105 Q 0 (mt_c 105) [some (.ref 0), some (.int x), none, none] [] h
  repeat' first
    | assumption
    | (refine go 60 (by decide) ?_; simp only [KX, KY, KZ, KW, KV, Nat.reduceAdd, Nat.reduceSub, Nat.reduceLeDiff, true_and, and_true, true_or, or_true, or_self, reduceCtorEq, if_true, if_false, not_false_eq_true, eq_self, c105, H.e0])
    | refine s145n H hx ?_
    | split
theorem s105 {h : ma_H} {Q : ma_Q} {f : Nat} (H : Sh h) (R : Rr h) (hf : f < 4) (hg : fl_ok (ai h (37 + 3 * f))) (k : Q (some (.int (su (fl_ice (ai h (37 + 3 * f))) 91))) (ma_set (ma_set h (37 + 3 * f) (.inl (.int, 169, .inl (upd (fl_set (ai h (37 + 3 * f)) (-1) 91) 84 0)))) (36 + 3 * f) (.inr (2, [.int 0, .ref (37 + 3 * f), .ref (38 + 3 * f)])))) : ma_X 105 [.ref 0, .int (nI f)] h Q := by
  refine ma_enter (m := 105) (Or.inl (by decide)) (by show 2 ≤ mt_n 105; decide +kernel) ?_
  show At 105 Q 0 (mt_c 105) [some (.ref 0), some (.int (nI f)), none, none] [] h
  repeat' first
    | assumption
    | (refine go 60 (by decide) ?_; simp only [KX, KY, KZ, KW, KV, Nat.reduceAdd, Nat.reduceSub, Nat.reduceLeDiff, true_and, and_true, true_or, or_true, or_self, reduceCtorEq, if_true, if_false, not_false_eq_true, eq_self, c105, H.e0, (H.fn hf).1])
    | refine s145 H R hf ?_
    | refine s22 (H.fn hf).1 (H.fn hf).2.1 ?_
    | refine s15 (H.fn hf).1 (H.fn hf).2.1 (by omega) hg ?_
    | split
