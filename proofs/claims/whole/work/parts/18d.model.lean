/-! THE MODEL: rings -/
theorem s164 {h : ma_H} {Q : ma_Q} {q r : Int32} (k : Q (some (.int (i_mring q r))) h) : ma_X 164 [.int q, .int r] h Q := by
  unfold i_mring at k
  refine ma_enter (m := 164) (Or.inl (by decide)) (by show 2 ≤ mt_n 164; decide +kernel) ?_
  show At 164 Q 0 (0, 0) [some (.int q), some (.int r), none] [] h
  refine go 60 (by decide) ?_
  simp only [KX, KY, KZ, KW, KV, Nat.reduceAdd, Nat.reduceSub, Nat.reduceLeDiff, true_and, and_true, true_or, or_true, or_self, reduceCtorEq, if_true, if_false, not_false_eq_true, eq_self, c164]
  refine s163 ?_
  refine go 60 (by decide) ?_
  simp only [KX, KY, KZ, KW, KV, Nat.reduceAdd, Nat.reduceSub, Nat.reduceLeDiff, true_and, and_true, true_or, or_true, or_self, reduceCtorEq, if_true, if_false, not_false_eq_true, eq_self, c164]
  refine s163 ?_
  refine go 60 (by decide) ?_
  simp only [KX, KY, KZ, KW, KV, Nat.reduceAdd, Nat.reduceSub, Nat.reduceLeDiff, true_and, and_true, true_or, or_true, or_self, reduceCtorEq, if_true, if_false, not_false_eq_true, eq_self, c164]
  by_cases e1 : i_uns q ≤ i_uns r
  · rw [if_pos e1]
    rw [show (if i_uns q ≤ i_uns r then i_uns r else i_uns q) = i_uns r from if_pos e1] at k
    refine s163 ?_
    refine go 60 (by decide) ?_
    simp only [KX, KY, KZ, KW, KV, Nat.reduceAdd, Nat.reduceSub, Nat.reduceLeDiff, true_and, and_true, true_or, or_true, or_self, reduceCtorEq, if_true, if_false, not_false_eq_true, eq_self, c164]
    refine s163 ?_
    refine go 60 (by decide) ?_
    simp only [KX, KY, KZ, KW, KV, Nat.reduceAdd, Nat.reduceSub, Nat.reduceLeDiff, true_and, and_true, true_or, or_true, or_self, reduceCtorEq, if_true, if_false, not_false_eq_true, eq_self, c164]
    by_cases e2 : i_uns r ≤ i_uns (q + r)
    · rw [if_pos e2] at k ⊢
      refine s163 ?_
      refine go 60 (by decide) ?_
      simp only [KX, KY, KZ, KW, KV, Nat.reduceAdd, Nat.reduceSub, Nat.reduceLeDiff, true_and, and_true, true_or, or_true, or_self, reduceCtorEq, if_true, if_false, not_false_eq_true, eq_self, c164]
      exact k
    · rw [if_neg e2] at k ⊢
      exact k
  · rw [if_neg e1]
    rw [show (if i_uns q ≤ i_uns r then i_uns r else i_uns q) = i_uns q from if_neg e1] at k
    refine s163 ?_
    refine go 60 (by decide) ?_
    simp only [KX, KY, KZ, KW, KV, Nat.reduceAdd, Nat.reduceSub, Nat.reduceLeDiff, true_and, and_true, true_or, or_true, or_self, reduceCtorEq, if_true, if_false, not_false_eq_true, eq_self, c164]
    refine go 60 (by decide) ?_
    simp only [KX, KY, KZ, KW, KV, Nat.reduceAdd, Nat.reduceSub, Nat.reduceLeDiff, true_and, and_true, true_or, or_true, or_self, reduceCtorEq, if_true, if_false, not_false_eq_true, eq_self, c164]
    refine s163 ?_
    refine go 60 (by decide) ?_
    simp only [KX, KY, KZ, KW, KV, Nat.reduceAdd, Nat.reduceSub, Nat.reduceLeDiff, true_and, and_true, true_or, or_true, or_self, reduceCtorEq, if_true, if_false, not_false_eq_true, eq_self, c164]
    by_cases e2 : i_uns q ≤ i_uns (q + r)
    · rw [if_pos e2] at k ⊢
      refine s163 ?_
      refine go 60 (by decide) ?_
      simp only [KX, KY, KZ, KW, KV, Nat.reduceAdd, Nat.reduceSub, Nat.reduceLeDiff, true_and, and_true, true_or, or_true, or_self, reduceCtorEq, if_true, if_false, not_false_eq_true, eq_self, c164]
      exact k
    · rw [if_neg e2] at k ⊢
      exact k
