/-! THE MODEL: small ones -/
def i_in (v a b : Int32) : Int32 := if v < a then 0 else if v ≤ b then 1 else 0
theorem i_in01 (v a b : Int32) : (i_in v a b = 0 ∧ (v < a ∨ ¬ v ≤ b)) ∨ (i_in v a b = 1 ∧ ¬ v < a ∧ v ≤ b) := by
  unfold i_in
  by_cases p : v < a
  · exact Or.inl ⟨if_pos p, Or.inl p⟩
  · rw [if_neg p]
    by_cases q : v ≤ b
    · exact Or.inr ⟨if_pos q, p, q⟩
    · exact Or.inl ⟨if_neg q, Or.inr q⟩
def i_uns (v : Int32) : Int32 := if v < 0 then -v else v
theorem s162 {h : ma_H} {Q : ma_Q} {v a b : Int32} (k : Q (some (.int (i_in v a b))) h) : ma_X 162 [.int v, .int a, .int b] h Q := by
  unfold i_in at k
  refine ma_enter (m := 162) (Or.inl (by decide)) (by show 3 ≤ mt_n 162; decide +kernel) ?_
  show At 162 Q 0 (0, 0) [some (.int v), some (.int a), some (.int b)] [] h
  refine go 60 (by decide) ?_
  simp only [KX, KY, KZ, KW, KV, Nat.reduceAdd, Nat.reduceSub, Nat.reduceLeDiff, true_and, and_true, true_or, or_true, or_self, reduceCtorEq, if_true, if_false, not_false_eq_true, eq_self, c162]
  repeat' split
  all_goals simpa [*] using k
theorem s163 {h : ma_H} {Q : ma_Q} {v : Int32} (k : Q (some (.int (i_uns v))) h) : ma_X 163 [.int v] h Q := by
  unfold i_uns at k
  refine ma_enter (m := 163) (Or.inl (by decide)) (by show 1 ≤ mt_n 163; decide +kernel) ?_
  show At 163 Q 0 (0, 0) [some (.int v)] [] h
  refine go 60 (by decide) ?_
  simp only [KX, KY, KZ, KW, KV, Nat.reduceAdd, Nat.reduceSub, Nat.reduceLeDiff, true_and, and_true, true_or, or_true, or_self, reduceCtorEq, if_true, if_false, not_false_eq_true, eq_self, c163]
  repeat' split
  all_goals simpa [*] using k
theorem s170 {h : ma_H} {Q : ma_Q} {v : Int32} (k : Q (some (.int (i_in v 0 3))) h) : ma_X 170 [.int v] h Q := by
  refine ma_enter (m := 170) (Or.inl (by decide)) (by show 1 ≤ mt_n 170; decide +kernel) ?_
  show At 170 Q 0 (0, 0) [some (.int v)] [] h
  refine go 60 (by decide) ?_
  simp only [KX, KY, KZ, KW, KV, Nat.reduceAdd, Nat.reduceSub, Nat.reduceLeDiff, true_and, and_true, true_or, or_true, or_self, reduceCtorEq, if_true, if_false, not_false_eq_true, eq_self, c170]
  refine s162 ?_
  refine go 60 (by decide) ?_
  simp only [KX, KY, KZ, KW, KV, Nat.reduceAdd, Nat.reduceSub, Nat.reduceLeDiff, true_and, and_true, true_or, or_true, or_self, reduceCtorEq, if_true, if_false, not_false_eq_true, eq_self, c170]
  rcases i_in01 v 0 3 with ⟨e, -⟩ | ⟨e, -⟩
  · rw [e] at k ⊢
    exact ⟨Or.inl rfl, k⟩
  · rw [e] at k ⊢
    exact ⟨Or.inr rfl, k⟩
theorem s171 {h : ma_H} {Q : ma_Q} {v : Int32} (k : Q (some (.int (i_in v 0 1))) h) : ma_X 171 [.int v] h Q := by
  refine ma_enter (m := 171) (Or.inl (by decide)) (by show 1 ≤ mt_n 171; decide +kernel) ?_
  show At 171 Q 0 (0, 0) [some (.int v)] [] h
  refine go 60 (by decide) ?_
  simp only [KX, KY, KZ, KW, KV, Nat.reduceAdd, Nat.reduceSub, Nat.reduceLeDiff, true_and, and_true, true_or, or_true, or_self, reduceCtorEq, if_true, if_false, not_false_eq_true, eq_self, c171]
  refine s162 ?_
  refine go 60 (by decide) ?_
  simp only [KX, KY, KZ, KW, KV, Nat.reduceAdd, Nat.reduceSub, Nat.reduceLeDiff, true_and, and_true, true_or, or_true, or_self, reduceCtorEq, if_true, if_false, not_false_eq_true, eq_self, c171]
  rcases i_in01 v 0 1 with ⟨e, -⟩ | ⟨e, -⟩
  · rw [e] at k ⊢
    exact ⟨Or.inl rfl, k⟩
  · rw [e] at k ⊢
    exact ⟨Or.inr rfl, k⟩
