/-! FLAKE: what its methods come to-/
theorem s10 {h : ma_H} {Q : ma_Q} {x : Int32} (k : Q (some (.int (x - x / 13 * 13 - 6))) h) : ma_X 10 [.int x] h Q := by
  refine ma_enter (m := 10) (Or.inl (by decide)) (by show 1 ≤ mt_n 10; decide +kernel) ?_
  show At 10 Q 0 (mt_c 10) [some (.int x)] [] h
  refine go 40 (by decide) ?_
  simp only [KX, KY, KZ, KW, Nat.reduceAdd, Nat.reduceSub, Nat.reduceLeDiff, true_and, and_true, true_or, or_true, reduceCtorEq, c10]
  trace_state
  sorry
theorem s13 {h : ma_H} {Q : ma_Q} {x y : Int32} (k : Q (some (.int 0)) h) : ma_X 13 [.int x, .int y] h Q := by
  refine ma_enter (m := 13) (Or.inl (by decide)) (by show 2 ≤ mt_n 13; decide +kernel) ?_
  show At 13 Q 0 (mt_c 13) [some (.int x), some (.int y)] [] h
  refine go 40 (by decide) ?_
  simp only [KX, KY, KZ, KW, Nat.reduceAdd, Nat.reduceSub, Nat.reduceLeDiff, true_and, and_true, true_or, or_true, reduceCtorEq, c13]
  trace_state
  sorry
theorem s19 {h : ma_H} {Q : ma_Q} {a s rc : Nat} {mn x : Int32} {g : Nat → Int32} (h1 : h.2.1 a = .inr (2, [.int mn, .ref s, .ref rc])) (h2 : h.2.1 s = .inl (.int, 169, .inl g)) (k : Q (some (.int 0)) h) : ma_X 19 [.ref a, .int x] h Q := by
  refine ma_enter (m := 19) (Or.inl (by decide)) (by show 2 ≤ mt_n 19; decide +kernel) ?_
  show At 19 Q 0 (mt_c 19) [some (.ref a), some (.int x)] [] h
  refine go 40 (by decide) ?_
  simp only [KX, KY, KZ, KW, Nat.reduceAdd, Nat.reduceSub, Nat.reduceLeDiff, true_and, and_true, true_or, or_true, reduceCtorEq, c19, h1, h2]
  trace_state
  sorry
