/-! a new GROWTH -/
theorem ma_set_new (h : ma_H) (c c2 : ma_C) : ma_set (ma_new h c) h.1 c2 = ma_new h c2 := by
  unfold ma_set ma_new
  refine Prod.ext rfl (Prod.ext (funext fun q => ?_) rfl)
  show (if q = h.1 then c2 else if q = h.1 then c else h.2.1 q) = if q = h.1 then c2 else h.2.1 q
  by_cases e : q = h.1
  · rw [if_pos e, if_pos e]
  · rw [if_neg e, if_neg e, if_neg e]
theorem sh_new {h : ma_H} (H : Sh h) (c : ma_C) : Sh (ma_new h c) := ⟨Nat.le_succ_of_le H.1, fun a ha => by
  have h1 := H.1
  rw [ma_new_ne _ _ (by omega)]
  exact H.2 a ha⟩
theorem s38 {h : ma_H} {Q : ma_Q} {a0 ci : Nat} {v0 v1 v2 v3 : Value} {kk i a : Int32} (u : me_un 3 ci = true) (e : h.2.1 a0 = .inr (ci, [v0, v1, v2, v3])) (k : Q none (ma_set h a0 (.inr (ci, [.int kk, .int i, .int a, .ref 27])))) : ma_X 38 [.ref a0, .int kk, .int i, .int a, .ref 27] h Q := by
  refine ma_enter (m := 38) (Or.inl (by decide)) (by show 5 ≤ mt_n 38; decide +kernel) ?_
  show At 38 Q 0 (mt_c 38) [some (.ref a0), some (.int kk), some (.int i), some (.int a), some (.ref 27)] [] h
  refine go 60 (by decide) ?_
  simp only [KX, KY, KZ, KW, KV, Nat.reduceAdd, Nat.reduceSub, Nat.reduceLeDiff, true_and, and_true, true_or, or_true, or_self, reduceCtorEq, if_true, if_false, not_false_eq_true, eq_self, c38, e, u, ma_set_at]
  simp only [ma_set_set, List.set_cons_succ, List.set_cons_zero, List.length_cons, List.length_nil] at *
  exact ⟨by omega, trivial, by omega, trivial, by omega, trivial, by omega, trivial, k⟩
theorem s84 {h : ma_H} {Q : ma_Q} {a0 ci : Nat} {v0 v1 v2 v3 : Value} {kk i a : Int32} (c13 : ci < 13) (u : me_un 3 ci = true) (e : h.2.1 a0 = .inr (ci, [v0, v1, v2, v3])) (k : Q none (ma_set h a0 (.inr (ci, [.int kk, .int i, .int a, .ref 27])))) : ma_X 84 [.ref a0, .int kk, .int i, .int a, .ref 27] h Q := by
  refine ma_enter (m := 84) (Or.inl (by decide)) (by show 5 ≤ mt_n 84; decide +kernel) ?_
  show At 84 Q 0 (mt_c 84) [some (.ref a0), some (.int kk), some (.int i), some (.int a), some (.ref 27)] [] h
  refine go 60 (by decide) ?_
  simp only [KX, KY, KZ, KW, KV, Nat.reduceAdd, Nat.reduceSub, Nat.reduceLeDiff, true_and, and_true, true_or, or_true, or_self, reduceCtorEq, if_true, if_false, not_false_eq_true, eq_self, c84, e]
  refine s38 u e ?_
  refine go 60 (by decide) ?_
  simp only [KX, KY, KZ, KW, KV, Nat.reduceAdd, Nat.reduceSub, Nat.reduceLeDiff, true_and, and_true, true_or, or_true, or_self, reduceCtorEq, if_true, if_false, not_false_eq_true, eq_self, c84]
  exact k
theorem s80 {h : ma_H} {Q : ma_Q} {a0 ci : Nat} {v0 v1 v2 v3 : Value} {kk i a : Int32} (c13 : ci < 13) (u : me_un 3 ci = true) (e : h.2.1 a0 = .inr (ci, [v0, v1, v2, v3])) (k : Q none (ma_set h a0 (.inr (ci, [.int kk, .int i, .int a, .ref 27])))) : ma_X 80 [.ref a0, .int kk, .int i, .int a, .ref 27] h Q := by
  refine ma_enter (m := 80) (Or.inl (by decide)) (by show 5 ≤ mt_n 80; decide +kernel) ?_
  show At 80 Q 0 (mt_c 80) [some (.ref a0), some (.int kk), some (.int i), some (.int a), some (.ref 27)] [] h
  refine go 60 (by decide) ?_
  simp only [KX, KY, KZ, KW, KV, Nat.reduceAdd, Nat.reduceSub, Nat.reduceLeDiff, true_and, and_true, true_or, or_true, or_self, reduceCtorEq, if_true, if_false, not_false_eq_true, eq_self, c80, e]
  refine s38 u e ?_
  refine go 60 (by decide) ?_
  simp only [KX, KY, KZ, KW, KV, Nat.reduceAdd, Nat.reduceSub, Nat.reduceLeDiff, true_and, and_true, true_or, or_true, or_self, reduceCtorEq, if_true, if_false, not_false_eq_true, eq_self, c80]
  exact k
theorem s4 {h : ma_H} {Q : ma_Q} {a0 ci : Nat} {v0 v1 v2 v3 : Value} {kk i a : Int32} (c13 : ci < 13) (u : me_un 3 ci = true) (e : h.2.1 a0 = .inr (ci, [v0, v1, v2, v3])) (k : Q none (ma_set h a0 (.inr (ci, [.int kk, .int i, .int a, .ref 27])))) : ma_X 4 [.ref a0, .int kk, .int i, .int a, .ref 27] h Q := by
  refine ma_enter (m := 4) (Or.inl (by decide)) (by show 5 ≤ mt_n 4; decide +kernel) ?_
  show At 4 Q 0 (mt_c 4) [some (.ref a0), some (.int kk), some (.int i), some (.int a), some (.ref 27)] [] h
  refine go 60 (by decide) ?_
  simp only [KX, KY, KZ, KW, KV, Nat.reduceAdd, Nat.reduceSub, Nat.reduceLeDiff, true_and, and_true, true_or, or_true, or_self, reduceCtorEq, if_true, if_false, not_false_eq_true, eq_self, c4, e]
  refine s38 u e ?_
  refine go 60 (by decide) ?_
  simp only [KX, KY, KZ, KW, KV, Nat.reduceAdd, Nat.reduceSub, Nat.reduceLeDiff, true_and, and_true, true_or, or_true, or_self, reduceCtorEq, if_true, if_false, not_false_eq_true, eq_self, c4]
  exact k
theorem s0 {h : ma_H} {Q : ma_Q} {a0 ci : Nat} {v0 v1 v2 v3 : Value} {kk i a : Int32} (c13 : ci < 13) (u : me_un 3 ci = true) (e : h.2.1 a0 = .inr (ci, [v0, v1, v2, v3])) (k : Q none (ma_set h a0 (.inr (ci, [.int kk, .int i, .int a, .ref 27])))) : ma_X 0 [.ref a0, .int kk, .int i, .int a, .ref 27] h Q := by
  refine ma_enter (m := 0) (Or.inl (by decide)) (by show 5 ≤ mt_n 0; decide +kernel) ?_
  show At 0 Q 0 (mt_c 0) [some (.ref a0), some (.int kk), some (.int i), some (.int a), some (.ref 27)] [] h
  refine go 60 (by decide) ?_
  simp only [KX, KY, KZ, KW, KV, Nat.reduceAdd, Nat.reduceSub, Nat.reduceLeDiff, true_and, and_true, true_or, or_true, or_self, reduceCtorEq, if_true, if_false, not_false_eq_true, eq_self, c0, e]
  refine s84 c13 u e ?_
  refine go 60 (by decide) ?_
  simp only [KX, KY, KZ, KW, KV, Nat.reduceAdd, Nat.reduceSub, Nat.reduceLeDiff, true_and, and_true, true_or, or_true, or_self, reduceCtorEq, if_true, if_false, not_false_eq_true, eq_self, c0]
  exact k
theorem s87 {h : ma_H} {Q : ma_Q} {a0 ci : Nat} {v0 v1 v2 v3 : Value} {kk i a : Int32} (c13 : ci < 13) (u : me_un 3 ci = true) (e : h.2.1 a0 = .inr (ci, [v0, v1, v2, v3])) (k : Q none (ma_set h a0 (.inr (ci, [.int kk, .int i, .int a, .ref 27])))) : ma_X 87 [.ref a0, .int kk, .int i, .int a, .ref 27] h Q := by
  refine ma_enter (m := 87) (Or.inl (by decide)) (by show 5 ≤ mt_n 87; decide +kernel) ?_
  show At 87 Q 0 (mt_c 87) [some (.ref a0), some (.int kk), some (.int i), some (.int a), some (.ref 27)] [] h
  refine go 60 (by decide) ?_
  simp only [KX, KY, KZ, KW, KV, Nat.reduceAdd, Nat.reduceSub, Nat.reduceLeDiff, true_and, and_true, true_or, or_true, or_self, reduceCtorEq, if_true, if_false, not_false_eq_true, eq_self, c87, e]
  refine s0 c13 u e ?_
  refine go 60 (by decide) ?_
  simp only [KX, KY, KZ, KW, KV, Nat.reduceAdd, Nat.reduceSub, Nat.reduceLeDiff, true_and, and_true, true_or, or_true, or_self, reduceCtorEq, if_true, if_false, not_false_eq_true, eq_self, c87]
  exact k
theorem s39_0 {h : ma_H} {Q : ma_Q} {i a : Int32} (k : Q (some (.ref h.1)) (ma_new h (.inr (3, [.int 0, .int i, .int a, .ref 27])))) : ma_X 39 [.int 0, .int i, .int a, .ref 27] h Q := by
  refine ma_enter (m := 39) (Or.inl (by decide)) (by show 4 ≤ mt_n 39; decide +kernel) ?_
  show At 39 Q 0 (6, 24) [some (.int 0), some (.int i), some (.int a), some (.ref 27)] [] h
  refine go 60 (by decide) ?_
  simp only [KX, KY, KZ, KW, KV, Nat.reduceAdd, Nat.reduceSub, Nat.reduceLeDiff, true_and, and_true, true_or, or_true, or_self, reduceCtorEq, if_true, if_false, not_false_eq_true, eq_self, c39, tb_1_5 (show (0 : Int32) < 1 ∨ ¬ (0 : Int32) ≤ 5 from Or.inl (by decide))]
  refine ⟨by decide, by decide, ?_⟩
  refine s38 (by decide) (ma_new_at _ _) ?_
  rw [ma_set_new]
  refine go 60 (by decide) ?_
  simp only [KX, KY, KZ, KW, KV, Nat.reduceAdd, Nat.reduceSub, Nat.reduceLeDiff, true_and, and_true, true_or, or_true, or_self, reduceCtorEq, if_true, if_false, not_false_eq_true, eq_self, c39]
  exact k
theorem s39_1 {h : ma_H} {Q : ma_Q} {i a : Int32} (k : Q (some (.ref h.1)) (ma_new h (.inr (7, [.int 1, .int i, .int a, .ref 27])))) : ma_X 39 [.int 1, .int i, .int a, .ref 27] h Q := by
  refine ma_enter (m := 39) (Or.inl (by decide)) (by show 4 ≤ mt_n 39; decide +kernel) ?_
  show At 39 Q 0 (6, 24) [some (.int 1), some (.int i), some (.int a), some (.ref 27)] [] h
  refine go 60 (by decide) ?_
  simp only [KX, KY, KZ, KW, KV, Nat.reduceAdd, Nat.reduceSub, Nat.reduceLeDiff, true_and, and_true, true_or, or_true, or_self, reduceCtorEq, if_true, if_false, not_false_eq_true, eq_self, c39, ts_1_5_1, tz_1_5_1, List.getD_cons_zero, List.getD_cons_succ]
  refine ⟨by decide, by decide, ?_⟩
  refine s84 (by decide) (by decide) (ma_new_at _ _) ?_
  rw [ma_set_new]
  refine go 60 (by decide) ?_
  simp only [KX, KY, KZ, KW, KV, Nat.reduceAdd, Nat.reduceSub, Nat.reduceLeDiff, true_and, and_true, true_or, or_true, or_self, reduceCtorEq, if_true, if_false, not_false_eq_true, eq_self, c39]
  exact k
theorem s39_2 {h : ma_H} {Q : ma_Q} {i a : Int32} (k : Q (some (.ref h.1)) (ma_new h (.inr (6, [.int 2, .int i, .int a, .ref 27])))) : ma_X 39 [.int 2, .int i, .int a, .ref 27] h Q := by
  refine ma_enter (m := 39) (Or.inl (by decide)) (by show 4 ≤ mt_n 39; decide +kernel) ?_
  show At 39 Q 0 (6, 24) [some (.int 2), some (.int i), some (.int a), some (.ref 27)] [] h
  refine go 60 (by decide) ?_
  simp only [KX, KY, KZ, KW, KV, Nat.reduceAdd, Nat.reduceSub, Nat.reduceLeDiff, true_and, and_true, true_or, or_true, or_self, reduceCtorEq, if_true, if_false, not_false_eq_true, eq_self, c39, ts_1_5_2, tz_1_5_2, List.getD_cons_zero, List.getD_cons_succ]
  refine ⟨by decide, by decide, ?_⟩
  refine s80 (by decide) (by decide) (ma_new_at _ _) ?_
  rw [ma_set_new]
  refine go 60 (by decide) ?_
  simp only [KX, KY, KZ, KW, KV, Nat.reduceAdd, Nat.reduceSub, Nat.reduceLeDiff, true_and, and_true, true_or, or_true, or_self, reduceCtorEq, if_true, if_false, not_false_eq_true, eq_self, c39]
  exact k
theorem s39_3 {h : ma_H} {Q : ma_Q} {i a : Int32} (k : Q (some (.ref h.1)) (ma_new h (.inr (0, [.int 3, .int i, .int a, .ref 27])))) : ma_X 39 [.int 3, .int i, .int a, .ref 27] h Q := by
  refine ma_enter (m := 39) (Or.inl (by decide)) (by show 4 ≤ mt_n 39; decide +kernel) ?_
  show At 39 Q 0 (6, 24) [some (.int 3), some (.int i), some (.int a), some (.ref 27)] [] h
  refine go 60 (by decide) ?_
  simp only [KX, KY, KZ, KW, KV, Nat.reduceAdd, Nat.reduceSub, Nat.reduceLeDiff, true_and, and_true, true_or, or_true, or_self, reduceCtorEq, if_true, if_false, not_false_eq_true, eq_self, c39, ts_1_5_3, tz_1_5_3, List.getD_cons_zero, List.getD_cons_succ]
  refine ⟨by decide, by decide, ?_⟩
  refine s0 (by decide) (by decide) (ma_new_at _ _) ?_
  rw [ma_set_new]
  refine go 60 (by decide) ?_
  simp only [KX, KY, KZ, KW, KV, Nat.reduceAdd, Nat.reduceSub, Nat.reduceLeDiff, true_and, and_true, true_or, or_true, or_self, reduceCtorEq, if_true, if_false, not_false_eq_true, eq_self, c39]
  exact k
theorem s39_4 {h : ma_H} {Q : ma_Q} {i a : Int32} (k : Q (some (.ref h.1)) (ma_new h (.inr (8, [.int 4, .int i, .int a, .ref 27])))) : ma_X 39 [.int 4, .int i, .int a, .ref 27] h Q := by
  refine ma_enter (m := 39) (Or.inl (by decide)) (by show 4 ≤ mt_n 39; decide +kernel) ?_
  show At 39 Q 0 (6, 24) [some (.int 4), some (.int i), some (.int a), some (.ref 27)] [] h
  refine go 60 (by decide) ?_
  simp only [KX, KY, KZ, KW, KV, Nat.reduceAdd, Nat.reduceSub, Nat.reduceLeDiff, true_and, and_true, true_or, or_true, or_self, reduceCtorEq, if_true, if_false, not_false_eq_true, eq_self, c39, ts_1_5_4, tz_1_5_4, List.getD_cons_zero, List.getD_cons_succ]
  refine ⟨by decide, by decide, ?_⟩
  refine s87 (by decide) (by decide) (ma_new_at _ _) ?_
  rw [ma_set_new]
  refine go 60 (by decide) ?_
  simp only [KX, KY, KZ, KW, KV, Nat.reduceAdd, Nat.reduceSub, Nat.reduceLeDiff, true_and, and_true, true_or, or_true, or_self, reduceCtorEq, if_true, if_false, not_false_eq_true, eq_self, c39]
  exact k
theorem s39_5 {h : ma_H} {Q : ma_Q} {i a : Int32} (k : Q (some (.ref h.1)) (ma_new h (.inr (1, [.int 5, .int i, .int a, .ref 27])))) : ma_X 39 [.int 5, .int i, .int a, .ref 27] h Q := by
  refine ma_enter (m := 39) (Or.inl (by decide)) (by show 4 ≤ mt_n 39; decide +kernel) ?_
  show At 39 Q 0 (6, 24) [some (.int 5), some (.int i), some (.int a), some (.ref 27)] [] h
  refine go 60 (by decide) ?_
  simp only [KX, KY, KZ, KW, KV, Nat.reduceAdd, Nat.reduceSub, Nat.reduceLeDiff, true_and, and_true, true_or, or_true, or_self, reduceCtorEq, if_true, if_false, not_false_eq_true, eq_self, c39, ts_1_5_5, tz_1_5_5, List.getD_cons_zero, List.getD_cons_succ]
  refine ⟨by decide, by decide, ?_⟩
  refine s4 (by decide) (by decide) (ma_new_at _ _) ?_
  rw [ma_set_new]
  refine go 60 (by decide) ?_
  simp only [KX, KY, KZ, KW, KV, Nat.reduceAdd, Nat.reduceSub, Nat.reduceLeDiff, true_and, and_true, true_or, or_true, or_self, reduceCtorEq, if_true, if_false, not_false_eq_true, eq_self, c39]
  exact k
theorem s39 {h : ma_H} {Q : ma_Q} {i a kx : Int32} {kk : Nat} (hk : kk < 6) (q : kx = nI kk) (k : Q (some (.ref h.1)) (ma_new h (.inr (g_cls kk, [.int (nI kk), .int i, .int a, .ref 27])))) : ma_X 39 [.int kx, .int i, .int a, .ref 27] h Q := by
  subst q
  match kk, hk with
  | 0, _ => exact s39_0 k
  | 1, _ => exact s39_1 k
  | 2, _ => exact s39_2 k
  | 3, _ => exact s39_3 k
  | 4, _ => exact s39_4 k
  | 5, _ => exact s39_5 k
