/-! BODIES of the Model -/
theorem tb_2_4 {x : Int32} (o : x < 2 ∨ ¬ x ≤ 4) : (x.toInt < Int.ofNat 2 ∨ Int.ofNat 4 < x.toInt) = True := by
  refine eq_true ?_
  rcases o with o | o
  · rw [Int32.lt_iff_toInt_lt] at o
    exact Or.inl o
  · rw [Int32.le_iff_toInt_le] at o
    exact Or.inr (by have e : (4 : Int32).toInt = 4 := rfl; show (4 : Int) < x.toInt; omega)
theorem ts_2_4_2 : (Int32.toInt 2 < Int.ofNat 2 ∨ Int.ofNat 4 < Int32.toInt 2) = False := by decide
theorem tz_2_4_2 : (Int32.toInt 2 - Int.ofNat 2).toNat = 0 := rfl
theorem ts_2_4_3 : (Int32.toInt 3 < Int.ofNat 2 ∨ Int.ofNat 4 < Int32.toInt 3) = False := by decide
theorem tz_2_4_3 : (Int32.toInt 3 - Int.ofNat 2).toNat = 1 := rfl
theorem ts_2_4_4 : (Int32.toInt 4 < Int.ofNat 2 ∨ Int.ofNat 4 < Int32.toInt 4) = False := by decide
theorem tz_2_4_4 : (Int32.toInt 4 - Int.ofNat 2).toNat = 2 := rfl
/-- the Model with this TRACE, on this GROWTH -/
def hm (h : ma_H) (T : TT) (p kx i a : Int32) : ma_H := ma_set (ma_set h 112 (.inl (.int, 30, .inl T.2))) 80 (.inr (12, [.ref 81, .ref 82, .ref 83, .ref 84, .ref 85, .ref 86, .ref 87, .ref 88, .ref 89, .int (fi h 80 9), .ref 90, .int (fi h 80 11), .int (fi h 80 12), .ref 91, .int (fi h 80 14), .ref 92, .ref 93, .ref 94, .int (fi h 80 18), .int (fi h 80 19), .int (fi h 80 20), .int (fi h 80 21), .long (fj h 80 22), .int (fi h 80 23), .int (fi h 80 24), .ref 95, .ref 96, .ref 97, .int (fi h 80 28), .int (fi h 80 29), .int (fi h 80 30), .ref 98, .ref 99, .ref 100, .ref 101, .long (fj h 80 35), .long (fj h 80 36), .ref 102, .ref 103, .ref 104, .ref 105, .int (fi h 80 41), .int (fi h 80 42), .ref 106, .ref 107, .ref 108, .ref 109, .ref 110, .ref 111, .int kx, .int i, .int a, .ref 112, .int (nI T.1), .int p, .int (fi h 80 55), .ref 113, .int (fi h 80 57), .ref 114]))
theorem hm_80 (h : ma_H) (T : TT) (p kx i a : Int32) : (hm h T p kx i a).2.1 80 = .inr (12, [.ref 81, .ref 82, .ref 83, .ref 84, .ref 85, .ref 86, .ref 87, .ref 88, .ref 89, .int (fi h 80 9), .ref 90, .int (fi h 80 11), .int (fi h 80 12), .ref 91, .int (fi h 80 14), .ref 92, .ref 93, .ref 94, .int (fi h 80 18), .int (fi h 80 19), .int (fi h 80 20), .int (fi h 80 21), .long (fj h 80 22), .int (fi h 80 23), .int (fi h 80 24), .ref 95, .ref 96, .ref 97, .int (fi h 80 28), .int (fi h 80 29), .int (fi h 80 30), .ref 98, .ref 99, .ref 100, .ref 101, .long (fj h 80 35), .long (fj h 80 36), .ref 102, .ref 103, .ref 104, .ref 105, .int (fi h 80 41), .int (fi h 80 42), .ref 106, .ref 107, .ref 108, .ref 109, .ref 110, .ref 111, .int kx, .int i, .int a, .ref 112, .int (nI T.1), .int p, .int (fi h 80 55), .ref 113, .int (fi h 80 57), .ref 114]) := ma_set_at _ _ _
theorem hm_112 (h : ma_H) (T : TT) (p kx i a : Int32) : (hm h T p kx i a).2.1 112 = .inl (.int, 30, .inl T.2) := (ma_set_ne _ _ (by decide)).trans (ma_set_at _ _ _)
theorem hm_ne (h : ma_H) (T : TT) (p kx i a : Int32) {q : Nat} (h1 : q ≠ 80) (h2 : q ≠ 112) : (hm h T p kx i a).2.1 q = h.2.1 q := (ma_set_ne _ _ h1).trans (ma_set_ne _ _ h2)
theorem hm_push (h : ma_H) (T : TT) (p kx i a b : Int32) (ht : T.1 < 30) : ma_set (ma_set (hm h T p kx i a) 112 (.inl (.int, 30, .inl (upd T.2 T.1 b)))) 80 (.inr (12, [.ref 81, .ref 82, .ref 83, .ref 84, .ref 85, .ref 86, .ref 87, .ref 88, .ref 89, .int (fi h 80 9), .ref 90, .int (fi h 80 11), .int (fi h 80 12), .ref 91, .int (fi h 80 14), .ref 92, .ref 93, .ref 94, .int (fi h 80 18), .int (fi h 80 19), .int (fi h 80 20), .int (fi h 80 21), .long (fj h 80 22), .int (fi h 80 23), .int (fi h 80 24), .ref 95, .ref 96, .ref 97, .int (fi h 80 28), .int (fi h 80 29), .int (fi h 80 30), .ref 98, .ref 99, .ref 100, .ref 101, .long (fj h 80 35), .long (fj h 80 36), .ref 102, .ref 103, .ref 104, .ref 105, .int (fi h 80 41), .int (fi h 80 42), .ref 106, .ref 107, .ref 108, .ref 109, .ref 110, .ref 111, .int kx, .int i, .int a, .ref 112, .int (nI (T.1 + 1)), .int p, .int (fi h 80 55), .ref 113, .int (fi h 80 57), .ref 114])) = hm h (push b T) p kx i a := by
  unfold hm push
  rw [if_pos ht, ma_set_swap _ (show 80 ≠ 112 by decide), ma_set_set, ma_set_set]
theorem hm_p (h : ma_H) (T : TT) (p p2 kx i a : Int32) : ma_set (hm h T p kx i a) 80 (.inr (12, [.ref 81, .ref 82, .ref 83, .ref 84, .ref 85, .ref 86, .ref 87, .ref 88, .ref 89, .int (fi h 80 9), .ref 90, .int (fi h 80 11), .int (fi h 80 12), .ref 91, .int (fi h 80 14), .ref 92, .ref 93, .ref 94, .int (fi h 80 18), .int (fi h 80 19), .int (fi h 80 20), .int (fi h 80 21), .long (fj h 80 22), .int (fi h 80 23), .int (fi h 80 24), .ref 95, .ref 96, .ref 97, .int (fi h 80 28), .int (fi h 80 29), .int (fi h 80 30), .ref 98, .ref 99, .ref 100, .ref 101, .long (fj h 80 35), .long (fj h 80 36), .ref 102, .ref 103, .ref 104, .ref 105, .int (fi h 80 41), .int (fi h 80 42), .ref 106, .ref 107, .ref 108, .ref 109, .ref 110, .ref 111, .int kx, .int i, .int a, .ref 112, .int (nI T.1), .int p2, .int (fi h 80 55), .ref 113, .int (fi h 80 57), .ref 114])) = hm h T p2 kx i a := by
  unfold hm
  rw [ma_set_set]
theorem hm_80s (h : ma_H) (T : TT) (p kx i a : Int32) (c : ma_C) : (ma_set (hm h T p kx i a) 112 c).2.1 80 = .inr (12, [.ref 81, .ref 82, .ref 83, .ref 84, .ref 85, .ref 86, .ref 87, .ref 88, .ref 89, .int (fi h 80 9), .ref 90, .int (fi h 80 11), .int (fi h 80 12), .ref 91, .int (fi h 80 14), .ref 92, .ref 93, .ref 94, .int (fi h 80 18), .int (fi h 80 19), .int (fi h 80 20), .int (fi h 80 21), .long (fj h 80 22), .int (fi h 80 23), .int (fi h 80 24), .ref 95, .ref 96, .ref 97, .int (fi h 80 28), .int (fi h 80 29), .int (fi h 80 30), .ref 98, .ref 99, .ref 100, .ref 101, .long (fj h 80 35), .long (fj h 80 36), .ref 102, .ref 103, .ref 104, .ref 105, .int (fi h 80 41), .int (fi h 80 42), .ref 106, .ref 107, .ref 108, .ref 109, .ref 110, .ref 111, .int kx, .int i, .int a, .ref 112, .int (nI T.1), .int p, .int (fi h 80 55), .ref 113, .int (fi h 80 57), .ref 114]) := (ma_set_ne _ _ (by decide)).trans (hm_80 h T p kx i a)
theorem s258 {h : ma_H} {Q : ma_Q} {b kx : Int32} {T : TT} (hT : T.1 ≤ 30) {pp i a : Int32} (k : Q none (hm h (push b T) pp kx i a)) : ma_X 258 [.ref 80, .int b] (hm h T pp kx i a) Q := by
  refine ma_enter (m := 258) (Or.inl (by decide)) (by show 2 ≤ mt_n 258; decide +kernel) ?_
  show At 258 Q 0 (0, 0) [some (.ref 80), some (.int b)] [] (hm h T pp kx i a)
  refine go 60 (by decide) ?_
  simp only [KX, KY, KZ, KW, KV, Nat.reduceAdd, Nat.reduceSub, Nat.reduceLeDiff, true_and, and_true, true_or, or_true, or_self, reduceCtorEq, if_true, if_false, not_false_eq_true, eq_self, c258, hm_80, hm_80s, hm_112, ma_set_at, List.set_cons_succ, List.set_cons_zero]
  by_cases c : T.1 < 30
  · rw [if_pos (show nI T.1 < (30 : Int32) from nI_lt c (by decide))]
    rw [nI_clamp (by omega)]
    refine ⟨nI_in c (by decide), ?_⟩
    refine ⟨by simp only [List.length_cons, List.length_nil]; omega, trivial, ?_⟩
    rw [nI_1, hm_push h T pp kx i a b c]
    exact k
  · rw [if_neg (show ¬ nI T.1 < (30 : Int32) from fun w => c ((nI_ltI (show T.1 < 2 ^ 31 by omega) (show 30 < 2 ^ 31 by decide)).mp w))]
    rw [show push b T = T from if_neg c] at k
    exact k
theorem s259 {h : ma_H} {Q : ma_Q} {x kx : Int32} {T : TT} (hT : T.1 ≤ 30) {pp i a : Int32} (k : Q (some (.int (gP i x T).1)) (hm h (gP i x T).2 pp kx i a)) : ma_X 259 [.ref 80, .int x] (hm h T pp kx i a) Q := by
  refine ma_enter (m := 259) (Or.inl (by decide)) (by show 2 ≤ mt_n 259; decide +kernel) ?_
  show At 259 Q 0 (0, 0) [some (.ref 80), some (.int x)] [] (hm h T pp kx i a)
  refine go 60 (by decide) ?_
  simp only [KX, KY, KZ, KW, KV, Nat.reduceAdd, Nat.reduceSub, Nat.reduceLeDiff, true_and, and_true, true_or, or_true, or_self, reduceCtorEq, if_true, if_false, not_false_eq_true, eq_self, c259, hm_80, hm_80s, hm_112, ma_set_at, List.set_cons_succ, List.set_cons_zero]
  refine s258 hT ?_
  refine go 60 (by decide) ?_
  simp only [KX, KY, KZ, KW, KV, Nat.reduceAdd, Nat.reduceSub, Nat.reduceLeDiff, true_and, and_true, true_or, or_true, or_self, reduceCtorEq, if_true, if_false, not_false_eq_true, eq_self, c259, hm_80, hm_80s, hm_112, ma_set_at, List.set_cons_succ, List.set_cons_zero]
  exact k
theorem s260 {h : ma_H} {Q : ma_Q} {x kx : Int32} {T : TT} (hT : T.1 ≤ 30) {pp i a : Int32} (k : Q (some (.int (gA i x T).1)) (hm h (gA i x T).2 pp kx i a)) : ma_X 260 [.ref 80, .int x] (hm h T pp kx i a) Q := by
  refine ma_enter (m := 260) (Or.inl (by decide)) (by show 2 ≤ mt_n 260; decide +kernel) ?_
  show At 260 Q 0 (0, 0) [some (.ref 80), some (.int x)] [] (hm h T pp kx i a)
  refine go 60 (by decide) ?_
  simp only [KX, KY, KZ, KW, KV, Nat.reduceAdd, Nat.reduceSub, Nat.reduceLeDiff, true_and, and_true, true_or, or_true, or_self, reduceCtorEq, if_true, if_false, not_false_eq_true, eq_self, c260, hm_80, hm_80s, hm_112, ma_set_at, List.set_cons_succ, List.set_cons_zero]
  refine s258 hT ?_
  refine go 60 (by decide) ?_
  simp only [KX, KY, KZ, KW, KV, Nat.reduceAdd, Nat.reduceSub, Nat.reduceLeDiff, true_and, and_true, true_or, or_true, or_self, reduceCtorEq, if_true, if_false, not_false_eq_true, eq_self, c260, hm_80, hm_80s, hm_112, ma_set_at, List.set_cons_succ, List.set_cons_zero]
  refine s259 (push_le hT) ?_
  refine go 60 (by decide) ?_
  simp only [KX, KY, KZ, KW, KV, Nat.reduceAdd, Nat.reduceSub, Nat.reduceLeDiff, true_and, and_true, true_or, or_true, or_self, reduceCtorEq, if_true, if_false, not_false_eq_true, eq_self, c260, hm_80, hm_80s, hm_112, ma_set_at, List.set_cons_succ, List.set_cons_zero]
  exact k
theorem s261_0 {h : ma_H} {Q : ma_Q} {x : Int32} {T : TT} (hT : T.1 ≤ 30) {pp i a : Int32} (k : Q (some (.int (gro 0 i x T).1)) (hm h (gro 0 i x T).2 pp 0 i a)) : ma_X 261 [.ref 80, .int x] (hm h T pp 0 i a) Q := by
  refine ma_enter (m := 261) (Or.inl (by decide)) (by show 2 ≤ mt_n 261; decide +kernel) ?_
  show At 261 Q 0 (0, 0) [some (.ref 80), some (.int x)] [] (hm h T pp 0 i a)
  refine go 60 (by decide) ?_
  simp only [KX, KY, KZ, KW, KV, Nat.reduceAdd, Nat.reduceSub, Nat.reduceLeDiff, true_and, and_true, true_or, or_true, or_self, reduceCtorEq, if_true, if_false, not_false_eq_true, eq_self, c261, hm_80, hm_80s, hm_112, ma_set_at, List.set_cons_succ, List.set_cons_zero, tb_2_4 (show (0 : Int32) < 2 ∨ ¬ (0 : Int32) ≤ 4 from by decide)]
  refine s259 hT ?_
  refine go 60 (by decide) ?_
  simp only [KX, KY, KZ, KW, KV, Nat.reduceAdd, Nat.reduceSub, Nat.reduceLeDiff, true_and, and_true, true_or, or_true, or_self, reduceCtorEq, if_true, if_false, not_false_eq_true, eq_self, c261, hm_80, hm_80s, hm_112, ma_set_at, List.set_cons_succ, List.set_cons_zero]
  exact k
theorem s261_1 {h : ma_H} {Q : ma_Q} {x : Int32} {T : TT} (hT : T.1 ≤ 30) {pp i a : Int32} (k : Q (some (.int (gro 1 i x T).1)) (hm h (gro 1 i x T).2 pp 1 i a)) : ma_X 261 [.ref 80, .int x] (hm h T pp 1 i a) Q := by
  refine ma_enter (m := 261) (Or.inl (by decide)) (by show 2 ≤ mt_n 261; decide +kernel) ?_
  show At 261 Q 0 (0, 0) [some (.ref 80), some (.int x)] [] (hm h T pp 1 i a)
  refine go 60 (by decide) ?_
  simp only [KX, KY, KZ, KW, KV, Nat.reduceAdd, Nat.reduceSub, Nat.reduceLeDiff, true_and, and_true, true_or, or_true, or_self, reduceCtorEq, if_true, if_false, not_false_eq_true, eq_self, c261, hm_80, hm_80s, hm_112, ma_set_at, List.set_cons_succ, List.set_cons_zero, tb_2_4 (show (1 : Int32) < 2 ∨ ¬ (1 : Int32) ≤ 4 from by decide)]
  refine s259 hT ?_
  refine go 60 (by decide) ?_
  simp only [KX, KY, KZ, KW, KV, Nat.reduceAdd, Nat.reduceSub, Nat.reduceLeDiff, true_and, and_true, true_or, or_true, or_self, reduceCtorEq, if_true, if_false, not_false_eq_true, eq_self, c261, hm_80, hm_80s, hm_112, ma_set_at, List.set_cons_succ, List.set_cons_zero]
  exact k
theorem s261_2 {h : ma_H} {Q : ma_Q} {x : Int32} {T : TT} (hT : T.1 ≤ 30) {pp i a : Int32} (k : Q (some (.int (gro 2 i x T).1)) (hm h (gro 2 i x T).2 pp 2 i a)) : ma_X 261 [.ref 80, .int x] (hm h T pp 2 i a) Q := by
  refine ma_enter (m := 261) (Or.inl (by decide)) (by show 2 ≤ mt_n 261; decide +kernel) ?_
  show At 261 Q 0 (0, 0) [some (.ref 80), some (.int x)] [] (hm h T pp 2 i a)
  refine go 60 (by decide) ?_
  simp only [KX, KY, KZ, KW, KV, Nat.reduceAdd, Nat.reduceSub, Nat.reduceLeDiff, true_and, and_true, true_or, or_true, or_self, reduceCtorEq, if_true, if_false, not_false_eq_true, eq_self, c261, hm_80, hm_80s, hm_112, ma_set_at, List.set_cons_succ, List.set_cons_zero, ts_2_4_2, tz_2_4_2, List.getD_cons_zero, List.getD_cons_succ]
  refine s258 hT ?_
  refine go 60 (by decide) ?_
  simp only [KX, KY, KZ, KW, KV, Nat.reduceAdd, Nat.reduceSub, Nat.reduceLeDiff, true_and, and_true, true_or, or_true, or_self, reduceCtorEq, if_true, if_false, not_false_eq_true, eq_self, c261, hm_80, hm_80s, hm_112, ma_set_at, List.set_cons_succ, List.set_cons_zero]
  refine s259 (push_le hT) ?_
  refine go 60 (by decide) ?_
  simp only [KX, KY, KZ, KW, KV, Nat.reduceAdd, Nat.reduceSub, Nat.reduceLeDiff, true_and, and_true, true_or, or_true, or_self, reduceCtorEq, if_true, if_false, not_false_eq_true, eq_self, c261, hm_80, hm_80s, hm_112, ma_set_at, List.set_cons_succ, List.set_cons_zero]
  exact k
theorem s261_3 {h : ma_H} {Q : ma_Q} {x : Int32} {T : TT} (hT : T.1 ≤ 30) {pp i a : Int32} (k : Q (some (.int (gro 3 i x T).1)) (hm h (gro 3 i x T).2 pp 3 i a)) : ma_X 261 [.ref 80, .int x] (hm h T pp 3 i a) Q := by
  refine ma_enter (m := 261) (Or.inl (by decide)) (by show 2 ≤ mt_n 261; decide +kernel) ?_
  show At 261 Q 0 (0, 0) [some (.ref 80), some (.int x)] [] (hm h T pp 3 i a)
  refine go 60 (by decide) ?_
  simp only [KX, KY, KZ, KW, KV, Nat.reduceAdd, Nat.reduceSub, Nat.reduceLeDiff, true_and, and_true, true_or, or_true, or_self, reduceCtorEq, if_true, if_false, not_false_eq_true, eq_self, c261, hm_80, hm_80s, hm_112, ma_set_at, List.set_cons_succ, List.set_cons_zero, ts_2_4_3, tz_2_4_3, List.getD_cons_zero, List.getD_cons_succ]
  refine s260 hT ?_
  refine go 60 (by decide) ?_
  simp only [KX, KY, KZ, KW, KV, Nat.reduceAdd, Nat.reduceSub, Nat.reduceLeDiff, true_and, and_true, true_or, or_true, or_self, reduceCtorEq, if_true, if_false, not_false_eq_true, eq_self, c261, hm_80, hm_80s, hm_112, ma_set_at, List.set_cons_succ, List.set_cons_zero]
  exact k
theorem s261_4 {h : ma_H} {Q : ma_Q} {x : Int32} {T : TT} (hT : T.1 ≤ 30) {pp i a : Int32} (k : Q (some (.int (gro 4 i x T).1)) (hm h (gro 4 i x T).2 pp 4 i a)) : ma_X 261 [.ref 80, .int x] (hm h T pp 4 i a) Q := by
  refine ma_enter (m := 261) (Or.inl (by decide)) (by show 2 ≤ mt_n 261; decide +kernel) ?_
  show At 261 Q 0 (0, 0) [some (.ref 80), some (.int x)] [] (hm h T pp 4 i a)
  refine go 60 (by decide) ?_
  simp only [KX, KY, KZ, KW, KV, Nat.reduceAdd, Nat.reduceSub, Nat.reduceLeDiff, true_and, and_true, true_or, or_true, or_self, reduceCtorEq, if_true, if_false, not_false_eq_true, eq_self, c261, hm_80, hm_80s, hm_112, ma_set_at, List.set_cons_succ, List.set_cons_zero, ts_2_4_4, tz_2_4_4, List.getD_cons_zero, List.getD_cons_succ]
  refine s258 hT ?_
  refine go 60 (by decide) ?_
  simp only [KX, KY, KZ, KW, KV, Nat.reduceAdd, Nat.reduceSub, Nat.reduceLeDiff, true_and, and_true, true_or, or_true, or_self, reduceCtorEq, if_true, if_false, not_false_eq_true, eq_self, c261, hm_80, hm_80s, hm_112, ma_set_at, List.set_cons_succ, List.set_cons_zero]
  refine s260 (push_le hT) ?_
  refine go 60 (by decide) ?_
  simp only [KX, KY, KZ, KW, KV, Nat.reduceAdd, Nat.reduceSub, Nat.reduceLeDiff, true_and, and_true, true_or, or_true, or_self, reduceCtorEq, if_true, if_false, not_false_eq_true, eq_self, c261, hm_80, hm_80s, hm_112, ma_set_at, List.set_cons_succ, List.set_cons_zero]
  exact k
theorem s261_5 {h : ma_H} {Q : ma_Q} {x : Int32} {T : TT} (hT : T.1 ≤ 30) {pp i a : Int32} (k : Q (some (.int (gro 5 i x T).1)) (hm h (gro 5 i x T).2 pp 5 i a)) : ma_X 261 [.ref 80, .int x] (hm h T pp 5 i a) Q := by
  refine ma_enter (m := 261) (Or.inl (by decide)) (by show 2 ≤ mt_n 261; decide +kernel) ?_
  show At 261 Q 0 (0, 0) [some (.ref 80), some (.int x)] [] (hm h T pp 5 i a)
  refine go 60 (by decide) ?_
  simp only [KX, KY, KZ, KW, KV, Nat.reduceAdd, Nat.reduceSub, Nat.reduceLeDiff, true_and, and_true, true_or, or_true, or_self, reduceCtorEq, if_true, if_false, not_false_eq_true, eq_self, c261, hm_80, hm_80s, hm_112, ma_set_at, List.set_cons_succ, List.set_cons_zero, tb_2_4 (show (5 : Int32) < 2 ∨ ¬ (5 : Int32) ≤ 4 from by decide)]
  refine s259 hT ?_
  refine go 60 (by decide) ?_
  simp only [KX, KY, KZ, KW, KV, Nat.reduceAdd, Nat.reduceSub, Nat.reduceLeDiff, true_and, and_true, true_or, or_true, or_self, reduceCtorEq, if_true, if_false, not_false_eq_true, eq_self, c261, hm_80, hm_80s, hm_112, ma_set_at, List.set_cons_succ, List.set_cons_zero]
  exact k
theorem s261 {h : ma_H} {Q : ma_Q} {x : Int32} {kk : Nat} (hk : kk < 6) {T : TT} (hT : T.1 ≤ 30) {pp i a : Int32} (k : Q (some (.int (gro kk i x T).1)) (hm h (gro kk i x T).2 pp (nI kk) i a)) : ma_X 261 [.ref 80, .int x] (hm h T pp (nI kk) i a) Q := by
  match kk, hk with
  | 0, _ => exact s261_0 hT k
  | 1, _ => exact s261_1 hT k
  | 2, _ => exact s261_2 hT k
  | 3, _ => exact s261_3 hT k
  | 4, _ => exact s261_4 hT k
  | 5, _ => exact s261_5 hT k
theorem s262 {h : ma_H} {Q : ma_Q} {x : Int32} {kk : Nat} (hk : kk < 6) {T : TT} (hT : T.1 ≤ 30) {pp i a : Int32} (k : Q (some (.int (tP kk i x T).1)) (hm h (tP kk i x T).2 pp (nI kk) i a)) : ma_X 262 [.ref 80, .int x] (hm h T pp (nI kk) i a) Q := by
  refine ma_enter (m := 262) (Or.inl (by decide)) (by show 2 ≤ mt_n 262; decide +kernel) ?_
  show At 262 Q 0 (0, 0) [some (.ref 80), some (.int x)] [] (hm h T pp (nI kk) i a)
  refine go 60 (by decide) ?_
  simp only [KX, KY, KZ, KW, KV, Nat.reduceAdd, Nat.reduceSub, Nat.reduceLeDiff, true_and, and_true, true_or, or_true, or_self, reduceCtorEq, if_true, if_false, not_false_eq_true, eq_self, c262, hm_80, hm_80s, hm_112, ma_set_at, List.set_cons_succ, List.set_cons_zero]
  refine s258 hT ?_
  refine go 60 (by decide) ?_
  simp only [KX, KY, KZ, KW, KV, Nat.reduceAdd, Nat.reduceSub, Nat.reduceLeDiff, true_and, and_true, true_or, or_true, or_self, reduceCtorEq, if_true, if_false, not_false_eq_true, eq_self, c262, hm_80, hm_80s, hm_112, ma_set_at, List.set_cons_succ, List.set_cons_zero]
  refine s261 hk (push_le hT) ?_
  refine go 60 (by decide) ?_
  simp only [KX, KY, KZ, KW, KV, Nat.reduceAdd, Nat.reduceSub, Nat.reduceLeDiff, true_and, and_true, true_or, or_true, or_self, reduceCtorEq, if_true, if_false, not_false_eq_true, eq_self, c262, hm_80, hm_80s, hm_112, ma_set_at, List.set_cons_succ, List.set_cons_zero]
  exact k
theorem s263 {h : ma_H} {Q : ma_Q} {x : Int32} {kk : Nat} (hk : kk < 6) {T : TT} (hT : T.1 ≤ 30) {pp i a : Int32} (k : Q (some (.int (tL kk i a x T).1)) (hm h (tL kk i a x T).2 pp (nI kk) i a)) : ma_X 263 [.ref 80, .int x] (hm h T pp (nI kk) i a) Q := by
  refine ma_enter (m := 263) (Or.inl (by decide)) (by show 2 ≤ mt_n 263; decide +kernel) ?_
  show At 263 Q 0 (0, 0) [some (.ref 80), some (.int x)] [] (hm h T pp (nI kk) i a)
  refine go 60 (by decide) ?_
  simp only [KX, KY, KZ, KW, KV, Nat.reduceAdd, Nat.reduceSub, Nat.reduceLeDiff, true_and, and_true, true_or, or_true, or_self, reduceCtorEq, if_true, if_false, not_false_eq_true, eq_self, c263, hm_80, hm_80s, hm_112, ma_set_at, List.set_cons_succ, List.set_cons_zero]
  refine s258 hT ?_
  refine go 60 (by decide) ?_
  simp only [KX, KY, KZ, KW, KV, Nat.reduceAdd, Nat.reduceSub, Nat.reduceLeDiff, true_and, and_true, true_or, or_true, or_self, reduceCtorEq, if_true, if_false, not_false_eq_true, eq_self, c263, hm_80, hm_80s, hm_112, ma_set_at, List.set_cons_succ, List.set_cons_zero]
  refine s262 hk (push_le hT) ?_
  refine go 60 (by decide) ?_
  simp only [KX, KY, KZ, KW, KV, Nat.reduceAdd, Nat.reduceSub, Nat.reduceLeDiff, true_and, and_true, true_or, or_true, or_self, reduceCtorEq, if_true, if_false, not_false_eq_true, eq_self, c263, hm_80, hm_80s, hm_112, ma_set_at, List.set_cons_succ, List.set_cons_zero]
  exact k
theorem s264_0 {h : ma_H} {Q : ma_Q} {x : Int32} {T : TT} (hT : T.1 ≤ 30) {pp i a : Int32} (k : Q (some (.int (tak 0 i a x T).1)) (hm h (tak 0 i a x T).2 pp 0 i a)) : ma_X 264 [.ref 80, .int x] (hm h T pp 0 i a) Q := by
  refine ma_enter (m := 264) (Or.inl (by decide)) (by show 2 ≤ mt_n 264; decide +kernel) ?_
  show At 264 Q 0 (0, 0) [some (.ref 80), some (.int x), none] [] (hm h T pp 0 i a)
  refine go 60 (by decide) ?_
  simp only [KX, KY, KZ, KW, KV, Nat.reduceAdd, Nat.reduceSub, Nat.reduceLeDiff, true_and, and_true, true_or, or_true, or_self, reduceCtorEq, if_true, if_false, not_false_eq_true, eq_self, c264, hm_80, hm_80s, hm_112, ma_set_at, List.set_cons_succ, List.set_cons_zero, show ((0 : Int32) = 1) = False from by decide, show ((0 : Int32) = 2) = False from by decide, show ((0 : Int32) = 3) = False from by decide, show ((0 : Int32) = 4) = False from by decide, show ((0 : Int32) = 5) = False from by decide, show ((1 : Int32) = 2) = False from by decide, show ((1 : Int32) = 3) = False from by decide, show ((1 : Int32) = 4) = False from by decide, show ((1 : Int32) = 5) = False from by decide, show ((2 : Int32) = 1) = False from by decide, show ((2 : Int32) = 3) = False from by decide, show ((2 : Int32) = 4) = False from by decide, show ((2 : Int32) = 5) = False from by decide, show ((3 : Int32) = 1) = False from by decide, show ((3 : Int32) = 2) = False from by decide, show ((3 : Int32) = 4) = False from by decide, show ((3 : Int32) = 5) = False from by decide, show ((4 : Int32) = 1) = False from by decide, show ((4 : Int32) = 2) = False from by decide, show ((4 : Int32) = 3) = False from by decide, show ((4 : Int32) = 5) = False from by decide, show ((5 : Int32) = 1) = False from by decide, show ((5 : Int32) = 2) = False from by decide, show ((5 : Int32) = 3) = False from by decide, show ((5 : Int32) = 4) = False from by decide, show ((0 : Int32) = 1) = False from by decide, show ((0 : Int32) = 3) = False from by decide, show ((0 : Int32) = 4) = False from by decide]
  refine s262 (kk := 0) (by decide) hT ?_
  refine go 60 (by decide) ?_
  simp only [KX, KY, KZ, KW, KV, Nat.reduceAdd, Nat.reduceSub, Nat.reduceLeDiff, true_and, and_true, true_or, or_true, or_self, reduceCtorEq, if_true, if_false, not_false_eq_true, eq_self, c264, hm_80, hm_80s, hm_112, ma_set_at, List.set_cons_succ, List.set_cons_zero]
  exact k
theorem s264_1 {h : ma_H} {Q : ma_Q} {x : Int32} {T : TT} (hT : T.1 ≤ 30) {pp i a : Int32} (k : Q (some (.int (tak 1 i a x T).1)) (hm h (tak 1 i a x T).2 pp 1 i a)) : ma_X 264 [.ref 80, .int x] (hm h T pp 1 i a) Q := by
  refine ma_enter (m := 264) (Or.inl (by decide)) (by show 2 ≤ mt_n 264; decide +kernel) ?_
  show At 264 Q 0 (0, 0) [some (.ref 80), some (.int x), none] [] (hm h T pp 1 i a)
  refine go 60 (by decide) ?_
  simp only [KX, KY, KZ, KW, KV, Nat.reduceAdd, Nat.reduceSub, Nat.reduceLeDiff, true_and, and_true, true_or, or_true, or_self, reduceCtorEq, if_true, if_false, not_false_eq_true, eq_self, c264, hm_80, hm_80s, hm_112, ma_set_at, List.set_cons_succ, List.set_cons_zero, show ((0 : Int32) = 1) = False from by decide, show ((0 : Int32) = 2) = False from by decide, show ((0 : Int32) = 3) = False from by decide, show ((0 : Int32) = 4) = False from by decide, show ((0 : Int32) = 5) = False from by decide, show ((1 : Int32) = 2) = False from by decide, show ((1 : Int32) = 3) = False from by decide, show ((1 : Int32) = 4) = False from by decide, show ((1 : Int32) = 5) = False from by decide, show ((2 : Int32) = 1) = False from by decide, show ((2 : Int32) = 3) = False from by decide, show ((2 : Int32) = 4) = False from by decide, show ((2 : Int32) = 5) = False from by decide, show ((3 : Int32) = 1) = False from by decide, show ((3 : Int32) = 2) = False from by decide, show ((3 : Int32) = 4) = False from by decide, show ((3 : Int32) = 5) = False from by decide, show ((4 : Int32) = 1) = False from by decide, show ((4 : Int32) = 2) = False from by decide, show ((4 : Int32) = 3) = False from by decide, show ((4 : Int32) = 5) = False from by decide, show ((5 : Int32) = 1) = False from by decide, show ((5 : Int32) = 2) = False from by decide, show ((5 : Int32) = 3) = False from by decide, show ((5 : Int32) = 4) = False from by decide]
  refine s263 (kk := 1) (by decide) hT ?_
  refine go 60 (by decide) ?_
  simp only [KX, KY, KZ, KW, KV, Nat.reduceAdd, Nat.reduceSub, Nat.reduceLeDiff, true_and, and_true, true_or, or_true, or_self, reduceCtorEq, if_true, if_false, not_false_eq_true, eq_self, c264, hm_80, hm_80s, hm_112, ma_set_at, List.set_cons_succ, List.set_cons_zero]
  exact k
theorem s264_2 {h : ma_H} {Q : ma_Q} {x : Int32} {T : TT} (hT : T.1 ≤ 30) {pp i a : Int32} (k : Q (some (.int (tak 2 i a x T).1)) (hm h (tak 2 i a x T).2 pp 2 i a)) : ma_X 264 [.ref 80, .int x] (hm h T pp 2 i a) Q := by
  refine ma_enter (m := 264) (Or.inl (by decide)) (by show 2 ≤ mt_n 264; decide +kernel) ?_
  show At 264 Q 0 (0, 0) [some (.ref 80), some (.int x), none] [] (hm h T pp 2 i a)
  refine go 60 (by decide) ?_
  simp only [KX, KY, KZ, KW, KV, Nat.reduceAdd, Nat.reduceSub, Nat.reduceLeDiff, true_and, and_true, true_or, or_true, or_self, reduceCtorEq, if_true, if_false, not_false_eq_true, eq_self, c264, hm_80, hm_80s, hm_112, ma_set_at, List.set_cons_succ, List.set_cons_zero, show ((0 : Int32) = 1) = False from by decide, show ((0 : Int32) = 2) = False from by decide, show ((0 : Int32) = 3) = False from by decide, show ((0 : Int32) = 4) = False from by decide, show ((0 : Int32) = 5) = False from by decide, show ((1 : Int32) = 2) = False from by decide, show ((1 : Int32) = 3) = False from by decide, show ((1 : Int32) = 4) = False from by decide, show ((1 : Int32) = 5) = False from by decide, show ((2 : Int32) = 1) = False from by decide, show ((2 : Int32) = 3) = False from by decide, show ((2 : Int32) = 4) = False from by decide, show ((2 : Int32) = 5) = False from by decide, show ((3 : Int32) = 1) = False from by decide, show ((3 : Int32) = 2) = False from by decide, show ((3 : Int32) = 4) = False from by decide, show ((3 : Int32) = 5) = False from by decide, show ((4 : Int32) = 1) = False from by decide, show ((4 : Int32) = 2) = False from by decide, show ((4 : Int32) = 3) = False from by decide, show ((4 : Int32) = 5) = False from by decide, show ((5 : Int32) = 1) = False from by decide, show ((5 : Int32) = 2) = False from by decide, show ((5 : Int32) = 3) = False from by decide, show ((5 : Int32) = 4) = False from by decide, show ((0 : Int32) = 1) = False from by decide, show ((0 : Int32) = 3) = False from by decide, show ((0 : Int32) = 4) = False from by decide]
  refine s262 (kk := 2) (by decide) hT ?_
  refine go 60 (by decide) ?_
  simp only [KX, KY, KZ, KW, KV, Nat.reduceAdd, Nat.reduceSub, Nat.reduceLeDiff, true_and, and_true, true_or, or_true, or_self, reduceCtorEq, if_true, if_false, not_false_eq_true, eq_self, c264, hm_80, hm_80s, hm_112, ma_set_at, List.set_cons_succ, List.set_cons_zero]
  exact k
theorem s264_3 {h : ma_H} {Q : ma_Q} {x : Int32} {T : TT} (hT : T.1 ≤ 30) {pp i a : Int32} (k : Q (some (.int (tak 3 i a x T).1)) (hm h (tak 3 i a x T).2 pp 3 i a)) : ma_X 264 [.ref 80, .int x] (hm h T pp 3 i a) Q := by
  refine ma_enter (m := 264) (Or.inl (by decide)) (by show 2 ≤ mt_n 264; decide +kernel) ?_
  show At 264 Q 0 (0, 0) [some (.ref 80), some (.int x), none] [] (hm h T pp 3 i a)
  have d : tak 3 i a x T = ((tL 3 i a x (push 41 T)).1 + (gro 3 i i (tL 3 i a x (push 41 T)).2).1, (gro 3 i i (tL 3 i a x (push 41 T)).2).2) := rfl
  rw [d] at k
  dsimp only at k
  refine go 60 (by decide) ?_
  simp only [KX, KY, KZ, KW, KV, Nat.reduceAdd, Nat.reduceSub, Nat.reduceLeDiff, true_and, and_true, true_or, or_true, or_self, reduceCtorEq, if_true, if_false, not_false_eq_true, eq_self, c264, hm_80, hm_80s, hm_112, ma_set_at, List.set_cons_succ, List.set_cons_zero, show ((0 : Int32) = 1) = False from by decide, show ((0 : Int32) = 2) = False from by decide, show ((0 : Int32) = 3) = False from by decide, show ((0 : Int32) = 4) = False from by decide, show ((0 : Int32) = 5) = False from by decide, show ((1 : Int32) = 2) = False from by decide, show ((1 : Int32) = 3) = False from by decide, show ((1 : Int32) = 4) = False from by decide, show ((1 : Int32) = 5) = False from by decide, show ((2 : Int32) = 1) = False from by decide, show ((2 : Int32) = 3) = False from by decide, show ((2 : Int32) = 4) = False from by decide, show ((2 : Int32) = 5) = False from by decide, show ((3 : Int32) = 1) = False from by decide, show ((3 : Int32) = 2) = False from by decide, show ((3 : Int32) = 4) = False from by decide, show ((3 : Int32) = 5) = False from by decide, show ((4 : Int32) = 1) = False from by decide, show ((4 : Int32) = 2) = False from by decide, show ((4 : Int32) = 3) = False from by decide, show ((4 : Int32) = 5) = False from by decide, show ((5 : Int32) = 1) = False from by decide, show ((5 : Int32) = 2) = False from by decide, show ((5 : Int32) = 3) = False from by decide, show ((5 : Int32) = 4) = False from by decide]
  refine s258 hT ?_
  refine go 60 (by decide) ?_
  simp only [KX, KY, KZ, KW, KV, Nat.reduceAdd, Nat.reduceSub, Nat.reduceLeDiff, true_and, and_true, true_or, or_true, or_self, reduceCtorEq, if_true, if_false, not_false_eq_true, eq_self, c264, hm_80, hm_80s, hm_112, ma_set_at, List.set_cons_succ, List.set_cons_zero]
  refine s263 (kk := 3) (by decide) (push_le hT) ?_
  refine go 60 (by decide) ?_
  simp only [KX, KY, KZ, KW, KV, Nat.reduceAdd, Nat.reduceSub, Nat.reduceLeDiff, true_and, and_true, true_or, or_true, or_self, reduceCtorEq, if_true, if_false, not_false_eq_true, eq_self, c264, hm_80, hm_80s, hm_112, ma_set_at, List.set_cons_succ, List.set_cons_zero]
  refine s261 (kk := 3) (by decide) (tL_le (push_le hT)) ?_
  refine go 60 (by decide) ?_
  simp only [KX, KY, KZ, KW, KV, Nat.reduceAdd, Nat.reduceSub, Nat.reduceLeDiff, true_and, and_true, true_or, or_true, or_self, reduceCtorEq, if_true, if_false, not_false_eq_true, eq_self, c264, hm_80, hm_80s, hm_112, ma_set_at, List.set_cons_succ, List.set_cons_zero]
  exact k
theorem s264_4 {h : ma_H} {Q : ma_Q} {x : Int32} {T : TT} (hT : T.1 ≤ 30) {pp i a : Int32} (k : Q (some (.int (tak 4 i a x T).1)) (hm h (tak 4 i a x T).2 pp 4 i a)) : ma_X 264 [.ref 80, .int x] (hm h T pp 4 i a) Q := by
  refine ma_enter (m := 264) (Or.inl (by decide)) (by show 2 ≤ mt_n 264; decide +kernel) ?_
  show At 264 Q 0 (0, 0) [some (.ref 80), some (.int x), none] [] (hm h T pp 4 i a)
  have d : tak 4 i a x T = ((tL 4 i a x (push 41 T)).1 + (gro 4 i i (tL 4 i a x (push 41 T)).2).1, (gro 4 i i (tL 4 i a x (push 41 T)).2).2) := rfl
  rw [d] at k
  dsimp only at k
  refine go 60 (by decide) ?_
  simp only [KX, KY, KZ, KW, KV, Nat.reduceAdd, Nat.reduceSub, Nat.reduceLeDiff, true_and, and_true, true_or, or_true, or_self, reduceCtorEq, if_true, if_false, not_false_eq_true, eq_self, c264, hm_80, hm_80s, hm_112, ma_set_at, List.set_cons_succ, List.set_cons_zero, show ((0 : Int32) = 1) = False from by decide, show ((0 : Int32) = 2) = False from by decide, show ((0 : Int32) = 3) = False from by decide, show ((0 : Int32) = 4) = False from by decide, show ((0 : Int32) = 5) = False from by decide, show ((1 : Int32) = 2) = False from by decide, show ((1 : Int32) = 3) = False from by decide, show ((1 : Int32) = 4) = False from by decide, show ((1 : Int32) = 5) = False from by decide, show ((2 : Int32) = 1) = False from by decide, show ((2 : Int32) = 3) = False from by decide, show ((2 : Int32) = 4) = False from by decide, show ((2 : Int32) = 5) = False from by decide, show ((3 : Int32) = 1) = False from by decide, show ((3 : Int32) = 2) = False from by decide, show ((3 : Int32) = 4) = False from by decide, show ((3 : Int32) = 5) = False from by decide, show ((4 : Int32) = 1) = False from by decide, show ((4 : Int32) = 2) = False from by decide, show ((4 : Int32) = 3) = False from by decide, show ((4 : Int32) = 5) = False from by decide, show ((5 : Int32) = 1) = False from by decide, show ((5 : Int32) = 2) = False from by decide, show ((5 : Int32) = 3) = False from by decide, show ((5 : Int32) = 4) = False from by decide]
  refine s258 hT ?_
  refine go 60 (by decide) ?_
  simp only [KX, KY, KZ, KW, KV, Nat.reduceAdd, Nat.reduceSub, Nat.reduceLeDiff, true_and, and_true, true_or, or_true, or_self, reduceCtorEq, if_true, if_false, not_false_eq_true, eq_self, c264, hm_80, hm_80s, hm_112, ma_set_at, List.set_cons_succ, List.set_cons_zero]
  refine s263 (kk := 4) (by decide) (push_le hT) ?_
  refine go 60 (by decide) ?_
  simp only [KX, KY, KZ, KW, KV, Nat.reduceAdd, Nat.reduceSub, Nat.reduceLeDiff, true_and, and_true, true_or, or_true, or_self, reduceCtorEq, if_true, if_false, not_false_eq_true, eq_self, c264, hm_80, hm_80s, hm_112, ma_set_at, List.set_cons_succ, List.set_cons_zero]
  refine s261 (kk := 4) (by decide) (tL_le (push_le hT)) ?_
  refine go 60 (by decide) ?_
  simp only [KX, KY, KZ, KW, KV, Nat.reduceAdd, Nat.reduceSub, Nat.reduceLeDiff, true_and, and_true, true_or, or_true, or_self, reduceCtorEq, if_true, if_false, not_false_eq_true, eq_self, c264, hm_80, hm_80s, hm_112, ma_set_at, List.set_cons_succ, List.set_cons_zero]
  exact k
theorem s264_5 {h : ma_H} {Q : ma_Q} {x : Int32} {T : TT} (hT : T.1 ≤ 30) {pp i a : Int32} (k : Q (some (.int (tak 5 i a x T).1)) (hm h (tak 5 i a x T).2 pp 5 i a)) : ma_X 264 [.ref 80, .int x] (hm h T pp 5 i a) Q := by
  refine ma_enter (m := 264) (Or.inl (by decide)) (by show 2 ≤ mt_n 264; decide +kernel) ?_
  show At 264 Q 0 (0, 0) [some (.ref 80), some (.int x), none] [] (hm h T pp 5 i a)
  refine go 60 (by decide) ?_
  simp only [KX, KY, KZ, KW, KV, Nat.reduceAdd, Nat.reduceSub, Nat.reduceLeDiff, true_and, and_true, true_or, or_true, or_self, reduceCtorEq, if_true, if_false, not_false_eq_true, eq_self, c264, hm_80, hm_80s, hm_112, ma_set_at, List.set_cons_succ, List.set_cons_zero, show ((0 : Int32) = 1) = False from by decide, show ((0 : Int32) = 2) = False from by decide, show ((0 : Int32) = 3) = False from by decide, show ((0 : Int32) = 4) = False from by decide, show ((0 : Int32) = 5) = False from by decide, show ((1 : Int32) = 2) = False from by decide, show ((1 : Int32) = 3) = False from by decide, show ((1 : Int32) = 4) = False from by decide, show ((1 : Int32) = 5) = False from by decide, show ((2 : Int32) = 1) = False from by decide, show ((2 : Int32) = 3) = False from by decide, show ((2 : Int32) = 4) = False from by decide, show ((2 : Int32) = 5) = False from by decide, show ((3 : Int32) = 1) = False from by decide, show ((3 : Int32) = 2) = False from by decide, show ((3 : Int32) = 4) = False from by decide, show ((3 : Int32) = 5) = False from by decide, show ((4 : Int32) = 1) = False from by decide, show ((4 : Int32) = 2) = False from by decide, show ((4 : Int32) = 3) = False from by decide, show ((4 : Int32) = 5) = False from by decide, show ((5 : Int32) = 1) = False from by decide, show ((5 : Int32) = 2) = False from by decide, show ((5 : Int32) = 3) = False from by decide, show ((5 : Int32) = 4) = False from by decide, show ((0 : Int32) = 1) = False from by decide, show ((0 : Int32) = 3) = False from by decide, show ((0 : Int32) = 4) = False from by decide]
  refine s262 (kk := 5) (by decide) hT ?_
  refine go 60 (by decide) ?_
  simp only [KX, KY, KZ, KW, KV, Nat.reduceAdd, Nat.reduceSub, Nat.reduceLeDiff, true_and, and_true, true_or, or_true, or_self, reduceCtorEq, if_true, if_false, not_false_eq_true, eq_self, c264, hm_80, hm_80s, hm_112, ma_set_at, List.set_cons_succ, List.set_cons_zero]
  exact k
theorem s264 {h : ma_H} {Q : ma_Q} {x : Int32} {kk : Nat} (hk : kk < 6) {T : TT} (hT : T.1 ≤ 30) {pp i a : Int32} (k : Q (some (.int (tak kk i a x T).1)) (hm h (tak kk i a x T).2 pp (nI kk) i a)) : ma_X 264 [.ref 80, .int x] (hm h T pp (nI kk) i a) Q := by
  match kk, hk with
  | 0, _ => exact s264_0 hT k
  | 1, _ => exact s264_1 hT k
  | 2, _ => exact s264_2 hT k
  | 3, _ => exact s264_3 hT k
  | 4, _ => exact s264_4 hT k
  | 5, _ => exact s264_5 hT k
