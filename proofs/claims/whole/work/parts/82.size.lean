/-! size -/
theorem s108_0 {h : ma_H} {Q : ma_Q} {x : Int32} {f : Nat} (H : Sh h) (R : Rr h) (l : f < 4) (q : x = nI f) (k : Q (some (.int (su (fl_ice (ai h (37 + 3 * f))) 91))) h) : ma_X 108 [.ref 0, .int x, .int 0] h Q := by
  refine ma_enter (m := 108) (Or.inl (by decide)) (by show 3 ≤ mt_n 108; decide +kernel) ?_
  show At 108 Q 0 (mt_c 108) [some (.ref 0), some (.int x), some (.int 0), none] [] h
  refine go 60 (by decide) ?_
  simp only [KX, KY, KZ, KW, KV, Nat.reduceAdd, Nat.reduceSub, Nat.reduceLeDiff, true_and, and_true, true_or, or_true, or_self, reduceCtorEq, if_true, if_false, not_false_eq_true, eq_self, c108, H.e0, ts_0_4_0, tz_0_4_0, List.getD_cons_zero, List.getD_cons_succ]
  refine s145e H R l q ?_
  refine go 60 (by decide) ?_
  simp only [KX, KY, KZ, KW, KV, Nat.reduceAdd, Nat.reduceSub, Nat.reduceLeDiff, true_and, and_true, true_or, or_true, or_self, reduceCtorEq, if_true, if_false, not_false_eq_true, eq_self, c108, H.e0, (H.fn l).1, ts_0_4_0, tz_0_4_0, List.getD_cons_zero, List.getD_cons_succ]
  refine s22 (H.fn l).1 (H.fn l).2.1 ?_
  refine go 60 (by decide) ?_
  simp only [KX, KY, KZ, KW, KV, Nat.reduceAdd, Nat.reduceSub, Nat.reduceLeDiff, true_and, and_true, true_or, or_true, or_self, reduceCtorEq, if_true, if_false, not_false_eq_true, eq_self, c108]
  exact k
theorem s108_1 {h : ma_H} {Q : ma_Q} {x : Int32} {f : Nat} (H : Sh h) (R : Rr h) (l : f < 4) (q : x = nI f) (k : Q (some (.int (fl_span (ai h (37 + 3 * f)) 91))) h) : ma_X 108 [.ref 0, .int x, .int 1] h Q := by
  refine ma_enter (m := 108) (Or.inl (by decide)) (by show 3 ≤ mt_n 108; decide +kernel) ?_
  show At 108 Q 0 (mt_c 108) [some (.ref 0), some (.int x), some (.int 1), none] [] h
  refine go 60 (by decide) ?_
  simp only [KX, KY, KZ, KW, KV, Nat.reduceAdd, Nat.reduceSub, Nat.reduceLeDiff, true_and, and_true, true_or, or_true, or_self, reduceCtorEq, if_true, if_false, not_false_eq_true, eq_self, c108, H.e0, ts_0_4_1, tz_0_4_1, List.getD_cons_zero, List.getD_cons_succ]
  refine s145e H R l q ?_
  refine go 60 (by decide) ?_
  simp only [KX, KY, KZ, KW, KV, Nat.reduceAdd, Nat.reduceSub, Nat.reduceLeDiff, true_and, and_true, true_or, or_true, or_self, reduceCtorEq, if_true, if_false, not_false_eq_true, eq_self, c108, H.e0, (H.fn l).1, ts_0_4_1, tz_0_4_1, List.getD_cons_zero, List.getD_cons_succ]
  refine s25 (H.fn l).1 (H.fn l).2.1 ?_
  refine go 60 (by decide) ?_
  simp only [KX, KY, KZ, KW, KV, Nat.reduceAdd, Nat.reduceSub, Nat.reduceLeDiff, true_and, and_true, true_or, or_true, or_self, reduceCtorEq, if_true, if_false, not_false_eq_true, eq_self, c108]
  exact k
theorem s108_2 {h : ma_H} {Q : ma_Q} {x : Int32} {f : Nat} (H : Sh h) (R : Rr h) (l : f < 4) (q : x = nI f) (k : Q (some (.int (fl_edge (ai h (37 + 3 * f)) 91))) h) : ma_X 108 [.ref 0, .int x, .int 2] h Q := by
  refine ma_enter (m := 108) (Or.inl (by decide)) (by show 3 ≤ mt_n 108; decide +kernel) ?_
  show At 108 Q 0 (mt_c 108) [some (.ref 0), some (.int x), some (.int 2), none] [] h
  refine go 60 (by decide) ?_
  simp only [KX, KY, KZ, KW, KV, Nat.reduceAdd, Nat.reduceSub, Nat.reduceLeDiff, true_and, and_true, true_or, or_true, or_self, reduceCtorEq, if_true, if_false, not_false_eq_true, eq_self, c108, H.e0, ts_0_4_2, tz_0_4_2, List.getD_cons_zero, List.getD_cons_succ]
  refine s145e H R l q ?_
  refine go 60 (by decide) ?_
  simp only [KX, KY, KZ, KW, KV, Nat.reduceAdd, Nat.reduceSub, Nat.reduceLeDiff, true_and, and_true, true_or, or_true, or_self, reduceCtorEq, if_true, if_false, not_false_eq_true, eq_self, c108, H.e0, (H.fn l).1, ts_0_4_2, tz_0_4_2, List.getD_cons_zero, List.getD_cons_succ]
  refine s26 (H.fn l).1 (H.fn l).2.1 ?_
  refine go 60 (by decide) ?_
  simp only [KX, KY, KZ, KW, KV, Nat.reduceAdd, Nat.reduceSub, Nat.reduceLeDiff, true_and, and_true, true_or, or_true, or_self, reduceCtorEq, if_true, if_false, not_false_eq_true, eq_self, c108]
  exact k
theorem s108_3 {h : ma_H} {Q : ma_Q} {x : Int32} {f : Nat} (H : Sh h) (R : Rr h) (l : f < 4) (q : x = nI f) (hb : ∀ i, i < 91 → ai h (37 + 3 * f) (ma_cell i) = -1 ∨ ¬ ai h (37 + 3 * f) (ma_cell i) < 0) (k : ∀ r, rc01 r → rsub (fun i => ai h (37 + 3 * f) (ma_cell i)) r → rcl (fun i => ai h (37 + 3 * f) (ma_cell i)) r 91 → Q (some (.int (su (bc (fun i => ai h (37 + 3 * f) (ma_cell i)) r) 91))) (ma_set h (38 + 3 * f) (.inl (.byte, 169, .inl r)))) : ma_X 108 [.ref 0, .int x, .int 3] h Q := by
  refine ma_enter (m := 108) (Or.inl (by decide)) (by show 3 ≤ mt_n 108; decide +kernel) ?_
  show At 108 Q 0 (mt_c 108) [some (.ref 0), some (.int x), some (.int 3), none] [] h
  refine go 60 (by decide) ?_
  simp only [KX, KY, KZ, KW, KV, Nat.reduceAdd, Nat.reduceSub, Nat.reduceLeDiff, true_and, and_true, true_or, or_true, or_self, reduceCtorEq, if_true, if_false, not_false_eq_true, eq_self, c108, H.e0, ts_0_4_3, tz_0_4_3, List.getD_cons_zero, List.getD_cons_succ]
  refine s145e H R l q ?_
  refine go 60 (by decide) ?_
  simp only [KX, KY, KZ, KW, KV, Nat.reduceAdd, Nat.reduceSub, Nat.reduceLeDiff, true_and, and_true, true_or, or_true, or_self, reduceCtorEq, if_true, if_false, not_false_eq_true, eq_self, c108, H.e0, (H.fn l).1, ts_0_4_3, tz_0_4_3, List.getD_cons_zero, List.getD_cons_succ]
  refine s28 (H.fn l).1 (H.fn l).2.1 (H.fn l).2.2 (by omega) (by omega) hb (fun r w1 w2 w3 => ?_)
  refine go 60 (by decide) ?_
  simp only [KX, KY, KZ, KW, KV, Nat.reduceAdd, Nat.reduceSub, Nat.reduceLeDiff, true_and, and_true, true_or, or_true, or_self, reduceCtorEq, if_true, if_false, not_false_eq_true, eq_self, c108]
  exact k r w1 w2 w3
theorem s108_4 {h : ma_H} {Q : ma_Q} {x : Int32} {f : Nat} (H : Sh h) (R : Rr h) (l : f < 4) (q : x = nI f) (k : Q (some (.int (fi h (36 + 3 * f) 0))) h) : ma_X 108 [.ref 0, .int x, .int 4] h Q := by
  refine ma_enter (m := 108) (Or.inl (by decide)) (by show 3 ≤ mt_n 108; decide +kernel) ?_
  show At 108 Q 0 (mt_c 108) [some (.ref 0), some (.int x), some (.int 4), none] [] h
  refine go 60 (by decide) ?_
  simp only [KX, KY, KZ, KW, KV, Nat.reduceAdd, Nat.reduceSub, Nat.reduceLeDiff, true_and, and_true, true_or, or_true, or_self, reduceCtorEq, if_true, if_false, not_false_eq_true, eq_self, c108, H.e0, ts_0_4_4, tz_0_4_4, List.getD_cons_zero, List.getD_cons_succ]
  refine s145e H R l q ?_
  refine go 60 (by decide) ?_
  simp only [KX, KY, KZ, KW, KV, Nat.reduceAdd, Nat.reduceSub, Nat.reduceLeDiff, true_and, and_true, true_or, or_true, or_self, reduceCtorEq, if_true, if_false, not_false_eq_true, eq_self, c108, H.e0, (H.fn l).1, ts_0_4_4, tz_0_4_4, List.getD_cons_zero, List.getD_cons_succ]
  exact k
theorem s108n {h : ma_H} {Q : ma_Q} {x y : Int32} (H : Sh h) (o : x < 0 ∨ ¬ x < 4) (k : Q (some (.int (-1))) h) : ma_X 108 [.ref 0, .int x, .int y] h Q := by
  refine ma_enter (m := 108) (Or.inl (by decide)) (by show 3 ≤ mt_n 108; decide +kernel) ?_
  show At 108 Q 0 (mt_c 108) [some (.ref 0), some (.int x), some (.int y), none] [] h
  refine go 60 (by decide) ?_
  simp only [KX, KY, KZ, KW, KV, Nat.reduceAdd, Nat.reduceSub, Nat.reduceLeDiff, true_and, and_true, true_or, or_true, or_self, reduceCtorEq, if_true, if_false, not_false_eq_true, eq_self, c108, H.e0]
  refine s145n H o ?_
  refine go 60 (by decide) ?_
  simp only [KX, KY, KZ, KW, KV, Nat.reduceAdd, Nat.reduceSub, Nat.reduceLeDiff, true_and, and_true, true_or, or_true, or_self, reduceCtorEq, if_true, if_false, not_false_eq_true, eq_self, c108, H.e0]
  exact k
theorem s108m {h : ma_H} {Q : ma_Q} {x y : Int32} {f : Nat} (H : Sh h) (R : Rr h) (l : f < 4) (q : x = nI f) (o : y < 0 ∨ ¬ y ≤ 4) (k : Q (some (.int (-1))) h) : ma_X 108 [.ref 0, .int x, .int y] h Q := by
  refine ma_enter (m := 108) (Or.inl (by decide)) (by show 3 ≤ mt_n 108; decide +kernel) ?_
  show At 108 Q 0 (mt_c 108) [some (.ref 0), some (.int x), some (.int y), none] [] h
  refine go 60 (by decide) ?_
  simp only [KX, KY, KZ, KW, KV, Nat.reduceAdd, Nat.reduceSub, Nat.reduceLeDiff, true_and, and_true, true_or, or_true, or_self, reduceCtorEq, if_true, if_false, not_false_eq_true, eq_self, c108, H.e0, tb_0_4 o]
  refine s145e H R l q ?_
  refine go 60 (by decide) ?_
  simp only [KX, KY, KZ, KW, KV, Nat.reduceAdd, Nat.reduceSub, Nat.reduceLeDiff, true_and, and_true, true_or, or_true, or_self, reduceCtorEq, if_true, if_false, not_false_eq_true, eq_self, c108, H.e0, (H.fn l).1, tb_0_4 o]
  exact k
theorem s198_0 {h : ma_H} {Q : ma_Q} {x : Int32} {f : Nat} (H : Sh h) (l : f < 4) (q : x = nI f) (k : Q (some (.int (su (ml_ice (ai h 88) (91 * f)) 91))) h) : ma_X 198 [.ref 80, .int x, .int 0] h Q := by
  have tx : x.toNatClampNeg = f := by subst q; exact nI_clamp (by omega)
  have vx : vp_in x 4 := by subst q; exact nI_in l (by decide)
  have x1 : ¬ x < 0 := by subst q; exact nI_pos (by omega)
  have x3 : x ≤ 3 := by subst q; exact nI_le (a := f) (b := 3) (by omega) (by decide)
  have e91 := ix91n q
  refine ma_enter (m := 198) (Or.inl (by decide)) (by show 3 ≤ mt_n 198; decide +kernel) ?_
  show At 198 Q 0 (mt_c 198) [some (.ref 80), some (.int x), some (.int 0), none] [] h
  refine go 60 (by decide) ?_
  simp only [KX, KY, KZ, KW, KV, Nat.reduceAdd, Nat.reduceSub, Nat.reduceLeDiff, true_and, and_true, true_or, or_true, or_self, reduceCtorEq, if_true, if_false, not_false_eq_true, eq_self, c198]
  refine s170y x1 x3 ?_
  refine go 60 (by decide) ?_
  simp only [KX, KY, KZ, KW, KV, Nat.reduceAdd, Nat.reduceSub, Nat.reduceLeDiff, true_and, and_true, true_or, or_true, or_self, reduceCtorEq, if_true, if_false, not_false_eq_true, eq_self, c198, H.e80, H.e89, e91, tx, show ((2 : Int32) = 0) = False from by decide, show ((2 : Int32) = 1) = False from by decide, show ((3 : Int32) = 0) = False from by decide, show ((3 : Int32) = 1) = False from by decide, show ((3 : Int32) = 2) = False from by decide, show ((4 : Int32) = 0) = False from by decide, show ((4 : Int32) = 1) = False from by decide, show ((4 : Int32) = 2) = False from by decide, show ((4 : Int32) = 3) = False from by decide]
  refine s173 (A := 91 * f) H.e80 rfl H.e88 (by omega) ?_
  refine go 60 (by decide) ?_
  simp only [KX, KY, KZ, KW, KV, Nat.reduceAdd, Nat.reduceSub, Nat.reduceLeDiff, true_and, and_true, true_or, or_true, or_self, reduceCtorEq, if_true, if_false, not_false_eq_true, eq_self, c198]
  exact k
theorem s198_1 {h : ma_H} {Q : ma_Q} {x : Int32} {f : Nat} (H : Sh h) (l : f < 4) (q : x = nI f) (R : Rt h) (k : Q (some (.int (ml_span (fun i => ai h 88 (91 * f + i)) 91))) h) : ma_X 198 [.ref 80, .int x, .int 1] h Q := by
  have tx : x.toNatClampNeg = f := by subst q; exact nI_clamp (by omega)
  have vx : vp_in x 4 := by subst q; exact nI_in l (by decide)
  have x1 : ¬ x < 0 := by subst q; exact nI_pos (by omega)
  have x3 : x ≤ 3 := by subst q; exact nI_le (a := f) (b := 3) (by omega) (by decide)
  have e91 := ix91n q
  refine ma_enter (m := 198) (Or.inl (by decide)) (by show 3 ≤ mt_n 198; decide +kernel) ?_
  show At 198 Q 0 (mt_c 198) [some (.ref 80), some (.int x), some (.int 1), none] [] h
  refine go 60 (by decide) ?_
  simp only [KX, KY, KZ, KW, KV, Nat.reduceAdd, Nat.reduceSub, Nat.reduceLeDiff, true_and, and_true, true_or, or_true, or_self, reduceCtorEq, if_true, if_false, not_false_eq_true, eq_self, c198]
  refine s170y x1 x3 ?_
  refine go 60 (by decide) ?_
  simp only [KX, KY, KZ, KW, KV, Nat.reduceAdd, Nat.reduceSub, Nat.reduceLeDiff, true_and, and_true, true_or, or_true, or_self, reduceCtorEq, if_true, if_false, not_false_eq_true, eq_self, c198, H.e80, H.e89, e91, tx, show ((2 : Int32) = 0) = False from by decide, show ((2 : Int32) = 1) = False from by decide, show ((3 : Int32) = 0) = False from by decide, show ((3 : Int32) = 1) = False from by decide, show ((3 : Int32) = 2) = False from by decide, show ((4 : Int32) = 0) = False from by decide, show ((4 : Int32) = 1) = False from by decide, show ((4 : Int32) = 2) = False from by decide, show ((4 : Int32) = 3) = False from by decide]
  refine s195 (A := 91 * f) H R (by omega) ?_
  refine go 60 (by decide) ?_
  simp only [KX, KY, KZ, KW, KV, Nat.reduceAdd, Nat.reduceSub, Nat.reduceLeDiff, true_and, and_true, true_or, or_true, or_self, reduceCtorEq, if_true, if_false, not_false_eq_true, eq_self, c198]
  exact k
theorem s198_2 {h : ma_H} {Q : ma_Q} {x : Int32} {f : Nat} (H : Sh h) (l : f < 4) (q : x = nI f) (R : Rt h) (k : Q (some (.int (ml_edge (fun i => ai h 88 (91 * f + i)) 91))) h) : ma_X 198 [.ref 80, .int x, .int 2] h Q := by
  have tx : x.toNatClampNeg = f := by subst q; exact nI_clamp (by omega)
  have vx : vp_in x 4 := by subst q; exact nI_in l (by decide)
  have x1 : ¬ x < 0 := by subst q; exact nI_pos (by omega)
  have x3 : x ≤ 3 := by subst q; exact nI_le (a := f) (b := 3) (by omega) (by decide)
  have e91 := ix91n q
  refine ma_enter (m := 198) (Or.inl (by decide)) (by show 3 ≤ mt_n 198; decide +kernel) ?_
  show At 198 Q 0 (mt_c 198) [some (.ref 80), some (.int x), some (.int 2), none] [] h
  refine go 60 (by decide) ?_
  simp only [KX, KY, KZ, KW, KV, Nat.reduceAdd, Nat.reduceSub, Nat.reduceLeDiff, true_and, and_true, true_or, or_true, or_self, reduceCtorEq, if_true, if_false, not_false_eq_true, eq_self, c198]
  refine s170y x1 x3 ?_
  refine go 60 (by decide) ?_
  simp only [KX, KY, KZ, KW, KV, Nat.reduceAdd, Nat.reduceSub, Nat.reduceLeDiff, true_and, and_true, true_or, or_true, or_self, reduceCtorEq, if_true, if_false, not_false_eq_true, eq_self, c198, H.e80, H.e89, e91, tx, show ((2 : Int32) = 0) = False from by decide, show ((2 : Int32) = 1) = False from by decide, show ((3 : Int32) = 0) = False from by decide, show ((3 : Int32) = 1) = False from by decide, show ((3 : Int32) = 2) = False from by decide, show ((4 : Int32) = 0) = False from by decide, show ((4 : Int32) = 1) = False from by decide, show ((4 : Int32) = 2) = False from by decide, show ((4 : Int32) = 3) = False from by decide]
  refine s196 (A := 91 * f) H R (by omega) ?_
  refine go 60 (by decide) ?_
  simp only [KX, KY, KZ, KW, KV, Nat.reduceAdd, Nat.reduceSub, Nat.reduceLeDiff, true_and, and_true, true_or, or_true, or_self, reduceCtorEq, if_true, if_false, not_false_eq_true, eq_self, c198]
  exact k
theorem s198_3 {h : ma_H} {Q : ma_Q} {x : Int32} {f : Nat} (H : Sh h) (l : f < 4) (q : x = nI f) (R : Rt h) (hb : ∀ i, i < 91 → ai h 88 (91 * f + i) = -1 ∨ ¬ ai h 88 (91 * f + i) < 0) (k : ∀ r, o01 r → osub (fun i => ai h 88 (91 * f + i)) r → clS (fun i => ai h 88 (91 * f + i)) (fun i => r i = 1) → Q (some (.int (su (bcm (fun i => ai h 88 (91 * f + i)) r) 91))) (ma_set h 100 (.inl (.boolean, 91, .inl r)))) : ma_X 198 [.ref 80, .int x, .int 3] h Q := by
  have tx : x.toNatClampNeg = f := by subst q; exact nI_clamp (by omega)
  have vx : vp_in x 4 := by subst q; exact nI_in l (by decide)
  have x1 : ¬ x < 0 := by subst q; exact nI_pos (by omega)
  have x3 : x ≤ 3 := by subst q; exact nI_le (a := f) (b := 3) (by omega) (by decide)
  have e91 := ix91n q
  refine ma_enter (m := 198) (Or.inl (by decide)) (by show 3 ≤ mt_n 198; decide +kernel) ?_
  show At 198 Q 0 (mt_c 198) [some (.ref 80), some (.int x), some (.int 3), none] [] h
  refine go 60 (by decide) ?_
  simp only [KX, KY, KZ, KW, KV, Nat.reduceAdd, Nat.reduceSub, Nat.reduceLeDiff, true_and, and_true, true_or, or_true, or_self, reduceCtorEq, if_true, if_false, not_false_eq_true, eq_self, c198]
  refine s170y x1 x3 ?_
  refine go 60 (by decide) ?_
  simp only [KX, KY, KZ, KW, KV, Nat.reduceAdd, Nat.reduceSub, Nat.reduceLeDiff, true_and, and_true, true_or, or_true, or_self, reduceCtorEq, if_true, if_false, not_false_eq_true, eq_self, c198, H.e80, H.e89, e91, tx, show ((2 : Int32) = 0) = False from by decide, show ((2 : Int32) = 1) = False from by decide, show ((3 : Int32) = 0) = False from by decide, show ((3 : Int32) = 1) = False from by decide, show ((3 : Int32) = 2) = False from by decide, show ((4 : Int32) = 0) = False from by decide, show ((4 : Int32) = 1) = False from by decide, show ((4 : Int32) = 2) = False from by decide, show ((4 : Int32) = 3) = False from by decide]
  refine s197 (A := 91 * f) H R (by omega) hb (fun r w1 w2 w3 => ?_)
  refine go 60 (by decide) ?_
  simp only [KX, KY, KZ, KW, KV, Nat.reduceAdd, Nat.reduceSub, Nat.reduceLeDiff, true_and, and_true, true_or, or_true, or_self, reduceCtorEq, if_true, if_false, not_false_eq_true, eq_self, c198]
  exact k r w1 w2 w3
theorem s198_4 {h : ma_H} {Q : ma_Q} {x : Int32} {f : Nat} (H : Sh h) (l : f < 4) (q : x = nI f) (k : Q (some (.int (ai h 89 f))) h) : ma_X 198 [.ref 80, .int x, .int 4] h Q := by
  have tx : x.toNatClampNeg = f := by subst q; exact nI_clamp (by omega)
  have vx : vp_in x 4 := by subst q; exact nI_in l (by decide)
  have x1 : ¬ x < 0 := by subst q; exact nI_pos (by omega)
  have x3 : x ≤ 3 := by subst q; exact nI_le (a := f) (b := 3) (by omega) (by decide)
  have e91 := ix91n q
  refine ma_enter (m := 198) (Or.inl (by decide)) (by show 3 ≤ mt_n 198; decide +kernel) ?_
  show At 198 Q 0 (mt_c 198) [some (.ref 80), some (.int x), some (.int 4), none] [] h
  refine go 60 (by decide) ?_
  simp only [KX, KY, KZ, KW, KV, Nat.reduceAdd, Nat.reduceSub, Nat.reduceLeDiff, true_and, and_true, true_or, or_true, or_self, reduceCtorEq, if_true, if_false, not_false_eq_true, eq_self, c198]
  refine s170y x1 x3 ?_
  refine go 60 (by decide) ?_
  simp only [KX, KY, KZ, KW, KV, Nat.reduceAdd, Nat.reduceSub, Nat.reduceLeDiff, true_and, and_true, true_or, or_true, or_self, reduceCtorEq, if_true, if_false, not_false_eq_true, eq_self, c198, H.e80, H.e89, e91, tx, show ((2 : Int32) = 0) = False from by decide, show ((2 : Int32) = 1) = False from by decide, show ((3 : Int32) = 0) = False from by decide, show ((3 : Int32) = 1) = False from by decide, show ((3 : Int32) = 2) = False from by decide, show ((4 : Int32) = 0) = False from by decide, show ((4 : Int32) = 1) = False from by decide, show ((4 : Int32) = 2) = False from by decide, show ((4 : Int32) = 3) = False from by decide]
  first
    | exact ⟨vx, k⟩
    | exact k
theorem s198n {h : ma_H} {Q : ma_Q} {x y : Int32} (o : x < 0 ∨ ¬ x ≤ 3) (k : Q (some (.int (-1))) h) : ma_X 198 [.ref 80, .int x, .int y] h Q := by
  refine ma_enter (m := 198) (Or.inl (by decide)) (by show 3 ≤ mt_n 198; decide +kernel) ?_
  show At 198 Q 0 (mt_c 198) [some (.ref 80), some (.int x), some (.int y), none] [] h
  refine go 60 (by decide) ?_
  simp only [KX, KY, KZ, KW, KV, Nat.reduceAdd, Nat.reduceSub, Nat.reduceLeDiff, true_and, and_true, true_or, or_true, or_self, reduceCtorEq, if_true, if_false, not_false_eq_true, eq_self, c198]
  refine s170n o ?_
  refine go 60 (by decide) ?_
  simp only [KX, KY, KZ, KW, KV, Nat.reduceAdd, Nat.reduceSub, Nat.reduceLeDiff, true_and, and_true, true_or, or_true, or_self, reduceCtorEq, if_true, if_false, not_false_eq_true, eq_self, c198]
  exact k
theorem s198m {h : ma_H} {Q : ma_Q} {x y : Int32} {f : Nat} (H : Sh h) (l : f < 4) (q : x = nI f) (o : ¬ y = 0 ∧ ¬ y = 1 ∧ ¬ y = 2 ∧ ¬ y = 3 ∧ ¬ y = 4) (k : Q (some (.int (-1))) h) : ma_X 198 [.ref 80, .int x, .int y] h Q := by
  have tx : x.toNatClampNeg = f := by subst q; exact nI_clamp (by omega)
  have vx : vp_in x 4 := by subst q; exact nI_in l (by decide)
  have x1 : ¬ x < 0 := by subst q; exact nI_pos (by omega)
  have x3 : x ≤ 3 := by subst q; exact nI_le (a := f) (b := 3) (by omega) (by decide)
  have e91 := ix91n q
  refine ma_enter (m := 198) (Or.inl (by decide)) (by show 3 ≤ mt_n 198; decide +kernel) ?_
  show At 198 Q 0 (mt_c 198) [some (.ref 80), some (.int x), some (.int y), none] [] h
  refine go 60 (by decide) ?_
  simp only [KX, KY, KZ, KW, KV, Nat.reduceAdd, Nat.reduceSub, Nat.reduceLeDiff, true_and, and_true, true_or, or_true, or_self, reduceCtorEq, if_true, if_false, not_false_eq_true, eq_self, c198]
  refine s170y x1 x3 ?_
  refine go 60 (by decide) ?_
  simp only [KX, KY, KZ, KW, KV, Nat.reduceAdd, Nat.reduceSub, Nat.reduceLeDiff, true_and, and_true, true_or, or_true, or_self, reduceCtorEq, if_true, if_false, not_false_eq_true, eq_self, c198, H.e80, e91]
  rw [if_neg o.1, if_neg o.2.1, if_neg o.2.2.1, if_neg o.2.2.2.1, if_neg o.2.2.2.2]
  exact k
theorem bc_c {g g2 r : Nat → Int32} {i : Nat} (e : g i = g2 i) : bc g r i = bc g2 r i := by
  unfold bc
  rw [e]
theorem p108 {h : ma_H} {x y : Int32} (I : Inv h) : Pair h 108 198 [.int x, .int y] := by
  intro Q k
  rcases icasB x 3 (by decide) with ⟨f, l, q, -⟩ | ⟨o1, o2⟩
  · have eg : ∀ i, i < 91 → ai h (37 + 3 * f) (ma_cell i) = (fun i => ai h 88 (91 * f + i)) i := fun i hi => I.nf.eq l hi
    have gb : ∀ i, i < 91 → (fun i => ai h 88 (91 * f + i)) i = -1 ∨ ¬ (fun i => ai h 88 (91 * f + i)) i < 0 := fun i hi => I.nf.b l hi
    have bad : (y < 0 ∨ ¬ y ≤ 4) → (¬ y = 0 ∧ ¬ y = 1 ∧ ¬ y = 2 ∧ ¬ y = 3 ∧ ¬ y = 4) → ma_X 108 [.ref 0, .int x, .int y] h Q := fun o w => s108m I.sh I.rr l q o (k _ _ (by repeat (first | exact e80_I I | exact e80_S (by assumption) | exact e80_I (by assumption) | exact e80_n I.sh | refine e80_s (by omega) ?_)) fun Q2 k2 => s198m I.sh l q w (k2 _ I))
    rcases icase4 y with ⟨rfl, -⟩ | ⟨rfl, -⟩ | ⟨rfl, -⟩ | ⟨rfl, -⟩ | ⟨rfl, -⟩ | o | ⟨-, o, w⟩
    · refine s108_0 I.sh I.rr l q (k _ _ (by repeat (first | exact e80_I I | exact e80_S (by assumption) | exact e80_I (by assumption) | exact e80_n I.sh | refine e80_s (by omega) ?_)) fun Q2 k2 => s198_0 I.sh l q ?_)
      rw [← su_ice I.nf l]
      exact k2 _ I
    · refine s108_1 I.sh I.rr l q (k _ _ (by repeat (first | exact e80_I I | exact e80_S (by assumption) | exact e80_I (by assumption) | exact e80_n I.sh | refine e80_s (by omega) ?_)) fun Q2 k2 => s198_1 I.sh l q I.rt ?_)
      rw [← span_eq eg 91 (Nat.le_refl _)]
      exact k2 _ I
    · refine s108_2 I.sh I.rr l q (k _ _ (by repeat (first | exact e80_I I | exact e80_S (by assumption) | exact e80_I (by assumption) | exact e80_n I.sh | refine e80_s (by omega) ?_)) fun Q2 k2 => s198_2 I.sh l q I.rt ?_)
      rw [← edge_eq (I.nf.ok l) eg gb]
      exact k2 _ I
    · refine s108_3 I.sh I.rr l q (fun i hi => by rw [eg i hi]; exact gb i hi) (fun r a1 a2 a3 => k _ _ (by repeat (first | exact e80_I I | exact e80_S (by assumption) | exact e80_I (by assumption) | exact e80_n I.sh | refine e80_s (by omega) ?_)) fun Q2 k2 => ?_)
      have H1 := sh_set I.sh (nf_r l r)
      have e88 : ai (ma_set h (38 + 3 * f) (.inl (.byte, 169, .inl r))) 88 = ai h 88 := ai_ne _ _ (by omega)
      refine s198_3 H1 l q (I.rt.cong fun a ha => ma_set_ne _ _ (by omega)) ?_ ?_
      · rw [e88]
        exact gb
      rw [e88]
      intro q2 b1 b2 b3
      have e : su (bc (fun i => ai h (37 + 3 * f) (ma_cell i)) r) 91 = su (bcm (fun i => ai h 88 (91 * f + i)) q2) 91 := by
        rw [show su (bc (fun i => ai h (37 + 3 * f) (ma_cell i)) r) 91 = su (bc (fun i => ai h 88 (91 * f + i)) r) 91 from su_congr 91 fun i hi => bc_c (eg i hi)]
        exact bc_eq gb a1 (fun S c => a2 S fun i hi z => c i hi ((eg i hi).symm.trans z)) (fun i hi z => a3 i hi ((eg i hi).trans z)) b1 b2 b3
      rw [← e]
      refine k2 _ (I.flk l (sh_set H1 rfl) rfl (fun a a1 a2 a3 a4 => ?_) ?_ (fun i hi => ?_) (fun i hi => ?_) (fun j hj w => ?_) ?_ (fun j hj w => ?_)) <;> (try simp (disch := omega) only [ai_ne, ai_at, fi_ne])
      · unfold exf at a4
        rw [ma_set_ne _ _ (by omega), ma_set_ne _ _ (by omega)]
      · exact I.nf.ok l
      · exact eg i hi
      · exact gb i hi
      · exact I.nf.mf l
    · refine s108_4 I.sh I.rr l q (k _ _ (by repeat (first | exact e80_I I | exact e80_S (by assumption) | exact e80_I (by assumption) | exact e80_n I.sh | refine e80_s (by omega) ?_)) fun Q2 k2 => s198_4 I.sh l q ?_)
      rw [← I.nf.m l]
      exact k2 _ I
    · exact bad (Or.inl o) ⟨fun e => absurd o (by rw [e]; decide), fun e => absurd o (by rw [e]; decide), fun e => absurd o (by rw [e]; decide), fun e => absurd o (by rw [e]; decide), fun e => absurd o (by rw [e]; decide)⟩
    · exact bad (Or.inr o) w
  · exact s108n I.sh o2 (k _ _ (by repeat (first | exact e80_I I | exact e80_S (by assumption) | exact e80_I (by assumption) | exact e80_n I.sh | refine e80_s (by omega) ?_)) fun Q2 k2 => s198n o1 (k2 _ I))
