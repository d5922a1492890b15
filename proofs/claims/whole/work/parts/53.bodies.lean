/-! BODIES of the Model, on: shares, tells -/
theorem i_sub0 {a i : Int32} : a - i = 0 ↔ a = i := by
  constructor
  · intro h
    have := congrArg (fun z => z + i) h
    simpa only [Int32.sub_add_cancel, Int32.zero_add] using this
  · rintro rfl
    exact Int32.sub_self a
theorem s265 {h : ma_H} {Q : ma_Q} {x kx : Int32} {T : TT} (hT : T.1 ≤ 30) {i a : Int32} (k : Q (some (.int (sPv i a x))) (hm h (push 12 T) (sPp i a) kx i a)) : ma_X 265 [.ref 80, .int x] (hm h T 0 kx i a) Q := by
  refine ma_enter (m := 265) (Or.inl (by decide)) (by show 2 ≤ mt_n 265; decide +kernel) ?_
  show At 265 Q 0 (0, 0) [some (.ref 80), some (.int x)] [] (hm h T 0 kx i a)
  have d1 : sPv i a x = if a - i = 0 then 0 else x / (a - i) := rfl
  have d2 : sPp i a = if a - i = 0 then 1 else 0 := rfl
  refine go 60 (by decide) ?_
  simp only [KX, KY, KZ, KW, KV, Nat.reduceAdd, Nat.reduceSub, Nat.reduceLeDiff, true_and, and_true, true_or, or_true, or_self, reduceCtorEq, if_true, if_false, not_false_eq_true, eq_self, c265, hm_80, hm_80s, hm_112, ma_set_at, List.set_cons_succ, List.set_cons_zero]
  refine s258 hT ?_
  refine go 60 (by decide) ?_
  simp only [KX, KY, KZ, KW, KV, Nat.reduceAdd, Nat.reduceSub, Nat.reduceLeDiff, true_and, and_true, true_or, or_true, or_self, reduceCtorEq, if_true, if_false, not_false_eq_true, eq_self, c265, hm_80, hm_80s, hm_112, ma_set_at, List.set_cons_succ, List.set_cons_zero]
  by_cases z : a = i
  · have z2 := i_sub0.mpr z
    rw [if_pos z2] at d1 d2
    rw [d1, d2] at k
    rw [if_pos z]
    refine ⟨by simp only [List.length_cons, List.length_nil]; omega, by first | exact trivial | exact Or.inr rfl, ?_⟩
    rw [hm_p]
    exact k
  · have z2 : ¬ a - i = 0 := fun w => z (i_sub0.mp w)
    rw [if_neg z2] at d1 d2
    rw [d1, d2] at k
    rw [if_neg z]
    exact ⟨z2, k⟩
theorem s266_0 {h : ma_H} {Q : ma_Q} {x : Int32} {T : TT} (hT : T.1 ≤ 30) {i a : Int32} (k : Q (some (.int (sha 0 i a x T).1)) (hm h (sha 0 i a x T).2 (sPp i a) 0 i a)) : ma_X 266 [.ref 80, .int x] (hm h T 0 0 i a) Q := by
  refine ma_enter (m := 266) (Or.inl (by decide)) (by show 2 ≤ mt_n 266; decide +kernel) ?_
  show At 266 Q 0 (0, 0) [some (.ref 80), some (.int x), none] [] (hm h T 0 0 i a)
  refine go 60 (by decide) ?_
  simp only [KX, KY, KZ, KW, KV, Nat.reduceAdd, Nat.reduceSub, Nat.reduceLeDiff, true_and, and_true, true_or, or_true, or_self, reduceCtorEq, if_true, if_false, not_false_eq_true, eq_self, c266, hm_80, hm_80s, hm_112, ma_set_at, List.set_cons_succ, List.set_cons_zero, show ((0 : Int32) = 1) = False from by decide, show ((0 : Int32) = 2) = False from by decide, show ((0 : Int32) = 3) = False from by decide, show ((0 : Int32) = 4) = False from by decide, show ((0 : Int32) = 5) = False from by decide, show ((1 : Int32) = 2) = False from by decide, show ((1 : Int32) = 3) = False from by decide, show ((1 : Int32) = 4) = False from by decide, show ((1 : Int32) = 5) = False from by decide, show ((2 : Int32) = 1) = False from by decide, show ((2 : Int32) = 3) = False from by decide, show ((2 : Int32) = 4) = False from by decide, show ((2 : Int32) = 5) = False from by decide, show ((3 : Int32) = 1) = False from by decide, show ((3 : Int32) = 2) = False from by decide, show ((3 : Int32) = 4) = False from by decide, show ((3 : Int32) = 5) = False from by decide, show ((4 : Int32) = 1) = False from by decide, show ((4 : Int32) = 2) = False from by decide, show ((4 : Int32) = 3) = False from by decide, show ((4 : Int32) = 5) = False from by decide, show ((5 : Int32) = 1) = False from by decide, show ((5 : Int32) = 2) = False from by decide, show ((5 : Int32) = 3) = False from by decide, show ((5 : Int32) = 4) = False from by decide, show ((0 : Int32) = 4) = False from by decide, show ((0 : Int32) = 5) = False from by decide]
  refine s265 hT ?_
  refine go 60 (by decide) ?_
  simp only [KX, KY, KZ, KW, KV, Nat.reduceAdd, Nat.reduceSub, Nat.reduceLeDiff, true_and, and_true, true_or, or_true, or_self, reduceCtorEq, if_true, if_false, not_false_eq_true, eq_self, c266, hm_80, hm_80s, hm_112, ma_set_at, List.set_cons_succ, List.set_cons_zero]
  exact k
theorem s266_1 {h : ma_H} {Q : ma_Q} {x : Int32} {T : TT} (hT : T.1 ≤ 30) {i a : Int32} (k : Q (some (.int (sha 1 i a x T).1)) (hm h (sha 1 i a x T).2 (sPp i a) 1 i a)) : ma_X 266 [.ref 80, .int x] (hm h T 0 1 i a) Q := by
  refine ma_enter (m := 266) (Or.inl (by decide)) (by show 2 ≤ mt_n 266; decide +kernel) ?_
  show At 266 Q 0 (0, 0) [some (.ref 80), some (.int x), none] [] (hm h T 0 1 i a)
  refine go 60 (by decide) ?_
  simp only [KX, KY, KZ, KW, KV, Nat.reduceAdd, Nat.reduceSub, Nat.reduceLeDiff, true_and, and_true, true_or, or_true, or_self, reduceCtorEq, if_true, if_false, not_false_eq_true, eq_self, c266, hm_80, hm_80s, hm_112, ma_set_at, List.set_cons_succ, List.set_cons_zero, show ((0 : Int32) = 1) = False from by decide, show ((0 : Int32) = 2) = False from by decide, show ((0 : Int32) = 3) = False from by decide, show ((0 : Int32) = 4) = False from by decide, show ((0 : Int32) = 5) = False from by decide, show ((1 : Int32) = 2) = False from by decide, show ((1 : Int32) = 3) = False from by decide, show ((1 : Int32) = 4) = False from by decide, show ((1 : Int32) = 5) = False from by decide, show ((2 : Int32) = 1) = False from by decide, show ((2 : Int32) = 3) = False from by decide, show ((2 : Int32) = 4) = False from by decide, show ((2 : Int32) = 5) = False from by decide, show ((3 : Int32) = 1) = False from by decide, show ((3 : Int32) = 2) = False from by decide, show ((3 : Int32) = 4) = False from by decide, show ((3 : Int32) = 5) = False from by decide, show ((4 : Int32) = 1) = False from by decide, show ((4 : Int32) = 2) = False from by decide, show ((4 : Int32) = 3) = False from by decide, show ((4 : Int32) = 5) = False from by decide, show ((5 : Int32) = 1) = False from by decide, show ((5 : Int32) = 2) = False from by decide, show ((5 : Int32) = 3) = False from by decide, show ((5 : Int32) = 4) = False from by decide, show ((0 : Int32) = 4) = False from by decide, show ((0 : Int32) = 5) = False from by decide]
  refine s265 hT ?_
  refine go 60 (by decide) ?_
  simp only [KX, KY, KZ, KW, KV, Nat.reduceAdd, Nat.reduceSub, Nat.reduceLeDiff, true_and, and_true, true_or, or_true, or_self, reduceCtorEq, if_true, if_false, not_false_eq_true, eq_self, c266, hm_80, hm_80s, hm_112, ma_set_at, List.set_cons_succ, List.set_cons_zero]
  exact k
theorem s266_2 {h : ma_H} {Q : ma_Q} {x : Int32} {T : TT} (hT : T.1 ≤ 30) {i a : Int32} (k : Q (some (.int (sha 2 i a x T).1)) (hm h (sha 2 i a x T).2 (sPp i a) 2 i a)) : ma_X 266 [.ref 80, .int x] (hm h T 0 2 i a) Q := by
  refine ma_enter (m := 266) (Or.inl (by decide)) (by show 2 ≤ mt_n 266; decide +kernel) ?_
  show At 266 Q 0 (0, 0) [some (.ref 80), some (.int x), none] [] (hm h T 0 2 i a)
  refine go 60 (by decide) ?_
  simp only [KX, KY, KZ, KW, KV, Nat.reduceAdd, Nat.reduceSub, Nat.reduceLeDiff, true_and, and_true, true_or, or_true, or_self, reduceCtorEq, if_true, if_false, not_false_eq_true, eq_self, c266, hm_80, hm_80s, hm_112, ma_set_at, List.set_cons_succ, List.set_cons_zero, show ((0 : Int32) = 1) = False from by decide, show ((0 : Int32) = 2) = False from by decide, show ((0 : Int32) = 3) = False from by decide, show ((0 : Int32) = 4) = False from by decide, show ((0 : Int32) = 5) = False from by decide, show ((1 : Int32) = 2) = False from by decide, show ((1 : Int32) = 3) = False from by decide, show ((1 : Int32) = 4) = False from by decide, show ((1 : Int32) = 5) = False from by decide, show ((2 : Int32) = 1) = False from by decide, show ((2 : Int32) = 3) = False from by decide, show ((2 : Int32) = 4) = False from by decide, show ((2 : Int32) = 5) = False from by decide, show ((3 : Int32) = 1) = False from by decide, show ((3 : Int32) = 2) = False from by decide, show ((3 : Int32) = 4) = False from by decide, show ((3 : Int32) = 5) = False from by decide, show ((4 : Int32) = 1) = False from by decide, show ((4 : Int32) = 2) = False from by decide, show ((4 : Int32) = 3) = False from by decide, show ((4 : Int32) = 5) = False from by decide, show ((5 : Int32) = 1) = False from by decide, show ((5 : Int32) = 2) = False from by decide, show ((5 : Int32) = 3) = False from by decide, show ((5 : Int32) = 4) = False from by decide, show ((0 : Int32) = 4) = False from by decide, show ((0 : Int32) = 5) = False from by decide]
  refine s265 hT ?_
  refine go 60 (by decide) ?_
  simp only [KX, KY, KZ, KW, KV, Nat.reduceAdd, Nat.reduceSub, Nat.reduceLeDiff, true_and, and_true, true_or, or_true, or_self, reduceCtorEq, if_true, if_false, not_false_eq_true, eq_self, c266, hm_80, hm_80s, hm_112, ma_set_at, List.set_cons_succ, List.set_cons_zero]
  exact k
theorem s266_3 {h : ma_H} {Q : ma_Q} {x : Int32} {T : TT} (hT : T.1 ≤ 30) {i a : Int32} (k : Q (some (.int (sha 3 i a x T).1)) (hm h (sha 3 i a x T).2 (sPp i a) 3 i a)) : ma_X 266 [.ref 80, .int x] (hm h T 0 3 i a) Q := by
  refine ma_enter (m := 266) (Or.inl (by decide)) (by show 2 ≤ mt_n 266; decide +kernel) ?_
  show At 266 Q 0 (0, 0) [some (.ref 80), some (.int x), none] [] (hm h T 0 3 i a)
  refine go 60 (by decide) ?_
  simp only [KX, KY, KZ, KW, KV, Nat.reduceAdd, Nat.reduceSub, Nat.reduceLeDiff, true_and, and_true, true_or, or_true, or_self, reduceCtorEq, if_true, if_false, not_false_eq_true, eq_self, c266, hm_80, hm_80s, hm_112, ma_set_at, List.set_cons_succ, List.set_cons_zero, show ((0 : Int32) = 1) = False from by decide, show ((0 : Int32) = 2) = False from by decide, show ((0 : Int32) = 3) = False from by decide, show ((0 : Int32) = 4) = False from by decide, show ((0 : Int32) = 5) = False from by decide, show ((1 : Int32) = 2) = False from by decide, show ((1 : Int32) = 3) = False from by decide, show ((1 : Int32) = 4) = False from by decide, show ((1 : Int32) = 5) = False from by decide, show ((2 : Int32) = 1) = False from by decide, show ((2 : Int32) = 3) = False from by decide, show ((2 : Int32) = 4) = False from by decide, show ((2 : Int32) = 5) = False from by decide, show ((3 : Int32) = 1) = False from by decide, show ((3 : Int32) = 2) = False from by decide, show ((3 : Int32) = 4) = False from by decide, show ((3 : Int32) = 5) = False from by decide, show ((4 : Int32) = 1) = False from by decide, show ((4 : Int32) = 2) = False from by decide, show ((4 : Int32) = 3) = False from by decide, show ((4 : Int32) = 5) = False from by decide, show ((5 : Int32) = 1) = False from by decide, show ((5 : Int32) = 2) = False from by decide, show ((5 : Int32) = 3) = False from by decide, show ((5 : Int32) = 4) = False from by decide, show ((0 : Int32) = 4) = False from by decide, show ((0 : Int32) = 5) = False from by decide]
  refine s265 hT ?_
  refine go 60 (by decide) ?_
  simp only [KX, KY, KZ, KW, KV, Nat.reduceAdd, Nat.reduceSub, Nat.reduceLeDiff, true_and, and_true, true_or, or_true, or_self, reduceCtorEq, if_true, if_false, not_false_eq_true, eq_self, c266, hm_80, hm_80s, hm_112, ma_set_at, List.set_cons_succ, List.set_cons_zero]
  exact k
theorem s266_4 {h : ma_H} {Q : ma_Q} {x : Int32} {T : TT} (hT : T.1 ≤ 30) {i a : Int32} (k : Q (some (.int (sha 4 i a x T).1)) (hm h (sha 4 i a x T).2 (sPp i a) 4 i a)) : ma_X 266 [.ref 80, .int x] (hm h T 0 4 i a) Q := by
  refine ma_enter (m := 266) (Or.inl (by decide)) (by show 2 ≤ mt_n 266; decide +kernel) ?_
  show At 266 Q 0 (0, 0) [some (.ref 80), some (.int x), none] [] (hm h T 0 4 i a)
  refine go 60 (by decide) ?_
  simp only [KX, KY, KZ, KW, KV, Nat.reduceAdd, Nat.reduceSub, Nat.reduceLeDiff, true_and, and_true, true_or, or_true, or_self, reduceCtorEq, if_true, if_false, not_false_eq_true, eq_self, c266, hm_80, hm_80s, hm_112, ma_set_at, List.set_cons_succ, List.set_cons_zero, show ((0 : Int32) = 1) = False from by decide, show ((0 : Int32) = 2) = False from by decide, show ((0 : Int32) = 3) = False from by decide, show ((0 : Int32) = 4) = False from by decide, show ((0 : Int32) = 5) = False from by decide, show ((1 : Int32) = 2) = False from by decide, show ((1 : Int32) = 3) = False from by decide, show ((1 : Int32) = 4) = False from by decide, show ((1 : Int32) = 5) = False from by decide, show ((2 : Int32) = 1) = False from by decide, show ((2 : Int32) = 3) = False from by decide, show ((2 : Int32) = 4) = False from by decide, show ((2 : Int32) = 5) = False from by decide, show ((3 : Int32) = 1) = False from by decide, show ((3 : Int32) = 2) = False from by decide, show ((3 : Int32) = 4) = False from by decide, show ((3 : Int32) = 5) = False from by decide, show ((4 : Int32) = 1) = False from by decide, show ((4 : Int32) = 2) = False from by decide, show ((4 : Int32) = 3) = False from by decide, show ((4 : Int32) = 5) = False from by decide, show ((5 : Int32) = 1) = False from by decide, show ((5 : Int32) = 2) = False from by decide, show ((5 : Int32) = 3) = False from by decide, show ((5 : Int32) = 4) = False from by decide]
  refine s258 hT ?_
  refine go 60 (by decide) ?_
  simp only [KX, KY, KZ, KW, KV, Nat.reduceAdd, Nat.reduceSub, Nat.reduceLeDiff, true_and, and_true, true_or, or_true, or_self, reduceCtorEq, if_true, if_false, not_false_eq_true, eq_self, c266, hm_80, hm_80s, hm_112, ma_set_at, List.set_cons_succ, List.set_cons_zero]
  refine s265 (push_le hT) ?_
  refine go 60 (by decide) ?_
  simp only [KX, KY, KZ, KW, KV, Nat.reduceAdd, Nat.reduceSub, Nat.reduceLeDiff, true_and, and_true, true_or, or_true, or_self, reduceCtorEq, if_true, if_false, not_false_eq_true, eq_self, c266, hm_80, hm_80s, hm_112, ma_set_at, List.set_cons_succ, List.set_cons_zero]
  exact k
theorem s266_5 {h : ma_H} {Q : ma_Q} {x : Int32} {T : TT} (hT : T.1 ≤ 30) {i a : Int32} (k : Q (some (.int (sha 5 i a x T).1)) (hm h (sha 5 i a x T).2 (sPp i a) 5 i a)) : ma_X 266 [.ref 80, .int x] (hm h T 0 5 i a) Q := by
  refine ma_enter (m := 266) (Or.inl (by decide)) (by show 2 ≤ mt_n 266; decide +kernel) ?_
  show At 266 Q 0 (0, 0) [some (.ref 80), some (.int x), none] [] (hm h T 0 5 i a)
  have d : sha 5 i a x T = if sPp i a = 0 then (sPv i a x + (gro 5 i a (push 12 (push 61 T))).1, (gro 5 i a (push 12 (push 61 T))).2) else (0, push 12 (push 61 T)) := rfl
  refine go 60 (by decide) ?_
  simp only [KX, KY, KZ, KW, KV, Nat.reduceAdd, Nat.reduceSub, Nat.reduceLeDiff, true_and, and_true, true_or, or_true, or_self, reduceCtorEq, if_true, if_false, not_false_eq_true, eq_self, c266, hm_80, hm_80s, hm_112, ma_set_at, List.set_cons_succ, List.set_cons_zero, show ((0 : Int32) = 1) = False from by decide, show ((0 : Int32) = 2) = False from by decide, show ((0 : Int32) = 3) = False from by decide, show ((0 : Int32) = 4) = False from by decide, show ((0 : Int32) = 5) = False from by decide, show ((1 : Int32) = 2) = False from by decide, show ((1 : Int32) = 3) = False from by decide, show ((1 : Int32) = 4) = False from by decide, show ((1 : Int32) = 5) = False from by decide, show ((2 : Int32) = 1) = False from by decide, show ((2 : Int32) = 3) = False from by decide, show ((2 : Int32) = 4) = False from by decide, show ((2 : Int32) = 5) = False from by decide, show ((3 : Int32) = 1) = False from by decide, show ((3 : Int32) = 2) = False from by decide, show ((3 : Int32) = 4) = False from by decide, show ((3 : Int32) = 5) = False from by decide, show ((4 : Int32) = 1) = False from by decide, show ((4 : Int32) = 2) = False from by decide, show ((4 : Int32) = 3) = False from by decide, show ((4 : Int32) = 5) = False from by decide, show ((5 : Int32) = 1) = False from by decide, show ((5 : Int32) = 2) = False from by decide, show ((5 : Int32) = 3) = False from by decide, show ((5 : Int32) = 4) = False from by decide]
  refine s258 hT ?_
  refine go 60 (by decide) ?_
  simp only [KX, KY, KZ, KW, KV, Nat.reduceAdd, Nat.reduceSub, Nat.reduceLeDiff, true_and, and_true, true_or, or_true, or_self, reduceCtorEq, if_true, if_false, not_false_eq_true, eq_self, c266, hm_80, hm_80s, hm_112, ma_set_at, List.set_cons_succ, List.set_cons_zero]
  refine s265 (push_le hT) ?_
  refine go 60 (by decide) ?_
  simp only [KX, KY, KZ, KW, KV, Nat.reduceAdd, Nat.reduceSub, Nat.reduceLeDiff, true_and, and_true, true_or, or_true, or_self, reduceCtorEq, if_true, if_false, not_false_eq_true, eq_self, c266, hm_80, hm_80s, hm_112, ma_set_at, List.set_cons_succ, List.set_cons_zero]
  by_cases z : sPp i a = 0
  · rw [if_pos z] at d ⊢
    rw [d] at k
    refine s261 (kk := 5) (by decide) (push_le (push_le hT)) ?_
    refine go 60 (by decide) ?_
    simp only [KX, KY, KZ, KW, KV, Nat.reduceAdd, Nat.reduceSub, Nat.reduceLeDiff, true_and, and_true, true_or, or_true, or_self, reduceCtorEq, if_true, if_false, not_false_eq_true, eq_self, c266, hm_80, hm_80s, hm_112, ma_set_at, List.set_cons_succ, List.set_cons_zero]
    exact k
  · rw [if_neg z] at d ⊢
    rw [d] at k
    exact k
theorem s266 {h : ma_H} {Q : ma_Q} {x : Int32} {kk : Nat} (hk : kk < 6) {T : TT} (hT : T.1 ≤ 30) {i a : Int32} (k : Q (some (.int (sha kk i a x T).1)) (hm h (sha kk i a x T).2 (sPp i a) (nI kk) i a)) : ma_X 266 [.ref 80, .int x] (hm h T 0 (nI kk) i a) Q := by
  match kk, hk with
  | 0, _ => exact s266_0 hT k
  | 1, _ => exact s266_1 hT k
  | 2, _ => exact s266_2 hT k
  | 3, _ => exact s266_3 hT k
  | 4, _ => exact s266_4 hT k
  | 5, _ => exact s266_5 hT k
theorem s267 {h : ma_H} {Q : ma_Q} {x : Int32} {kk : Nat} (hk : kk < 6) {T : TT} (hT : T.1 ≤ 30) {i a : Int32} (k : Q (some (.int (lP kk i a x T).1)) (hm h (lP kk i a x T).2 0 (nI kk) i a)) : ma_X 267 [.ref 80, .int x] (hm h T 0 (nI kk) i a) Q := by
  refine ma_enter (m := 267) (Or.inl (by decide)) (by show 2 ≤ mt_n 267; decide +kernel) ?_
  show At 267 Q 0 (0, 0) [some (.ref 80), some (.int x)] [] (hm h T 0 (nI kk) i a)
  refine go 60 (by decide) ?_
  simp only [KX, KY, KZ, KW, KV, Nat.reduceAdd, Nat.reduceSub, Nat.reduceLeDiff, true_and, and_true, true_or, or_true, or_self, reduceCtorEq, if_true, if_false, not_false_eq_true, eq_self, c267, hm_80, hm_80s, hm_112, ma_set_at, List.set_cons_succ, List.set_cons_zero]
  refine s258 hT ?_
  refine go 60 (by decide) ?_
  simp only [KX, KY, KZ, KW, KV, Nat.reduceAdd, Nat.reduceSub, Nat.reduceLeDiff, true_and, and_true, true_or, or_true, or_self, reduceCtorEq, if_true, if_false, not_false_eq_true, eq_self, c267, hm_80, hm_80s, hm_112, ma_set_at, List.set_cons_succ, List.set_cons_zero]
  refine s264 hk (push_le hT) ?_
  refine go 60 (by decide) ?_
  simp only [KX, KY, KZ, KW, KV, Nat.reduceAdd, Nat.reduceSub, Nat.reduceLeDiff, true_and, and_true, true_or, or_true, or_self, reduceCtorEq, if_true, if_false, not_false_eq_true, eq_self, c267, hm_80, hm_80s, hm_112, ma_set_at, List.set_cons_succ, List.set_cons_zero]
  exact k
theorem s268_0 {h : ma_H} {Q : ma_Q} {x : Int32} {T : TT} (hT : T.1 ≤ 30) {i a : Int32} (k : Q (some (.int (tel 0 i a x T).1)) (hm h (tel 0 i a x T).2 (telp 0 i a) 0 i a)) : ma_X 268 [.ref 80, .int x] (hm h T 0 0 i a) Q := by
  refine ma_enter (m := 268) (Or.inl (by decide)) (by show 2 ≤ mt_n 268; decide +kernel) ?_
  show At 268 Q 0 (0, 0) [some (.ref 80), some (.int x), none] [] (hm h T 0 0 i a)
  refine go 60 (by decide) ?_
  simp only [KX, KY, KZ, KW, KV, Nat.reduceAdd, Nat.reduceSub, Nat.reduceLeDiff, true_and, and_true, true_or, or_true, or_self, reduceCtorEq, if_true, if_false, not_false_eq_true, eq_self, c268, hm_80, hm_80s, hm_112, ma_set_at, List.set_cons_succ, List.set_cons_zero, show ((0 : Int32) = 1) = False from by decide, show ((0 : Int32) = 2) = False from by decide, show ((0 : Int32) = 3) = False from by decide, show ((0 : Int32) = 4) = False from by decide, show ((0 : Int32) = 5) = False from by decide, show ((1 : Int32) = 2) = False from by decide, show ((1 : Int32) = 3) = False from by decide, show ((1 : Int32) = 4) = False from by decide, show ((1 : Int32) = 5) = False from by decide, show ((2 : Int32) = 1) = False from by decide, show ((2 : Int32) = 3) = False from by decide, show ((2 : Int32) = 4) = False from by decide, show ((2 : Int32) = 5) = False from by decide, show ((3 : Int32) = 1) = False from by decide, show ((3 : Int32) = 2) = False from by decide, show ((3 : Int32) = 4) = False from by decide, show ((3 : Int32) = 5) = False from by decide, show ((4 : Int32) = 1) = False from by decide, show ((4 : Int32) = 2) = False from by decide, show ((4 : Int32) = 3) = False from by decide, show ((4 : Int32) = 5) = False from by decide, show ((5 : Int32) = 1) = False from by decide, show ((5 : Int32) = 2) = False from by decide, show ((5 : Int32) = 3) = False from by decide, show ((5 : Int32) = 4) = False from by decide, show ((0 : Int32) = 2) = False from by decide, show ((0 : Int32) = 5) = False from by decide]
  refine s267 (kk := 0) (by decide) hT ?_
  refine go 60 (by decide) ?_
  simp only [KX, KY, KZ, KW, KV, Nat.reduceAdd, Nat.reduceSub, Nat.reduceLeDiff, true_and, and_true, true_or, or_true, or_self, reduceCtorEq, if_true, if_false, not_false_eq_true, eq_self, c268, hm_80, hm_80s, hm_112, ma_set_at, List.set_cons_succ, List.set_cons_zero]
  exact k
theorem s268_1 {h : ma_H} {Q : ma_Q} {x : Int32} {T : TT} (hT : T.1 ≤ 30) {i a : Int32} (k : Q (some (.int (tel 1 i a x T).1)) (hm h (tel 1 i a x T).2 (telp 1 i a) 1 i a)) : ma_X 268 [.ref 80, .int x] (hm h T 0 1 i a) Q := by
  refine ma_enter (m := 268) (Or.inl (by decide)) (by show 2 ≤ mt_n 268; decide +kernel) ?_
  show At 268 Q 0 (0, 0) [some (.ref 80), some (.int x), none] [] (hm h T 0 1 i a)
  refine go 60 (by decide) ?_
  simp only [KX, KY, KZ, KW, KV, Nat.reduceAdd, Nat.reduceSub, Nat.reduceLeDiff, true_and, and_true, true_or, or_true, or_self, reduceCtorEq, if_true, if_false, not_false_eq_true, eq_self, c268, hm_80, hm_80s, hm_112, ma_set_at, List.set_cons_succ, List.set_cons_zero, show ((0 : Int32) = 1) = False from by decide, show ((0 : Int32) = 2) = False from by decide, show ((0 : Int32) = 3) = False from by decide, show ((0 : Int32) = 4) = False from by decide, show ((0 : Int32) = 5) = False from by decide, show ((1 : Int32) = 2) = False from by decide, show ((1 : Int32) = 3) = False from by decide, show ((1 : Int32) = 4) = False from by decide, show ((1 : Int32) = 5) = False from by decide, show ((2 : Int32) = 1) = False from by decide, show ((2 : Int32) = 3) = False from by decide, show ((2 : Int32) = 4) = False from by decide, show ((2 : Int32) = 5) = False from by decide, show ((3 : Int32) = 1) = False from by decide, show ((3 : Int32) = 2) = False from by decide, show ((3 : Int32) = 4) = False from by decide, show ((3 : Int32) = 5) = False from by decide, show ((4 : Int32) = 1) = False from by decide, show ((4 : Int32) = 2) = False from by decide, show ((4 : Int32) = 3) = False from by decide, show ((4 : Int32) = 5) = False from by decide, show ((5 : Int32) = 1) = False from by decide, show ((5 : Int32) = 2) = False from by decide, show ((5 : Int32) = 3) = False from by decide, show ((5 : Int32) = 4) = False from by decide, show ((0 : Int32) = 2) = False from by decide, show ((0 : Int32) = 5) = False from by decide]
  refine s267 (kk := 1) (by decide) hT ?_
  refine go 60 (by decide) ?_
  simp only [KX, KY, KZ, KW, KV, Nat.reduceAdd, Nat.reduceSub, Nat.reduceLeDiff, true_and, and_true, true_or, or_true, or_self, reduceCtorEq, if_true, if_false, not_false_eq_true, eq_self, c268, hm_80, hm_80s, hm_112, ma_set_at, List.set_cons_succ, List.set_cons_zero]
  exact k
theorem s268_2 {h : ma_H} {Q : ma_Q} {x : Int32} {T : TT} (hT : T.1 ≤ 30) {i a : Int32} (k : Q (some (.int (tel 2 i a x T).1)) (hm h (tel 2 i a x T).2 (telp 2 i a) 2 i a)) : ma_X 268 [.ref 80, .int x] (hm h T 0 2 i a) Q := by
  refine ma_enter (m := 268) (Or.inl (by decide)) (by show 2 ≤ mt_n 268; decide +kernel) ?_
  show At 268 Q 0 (0, 0) [some (.ref 80), some (.int x), none] [] (hm h T 0 2 i a)
  refine go 60 (by decide) ?_
  simp only [KX, KY, KZ, KW, KV, Nat.reduceAdd, Nat.reduceSub, Nat.reduceLeDiff, true_and, and_true, true_or, or_true, or_self, reduceCtorEq, if_true, if_false, not_false_eq_true, eq_self, c268, hm_80, hm_80s, hm_112, ma_set_at, List.set_cons_succ, List.set_cons_zero, show ((0 : Int32) = 1) = False from by decide, show ((0 : Int32) = 2) = False from by decide, show ((0 : Int32) = 3) = False from by decide, show ((0 : Int32) = 4) = False from by decide, show ((0 : Int32) = 5) = False from by decide, show ((1 : Int32) = 2) = False from by decide, show ((1 : Int32) = 3) = False from by decide, show ((1 : Int32) = 4) = False from by decide, show ((1 : Int32) = 5) = False from by decide, show ((2 : Int32) = 1) = False from by decide, show ((2 : Int32) = 3) = False from by decide, show ((2 : Int32) = 4) = False from by decide, show ((2 : Int32) = 5) = False from by decide, show ((3 : Int32) = 1) = False from by decide, show ((3 : Int32) = 2) = False from by decide, show ((3 : Int32) = 4) = False from by decide, show ((3 : Int32) = 5) = False from by decide, show ((4 : Int32) = 1) = False from by decide, show ((4 : Int32) = 2) = False from by decide, show ((4 : Int32) = 3) = False from by decide, show ((4 : Int32) = 5) = False from by decide, show ((5 : Int32) = 1) = False from by decide, show ((5 : Int32) = 2) = False from by decide, show ((5 : Int32) = 3) = False from by decide, show ((5 : Int32) = 4) = False from by decide]
  refine s258 hT ?_
  refine go 60 (by decide) ?_
  simp only [KX, KY, KZ, KW, KV, Nat.reduceAdd, Nat.reduceSub, Nat.reduceLeDiff, true_and, and_true, true_or, or_true, or_self, reduceCtorEq, if_true, if_false, not_false_eq_true, eq_self, c268, hm_80, hm_80s, hm_112, ma_set_at, List.set_cons_succ, List.set_cons_zero]
  refine s267 (kk := 2) (by decide) (push_le hT) ?_
  refine go 60 (by decide) ?_
  simp only [KX, KY, KZ, KW, KV, Nat.reduceAdd, Nat.reduceSub, Nat.reduceLeDiff, true_and, and_true, true_or, or_true, or_self, reduceCtorEq, if_true, if_false, not_false_eq_true, eq_self, c268, hm_80, hm_80s, hm_112, ma_set_at, List.set_cons_succ, List.set_cons_zero]
  refine s266_2 (lP_le (push_le hT)) ?_
  refine go 60 (by decide) ?_
  simp only [KX, KY, KZ, KW, KV, Nat.reduceAdd, Nat.reduceSub, Nat.reduceLeDiff, true_and, and_true, true_or, or_true, or_self, reduceCtorEq, if_true, if_false, not_false_eq_true, eq_self, c268, hm_80, hm_80s, hm_112, ma_set_at, List.set_cons_succ, List.set_cons_zero]
  exact k
theorem s268_3 {h : ma_H} {Q : ma_Q} {x : Int32} {T : TT} (hT : T.1 ≤ 30) {i a : Int32} (k : Q (some (.int (tel 3 i a x T).1)) (hm h (tel 3 i a x T).2 (telp 3 i a) 3 i a)) : ma_X 268 [.ref 80, .int x] (hm h T 0 3 i a) Q := by
  refine ma_enter (m := 268) (Or.inl (by decide)) (by show 2 ≤ mt_n 268; decide +kernel) ?_
  show At 268 Q 0 (0, 0) [some (.ref 80), some (.int x), none] [] (hm h T 0 3 i a)
  refine go 60 (by decide) ?_
  simp only [KX, KY, KZ, KW, KV, Nat.reduceAdd, Nat.reduceSub, Nat.reduceLeDiff, true_and, and_true, true_or, or_true, or_self, reduceCtorEq, if_true, if_false, not_false_eq_true, eq_self, c268, hm_80, hm_80s, hm_112, ma_set_at, List.set_cons_succ, List.set_cons_zero, show ((0 : Int32) = 1) = False from by decide, show ((0 : Int32) = 2) = False from by decide, show ((0 : Int32) = 3) = False from by decide, show ((0 : Int32) = 4) = False from by decide, show ((0 : Int32) = 5) = False from by decide, show ((1 : Int32) = 2) = False from by decide, show ((1 : Int32) = 3) = False from by decide, show ((1 : Int32) = 4) = False from by decide, show ((1 : Int32) = 5) = False from by decide, show ((2 : Int32) = 1) = False from by decide, show ((2 : Int32) = 3) = False from by decide, show ((2 : Int32) = 4) = False from by decide, show ((2 : Int32) = 5) = False from by decide, show ((3 : Int32) = 1) = False from by decide, show ((3 : Int32) = 2) = False from by decide, show ((3 : Int32) = 4) = False from by decide, show ((3 : Int32) = 5) = False from by decide, show ((4 : Int32) = 1) = False from by decide, show ((4 : Int32) = 2) = False from by decide, show ((4 : Int32) = 3) = False from by decide, show ((4 : Int32) = 5) = False from by decide, show ((5 : Int32) = 1) = False from by decide, show ((5 : Int32) = 2) = False from by decide, show ((5 : Int32) = 3) = False from by decide, show ((5 : Int32) = 4) = False from by decide, show ((0 : Int32) = 2) = False from by decide, show ((0 : Int32) = 5) = False from by decide]
  refine s267 (kk := 3) (by decide) hT ?_
  refine go 60 (by decide) ?_
  simp only [KX, KY, KZ, KW, KV, Nat.reduceAdd, Nat.reduceSub, Nat.reduceLeDiff, true_and, and_true, true_or, or_true, or_self, reduceCtorEq, if_true, if_false, not_false_eq_true, eq_self, c268, hm_80, hm_80s, hm_112, ma_set_at, List.set_cons_succ, List.set_cons_zero]
  exact k
theorem s268_4 {h : ma_H} {Q : ma_Q} {x : Int32} {T : TT} (hT : T.1 ≤ 30) {i a : Int32} (k : Q (some (.int (tel 4 i a x T).1)) (hm h (tel 4 i a x T).2 (telp 4 i a) 4 i a)) : ma_X 268 [.ref 80, .int x] (hm h T 0 4 i a) Q := by
  refine ma_enter (m := 268) (Or.inl (by decide)) (by show 2 ≤ mt_n 268; decide +kernel) ?_
  show At 268 Q 0 (0, 0) [some (.ref 80), some (.int x), none] [] (hm h T 0 4 i a)
  refine go 60 (by decide) ?_
  simp only [KX, KY, KZ, KW, KV, Nat.reduceAdd, Nat.reduceSub, Nat.reduceLeDiff, true_and, and_true, true_or, or_true, or_self, reduceCtorEq, if_true, if_false, not_false_eq_true, eq_self, c268, hm_80, hm_80s, hm_112, ma_set_at, List.set_cons_succ, List.set_cons_zero, show ((0 : Int32) = 1) = False from by decide, show ((0 : Int32) = 2) = False from by decide, show ((0 : Int32) = 3) = False from by decide, show ((0 : Int32) = 4) = False from by decide, show ((0 : Int32) = 5) = False from by decide, show ((1 : Int32) = 2) = False from by decide, show ((1 : Int32) = 3) = False from by decide, show ((1 : Int32) = 4) = False from by decide, show ((1 : Int32) = 5) = False from by decide, show ((2 : Int32) = 1) = False from by decide, show ((2 : Int32) = 3) = False from by decide, show ((2 : Int32) = 4) = False from by decide, show ((2 : Int32) = 5) = False from by decide, show ((3 : Int32) = 1) = False from by decide, show ((3 : Int32) = 2) = False from by decide, show ((3 : Int32) = 4) = False from by decide, show ((3 : Int32) = 5) = False from by decide, show ((4 : Int32) = 1) = False from by decide, show ((4 : Int32) = 2) = False from by decide, show ((4 : Int32) = 3) = False from by decide, show ((4 : Int32) = 5) = False from by decide, show ((5 : Int32) = 1) = False from by decide, show ((5 : Int32) = 2) = False from by decide, show ((5 : Int32) = 3) = False from by decide, show ((5 : Int32) = 4) = False from by decide, show ((0 : Int32) = 2) = False from by decide, show ((0 : Int32) = 5) = False from by decide]
  refine s267 (kk := 4) (by decide) hT ?_
  refine go 60 (by decide) ?_
  simp only [KX, KY, KZ, KW, KV, Nat.reduceAdd, Nat.reduceSub, Nat.reduceLeDiff, true_and, and_true, true_or, or_true, or_self, reduceCtorEq, if_true, if_false, not_false_eq_true, eq_self, c268, hm_80, hm_80s, hm_112, ma_set_at, List.set_cons_succ, List.set_cons_zero]
  exact k
theorem s268_5 {h : ma_H} {Q : ma_Q} {x : Int32} {T : TT} (hT : T.1 ≤ 30) {i a : Int32} (k : Q (some (.int (tel 5 i a x T).1)) (hm h (tel 5 i a x T).2 (telp 5 i a) 5 i a)) : ma_X 268 [.ref 80, .int x] (hm h T 0 5 i a) Q := by
  refine ma_enter (m := 268) (Or.inl (by decide)) (by show 2 ≤ mt_n 268; decide +kernel) ?_
  show At 268 Q 0 (0, 0) [some (.ref 80), some (.int x), none] [] (hm h T 0 5 i a)
  refine go 60 (by decide) ?_
  simp only [KX, KY, KZ, KW, KV, Nat.reduceAdd, Nat.reduceSub, Nat.reduceLeDiff, true_and, and_true, true_or, or_true, or_self, reduceCtorEq, if_true, if_false, not_false_eq_true, eq_self, c268, hm_80, hm_80s, hm_112, ma_set_at, List.set_cons_succ, List.set_cons_zero, show ((0 : Int32) = 1) = False from by decide, show ((0 : Int32) = 2) = False from by decide, show ((0 : Int32) = 3) = False from by decide, show ((0 : Int32) = 4) = False from by decide, show ((0 : Int32) = 5) = False from by decide, show ((1 : Int32) = 2) = False from by decide, show ((1 : Int32) = 3) = False from by decide, show ((1 : Int32) = 4) = False from by decide, show ((1 : Int32) = 5) = False from by decide, show ((2 : Int32) = 1) = False from by decide, show ((2 : Int32) = 3) = False from by decide, show ((2 : Int32) = 4) = False from by decide, show ((2 : Int32) = 5) = False from by decide, show ((3 : Int32) = 1) = False from by decide, show ((3 : Int32) = 2) = False from by decide, show ((3 : Int32) = 4) = False from by decide, show ((3 : Int32) = 5) = False from by decide, show ((4 : Int32) = 1) = False from by decide, show ((4 : Int32) = 2) = False from by decide, show ((4 : Int32) = 3) = False from by decide, show ((4 : Int32) = 5) = False from by decide, show ((5 : Int32) = 1) = False from by decide, show ((5 : Int32) = 2) = False from by decide, show ((5 : Int32) = 3) = False from by decide, show ((5 : Int32) = 4) = False from by decide]
  refine s258 hT ?_
  refine go 60 (by decide) ?_
  simp only [KX, KY, KZ, KW, KV, Nat.reduceAdd, Nat.reduceSub, Nat.reduceLeDiff, true_and, and_true, true_or, or_true, or_self, reduceCtorEq, if_true, if_false, not_false_eq_true, eq_self, c268, hm_80, hm_80s, hm_112, ma_set_at, List.set_cons_succ, List.set_cons_zero]
  refine s267 (kk := 5) (by decide) (push_le hT) ?_
  refine go 60 (by decide) ?_
  simp only [KX, KY, KZ, KW, KV, Nat.reduceAdd, Nat.reduceSub, Nat.reduceLeDiff, true_and, and_true, true_or, or_true, or_self, reduceCtorEq, if_true, if_false, not_false_eq_true, eq_self, c268, hm_80, hm_80s, hm_112, ma_set_at, List.set_cons_succ, List.set_cons_zero]
  exact k
theorem s268 {h : ma_H} {Q : ma_Q} {x : Int32} {kk : Nat} (hk : kk < 6) {T : TT} (hT : T.1 ≤ 30) {i a : Int32} (k : Q (some (.int (tel kk i a x T).1)) (hm h (tel kk i a x T).2 (telp kk i a) (nI kk) i a)) : ma_X 268 [.ref 80, .int x] (hm h T 0 (nI kk) i a) Q := by
  match kk, hk with
  | 0, _ => exact s268_0 hT k
  | 1, _ => exact s268_1 hT k
  | 2, _ => exact s268_2 hT k
  | 3, _ => exact s268_3 hT k
  | 4, _ => exact s268_4 hT k
  | 5, _ => exact s268_5 hT k
theorem icasS (x : Int32) : (∃ s, s < 4 ∧ x = nI s ∧ ¬ x < 0 ∧ x < 4 ∧ x ≤ 3 ∧ vp_in x 4 ∧ x.toNatClampNeg = s) ∨ ((x < 0 ∨ ¬ x ≤ 3) ∧ (x < 0 ∨ ¬ x < 4)) := icasB x 3 (by decide)
theorem s152b {h : ma_H} {Q : ma_Q} {x : Int32} (H : Sh h) (o : x < 0 ∨ ¬ x < 4) (k : Q (some .null) h) : ma_X 152 [.ref 0, .int x] h Q := by
  refine ma_enter (m := 152) (Or.inl (by decide)) (by show 2 ≤ mt_n 152; decide +kernel) ?_
  show At 152 Q 0 (mt_c 152) [some (.ref 0), some (.int x)] [] h
  refine go 60 (by decide) ?_
  simp only [KX, KY, KZ, KW, KV, Nat.reduceAdd, Nat.reduceSub, Nat.reduceLeDiff, true_and, and_true, true_or, or_true, or_self, reduceCtorEq, if_true, if_false, not_false_eq_true, eq_self, c152]
  refine s149n o ?_
  refine go 60 (by decide) ?_
  simp only [KX, KY, KZ, KW, KV, Nat.reduceAdd, Nat.reduceSub, Nat.reduceLeDiff, true_and, and_true, true_or, or_true, or_self, reduceCtorEq, if_true, if_false, not_false_eq_true, eq_self, c152]
  exact k
theorem s152n {h : ma_H} {Q : ma_Q} {x : Int32} {s : Nat} (H : Sh h) (hs : s < 4) (x0 : ¬ x < 0) (x4 : x < 4) (x3 : x ≤ 3) (vx : vp_in x 4) (tx : x.toNatClampNeg = s) (z : ¬ ai h 25 s = 0) (k : Q (some .null) h) : ma_X 152 [.ref 0, .int x] h Q := by
  refine ma_enter (m := 152) (Or.inl (by decide)) (by show 2 ≤ mt_n 152; decide +kernel) ?_
  show At 152 Q 0 (mt_c 152) [some (.ref 0), some (.int x)] [] h
  refine go 60 (by decide) ?_
  simp only [KX, KY, KZ, KW, KV, Nat.reduceAdd, Nat.reduceSub, Nat.reduceLeDiff, true_and, and_true, true_or, or_true, or_self, reduceCtorEq, if_true, if_false, not_false_eq_true, eq_self, c152]
  refine s149y x0 x4 ?_
  refine go 60 (by decide) ?_
  simp only [KX, KY, KZ, KW, KV, Nat.reduceAdd, Nat.reduceSub, Nat.reduceLeDiff, true_and, and_true, true_or, or_true, or_self, reduceCtorEq, if_true, if_false, not_false_eq_true, eq_self, c152, H.e0, H.e25, tx]
  rw [if_neg z]
  exact ⟨vx, k⟩
theorem s152o {h : ma_H} {Q : ma_Q} {x : Int32} {s : Nat} (H : Sh h) (hs : s < 4) (x0 : ¬ x < 0) (x4 : x < 4) (x3 : x ≤ 3) (vx : vp_in x 4) (tx : x.toNatClampNeg = s) {n : Nat} (z : ai h 25 s = 0) (e : fi h 34 2 = nI n) (o : ai h 26 s < 0 ∨ ¬ ai h 26 s < nI n) (k : Q (some .null) h) : ma_X 152 [.ref 0, .int x] h Q := by
  refine ma_enter (m := 152) (Or.inl (by decide)) (by show 2 ≤ mt_n 152; decide +kernel) ?_
  show At 152 Q 0 (mt_c 152) [some (.ref 0), some (.int x)] [] h
  refine go 60 (by decide) ?_
  simp only [KX, KY, KZ, KW, KV, Nat.reduceAdd, Nat.reduceSub, Nat.reduceLeDiff, true_and, and_true, true_or, or_true, or_self, reduceCtorEq, if_true, if_false, not_false_eq_true, eq_self, c152]
  refine s149y x0 x4 ?_
  refine go 60 (by decide) ?_
  simp only [KX, KY, KZ, KW, KV, Nat.reduceAdd, Nat.reduceSub, Nat.reduceLeDiff, true_and, and_true, true_or, or_true, or_self, reduceCtorEq, if_true, if_false, not_false_eq_true, eq_self, c152, H.e0, H.e25, H.e26, H.e34, tx]
  rw [if_pos z]
  refine ⟨vx, vx, ?_⟩
  refine s95n H e o ?_
  refine go 60 (by decide) ?_
  simp only [KX, KY, KZ, KW, KV, Nat.reduceAdd, Nat.reduceSub, Nat.reduceLeDiff, true_and, and_true, true_or, or_true, or_self, reduceCtorEq, if_true, if_false, not_false_eq_true, eq_self, c152]
  exact k
theorem s152 {h : ma_H} {Q : ma_Q} {x : Int32} {s : Nat} (H : Sh h) (hs : s < 4) (x0 : ¬ x < 0) (x4 : x < 4) (x3 : x ≤ 3) (vx : vp_in x 4) (tx : x.toNatClampNeg = s) {n i r : Nat} (z : ai h 25 s = 0) (e : fi h 34 2 = nI n) (n6 : n ≤ 6) (hi : i < n) (q : ai h 26 s = nI i) (er : ar h 48 i = some r) (k : Q (some (.ref r)) h) : ma_X 152 [.ref 0, .int x] h Q := by
  refine ma_enter (m := 152) (Or.inl (by decide)) (by show 2 ≤ mt_n 152; decide +kernel) ?_
  show At 152 Q 0 (mt_c 152) [some (.ref 0), some (.int x)] [] h
  refine go 60 (by decide) ?_
  simp only [KX, KY, KZ, KW, KV, Nat.reduceAdd, Nat.reduceSub, Nat.reduceLeDiff, true_and, and_true, true_or, or_true, or_self, reduceCtorEq, if_true, if_false, not_false_eq_true, eq_self, c152]
  refine s149y x0 x4 ?_
  refine go 60 (by decide) ?_
  simp only [KX, KY, KZ, KW, KV, Nat.reduceAdd, Nat.reduceSub, Nat.reduceLeDiff, true_and, and_true, true_or, or_true, or_self, reduceCtorEq, if_true, if_false, not_false_eq_true, eq_self, c152, H.e0, H.e25, H.e26, H.e34, tx]
  rw [if_pos z]
  refine ⟨vx, vx, ?_⟩
  refine s95 H e n6 hi q er ?_
  refine go 60 (by decide) ?_
  simp only [KX, KY, KZ, KW, KV, Nat.reduceAdd, Nat.reduceSub, Nat.reduceLeDiff, true_and, and_true, true_or, or_true, or_self, reduceCtorEq, if_true, if_false, not_false_eq_true, eq_self, c152]
  exact k
theorem s255e {h : ma_H} {Q : ma_Q} {x : Int32} {s : Nat} (H : Sh h) (hs : s < 4) (vx : vp_in x 4) (tx : x.toNatClampNeg = s) (z : ¬ ai h 109 s = 0) (z2 : ai h 109 s < 0) (k : Q (some (.int (-1))) h) : ma_X 255 [.ref 80, .int x] h Q := by
  refine ma_enter (m := 255) (Or.inl (by decide)) (by show 2 ≤ mt_n 255; decide +kernel) ?_
  show At 255 Q 0 (mt_c 255) [some (.ref 80), some (.int x)] [] h
  refine go 60 (by decide) ?_
  simp only [KX, KY, KZ, KW, KV, Nat.reduceAdd, Nat.reduceSub, Nat.reduceLeDiff, true_and, and_true, true_or, or_true, or_self, reduceCtorEq, if_true, if_false, not_false_eq_true, eq_self, c255, H.e80, H.e109, tx]
  rw [if_neg z, if_pos z2]
  exact ⟨vx, vx, k⟩
theorem s255r {h : ma_H} {Q : ma_Q} {x : Int32} {s : Nat} (H : Sh h) (hs : s < 4) (vx : vp_in x 4) (tx : x.toNatClampNeg = s) (z : ¬ ai h 109 s = 0) (z2 : ¬ ai h 109 s < 0) (k : Q (some (.int 9)) h) : ma_X 255 [.ref 80, .int x] h Q := by
  refine ma_enter (m := 255) (Or.inl (by decide)) (by show 2 ≤ mt_n 255; decide +kernel) ?_
  show At 255 Q 0 (mt_c 255) [some (.ref 80), some (.int x)] [] h
  refine go 60 (by decide) ?_
  simp only [KX, KY, KZ, KW, KV, Nat.reduceAdd, Nat.reduceSub, Nat.reduceLeDiff, true_and, and_true, true_or, or_true, or_self, reduceCtorEq, if_true, if_false, not_false_eq_true, eq_self, c255, H.e80, H.e109, tx]
  rw [if_neg z, if_neg z2]
  exact ⟨vx, vx, k⟩
theorem s255o {h : ma_H} {Q : ma_Q} {x : Int32} {s : Nat} (H : Sh h) (hs : s < 4) (vx : vp_in x 4) (tx : x.toNatClampNeg = s) {n : Nat} (z : ai h 109 s = 0) (e : fi h 80 9 = nI n) (o : ai h 110 s < 0 ∨ ¬ ai h 110 s ≤ nI n - 1) (k : Q (some (.int (-1))) h) : ma_X 255 [.ref 80, .int x] h Q := by
  refine ma_enter (m := 255) (Or.inl (by decide)) (by show 2 ≤ mt_n 255; decide +kernel) ?_
  show At 255 Q 0 (mt_c 255) [some (.ref 80), some (.int x)] [] h
  refine go 60 (by decide) ?_
  simp only [KX, KY, KZ, KW, KV, Nat.reduceAdd, Nat.reduceSub, Nat.reduceLeDiff, true_and, and_true, true_or, or_true, or_self, reduceCtorEq, if_true, if_false, not_false_eq_true, eq_self, c255, H.e80, H.e109, H.e110, tx]
  rw [if_pos z]
  refine ⟨vx, vx, ?_⟩
  refine s210n H e o ?_
  refine go 60 (by decide) ?_
  simp only [KX, KY, KZ, KW, KV, Nat.reduceAdd, Nat.reduceSub, Nat.reduceLeDiff, true_and, and_true, true_or, or_true, or_self, reduceCtorEq, if_true, if_false, not_false_eq_true, eq_self, c255]
  exact k
theorem s255 {h : ma_H} {Q : ma_Q} {x : Int32} {s : Nat} (H : Sh h) (hs : s < 4) (vx : vp_in x 4) (tx : x.toNatClampNeg = s) {n i kk : Nat} (z : ai h 109 s = 0) (e : fi h 80 9 = nI n) (n6 : n ≤ 6) (hi : i < n) (q : ai h 110 s = nI i) (ek : ai h 90 (2 * i) = nI kk) (k : Q (some (.int (nI kk))) h) : ma_X 255 [.ref 80, .int x] h Q := by
  have y1 : ¬ ai h 110 s < 0 := by rw [q]; exact nI_pos (by omega)
  have y2 : ai h 110 s ≤ nI n - 1 := by rw [q]; obtain ⟨m, rfl⟩ : ∃ m, n = m + 1 := ⟨n - 1, by omega⟩; rw [nI_pred]; exact nI_le (by omega) (by omega)
  have i1 := ix1 12 (by decide) q (by omega)
  refine ma_enter (m := 255) (Or.inl (by decide)) (by show 2 ≤ mt_n 255; decide +kernel) ?_
  show At 255 Q 0 (mt_c 255) [some (.ref 80), some (.int x)] [] h
  refine go 60 (by decide) ?_
  simp only [KX, KY, KZ, KW, KV, Nat.reduceAdd, Nat.reduceSub, Nat.reduceLeDiff, true_and, and_true, true_or, or_true, or_self, reduceCtorEq, if_true, if_false, not_false_eq_true, eq_self, c255, H.e80, H.e109, H.e110, tx]
  rw [if_pos z]
  refine ⟨vx, vx, ?_⟩
  refine s210y H e y1 y2 ?_
  refine go 60 (by decide) ?_
  simp only [KX, KY, KZ, KW, KV, Nat.reduceAdd, Nat.reduceSub, Nat.reduceLeDiff, true_and, and_true, true_or, or_true, or_self, reduceCtorEq, if_true, if_false, not_false_eq_true, eq_self, c255, H.e80, H.e90, H.e110, tx]
  rw [i1.2, ek]
  exact ⟨vx, i1.1, k⟩
