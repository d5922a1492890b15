/-! act answers alike, on -/
theorem m0_80 (h : ma_H) : (ma_set h 80 (.inr (12, (mO h).set 53 (.int 0)))).2.1 80 = .inr (12, [.ref 81, .ref 82, .ref 83, .ref 84, .ref 85, .ref 86, .ref 87, .ref 88, .ref 89, .int (fi h 80 9), .ref 90, .int (fi h 80 11), .int (fi h 80 12), .ref 91, .int (fi h 80 14), .ref 92, .ref 93, .ref 94, .int (fi h 80 18), .int (fi h 80 19), .int (fi h 80 20), .int (fi h 80 21), .long (fj h 80 22), .int (fi h 80 23), .int (fi h 80 24), .ref 95, .ref 96, .ref 97, .int (fi h 80 28), .int (fi h 80 29), .int (fi h 80 30), .ref 98, .ref 99, .ref 100, .ref 101, .long (fj h 80 35), .long (fj h 80 36), .ref 102, .ref 103, .ref 104, .ref 105, .int (fi h 80 41), .int (fi h 80 42), .ref 106, .ref 107, .ref 108, .ref 109, .ref 110, .ref 111, .int (fi h 80 49), .int (fi h 80 50), .int (fi h 80 51), .ref 112, .int 0, .int (fi h 80 54), .int (fi h 80 55), .ref 113, .int (fi h 80 57), .ref 114]) := ma_set_at _ _ _
theorem m0_sh {h : ma_H} (H : Sh h) : Sh (ma_set h 80 (.inr (12, (mO h).set 53 (.int 0)))) := sh_set H rfl
theorem m0_eq (h : ma_H) : ma_set h 80 (.inr (12, [.ref 81, .ref 82, .ref 83, .ref 84, .ref 85, .ref 86, .ref 87, .ref 88, .ref 89, .int (fi h 80 9), .ref 90, .int (fi h 80 11), .int (fi h 80 12), .ref 91, .int (fi h 80 14), .ref 92, .ref 93, .ref 94, .int (fi h 80 18), .int (fi h 80 19), .int (fi h 80 20), .int (fi h 80 21), .long (fj h 80 22), .int (fi h 80 23), .int (fi h 80 24), .ref 95, .ref 96, .ref 97, .int (fi h 80 28), .int (fi h 80 29), .int (fi h 80 30), .ref 98, .ref 99, .ref 100, .ref 101, .long (fj h 80 35), .long (fj h 80 36), .ref 102, .ref 103, .ref 104, .ref 105, .int (fi h 80 41), .int (fi h 80 42), .ref 106, .ref 107, .ref 108, .ref 109, .ref 110, .ref 111, .int (fi h 80 49), .int (fi h 80 50), .int (fi h 80 51), .ref 112, .int 0, .int (fi h 80 54), .int (fi h 80 55), .ref 113, .int (fi h 80 57), .ref 114])) = (ma_set h 80 (.inr (12, (mO h).set 53 (.int 0)))) := rfl
theorem s269b {h : ma_H} {Q : ma_Q} {s y x : Int32} (H : Sh h) (o : s < 0 ∨ ¬ s ≤ 3) (k : Q (some (.int 0)) (ma_set h 80 (.inr (12, (mO h).set 53 (.int 0))))) : ma_X 269 [.ref 80, .int s, .int y, .int x] h Q := by
  refine ma_enter (m := 269) (Or.inl (by decide)) (by show 4 ≤ mt_n 269; decide +kernel) ?_
  show At 269 Q 0 (0, 0) [some (.ref 80), some (.int s), some (.int y), some (.int x), none, none] [] h
  refine go 60 (by decide) ?_
  simp only [KX, KY, KZ, KW, KV, Nat.reduceAdd, Nat.reduceSub, Nat.reduceLeDiff, true_and, and_true, true_or, or_true, or_self, reduceCtorEq, if_true, if_false, not_false_eq_true, eq_self, c269, H.e80, List.set_cons_succ, List.set_cons_zero]
  refine ⟨by simp only [List.length_cons, List.length_nil]; omega, trivial, ?_⟩
  rw [m0_eq]
  refine s248n o ?_
  refine go 60 (by decide) ?_
  simp only [KX, KY, KZ, KW, KV, Nat.reduceAdd, Nat.reduceSub, Nat.reduceLeDiff, true_and, and_true, true_or, or_true, or_self, reduceCtorEq, if_true, if_false, not_false_eq_true, eq_self, c269]
  refine go 60 (by decide) ?_
  simp only [KX, KY, KZ, KW, KV, Nat.reduceAdd, Nat.reduceSub, Nat.reduceLeDiff, true_and, and_true, true_or, or_true, or_self, reduceCtorEq, if_true, if_false, not_false_eq_true, eq_self, c269]
  refine s162c (fun _ _ => ?_) (fun _ => ?_)
  · refine go 60 (by decide) ?_
    simp only [KX, KY, KZ, KW, KV, Nat.reduceAdd, Nat.reduceSub, Nat.reduceLeDiff, true_and, and_true, true_or, or_true, or_self, reduceCtorEq, if_true, if_false, not_false_eq_true, eq_self, c269]
    refine s162n (Or.inl (by decide)) ?_
    refine go 60 (by decide) ?_
    simp only [KX, KY, KZ, KW, KV, Nat.reduceAdd, Nat.reduceSub, Nat.reduceLeDiff, true_and, and_true, true_or, or_true, or_self, reduceCtorEq, if_true, if_false, not_false_eq_true, eq_self, c269]
    exact k
  · refine go 60 (by decide) ?_
    simp only [KX, KY, KZ, KW, KV, Nat.reduceAdd, Nat.reduceSub, Nat.reduceLeDiff, true_and, and_true, true_or, or_true, or_self, reduceCtorEq, if_true, if_false, not_false_eq_true, eq_self, c269]
    exact k
theorem s269n {h : ma_H} {Q : ma_Q} {s y x on : Int32} (H : Sh h) (x0 : ¬ s < 0) (x3 : s ≤ 3) (K : ∀ Q : ma_Q, Q (some (.int on)) (ma_set h 80 (.inr (12, (mO h).set 53 (.int 0)))) → ma_X 255 [.ref 80, .int s] (ma_set h 80 (.inr (12, (mO h).set 53 (.int 0)))) Q) (o : (y < 0 ∨ ¬ y ≤ 3) ∨ (on < 0 ∨ ¬ on ≤ 5)) (k : Q (some (.int 0)) (ma_set h 80 (.inr (12, (mO h).set 53 (.int 0))))) : ma_X 269 [.ref 80, .int s, .int y, .int x] h Q := by
  refine ma_enter (m := 269) (Or.inl (by decide)) (by show 4 ≤ mt_n 269; decide +kernel) ?_
  show At 269 Q 0 (0, 0) [some (.ref 80), some (.int s), some (.int y), some (.int x), none, none] [] h
  refine go 60 (by decide) ?_
  simp only [KX, KY, KZ, KW, KV, Nat.reduceAdd, Nat.reduceSub, Nat.reduceLeDiff, true_and, and_true, true_or, or_true, or_self, reduceCtorEq, if_true, if_false, not_false_eq_true, eq_self, c269, H.e80, List.set_cons_succ, List.set_cons_zero]
  refine ⟨by simp only [List.length_cons, List.length_nil]; omega, trivial, ?_⟩
  rw [m0_eq]
  refine s248y x0 x3 ?_
  refine go 60 (by decide) ?_
  simp only [KX, KY, KZ, KW, KV, Nat.reduceAdd, Nat.reduceSub, Nat.reduceLeDiff, true_and, and_true, true_or, or_true, or_self, reduceCtorEq, if_true, if_false, not_false_eq_true, eq_self, c269, m0_80]
  refine K _ ?_
  refine go 60 (by decide) ?_
  simp only [KX, KY, KZ, KW, KV, Nat.reduceAdd, Nat.reduceSub, Nat.reduceLeDiff, true_and, and_true, true_or, or_true, or_self, reduceCtorEq, if_true, if_false, not_false_eq_true, eq_self, c269]
  refine go 60 (by decide) ?_
  simp only [KX, KY, KZ, KW, KV, Nat.reduceAdd, Nat.reduceSub, Nat.reduceLeDiff, true_and, and_true, true_or, or_true, or_self, reduceCtorEq, if_true, if_false, not_false_eq_true, eq_self, c269]
  refine s162c (fun y1 y2 => ?_) (fun _ => ?_)
  · refine go 60 (by decide) ?_
    simp only [KX, KY, KZ, KW, KV, Nat.reduceAdd, Nat.reduceSub, Nat.reduceLeDiff, true_and, and_true, true_or, or_true, or_self, reduceCtorEq, if_true, if_false, not_false_eq_true, eq_self, c269]
    refine s162n (o.resolve_left (by rintro (w | w) <;> contradiction)) ?_
    refine go 60 (by decide) ?_
    simp only [KX, KY, KZ, KW, KV, Nat.reduceAdd, Nat.reduceSub, Nat.reduceLeDiff, true_and, and_true, true_or, or_true, or_self, reduceCtorEq, if_true, if_false, not_false_eq_true, eq_self, c269]
    exact k
  · refine go 60 (by decide) ?_
    simp only [KX, KY, KZ, KW, KV, Nat.reduceAdd, Nat.reduceSub, Nat.reduceLeDiff, true_and, and_true, true_or, or_true, or_self, reduceCtorEq, if_true, if_false, not_false_eq_true, eq_self, c269]
    exact k
theorem hm_0 {h : ma_H} (H : Sh h) (kx i a : Int32) : ma_set h 80 (.inr (12, [.ref 81, .ref 82, .ref 83, .ref 84, .ref 85, .ref 86, .ref 87, .ref 88, .ref 89, .int (fi h 80 9), .ref 90, .int (fi h 80 11), .int (fi h 80 12), .ref 91, .int (fi h 80 14), .ref 92, .ref 93, .ref 94, .int (fi h 80 18), .int (fi h 80 19), .int (fi h 80 20), .int (fi h 80 21), .long (fj h 80 22), .int (fi h 80 23), .int (fi h 80 24), .ref 95, .ref 96, .ref 97, .int (fi h 80 28), .int (fi h 80 29), .int (fi h 80 30), .ref 98, .ref 99, .ref 100, .ref 101, .long (fj h 80 35), .long (fj h 80 36), .ref 102, .ref 103, .ref 104, .ref 105, .int (fi h 80 41), .int (fi h 80 42), .ref 106, .ref 107, .ref 108, .ref 109, .ref 110, .ref 111, .int kx, .int i, .int a, .ref 112, .int 0, .int 0, .int (fi h 80 55), .ref 113, .int (fi h 80 57), .ref 114])) = hm h (0, ai h 112) 0 kx i a := by
  unfold hm
  rw [ma_set_id H.e112]
  rfl
theorem s269_0 {h : ma_H} {Q : ma_Q} {s x : Int32} {s' kk i a : Nat} (H : Sh h) (x0 : ¬ s < 0) (x3 : s ≤ 3) (ts : s.toNatClampNeg = s') (vs : vp_in s 4) (hk : kk < 6) (hi : i < 6) (q : ai h 110 s' = nI i) (ea : ai h 90 (2 * i + 1) = nI a) (K : ∀ Q : ma_Q, Q (some (.int (nI kk))) (ma_set h 80 (.inr (12, (mO h).set 53 (.int 0)))) → ma_X 255 [.ref 80, .int s] (ma_set h 80 (.inr (12, (mO h).set 53 (.int 0)))) Q) (k : Q (some (.int (actv (acv 0 kk (nI i) (nI a) x (0, ai h 112)).1 (acp 0 kk (nI i) (nI a))))) (hm h (acv 0 kk (nI i) (nI a) x (0, ai h 112)).2 (acp 0 kk (nI i) (nI a)) (nI kk) (nI i) (nI a))) : ma_X 269 [.ref 80, .int s, .int 0, .int x] h Q := by
  have d : ∀ v : Int32, actv v (acp 0 kk (nI i) (nI a)) = if acp 0 kk (nI i) (nI a) = 0 then v else -15 := fun _ => rfl
  have i2 := ix2 1 12 (by decide) (show nI i = nI i from rfl) (by omega)
  refine ma_enter (m := 269) (Or.inl (by decide)) (by show 4 ≤ mt_n 269; decide +kernel) ?_
  show At 269 Q 0 (0, 0) [some (.ref 80), some (.int s), some (.int 0), some (.int x), none, none] [] h
  refine go 60 (by decide) ?_
  simp only [KX, KY, KZ, KW, KV, Nat.reduceAdd, Nat.reduceSub, Nat.reduceLeDiff, true_and, and_true, true_or, or_true, or_self, reduceCtorEq, if_true, if_false, not_false_eq_true, eq_self, c269, H.e80, List.set_cons_succ, List.set_cons_zero]
  refine ⟨by simp only [List.length_cons, List.length_nil]; omega, trivial, ?_⟩
  rw [m0_eq]
  refine s248y x0 x3 ?_
  refine go 60 (by decide) ?_
  simp only [KX, KY, KZ, KW, KV, Nat.reduceAdd, Nat.reduceSub, Nat.reduceLeDiff, true_and, and_true, true_or, or_true, or_self, reduceCtorEq, if_true, if_false, not_false_eq_true, eq_self, c269, m0_80]
  refine K _ ?_
  refine go 60 (by decide) ?_
  simp only [KX, KY, KZ, KW, KV, Nat.reduceAdd, Nat.reduceSub, Nat.reduceLeDiff, true_and, and_true, true_or, or_true, or_self, reduceCtorEq, if_true, if_false, not_false_eq_true, eq_self, c269]
  refine go 60 (by decide) ?_
  simp only [KX, KY, KZ, KW, KV, Nat.reduceAdd, Nat.reduceSub, Nat.reduceLeDiff, true_and, and_true, true_or, or_true, or_self, reduceCtorEq, if_true, if_false, not_false_eq_true, eq_self, c269]
  refine s162y (by decide) (by decide) ?_
  refine go 60 (by decide) ?_
  simp only [KX, KY, KZ, KW, KV, Nat.reduceAdd, Nat.reduceSub, Nat.reduceLeDiff, true_and, and_true, true_or, or_true, or_self, reduceCtorEq, if_true, if_false, not_false_eq_true, eq_self, c269]
  refine s162y (nI_pos (by omega)) (nI_le (a := kk) (b := 5) (by omega) (by decide)) ?_
  refine go 200 (by decide) ?_
  simp only [KX, KY, KZ, KW, KV, Nat.reduceAdd, Nat.reduceSub, Nat.reduceLeDiff, true_and, and_true, true_or, or_true, or_self, reduceCtorEq, if_true, if_false, not_false_eq_true, eq_self, c269, mO, ma_set_at, ma_set_set, ts, q, List.set_cons_succ, List.set_cons_zero, (show ∀ c, (ma_set h 80 c).2.1 110 = .inl (.int, 4, .inl (ai h 110)) from fun c => (ma_set_ne _ _ (by decide)).trans H.e110), (show ∀ c, (ma_set h 80 c).2.1 90 = .inl (.int, 12, .inl (ai h 90)) from fun c => (ma_set_ne _ _ (by decide)).trans H.e90), show ((0 : Int32) = 1) = False from by decide, show ((0 : Int32) = 2) = False from by decide]
  rw [show (2 * nI i + 1 : Int32).toNatClampNeg = 2 * i + 1 from i2.2, ea]
  refine ⟨by simp only [List.length_cons, List.length_nil]; omega, trivial, vs, by simp only [List.length_cons, List.length_nil]; omega, trivial, i2.1, by simp only [List.length_cons, List.length_nil]; omega, trivial, by simp only [List.length_cons, List.length_nil]; omega, Or.inl rfl, ?_⟩
  rw [hm_0 H]
  refine s261 hk (Nat.zero_le _) ?_
  refine go 60 (by decide) ?_
  simp only [KX, KY, KZ, KW, KV, Nat.reduceAdd, Nat.reduceSub, Nat.reduceLeDiff, true_and, and_true, true_or, or_true, or_self, reduceCtorEq, if_true, if_false, not_false_eq_true, eq_self, c269, hm_80, hm_80s, hm_112, ma_set_at, List.set_cons_succ, List.set_cons_zero]
  refine go 60 (by decide) ?_
  simp only [KX, KY, KZ, KW, KV, Nat.reduceAdd, Nat.reduceSub, Nat.reduceLeDiff, true_and, and_true, true_or, or_true, or_self, reduceCtorEq, if_true, if_false, not_false_eq_true, eq_self, c269, hm_80, hm_80s, hm_112, ma_set_at, List.set_cons_succ, List.set_cons_zero]
  exact k
theorem s269_1 {h : ma_H} {Q : ma_Q} {s x : Int32} {s' kk i a : Nat} (H : Sh h) (x0 : ¬ s < 0) (x3 : s ≤ 3) (ts : s.toNatClampNeg = s') (vs : vp_in s 4) (hk : kk < 6) (hi : i < 6) (q : ai h 110 s' = nI i) (ea : ai h 90 (2 * i + 1) = nI a) (K : ∀ Q : ma_Q, Q (some (.int (nI kk))) (ma_set h 80 (.inr (12, (mO h).set 53 (.int 0)))) → ma_X 255 [.ref 80, .int s] (ma_set h 80 (.inr (12, (mO h).set 53 (.int 0)))) Q) (k : Q (some (.int (actv (acv 1 kk (nI i) (nI a) x (0, ai h 112)).1 (acp 1 kk (nI i) (nI a))))) (hm h (acv 1 kk (nI i) (nI a) x (0, ai h 112)).2 (acp 1 kk (nI i) (nI a)) (nI kk) (nI i) (nI a))) : ma_X 269 [.ref 80, .int s, .int 1, .int x] h Q := by
  have d : ∀ v : Int32, actv v (acp 1 kk (nI i) (nI a)) = if acp 1 kk (nI i) (nI a) = 0 then v else -15 := fun _ => rfl
  have i2 := ix2 1 12 (by decide) (show nI i = nI i from rfl) (by omega)
  refine ma_enter (m := 269) (Or.inl (by decide)) (by show 4 ≤ mt_n 269; decide +kernel) ?_
  show At 269 Q 0 (0, 0) [some (.ref 80), some (.int s), some (.int 1), some (.int x), none, none] [] h
  refine go 60 (by decide) ?_
  simp only [KX, KY, KZ, KW, KV, Nat.reduceAdd, Nat.reduceSub, Nat.reduceLeDiff, true_and, and_true, true_or, or_true, or_self, reduceCtorEq, if_true, if_false, not_false_eq_true, eq_self, c269, H.e80, List.set_cons_succ, List.set_cons_zero]
  refine ⟨by simp only [List.length_cons, List.length_nil]; omega, trivial, ?_⟩
  rw [m0_eq]
  refine s248y x0 x3 ?_
  refine go 60 (by decide) ?_
  simp only [KX, KY, KZ, KW, KV, Nat.reduceAdd, Nat.reduceSub, Nat.reduceLeDiff, true_and, and_true, true_or, or_true, or_self, reduceCtorEq, if_true, if_false, not_false_eq_true, eq_self, c269, m0_80]
  refine K _ ?_
  refine go 60 (by decide) ?_
  simp only [KX, KY, KZ, KW, KV, Nat.reduceAdd, Nat.reduceSub, Nat.reduceLeDiff, true_and, and_true, true_or, or_true, or_self, reduceCtorEq, if_true, if_false, not_false_eq_true, eq_self, c269]
  refine go 60 (by decide) ?_
  simp only [KX, KY, KZ, KW, KV, Nat.reduceAdd, Nat.reduceSub, Nat.reduceLeDiff, true_and, and_true, true_or, or_true, or_self, reduceCtorEq, if_true, if_false, not_false_eq_true, eq_self, c269]
  refine s162y (by decide) (by decide) ?_
  refine go 60 (by decide) ?_
  simp only [KX, KY, KZ, KW, KV, Nat.reduceAdd, Nat.reduceSub, Nat.reduceLeDiff, true_and, and_true, true_or, or_true, or_self, reduceCtorEq, if_true, if_false, not_false_eq_true, eq_self, c269]
  refine s162y (nI_pos (by omega)) (nI_le (a := kk) (b := 5) (by omega) (by decide)) ?_
  refine go 200 (by decide) ?_
  simp only [KX, KY, KZ, KW, KV, Nat.reduceAdd, Nat.reduceSub, Nat.reduceLeDiff, true_and, and_true, true_or, or_true, or_self, reduceCtorEq, if_true, if_false, not_false_eq_true, eq_self, c269, mO, ma_set_at, ma_set_set, ts, q, List.set_cons_succ, List.set_cons_zero, (show ∀ c, (ma_set h 80 c).2.1 110 = .inl (.int, 4, .inl (ai h 110)) from fun c => (ma_set_ne _ _ (by decide)).trans H.e110), (show ∀ c, (ma_set h 80 c).2.1 90 = .inl (.int, 12, .inl (ai h 90)) from fun c => (ma_set_ne _ _ (by decide)).trans H.e90), show ((1 : Int32) = 0) = False from by decide, show ((1 : Int32) = 2) = False from by decide]
  rw [show (2 * nI i + 1 : Int32).toNatClampNeg = 2 * i + 1 from i2.2, ea]
  refine ⟨by simp only [List.length_cons, List.length_nil]; omega, trivial, vs, by simp only [List.length_cons, List.length_nil]; omega, trivial, i2.1, by simp only [List.length_cons, List.length_nil]; omega, trivial, by simp only [List.length_cons, List.length_nil]; omega, Or.inl rfl, ?_⟩
  rw [hm_0 H]
  refine s264 hk (Nat.zero_le _) ?_
  refine go 60 (by decide) ?_
  simp only [KX, KY, KZ, KW, KV, Nat.reduceAdd, Nat.reduceSub, Nat.reduceLeDiff, true_and, and_true, true_or, or_true, or_self, reduceCtorEq, if_true, if_false, not_false_eq_true, eq_self, c269, hm_80, hm_80s, hm_112, ma_set_at, List.set_cons_succ, List.set_cons_zero]
  refine go 60 (by decide) ?_
  simp only [KX, KY, KZ, KW, KV, Nat.reduceAdd, Nat.reduceSub, Nat.reduceLeDiff, true_and, and_true, true_or, or_true, or_self, reduceCtorEq, if_true, if_false, not_false_eq_true, eq_self, c269, hm_80, hm_80s, hm_112, ma_set_at, List.set_cons_succ, List.set_cons_zero]
  exact k
theorem s269_2 {h : ma_H} {Q : ma_Q} {s x : Int32} {s' kk i a : Nat} (H : Sh h) (x0 : ¬ s < 0) (x3 : s ≤ 3) (ts : s.toNatClampNeg = s') (vs : vp_in s 4) (hk : kk < 6) (hi : i < 6) (q : ai h 110 s' = nI i) (ea : ai h 90 (2 * i + 1) = nI a) (K : ∀ Q : ma_Q, Q (some (.int (nI kk))) (ma_set h 80 (.inr (12, (mO h).set 53 (.int 0)))) → ma_X 255 [.ref 80, .int s] (ma_set h 80 (.inr (12, (mO h).set 53 (.int 0)))) Q) (k : Q (some (.int (actv (acv 2 kk (nI i) (nI a) x (0, ai h 112)).1 (acp 2 kk (nI i) (nI a))))) (hm h (acv 2 kk (nI i) (nI a) x (0, ai h 112)).2 (acp 2 kk (nI i) (nI a)) (nI kk) (nI i) (nI a))) : ma_X 269 [.ref 80, .int s, .int 2, .int x] h Q := by
  have d : ∀ v : Int32, actv v (acp 2 kk (nI i) (nI a)) = if acp 2 kk (nI i) (nI a) = 0 then v else -15 := fun _ => rfl
  have i2 := ix2 1 12 (by decide) (show nI i = nI i from rfl) (by omega)
  refine ma_enter (m := 269) (Or.inl (by decide)) (by show 4 ≤ mt_n 269; decide +kernel) ?_
  show At 269 Q 0 (0, 0) [some (.ref 80), some (.int s), some (.int 2), some (.int x), none, none] [] h
  refine go 60 (by decide) ?_
  simp only [KX, KY, KZ, KW, KV, Nat.reduceAdd, Nat.reduceSub, Nat.reduceLeDiff, true_and, and_true, true_or, or_true, or_self, reduceCtorEq, if_true, if_false, not_false_eq_true, eq_self, c269, H.e80, List.set_cons_succ, List.set_cons_zero]
  refine ⟨by simp only [List.length_cons, List.length_nil]; omega, trivial, ?_⟩
  rw [m0_eq]
  refine s248y x0 x3 ?_
  refine go 60 (by decide) ?_
  simp only [KX, KY, KZ, KW, KV, Nat.reduceAdd, Nat.reduceSub, Nat.reduceLeDiff, true_and, and_true, true_or, or_true, or_self, reduceCtorEq, if_true, if_false, not_false_eq_true, eq_self, c269, m0_80]
  refine K _ ?_
  refine go 60 (by decide) ?_
  simp only [KX, KY, KZ, KW, KV, Nat.reduceAdd, Nat.reduceSub, Nat.reduceLeDiff, true_and, and_true, true_or, or_true, or_self, reduceCtorEq, if_true, if_false, not_false_eq_true, eq_self, c269]
  refine go 60 (by decide) ?_
  simp only [KX, KY, KZ, KW, KV, Nat.reduceAdd, Nat.reduceSub, Nat.reduceLeDiff, true_and, and_true, true_or, or_true, or_self, reduceCtorEq, if_true, if_false, not_false_eq_true, eq_self, c269]
  refine s162y (by decide) (by decide) ?_
  refine go 60 (by decide) ?_
  simp only [KX, KY, KZ, KW, KV, Nat.reduceAdd, Nat.reduceSub, Nat.reduceLeDiff, true_and, and_true, true_or, or_true, or_self, reduceCtorEq, if_true, if_false, not_false_eq_true, eq_self, c269]
  refine s162y (nI_pos (by omega)) (nI_le (a := kk) (b := 5) (by omega) (by decide)) ?_
  refine go 200 (by decide) ?_
  simp only [KX, KY, KZ, KW, KV, Nat.reduceAdd, Nat.reduceSub, Nat.reduceLeDiff, true_and, and_true, true_or, or_true, or_self, reduceCtorEq, if_true, if_false, not_false_eq_true, eq_self, c269, mO, ma_set_at, ma_set_set, ts, q, List.set_cons_succ, List.set_cons_zero, (show ∀ c, (ma_set h 80 c).2.1 110 = .inl (.int, 4, .inl (ai h 110)) from fun c => (ma_set_ne _ _ (by decide)).trans H.e110), (show ∀ c, (ma_set h 80 c).2.1 90 = .inl (.int, 12, .inl (ai h 90)) from fun c => (ma_set_ne _ _ (by decide)).trans H.e90), show ((2 : Int32) = 0) = False from by decide, show ((2 : Int32) = 1) = False from by decide]
  rw [show (2 * nI i + 1 : Int32).toNatClampNeg = 2 * i + 1 from i2.2, ea]
  refine ⟨by simp only [List.length_cons, List.length_nil]; omega, trivial, vs, by simp only [List.length_cons, List.length_nil]; omega, trivial, i2.1, by simp only [List.length_cons, List.length_nil]; omega, trivial, by simp only [List.length_cons, List.length_nil]; omega, Or.inl rfl, ?_⟩
  rw [hm_0 H]
  refine s266 hk (Nat.zero_le _) ?_
  refine go 60 (by decide) ?_
  simp only [KX, KY, KZ, KW, KV, Nat.reduceAdd, Nat.reduceSub, Nat.reduceLeDiff, true_and, and_true, true_or, or_true, or_self, reduceCtorEq, if_true, if_false, not_false_eq_true, eq_self, c269, hm_80, hm_80s, hm_112, ma_set_at, List.set_cons_succ, List.set_cons_zero]
  refine go 60 (by decide) ?_
  simp only [KX, KY, KZ, KW, KV, Nat.reduceAdd, Nat.reduceSub, Nat.reduceLeDiff, true_and, and_true, true_or, or_true, or_self, reduceCtorEq, if_true, if_false, not_false_eq_true, eq_self, c269, hm_80, hm_80s, hm_112, ma_set_at, List.set_cons_succ, List.set_cons_zero]
  by_cases z : acp 2 kk (nI i) (nI a) = 0
  · rw [if_pos (show (sPp (nI i) (nI a)) = 0 from z)]
    rw [d, if_pos z] at k
    exact k
  · rw [if_neg (show ¬ (sPp (nI i) (nI a)) = 0 from z)]
    rw [d, if_neg z] at k
    exact k
theorem s269_3 {h : ma_H} {Q : ma_Q} {s x : Int32} {s' kk i a : Nat} (H : Sh h) (x0 : ¬ s < 0) (x3 : s ≤ 3) (ts : s.toNatClampNeg = s') (vs : vp_in s 4) (hk : kk < 6) (hi : i < 6) (q : ai h 110 s' = nI i) (ea : ai h 90 (2 * i + 1) = nI a) (K : ∀ Q : ma_Q, Q (some (.int (nI kk))) (ma_set h 80 (.inr (12, (mO h).set 53 (.int 0)))) → ma_X 255 [.ref 80, .int s] (ma_set h 80 (.inr (12, (mO h).set 53 (.int 0)))) Q) (k : Q (some (.int (actv (acv 3 kk (nI i) (nI a) x (0, ai h 112)).1 (acp 3 kk (nI i) (nI a))))) (hm h (acv 3 kk (nI i) (nI a) x (0, ai h 112)).2 (acp 3 kk (nI i) (nI a)) (nI kk) (nI i) (nI a))) : ma_X 269 [.ref 80, .int s, .int 3, .int x] h Q := by
  have d : ∀ v : Int32, actv v (acp 3 kk (nI i) (nI a)) = if acp 3 kk (nI i) (nI a) = 0 then v else -15 := fun _ => rfl
  have i2 := ix2 1 12 (by decide) (show nI i = nI i from rfl) (by omega)
  refine ma_enter (m := 269) (Or.inl (by decide)) (by show 4 ≤ mt_n 269; decide +kernel) ?_
  show At 269 Q 0 (0, 0) [some (.ref 80), some (.int s), some (.int 3), some (.int x), none, none] [] h
  refine go 60 (by decide) ?_
  simp only [KX, KY, KZ, KW, KV, Nat.reduceAdd, Nat.reduceSub, Nat.reduceLeDiff, true_and, and_true, true_or, or_true, or_self, reduceCtorEq, if_true, if_false, not_false_eq_true, eq_self, c269, H.e80, List.set_cons_succ, List.set_cons_zero]
  refine ⟨by simp only [List.length_cons, List.length_nil]; omega, trivial, ?_⟩
  rw [m0_eq]
  refine s248y x0 x3 ?_
  refine go 60 (by decide) ?_
  simp only [KX, KY, KZ, KW, KV, Nat.reduceAdd, Nat.reduceSub, Nat.reduceLeDiff, true_and, and_true, true_or, or_true, or_self, reduceCtorEq, if_true, if_false, not_false_eq_true, eq_self, c269, m0_80]
  refine K _ ?_
  refine go 60 (by decide) ?_
  simp only [KX, KY, KZ, KW, KV, Nat.reduceAdd, Nat.reduceSub, Nat.reduceLeDiff, true_and, and_true, true_or, or_true, or_self, reduceCtorEq, if_true, if_false, not_false_eq_true, eq_self, c269]
  refine go 60 (by decide) ?_
  simp only [KX, KY, KZ, KW, KV, Nat.reduceAdd, Nat.reduceSub, Nat.reduceLeDiff, true_and, and_true, true_or, or_true, or_self, reduceCtorEq, if_true, if_false, not_false_eq_true, eq_self, c269]
  refine s162y (by decide) (by decide) ?_
  refine go 60 (by decide) ?_
  simp only [KX, KY, KZ, KW, KV, Nat.reduceAdd, Nat.reduceSub, Nat.reduceLeDiff, true_and, and_true, true_or, or_true, or_self, reduceCtorEq, if_true, if_false, not_false_eq_true, eq_self, c269]
  refine s162y (nI_pos (by omega)) (nI_le (a := kk) (b := 5) (by omega) (by decide)) ?_
  refine go 200 (by decide) ?_
  simp only [KX, KY, KZ, KW, KV, Nat.reduceAdd, Nat.reduceSub, Nat.reduceLeDiff, true_and, and_true, true_or, or_true, or_self, reduceCtorEq, if_true, if_false, not_false_eq_true, eq_self, c269, mO, ma_set_at, ma_set_set, ts, q, List.set_cons_succ, List.set_cons_zero, (show ∀ c, (ma_set h 80 c).2.1 110 = .inl (.int, 4, .inl (ai h 110)) from fun c => (ma_set_ne _ _ (by decide)).trans H.e110), (show ∀ c, (ma_set h 80 c).2.1 90 = .inl (.int, 12, .inl (ai h 90)) from fun c => (ma_set_ne _ _ (by decide)).trans H.e90), show ((3 : Int32) = 0) = False from by decide, show ((3 : Int32) = 1) = False from by decide, show ((3 : Int32) = 2) = False from by decide]
  rw [show (2 * nI i + 1 : Int32).toNatClampNeg = 2 * i + 1 from i2.2, ea]
  refine ⟨by simp only [List.length_cons, List.length_nil]; omega, trivial, vs, by simp only [List.length_cons, List.length_nil]; omega, trivial, i2.1, by simp only [List.length_cons, List.length_nil]; omega, trivial, by simp only [List.length_cons, List.length_nil]; omega, Or.inl rfl, ?_⟩
  rw [hm_0 H]
  refine s268 hk (Nat.zero_le _) ?_
  refine go 60 (by decide) ?_
  simp only [KX, KY, KZ, KW, KV, Nat.reduceAdd, Nat.reduceSub, Nat.reduceLeDiff, true_and, and_true, true_or, or_true, or_self, reduceCtorEq, if_true, if_false, not_false_eq_true, eq_self, c269, hm_80, hm_80s, hm_112, ma_set_at, List.set_cons_succ, List.set_cons_zero]
  by_cases z : acp 3 kk (nI i) (nI a) = 0
  · rw [if_pos (show (telp kk (nI i) (nI a)) = 0 from z)]
    rw [d, if_pos z] at k
    exact k
  · rw [if_neg (show ¬ (telp kk (nI i) (nI a)) = 0 from z)]
    rw [d, if_neg z] at k
    exact k
theorem s140 {h : ma_H} {Q : ma_Q} {s x : Int32} (H : Sh h) {r kk : Nat} {i a : Int32} (r115 : 115 ≤ r) (hk : kk < 6) (e : h.2.1 r = .inr (g_cls kk, [.int (nI kk), .int i, .int a, .ref 27])) (G : ∀ Q : ma_Q, Q (some (.ref r)) (hb h (0, ai h 28) 0) → ma_X 152 [.ref 0, .int s] (hb h (0, ai h 28) 0) Q) {y : Nat} (hy : y < 4) (k : Q (some (.int (actv (acv y kk i a x (0, ai h 28)).1 (acp y kk i a)))) (hb h (acv y kk i a x (0, ai h 28)).2 (acp y kk i a))) : ma_X 140 [.ref 0, .int s, .int (nI y), .int x] h Q := by
  match y, hy with
  | 0, _ => exact s140_0 H r115 hk e G k
  | 1, _ => exact s140_1 H r115 hk e G k
  | 2, _ => exact s140_2 H r115 hk e G k
  | 3, _ => exact s140_3 H r115 hk e G k
theorem s269 {h : ma_H} {Q : ma_Q} {s x : Int32} {s' kk i a : Nat} (H : Sh h) (x0 : ¬ s < 0) (x3 : s ≤ 3) (ts : s.toNatClampNeg = s') (vs : vp_in s 4) (hk : kk < 6) (hi : i < 6) (q : ai h 110 s' = nI i) (ea : ai h 90 (2 * i + 1) = nI a) (K : ∀ Q : ma_Q, Q (some (.int (nI kk))) (ma_set h 80 (.inr (12, (mO h).set 53 (.int 0)))) → ma_X 255 [.ref 80, .int s] (ma_set h 80 (.inr (12, (mO h).set 53 (.int 0)))) Q) {y : Nat} (hy : y < 4) (k : Q (some (.int (actv (acv y kk (nI i) (nI a) x (0, ai h 112)).1 (acp y kk (nI i) (nI a))))) (hm h (acv y kk (nI i) (nI a) x (0, ai h 112)).2 (acp y kk (nI i) (nI a)) (nI kk) (nI i) (nI a))) : ma_X 269 [.ref 80, .int s, .int (nI y), .int x] h Q := by
  match y, hy with
  | 0, _ => exact s269_0 H x0 x3 ts vs hk hi q ea K k
  | 1, _ => exact s269_1 H x0 x3 ts vs hk hi q ea K k
  | 2, _ => exact s269_2 H x0 x3 ts vs hk hi q ea K k
  | 3, _ => exact s269_3 H x0 x3 ts vs hk hi q ea K k
/-- nothing ran -/
theorem Inv.act0 {h : ma_H} (I : Inv h) : Inv (ma_set (hb h (0, ai h 28) 0) 80 (.inr (12, (mO (hb h (0, ai h 28) 0)).set 53 (.int 0)))) := ⟨(sh_set (sh_set (sh_set I.sh rfl) rfl) rfl), I.rr, I.rt, ⟨(I.nf.cong (fun a ha => by rw [ma_set_ne _ _ (by omega), hb_ne _ _ _ (by omega) (by omega)])), (I.ng.cong2 (Nat.le_refl _) rfl rfl (fun a ha => by rw [ma_set_ne _ _ (by omega), hb_ne _ _ _ (by omega) (by omega)])), I.nm, I.na, I.nl⟩, (I.rk.cong2 (Nat.le_refl _) rfl rfl (fun a ha => by rw [ma_set_ne _ _ (by omega), hb_ne _ _ _ (by omega) (by omega)])), I.rp, (I.rw.cong2 rfl rfl (fun a ha => by rw [ma_set_ne _ _ (by omega), hb_ne _ _ _ (by omega) (by omega)])), (I.rs.cong (fun a ha => by rw [ma_set_ne _ _ (by omega), hb_ne _ _ _ (by omega) (by omega)])), I.rv, ⟨0, by decide, rfl, rfl, fun j hj => absurd hj (Nat.not_lt_zero j)⟩, I.rc⟩
/-- a body ran -/
theorem Inv.act1 {h : ma_H} (I : Inv h) {T U : TT} (t : TR T U) (h30 : T.1 ≤ 30) (p p2 kx i a : Int32) : Inv (hm (hb h T p) U p2 kx i a) := ⟨(sh_set (sh_set (sh_set (sh_set I.sh rfl) rfl) rfl) rfl), I.rr, I.rt, ⟨(I.nf.cong (fun a ha => by rw [hm_ne _ _ _ _ _ _ (by omega) (by omega), hb_ne _ _ _ (by omega) (by omega)])), (I.ng.cong2 (Nat.le_refl _) rfl rfl (fun a ha => by rw [hm_ne _ _ _ _ _ _ (by omega) (by omega), hb_ne _ _ _ (by omega) (by omega)])), I.nm, I.na, I.nl⟩, (I.rk.cong2 (Nat.le_refl _) rfl rfl (fun a ha => by rw [hm_ne _ _ _ _ _ _ (by omega) (by omega), hb_ne _ _ _ (by omega) (by omega)])), I.rp, (I.rw.cong2 rfl rfl (fun a ha => by rw [hm_ne _ _ _ _ _ _ (by omega) (by omega), hb_ne _ _ _ (by omega) (by omega)])), (I.rs.cong (fun a ha => by rw [hm_ne _ _ _ _ _ _ (by omega) (by omega), hb_ne _ _ _ (by omega) (by omega)])), I.rv, ⟨T.1, h30, rfl, by rw [t.1]; rfl, fun j hj => t.2 j hj⟩, I.rc⟩
