/-! small calls: the trace, many -/
theorem p141 {h : ma_H} {x : Int32} (I : Inv h) : Pair h 141 270 [.int x] := by
  intro Q k
  obtain ⟨n, n6, w1, w2, w3⟩ := I.ra
  rcases icasN x n (by omega) with ⟨f_x, l_x, q_x, a_x, b_x, c_x, t_x⟩ | ⟨p_x, o_x⟩
  · refine ma_enter (m := 141) (Or.inl (by decide)) (by show 2 ≤ mt_n 141; decide +kernel) ?_
    show At 141 Q 0 (mt_c 141) [some (.ref 0), some (.int x)] [] h
    have G1 : ∀ {k b L st h}, wk1 141 Q 60 k b L st h → At 141 Q k b L st h := fun hx => go 60 (by decide) hx
    repeat' first
      | ((first | (with_reducible refine G1 ?_) | (with_reducible refine G2 ?_)); simp only [↓KX, ↓KY, ↓KZ, ↓KW, ↓KV, Nat.reduceAdd, Nat.reduceSub, Nat.reduceLeDiff, true_and, and_true, true_or, or_true, or_self, reduceCtorEq, if_true, if_false, not_false_eq_true, eq_self, c141, c270, ma_get, Nat.reduceEqDiff, ↓reduceIte, Int32.reduceLT, Int32.reduceLE, I.sh.e0, I.sh.e27, I.sh.e28, I.sh.e80, I.sh.e112, w1, w2, t_x])
      | assumption
      | contradiction
      | (exfalso; first | exact absurd (by assumption) (p_x.resolve_left (by assumption)) | exact absurd (by assumption) (p_y.resolve_left (by assumption)) | exact absurd (by assumption) (o_x.resolve_left (by assumption)) | exact absurd (by assumption) (o_y.resolve_left (by assumption)))
      | refine ⟨by subst q_x; exact nI_in (by omega) (by decide), ?_⟩
      | split
      | (with_reducible refine s162y (by assumption) (by assumption) ?_)
      | (with_reducible refine s162n (by assumption) ?_)
      | (with_reducible refine s162n (Or.inl (by assumption)) ?_)
      | (with_reducible refine s162n (Or.inr (by assumption)) ?_)
      | (with_reducible refine s171y (by assumption) (by assumption) ?_)
      | (with_reducible refine s171n (Or.inl (by assumption)) ?_)
      | (with_reducible refine s171n (Or.inr (by assumption)) ?_)
      | (with_reducible refine s170n (by assumption) ?_)
      | (with_reducible refine s170y (by assumption) (by assumption) ?_)
      | (with_reducible refine s162c (fun _ _ => ?_) (fun _ => ?_))
      | (with_reducible refine s171c (fun _ _ => ?_) (fun _ => ?_))
      | (with_reducible refine s147c (fun _ _ _ _ => ?_) (fun o_a => ?_))
      | (with_reducible refine s146y (by assumption) (by assumption) ?_)
      | (with_reducible refine s146n (by assumption) ?_)
      | (with_reducible refine s146c (fun _ _ => ?_) (fun _ => ?_))
      | (with_reducible refine s145 I.sh I.rr (by assumption) ?_)
      | (with_reducible refine s145e I.sh I.rr (by assumption) (by assumption) ?_)
      | (with_reducible refine s145n I.sh (by assumption) ?_)
      | (with_reducible refine s148y (by assumption) (by assumption) ?_)
      | (with_reducible refine s148n (by assumption) ?_)
      | (with_reducible refine s149y (by assumption) (by assumption) ?_)
      | (with_reducible refine s149n (by assumption) ?_)
      | ((with_reducible refine k _ _ (by repeat (first | exact e80_I I | exact e80_S (by assumption) | exact e80_I (by assumption) | exact e80_n I.sh | refine e80_s (by omega) ?_)) fun Q2 k2 => ?_); have G2 : ∀ {k b L st h}, wk1 270 Q2 60 k b L st h → At 270 Q2 k b L st h := fun hx => go 60 (by decide) hx; refine ma_enter (m := 270) (Or.inl (by decide)) (by show 2 ≤ mt_n 270; decide +kernel) ?_; show At 270 Q2 0 (mt_c 270) [some (.ref 80), some (.int x)] [] _)
      | (rw [← w3 f_x l_x]; exact k2 _ I)
      | split
      | rfl
  · refine ma_enter (m := 141) (Or.inl (by decide)) (by show 2 ≤ mt_n 141; decide +kernel) ?_
    show At 141 Q 0 (mt_c 141) [some (.ref 0), some (.int x)] [] h
    have G1 : ∀ {k b L st h}, wk1 141 Q 60 k b L st h → At 141 Q k b L st h := fun hx => go 60 (by decide) hx
    repeat' first
      | ((first | (with_reducible refine G1 ?_) | (with_reducible refine G2 ?_)); simp only [↓KX, ↓KY, ↓KZ, ↓KW, ↓KV, Nat.reduceAdd, Nat.reduceSub, Nat.reduceLeDiff, true_and, and_true, true_or, or_true, or_self, reduceCtorEq, if_true, if_false, not_false_eq_true, eq_self, c141, c270, ma_get, Nat.reduceEqDiff, ↓reduceIte, Int32.reduceLT, Int32.reduceLE, I.sh.e0, I.sh.e27, I.sh.e28, I.sh.e80, I.sh.e112, w1, w2])
      | assumption
      | contradiction
      | (exfalso; first | exact absurd (by assumption) (p_x.resolve_left (by assumption)) | exact absurd (by assumption) (p_y.resolve_left (by assumption)) | exact absurd (by assumption) (o_x.resolve_left (by assumption)) | exact absurd (by assumption) (o_y.resolve_left (by assumption)))
      | split
      | (with_reducible refine s162y (by assumption) (by assumption) ?_)
      | (with_reducible refine s162n (by assumption) ?_)
      | (with_reducible refine s162n (Or.inl (by assumption)) ?_)
      | (with_reducible refine s162n (Or.inr (by assumption)) ?_)
      | (with_reducible refine s171y (by assumption) (by assumption) ?_)
      | (with_reducible refine s171n (Or.inl (by assumption)) ?_)
      | (with_reducible refine s171n (Or.inr (by assumption)) ?_)
      | (with_reducible refine s170n (by assumption) ?_)
      | (with_reducible refine s170y (by assumption) (by assumption) ?_)
      | (with_reducible refine s162c (fun _ _ => ?_) (fun _ => ?_))
      | (with_reducible refine s171c (fun _ _ => ?_) (fun _ => ?_))
      | (with_reducible refine s147c (fun _ _ _ _ => ?_) (fun o_a => ?_))
      | (with_reducible refine s146y (by assumption) (by assumption) ?_)
      | (with_reducible refine s146n (by assumption) ?_)
      | (with_reducible refine s146c (fun _ _ => ?_) (fun _ => ?_))
      | (with_reducible refine s145 I.sh I.rr (by assumption) ?_)
      | (with_reducible refine s145e I.sh I.rr (by assumption) (by assumption) ?_)
      | (with_reducible refine s145n I.sh (by assumption) ?_)
      | (with_reducible refine s148y (by assumption) (by assumption) ?_)
      | (with_reducible refine s148n (by assumption) ?_)
      | (with_reducible refine s149y (by assumption) (by assumption) ?_)
      | (with_reducible refine s149n (by assumption) ?_)
      | ((with_reducible refine k _ _ (by repeat (first | exact e80_I I | exact e80_S (by assumption) | exact e80_I (by assumption) | exact e80_n I.sh | refine e80_s (by omega) ?_)) fun Q2 k2 => ?_); have G2 : ∀ {k b L st h}, wk1 270 Q2 60 k b L st h → At 270 Q2 k b L st h := fun hx => go 60 (by decide) hx; refine ma_enter (m := 270) (Or.inl (by decide)) (by show 2 ≤ mt_n 270; decide +kernel) ?_; show At 270 Q2 0 (mt_c 270) [some (.ref 80), some (.int x)] [] _)
      | with_reducible exact k2 _ I
      | split
      | rfl
theorem tb_0_4 {x : Int32} (o : x < 0 ∨ ¬ x ≤ 4) : (x.toInt < Int.ofNat 0 ∨ Int.ofNat 4 < x.toInt) = True := by
  refine eq_true ?_
  rcases o with o | o
  · rw [Int32.lt_iff_toInt_lt] at o
    exact Or.inl o
  · rw [Int32.le_iff_toInt_le] at o
    exact Or.inr (by have e : (4 : Int32).toInt = 4 := rfl; show (4 : Int) < x.toInt; omega)
theorem ts_0_4_0 : (Int32.toInt 0 < Int.ofNat 0 ∨ Int.ofNat 4 < Int32.toInt 0) = False := by decide
theorem tz_0_4_0 : (Int32.toInt 0 - Int.ofNat 0).toNat = 0 := rfl
theorem ts_0_4_1 : (Int32.toInt 1 < Int.ofNat 0 ∨ Int.ofNat 4 < Int32.toInt 1) = False := by decide
theorem tz_0_4_1 : (Int32.toInt 1 - Int.ofNat 0).toNat = 1 := rfl
theorem ts_0_4_2 : (Int32.toInt 2 < Int.ofNat 0 ∨ Int.ofNat 4 < Int32.toInt 2) = False := by decide
theorem tz_0_4_2 : (Int32.toInt 2 - Int.ofNat 0).toNat = 2 := rfl
theorem ts_0_4_3 : (Int32.toInt 3 < Int.ofNat 0 ∨ Int.ofNat 4 < Int32.toInt 3) = False := by decide
theorem tz_0_4_3 : (Int32.toInt 3 - Int.ofNat 0).toNat = 3 := rfl
theorem ts_0_4_4 : (Int32.toInt 4 < Int.ofNat 0 ∨ Int.ofNat 4 < Int32.toInt 4) = False := by decide
theorem tz_0_4_4 : (Int32.toInt 4 - Int.ofNat 0).toNat = 4 := rfl
theorem tb_0_3 {x : Int32} (o : x < 0 ∨ ¬ x ≤ 3) : (x.toInt < Int.ofNat 0 ∨ Int.ofNat 3 < x.toInt) = True := by
  refine eq_true ?_
  rcases o with o | o
  · rw [Int32.lt_iff_toInt_lt] at o
    exact Or.inl o
  · rw [Int32.le_iff_toInt_le] at o
    exact Or.inr (by have e : (3 : Int32).toInt = 3 := rfl; show (3 : Int) < x.toInt; omega)
theorem ts_0_3_0 : (Int32.toInt 0 < Int.ofNat 0 ∨ Int.ofNat 3 < Int32.toInt 0) = False := by decide
theorem tz_0_3_0 : (Int32.toInt 0 - Int.ofNat 0).toNat = 0 := rfl
theorem ts_0_3_1 : (Int32.toInt 1 < Int.ofNat 0 ∨ Int.ofNat 3 < Int32.toInt 1) = False := by decide
theorem tz_0_3_1 : (Int32.toInt 1 - Int.ofNat 0).toNat = 1 := rfl
theorem ts_0_3_2 : (Int32.toInt 2 < Int.ofNat 0 ∨ Int.ofNat 3 < Int32.toInt 2) = False := by decide
theorem tz_0_3_2 : (Int32.toInt 2 - Int.ofNat 0).toNat = 2 := rfl
theorem ts_0_3_3 : (Int32.toInt 3 < Int.ofNat 0 ∨ Int.ofNat 3 < Int32.toInt 3) = False := by decide
theorem tz_0_3_3 : (Int32.toInt 3 - Int.ofNat 0).toNat = 3 := rfl
theorem tb_0_5 {x : Int32} (o : x < 0 ∨ ¬ x ≤ 5) : (x.toInt < Int.ofNat 0 ∨ Int.ofNat 5 < x.toInt) = True := by
  refine eq_true ?_
  rcases o with o | o
  · rw [Int32.lt_iff_toInt_lt] at o
    exact Or.inl o
  · rw [Int32.le_iff_toInt_le] at o
    exact Or.inr (by have e : (5 : Int32).toInt = 5 := rfl; show (5 : Int) < x.toInt; omega)
theorem ts_0_5_0 : (Int32.toInt 0 < Int.ofNat 0 ∨ Int.ofNat 5 < Int32.toInt 0) = False := by decide
theorem tz_0_5_0 : (Int32.toInt 0 - Int.ofNat 0).toNat = 0 := rfl
theorem ts_0_5_1 : (Int32.toInt 1 < Int.ofNat 0 ∨ Int.ofNat 5 < Int32.toInt 1) = False := by decide
theorem tz_0_5_1 : (Int32.toInt 1 - Int.ofNat 0).toNat = 1 := rfl
theorem ts_0_5_2 : (Int32.toInt 2 < Int.ofNat 0 ∨ Int.ofNat 5 < Int32.toInt 2) = False := by decide
theorem tz_0_5_2 : (Int32.toInt 2 - Int.ofNat 0).toNat = 2 := rfl
theorem ts_0_5_3 : (Int32.toInt 3 < Int.ofNat 0 ∨ Int.ofNat 5 < Int32.toInt 3) = False := by decide
theorem tz_0_5_3 : (Int32.toInt 3 - Int.ofNat 0).toNat = 3 := rfl
theorem ts_0_5_4 : (Int32.toInt 4 < Int.ofNat 0 ∨ Int.ofNat 5 < Int32.toInt 4) = False := by decide
theorem tz_0_5_4 : (Int32.toInt 4 - Int.ofNat 0).toNat = 4 := rfl
theorem ts_0_5_5 : (Int32.toInt 5 < Int.ofNat 0 ∨ Int.ofNat 5 < Int32.toInt 5) = False := by decide
theorem tz_0_5_5 : (Int32.toInt 5 - Int.ofNat 0).toNat = 5 := rfl
theorem tb_1_5 {x : Int32} (o : x < 1 ∨ ¬ x ≤ 5) : (x.toInt < Int.ofNat 1 ∨ Int.ofNat 5 < x.toInt) = True := by
  refine eq_true ?_
  rcases o with o | o
  · rw [Int32.lt_iff_toInt_lt] at o
    exact Or.inl o
  · rw [Int32.le_iff_toInt_le] at o
    exact Or.inr (by have e : (5 : Int32).toInt = 5 := rfl; show (5 : Int) < x.toInt; omega)
theorem ts_1_5_1 : (Int32.toInt 1 < Int.ofNat 1 ∨ Int.ofNat 5 < Int32.toInt 1) = False := by decide
theorem tz_1_5_1 : (Int32.toInt 1 - Int.ofNat 1).toNat = 0 := rfl
theorem ts_1_5_2 : (Int32.toInt 2 < Int.ofNat 1 ∨ Int.ofNat 5 < Int32.toInt 2) = False := by decide
theorem tz_1_5_2 : (Int32.toInt 2 - Int.ofNat 1).toNat = 1 := rfl
theorem ts_1_5_3 : (Int32.toInt 3 < Int.ofNat 1 ∨ Int.ofNat 5 < Int32.toInt 3) = False := by decide
theorem tz_1_5_3 : (Int32.toInt 3 - Int.ofNat 1).toNat = 2 := rfl
theorem ts_1_5_4 : (Int32.toInt 4 < Int.ofNat 1 ∨ Int.ofNat 5 < Int32.toInt 4) = False := by decide
theorem tz_1_5_4 : (Int32.toInt 4 - Int.ofNat 1).toNat = 3 := rfl
theorem ts_1_5_5 : (Int32.toInt 5 < Int.ofNat 1 ∨ Int.ofNat 5 < Int32.toInt 5) = False := by decide
theorem tz_1_5_5 : (Int32.toInt 5 - Int.ofNat 1).toNat = 4 := rfl
theorem s142_0 {h : ma_H} {Q : ma_Q} (H : Sh h) (k : Q (some (.int (fi h 34 2))) h) : ma_X 142 [.ref 0, .int 0] h Q := by
  refine ma_enter (m := 142) (Or.inl (by decide)) (by show 2 ≤ mt_n 142; decide +kernel) ?_
  show At 142 Q 0 (mt_c 142) [some (.ref 0), some (.int 0)] [] h
  refine go 60 (by decide) ?_
  simp only [KX, KY, KZ, KW, KV, Nat.reduceAdd, Nat.reduceSub, Nat.reduceLeDiff, true_and, and_true, true_or, or_true, or_self, reduceCtorEq, if_true, if_false, not_false_eq_true, eq_self, c142, H.e0, H.e34, H.e49, H.e27, H.e80, ts_0_4_0, tz_0_4_0, List.getD_cons_zero, List.getD_cons_succ]
  exact k
theorem s142_1 {h : ma_H} {Q : ma_Q} (H : Sh h) (k : Q (some (.int (fi h 49 0))) h) : ma_X 142 [.ref 0, .int 1] h Q := by
  refine ma_enter (m := 142) (Or.inl (by decide)) (by show 2 ≤ mt_n 142; decide +kernel) ?_
  show At 142 Q 0 (mt_c 142) [some (.ref 0), some (.int 1)] [] h
  refine go 60 (by decide) ?_
  simp only [KX, KY, KZ, KW, KV, Nat.reduceAdd, Nat.reduceSub, Nat.reduceLeDiff, true_and, and_true, true_or, or_true, or_self, reduceCtorEq, if_true, if_false, not_false_eq_true, eq_self, c142, H.e0, H.e34, H.e49, H.e27, H.e80, ts_0_4_1, tz_0_4_1, List.getD_cons_zero, List.getD_cons_succ]
  exact k
theorem s142_2 {h : ma_H} {Q : ma_Q} (H : Sh h) (k : Q (some (.int (fi h 0 8))) h) : ma_X 142 [.ref 0, .int 2] h Q := by
  refine ma_enter (m := 142) (Or.inl (by decide)) (by show 2 ≤ mt_n 142; decide +kernel) ?_
  show At 142 Q 0 (mt_c 142) [some (.ref 0), some (.int 2)] [] h
  refine go 60 (by decide) ?_
  simp only [KX, KY, KZ, KW, KV, Nat.reduceAdd, Nat.reduceSub, Nat.reduceLeDiff, true_and, and_true, true_or, or_true, or_self, reduceCtorEq, if_true, if_false, not_false_eq_true, eq_self, c142, H.e0, H.e34, H.e49, H.e27, H.e80, ts_0_4_2, tz_0_4_2, List.getD_cons_zero, List.getD_cons_succ]
  exact k
theorem s142_3 {h : ma_H} {Q : ma_Q} (H : Sh h) (k : Q (some (.int (fi h 0 4))) h) : ma_X 142 [.ref 0, .int 3] h Q := by
  refine ma_enter (m := 142) (Or.inl (by decide)) (by show 2 ≤ mt_n 142; decide +kernel) ?_
  show At 142 Q 0 (mt_c 142) [some (.ref 0), some (.int 3)] [] h
  refine go 60 (by decide) ?_
  simp only [KX, KY, KZ, KW, KV, Nat.reduceAdd, Nat.reduceSub, Nat.reduceLeDiff, true_and, and_true, true_or, or_true, or_self, reduceCtorEq, if_true, if_false, not_false_eq_true, eq_self, c142, H.e0, H.e34, H.e49, H.e27, H.e80, ts_0_4_3, tz_0_4_3, List.getD_cons_zero, List.getD_cons_succ]
  exact k
theorem s142_4 {h : ma_H} {Q : ma_Q} (H : Sh h) (k : Q (some (.int (fi h 27 1))) h) : ma_X 142 [.ref 0, .int 4] h Q := by
  refine ma_enter (m := 142) (Or.inl (by decide)) (by show 2 ≤ mt_n 142; decide +kernel) ?_
  show At 142 Q 0 (mt_c 142) [some (.ref 0), some (.int 4)] [] h
  refine go 60 (by decide) ?_
  simp only [KX, KY, KZ, KW, KV, Nat.reduceAdd, Nat.reduceSub, Nat.reduceLeDiff, true_and, and_true, true_or, or_true, or_self, reduceCtorEq, if_true, if_false, not_false_eq_true, eq_self, c142, H.e0, H.e34, H.e49, H.e27, H.e80, ts_0_4_4, tz_0_4_4, List.getD_cons_zero, List.getD_cons_succ]
  exact k
theorem s142_n {h : ma_H} {Q : ma_Q} {x : Int32} (H : Sh h) (o : x < 0 ∨ ¬ x ≤ 4) (k : Q (some (.int (-1))) h) : ma_X 142 [.ref 0, .int x] h Q := by
  refine ma_enter (m := 142) (Or.inl (by decide)) (by show 2 ≤ mt_n 142; decide +kernel) ?_
  show At 142 Q 0 (mt_c 142) [some (.ref 0), some (.int x)] [] h
  refine go 60 (by decide) ?_
  simp only [KX, KY, KZ, KW, KV, Nat.reduceAdd, Nat.reduceSub, Nat.reduceLeDiff, true_and, and_true, true_or, or_true, or_self, reduceCtorEq, if_true, if_false, not_false_eq_true, eq_self, c142, H.e0, H.e34, H.e49, H.e27, H.e80, tb_0_4 o]
  exact k
theorem s271_0 {h : ma_H} {Q : ma_Q} (H : Sh h) (k : Q (some (.int (fi h 80 9))) h) : ma_X 271 [.ref 80, .int 0] h Q := by
  refine ma_enter (m := 271) (Or.inl (by decide)) (by show 2 ≤ mt_n 271; decide +kernel) ?_
  show At 271 Q 0 (mt_c 271) [some (.ref 80), some (.int 0)] [] h
  refine go 60 (by decide) ?_
  simp only [KX, KY, KZ, KW, KV, Nat.reduceAdd, Nat.reduceSub, Nat.reduceLeDiff, true_and, and_true, true_or, or_true, or_self, reduceCtorEq, if_true, if_false, not_false_eq_true, eq_self, c271, H.e0, H.e34, H.e49, H.e27, H.e80, ts_0_4_0, tz_0_4_0, List.getD_cons_zero, List.getD_cons_succ]
  exact k
theorem s271_1 {h : ma_H} {Q : ma_Q} (H : Sh h) (k : Q (some (.int (fi h 80 14))) h) : ma_X 271 [.ref 80, .int 1] h Q := by
  refine ma_enter (m := 271) (Or.inl (by decide)) (by show 2 ≤ mt_n 271; decide +kernel) ?_
  show At 271 Q 0 (mt_c 271) [some (.ref 80), some (.int 1)] [] h
  refine go 60 (by decide) ?_
  simp only [KX, KY, KZ, KW, KV, Nat.reduceAdd, Nat.reduceSub, Nat.reduceLeDiff, true_and, and_true, true_or, or_true, or_self, reduceCtorEq, if_true, if_false, not_false_eq_true, eq_self, c271, H.e0, H.e34, H.e49, H.e27, H.e80, ts_0_4_1, tz_0_4_1, List.getD_cons_zero, List.getD_cons_succ]
  exact k
theorem s271_2 {h : ma_H} {Q : ma_Q} (H : Sh h) (k : Q (some (.int (fi h 80 41))) h) : ma_X 271 [.ref 80, .int 2] h Q := by
  refine ma_enter (m := 271) (Or.inl (by decide)) (by show 2 ≤ mt_n 271; decide +kernel) ?_
  show At 271 Q 0 (mt_c 271) [some (.ref 80), some (.int 2)] [] h
  refine go 60 (by decide) ?_
  simp only [KX, KY, KZ, KW, KV, Nat.reduceAdd, Nat.reduceSub, Nat.reduceLeDiff, true_and, and_true, true_or, or_true, or_self, reduceCtorEq, if_true, if_false, not_false_eq_true, eq_self, c271, H.e0, H.e34, H.e49, H.e27, H.e80, ts_0_4_2, tz_0_4_2, List.getD_cons_zero, List.getD_cons_succ]
  exact k
theorem s271_3 {h : ma_H} {Q : ma_Q} (H : Sh h) (k : Q (some (.int (fi h 80 18))) h) : ma_X 271 [.ref 80, .int 3] h Q := by
  refine ma_enter (m := 271) (Or.inl (by decide)) (by show 2 ≤ mt_n 271; decide +kernel) ?_
  show At 271 Q 0 (mt_c 271) [some (.ref 80), some (.int 3)] [] h
  refine go 60 (by decide) ?_
  simp only [KX, KY, KZ, KW, KV, Nat.reduceAdd, Nat.reduceSub, Nat.reduceLeDiff, true_and, and_true, true_or, or_true, or_self, reduceCtorEq, if_true, if_false, not_false_eq_true, eq_self, c271, H.e0, H.e34, H.e49, H.e27, H.e80, ts_0_4_3, tz_0_4_3, List.getD_cons_zero, List.getD_cons_succ]
  exact k
theorem s271_4 {h : ma_H} {Q : ma_Q} (H : Sh h) (k : Q (some (.int (fi h 80 53))) h) : ma_X 271 [.ref 80, .int 4] h Q := by
  refine ma_enter (m := 271) (Or.inl (by decide)) (by show 2 ≤ mt_n 271; decide +kernel) ?_
  show At 271 Q 0 (mt_c 271) [some (.ref 80), some (.int 4)] [] h
  refine go 60 (by decide) ?_
  simp only [KX, KY, KZ, KW, KV, Nat.reduceAdd, Nat.reduceSub, Nat.reduceLeDiff, true_and, and_true, true_or, or_true, or_self, reduceCtorEq, if_true, if_false, not_false_eq_true, eq_self, c271, H.e0, H.e34, H.e49, H.e27, H.e80, ts_0_4_4, tz_0_4_4, List.getD_cons_zero, List.getD_cons_succ]
  exact k
theorem s271_n {h : ma_H} {Q : ma_Q} {x : Int32} (H : Sh h) (o : x < 0 ∨ ¬ x ≤ 4) (k : Q (some (.int (-1))) h) : ma_X 271 [.ref 80, .int x] h Q := by
  refine ma_enter (m := 271) (Or.inl (by decide)) (by show 2 ≤ mt_n 271; decide +kernel) ?_
  show At 271 Q 0 (mt_c 271) [some (.ref 80), some (.int x)] [] h
  refine go 60 (by decide) ?_
  simp only [KX, KY, KZ, KW, KV, Nat.reduceAdd, Nat.reduceSub, Nat.reduceLeDiff, true_and, and_true, true_or, or_true, or_self, reduceCtorEq, if_true, if_false, not_false_eq_true, eq_self, c271, H.e0, H.e34, H.e49, H.e27, H.e80, tb_0_4 o]
  exact k
theorem p142 {h : ma_H} {x : Int32} (I : Inv h) : Pair h 142 271 [.int x] := by
  intro Q k
  obtain ⟨n1, -, a1, b1, -⟩ := I.rw
  obtain ⟨n2, -, a2, b2, -⟩ := I.rp
  obtain ⟨n3, -, a3, b3, -⟩ := I.ra
  obtain ⟨⟨n4, -, a4, b4, -⟩, -⟩ := I.ng
  obtain ⟨n5, -, a5, b5, -⟩ := I.nl
  rcases icase4 x with ⟨rfl, -⟩ | ⟨rfl, -⟩ | ⟨rfl, -⟩ | ⟨rfl, -⟩ | ⟨rfl, -⟩ | o | ⟨-, o, -⟩
  · exact s142_0 I.sh (k _ _ (by repeat (first | exact e80_I I | exact e80_S (by assumption) | exact e80_I (by assumption) | exact e80_n I.sh | refine e80_s (by omega) ?_)) fun Q2 k2 => s271_0 I.sh (by rw [b4, ← a4]; exact k2 _ I))
  · exact s142_1 I.sh (k _ _ (by repeat (first | exact e80_I I | exact e80_S (by assumption) | exact e80_I (by assumption) | exact e80_n I.sh | refine e80_s (by omega) ?_)) fun Q2 k2 => s271_1 I.sh (by rw [b5, ← a5]; exact k2 _ I))
  · exact s142_2 I.sh (k _ _ (by repeat (first | exact e80_I I | exact e80_S (by assumption) | exact e80_I (by assumption) | exact e80_n I.sh | refine e80_s (by omega) ?_)) fun Q2 k2 => s271_2 I.sh (by rw [b1, ← a1]; exact k2 _ I))
  · exact s142_3 I.sh (k _ _ (by repeat (first | exact e80_I I | exact e80_S (by assumption) | exact e80_I (by assumption) | exact e80_n I.sh | refine e80_s (by omega) ?_)) fun Q2 k2 => s271_3 I.sh (by rw [b2, ← a2]; exact k2 _ I))
  · exact s142_4 I.sh (k _ _ (by repeat (first | exact e80_I I | exact e80_S (by assumption) | exact e80_I (by assumption) | exact e80_n I.sh | refine e80_s (by omega) ?_)) fun Q2 k2 => s271_4 I.sh (by rw [b3, ← a3]; exact k2 _ I))
  · exact s142_n I.sh (Or.inl o) (k _ _ (by repeat (first | exact e80_I I | exact e80_S (by assumption) | exact e80_I (by assumption) | exact e80_n I.sh | refine e80_s (by omega) ?_)) fun Q2 k2 => s271_n I.sh (Or.inl o) (k2 _ I))
  · exact s142_n I.sh (Or.inr o) (k _ _ (by repeat (first | exact e80_I I | exact e80_S (by assumption) | exact e80_I (by assumption) | exact e80_n I.sh | refine e80_s (by omega) ?_)) fun Q2 k2 => s271_n I.sh (Or.inr o) (k2 _ I))
