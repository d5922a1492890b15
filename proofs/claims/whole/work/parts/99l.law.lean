/-! law: the class takes tokens -/
/-- tokens stand at hb -/
def TS (hb : ma_H) (b : Nat → Nat) (n K : Nat) : Prop := K ≤ 200 ∧ Ps b n K = n ∧ n ≤ 200 ∧ (∀ i, b i < 256) ∧ (∀ j, j < K → Ps b n j < n) ∧ (∀ j, j ≤ K → ai hb 5 j = nI (Ps b n j)) ∧ (∀ j, j ≤ K → ai hb 4 j = nI (cs (qt b n (Ps b n j)))) ∧ ∀ j, j < K → ai hb 6 j = cv (qt b n (Ps b n j))
def rO (n k : Nat) : ma_C := .inr (5, [.ref 3, .int (nI n), .ref 4, .ref 5, .ref 6, .int (nI k), .ref 7])
def lO (cl c : Nat) : ma_C := .inr (4, [.int (nI cl), .ref 8, .ref 9, .ref 10, .int (nI c)])
/-- the reader at token k, c codes in the draft -/
def CP (hb : ma_H) (n cl : Nat) (hh : ma_H) (k c : Nat) : Prop := Sh hh ∧ hh.1 = hb.1 ∧ (∀ a, a ≠ 2 → a ≠ 7 → a ≠ 10 → hh.2.1 a = hb.2.1 a) ∧ hh.2.1 2 = rO n k ∧ hh.2.1 7 = lO cl c
theorem CP.at {hb hh : ma_H} {n cl k c : Nat} (C : CP hb n cl hh k c) (j : Nat) : CP hb n cl (ma_set hh 2 (rO n j)) j c := by
  obtain ⟨c1, c2, c3, c4, c5⟩ := C
  exact ⟨sh_set c1 rfl, c2, fun a a1 a2 a3 => (ma_set_ne _ _ a1).trans (c3 a a1 a2 a3), ma_set_at _ _ _, (ma_set_ne _ _ (by decide)).trans c5⟩
theorem qt_ne {b : Nat → Nat} (eb : ∀ i, b i < 256) (n i : Nat) : qt b n i ≠ 263 := by
  unfold qt
  split
  · split
    · split
      · omega
      · split <;> omega
    · split
      · split <;> omega
      · have := eb i
        omega
  · omega
theorem cs_lt (q : Nat) (h : q < 4006) : cs q < 3000 := by
  unfold cs
  split <;> omega
theorem cs_eq {q s : Nat} (hs : s < 263) : cs q = s ↔ q = s := by
  unfold cs
  split <;> omega
theorem cs_263 {q : Nat} (h : q ≠ 263) : cs q = 263 ↔ 3000 ≤ q := by
  unfold cs
  split <;> omega
theorem TS.end_ {hb : ma_H} {b : Nat → Nat} {n K : Nat} (T : TS hb b n K) : qt b n (Ps b n K) = 256 := by
  unfold qt
  rw [T.2.1, if_neg (Nat.lt_irrefl n)]
theorem TS.lt {hb : ma_H} {b : Nat → Nat} {n K k : Nat} (T : TS hb b n K) (hk : k ≤ K) (h : qt b n (Ps b n k) ≠ 256) : k < K := by
  rcases Nat.lt_or_ge k K with c | c
  · exact c
  · obtain rfl : k = K := by omega
    exact absurd T.end_ h
theorem s71 {h : ma_H} {Q : ma_Q} {hb : ma_H} {b : Nat → Nat} {n K cl k c : Nat} (T : TS hb b n K) (C : CP hb n cl h k c) (hk : k ≤ K) {s : Nat} (hs : s < 3000) (k1 : cs (qt b n (Ps b n k)) = s → Q (some (.int 1)) h) (k2 : ¬ cs (qt b n (Ps b n k)) = s → Q (some (.int 0)) h) : ma_X 71 [.ref 2, .int (nI s)] h Q := by
  obtain ⟨C1, c2, c3, c4, c5⟩ := C
  obtain ⟨t1, t2, t3, t4, t5, t6, t7, t8⟩ := T
  have e2 : h.2.1 2 = .inr (5, [.ref 3, .int (nI n), .ref 4, .ref 5, .ref 6, .int (nI k), .ref 7]) := c4
  have e7 : h.2.1 7 = .inr (4, [.int (nI cl), .ref 8, .ref 9, .ref 10, .int (nI c)]) := c5
  have a4 : ai h 4 k = nI (cs (qt b n (Ps b n k))) := by rw [ai_c (c3 4 (by decide) (by decide) (by decide))]; exact t7 k hk
  have a5 : ai h 5 k = nI (Ps b n k) := by rw [ai_c (c3 5 (by decide) (by decide) (by decide))]; exact t6 k hk
  have ql := qt_lt t4 n (Ps b n k)
  have cl4 := cs_lt _ ql
  have kc := nI_clamp (show k < 2 ^ 31 by omega)
  refine ma_enter (m := 71) (Or.inl (by decide)) (by show 2 ≤ mt_n 71; decide +kernel) ?_
  show At 71 Q 0 (mt_c 71) [some (.ref 2), some (.int (nI s))] [] h
  refine go 60 (by decide) ?_
  simp only [KX, KY, KZ, KW, KV, Nat.reduceAdd, Nat.reduceSub, Nat.reduceLeDiff, true_and, and_true, true_or, or_true, or_self, reduceCtorEq, if_true, if_false, not_false_eq_true, eq_self, c71, e2, e7, C1.e4, C1.e5, C1.e6]
  rw [if_neg (nI_pos (show k < 2 ^ 31 by omega))]
  first
    | rw [if_pos (show nI k < (201 : Int32) from nI_lt (b := 201) (by omega) (by decide))]
    | rw [if_pos (nI_lt (a := k) (b := 201) (by omega) (by decide))]
  rw [kc]
  rw [a4]
  refine ⟨nI_in (show k < 201 by omega) (by decide), ?_⟩
  by_cases z : cs (qt b n (Ps b n k)) = s
  · rw [if_pos (show nI (cs (qt b n (Ps b n k))) = nI s by rw [z])]
    first
      | exact k1 z
      | exact ⟨Or.inr rfl, k1 z⟩
  · rw [if_neg (fun y => z ((nI_eq (by omega) (by omega)).mp y))]
    first
      | exact k2 z
      | exact ⟨Or.inl rfl, k2 z⟩
theorem s72 {h : ma_H} {Q : ma_Q} {hb : ma_H} {b : Nat → Nat} {n K cl k c : Nat} (T : TS hb b n K) (C : CP hb n cl h k c) (hk : k ≤ K) (k0 : Q (some (.int (nI (Ps b n k)))) h) : ma_X 72 [.ref 2] h Q := by
  obtain ⟨C1, c2, c3, c4, c5⟩ := C
  obtain ⟨t1, t2, t3, t4, t5, t6, t7, t8⟩ := T
  have e2 : h.2.1 2 = .inr (5, [.ref 3, .int (nI n), .ref 4, .ref 5, .ref 6, .int (nI k), .ref 7]) := c4
  have e7 : h.2.1 7 = .inr (4, [.int (nI cl), .ref 8, .ref 9, .ref 10, .int (nI c)]) := c5
  have a4 : ai h 4 k = nI (cs (qt b n (Ps b n k))) := by rw [ai_c (c3 4 (by decide) (by decide) (by decide))]; exact t7 k hk
  have a5 : ai h 5 k = nI (Ps b n k) := by rw [ai_c (c3 5 (by decide) (by decide) (by decide))]; exact t6 k hk
  have ql := qt_lt t4 n (Ps b n k)
  have cl4 := cs_lt _ ql
  have kc := nI_clamp (show k < 2 ^ 31 by omega)
  refine ma_enter (m := 72) (Or.inl (by decide)) (by show 1 ≤ mt_n 72; decide +kernel) ?_
  show At 72 Q 0 (mt_c 72) [some (.ref 2)] [] h
  refine go 60 (by decide) ?_
  simp only [KX, KY, KZ, KW, KV, Nat.reduceAdd, Nat.reduceSub, Nat.reduceLeDiff, true_and, and_true, true_or, or_true, or_self, reduceCtorEq, if_true, if_false, not_false_eq_true, eq_self, c72, e2, e7, C1.e4, C1.e5, C1.e6]
  rw [if_neg (nI_pos (show k < 2 ^ 31 by omega))]
  first
    | rw [if_pos (show nI k < (201 : Int32) from nI_lt (b := 201) (by omega) (by decide))]
    | rw [if_pos (nI_lt (a := k) (b := 201) (by omega) (by decide))]
  rw [kc]
  rw [a5]
  exact ⟨nI_in (show k < 201 by omega) (by decide), k0⟩
theorem s73 {h : ma_H} {Q : ma_Q} {hb : ma_H} {b : Nat → Nat} {n K cl k c : Nat} (T : TS hb b n K) (C : CP hb n cl h k c) (hk : k ≤ K) {s : Nat} (hs : s < 3000) (k1 : cs (qt b n (Ps b n k)) = s → Q (some (.int 1)) (ma_set h 2 (rO n (k + 1)))) (k2 : ¬ cs (qt b n (Ps b n k)) = s → Q (some (.int 0)) h) : ma_X 73 [.ref 2, .int (nI s)] h Q := by
  obtain ⟨C1, c2, c3, c4, c5⟩ := C
  obtain ⟨t1, t2, t3, t4, t5, t6, t7, t8⟩ := T
  have e2 : h.2.1 2 = .inr (5, [.ref 3, .int (nI n), .ref 4, .ref 5, .ref 6, .int (nI k), .ref 7]) := c4
  have e7 : h.2.1 7 = .inr (4, [.int (nI cl), .ref 8, .ref 9, .ref 10, .int (nI c)]) := c5
  have a4 : ai h 4 k = nI (cs (qt b n (Ps b n k))) := by rw [ai_c (c3 4 (by decide) (by decide) (by decide))]; exact t7 k hk
  have a5 : ai h 5 k = nI (Ps b n k) := by rw [ai_c (c3 5 (by decide) (by decide) (by decide))]; exact t6 k hk
  have ql := qt_lt t4 n (Ps b n k)
  have cl4 := cs_lt _ ql
  have kc := nI_clamp (show k < 2 ^ 31 by omega)
  refine ma_enter (m := 73) (Or.inl (by decide)) (by show 2 ≤ mt_n 73; decide +kernel) ?_
  show At 73 Q 0 (mt_c 73) [some (.ref 2), some (.int (nI s)), none] [] h
  refine go 60 (by decide) ?_
  simp only [KX, KY, KZ, KW, KV, Nat.reduceAdd, Nat.reduceSub, Nat.reduceLeDiff, true_and, and_true, true_or, or_true, or_self, reduceCtorEq, if_true, if_false, not_false_eq_true, eq_self, c73, e2, e7, C1.e4, C1.e5, C1.e6]
  rw [if_neg (nI_pos (show k < 2 ^ 31 by omega))]
  first
    | rw [if_pos (show nI k < (201 : Int32) from nI_lt (b := 201) (by omega) (by decide))]
    | rw [if_pos (nI_lt (a := k) (b := 201) (by omega) (by decide))]
  rw [kc]
  rw [a4]
  refine ⟨nI_in (show k < 201 by omega) (by decide), ?_⟩
  by_cases z : cs (qt b n (Ps b n k)) = s
  · rw [if_pos (show nI (cs (qt b n (Ps b n k))) = nI s by rw [z])]
    first
      | (with_reducible show At 73 _ 19 _ _ _ _)
      | (refine go 60 (by decide) ?_; simp only [KX, KY, KZ, KW, KV, Nat.reduceAdd, Nat.reduceSub, Nat.reduceLeDiff, true_and, and_true, true_or, or_true, or_self, reduceCtorEq, if_true, if_false, not_false_eq_true, eq_self, c73, e2, e7, C1.e4, C1.e5, C1.e6])
    first
      | (with_reducible show At 73 _ 19 _ _ _ _)
      | (refine go 60 (by decide) ?_; simp only [KX, KY, KZ, KW, KV, Nat.reduceAdd, Nat.reduceSub, Nat.reduceLeDiff, true_and, and_true, true_or, or_true, or_self, reduceCtorEq, if_true, if_false, not_false_eq_true, eq_self, c73, e2, e7, C1.e4, C1.e5, C1.e6])
    first
      | (with_reducible show At 73 _ 19 _ _ _ _)
      | (refine go 60 (by decide) ?_; simp only [KX, KY, KZ, KW, KV, Nat.reduceAdd, Nat.reduceSub, Nat.reduceLeDiff, true_and, and_true, true_or, or_true, or_self, reduceCtorEq, if_true, if_false, not_false_eq_true, eq_self, c73, e2, e7, C1.e4, C1.e5, C1.e6])
    first
      | (with_reducible show At 73 _ 28 _ _ _ _)
      | (refine go 60 (by decide) ?_; simp only [KX, KY, KZ, KW, KV, Nat.reduceAdd, Nat.reduceSub, Nat.reduceLeDiff, true_and, and_true, true_or, or_true, or_self, reduceCtorEq, if_true, if_false, not_false_eq_true, eq_self, c73, e2, e7, C1.e4, C1.e5, C1.e6])
    first
      | (with_reducible show At 73 _ 28 _ _ _ _)
      | (refine go 60 (by decide) ?_; simp only [KX, KY, KZ, KW, KV, Nat.reduceAdd, Nat.reduceSub, Nat.reduceLeDiff, true_and, and_true, true_or, or_true, or_self, reduceCtorEq, if_true, if_false, not_false_eq_true, eq_self, c73, e2, e7, C1.e4, C1.e5, C1.e6])
    first
      | (with_reducible show At 73 _ 28 _ _ _ _)
      | (refine go 60 (by decide) ?_; simp only [KX, KY, KZ, KW, KV, Nat.reduceAdd, Nat.reduceSub, Nat.reduceLeDiff, true_and, and_true, true_or, or_true, or_self, reduceCtorEq, if_true, if_false, not_false_eq_true, eq_self, c73, e2, e7, C1.e4, C1.e5, C1.e6])
    refine go 60 (by decide) ?_
    simp only [KX, KY, KZ, KW, KV, Nat.reduceAdd, Nat.reduceSub, Nat.reduceLeDiff, true_and, and_true, true_or, or_true, or_self, reduceCtorEq, if_true, if_false, not_false_eq_true, eq_self, c73, e2, e7, C1.e4, C1.e5, C1.e6, List.set_cons_succ, List.set_cons_zero]
    rw [nI_1 k]
    first
      | exact ⟨by simp only [List.length_cons, List.length_nil]; omega, trivial, k1 z⟩
      | exact ⟨by simp only [List.length_cons, List.length_nil]; omega, trivial, Or.inr rfl, k1 z⟩
  · rw [if_neg (fun y => z ((nI_eq (by omega) (by omega)).mp y))]
    first
      | (with_reducible show At 73 _ 19 _ _ _ _)
      | (refine go 60 (by decide) ?_; simp only [KX, KY, KZ, KW, KV, Nat.reduceAdd, Nat.reduceSub, Nat.reduceLeDiff, true_and, and_true, true_or, or_true, or_self, reduceCtorEq, if_true, if_false, not_false_eq_true, eq_self, c73, e2, e7, C1.e4, C1.e5, C1.e6])
    first
      | (with_reducible show At 73 _ 19 _ _ _ _)
      | (refine go 60 (by decide) ?_; simp only [KX, KY, KZ, KW, KV, Nat.reduceAdd, Nat.reduceSub, Nat.reduceLeDiff, true_and, and_true, true_or, or_true, or_self, reduceCtorEq, if_true, if_false, not_false_eq_true, eq_self, c73, e2, e7, C1.e4, C1.e5, C1.e6])
    first
      | (with_reducible show At 73 _ 19 _ _ _ _)
      | (refine go 60 (by decide) ?_; simp only [KX, KY, KZ, KW, KV, Nat.reduceAdd, Nat.reduceSub, Nat.reduceLeDiff, true_and, and_true, true_or, or_true, or_self, reduceCtorEq, if_true, if_false, not_false_eq_true, eq_self, c73, e2, e7, C1.e4, C1.e5, C1.e6])
    first
      | (with_reducible show At 73 _ 28 _ _ _ _)
      | (refine go 60 (by decide) ?_; simp only [KX, KY, KZ, KW, KV, Nat.reduceAdd, Nat.reduceSub, Nat.reduceLeDiff, true_and, and_true, true_or, or_true, or_self, reduceCtorEq, if_true, if_false, not_false_eq_true, eq_self, c73, e2, e7, C1.e4, C1.e5, C1.e6])
    first
      | (with_reducible show At 73 _ 28 _ _ _ _)
      | (refine go 60 (by decide) ?_; simp only [KX, KY, KZ, KW, KV, Nat.reduceAdd, Nat.reduceSub, Nat.reduceLeDiff, true_and, and_true, true_or, or_true, or_self, reduceCtorEq, if_true, if_false, not_false_eq_true, eq_self, c73, e2, e7, C1.e4, C1.e5, C1.e6])
    first
      | (with_reducible show At 73 _ 28 _ _ _ _)
      | (refine go 60 (by decide) ?_; simp only [KX, KY, KZ, KW, KV, Nat.reduceAdd, Nat.reduceSub, Nat.reduceLeDiff, true_and, and_true, true_or, or_true, or_self, reduceCtorEq, if_true, if_false, not_false_eq_true, eq_self, c73, e2, e7, C1.e4, C1.e5, C1.e6])
    refine go 60 (by decide) ?_
    simp only [KX, KY, KZ, KW, KV, Nat.reduceAdd, Nat.reduceSub, Nat.reduceLeDiff, true_and, and_true, true_or, or_true, or_self, reduceCtorEq, if_true, if_false, not_false_eq_true, eq_self, c73, e2, e7, C1.e4, C1.e5, C1.e6, List.set_cons_succ, List.set_cons_zero]
    rw [Int32.add_zero]
    have kk : ma_set h 2 (rO n k) = h := ma_set_id c4
    have k3 := k2 z
    rw [← kk] at k3
    first
      | exact ⟨by simp only [List.length_cons, List.length_nil]; omega, trivial, k3⟩
      | exact ⟨by simp only [List.length_cons, List.length_nil]; omega, trivial, Or.inl rfl, k3⟩
theorem s74 {h : ma_H} {Q : ma_Q} {hb : ma_H} {b : Nat → Nat} {n K cl k c : Nat} (T : TS hb b n K) (C : CP hb n cl h k c) (hk : k ≤ K) (k0 : Q (some (.int (cv (qt b n (Ps b n k))))) h) : ma_X 74 [.ref 2] h Q := by
  obtain ⟨C1, c2, c3, c4, c5⟩ := C
  obtain ⟨t1, t2, t3, t4, t5, t6, t7, t8⟩ := T
  have e2 : h.2.1 2 = .inr (5, [.ref 3, .int (nI n), .ref 4, .ref 5, .ref 6, .int (nI k), .ref 7]) := c4
  have e7 : h.2.1 7 = .inr (4, [.int (nI cl), .ref 8, .ref 9, .ref 10, .int (nI c)]) := c5
  have a4 : ai h 4 k = nI (cs (qt b n (Ps b n k))) := by rw [ai_c (c3 4 (by decide) (by decide) (by decide))]; exact t7 k hk
  have a5 : ai h 5 k = nI (Ps b n k) := by rw [ai_c (c3 5 (by decide) (by decide) (by decide))]; exact t6 k hk
  have ql := qt_lt t4 n (Ps b n k)
  have cl4 := cs_lt _ ql
  have kc := nI_clamp (show k < 2 ^ 31 by omega)
  have q3 := qt_ne t4 n (Ps b n k)
  refine ma_enter (m := 74) (Or.inl (by decide)) (by show 1 ≤ mt_n 74; decide +kernel) ?_
  show At 74 Q 0 (mt_c 74) [some (.ref 2)] [] h
  refine go 60 (by decide) ?_
  simp only [KX, KY, KZ, KW, KV, Nat.reduceAdd, Nat.reduceSub, Nat.reduceLeDiff, true_and, and_true, true_or, or_true, or_self, reduceCtorEq, if_true, if_false, not_false_eq_true, eq_self, c74, e2, e7, C1.e4, C1.e5, C1.e6]
  rw [if_neg (nI_pos (show k < 2 ^ 31 by omega))]
  first
    | rw [if_pos (show nI k < (201 : Int32) from nI_lt (b := 201) (by omega) (by decide))]
    | rw [if_pos (nI_lt (a := k) (b := 201) (by omega) (by decide))]
  rw [kc]
  rw [a4]
  refine ⟨nI_in (show k < 201 by omega) (by decide), ?_⟩
  by_cases z : cs (qt b n (Ps b n k)) = 263
  · have z2 := (cs_263 q3).mp z
    have kK : k < K := by
      rcases Nat.lt_or_ge k K with y | y
      · exact y
      · obtain rfl : k = K := by omega
        exact absurd z2 (by unfold qt; rw [t2, if_neg (Nat.lt_irrefl n)]; decide)
    rw [if_pos (show nI (cs (qt b n (Ps b n k))) = 263 by rw [z]; rfl), ai_c (c3 6 (by decide) (by decide) (by decide)), t8 k kK]
    exact ⟨nI_in (show k < 201 by omega) (by decide), k0⟩
  · rw [if_neg (show ¬ nI (cs (qt b n (Ps b n k))) = 263 from fun y => z ((nI_eq (by omega) (by decide)).mp (show nI (cs (qt b n (Ps b n k))) = nI 263 from y)))]
    rw [show cv (qt b n (Ps b n k)) = -1 from if_neg (fun y => z ((cs_263 q3).mpr y))] at k0
    exact k0
theorem s55 {h : ma_H} {Q : ma_Q} {hb : ma_H} {n cl k c : Nat} {v : Int32} (C : CP hb n cl h k c) (k1 : c < 200 → CP hb n cl (ma_set (ma_set h 10 (.inl (.int, 200, .inl (upd (ai h 10) c v)))) 7 (lO cl (c + 1))) k (c + 1) → Q none (ma_set (ma_set h 10 (.inl (.int, 200, .inl (upd (ai h 10) c v)))) 7 (lO cl (c + 1)))) (k2 : ¬ c < 200 → Q none h) (cb : c ≤ 200) : ma_X 55 [.ref 7, .int v] h Q := by
  have C0 := C
  obtain ⟨C1, c2, c3, c4, c5⟩ := C
  have e7 : h.2.1 7 = .inr (4, [.int (nI cl), .ref 8, .ref 9, .ref 10, .int (nI c)]) := c5
  have e7b : ∀ x, (ma_set h 10 x).2.1 7 = .inr (4, [.int (nI cl), .ref 8, .ref 9, .ref 10, .int (nI c)]) := fun x => (ma_set_ne _ _ (by decide)).trans c5
  refine ma_enter (m := 55) (Or.inl (by decide)) (by show 2 ≤ mt_n 55; decide +kernel) ?_
  show At 55 Q 0 (mt_c 55) [some (.ref 7), some (.int v)] [] h
  refine go 60 (by decide) ?_
  simp only [KX, KY, KZ, KW, KV, Nat.reduceAdd, Nat.reduceSub, Nat.reduceLeDiff, true_and, and_true, true_or, or_true, or_self, reduceCtorEq, if_true, if_false, not_false_eq_true, eq_self, c55, e7, e7b, C1.e10, List.set_cons_succ, List.set_cons_zero]
  by_cases z : c < 200
  · first
      | rw [if_pos (show nI c < (200 : Int32) from nI_lt (b := 200) z (by decide))]
      | rw [if_pos (nI_lt (a := c) (b := 200) z (by decide))]
    rw [nI_clamp (show c < 2 ^ 31 by omega), nI_1 c]
    refine ⟨nI_in (show c < 200 by omega) (by decide), by simp only [List.length_cons, List.length_nil]; omega, trivial, ?_⟩
    exact k1 z ⟨sh_set (sh_set C1 rfl) rfl, c2, fun a a1 a2 a3 => (ma_set_ne _ _ a2).trans ((ma_set_ne _ _ a3).trans (c3 a a1 a2 a3)), (ma_set_ne _ _ (by decide)).trans ((ma_set_ne _ _ (by decide)).trans c4), ma_set_at _ _ _⟩
  · first
      | rw [if_neg (show ¬ nI c < (200 : Int32) from nI_nlt (b := 200) (by omega) (by omega))]
      | rw [if_neg (nI_nlt (a := c) (b := 200) (by omega) (by omega))]
    exact k2 z
