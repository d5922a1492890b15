/-! GROWTHS: growthAt, growthOf -/
theorem g_un : ∀ k, k < 6 → me_un 3 (g_cls k) = true := by decide
theorem g_gk : ∀ k, k < 6 → ma_gk (g_cls k) = true ∧ ma_sub (g_cls k) 3 = true := by decide
/-- GROWTH i of now -/
theorem Ng.at {h : ma_H} (N : Ng h) : ∃ n, n ≤ 6 ∧ fi h 34 2 = nI n ∧ fi h 80 9 = nI n ∧ ∀ i, i < n → ∃ r k a, ar h 48 i = some r ∧ 115 ≤ r ∧ r < h.1 ∧ k < 6 ∧ a < 64 ∧ h.2.1 r = g_obj k i a ∧ ai h 90 (2 * i) = nI k ∧ ai h 90 (2 * i + 1) = nI a := N.1
theorem s95 {h : ma_H} {Q : ma_Q} {x : Int32} {n i r : Nat} (H : Sh h) (e : fi h 34 2 = nI n) (n6 : n ≤ 6) (hi : i < n) (q : x = nI i) (er : ar h 48 i = some r) (k : Q (some (.ref r)) h) : ma_X 95 [.ref 34, .int x] h Q := by
  have tx : x.toNatClampNeg = i := by subst q; exact nI_clamp (by omega)
  have x1 : ¬ x < 0 := by subst q; exact nI_pos (by omega)
  have x2 : x < nI n := by subst q; exact nI_lt hi (by omega)
  have x3 : x < 6 := by subst q; exact nI_lt (b := 6) (by omega) (by decide)
  refine ma_enter (m := 95) (Or.inl (by decide)) (by show 2 ≤ mt_n 95; decide +kernel) ?_
  show At 95 Q 0 (mt_c 95) [some (.ref 34), some (.int x), none] [] h
  refine go 60 (by decide) ?_
  simp only [KX, KY, KZ, KW, KV, Nat.reduceAdd, Nat.reduceSub, Nat.reduceLeDiff, true_and, and_true, true_or, or_true, or_self, reduceCtorEq, if_true, if_false, not_false_eq_true, eq_self, c95, H.e34, H.e48, e]
  rw [if_neg x1, if_pos x2]
  have x3' : x < nI 6 := x3
  rw [if_pos x3']
  refine go 60 (by decide) ?_
  simp only [KX, KY, KZ, KW, KV, Nat.reduceAdd, Nat.reduceSub, Nat.reduceLeDiff, true_and, and_true, true_or, or_true, or_self, reduceCtorEq, if_true, if_false, not_false_eq_true, eq_self, c95, H.e34, H.e48, tx, er, rf_some]
  exact ⟨by subst q; exact nI_in (by omega) (by decide), k⟩
theorem s95n {h : ma_H} {Q : ma_Q} {x : Int32} {n : Nat} (H : Sh h) (e : fi h 34 2 = nI n) (o : x < 0 ∨ ¬ x < nI n) (k : Q (some .null) h) : ma_X 95 [.ref 34, .int x] h Q := by
  refine ma_enter (m := 95) (Or.inl (by decide)) (by show 2 ≤ mt_n 95; decide +kernel) ?_
  show At 95 Q 0 (mt_c 95) [some (.ref 34), some (.int x), none] [] h
  refine go 60 (by decide) ?_
  simp only [KX, KY, KZ, KW, KV, Nat.reduceAdd, Nat.reduceSub, Nat.reduceLeDiff, true_and, and_true, true_or, or_true, or_self, reduceCtorEq, if_true, if_false, not_false_eq_true, eq_self, c95, H.e34, H.e48, e]
  by_cases x1 : x < 0
  · rw [if_pos x1]
    refine go 60 (by decide) ?_
    simp only [KX, KY, KZ, KW, KV, Nat.reduceAdd, Nat.reduceSub, Nat.reduceLeDiff, true_and, and_true, true_or, or_true, or_self, reduceCtorEq, if_true, if_false, not_false_eq_true, eq_self, c95]
    exact k
  · rw [if_neg x1, if_neg (o.resolve_left x1)]
    refine go 60 (by decide) ?_
    simp only [KX, KY, KZ, KW, KV, Nat.reduceAdd, Nat.reduceSub, Nat.reduceLeDiff, true_and, and_true, true_or, or_true, or_self, reduceCtorEq, if_true, if_false, not_false_eq_true, eq_self, c95]
    exact k
theorem s210y {h : ma_H} {Q : ma_Q} {x : Int32} {n : Nat} (H : Sh h) (e : fi h 80 9 = nI n) (x1 : ¬ x < 0) (x2 : x ≤ nI n - 1) (k : Q (some (.int 1)) h) : ma_X 210 [.ref 80, .int x] h Q := by
  refine ma_enter (m := 210) (Or.inl (by decide)) (by show 2 ≤ mt_n 210; decide +kernel) ?_
  show At 210 Q 0 (mt_c 210) [some (.ref 80), some (.int x)] [] h
  refine go 60 (by decide) ?_
  simp only [KX, KY, KZ, KW, KV, Nat.reduceAdd, Nat.reduceSub, Nat.reduceLeDiff, true_and, and_true, true_or, or_true, or_self, reduceCtorEq, if_true, if_false, not_false_eq_true, eq_self, c210, H.e80, e]
  refine s162y x1 x2 ?_
  refine go 60 (by decide) ?_
  simp only [KX, KY, KZ, KW, KV, Nat.reduceAdd, Nat.reduceSub, Nat.reduceLeDiff, true_and, and_true, true_or, or_true, or_self, reduceCtorEq, if_true, if_false, not_false_eq_true, eq_self, c210]
  first
    | exact k
    | exact ⟨Or.inr rfl, k⟩
theorem s210n {h : ma_H} {Q : ma_Q} {x : Int32} {n : Nat} (H : Sh h) (e : fi h 80 9 = nI n) (o : x < 0 ∨ ¬ x ≤ nI n - 1) (k : Q (some (.int 0)) h) : ma_X 210 [.ref 80, .int x] h Q := by
  refine ma_enter (m := 210) (Or.inl (by decide)) (by show 2 ≤ mt_n 210; decide +kernel) ?_
  show At 210 Q 0 (mt_c 210) [some (.ref 80), some (.int x)] [] h
  refine go 60 (by decide) ?_
  simp only [KX, KY, KZ, KW, KV, Nat.reduceAdd, Nat.reduceSub, Nat.reduceLeDiff, true_and, and_true, true_or, or_true, or_self, reduceCtorEq, if_true, if_false, not_false_eq_true, eq_self, c210, H.e80, e]
  refine s162n o ?_
  refine go 60 (by decide) ?_
  simp only [KX, KY, KZ, KW, KV, Nat.reduceAdd, Nat.reduceSub, Nat.reduceLeDiff, true_and, and_true, true_or, or_true, or_self, reduceCtorEq, if_true, if_false, not_false_eq_true, eq_self, c210]
  first
    | exact k
    | exact ⟨Or.inl rfl, k⟩
theorem s117n {h : ma_H} {Q : ma_Q} {x y : Int32} {n : Nat} (H : Sh h) (e : fi h 34 2 = nI n) (o : x < 0 ∨ ¬ x < nI n) (k : Q (some (.int (-1))) h) : ma_X 117 [.ref 0, .int x, .int y] h Q := by
  refine ma_enter (m := 117) (Or.inl (by decide)) (by show 3 ≤ mt_n 117; decide +kernel) ?_
  show At 117 Q 0 (mt_c 117) [some (.ref 0), some (.int x), some (.int y), none] [] h
  repeat' first
    | assumption
    | (refine go 60 (by decide) ?_; simp only [KX, KY, KZ, KW, KV, Nat.reduceAdd, Nat.reduceSub, Nat.reduceLeDiff, true_and, and_true, true_or, or_true, or_self, reduceCtorEq, if_true, if_false, not_false_eq_true, eq_self, c117, H.e0, H.e34])
    | refine s95n H e o ?_
    | split
theorem s117m {h : ma_H} {Q : ma_Q} {x y : Int32} {n i r kk a : Nat} (H : Sh h) (e : fi h 34 2 = nI n) (n6 : n ≤ 6) (hi : i < n) (q : x = nI i) (er : ar h 48 i = some r) (hk : kk < 6) (eo : h.2.1 r = .inr (g_cls kk, [.int (nI kk), .int (nI i), .int (nI a), .ref 27])) (o : y < 0 ∨ ¬ y ≤ 1) (k : Q (some (.int (-1))) h) : ma_X 117 [.ref 0, .int x, .int y] h Q := by
  refine ma_enter (m := 117) (Or.inl (by decide)) (by show 3 ≤ mt_n 117; decide +kernel) ?_
  show At 117 Q 0 (mt_c 117) [some (.ref 0), some (.int x), some (.int y), none] [] h
  refine go 60 (by decide) ?_
  simp only [KX, KY, KZ, KW, KV, Nat.reduceAdd, Nat.reduceSub, Nat.reduceLeDiff, true_and, and_true, true_or, or_true, or_self, reduceCtorEq, if_true, if_false, not_false_eq_true, eq_self, c117, H.e0, H.e34]
  refine s95 H e n6 hi q er ?_
  refine go 60 (by decide) ?_
  simp only [KX, KY, KZ, KW, KV, Nat.reduceAdd, Nat.reduceSub, Nat.reduceLeDiff, true_and, and_true, true_or, or_true, or_self, reduceCtorEq, if_true, if_false, not_false_eq_true, eq_self, c117, eo, g_un kk hk]
  by_cases y1 : y < 0
  · rw [if_pos y1]; exact k
  · rw [if_neg y1, if_neg (o.resolve_left y1)]; exact k
theorem s117_0 {h : ma_H} {Q : ma_Q} {x y : Int32} {n i r kk a : Nat} (H : Sh h) (e : fi h 34 2 = nI n) (n6 : n ≤ 6) (hi : i < n) (q : x = nI i) (er : ar h 48 i = some r) (hk : kk < 6) (eo : h.2.1 r = .inr (g_cls kk, [.int (nI kk), .int (nI i), .int (nI a), .ref 27])) (k : Q (some (.int (nI kk))) h) : ma_X 117 [.ref 0, .int x, .int 0] h Q := by
  refine ma_enter (m := 117) (Or.inl (by decide)) (by show 3 ≤ mt_n 117; decide +kernel) ?_
  show At 117 Q 0 (mt_c 117) [some (.ref 0), some (.int x), some (.int 0), none] [] h
  refine go 60 (by decide) ?_
  simp only [KX, KY, KZ, KW, KV, Nat.reduceAdd, Nat.reduceSub, Nat.reduceLeDiff, true_and, and_true, true_or, or_true, or_self, reduceCtorEq, if_true, if_false, not_false_eq_true, eq_self, c117, H.e0, H.e34]
  refine s95 H e n6 hi q er ?_
  refine go 60 (by decide) ?_
  simp only [KX, KY, KZ, KW, KV, Nat.reduceAdd, Nat.reduceSub, Nat.reduceLeDiff, true_and, and_true, true_or, or_true, or_self, reduceCtorEq, if_true, if_false, not_false_eq_true, eq_self, c117, eo, g_un kk hk, Int32.reduceLT, Int32.reduceLE]
  exact k
theorem s212_0 {h : ma_H} {Q : ma_Q} {x : Int32} {n i : Nat} (H : Sh h) (e : fi h 80 9 = nI n) (n6 : n ≤ 6) (hi : i < n) (q : x = nI i) (k : Q (some (.int (ai h 90 (2 * i + 0)))) h) : ma_X 212 [.ref 80, .int x, .int 0] h Q := by
  refine ma_enter (m := 212) (Or.inl (by decide)) (by show 3 ≤ mt_n 212; decide +kernel) ?_
  show At 212 Q 0 (mt_c 212) [some (.ref 80), some (.int x), some (.int 0)] [] h
  refine go 60 (by decide) ?_
  simp only [KX, KY, KZ, KW, KV, Nat.reduceAdd, Nat.reduceSub, Nat.reduceLeDiff, true_and, and_true, true_or, or_true, or_self, reduceCtorEq, if_true, if_false, not_false_eq_true, eq_self, c212, H.e80]
  refine s210y H e (by subst q; exact nI_pos (by omega)) (by subst q; obtain ⟨m, rfl⟩ : ∃ m, n = m + 1 := ⟨n - 1, by omega⟩; rw [nI_pred]; exact nI_le (by omega) (by omega)) ?_
  refine go 60 (by decide) ?_
  simp only [KX, KY, KZ, KW, KV, Nat.reduceAdd, Nat.reduceSub, Nat.reduceLeDiff, true_and, and_true, true_or, or_true, or_self, reduceCtorEq, if_true, if_false, not_false_eq_true, eq_self, c212]
  refine s171y (by decide) (by decide) ?_
  refine go 60 (by decide) ?_
  simp only [KX, KY, KZ, KW, KV, Nat.reduceAdd, Nat.reduceSub, Nat.reduceLeDiff, true_and, and_true, true_or, or_true, or_self, reduceCtorEq, if_true, if_false, not_false_eq_true, eq_self, c212, H.e80, H.e90]
  obtain ⟨w1, w2⟩ := ix2 0 12 (by decide) q (by omega)
  exact ⟨w1, by rw [show (2 * x + 0 : Int32).toNatClampNeg = 2 * i + 0 from w2]; exact k⟩
theorem s117_1 {h : ma_H} {Q : ma_Q} {x y : Int32} {n i r kk a : Nat} (H : Sh h) (e : fi h 34 2 = nI n) (n6 : n ≤ 6) (hi : i < n) (q : x = nI i) (er : ar h 48 i = some r) (hk : kk < 6) (eo : h.2.1 r = .inr (g_cls kk, [.int (nI kk), .int (nI i), .int (nI a), .ref 27])) (k : Q (some (.int (nI a))) h) : ma_X 117 [.ref 0, .int x, .int 1] h Q := by
  refine ma_enter (m := 117) (Or.inl (by decide)) (by show 3 ≤ mt_n 117; decide +kernel) ?_
  show At 117 Q 0 (mt_c 117) [some (.ref 0), some (.int x), some (.int 1), none] [] h
  refine go 60 (by decide) ?_
  simp only [KX, KY, KZ, KW, KV, Nat.reduceAdd, Nat.reduceSub, Nat.reduceLeDiff, true_and, and_true, true_or, or_true, or_self, reduceCtorEq, if_true, if_false, not_false_eq_true, eq_self, c117, H.e0, H.e34]
  refine s95 H e n6 hi q er ?_
  refine go 60 (by decide) ?_
  simp only [KX, KY, KZ, KW, KV, Nat.reduceAdd, Nat.reduceSub, Nat.reduceLeDiff, true_and, and_true, true_or, or_true, or_self, reduceCtorEq, if_true, if_false, not_false_eq_true, eq_self, c117, eo, g_un kk hk, Int32.reduceLT, Int32.reduceLE]
  exact k
theorem s212_1 {h : ma_H} {Q : ma_Q} {x : Int32} {n i : Nat} (H : Sh h) (e : fi h 80 9 = nI n) (n6 : n ≤ 6) (hi : i < n) (q : x = nI i) (k : Q (some (.int (ai h 90 (2 * i + 1)))) h) : ma_X 212 [.ref 80, .int x, .int 1] h Q := by
  refine ma_enter (m := 212) (Or.inl (by decide)) (by show 3 ≤ mt_n 212; decide +kernel) ?_
  show At 212 Q 0 (mt_c 212) [some (.ref 80), some (.int x), some (.int 1)] [] h
  refine go 60 (by decide) ?_
  simp only [KX, KY, KZ, KW, KV, Nat.reduceAdd, Nat.reduceSub, Nat.reduceLeDiff, true_and, and_true, true_or, or_true, or_self, reduceCtorEq, if_true, if_false, not_false_eq_true, eq_self, c212, H.e80]
  refine s210y H e (by subst q; exact nI_pos (by omega)) (by subst q; obtain ⟨m, rfl⟩ : ∃ m, n = m + 1 := ⟨n - 1, by omega⟩; rw [nI_pred]; exact nI_le (by omega) (by omega)) ?_
  refine go 60 (by decide) ?_
  simp only [KX, KY, KZ, KW, KV, Nat.reduceAdd, Nat.reduceSub, Nat.reduceLeDiff, true_and, and_true, true_or, or_true, or_self, reduceCtorEq, if_true, if_false, not_false_eq_true, eq_self, c212]
  refine s171y (by decide) (by decide) ?_
  refine go 60 (by decide) ?_
  simp only [KX, KY, KZ, KW, KV, Nat.reduceAdd, Nat.reduceSub, Nat.reduceLeDiff, true_and, and_true, true_or, or_true, or_self, reduceCtorEq, if_true, if_false, not_false_eq_true, eq_self, c212, H.e80, H.e90]
  obtain ⟨w1, w2⟩ := ix2 1 12 (by decide) q (by omega)
  exact ⟨w1, by rw [show (2 * x + 1 : Int32).toNatClampNeg = 2 * i + 1 from w2]; exact k⟩
theorem s212n {h : ma_H} {Q : ma_Q} {x y : Int32} {n : Nat} (H : Sh h) (e : fi h 80 9 = nI n) (o : (x < 0 ∨ ¬ x ≤ nI n - 1) ∨ (y < 0 ∨ ¬ y ≤ 1)) (k : Q (some (.int (-1))) h) : ma_X 212 [.ref 80, .int x, .int y] h Q := by
  refine ma_enter (m := 212) (Or.inl (by decide)) (by show 3 ≤ mt_n 212; decide +kernel) ?_
  show At 212 Q 0 (mt_c 212) [some (.ref 80), some (.int x), some (.int y)] [] h
  refine go 60 (by decide) ?_
  simp only [KX, KY, KZ, KW, KV, Nat.reduceAdd, Nat.reduceSub, Nat.reduceLeDiff, true_and, and_true, true_or, or_true, or_self, reduceCtorEq, if_true, if_false, not_false_eq_true, eq_self, c212, H.e80]
  by_cases ox : x < 0 ∨ ¬ x ≤ nI n - 1
  · refine s210n H e ox ?_
    refine go 60 (by decide) ?_
    simp only [KX, KY, KZ, KW, KV, Nat.reduceAdd, Nat.reduceSub, Nat.reduceLeDiff, true_and, and_true, true_or, or_true, or_self, reduceCtorEq, if_true, if_false, not_false_eq_true, eq_self, c212]
    exact k
  · have x1 : ¬ x < 0 := fun w => ox (Or.inl w)
    have x2 : x ≤ nI n - 1 := Decidable.byContradiction fun w => ox (Or.inr w)
    refine s210y H e x1 x2 ?_
    refine go 60 (by decide) ?_
    simp only [KX, KY, KZ, KW, KV, Nat.reduceAdd, Nat.reduceSub, Nat.reduceLeDiff, true_and, and_true, true_or, or_true, or_self, reduceCtorEq, if_true, if_false, not_false_eq_true, eq_self, c212]
    refine s171n (o.resolve_left ox) ?_
    refine go 60 (by decide) ?_
    simp only [KX, KY, KZ, KW, KV, Nat.reduceAdd, Nat.reduceSub, Nat.reduceLeDiff, true_and, and_true, true_or, or_true, or_self, reduceCtorEq, if_true, if_false, not_false_eq_true, eq_self, c212]
    exact k
theorem p117 {h : ma_H} {x y : Int32} (I : Inv h) : Pair h 117 212 [.int x, .int y] := by
  intro Q k
  obtain ⟨n, n6, e1, e2, g⟩ := I.ng.at
  rcases icasN x n (by omega) with ⟨i, hi, q, -⟩ | ⟨u1, u2⟩
  · obtain ⟨r, kk, a, er, -, -, hk, -, eo, f1, f2⟩ := g i hi
    rcases icase1 y with ⟨rfl, -⟩ | ⟨rfl, -⟩ | o | ⟨-, o, -⟩
    · exact s117_0 (y := 0) I.sh e1 n6 hi q er hk eo (k _ _ (by repeat (first | exact e80_I I | exact e80_S (by assumption) | exact e80_I (by assumption) | exact e80_n I.sh | refine e80_s (by omega) ?_)) fun Q2 k2 => s212_0 I.sh e2 n6 hi q (by rw [Nat.add_zero, f1]; exact k2 _ I))
    · exact s117_1 (y := 0) I.sh e1 n6 hi q er hk eo (k _ _ (by repeat (first | exact e80_I I | exact e80_S (by assumption) | exact e80_I (by assumption) | exact e80_n I.sh | refine e80_s (by omega) ?_)) fun Q2 k2 => s212_1 I.sh e2 n6 hi q (by rw [f2]; exact k2 _ I))
    · exact s117m I.sh e1 n6 hi q er hk eo (Or.inl o) (k _ _ (by repeat (first | exact e80_I I | exact e80_S (by assumption) | exact e80_I (by assumption) | exact e80_n I.sh | refine e80_s (by omega) ?_)) fun Q2 k2 => s212n I.sh e2 (Or.inr (Or.inl o)) (k2 _ I))
    · exact s117m I.sh e1 n6 hi q er hk eo (Or.inr o) (k _ _ (by repeat (first | exact e80_I I | exact e80_S (by assumption) | exact e80_I (by assumption) | exact e80_n I.sh | refine e80_s (by omega) ?_)) fun Q2 k2 => s212n I.sh e2 (Or.inr (Or.inr o)) (k2 _ I))
  · exact s117n I.sh e1 u1 (k _ _ (by repeat (first | exact e80_I I | exact e80_S (by assumption) | exact e80_I (by assumption) | exact e80_n I.sh | refine e80_s (by omega) ?_)) fun Q2 k2 => s212n I.sh e2 (Or.inl u2) (k2 _ I))
