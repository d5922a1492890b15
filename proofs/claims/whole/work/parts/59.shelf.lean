/-! shelf -/
theorem s138b {h : ma_H} {Q : ma_Q} {x y z : Int32} (H : Sh h) (o : (x < 0 ∨ ¬ x < 4) ∨ (y < 0 ∨ ¬ y ≤ 2)) (k : Q (some (.int (-1))) h) : ma_X 138 [.ref 0, .int x, .int y, .int z] h Q := by
  refine ma_enter (m := 138) (Or.inl (by decide)) (by show 4 ≤ mt_n 138; decide +kernel) ?_
  show At 138 Q 0 (mt_c 138) [some (.ref 0), some (.int x), some (.int y), some (.int z)] [] h
  refine go 60 (by decide) ?_
  simp only [KX, KY, KZ, KW, KV, Nat.reduceAdd, Nat.reduceSub, Nat.reduceLeDiff, true_and, and_true, true_or, or_true, or_self, reduceCtorEq, if_true, if_false, not_false_eq_true, eq_self, c138]
  by_cases ox : x < 0 ∨ ¬ x < 4
  · refine s149n ox ?_
    refine go 7 (by decide) ?_
    simp only [KX, KY, KZ, KW, KV, Nat.reduceAdd, Nat.reduceSub, Nat.reduceLeDiff, true_and, and_true, true_or, or_true, or_self, reduceCtorEq, if_true, if_false, not_false_eq_true, eq_self, c138]
    exact k
  · refine s149y (fun w => ox (Or.inl w)) (Decidable.byContradiction fun w => ox (Or.inr w)) ?_
    refine go 7 (by decide) ?_
    simp only [KX, KY, KZ, KW, KV, Nat.reduceAdd, Nat.reduceSub, Nat.reduceLeDiff, true_and, and_true, true_or, or_true, or_self, reduceCtorEq, if_true, if_false, not_false_eq_true, eq_self, c138]
    have oy := o.resolve_left ox
    by_cases y0 : y < 0
    · rw [if_pos y0]
      try (refine go 60 (by decide) ?_; simp only [KX, KY, KZ, KW, KV, Nat.reduceAdd, Nat.reduceSub, Nat.reduceLeDiff, true_and, and_true, true_or, or_true, or_self, reduceCtorEq, if_true, if_false, not_false_eq_true, eq_self, c138])
      exact k
    · rw [if_neg y0, if_neg (oy.resolve_left y0)]
      try (refine go 60 (by decide) ?_; simp only [KX, KY, KZ, KW, KV, Nat.reduceAdd, Nat.reduceSub, Nat.reduceLeDiff, true_and, and_true, true_or, or_true, or_self, reduceCtorEq, if_true, if_false, not_false_eq_true, eq_self, c138])
      exact k
theorem s253b {h : ma_H} {Q : ma_Q} {y z : Int32} (n0 : ¬ y = 0) (n1 : ¬ y = 1) (n2 : ¬ y = 2) (k : Q (some (.int 0)) h) : ma_X 253 [.ref 80, .int y, .int z] h Q := by
  refine ma_enter (m := 253) (Or.inl (by decide)) (by show 3 ≤ mt_n 253; decide +kernel) ?_
  show At 253 Q 0 (mt_c 253) [some (.ref 80), some (.int y), some (.int z)] [] h
  refine go 60 (by decide) ?_
  simp only [KX, KY, KZ, KW, KV, Nat.reduceAdd, Nat.reduceSub, Nat.reduceLeDiff, true_and, and_true, true_or, or_true, or_self, reduceCtorEq, if_true, if_false, not_false_eq_true, eq_self, c253]
  rw [if_neg n0, if_neg n1, if_neg n2]
  first
    | exact k
    | exact ⟨Or.inl rfl, k⟩
theorem s254b {h : ma_H} {Q : ma_Q} {x y z : Int32} (H : Sh h) (o : (x < 0 ∨ ¬ x ≤ 3) ∨ (¬ y = 0 ∧ ¬ y = 1 ∧ ¬ y = 2)) (k : Q (some (.int (-1))) h) : ma_X 254 [.ref 80, .int x, .int y, .int z] h Q := by
  refine ma_enter (m := 254) (Or.inl (by decide)) (by show 4 ≤ mt_n 254; decide +kernel) ?_
  show At 254 Q 0 (mt_c 254) [some (.ref 80), some (.int x), some (.int y), some (.int z)] [] h
  refine go 60 (by decide) ?_
  simp only [KX, KY, KZ, KW, KV, Nat.reduceAdd, Nat.reduceSub, Nat.reduceLeDiff, true_and, and_true, true_or, or_true, or_self, reduceCtorEq, if_true, if_false, not_false_eq_true, eq_self, c254]
  by_cases ox : x < 0 ∨ ¬ x ≤ 3
  · refine s248n ox ?_
    refine go 60 (by decide) ?_
    simp only [KX, KY, KZ, KW, KV, Nat.reduceAdd, Nat.reduceSub, Nat.reduceLeDiff, true_and, and_true, true_or, or_true, or_self, reduceCtorEq, if_true, if_false, not_false_eq_true, eq_self, c254]
    exact k
  · refine s248y (fun w => ox (Or.inl w)) (Decidable.byContradiction fun w => ox (Or.inr w)) ?_
    refine go 60 (by decide) ?_
    simp only [KX, KY, KZ, KW, KV, Nat.reduceAdd, Nat.reduceSub, Nat.reduceLeDiff, true_and, and_true, true_or, or_true, or_self, reduceCtorEq, if_true, if_false, not_false_eq_true, eq_self, c254, H.e80]
    obtain ⟨n0, n1, n2⟩ := o.resolve_left ox
    refine s253b n0 n1 n2 ?_
    refine go 60 (by decide) ?_
    simp only [KX, KY, KZ, KW, KV, Nat.reduceAdd, Nat.reduceSub, Nat.reduceLeDiff, true_and, and_true, true_or, or_true, or_self, reduceCtorEq, if_true, if_false, not_false_eq_true, eq_self, c254]
    exact k
theorem s138g {h : ma_H} {Q : ma_Q} {x z : Int32} {s : Nat} (H : Sh h) (hs : s < 4) (x0 : ¬ x < 0) (x4 : x < 4) (x3 : x ≤ 3) (vx : vp_in x 4) (tx : x.toNatClampNeg = s) {n i r : Nat} (e : fi h 34 2 = nI n) (n6 : n ≤ 6) (hi : i < n) (q : z = nI i) (er : ar h 48 i = some r) (k : Q (some (.int 1)) (ma_set (ma_set h 25 (.inl (.int, 4, .inl (upd (upd (ai h 25) s (-1)) s 0)))) 26 (.inl (.int, 4, .inl (upd (ai h 26) s z))))) : ma_X 138 [.ref 0, .int x, .int 0, .int z] h Q := by
  refine ma_enter (m := 138) (Or.inl (by decide)) (by show 4 ≤ mt_n 138; decide +kernel) ?_
  show At 138 Q 0 (mt_c 138) [some (.ref 0), some (.int x), some (.int 0), some (.int z)] [] h
  repeat' first
    | assumption
    | refine ⟨vx, vx, vx, ?_⟩
    | contradiction
    | refine ⟨vx, ?_⟩
    | (refine go 14 (by decide) ?_; simp only [KX, KY, KZ, KW, KV, Nat.reduceAdd, Nat.reduceSub, Nat.reduceLeDiff, true_and, and_true, true_or, or_true, or_self, reduceCtorEq, if_true, if_false, not_false_eq_true, eq_self, c138, H.e0, H.e34, H.e25, H.e26, tx, ma_set_at, ma_set_set, show ((2 : Int32) = 1) = False from by decide, show ((0 : Int32) = 2) = False from by decide, show ((1 : Int32) = 2) = False from by decide, Int32.reduceLT, Int32.reduceLE, ma_get, Nat.reduceEqDiff, ↓reduceIte, Int32.reduceLT, Int32.reduceLE])
    | refine s149y x0 x4 ?_
    | refine s95 H e n6 hi q er ?_
    | split
theorem s138gn {h : ma_H} {Q : ma_Q} {x z : Int32} {s : Nat} (H : Sh h) (hs : s < 4) (x0 : ¬ x < 0) (x4 : x < 4) (x3 : x ≤ 3) (vx : vp_in x 4) (tx : x.toNatClampNeg = s) {n : Nat} (e : fi h 34 2 = nI n) (o : z < 0 ∨ ¬ z < nI n) (k : Q (some (.int (-1))) h) : ma_X 138 [.ref 0, .int x, .int 0, .int z] h Q := by
  refine ma_enter (m := 138) (Or.inl (by decide)) (by show 4 ≤ mt_n 138; decide +kernel) ?_
  show At 138 Q 0 (mt_c 138) [some (.ref 0), some (.int x), some (.int 0), some (.int z)] [] h
  repeat' first
    | assumption
    | contradiction
    | refine ⟨vx, ?_⟩
    | (refine go 14 (by decide) ?_; simp only [KX, KY, KZ, KW, KV, Nat.reduceAdd, Nat.reduceSub, Nat.reduceLeDiff, true_and, and_true, true_or, or_true, or_self, reduceCtorEq, if_true, if_false, not_false_eq_true, eq_self, c138, H.e0, H.e34, show ((2 : Int32) = 1) = False from by decide, show ((0 : Int32) = 2) = False from by decide, show ((1 : Int32) = 2) = False from by decide, Int32.reduceLT, Int32.reduceLE])
    | refine s149y x0 x4 ?_
    | refine s95n H e o ?_
    | split
theorem s138t {h : ma_H} {Q : ma_Q} {x z : Int32} {s : Nat} (H : Sh h) (hs : s < 4) (x0 : ¬ x < 0) (x4 : x < 4) (x3 : x ≤ 3) (vx : vp_in x 4) (tx : x.toNatClampNeg = s) {s2 : Nat} (hs2 : s2 < 4) (z0 : ¬ z < 0) (z4 : z < 4) (z3 : z ≤ 3) (vz : vp_in z 4) (tz : z.toNatClampNeg = s2) (so : ¬ ai h 23 s2 < 0) (k : Q (some (.int 1)) (ma_set (ma_set h 25 (.inl (.int, 4, .inl (upd (upd (ai h 25) s (-1)) s (10 + ai h 23 s2))))) 26 (.inl (.int, 4, .inl (upd (ai h 26) s (ai h 24 s2)))))) : ma_X 138 [.ref 0, .int x, .int 1, .int z] h Q := by
  refine ma_enter (m := 138) (Or.inl (by decide)) (by show 4 ≤ mt_n 138; decide +kernel) ?_
  show At 138 Q 0 (mt_c 138) [some (.ref 0), some (.int x), some (.int 1), some (.int z)] [] h
  repeat' first
    | assumption
    | contradiction
    | refine ⟨vz, vx, vz, vx, ?_⟩
    | refine ⟨vz, vx, ?_⟩
    | refine ⟨vx, vz, ?_⟩
    | refine ⟨vz, ?_⟩
    | contradiction
    | refine ⟨vx, ?_⟩
    | (refine go 14 (by decide) ?_; simp only [KX, KY, KZ, KW, KV, Nat.reduceAdd, Nat.reduceSub, Nat.reduceLeDiff, true_and, and_true, true_or, or_true, or_self, reduceCtorEq, if_true, if_false, not_false_eq_true, eq_self, c138, H.e0, H.e34, H.e23, H.e24, H.e25, H.e26, tx, tz, ma_set_at, ma_set_set, show ((2 : Int32) = 1) = False from by decide, show ((0 : Int32) = 2) = False from by decide, show ((1 : Int32) = 2) = False from by decide, Int32.reduceLT, Int32.reduceLE, ma_get, Nat.reduceEqDiff, ↓reduceIte, Int32.reduceLT, Int32.reduceLE])
    | refine s149y x0 x4 ?_
    | refine s148y z0 z4 ?_
    | split
theorem s138e {h : ma_H} {Q : ma_Q} {x z : Int32} {s : Nat} (H : Sh h) (hs : s < 4) (x0 : ¬ x < 0) (x4 : x < 4) (x3 : x ≤ 3) (vx : vp_in x 4) (tx : x.toNatClampNeg = s) {s2 : Nat} (hs2 : s2 < 4) (z0 : ¬ z < 0) (z4 : z < 4) (z3 : z ≤ 3) (vz : vp_in z 4) (tz : z.toNatClampNeg = s2) (so : ai h 23 s2 < 0) (k : Q (some (.int 1)) (ma_set h 25 (.inl (.int, 4, .inl (upd (ai h 25) s (-1)))))) : ma_X 138 [.ref 0, .int x, .int 1, .int z] h Q := by
  refine ma_enter (m := 138) (Or.inl (by decide)) (by show 4 ≤ mt_n 138; decide +kernel) ?_
  show At 138 Q 0 (mt_c 138) [some (.ref 0), some (.int x), some (.int 1), some (.int z)] [] h
  repeat' first
    | assumption
    | contradiction
    | refine ⟨vx, vz, ?_⟩
    | refine ⟨vz, ?_⟩
    | contradiction
    | refine ⟨vx, ?_⟩
    | (refine go 14 (by decide) ?_; simp only [KX, KY, KZ, KW, KV, Nat.reduceAdd, Nat.reduceSub, Nat.reduceLeDiff, true_and, and_true, true_or, or_true, or_self, reduceCtorEq, if_true, if_false, not_false_eq_true, eq_self, c138, H.e0, H.e34, H.e23, H.e24, H.e25, H.e26, tx, tz, ma_set_at, ma_set_set, show ((2 : Int32) = 1) = False from by decide, show ((0 : Int32) = 2) = False from by decide, show ((1 : Int32) = 2) = False from by decide, Int32.reduceLT, Int32.reduceLE, ma_get, Nat.reduceEqDiff, ↓reduceIte, Int32.reduceLT, Int32.reduceLE])
    | refine s149y x0 x4 ?_
    | refine s148y z0 z4 ?_
    | split
theorem s138tn {h : ma_H} {Q : ma_Q} {x z : Int32} {s : Nat} (H : Sh h) (hs : s < 4) (x0 : ¬ x < 0) (x4 : x < 4) (x3 : x ≤ 3) (vx : vp_in x 4) (tx : x.toNatClampNeg = s) (o : z < 0 ∨ ¬ z < 4) (k : Q (some (.int (-1))) h) : ma_X 138 [.ref 0, .int x, .int 1, .int z] h Q := by
  refine ma_enter (m := 138) (Or.inl (by decide)) (by show 4 ≤ mt_n 138; decide +kernel) ?_
  show At 138 Q 0 (mt_c 138) [some (.ref 0), some (.int x), some (.int 1), some (.int z)] [] h
  repeat' first
    | assumption
    | contradiction
    | refine ⟨vx, ?_⟩
    | (refine go 14 (by decide) ?_; simp only [KX, KY, KZ, KW, KV, Nat.reduceAdd, Nat.reduceSub, Nat.reduceLeDiff, true_and, and_true, true_or, or_true, or_self, reduceCtorEq, if_true, if_false, not_false_eq_true, eq_self, c138, H.e0, H.e34, show ((2 : Int32) = 1) = False from by decide, show ((0 : Int32) = 2) = False from by decide, show ((1 : Int32) = 2) = False from by decide, Int32.reduceLT, Int32.reduceLE])
    | refine s149y x0 x4 ?_
    | refine s148n o ?_
    | split
theorem s138_2 {h : ma_H} {Q : ma_Q} {x z : Int32} {s : Nat} (H : Sh h) (hs : s < 4) (x0 : ¬ x < 0) (x4 : x < 4) (x3 : x ≤ 3) (vx : vp_in x 4) (tx : x.toNatClampNeg = s) (k : Q (some (.int 1)) (ma_set h 25 (.inl (.int, 4, .inl (upd (ai h 25) s (-1)))))) : ma_X 138 [.ref 0, .int x, .int 2, .int z] h Q := by
  refine ma_enter (m := 138) (Or.inl (by decide)) (by show 4 ≤ mt_n 138; decide +kernel) ?_
  show At 138 Q 0 (mt_c 138) [some (.ref 0), some (.int x), some (.int 2), some (.int z)] [] h
  repeat' first
    | assumption
    | contradiction
    | refine ⟨vx, ?_⟩
    | (refine go 14 (by decide) ?_; simp only [KX, KY, KZ, KW, KV, Nat.reduceAdd, Nat.reduceSub, Nat.reduceLeDiff, true_and, and_true, true_or, or_true, or_self, reduceCtorEq, if_true, if_false, not_false_eq_true, eq_self, c138, H.e0, H.e25, tx, show ((2 : Int32) = 1) = False from by decide, show ((0 : Int32) = 2) = False from by decide, show ((1 : Int32) = 2) = False from by decide, Int32.reduceLT, Int32.reduceLE, ma_get, Nat.reduceEqDiff, ↓reduceIte, Int32.reduceLT, Int32.reduceLE])
    | refine s149y x0 x4 ?_
    | split
theorem s253_g {h : ma_H} {Q : ma_Q} {z : Int32} (H : Sh h) {n : Nat} (e : fi h 80 9 = nI n) (z0 : ¬ z < 0) (z3 : z ≤ nI n - 1) (k : Q (some (.int 1)) h) : ma_X 253 [.ref 80, .int 0, .int z] h Q := by
  refine ma_enter (m := 253) (Or.inl (by decide)) (by show 3 ≤ mt_n 253; decide +kernel) ?_
  show At 253 Q 0 (mt_c 253) [some (.ref 80), some (.int 0), some (.int z)] [] h
  repeat' first
    | assumption
    | exact ⟨Or.inr rfl, k⟩
    | (refine go 60 (by decide) ?_; simp only [KX, KY, KZ, KW, KV, Nat.reduceAdd, Nat.reduceSub, Nat.reduceLeDiff, true_and, and_true, true_or, or_true, or_self, reduceCtorEq, if_true, if_false, not_false_eq_true, eq_self, c253, H.e80, show ((2 : Int32) = 1) = False from by decide, show ((0 : Int32) = 2) = False from by decide, show ((1 : Int32) = 2) = False from by decide, Int32.reduceLT, Int32.reduceLE])
    | refine s210y H e z0 z3 ?_
    | split
theorem s253_t {h : ma_H} {Q : ma_Q} {z : Int32} (H : Sh h) (z0 : ¬ z < 0) (z3 : z ≤ 3) (k : Q (some (.int 1)) h) : ma_X 253 [.ref 80, .int 1, .int z] h Q := by
  refine ma_enter (m := 253) (Or.inl (by decide)) (by show 3 ≤ mt_n 253; decide +kernel) ?_
  show At 253 Q 0 (mt_c 253) [some (.ref 80), some (.int 1), some (.int z)] [] h
  repeat' first
    | assumption
    | exact ⟨Or.inr rfl, k⟩
    | (refine go 60 (by decide) ?_; simp only [KX, KY, KZ, KW, KV, Nat.reduceAdd, Nat.reduceSub, Nat.reduceLeDiff, true_and, and_true, true_or, or_true, or_self, reduceCtorEq, if_true, if_false, not_false_eq_true, eq_self, c253, H.e80, show ((2 : Int32) = 1) = False from by decide, show ((0 : Int32) = 2) = False from by decide, show ((1 : Int32) = 2) = False from by decide, Int32.reduceLT, Int32.reduceLE])
    | refine s248y z0 z3 ?_
    | split
theorem s253_2 {h : ma_H} {Q : ma_Q} {z : Int32} (H : Sh h)  (k : Q (some (.int 1)) h) : ma_X 253 [.ref 80, .int 2, .int z] h Q := by
  refine ma_enter (m := 253) (Or.inl (by decide)) (by show 3 ≤ mt_n 253; decide +kernel) ?_
  show At 253 Q 0 (mt_c 253) [some (.ref 80), some (.int 2), some (.int z)] [] h
  repeat' first
    | assumption
    | exact ⟨Or.inr rfl, k⟩
    | (refine go 60 (by decide) ?_; simp only [KX, KY, KZ, KW, KV, Nat.reduceAdd, Nat.reduceSub, Nat.reduceLeDiff, true_and, and_true, true_or, or_true, or_self, reduceCtorEq, if_true, if_false, not_false_eq_true, eq_self, c253, H.e80, show ((2 : Int32) = 1) = False from by decide, show ((0 : Int32) = 2) = False from by decide, show ((1 : Int32) = 2) = False from by decide, Int32.reduceLT, Int32.reduceLE])
    | split
theorem s253_gn {h : ma_H} {Q : ma_Q} {z : Int32} (H : Sh h) {n : Nat} (e : fi h 80 9 = nI n) (o : z < 0 ∨ ¬ z ≤ nI n - 1) (k : Q (some (.int 0)) h) : ma_X 253 [.ref 80, .int 0, .int z] h Q := by
  refine ma_enter (m := 253) (Or.inl (by decide)) (by show 3 ≤ mt_n 253; decide +kernel) ?_
  show At 253 Q 0 (mt_c 253) [some (.ref 80), some (.int 0), some (.int z)] [] h
  repeat' first
    | assumption
    | exact ⟨Or.inl rfl, k⟩
    | (refine go 60 (by decide) ?_; simp only [KX, KY, KZ, KW, KV, Nat.reduceAdd, Nat.reduceSub, Nat.reduceLeDiff, true_and, and_true, true_or, or_true, or_self, reduceCtorEq, if_true, if_false, not_false_eq_true, eq_self, c253, H.e80, show ((2 : Int32) = 1) = False from by decide, show ((0 : Int32) = 2) = False from by decide, show ((1 : Int32) = 2) = False from by decide, Int32.reduceLT, Int32.reduceLE])
    | refine s210n H e o ?_
    | split
theorem s254gn {h : ma_H} {Q : ma_Q} {x z : Int32} {s : Nat} (H : Sh h) (hs : s < 4) (x0 : ¬ x < 0) (x4 : x < 4) (x3 : x ≤ 3) (vx : vp_in x 4) (tx : x.toNatClampNeg = s) {n : Nat} (e : fi h 80 9 = nI n) (o : z < 0 ∨ ¬ z ≤ nI n - 1) (k : Q (some (.int (-1))) h) : ma_X 254 [.ref 80, .int x, .int 0, .int z] h Q := by
  refine ma_enter (m := 254) (Or.inl (by decide)) (by show 4 ≤ mt_n 254; decide +kernel) ?_
  show At 254 Q 0 (mt_c 254) [some (.ref 80), some (.int x), some (.int 0), some (.int z)] [] h
  repeat' first
    | assumption
    | contradiction
    | refine ⟨vx, ?_⟩
    | (refine go 60 (by decide) ?_; simp only [KX, KY, KZ, KW, KV, Nat.reduceAdd, Nat.reduceSub, Nat.reduceLeDiff, true_and, and_true, true_or, or_true, or_self, reduceCtorEq, if_true, if_false, not_false_eq_true, eq_self, c254, H.e80, show ((2 : Int32) = 1) = False from by decide, show ((0 : Int32) = 2) = False from by decide, show ((1 : Int32) = 2) = False from by decide, Int32.reduceLT, Int32.reduceLE])
    | refine s248y x0 x3 ?_
    | refine s253_gn H e o ?_
    | split
theorem s253_tn {h : ma_H} {Q : ma_Q} {z : Int32} (H : Sh h) (o : z < 0 ∨ ¬ z ≤ 3) (k : Q (some (.int 0)) h) : ma_X 253 [.ref 80, .int 1, .int z] h Q := by
  refine ma_enter (m := 253) (Or.inl (by decide)) (by show 3 ≤ mt_n 253; decide +kernel) ?_
  show At 253 Q 0 (mt_c 253) [some (.ref 80), some (.int 1), some (.int z)] [] h
  repeat' first
    | assumption
    | exact ⟨Or.inl rfl, k⟩
    | (refine go 60 (by decide) ?_; simp only [KX, KY, KZ, KW, KV, Nat.reduceAdd, Nat.reduceSub, Nat.reduceLeDiff, true_and, and_true, true_or, or_true, or_self, reduceCtorEq, if_true, if_false, not_false_eq_true, eq_self, c253, H.e80, show ((2 : Int32) = 1) = False from by decide, show ((0 : Int32) = 2) = False from by decide, show ((1 : Int32) = 2) = False from by decide, Int32.reduceLT, Int32.reduceLE])
    | refine s248n o ?_
    | split
theorem s254tn {h : ma_H} {Q : ma_Q} {x z : Int32} {s : Nat} (H : Sh h) (hs : s < 4) (x0 : ¬ x < 0) (x4 : x < 4) (x3 : x ≤ 3) (vx : vp_in x 4) (tx : x.toNatClampNeg = s) (o : z < 0 ∨ ¬ z ≤ 3) (k : Q (some (.int (-1))) h) : ma_X 254 [.ref 80, .int x, .int 1, .int z] h Q := by
  refine ma_enter (m := 254) (Or.inl (by decide)) (by show 4 ≤ mt_n 254; decide +kernel) ?_
  show At 254 Q 0 (mt_c 254) [some (.ref 80), some (.int x), some (.int 1), some (.int z)] [] h
  repeat' first
    | assumption
    | contradiction
    | refine ⟨vx, ?_⟩
    | (refine go 60 (by decide) ?_; simp only [KX, KY, KZ, KW, KV, Nat.reduceAdd, Nat.reduceSub, Nat.reduceLeDiff, true_and, and_true, true_or, or_true, or_self, reduceCtorEq, if_true, if_false, not_false_eq_true, eq_self, c254, H.e80, show ((2 : Int32) = 1) = False from by decide, show ((0 : Int32) = 2) = False from by decide, show ((1 : Int32) = 2) = False from by decide, Int32.reduceLT, Int32.reduceLE])
    | refine s248y x0 x3 ?_
    | refine s253_tn H o ?_
    | split
theorem s254g {h : ma_H} {Q : ma_Q} {x z : Int32} {s : Nat} (H : Sh h) (hs : s < 4) (x0 : ¬ x < 0) (x4 : x < 4) (x3 : x ≤ 3) (vx : vp_in x 4) (tx : x.toNatClampNeg = s) {n : Nat} (e : fi h 80 9 = nI n) (z0 : ¬ z < 0) (z3 : z ≤ nI n - 1) (k : Q (some (.int 1)) (ma_set (ma_set (ma_set h 109 (.inl (.int, 4, .inl (upd (ai h 109) s 0)))) 110 (.inl (.int, 4, .inl (upd (ai h 110) s z)))) 111 (.inl (.int, 4, .inl (upd (ai h 111) s 0))))) : ma_X 254 [.ref 80, .int x, .int 0, .int z] h Q := by
  refine ma_enter (m := 254) (Or.inl (by decide)) (by show 4 ≤ mt_n 254; decide +kernel) ?_
  show At 254 Q 0 (mt_c 254) [some (.ref 80), some (.int x), some (.int 0), some (.int z)] [] h
  repeat' first
    | assumption
    | contradiction
    | refine ⟨vx, ?_⟩
    | (refine go 60 (by decide) ?_; simp only [KX, KY, KZ, KW, KV, Nat.reduceAdd, Nat.reduceSub, Nat.reduceLeDiff, true_and, and_true, true_or, or_true, or_self, reduceCtorEq, if_true, if_false, not_false_eq_true, eq_self, c254, H.e80, H.e106, H.e107, H.e109, H.e110, H.e111, tx, ma_set_at, show ((2 : Int32) = 1) = False from by decide, show ((0 : Int32) = 2) = False from by decide, show ((1 : Int32) = 2) = False from by decide, Int32.reduceLT, Int32.reduceLE, ma_get, Nat.reduceEqDiff, ↓reduceIte, Int32.reduceLT, Int32.reduceLE])
    | refine s248y x0 x3 ?_
    | refine s253_g H e z0 z3 ?_
    | split
theorem s254_2 {h : ma_H} {Q : ma_Q} {x z : Int32} {s : Nat} (H : Sh h) (hs : s < 4) (x0 : ¬ x < 0) (x4 : x < 4) (x3 : x ≤ 3) (vx : vp_in x 4) (tx : x.toNatClampNeg = s) (k : Q (some (.int 1)) (ma_set (ma_set (ma_set h 109 (.inl (.int, 4, .inl (upd (ai h 109) s (-1))))) 110 (.inl (.int, 4, .inl (upd (ai h 110) s z)))) 111 (.inl (.int, 4, .inl (upd (ai h 111) s 0))))) : ma_X 254 [.ref 80, .int x, .int 2, .int z] h Q := by
  refine ma_enter (m := 254) (Or.inl (by decide)) (by show 4 ≤ mt_n 254; decide +kernel) ?_
  show At 254 Q 0 (mt_c 254) [some (.ref 80), some (.int x), some (.int 2), some (.int z)] [] h
  repeat' first
    | assumption
    | contradiction
    | refine ⟨vx, ?_⟩
    | (refine go 60 (by decide) ?_; simp only [KX, KY, KZ, KW, KV, Nat.reduceAdd, Nat.reduceSub, Nat.reduceLeDiff, true_and, and_true, true_or, or_true, or_self, reduceCtorEq, if_true, if_false, not_false_eq_true, eq_self, c254, H.e80, H.e106, H.e107, H.e109, H.e110, H.e111, tx, ma_set_at, show ((2 : Int32) = 1) = False from by decide, show ((0 : Int32) = 2) = False from by decide, show ((1 : Int32) = 2) = False from by decide, Int32.reduceLT, Int32.reduceLE, ma_get, Nat.reduceEqDiff, ↓reduceIte, Int32.reduceLT, Int32.reduceLE])
    | refine s248y x0 x3 ?_
    | refine s253_2 H ?_
    | split
theorem s254t {h : ma_H} {Q : ma_Q} {x z : Int32} {s : Nat} (H : Sh h) (hs : s < 4) (x0 : ¬ x < 0) (x4 : x < 4) (x3 : x ≤ 3) (vx : vp_in x 4) (tx : x.toNatClampNeg = s) {s2 : Nat} (hs2 : s2 < 4) (z0 : ¬ z < 0) (z4 : z < 4) (z3 : z ≤ 3) (vz : vp_in z 4) (tz : z.toNatClampNeg = s2) (so : ¬ ai h 106 s2 < 0) (k : Q (some (.int 1)) (ma_set (ma_set (ma_set h 109 (.inl (.int, 4, .inl (upd (ai h 109) s 1)))) 110 (.inl (.int, 4, .inl (upd (ai h 110) s (ai h 106 s2))))) 111 (.inl (.int, 4, .inl (upd (ai h 111) s (ai h 107 s2)))))) : ma_X 254 [.ref 80, .int x, .int 1, .int z] h Q := by
  refine ma_enter (m := 254) (Or.inl (by decide)) (by show 4 ≤ mt_n 254; decide +kernel) ?_
  show At 254 Q 0 (mt_c 254) [some (.ref 80), some (.int x), some (.int 1), some (.int z)] [] h
  repeat' first
    | assumption
    | contradiction
    | refine ⟨vz, vx, ?_⟩
    | refine ⟨vz, ?_⟩
    | contradiction
    | refine ⟨vx, ?_⟩
    | (refine go 60 (by decide) ?_; simp only [KX, KY, KZ, KW, KV, Nat.reduceAdd, Nat.reduceSub, Nat.reduceLeDiff, true_and, and_true, true_or, or_true, or_self, reduceCtorEq, if_true, if_false, not_false_eq_true, eq_self, c254, H.e80, H.e106, H.e107, H.e109, H.e110, H.e111, tx, ma_set_at, show ((2 : Int32) = 1) = False from by decide, show ((0 : Int32) = 2) = False from by decide, show ((1 : Int32) = 2) = False from by decide, Int32.reduceLT, Int32.reduceLE, ma_get, Nat.reduceEqDiff, ↓reduceIte, Int32.reduceLT, Int32.reduceLE, tz])
    | refine s248y x0 x3 ?_
    | refine s253_t H z0 z3 ?_
    | split
theorem s254e {h : ma_H} {Q : ma_Q} {x z : Int32} {s : Nat} (H : Sh h) (hs : s < 4) (x0 : ¬ x < 0) (x4 : x < 4) (x3 : x ≤ 3) (vx : vp_in x 4) (tx : x.toNatClampNeg = s) {s2 : Nat} (hs2 : s2 < 4) (z0 : ¬ z < 0) (z4 : z < 4) (z3 : z ≤ 3) (vz : vp_in z 4) (tz : z.toNatClampNeg = s2) (so : ai h 106 s2 < 0) (k : Q (some (.int 1)) (ma_set (ma_set (ma_set h 109 (.inl (.int, 4, .inl (upd (ai h 109) s (-1))))) 110 (.inl (.int, 4, .inl (upd (ai h 110) s (ai h 106 s2))))) 111 (.inl (.int, 4, .inl (upd (ai h 111) s (ai h 107 s2)))))) : ma_X 254 [.ref 80, .int x, .int 1, .int z] h Q := by
  refine ma_enter (m := 254) (Or.inl (by decide)) (by show 4 ≤ mt_n 254; decide +kernel) ?_
  show At 254 Q 0 (mt_c 254) [some (.ref 80), some (.int x), some (.int 1), some (.int z)] [] h
  repeat' first
    | assumption
    | contradiction
    | refine ⟨vz, vx, ?_⟩
    | refine ⟨vz, ?_⟩
    | contradiction
    | refine ⟨vx, ?_⟩
    | (refine go 60 (by decide) ?_; simp only [KX, KY, KZ, KW, KV, Nat.reduceAdd, Nat.reduceSub, Nat.reduceLeDiff, true_and, and_true, true_or, or_true, or_self, reduceCtorEq, if_true, if_false, not_false_eq_true, eq_self, c254, H.e80, H.e106, H.e107, H.e109, H.e110, H.e111, tx, ma_set_at, show ((2 : Int32) = 1) = False from by decide, show ((0 : Int32) = 2) = False from by decide, show ((1 : Int32) = 2) = False from by decide, Int32.reduceLT, Int32.reduceLE, ma_get, Nat.reduceEqDiff, ↓reduceIte, Int32.reduceLT, Int32.reduceLE, tz])
    | refine s248y x0 x3 ?_
    | refine s253_t H z0 z3 ?_
    | split
