/-! SHEETS: put, sheet -/
theorem s136n {h : ma_H} {Q : ma_Q} {x y v : Int32} (o : x < 0 ∨ ¬ x < 4) (k : Q (some (.int (-1))) h) : ma_X 136 [.ref 0, .int x, .int y, .int v] h Q := by
  refine ma_enter (m := 136) (Or.inl (by decide)) (by show 4 ≤ mt_n 136; decide +kernel) ?_
  show At 136 Q 0 (mt_c 136) [some (.ref 0), some (.int x), some (.int y), some (.int v)] [] h
  repeat' first
    | assumption
    | (refine go 60 (by decide) ?_; simp only [KX, KY, KZ, KW, KV, Nat.reduceAdd, Nat.reduceSub, Nat.reduceLeDiff, true_and, and_true, true_or, or_true, or_self, reduceCtorEq, if_true, if_false, not_false_eq_true, eq_self, c136])
    | refine s148n o ?_
    | split
theorem s250n {h : ma_H} {Q : ma_Q} {x y v : Int32} (o : x < 0 ∨ ¬ x ≤ 3) (k : Q (some (.int (-1))) h) : ma_X 250 [.ref 80, .int x, .int y, .int v] h Q := by
  refine ma_enter (m := 250) (Or.inl (by decide)) (by show 4 ≤ mt_n 250; decide +kernel) ?_
  show At 250 Q 0 (mt_c 250) [some (.ref 80), some (.int x), some (.int y), some (.int v)] [] h
  repeat' first
    | assumption
    | (refine go 60 (by decide) ?_; simp only [KX, KY, KZ, KW, KV, Nat.reduceAdd, Nat.reduceSub, Nat.reduceLeDiff, true_and, and_true, true_or, or_true, or_self, reduceCtorEq, if_true, if_false, not_false_eq_true, eq_self, c250])
    | refine s248n o ?_
    | split
theorem s136s {h : ma_H} {Q : ma_Q} {x y v : Int32} {f : Nat} (H : Sh h) (l : f < 4) (q : x = nI f) (s : ai h 23 f < 0) (k : Q (some (.int (-11))) h) : ma_X 136 [.ref 0, .int x, .int y, .int v] h Q := by
  have tx : x.toNatClampNeg = f := by subst q; exact nI_clamp (by omega)
  have vx : vp_in x 4 := by subst q; exact nI_in l (by decide)
  have x1 : ¬ x < 0 := by subst q; exact nI_pos (by omega)
  have x2 : x < 4 := by subst q; exact nI_lt (b := 4) l (by decide)
  have x3 : x ≤ 3 := by subst q; exact nI_le (a := f) (b := 3) (by omega) (by decide)
  refine ma_enter (m := 136) (Or.inl (by decide)) (by show 4 ≤ mt_n 136; decide +kernel) ?_
  show At 136 Q 0 (mt_c 136) [some (.ref 0), some (.int x), some (.int y), some (.int v)] [] h
  repeat' first
    | assumption
    | refine ⟨vx, ?_⟩
    | contradiction
    | (refine go 60 (by decide) ?_; simp only [KX, KY, KZ, KW, KV, Nat.reduceAdd, Nat.reduceSub, Nat.reduceLeDiff, true_and, and_true, true_or, or_true, or_self, reduceCtorEq, if_true, if_false, not_false_eq_true, eq_self, c136, H.e0, H.e23, tx])
    | refine s148y x1 x2 ?_
    | refine s248y x1 x3 ?_
    | split
theorem s250s {h : ma_H} {Q : ma_Q} {x y v : Int32} {f : Nat} (H : Sh h) (l : f < 4) (q : x = nI f) (s : ai h 106 f < 0) (k : Q (some (.int (-11))) h) : ma_X 250 [.ref 80, .int x, .int y, .int v] h Q := by
  have tx : x.toNatClampNeg = f := by subst q; exact nI_clamp (by omega)
  have vx : vp_in x 4 := by subst q; exact nI_in l (by decide)
  have x1 : ¬ x < 0 := by subst q; exact nI_pos (by omega)
  have x2 : x < 4 := by subst q; exact nI_lt (b := 4) l (by decide)
  have x3 : x ≤ 3 := by subst q; exact nI_le (a := f) (b := 3) (by omega) (by decide)
  refine ma_enter (m := 250) (Or.inl (by decide)) (by show 4 ≤ mt_n 250; decide +kernel) ?_
  show At 250 Q 0 (mt_c 250) [some (.ref 80), some (.int x), some (.int y), some (.int v)] [] h
  repeat' first
    | assumption
    | refine ⟨vx, ?_⟩
    | contradiction
    | (refine go 60 (by decide) ?_; simp only [KX, KY, KZ, KW, KV, Nat.reduceAdd, Nat.reduceSub, Nat.reduceLeDiff, true_and, and_true, true_or, or_true, or_self, reduceCtorEq, if_true, if_false, not_false_eq_true, eq_self, c250, H.e80, H.e106, tx])
    | refine s148y x1 x2 ?_
    | refine s248y x1 x3 ?_
    | split
theorem s136o {h : ma_H} {Q : ma_Q} {x y v : Int32} {f : Nat} (H : Sh h) (l : f < 4) (q : x = nI f) (s : ¬ ai h 23 f < 0) (o : y < 0 ∨ ¬ y < ai h 24 f) (k : Q (some (.int (-12))) h) : ma_X 136 [.ref 0, .int x, .int y, .int v] h Q := by
  have tx : x.toNatClampNeg = f := by subst q; exact nI_clamp (by omega)
  have vx : vp_in x 4 := by subst q; exact nI_in l (by decide)
  have x1 : ¬ x < 0 := by subst q; exact nI_pos (by omega)
  have x2 : x < 4 := by subst q; exact nI_lt (b := 4) l (by decide)
  have x3 : x ≤ 3 := by subst q; exact nI_le (a := f) (b := 3) (by omega) (by decide)
  refine ma_enter (m := 136) (Or.inl (by decide)) (by show 4 ≤ mt_n 136; decide +kernel) ?_
  show At 136 Q 0 (mt_c 136) [some (.ref 0), some (.int x), some (.int y), some (.int v)] [] h
  repeat' first
    | assumption
    | refine ⟨vx, ?_⟩
    | contradiction
    | exact absurd (by assumption) (o.resolve_left (by assumption))
    | (refine go 60 (by decide) ?_; simp only [KX, KY, KZ, KW, KV, Nat.reduceAdd, Nat.reduceSub, Nat.reduceLeDiff, true_and, and_true, true_or, or_true, or_self, reduceCtorEq, if_true, if_false, not_false_eq_true, eq_self, c136, H.e0, H.e23, H.e24, tx])
    | refine s148y x1 x2 ?_
    | refine s248y x1 x3 ?_
    | split
theorem s250o {h : ma_H} {Q : ma_Q} {x y v : Int32} {f : Nat} (H : Sh h) (l : f < 4) (q : x = nI f) (s : ¬ ai h 106 f < 0) (o : y < 0 ∨ ¬ y ≤ ai h 107 f - 1) (k : Q (some (.int (-12))) h) : ma_X 250 [.ref 80, .int x, .int y, .int v] h Q := by
  have tx : x.toNatClampNeg = f := by subst q; exact nI_clamp (by omega)
  have vx : vp_in x 4 := by subst q; exact nI_in l (by decide)
  have x1 : ¬ x < 0 := by subst q; exact nI_pos (by omega)
  have x2 : x < 4 := by subst q; exact nI_lt (b := 4) l (by decide)
  have x3 : x ≤ 3 := by subst q; exact nI_le (a := f) (b := 3) (by omega) (by decide)
  refine ma_enter (m := 250) (Or.inl (by decide)) (by show 4 ≤ mt_n 250; decide +kernel) ?_
  show At 250 Q 0 (mt_c 250) [some (.ref 80), some (.int x), some (.int y), some (.int v)] [] h
  repeat' first
    | assumption
    | refine ⟨vx, ?_⟩
    | contradiction
    | (refine go 60 (by decide) ?_; simp only [KX, KY, KZ, KW, KV, Nat.reduceAdd, Nat.reduceSub, Nat.reduceLeDiff, true_and, and_true, true_or, or_true, or_self, reduceCtorEq, if_true, if_false, not_false_eq_true, eq_self, c250, H.e80, H.e106, H.e107, tx])
    | refine s148y x1 x2 ?_
    | refine s248y x1 x3 ?_
    | refine s162n o ?_
    | split
theorem s136 {h : ma_H} {Q : ma_Q} {x y v : Int32} {f : Nat} (H : Sh h) (l : f < 4) (q : x = nI f) {j n t : Nat} (ht : t < 4) (n4 : n ≤ 40) (hj : j < n) (qy : y = nI j) (R : Rr h) (e1 : ai h 23 f = nI t) (e2 : ai h 24 f = nI n) (k : Q (some (.int 1)) (ma_set h (19 + f) (.inl (.int, 40, .inl (upd (ai h (19 + f)) j (nar t v)))))) : ma_X 136 [.ref 0, .int x, .int y, .int v] h Q := by
  have tx : x.toNatClampNeg = f := by subst q; exact nI_clamp (by omega)
  have vx : vp_in x 4 := by subst q; exact nI_in l (by decide)
  have x1 : ¬ x < 0 := by subst q; exact nI_pos (by omega)
  have x2 : x < 4 := by subst q; exact nI_lt (b := 4) l (by decide)
  have x3 : x ≤ 3 := by subst q; exact nI_le (a := f) (b := 3) (by omega) (by decide)
  have ty : y.toNatClampNeg = j := by subst qy; exact nI_clamp (by omega)
  have vy : vp_in y 40 := by subst qy; exact nI_in (by omega) (by decide)
  have y1 : ¬ y < 0 := by subst qy; exact nI_pos (by omega)
  have y2 : y < nI n := by subst qy; exact nI_lt hj (by omega)
  have s1 : ¬ nI t < 0 := nI_pos (by omega)
  refine ma_enter (m := 136) (Or.inl (by decide)) (by show 4 ≤ mt_n 136; decide +kernel) ?_
  show At 136 Q 0 (mt_c 136) [some (.ref 0), some (.int x), some (.int y), some (.int v)] [] h
  repeat' first
    | assumption
    | contradiction
    | refine ⟨vx, vx, ?_⟩
    | refine ⟨vx, ?_⟩
    | refine ⟨vy, ?_⟩
    | (refine go 60 (by decide) ?_; simp only [KX, KY, KZ, KW, KV, Nat.reduceAdd, Nat.reduceSub, Nat.reduceLeDiff, true_and, and_true, true_or, or_true, or_self, reduceCtorEq, if_true, if_false, not_false_eq_true, eq_self, c136, H.e0, H.e23, H.e24, H.e18, tx, ty, e1, e2, (R.2.2.2 f l), rf_some, (H.si l)])
    | refine s148y x1 x2 ?_
    | refine s248y x1 x3 ?_
    | refine s151 ht rfl ?_
    | split
theorem s250_0 {h : ma_H} {Q : ma_Q} {x y v : Int32} {f : Nat} (H : Sh h) (l : f < 4) (q : x = nI f) {j n : Nat} (n4 : n ≤ 40) (hj : j < n) (qy : y = nI j) (e1 : ai h 106 f = 0) (e2 : ai h 107 f = nI n) (k : Q (some (.int 1)) (ma_set h 108 (.inl (.long, 160, .inr (.inl (vp_updL (al h 108) (40 * f + j) (nar 0 v).toInt64)))))) : ma_X 250 [.ref 80, .int x, .int y, .int v] h Q := by
  have tx : x.toNatClampNeg = f := by subst q; exact nI_clamp (by omega)
  have vx : vp_in x 4 := by subst q; exact nI_in l (by decide)
  have x1 : ¬ x < 0 := by subst q; exact nI_pos (by omega)
  have x2 : x < 4 := by subst q; exact nI_lt (b := 4) l (by decide)
  have x3 : x ≤ 3 := by subst q; exact nI_le (a := f) (b := 3) (by omega) (by decide)
  have i40 := ix40 q qy l (show j < 40 by omega)
  have y1 : ¬ y < 0 := by subst qy; exact nI_pos (by omega)
  have y2 : y ≤ nI n - 1 := by subst qy; obtain ⟨m, rfl⟩ : ∃ m, n = m + 1 := ⟨n - 1, by omega⟩; rw [nI_pred]; exact nI_le (by omega) (by omega)
  refine ma_enter (m := 250) (Or.inl (by decide)) (by show 4 ≤ mt_n 250; decide +kernel) ?_
  show At 250 Q 0 (mt_c 250) [some (.ref 80), some (.int x), some (.int y), some (.int v)] [] h
  repeat' first
    | assumption
    | refine ⟨vx, vx, ?_⟩
    | refine ⟨vx, ?_⟩
    | exact ⟨i40.1, k⟩
    | (refine go 60 (by decide) ?_; simp only [KX, KY, KZ, KW, KV, Nat.reduceAdd, Nat.reduceSub, Nat.reduceLeDiff, true_and, and_true, true_or, or_true, or_self, reduceCtorEq, if_true, if_false, not_false_eq_true, eq_self, c250, H.e80, H.e106, H.e107, H.e108, tx, e1, e2, i40.2, Int32.reduceLT, show ((2 : Int32) = 1) = False from by decide, show ((3 : Int32) = 1) = False from by decide])
    | refine s148y x1 x2 ?_
    | refine s248y x1 x3 ?_
    | refine s162y y1 y2 ?_
    | split
theorem s250_1 {h : ma_H} {Q : ma_Q} {x y v : Int32} {f : Nat} (H : Sh h) (l : f < 4) (q : x = nI f) {j n : Nat} (n4 : n ≤ 40) (hj : j < n) (qy : y = nI j) (e1 : ai h 106 f = 1) (e2 : ai h 107 f = nI n) (k : Q (some (.int 1)) (ma_set h 108 (.inl (.long, 160, .inr (.inl (vp_updL (al h 108) (40 * f + j) (nar 1 v).toInt64)))))) : ma_X 250 [.ref 80, .int x, .int y, .int v] h Q := by
  have tx : x.toNatClampNeg = f := by subst q; exact nI_clamp (by omega)
  have vx : vp_in x 4 := by subst q; exact nI_in l (by decide)
  have x1 : ¬ x < 0 := by subst q; exact nI_pos (by omega)
  have x2 : x < 4 := by subst q; exact nI_lt (b := 4) l (by decide)
  have x3 : x ≤ 3 := by subst q; exact nI_le (a := f) (b := 3) (by omega) (by decide)
  have i40 := ix40 q qy l (show j < 40 by omega)
  have y1 : ¬ y < 0 := by subst qy; exact nI_pos (by omega)
  have y2 : y ≤ nI n - 1 := by subst qy; obtain ⟨m, rfl⟩ : ∃ m, n = m + 1 := ⟨n - 1, by omega⟩; rw [nI_pred]; exact nI_le (by omega) (by omega)
  refine ma_enter (m := 250) (Or.inl (by decide)) (by show 4 ≤ mt_n 250; decide +kernel) ?_
  show At 250 Q 0 (mt_c 250) [some (.ref 80), some (.int x), some (.int y), some (.int v)] [] h
  repeat' first
    | assumption
    | refine ⟨vx, vx, ?_⟩
    | refine ⟨vx, ?_⟩
    | exact ⟨i40.1, k⟩
    | (refine go 60 (by decide) ?_; simp only [KX, KY, KZ, KW, KV, Nat.reduceAdd, Nat.reduceSub, Nat.reduceLeDiff, true_and, and_true, true_or, or_true, or_self, reduceCtorEq, if_true, if_false, not_false_eq_true, eq_self, c250, H.e80, H.e106, H.e107, H.e108, tx, e1, e2, i40.2, Int32.reduceLT, show ((2 : Int32) = 1) = False from by decide, show ((3 : Int32) = 1) = False from by decide])
    | refine s148y x1 x2 ?_
    | refine s248y x1 x3 ?_
    | refine s162y y1 y2 ?_
    | split
theorem s250_2 {h : ma_H} {Q : ma_Q} {x y v : Int32} {f : Nat} (H : Sh h) (l : f < 4) (q : x = nI f) {j n : Nat} (n4 : n ≤ 40) (hj : j < n) (qy : y = nI j) (e1 : ai h 106 f = 2) (e2 : ai h 107 f = nI n) (k : Q (some (.int 1)) (ma_set h 108 (.inl (.long, 160, .inr (.inl (vp_updL (al h 108) (40 * f + j) (nar 2 v).toInt64)))))) : ma_X 250 [.ref 80, .int x, .int y, .int v] h Q := by
  have tx : x.toNatClampNeg = f := by subst q; exact nI_clamp (by omega)
  have vx : vp_in x 4 := by subst q; exact nI_in l (by decide)
  have x1 : ¬ x < 0 := by subst q; exact nI_pos (by omega)
  have x2 : x < 4 := by subst q; exact nI_lt (b := 4) l (by decide)
  have x3 : x ≤ 3 := by subst q; exact nI_le (a := f) (b := 3) (by omega) (by decide)
  have i40 := ix40 q qy l (show j < 40 by omega)
  have y1 : ¬ y < 0 := by subst qy; exact nI_pos (by omega)
  have y2 : y ≤ nI n - 1 := by subst qy; obtain ⟨m, rfl⟩ : ∃ m, n = m + 1 := ⟨n - 1, by omega⟩; rw [nI_pred]; exact nI_le (by omega) (by omega)
  refine ma_enter (m := 250) (Or.inl (by decide)) (by show 4 ≤ mt_n 250; decide +kernel) ?_
  show At 250 Q 0 (mt_c 250) [some (.ref 80), some (.int x), some (.int y), some (.int v)] [] h
  repeat' first
    | assumption
    | refine ⟨vx, vx, ?_⟩
    | refine ⟨vx, ?_⟩
    | exact ⟨i40.1, k⟩
    | (refine go 60 (by decide) ?_; simp only [KX, KY, KZ, KW, KV, Nat.reduceAdd, Nat.reduceSub, Nat.reduceLeDiff, true_and, and_true, true_or, or_true, or_self, reduceCtorEq, if_true, if_false, not_false_eq_true, eq_self, c250, H.e80, H.e106, H.e107, H.e108, tx, e1, e2, i40.2, Int32.reduceLT, show ((2 : Int32) = 1) = False from by decide, show ((3 : Int32) = 1) = False from by decide])
    | refine s148y x1 x2 ?_
    | refine s248y x1 x3 ?_
    | refine s162y y1 y2 ?_
    | split
theorem s250_3 {h : ma_H} {Q : ma_Q} {x y v : Int32} {f : Nat} (H : Sh h) (l : f < 4) (q : x = nI f) {j n : Nat} (n4 : n ≤ 40) (hj : j < n) (qy : y = nI j) (e1 : ai h 106 f = 3) (e2 : ai h 107 f = nI n) (k : Q (some (.int 1)) (ma_set h 108 (.inl (.long, 160, .inr (.inl (vp_updL (al h 108) (40 * f + j) (nar 3 v).toInt64)))))) : ma_X 250 [.ref 80, .int x, .int y, .int v] h Q := by
  have tx : x.toNatClampNeg = f := by subst q; exact nI_clamp (by omega)
  have vx : vp_in x 4 := by subst q; exact nI_in l (by decide)
  have x1 : ¬ x < 0 := by subst q; exact nI_pos (by omega)
  have x2 : x < 4 := by subst q; exact nI_lt (b := 4) l (by decide)
  have x3 : x ≤ 3 := by subst q; exact nI_le (a := f) (b := 3) (by omega) (by decide)
  have i40 := ix40 q qy l (show j < 40 by omega)
  have y1 : ¬ y < 0 := by subst qy; exact nI_pos (by omega)
  have y2 : y ≤ nI n - 1 := by subst qy; obtain ⟨m, rfl⟩ : ∃ m, n = m + 1 := ⟨n - 1, by omega⟩; rw [nI_pred]; exact nI_le (by omega) (by omega)
  refine ma_enter (m := 250) (Or.inl (by decide)) (by show 4 ≤ mt_n 250; decide +kernel) ?_
  show At 250 Q 0 (mt_c 250) [some (.ref 80), some (.int x), some (.int y), some (.int v)] [] h
  repeat' first
    | assumption
    | refine ⟨vx, vx, ?_⟩
    | refine ⟨vx, ?_⟩
    | exact ⟨i40.1, k⟩
    | (refine go 60 (by decide) ?_; simp only [KX, KY, KZ, KW, KV, Nat.reduceAdd, Nat.reduceSub, Nat.reduceLeDiff, true_and, and_true, true_or, or_true, or_self, reduceCtorEq, if_true, if_false, not_false_eq_true, eq_self, c250, H.e80, H.e106, H.e107, H.e108, tx, e1, e2, i40.2, Int32.reduceLT, show ((2 : Int32) = 1) = False from by decide, show ((3 : Int32) = 1) = False from by decide])
    | refine s148y x1 x2 ?_
    | refine s248y x1 x3 ?_
    | refine s162y y1 y2 ?_
    | split
theorem s250 {h : ma_H} {Q : ma_Q} {x y v : Int32} {f : Nat} (H : Sh h) (l : f < 4) (q : x = nI f) {j n t : Nat} (ht : t < 4) (n4 : n ≤ 40) (hj : j < n) (qy : y = nI j) (e1 : ai h 106 f = nI t) (e2 : ai h 107 f = nI n) (k : Q (some (.int 1)) (ma_set h 108 (.inl (.long, 160, .inr (.inl (vp_updL (al h 108) (40 * f + j) (nar t v).toInt64)))))) : ma_X 250 [.ref 80, .int x, .int y, .int v] h Q := by
  match t, ht with
  | 0, _ => exact s250_0 H l q n4 hj qy e1 e2 k
  | 1, _ => exact s250_1 H l q n4 hj qy e1 e2 k
  | 2, _ => exact s250_2 H l q n4 hj qy e1 e2 k
  | 3, _ => exact s250_3 H l q n4 hj qy e1 e2 k
theorem nf_i {f : Nat} (hf : f < 4) (g : Nat → Int32) : (.inl (.int, 40, .inl g) : ma_C) = nf (sd (19 + f)) (.inl (.int, 40, .inl g)) := by
  match f, hf with
  | 0, _ => rfl
  | 1, _ => rfl
  | 2, _ => rfl
  | 3, _ => rfl
theorem al_at (h : ma_H) (a : Nat) (t : FieldType) (n : Nat) (g : Nat → Int64) : al (ma_set h a (.inl (t, n, .inr (.inl g)))) a = g := by
  show alC ((ma_set h a _).2.1 a) = g
  rw [ma_set_at]
  rfl
theorem al_ne (h : ma_H) {a b : Nat} (c : ma_C) (e : b ≠ a) : al (ma_set h a c) b = al h b := by
  show alC ((ma_set h a _).2.1 b) = _
  rw [ma_set_ne _ _ e]
theorem p136 {h : ma_H} {x y v : Int32} (I : Inv h) : Pair h 136 250 [.int x, .int y, .int v] := by
  intro Q k
  rcases icasB x 3 (by decide) with ⟨f, l, q, -⟩ | ⟨o1, o2⟩
  · obtain ⟨r1, r2, r3, ⟨n, n40, r4⟩, r5⟩ := I.rs f l
    have r6 := r3.symm.trans r4
    rcases r2 with r2 | ⟨t, ht, r2⟩
    · exact s136s I.sh l q (by rw [r2]; decide) (k _ _ (by repeat (first | exact e80_I I | exact e80_S (by assumption) | exact e80_I (by assumption) | exact e80_n I.sh | refine e80_s (by omega) ?_)) fun Q2 k2 => s250s I.sh l q (by rw [← r1, r2]; decide) (k2 _ I))
    · have s1 : ¬ ai h 23 f < 0 := by rw [r2]; exact nI_pos (by omega)
      have s2 : ¬ ai h 106 f < 0 := by rw [← r1]; exact s1
      rcases icasN y n (by omega) with ⟨j, hj, qy, -⟩ | ⟨u1, u2⟩
      · refine s136 I.sh l q ht n40 hj qy I.rr r2 r4 (k _ _ (by repeat (first | exact e80_I I | exact e80_S (by assumption) | exact e80_I (by assumption) | exact e80_n I.sh | refine e80_s (by omega) ?_)) fun Q2 k2 => ?_)
        refine s250 (sh_set I.sh (nf_i l _)) l q ht n40 hj qy (by rw [ai_ne _ _ (by omega), ← r1]; exact r2) (by rw [ai_ne _ _ (by omega)]; exact r6) ?_
        rw [al_ne _ _ (by omega)]
        refine k2 _ ⟨sh_set (sh_set I.sh (nf_i l _)) rfl, (I.rr.cong (fun a ha => by simp (disch := omega) only [ma_set_ne])), (I.rt.cong (fun a ha => by simp (disch := omega) only [ma_set_ne])), ⟨(I.nf.cong (fun a ha => by simp (disch := omega) only [ma_set_ne])), (I.ng.cong (Nat.le_refl _) (fun a ha => by simp (disch := omega) only [ma_set_ne])), (I.nm.cong (fun a ha => by simp (disch := omega) only [ma_set_ne])), (I.na.cong (fun a ha => by simp (disch := omega) only [ma_set_ne])), (I.nl.cong (fun a ha => by simp (disch := omega) only [ma_set_ne]))⟩, (I.rk.cong (Nat.le_refl _) (fun a ha => by simp (disch := omega) only [ma_set_ne])), (I.rp.cong (fun a ha => by simp (disch := omega) only [ma_set_ne])), (I.rw.cong (fun a ha => by simp (disch := omega) only [ma_set_ne])), ?_, (I.rv.cong (fun a ha => by simp (disch := omega) only [ma_set_ne])), (I.ra.cong (fun a ha => by simp (disch := omega) only [ma_set_ne])), (I.rc.cong (fun a ha => by simp (disch := omega) only [ma_set_ne]))⟩
        intro s hs
        obtain ⟨b1, b2, b3, b4, b5⟩ := I.rs s hs
        rw [ai_ne _ _ (by omega), ai_ne _ _ (by omega), ai_ne _ _ (by omega), ai_ne _ _ (by omega), ai_ne _ _ (by omega), ai_ne _ _ (by omega), ai_ne _ _ (by omega), ai_ne _ _ (by omega), al_at]
        refine ⟨b1, b2, b3, b4, fun i hi => ?_⟩
        rw [ai_ne _ _ (by omega)]
        unfold vp_updL
        by_cases e : s = f
        · subst e
          rw [ai_at]
          unfold upd
          by_cases e2 : i = j
          · subst e2
            rw [if_pos rfl, if_pos rfl]
          · rw [if_neg e2, if_neg (by omega)]
            exact b5 i hi
        · rw [ai_ne _ _ (by omega), if_neg (by omega)]
          exact b5 i hi
      · exact s136o I.sh l q s1 (by rw [r4]; exact u1) (k _ _ (by repeat (first | exact e80_I I | exact e80_S (by assumption) | exact e80_I (by assumption) | exact e80_n I.sh | refine e80_s (by omega) ?_)) fun Q2 k2 => s250o I.sh l q s2 (by rw [r6]; exact u2) (k2 _ I))
  · exact s136n o2 (k _ _ (by repeat (first | exact e80_I I | exact e80_S (by assumption) | exact e80_I (by assumption) | exact e80_n I.sh | refine e80_s (by omega) ?_)) fun Q2 k2 => s250n o1 (k2 _ I))
