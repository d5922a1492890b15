/-! taken -/
def iok (kk y : Nat) : Int32 := match y with
  | 0 => 1
  | 1 => if ma_sub (g_cls kk) 7 = true then 1 else 0
  | 2 => if ma_sub (g_cls kk) 6 = true then 1 else 0
  | 3 => if ma_sub (g_cls kk) 0 = true then 1 else 0
  | 4 => if ma_sub (g_cls kk) 8 = true then 1 else 0
  | _ => if ma_sub (g_cls kk) 1 = true then 1 else 0
def i_und (k y : Int32) : Int32 := if y = 0 then 1 else if y = k then 1 else if y = 1 then (if k = 3 then 1 else if k = 4 then 1 else if y = 3 then (if k = 4 then 1 else 0) else 0) else if y = 3 then (if k = 4 then 1 else 0) else 0
theorem und_iok : ∀ kk, kk < 6 → ∀ y, y < 6 → i_und (nI kk) (nI y) = iok kk y ∧ (iok kk y = 0 ∨ iok kk y = 1) := by decide +kernel
theorem s40_0 {h : ma_H} {Q : ma_Q} {r kk : Nat} {L : List Value} (hk : kk < 6) (e : h.2.1 r = .inr (g_cls kk, L)) (k : Q (some (.int (iok kk 0))) h) : ma_X 40 [.ref r, .int 0] h Q := by
  refine ma_enter (m := 40) (Or.inl (by decide)) (by show 2 ≤ mt_n 40; decide +kernel) ?_
  show At 40 Q 0 (mt_c 40) [some (.ref r), some (.int 0)] [] h
  refine go 60 (by decide) ?_
  simp only [KX, KY, KZ, KW, KV, Nat.reduceAdd, Nat.reduceSub, Nat.reduceLeDiff, true_and, and_true, true_or, or_true, or_self, reduceCtorEq, if_true, if_false, not_false_eq_true, eq_self, c40, e, (g_gk kk hk).1, ts_0_5_0, tz_0_5_0, List.getD_cons_zero, List.getD_cons_succ]
  first
    | exact k
    | exact ⟨(g_gk kk hk).1, k⟩
    | (rcases (und_iok kk hk 0 (by decide)).2 with z | z <;> rw [z] at k <;> simp only [iok] at z <;> simp_all)
theorem s40_1 {h : ma_H} {Q : ma_Q} {r kk : Nat} {L : List Value} (hk : kk < 6) (e : h.2.1 r = .inr (g_cls kk, L)) (k : Q (some (.int (iok kk 1))) h) : ma_X 40 [.ref r, .int 1] h Q := by
  refine ma_enter (m := 40) (Or.inl (by decide)) (by show 2 ≤ mt_n 40; decide +kernel) ?_
  show At 40 Q 0 (mt_c 40) [some (.ref r), some (.int 1)] [] h
  refine go 60 (by decide) ?_
  simp only [KX, KY, KZ, KW, KV, Nat.reduceAdd, Nat.reduceSub, Nat.reduceLeDiff, true_and, and_true, true_or, or_true, or_self, reduceCtorEq, if_true, if_false, not_false_eq_true, eq_self, c40, e, (g_gk kk hk).1, ts_0_5_1, tz_0_5_1, List.getD_cons_zero, List.getD_cons_succ]
  first
    | exact k
    | exact ⟨(g_gk kk hk).1, k⟩
    | (rcases (und_iok kk hk 1 (by decide)).2 with z | z <;> rw [z] at k <;> simp only [iok] at z <;> simp_all)
theorem s40_2 {h : ma_H} {Q : ma_Q} {r kk : Nat} {L : List Value} (hk : kk < 6) (e : h.2.1 r = .inr (g_cls kk, L)) (k : Q (some (.int (iok kk 2))) h) : ma_X 40 [.ref r, .int 2] h Q := by
  refine ma_enter (m := 40) (Or.inl (by decide)) (by show 2 ≤ mt_n 40; decide +kernel) ?_
  show At 40 Q 0 (mt_c 40) [some (.ref r), some (.int 2)] [] h
  refine go 60 (by decide) ?_
  simp only [KX, KY, KZ, KW, KV, Nat.reduceAdd, Nat.reduceSub, Nat.reduceLeDiff, true_and, and_true, true_or, or_true, or_self, reduceCtorEq, if_true, if_false, not_false_eq_true, eq_self, c40, e, (g_gk kk hk).1, ts_0_5_2, tz_0_5_2, List.getD_cons_zero, List.getD_cons_succ]
  first
    | exact k
    | exact ⟨(g_gk kk hk).1, k⟩
    | (rcases (und_iok kk hk 2 (by decide)).2 with z | z <;> rw [z] at k <;> simp only [iok] at z <;> simp_all)
theorem s40_3 {h : ma_H} {Q : ma_Q} {r kk : Nat} {L : List Value} (hk : kk < 6) (e : h.2.1 r = .inr (g_cls kk, L)) (k : Q (some (.int (iok kk 3))) h) : ma_X 40 [.ref r, .int 3] h Q := by
  refine ma_enter (m := 40) (Or.inl (by decide)) (by show 2 ≤ mt_n 40; decide +kernel) ?_
  show At 40 Q 0 (mt_c 40) [some (.ref r), some (.int 3)] [] h
  refine go 60 (by decide) ?_
  simp only [KX, KY, KZ, KW, KV, Nat.reduceAdd, Nat.reduceSub, Nat.reduceLeDiff, true_and, and_true, true_or, or_true, or_self, reduceCtorEq, if_true, if_false, not_false_eq_true, eq_self, c40, e, (g_gk kk hk).1, ts_0_5_3, tz_0_5_3, List.getD_cons_zero, List.getD_cons_succ]
  first
    | exact k
    | exact ⟨(g_gk kk hk).1, k⟩
    | (rcases (und_iok kk hk 3 (by decide)).2 with z | z <;> rw [z] at k <;> simp only [iok] at z <;> simp_all)
theorem s40_4 {h : ma_H} {Q : ma_Q} {r kk : Nat} {L : List Value} (hk : kk < 6) (e : h.2.1 r = .inr (g_cls kk, L)) (k : Q (some (.int (iok kk 4))) h) : ma_X 40 [.ref r, .int 4] h Q := by
  refine ma_enter (m := 40) (Or.inl (by decide)) (by show 2 ≤ mt_n 40; decide +kernel) ?_
  show At 40 Q 0 (mt_c 40) [some (.ref r), some (.int 4)] [] h
  refine go 60 (by decide) ?_
  simp only [KX, KY, KZ, KW, KV, Nat.reduceAdd, Nat.reduceSub, Nat.reduceLeDiff, true_and, and_true, true_or, or_true, or_self, reduceCtorEq, if_true, if_false, not_false_eq_true, eq_self, c40, e, (g_gk kk hk).1, ts_0_5_4, tz_0_5_4, List.getD_cons_zero, List.getD_cons_succ]
  first
    | exact k
    | exact ⟨(g_gk kk hk).1, k⟩
    | (rcases (und_iok kk hk 4 (by decide)).2 with z | z <;> rw [z] at k <;> simp only [iok] at z <;> simp_all)
theorem s40_5 {h : ma_H} {Q : ma_Q} {r kk : Nat} {L : List Value} (hk : kk < 6) (e : h.2.1 r = .inr (g_cls kk, L)) (k : Q (some (.int (iok kk 5))) h) : ma_X 40 [.ref r, .int 5] h Q := by
  refine ma_enter (m := 40) (Or.inl (by decide)) (by show 2 ≤ mt_n 40; decide +kernel) ?_
  show At 40 Q 0 (mt_c 40) [some (.ref r), some (.int 5)] [] h
  refine go 60 (by decide) ?_
  simp only [KX, KY, KZ, KW, KV, Nat.reduceAdd, Nat.reduceSub, Nat.reduceLeDiff, true_and, and_true, true_or, or_true, or_self, reduceCtorEq, if_true, if_false, not_false_eq_true, eq_self, c40, e, (g_gk kk hk).1, ts_0_5_5, tz_0_5_5, List.getD_cons_zero, List.getD_cons_succ]
  first
    | exact k
    | exact ⟨(g_gk kk hk).1, k⟩
    | (rcases (und_iok kk hk 5 (by decide)).2 with z | z <;> rw [z] at k <;> simp only [iok] at z <;> simp_all)
theorem s40 {h : ma_H} {Q : ma_Q} {r kk y : Nat} {L : List Value} (hk : kk < 6) (hy : y < 6) (e : h.2.1 r = .inr (g_cls kk, L)) (k : Q (some (.int (iok kk y))) h) : ma_X 40 [.ref r, .int (nI y)] h Q := by
  match y, hy with
  | 0, _ => exact s40_0 hk e k
  | 1, _ => exact s40_1 hk e k
  | 2, _ => exact s40_2 hk e k
  | 3, _ => exact s40_3 hk e k
  | 4, _ => exact s40_4 hk e k
  | 5, _ => exact s40_5 hk e k
theorem s256 {h : ma_H} {Q : ma_Q} {kx y : Int32} (k : Q (some (.int (i_und kx y))) h) : ma_X 256 [.int kx, .int y] h Q := by
  unfold i_und at k
  refine ma_enter (m := 256) (Or.inl (by decide)) (by show 2 ≤ mt_n 256; decide +kernel) ?_
  show At 256 Q 0 (mt_c 256) [some (.int kx), some (.int y)] [] h
  refine go 60 (by decide) ?_
  simp only [KX, KY, KZ, KW, KV, Nat.reduceAdd, Nat.reduceSub, Nat.reduceLeDiff, true_and, and_true, true_or, or_true, or_self, reduceCtorEq, if_true, if_false, not_false_eq_true, eq_self, c256]
  repeat' split
  all_goals
    (repeat (first | rw [if_pos (by assumption)] at k | rw [if_neg (by assumption)] at k))
    exact k
theorem s139b {h : ma_H} {Q : ma_Q} {x y : Int32} (o : x < 0 ∨ ¬ x < 4) (k : Q (some (.int (-1))) h) : ma_X 139 [.ref 0, .int x, .int y] h Q := by
  refine ma_enter (m := 139) (Or.inl (by decide)) (by show 3 ≤ mt_n 139; decide +kernel) ?_
  show At 139 Q 0 (mt_c 139) [some (.ref 0), some (.int x), some (.int y), none, none, none] [] h
  repeat' first
    | assumption
    | (refine go 60 (by decide) ?_; simp only [KX, KY, KZ, KW, KV, Nat.reduceAdd, Nat.reduceSub, Nat.reduceLeDiff, true_and, and_true, true_or, or_true, or_self, reduceCtorEq, if_true, if_false, not_false_eq_true, eq_self, c139])
    | refine s149n o ?_
    | split
theorem s257b {h : ma_H} {Q : ma_Q} {x y : Int32} (o : x < 0 ∨ ¬ x ≤ 3) (k : Q (some (.int (-1))) h) : ma_X 257 [.ref 80, .int x, .int y] h Q := by
  refine ma_enter (m := 257) (Or.inl (by decide)) (by show 3 ≤ mt_n 257; decide +kernel) ?_
  show At 257 Q 0 (mt_c 257) [some (.ref 80), some (.int x), some (.int y), none] [] h
  repeat' first
    | assumption
    | (refine go 60 (by decide) ?_; simp only [KX, KY, KZ, KW, KV, Nat.reduceAdd, Nat.reduceSub, Nat.reduceLeDiff, true_and, and_true, true_or, or_true, or_self, reduceCtorEq, if_true, if_false, not_false_eq_true, eq_self, c257])
    | refine s248n o ?_
    | split
theorem s139y {h : ma_H} {Q : ma_Q} {x y : Int32} {s : Nat} (H : Sh h) (hs : s < 4) (x0 : ¬ x < 0) (x4 : x < 4) (x3 : x ≤ 3) (vx : vp_in x 4) (tx : x.toNatClampNeg = s) (o5 : y < 0 ∨ ¬ y ≤ 5) (o13 : y < 10 ∨ ¬ y ≤ 13) (k : Q (some (.int (-1))) h) : ma_X 139 [.ref 0, .int x, .int y] h Q := by
  refine ma_enter (m := 139) (Or.inl (by decide)) (by show 3 ≤ mt_n 139; decide +kernel) ?_
  show At 139 Q 0 (mt_c 139) [some (.ref 0), some (.int x), some (.int y), none, none, none] [] h
  repeat' first
    | assumption
    | contradiction
    | refine ⟨vx, ?_⟩
    | (exfalso; exact absurd (by assumption) (o5.resolve_left (by assumption)))
    | (exfalso; exact absurd (by assumption) (o13.resolve_left (by assumption)))
    | (refine go 60 (by decide) ?_; simp only [KX, KY, KZ, KW, KV, Nat.reduceAdd, Nat.reduceSub, Nat.reduceLeDiff, true_and, and_true, true_or, or_true, or_self, reduceCtorEq, if_true, if_false, not_false_eq_true, eq_self, c139, H.e0, H.e25, H.e26, tx])
    | refine s149y x0 x4 ?_
    | refine s248y x0 x3 ?_
    | split
theorem s257y {h : ma_H} {Q : ma_Q} {x y : Int32} {s : Nat} (H : Sh h) (hs : s < 4) (x0 : ¬ x < 0) (x4 : x < 4) (x3 : x ≤ 3) (vx : vp_in x 4) (tx : x.toNatClampNeg = s) (o5 : y < 0 ∨ ¬ y ≤ 5) (o13 : y < 10 ∨ ¬ y ≤ 13) (k : Q (some (.int (-1))) h) : ma_X 257 [.ref 80, .int x, .int y] h Q := by
  refine ma_enter (m := 257) (Or.inl (by decide)) (by show 3 ≤ mt_n 257; decide +kernel) ?_
  show At 257 Q 0 (mt_c 257) [some (.ref 80), some (.int x), some (.int y), none] [] h
  repeat' first
    | assumption
    | contradiction
    | refine ⟨vx, ?_⟩
    | (refine go 60 (by decide) ?_; simp only [KX, KY, KZ, KW, KV, Nat.reduceAdd, Nat.reduceSub, Nat.reduceLeDiff, true_and, and_true, true_or, or_true, or_self, reduceCtorEq, if_true, if_false, not_false_eq_true, eq_self, c257, H.e80, H.e110, H.e111, tx])
    | refine s149y x0 x4 ?_
    | refine s248y x0 x3 ?_
    | refine s162n o5 ?_
    | refine s162n o13 ?_
    | split
theorem s139k_o {h : ma_H} {Q : ma_Q} {x y : Int32} {s : Nat} (H : Sh h) (hs : s < 4) (x0 : ¬ x < 0) (x4 : x < 4) (x3 : x ≤ 3) (vx : vp_in x 4) (tx : x.toNatClampNeg = s) (y0 : ¬ y < 0) (y5 : y ≤ 5) (y10 : y < 10) (z : ¬ ai h 25 s < 10) (ne : ¬ ai h 25 s = y) (k : Q (some (.int (-13))) h) : ma_X 139 [.ref 0, .int x, .int y] h Q := by
  refine ma_enter (m := 139) (Or.inl (by decide)) (by show 3 ≤ mt_n 139; decide +kernel) ?_
  show At 139 Q 0 (mt_c 139) [some (.ref 0), some (.int x), some (.int y), none, none, none] [] h
  repeat' first
    | assumption
    | contradiction
    | refine ⟨vx, ?_⟩
    | (refine go 60 (by decide) ?_; simp only [KX, KY, KZ, KW, KV, Nat.reduceAdd, Nat.reduceSub, Nat.reduceLeDiff, true_and, and_true, true_or, or_true, or_self, reduceCtorEq, if_true, if_false, not_false_eq_true, eq_self, c139, H.e0, H.e25, H.e26, tx])
    | refine s149y x0 x4 ?_
    | refine s248y x0 x3 ?_
    | split
theorem s139k_n {h : ma_H} {Q : ma_Q} {x y : Int32} {s : Nat} (H : Sh h) (hs : s < 4) (x0 : ¬ x < 0) (x4 : x < 4) (x3 : x ≤ 3) (vx : vp_in x 4) (tx : x.toNatClampNeg = s) (y0 : ¬ y < 0) (y5 : y ≤ 5) (y10 : y < 10) (z : ai h 25 s < 10) (G : ∀ Q : ma_Q, Q (some .null) h → ma_X 152 [.ref 0, .int x] h Q) (k : Q (some (.int (-11))) h) : ma_X 139 [.ref 0, .int x, .int y] h Q := by
  refine ma_enter (m := 139) (Or.inl (by decide)) (by show 3 ≤ mt_n 139; decide +kernel) ?_
  show At 139 Q 0 (mt_c 139) [some (.ref 0), some (.int x), some (.int y), none, none, none] [] h
  repeat' first
    | assumption
    | contradiction
    | refine ⟨vx, ?_⟩
    | (refine go 60 (by decide) ?_; simp only [KX, KY, KZ, KW, KV, Nat.reduceAdd, Nat.reduceSub, Nat.reduceLeDiff, true_and, and_true, true_or, or_true, or_self, reduceCtorEq, if_true, if_false, not_false_eq_true, eq_self, c139, H.e0, H.e25, H.e26, tx])
    | refine s149y x0 x4 ?_
    | refine s248y x0 x3 ?_
    | refine G _ ?_
    | split
theorem s257k_n {h : ma_H} {Q : ma_Q} {x y : Int32} {s : Nat} (H : Sh h) (hs : s < 4) (x0 : ¬ x < 0) (x4 : x < 4) (x3 : x ≤ 3) (vx : vp_in x 4) (tx : x.toNatClampNeg = s) (y0 : ¬ y < 0) (y5 : y ≤ 5) (y10 : y < 10) {on : Int32} (K : ∀ Q : ma_Q, Q (some (.int on)) h → ma_X 255 [.ref 80, .int x] h Q) (z : on < 0) (k : Q (some (.int (-11))) h) : ma_X 257 [.ref 80, .int x, .int y] h Q := by
  refine ma_enter (m := 257) (Or.inl (by decide)) (by show 3 ≤ mt_n 257; decide +kernel) ?_
  show At 257 Q 0 (mt_c 257) [some (.ref 80), some (.int x), some (.int y), none] [] h
  repeat' first
    | assumption
    | contradiction
    | refine ⟨vx, ?_⟩
    | (refine go 60 (by decide) ?_; simp only [KX, KY, KZ, KW, KV, Nat.reduceAdd, Nat.reduceSub, Nat.reduceLeDiff, true_and, and_true, true_or, or_true, or_self, reduceCtorEq, if_true, if_false, not_false_eq_true, eq_self, c257, H.e80, H.e110, H.e111, tx])
    | refine s149y x0 x4 ?_
    | refine s248y x0 x3 ?_
    | refine s162y y0 y5 ?_
    | refine K _ ?_
    | split
theorem s257k_o {h : ma_H} {Q : ma_Q} {x y : Int32} {s : Nat} (H : Sh h) (hs : s < 4) (x0 : ¬ x < 0) (x4 : x < 4) (x3 : x ≤ 3) (vx : vp_in x 4) (tx : x.toNatClampNeg = s) (y0 : ¬ y < 0) (y5 : y ≤ 5) (y10 : y < 10) (K : ∀ Q : ma_Q, Q (some (.int 9)) h → ma_X 255 [.ref 80, .int x] h Q) (z : ¬ y = 10 + ai h 110 s) (k : Q (some (.int (-13))) h) : ma_X 257 [.ref 80, .int x, .int y] h Q := by
  refine ma_enter (m := 257) (Or.inl (by decide)) (by show 3 ≤ mt_n 257; decide +kernel) ?_
  show At 257 Q 0 (mt_c 257) [some (.ref 80), some (.int x), some (.int y), none] [] h
  repeat' first
    | assumption
    | contradiction
    | refine ⟨vx, ?_⟩
    | (refine go 60 (by decide) ?_; simp only [KX, KY, KZ, KW, KV, Nat.reduceAdd, Nat.reduceSub, Nat.reduceLeDiff, true_and, and_true, true_or, or_true, or_self, reduceCtorEq, if_true, if_false, not_false_eq_true, eq_self, c257, H.e80, H.e110, H.e111, tx, show ((9 : Int32) < 0) = False from by decide])
    | refine s149y x0 x4 ?_
    | refine s248y x0 x3 ?_
    | refine s162y y0 y5 ?_
    | refine K _ ?_
    | split
theorem s139r_o {h : ma_H} {Q : ma_Q} {x y : Int32} {s : Nat} (H : Sh h) (hs : s < 4) (x0 : ¬ x < 0) (x4 : x < 4) (x3 : x ≤ 3) (vx : vp_in x 4) (tx : x.toNatClampNeg = s) (y0 : ¬ y < 0) (y5 : ¬ y ≤ 5) (y10 : ¬ y < 10) (y13 : y ≤ 13) (z : ¬ ai h 25 s < 10) (ne : ¬ ai h 25 s = y) (k : Q (some (.int (-13))) h) : ma_X 139 [.ref 0, .int x, .int y] h Q := by
  refine ma_enter (m := 139) (Or.inl (by decide)) (by show 3 ≤ mt_n 139; decide +kernel) ?_
  show At 139 Q 0 (mt_c 139) [some (.ref 0), some (.int x), some (.int y), none, none, none] [] h
  repeat' first
    | assumption
    | contradiction
    | refine ⟨vx, ?_⟩
    | (refine go 60 (by decide) ?_; simp only [KX, KY, KZ, KW, KV, Nat.reduceAdd, Nat.reduceSub, Nat.reduceLeDiff, true_and, and_true, true_or, or_true, or_self, reduceCtorEq, if_true, if_false, not_false_eq_true, eq_self, c139, H.e0, H.e25, H.e26, tx])
    | refine s149y x0 x4 ?_
    | refine s248y x0 x3 ?_
    | split
theorem s139r_t {h : ma_H} {Q : ma_Q} {x y : Int32} {s : Nat} (H : Sh h) (hs : s < 4) (x0 : ¬ x < 0) (x4 : x < 4) (x3 : x ≤ 3) (vx : vp_in x 4) (tx : x.toNatClampNeg = s) (y0 : ¬ y < 0) (y5 : ¬ y ≤ 5) (y10 : ¬ y < 10) (y13 : y ≤ 13) (z : ¬ ai h 25 s < 10) (ne : ai h 25 s = y) (k : Q (some (.int (ai h 26 s))) h) : ma_X 139 [.ref 0, .int x, .int y] h Q := by
  refine ma_enter (m := 139) (Or.inl (by decide)) (by show 3 ≤ mt_n 139; decide +kernel) ?_
  show At 139 Q 0 (mt_c 139) [some (.ref 0), some (.int x), some (.int y), none, none, none] [] h
  repeat' first
    | assumption
    | contradiction
    | refine ⟨vx, ?_⟩
    | (refine go 60 (by decide) ?_; simp only [KX, KY, KZ, KW, KV, Nat.reduceAdd, Nat.reduceSub, Nat.reduceLeDiff, true_and, and_true, true_or, or_true, or_self, reduceCtorEq, if_true, if_false, not_false_eq_true, eq_self, c139, H.e0, H.e25, H.e26, tx])
    | refine s149y x0 x4 ?_
    | refine s248y x0 x3 ?_
    | split
theorem s139r_n {h : ma_H} {Q : ma_Q} {x y : Int32} {s : Nat} (H : Sh h) (hs : s < 4) (x0 : ¬ x < 0) (x4 : x < 4) (x3 : x ≤ 3) (vx : vp_in x 4) (tx : x.toNatClampNeg = s) (y0 : ¬ y < 0) (y5 : ¬ y ≤ 5) (y10 : ¬ y < 10) (y13 : y ≤ 13) (z : ai h 25 s < 10) (G : ∀ Q : ma_Q, Q (some .null) h → ma_X 152 [.ref 0, .int x] h Q) (k : Q (some (.int (-11))) h) : ma_X 139 [.ref 0, .int x, .int y] h Q := by
  refine ma_enter (m := 139) (Or.inl (by decide)) (by show 3 ≤ mt_n 139; decide +kernel) ?_
  show At 139 Q 0 (mt_c 139) [some (.ref 0), some (.int x), some (.int y), none, none, none] [] h
  repeat' first
    | assumption
    | contradiction
    | refine ⟨vx, ?_⟩
    | (refine go 60 (by decide) ?_; simp only [KX, KY, KZ, KW, KV, Nat.reduceAdd, Nat.reduceSub, Nat.reduceLeDiff, true_and, and_true, true_or, or_true, or_self, reduceCtorEq, if_true, if_false, not_false_eq_true, eq_self, c139, H.e0, H.e25, H.e26, tx])
    | refine s149y x0 x4 ?_
    | refine s248y x0 x3 ?_
    | refine G _ ?_
    | split
theorem s257r_n {h : ma_H} {Q : ma_Q} {x y : Int32} {s : Nat} (H : Sh h) (hs : s < 4) (x0 : ¬ x < 0) (x4 : x < 4) (x3 : x ≤ 3) (vx : vp_in x 4) (tx : x.toNatClampNeg = s) (y0 : ¬ y < 0) (y5 : ¬ y ≤ 5) (y10 : ¬ y < 10) (y13 : y ≤ 13) {on : Int32} (K : ∀ Q : ma_Q, Q (some (.int on)) h → ma_X 255 [.ref 80, .int x] h Q) (z : on < 0) (k : Q (some (.int (-11))) h) : ma_X 257 [.ref 80, .int x, .int y] h Q := by
  refine ma_enter (m := 257) (Or.inl (by decide)) (by show 3 ≤ mt_n 257; decide +kernel) ?_
  show At 257 Q 0 (mt_c 257) [some (.ref 80), some (.int x), some (.int y), none] [] h
  repeat' first
    | assumption
    | contradiction
    | refine ⟨vx, ?_⟩
    | (refine go 60 (by decide) ?_; simp only [KX, KY, KZ, KW, KV, Nat.reduceAdd, Nat.reduceSub, Nat.reduceLeDiff, true_and, and_true, true_or, or_true, or_self, reduceCtorEq, if_true, if_false, not_false_eq_true, eq_self, c257, H.e80, H.e110, H.e111, tx])
    | refine s149y x0 x4 ?_
    | refine s248y x0 x3 ?_
    | refine s162n (Or.inr y5) ?_
    | refine s162y y10 y13 ?_
    | refine K _ ?_
    | split
theorem s257r_o {h : ma_H} {Q : ma_Q} {x y : Int32} {s : Nat} (H : Sh h) (hs : s < 4) (x0 : ¬ x < 0) (x4 : x < 4) (x3 : x ≤ 3) (vx : vp_in x 4) (tx : x.toNatClampNeg = s) (y0 : ¬ y < 0) (y5 : ¬ y ≤ 5) (y10 : ¬ y < 10) (y13 : y ≤ 13) (K : ∀ Q : ma_Q, Q (some (.int 9)) h → ma_X 255 [.ref 80, .int x] h Q) (z : ¬ y = 10 + ai h 110 s) (k : Q (some (.int (-13))) h) : ma_X 257 [.ref 80, .int x, .int y] h Q := by
  refine ma_enter (m := 257) (Or.inl (by decide)) (by show 3 ≤ mt_n 257; decide +kernel) ?_
  show At 257 Q 0 (mt_c 257) [some (.ref 80), some (.int x), some (.int y), none] [] h
  repeat' first
    | assumption
    | contradiction
    | refine ⟨vx, ?_⟩
    | (refine go 60 (by decide) ?_; simp only [KX, KY, KZ, KW, KV, Nat.reduceAdd, Nat.reduceSub, Nat.reduceLeDiff, true_and, and_true, true_or, or_true, or_self, reduceCtorEq, if_true, if_false, not_false_eq_true, eq_self, c257, H.e80, H.e110, H.e111, tx, show ((9 : Int32) < 0) = False from by decide])
    | refine s149y x0 x4 ?_
    | refine s248y x0 x3 ?_
    | refine s162n (Or.inr y5) ?_
    | refine s162y y10 y13 ?_
    | refine K _ ?_
    | split
theorem s257r_t {h : ma_H} {Q : ma_Q} {x y : Int32} {s : Nat} (H : Sh h) (hs : s < 4) (x0 : ¬ x < 0) (x4 : x < 4) (x3 : x ≤ 3) (vx : vp_in x 4) (tx : x.toNatClampNeg = s) (y0 : ¬ y < 0) (y5 : ¬ y ≤ 5) (y10 : ¬ y < 10) (y13 : y ≤ 13) (K : ∀ Q : ma_Q, Q (some (.int 9)) h → ma_X 255 [.ref 80, .int x] h Q) (z : y = 10 + ai h 110 s) (k : Q (some (.int (ai h 111 s))) h) : ma_X 257 [.ref 80, .int x, .int y] h Q := by
  refine ma_enter (m := 257) (Or.inl (by decide)) (by show 3 ≤ mt_n 257; decide +kernel) ?_
  show At 257 Q 0 (mt_c 257) [some (.ref 80), some (.int x), some (.int y), none] [] h
  repeat' first
    | assumption
    | contradiction
    | refine ⟨vx, ?_⟩
    | (refine go 60 (by decide) ?_; simp only [KX, KY, KZ, KW, KV, Nat.reduceAdd, Nat.reduceSub, Nat.reduceLeDiff, true_and, and_true, true_or, or_true, or_self, reduceCtorEq, if_true, if_false, not_false_eq_true, eq_self, c257, H.e80, H.e110, H.e111, tx, show ((9 : Int32) < 0) = False from by decide])
    | refine s149y x0 x4 ?_
    | refine s248y x0 x3 ?_
    | refine s162n (Or.inr y5) ?_
    | refine s162y y10 y13 ?_
    | refine K _ ?_
    | split
theorem s139r_g {h : ma_H} {Q : ma_Q} {x y : Int32} {s : Nat} (H : Sh h) (hs : s < 4) (x0 : ¬ x < 0) (x4 : x < 4) (x3 : x ≤ 3) (vx : vp_in x 4) (tx : x.toNatClampNeg = s) (y0 : ¬ y < 0) (y5 : ¬ y ≤ 5) (y10 : ¬ y < 10) (y13 : y ≤ 13) {r kk i : Nat} {a : Int32} (hk : kk < 6) (e : h.2.1 r = .inr (g_cls kk, [.int (nI kk), .int (nI i), .int a, .ref 27])) (G : ∀ Q : ma_Q, Q (some (.ref r)) h → ma_X 152 [.ref 0, .int x] h Q) (z : ai h 25 s < 10) (k : Q (some (.int (-13))) h) : ma_X 139 [.ref 0, .int x, .int y] h Q := by
  refine ma_enter (m := 139) (Or.inl (by decide)) (by show 3 ≤ mt_n 139; decide +kernel) ?_
  show At 139 Q 0 (mt_c 139) [some (.ref 0), some (.int x), some (.int y), none, none, none] [] h
  repeat' first
    | assumption
    | contradiction
    | refine ⟨vx, ?_⟩
    | (refine go 60 (by decide) ?_; simp only [KX, KY, KZ, KW, KV, Nat.reduceAdd, Nat.reduceSub, Nat.reduceLeDiff, true_and, and_true, true_or, or_true, or_self, reduceCtorEq, if_true, if_false, not_false_eq_true, eq_self, c139, H.e0, H.e25, H.e26, tx])
    | refine s149y x0 x4 ?_
    | refine s248y x0 x3 ?_
    | refine G _ ?_
    | split
theorem s257r_g {h : ma_H} {Q : ma_Q} {x y : Int32} {s : Nat} (H : Sh h) (hs : s < 4) (x0 : ¬ x < 0) (x4 : x < 4) (x3 : x ≤ 3) (vx : vp_in x 4) (tx : x.toNatClampNeg = s) (y0 : ¬ y < 0) (y5 : ¬ y ≤ 5) (y10 : ¬ y < 10) (y13 : y ≤ 13) {kk i : Nat} (hk : kk < 6) (q : ai h 110 s = nI i) (K : ∀ Q : ma_Q, Q (some (.int (nI kk))) h → ma_X 255 [.ref 80, .int x] h Q) (k : Q (some (.int (-13))) h) : ma_X 257 [.ref 80, .int x, .int y] h Q := by
  have k0 : ¬ nI kk < 0 := nI_pos (by omega)
  have k9 : ¬ nI kk = 9 := fun w => absurd ((nI_eq (by omega) (by decide)).mp (show nI kk = nI 9 from w)) (by omega)
  refine ma_enter (m := 257) (Or.inl (by decide)) (by show 3 ≤ mt_n 257; decide +kernel) ?_
  show At 257 Q 0 (mt_c 257) [some (.ref 80), some (.int x), some (.int y), none] [] h
  repeat' first
    | assumption
    | contradiction
    | refine ⟨vx, ?_⟩
    | (refine go 60 (by decide) ?_; simp only [KX, KY, KZ, KW, KV, Nat.reduceAdd, Nat.reduceSub, Nat.reduceLeDiff, true_and, and_true, true_or, or_true, or_self, reduceCtorEq, if_true, if_false, not_false_eq_true, eq_self, c257, H.e80, H.e110, H.e111, tx])
    | refine s149y x0 x4 ?_
    | refine s248y x0 x3 ?_
    | refine s162n (Or.inr y5) ?_
    | refine s162y y10 y13 ?_
    | refine K _ ?_
    | split
theorem s139k_g {h : ma_H} {Q : ma_Q} {x y : Int32} {y' : Nat} {s : Nat} (H : Sh h) (hs : s < 4) (x0 : ¬ x < 0) (x4 : x < 4) (x3 : x ≤ 3) (vx : vp_in x 4) (tx : x.toNatClampNeg = s) (y0 : ¬ y < 0) (y5 : y ≤ 5) (y10 : y < 10) (qy : y = nI y') (hy : y' < 6) {r kk i : Nat} {a : Int32} (hk : kk < 6) (e : h.2.1 r = .inr (g_cls kk, [.int (nI kk), .int (nI i), .int a, .ref 27])) (G : ∀ Q : ma_Q, Q (some (.ref r)) h → ma_X 152 [.ref 0, .int x] h Q) (z : ai h 25 s < 10) (k : Q (some (.int (if iok kk y' = 0 then -13 else nI i))) h) : ma_X 139 [.ref 0, .int x, .int y] h Q := by
  subst qy
  refine ma_enter (m := 139) (Or.inl (by decide)) (by show 3 ≤ mt_n 139; decide +kernel) ?_
  show At 139 Q 0 (mt_c 139) [some (.ref 0), some (.int x), some (.int (nI y')), none, none, none] [] h
  repeat' first
    | assumption
    | contradiction
    | refine ⟨vx, ?_⟩
    | (refine go 60 (by decide) ?_; simp only [KX, KY, KZ, KW, KV, Nat.reduceAdd, Nat.reduceSub, Nat.reduceLeDiff, true_and, and_true, true_or, or_true, or_self, reduceCtorEq, if_true, if_false, not_false_eq_true, eq_self, c139, H.e0, H.e25, H.e26, tx, e, g_un kk hk, (vt289 kk hk).2.2.2, show mt_c 40 = (0, 0) from rfl])
    | refine s149y x0 x4 ?_
    | refine s248y x0 x3 ?_
    | refine G _ ?_
    | refine s40 hk hy e ?_
    | (rw [if_pos (by assumption)] at k; exact k)
    | (rw [if_neg (by assumption)] at k; exact k)
    | split
theorem s257k_g {h : ma_H} {Q : ma_Q} {x y : Int32} {y' : Nat} {s : Nat} (H : Sh h) (hs : s < 4) (x0 : ¬ x < 0) (x4 : x < 4) (x3 : x ≤ 3) (vx : vp_in x 4) (tx : x.toNatClampNeg = s) (y0 : ¬ y < 0) (y5 : y ≤ 5) (y10 : y < 10) (qy : y = nI y') (hy : y' < 6) {kk i : Nat} (hk : kk < 6) (q : ai h 110 s = nI i) (K : ∀ Q : ma_Q, Q (some (.int (nI kk))) h → ma_X 255 [.ref 80, .int x] h Q) (k : Q (some (.int (if iok kk y' = 0 then -13 else nI i))) h) : ma_X 257 [.ref 80, .int x, .int y] h Q := by
  have k0 : ¬ nI kk < 0 := nI_pos (by omega)
  have k9 : ¬ nI kk = 9 := fun w => absurd ((nI_eq (by omega) (by decide)).mp (show nI kk = nI 9 from w)) (by omega)
  subst qy
  refine ma_enter (m := 257) (Or.inl (by decide)) (by show 3 ≤ mt_n 257; decide +kernel) ?_
  show At 257 Q 0 (mt_c 257) [some (.ref 80), some (.int x), some (.int (nI y')), none] [] h
  repeat' first
    | assumption
    | contradiction
    | refine ⟨vx, ?_⟩
    | (refine go 60 (by decide) ?_; simp only [KX, KY, KZ, KW, KV, Nat.reduceAdd, Nat.reduceSub, Nat.reduceLeDiff, true_and, and_true, true_or, or_true, or_self, reduceCtorEq, if_true, if_false, not_false_eq_true, eq_self, c257, H.e80, H.e110, H.e111, tx, q, (und_iok kk hk y' hy).1])
    | refine s149y x0 x4 ?_
    | refine s248y x0 x3 ?_
    | refine s162y y0 y5 ?_
    | refine K _ ?_
    | refine s256 ?_
    | (rw [if_pos (by assumption)] at k; exact k)
    | (rw [if_neg (by assumption)] at k; exact k)
    | split
