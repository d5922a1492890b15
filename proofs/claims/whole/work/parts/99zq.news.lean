/-! the constructor of FlakeArms -/
theorem hl_len {sc : Nat × (Nat → Int32)} {l : List ma_C} : (HL sc l).1 = l.length := rfl
theorem hl_get {sc : Nat × (Nat → Int32)} {l : List ma_C} {a : Nat} : (HL sc l).2.1 a = l.getD a ma_no := rfl
theorem hl_c0 {sc : Nat × (Nat → Int32)} {x : ma_C} {s : List ma_C} {c : ma_C} : ma_set (HL sc (x :: s)) 0 c = HL sc (c :: s) := hl_set (Nat.succ_pos _)
theorem wr_len {n : Nat} : (wrC n).length = 23 := rfl
theorem rep6 {x : ma_C} : List.replicate 6 x = [x, x, x, x, x, x] := rfl
theorem rep4 {x : ma_C} : List.replicate 4 x = [x, x, x, x] := rfl
theorem hl_new2 {sc : Nat × (Nat → Int32)} {l : List ma_C} {N K : Nat} : ma_new2 (HL sc l) N K = HL sc (l ++ (.inl (.array .int, N, .inr (.inr (.inr (.inr fun j => if j < N then some (l.length + 1 + j) else none)))) :: List.replicate N (.inl (.int, K, .inl fun _ => 0)))) := by
  refine Prod.ext ?_ (Prod.ext (funext fun q => ?_) rfl)
  · show l.length + 1 + N = (l ++ _).length
    rw [List.length_append, List.length_cons, List.length_replicate]
    omega
  · show (if q = l.length then _ else if l.length < q ∧ q < l.length + 1 + N then _ else l.getD q ma_no) = List.getD (l ++ _) q ma_no
    rw [List.getD_eq_getElem?_getD, List.getD_eq_getElem?_getD]
    by_cases e : q = l.length
    · rw [if_pos e, e, List.getElem?_append_right (Nat.le_refl _), Nat.sub_self]
      rfl
    · rw [if_neg e]
      rcases Nat.lt_or_ge q l.length with w | w
      · rw [if_neg (by omega), List.getElem?_append_left w]
      · obtain ⟨d, rfl⟩ : ∃ d, q = l.length + (d + 1) := ⟨q - l.length - 1, by omega⟩
        rw [List.getElem?_append_right (Nat.le_add_right _ _), Nat.add_sub_cancel_left, List.getElem?_cons_succ, List.getElem?_replicate]
        by_cases y : d < N
        · rw [if_pos (by omega), if_pos y]
          rfl
        · rw [if_neg (by omega), if_neg y, List.getElem?_eq_none (by omega)]
/-- a new FlakeArms -/
def faC : List ma_C := [.inr (11, [.ref 34, .ref 57, .int 0, .ref 1, .int 0, .ref 2, .ref 7, .ref 11, .int 0, .ref 18, .ref 23, .ref 24, .ref 25, .ref 26, .ref 27, .ref 29, .ref 30, .ref 31]), .inl (.byte, 200, .inl fun _ => 0), .inr (5, [.ref 3, .int 0, .ref 4, .ref 5, .ref 6, .int 0, .null]), .inl (.byte, 200, .inl fun _ => 0), zI 201, zI 201, zI 201, .inr (4, [.int 0, .ref 8, .ref 9, .ref 10, .int 0]), zI 8, zI 8, zI 200, .inl (.array .int, 6, .inr (.inr (.inr (.inr fun j => if j < 6 then some (11 + 1 + j) else none)))), zI 2, zI 2, zI 2, zI 2, zI 2, zI 2, .inl (.array .int, 4, .inr (.inr (.inr (.inr fun j => if j < 4 then some (18 + 1 + j) else none)))), zI 40, zI 40, zI 40, zI 40, .inl (.int, 4, .inl (upd (upd (upd (upd (fun _ => 0) 0 (-1)) 1 (-1)) 2 (-1)) 3 (-1))), zI 4, .inl (.int, 4, .inl (upd (upd (upd (upd (fun _ => 0) 0 (-1)) 1 (-1)) 2 (-1)) 3 (-1))), zI 4, .inr (9, [.ref 28, .int 0, .int 0]), zI 30, .inl (.long, 259, .inr (.inl fun _ => 0)), .inl (.long, 259, .inr (.inl fun _ => 0)), .inr (2, [.int 0, .ref 32, .ref 33]), flA, flB] ++ (wrC 34 ++ wrC 57)
set_option maxRecDepth 40000 in
theorem n102 {sc : Nat × (Nat → Int32)} {Q : ma_Q} (k : Q none (HL sc faC)) : ma_X 102 [.ref 0] (HL sc [.inr (11, [.null, .null, .int 0, .null, .int 0, .null, .null, .null, .int 0, .null, .null, .null, .null, .null, .null, .null, .null, .null])]) Q := by
  refine ma_enter (m := 102) (Or.inl (by decide)) (by show 1 ≤ mt_n 102; decide +kernel) ?_
  show At 102 Q 0 (79, 5821) [some (.ref 0)] [] (HL sc [.inr (11, [.null, .null, .int 0, .null, .int 0, .null, .null, .null, .int 0, .null, .null, .null, .null, .null, .null, .null, .null, .null])])
  refine go 60 (by decide) ?_
  simp only [KX, KY, KZ, KW, KV, Nat.reduceAdd, Nat.reduceSub, Nat.reduceLeDiff, true_and, and_true, true_or, or_true, or_self, reduceCtorEq, if_true, if_false, not_false_eq_true, eq_self, c102, KN, FT11, CD, fl_new, rdrC, lawC, hl_len, hl_get, hl_new, hl_new2, hl_c0, hl_set, wr_len, rep6, rep4, List.cons_append, List.nil_append, List.set_cons_succ, List.set_cons_zero, List.getD_cons_zero, List.getD_cons_succ, List.length_append, Nat.reduceMul, List.length_cons, List.length_nil, Nat.reduceLT, Nat.zero_add]
  refine n62 (pre := [.inr (11, [.null, .null, .int 0, .ref 1, .int 0, .null, .null, .null, .int 0, .null, .null, .null, .null, .null, .null, .null, .null, .null]), .inl (.byte, 200, .inl fun _ => 0)]) rfl rfl ?_
  refine go 60 (by decide) ?_
  simp only [KX, KY, KZ, KW, KV, Nat.reduceAdd, Nat.reduceSub, Nat.reduceLeDiff, true_and, and_true, true_or, or_true, or_self, reduceCtorEq, if_true, if_false, not_false_eq_true, eq_self, c102, KN, FT11, CD, fl_new, rdrC, lawC, hl_len, hl_get, hl_new, hl_new2, hl_c0, hl_set, wr_len, rep6, rep4, List.cons_append, List.nil_append, List.set_cons_succ, List.set_cons_zero, List.getD_cons_zero, List.getD_cons_succ, List.length_append, Nat.reduceMul, List.length_cons, List.length_nil, Nat.reduceLT, Nat.zero_add]
  refine n51 (pre := [.inr (11, [.null, .null, .int 0, .ref 1, .int 0, .ref 2, .null, .null, .int 0, .null, .null, .null, .null, .null, .null, .null, .null, .null]), .inl (.byte, 200, .inl fun _ => 0), .inr (5, [.ref 3, .int 0, .ref 4, .ref 5, .ref 6, .int 0, .null]), .inl (.byte, 200, .inl fun _ => 0), zI 201, zI 201, zI 201]) rfl rfl ?_
  refine go 60 (by decide) ?_
  simp only [KX, KY, KZ, KW, KV, Nat.reduceAdd, Nat.reduceSub, Nat.reduceLeDiff, true_and, and_true, true_or, or_true, or_self, reduceCtorEq, if_true, if_false, not_false_eq_true, eq_self, c102, KN, FT11, CD, fl_new, rdrC, lawC, hl_len, hl_get, hl_new, hl_new2, hl_c0, hl_set, wr_len, rep6, rep4, List.cons_append, List.nil_append, List.set_cons_succ, List.set_cons_zero, List.getD_cons_zero, List.getD_cons_succ, List.length_append, Nat.reduceMul, List.length_cons, List.length_nil, Nat.reduceLT, Nat.zero_add]
  refine go 60 (by decide) ?_
  simp only [KX, KY, KZ, KW, KV, Nat.reduceAdd, Nat.reduceSub, Nat.reduceLeDiff, true_and, and_true, true_or, or_true, or_self, reduceCtorEq, if_true, if_false, not_false_eq_true, eq_self, c102, KN, FT11, CD, fl_new, rdrC, lawC, hl_len, hl_get, hl_new, hl_new2, hl_c0, hl_set, wr_len, rep6, rep4, List.cons_append, List.nil_append, List.set_cons_succ, List.set_cons_zero, List.getD_cons_zero, List.getD_cons_succ, List.length_append, Nat.reduceMul, List.length_cons, List.length_nil, Nat.reduceLT, Nat.zero_add]
  refine s91 (a := 27) (c0 := .null) (n0 := .int 0) (p0 := .int 0) (by show 27 < 28; decide) rfl ?_
  refine go 60 (by decide) ?_
  simp only [KX, KY, KZ, KW, KV, Nat.reduceAdd, Nat.reduceSub, Nat.reduceLeDiff, true_and, and_true, true_or, or_true, or_self, reduceCtorEq, if_true, if_false, not_false_eq_true, eq_self, c102, KN, FT11, CD, fl_new, rdrC, lawC, hl_len, hl_get, hl_new, hl_new2, hl_c0, hl_set, wr_len, rep6, rep4, List.cons_append, List.nil_append, List.set_cons_succ, List.set_cons_zero, List.getD_cons_zero, List.getD_cons_succ, List.length_append, Nat.reduceMul, List.length_cons, List.length_nil, Nat.reduceLT, Nat.zero_add]
  refine s8 (a := 31) (by show 31 < 32; decide) rfl ?_
  refine go 60 (by decide) ?_
  simp only [KX, KY, KZ, KW, KV, Nat.reduceAdd, Nat.reduceSub, Nat.reduceLeDiff, true_and, and_true, true_or, or_true, or_self, reduceCtorEq, if_true, if_false, not_false_eq_true, eq_self, c102, KN, FT11, CD, fl_new, rdrC, lawC, hl_len, hl_get, hl_new, hl_new2, hl_c0, hl_set, wr_len, rep6, rep4, List.cons_append, List.nil_append, List.set_cons_succ, List.set_cons_zero, List.getD_cons_zero, List.getD_cons_succ, List.length_append, Nat.reduceMul, List.length_cons, List.length_nil, Nat.reduceLT, Nat.zero_add]
  refine n93 (pre := [.inr (11, [.null, .null, .int 0, .ref 1, .int 0, .ref 2, .ref 7, .ref 11, .int 0, .ref 18, .ref 23, .ref 24, .ref 25, .ref 26, .ref 27, .ref 29, .ref 30, .ref 31]), .inl (.byte, 200, .inl fun _ => 0), .inr (5, [.ref 3, .int 0, .ref 4, .ref 5, .ref 6, .int 0, .null]), .inl (.byte, 200, .inl fun _ => 0), zI 201, zI 201, zI 201, .inr (4, [.int 0, .ref 8, .ref 9, .ref 10, .int 0]), zI 8, zI 8, zI 200, .inl (.array .int, 6, .inr (.inr (.inr (.inr fun j => if j < 6 then some (11 + 1 + j) else none)))), zI 2, zI 2, zI 2, zI 2, zI 2, zI 2, .inl (.array .int, 4, .inr (.inr (.inr (.inr fun j => if j < 4 then some (18 + 1 + j) else none)))), zI 40, zI 40, zI 40, zI 40, .inl (.int, 4, .inl (upd (upd (upd (upd (fun _ => 0) 0 (-1)) 1 (-1)) 2 (-1)) 3 (-1))), zI 4, .inl (.int, 4, .inl (upd (upd (upd (upd (fun _ => 0) 0 (-1)) 1 (-1)) 2 (-1)) 3 (-1))), zI 4, .inr (9, [.ref 28, .int 0, .int 0]), zI 30, .inl (.long, 259, .inr (.inl fun _ => 0)), .inl (.long, 259, .inr (.inl fun _ => 0)), .inr (2, [.int 0, .ref 32, .ref 33]), flA, flB]) rfl rfl ?_
  refine go 60 (by decide) ?_
  simp only [KX, KY, KZ, KW, KV, Nat.reduceAdd, Nat.reduceSub, Nat.reduceLeDiff, true_and, and_true, true_or, or_true, or_self, reduceCtorEq, if_true, if_false, not_false_eq_true, eq_self, c102, KN, FT11, CD, fl_new, rdrC, lawC, hl_len, hl_get, hl_new, hl_new2, hl_c0, hl_set, wr_len, rep6, rep4, List.cons_append, List.nil_append, List.set_cons_succ, List.set_cons_zero, List.getD_cons_zero, List.getD_cons_succ, List.length_append, Nat.reduceMul, List.length_cons, List.length_nil, Nat.reduceLT, Nat.zero_add]
  refine n93 (pre := [.inr (11, [.ref 34, .null, .int 0, .ref 1, .int 0, .ref 2, .ref 7, .ref 11, .int 0, .ref 18, .ref 23, .ref 24, .ref 25, .ref 26, .ref 27, .ref 29, .ref 30, .ref 31]), .inl (.byte, 200, .inl fun _ => 0), .inr (5, [.ref 3, .int 0, .ref 4, .ref 5, .ref 6, .int 0, .null]), .inl (.byte, 200, .inl fun _ => 0), zI 201, zI 201, zI 201, .inr (4, [.int 0, .ref 8, .ref 9, .ref 10, .int 0]), zI 8, zI 8, zI 200, .inl (.array .int, 6, .inr (.inr (.inr (.inr fun j => if j < 6 then some (11 + 1 + j) else none)))), zI 2, zI 2, zI 2, zI 2, zI 2, zI 2, .inl (.array .int, 4, .inr (.inr (.inr (.inr fun j => if j < 4 then some (18 + 1 + j) else none)))), zI 40, zI 40, zI 40, zI 40, .inl (.int, 4, .inl (upd (upd (upd (upd (fun _ => 0) 0 (-1)) 1 (-1)) 2 (-1)) 3 (-1))), zI 4, .inl (.int, 4, .inl (upd (upd (upd (upd (fun _ => 0) 0 (-1)) 1 (-1)) 2 (-1)) 3 (-1))), zI 4, .inr (9, [.ref 28, .int 0, .int 0]), zI 30, .inl (.long, 259, .inr (.inl fun _ => 0)), .inl (.long, 259, .inr (.inl fun _ => 0)), .inr (2, [.int 0, .ref 32, .ref 33]), flA, flB] ++ wrC 34) rfl rfl ?_
  refine go 60 (by decide) ?_
  simp only [KX, KY, KZ, KW, KV, Nat.reduceAdd, Nat.reduceSub, Nat.reduceLeDiff, true_and, and_true, true_or, or_true, or_self, reduceCtorEq, if_true, if_false, not_false_eq_true, eq_self, c102, KN, FT11, CD, fl_new, rdrC, lawC, hl_len, hl_get, hl_new, hl_new2, hl_c0, hl_set, wr_len, rep6, rep4, List.cons_append, List.nil_append, List.set_cons_succ, List.set_cons_zero, List.getD_cons_zero, List.getD_cons_succ, List.length_append, Nat.reduceMul, List.length_cons, List.length_nil, Nat.reduceLT, Nat.zero_add]
  exact k
