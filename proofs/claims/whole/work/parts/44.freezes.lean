/-! GROWTHS: which CELL FREEZES -/
def i_bit (n b : Int32) : Int32 := if n ≤ 0 then 0 else if (b >>> ((n - 1) &&& 31)) &&& 1 = 1 then 1 else 0
def i_arm (q r : Int32) : Int32 := if q = 0 then 1 else if r = 0 then 1 else if q + r = 0 then 1 else 0
def i_rg (q r : Int32) : Int32 := i_max (i_max (i_abs q) (i_abs r)) (i_abs (q + r))
/-- whether a CELL without ICE FREEZES by a GROWTH of KIND k -/
def fzn (k : Nat) (a q r n al : Int32) : Int32 := match k with
  | 0 => i_bit n a
  | 1 => i_bit n (a ||| 56)
  | 2 => i_bit al a
  | 3 => if i_arm q r = 0 then 0 else i_bit n (a ||| 56)
  | 4 => if i_arm q r = 0 then (if n = 1 then (if i_rg q r - i_rg q r / 2 * 2 = 0 then 1 else 0) else 0) else i_bit n (a ||| 56)
  | _ => if q < 0 then 0 else i_bit n a
def fzm (k : Nat) : Nat := match k with
  | 0 => 44
  | 1 => 85
  | 2 => 81
  | 3 => 1
  | 4 => 88
  | _ => 5
theorem i_bit01 (n b : Int32) : i_bit n b = 0 ∨ i_bit n b = 1 := by
  unfold i_bit
  split
  · exact Or.inl rfl
  · split
    · exact Or.inr rfl
    · exact Or.inl rfl
theorem i_arm01 (q r : Int32) : i_arm q r = 0 ∨ i_arm q r = 1 := by
  unfold i_arm
  repeat' split
  all_goals first
    | exact Or.inl rfl
    | exact Or.inr rfl
theorem fzn01 (k : Nat) (a q r n al : Int32) : fzn k a q r n al = 0 ∨ fzn k a q r n al = 1 := by
  unfold fzn
  repeat' split
  all_goals first
    | exact Or.inl rfl
    | exact Or.inr rfl
    | exact i_bit01 _ _
theorem s45 {h : ma_H} {Q : ma_Q} {n b : Int32} (k : Q (some (.int (i_bit n b))) h) : ma_X 45 [.int n, .int b] h Q := by
  unfold i_bit at k
  refine ma_enter (m := 45) (Or.inl (by decide)) (by show 2 ≤ mt_n 45; decide +kernel) ?_
  show At 45 Q 0 (mt_c 45) [some (.int n), some (.int b)] [] h
  refine go 60 (by decide) ?_
  simp only [KX, KY, KZ, KW, KV, Nat.reduceAdd, Nat.reduceSub, Nat.reduceLeDiff, true_and, and_true, true_or, or_true, or_self, reduceCtorEq, if_true, if_false, not_false_eq_true, eq_self, c45]
  repeat' split
  all_goals simpa [*] using k
theorem s46 {h : ma_H} {Q : ma_Q} {q r : Int32} (k : Q (some (.int (i_arm q r))) h) : ma_X 46 [.int q, .int r] h Q := by
  unfold i_arm at k
  refine ma_enter (m := 46) (Or.inl (by decide)) (by show 2 ≤ mt_n 46; decide +kernel) ?_
  show At 46 Q 0 (mt_c 46) [some (.int q), some (.int r)] [] h
  refine go 60 (by decide) ?_
  simp only [KX, KY, KZ, KW, KV, Nat.reduceAdd, Nat.reduceSub, Nat.reduceLeDiff, true_and, and_true, true_or, or_true, or_self, reduceCtorEq, if_true, if_false, not_false_eq_true, eq_self, c46]
  repeat' split
  all_goals simpa [*] using k
theorem sfz_0 {h : ma_H} {Q : ma_Q} {g : Nat} {v0 v1 v3 : Value} {a q r n al : Int32} (e : h.2.1 g = .inr (3, [v0, v1, .int a, v3])) (k : Q (some (.int (fzn 0 a q r n al))) h) : ma_X 44 [.ref g, .int q, .int r, .int n, .int al] h Q := by
  refine ma_enter (m := 44) (Or.inl (by decide)) (by show 5 ≤ mt_n 44; decide +kernel) ?_
  show At 44 Q 0 (mt_c 44) [some (.ref g), some (.int q), some (.int r), some (.int n), some (.int al)] [] h
  refine go 60 (by decide) ?_
  simp only [KX, KY, KZ, KW, KV, Nat.reduceAdd, Nat.reduceSub, Nat.reduceLeDiff, true_and, and_true, true_or, or_true, or_self, reduceCtorEq, if_true, if_false, not_false_eq_true, eq_self, c44, e, (show me_un 3 3 = true from rfl)]
  refine s45 ?_
  refine go 60 (by decide) ?_
  simp only [KX, KY, KZ, KW, KV, Nat.reduceAdd, Nat.reduceSub, Nat.reduceLeDiff, true_and, and_true, true_or, or_true, or_self, reduceCtorEq, if_true, if_false, not_false_eq_true, eq_self, c44]
  rcases i_bit01 n a with z | z
  all_goals
    rw [show fzn 0 a q r n al = i_bit n a from rfl, z] at k
    rw [z]
    first
    | exact k
    | exact ⟨Or.inl rfl, k⟩
    | exact ⟨Or.inr rfl, k⟩
theorem sfz_1 {h : ma_H} {Q : ma_Q} {g : Nat} {v0 v1 v3 : Value} {a q r n al : Int32} (e : h.2.1 g = .inr (7, [v0, v1, .int a, v3])) (k : Q (some (.int (fzn 1 a q r n al))) h) : ma_X 85 [.ref g, .int q, .int r, .int n, .int al] h Q := by
  refine ma_enter (m := 85) (Or.inl (by decide)) (by show 5 ≤ mt_n 85; decide +kernel) ?_
  show At 85 Q 0 (mt_c 85) [some (.ref g), some (.int q), some (.int r), some (.int n), some (.int al)] [] h
  refine go 60 (by decide) ?_
  simp only [KX, KY, KZ, KW, KV, Nat.reduceAdd, Nat.reduceSub, Nat.reduceLeDiff, true_and, and_true, true_or, or_true, or_self, reduceCtorEq, if_true, if_false, not_false_eq_true, eq_self, c85, e, (show me_un 7 7 = true from rfl)]
  refine s45 ?_
  refine go 60 (by decide) ?_
  simp only [KX, KY, KZ, KW, KV, Nat.reduceAdd, Nat.reduceSub, Nat.reduceLeDiff, true_and, and_true, true_or, or_true, or_self, reduceCtorEq, if_true, if_false, not_false_eq_true, eq_self, c85]
  rcases i_bit01 n (a ||| 56) with z | z
  all_goals
    rw [show fzn 1 a q r n al = i_bit n (a ||| 56) from rfl, z] at k
    rw [z]
    first
    | exact k
    | exact ⟨Or.inl rfl, k⟩
    | exact ⟨Or.inr rfl, k⟩
theorem sfz_2 {h : ma_H} {Q : ma_Q} {g : Nat} {v0 v1 v3 : Value} {a q r n al : Int32} (e : h.2.1 g = .inr (6, [v0, v1, .int a, v3])) (k : Q (some (.int (fzn 2 a q r n al))) h) : ma_X 81 [.ref g, .int q, .int r, .int n, .int al] h Q := by
  refine ma_enter (m := 81) (Or.inl (by decide)) (by show 5 ≤ mt_n 81; decide +kernel) ?_
  show At 81 Q 0 (mt_c 81) [some (.ref g), some (.int q), some (.int r), some (.int n), some (.int al)] [] h
  refine go 60 (by decide) ?_
  simp only [KX, KY, KZ, KW, KV, Nat.reduceAdd, Nat.reduceSub, Nat.reduceLeDiff, true_and, and_true, true_or, or_true, or_self, reduceCtorEq, if_true, if_false, not_false_eq_true, eq_self, c81, e, (show me_un 6 6 = true from rfl)]
  refine s45 ?_
  refine go 60 (by decide) ?_
  simp only [KX, KY, KZ, KW, KV, Nat.reduceAdd, Nat.reduceSub, Nat.reduceLeDiff, true_and, and_true, true_or, or_true, or_self, reduceCtorEq, if_true, if_false, not_false_eq_true, eq_self, c81]
  rcases i_bit01 al a with z | z
  all_goals
    rw [show fzn 2 a q r n al = i_bit al a from rfl, z] at k
    rw [z]
    first
    | exact k
    | exact ⟨Or.inl rfl, k⟩
    | exact ⟨Or.inr rfl, k⟩
theorem sfz_3 {h : ma_H} {Q : ma_Q} {g : Nat} {v0 v1 v3 : Value} {a q r n al : Int32} (e : h.2.1 g = .inr (0, [v0, v1, .int a, v3])) (k : Q (some (.int (fzn 3 a q r n al))) h) : ma_X 1 [.ref g, .int q, .int r, .int n, .int al] h Q := by
  refine ma_enter (m := 1) (Or.inl (by decide)) (by show 5 ≤ mt_n 1; decide +kernel) ?_
  show At 1 Q 0 (mt_c 1) [some (.ref g), some (.int q), some (.int r), some (.int n), some (.int al)] [] h
  refine go 60 (by decide) ?_
  simp only [KX, KY, KZ, KW, KV, Nat.reduceAdd, Nat.reduceSub, Nat.reduceLeDiff, true_and, and_true, true_or, or_true, or_self, reduceCtorEq, if_true, if_false, not_false_eq_true, eq_self, c1, e, (show me_un 0 0 = true from rfl)]
  refine s46 ?_
  have d : fzn 3 a q r n al = if i_arm q r = 0 then 0 else i_bit n (a ||| 56) := rfl
  rcases i_arm01 q r with z | z
  · rw [z] at d ⊢
    refine go 60 (by decide) ?_
    simp only [KX, KY, KZ, KW, KV, Nat.reduceAdd, Nat.reduceSub, Nat.reduceLeDiff, true_and, and_true, true_or, or_true, or_self, reduceCtorEq, if_true, if_false, not_false_eq_true, eq_self, c1]
    rw [show fzn 3 a q r n al = 0 from d] at k
    exact k
  · rw [z] at d ⊢
    rw [show fzn 3 a q r n al = i_bit n (a ||| 56) from d] at k
    refine go 60 (by decide) ?_
    simp only [KX, KY, KZ, KW, KV, Nat.reduceAdd, Nat.reduceSub, Nat.reduceLeDiff, true_and, and_true, true_or, or_true, or_self, reduceCtorEq, if_true, if_false, not_false_eq_true, eq_self, c1, e, (show me_un 0 0 = true from rfl)]
    refine s45 ?_
    rcases i_bit01 n (a ||| 56) with z2 | z2
    · rw [z2] at k ⊢
      refine go 60 (by decide) ?_
      simp only [KX, KY, KZ, KW, KV, Nat.reduceAdd, Nat.reduceSub, Nat.reduceLeDiff, true_and, and_true, true_or, or_true, or_self, reduceCtorEq, if_true, if_false, not_false_eq_true, eq_self, c1]
      exact k
    · rw [z2] at k ⊢
      refine go 60 (by decide) ?_
      simp only [KX, KY, KZ, KW, KV, Nat.reduceAdd, Nat.reduceSub, Nat.reduceLeDiff, true_and, and_true, true_or, or_true, or_self, reduceCtorEq, if_true, if_false, not_false_eq_true, eq_self, c1]
      exact k
theorem sfz_4 {h : ma_H} {Q : ma_Q} {g : Nat} {v0 v1 v3 : Value} {a q r n al : Int32} (e : h.2.1 g = .inr (8, [v0, v1, .int a, v3])) (k : Q (some (.int (fzn 4 a q r n al))) h) : ma_X 88 [.ref g, .int q, .int r, .int n, .int al] h Q := by
  refine ma_enter (m := 88) (Or.inl (by decide)) (by show 5 ≤ mt_n 88; decide +kernel) ?_
  show At 88 Q 0 (mt_c 88) [some (.ref g), some (.int q), some (.int r), some (.int n), some (.int al)] [] h
  refine go 60 (by decide) ?_
  simp only [KX, KY, KZ, KW, KV, Nat.reduceAdd, Nat.reduceSub, Nat.reduceLeDiff, true_and, and_true, true_or, or_true, or_self, reduceCtorEq, if_true, if_false, not_false_eq_true, eq_self, c88, e, (show me_un 8 8 = true from rfl)]
  refine s46 ?_
  have d : fzn 4 a q r n al = if i_arm q r = 0 then (if n = 1 then (if i_rg q r - i_rg q r / 2 * 2 = 0 then 1 else 0) else 0) else i_bit n (a ||| 56) := rfl
  rcases i_arm01 q r with z | z
  · rw [z] at d ⊢
    rw [show fzn 4 a q r n al = if n = 1 then (if i_rg q r - i_rg q r / 2 * 2 = 0 then 1 else 0) else 0 from d] at k
    refine go 60 (by decide) ?_
    simp only [KX, KY, KZ, KW, KV, Nat.reduceAdd, Nat.reduceSub, Nat.reduceLeDiff, true_and, and_true, true_or, or_true, or_self, reduceCtorEq, if_true, if_false, not_false_eq_true, eq_self, c88]
    by_cases c : n = 1
    · rw [if_pos c] at k ⊢
      refine s13 ?_
      show At 88 Q 17 (0, 0) _ [.int (i_rg q r)] h
      refine go 60 (by decide) ?_
      simp only [KX, KY, KZ, KW, KV, Nat.reduceAdd, Nat.reduceSub, Nat.reduceLeDiff, true_and, and_true, true_or, or_true, or_self, reduceCtorEq, if_true, if_false, not_false_eq_true, eq_self, c88]
      by_cases c2 : i_rg q r - i_rg q r / 2 * 2 = 0
      · rw [if_pos c2] at k ⊢; exact k
      · rw [if_neg c2] at k ⊢; exact k
    · rw [if_neg c] at k ⊢; exact k
  · rw [z] at d ⊢
    rw [show fzn 4 a q r n al = i_bit n (a ||| 56) from d] at k
    refine go 60 (by decide) ?_
    simp only [KX, KY, KZ, KW, KV, Nat.reduceAdd, Nat.reduceSub, Nat.reduceLeDiff, true_and, and_true, true_or, or_true, or_self, reduceCtorEq, if_true, if_false, not_false_eq_true, eq_self, c88, e, (show me_un 8 8 = true from rfl)]
    refine s45 ?_
    refine go 60 (by decide) ?_
    simp only [KX, KY, KZ, KW, KV, Nat.reduceAdd, Nat.reduceSub, Nat.reduceLeDiff, true_and, and_true, true_or, or_true, or_self, reduceCtorEq, if_true, if_false, not_false_eq_true, eq_self, c88]
    rcases i_bit01 n (a ||| 56) with z2 | z2
    all_goals
      rw [z2] at k ⊢
      first
      | exact k
      | exact ⟨Or.inl rfl, k⟩
      | exact ⟨Or.inr rfl, k⟩
theorem sfz_5 {h : ma_H} {Q : ma_Q} {g : Nat} {v0 v1 v3 : Value} {a q r n al : Int32} (e : h.2.1 g = .inr (1, [v0, v1, .int a, v3])) (k : Q (some (.int (fzn 5 a q r n al))) h) : ma_X 5 [.ref g, .int q, .int r, .int n, .int al] h Q := by
  refine ma_enter (m := 5) (Or.inl (by decide)) (by show 5 ≤ mt_n 5; decide +kernel) ?_
  show At 5 Q 0 (mt_c 5) [some (.ref g), some (.int q), some (.int r), some (.int n), some (.int al)] [] h
  refine go 60 (by decide) ?_
  simp only [KX, KY, KZ, KW, KV, Nat.reduceAdd, Nat.reduceSub, Nat.reduceLeDiff, true_and, and_true, true_or, or_true, or_self, reduceCtorEq, if_true, if_false, not_false_eq_true, eq_self, c5, e, (show me_un 1 1 = true from rfl)]
  have d : fzn 5 a q r n al = if q < 0 then 0 else i_bit n a := rfl
  by_cases c : q < 0
  · rw [if_pos c] at d ⊢
    rw [d] at k
    exact k
  · rw [if_neg c] at d ⊢
    rw [d] at k
    refine s45 ?_
    rcases i_bit01 n a with z2 | z2
    · rw [z2] at k ⊢
      refine go 60 (by decide) ?_
      simp only [KX, KY, KZ, KW, KV, Nat.reduceAdd, Nat.reduceSub, Nat.reduceLeDiff, true_and, and_true, true_or, or_true, or_self, reduceCtorEq, if_true, if_false, not_false_eq_true, eq_self, c5]
      exact k
    · rw [z2] at k ⊢
      refine go 60 (by decide) ?_
      simp only [KX, KY, KZ, KW, KV, Nat.reduceAdd, Nat.reduceSub, Nat.reduceLeDiff, true_and, and_true, true_or, or_true, or_self, reduceCtorEq, if_true, if_false, not_false_eq_true, eq_self, c5]
      exact k
theorem sfz {h : ma_H} {Q : ma_Q} {kk g : Nat} {v0 v1 v3 : Value} {a q r n al : Int32} (hk : kk < 6) (e : h.2.1 g = .inr (g_cls kk, [v0, v1, .int a, v3])) (k : Q (some (.int (fzn kk a q r n al))) h) : ma_X (fzm kk) [.ref g, .int q, .int r, .int n, .int al] h Q := by
  match kk, hk with
  | 0, _ => exact sfz_0 e k
  | 1, _ => exact sfz_1 e k
  | 2, _ => exact sfz_2 e k
  | 3, _ => exact sfz_3 e k
  | 4, _ => exact sfz_4 e k
  | 5, _ => exact sfz_5 e k
theorem vt288 : ∀ k, k < 6 → me_vt 288 (g_cls k) = some (fzm k) ∧ mt_c (fzm k) = (0, 0) := by decide +kernel
theorem vt289 : ∀ k, k < 6 → me_vt 289 (g_cls k) = some 41 ∧ me_vt 293 (g_cls k) = some 42 ∧ me_vt 297 (g_cls k) = some 43 ∧ me_vt 294 (g_cls k) = some 40 := by decide +kernel
/-- what a CELL of a FLAKE would do by a GROWTH -/
def fz (g : Nat → Int32) (kk : Nat) (a : Int32) (c : Nat) : Int32 := if g (ma_cell c) < 0 then fzn kk a (m_q c) (m_r c) (su (fl_beside g c) 6) (fl_has g (fl_nb c 0) + fl_has g (fl_nb c 3)) else 0
theorem fz01 (g : Nat → Int32) (kk : Nat) (a : Int32) (c : Nat) : fz g kk a c = 0 ∨ fz g kk a c = 1 := by
  unfold fz
  split
  · exact fzn01 _ _ _ _ _ _
  · exact Or.inl rfl
theorem s41 {h : ma_H} {Q : ma_Q} {f rg kk c : Nat} {v0 v1 v3 : Value} {a : Int32} {s rc : Nat} {mn : Int32} {g : Nat → Int32} (h1 : h.2.1 f = .inr (2, [.int mn, .ref s, .ref rc])) (h2 : h.2.1 s = .inl (.int, 169, .inl g)) (hk : kk < 6) (e : h.2.1 rg = .inr (g_cls kk, [v0, v1, .int a, v3])) (hc : c < 91) (k : Q (some (.int (fz g kk a c))) h) : ma_X 41 [.ref rg, .ref f, .int (nI (ma_cell c))] h Q := by
  refine ma_enter (m := 41) (Or.inl (by decide)) (by show 3 ≤ mt_n 41; decide +kernel) ?_
  show At 41 Q 0 (mt_c 41) [some (.ref rg), some (.ref f), some (.int (nI (ma_cell c))), none, none] [] h
  refine go 60 (by decide) ?_
  simp only [KX, KY, KZ, KW, KV, Nat.reduceAdd, Nat.reduceSub, Nat.reduceLeDiff, true_and, and_true, true_or, or_true, or_self, reduceCtorEq, if_true, if_false, not_false_eq_true, eq_self, c41, h1, h2, e, (vt288 kk hk).1, (vt288 kk hk).2]
  have d : fz g kk a c = if g (ma_cell c) < 0 then fzn kk a (m_q c) (m_r c) (su (fl_beside g c) 6) (fl_has g (fl_nb c 0) + fl_has g (fl_nb c 3)) else 0 := rfl
  refine s19c h1 h2 hc (fun q => ?_) (fun q => ?_)
  · rw [if_pos q] at d
    refine go 60 (by decide) ?_
    simp only [KX, KY, KZ, KW, KV, Nat.reduceAdd, Nat.reduceSub, Nat.reduceLeDiff, true_and, and_true, true_or, or_true, or_self, reduceCtorEq, if_true, if_false, not_false_eq_true, eq_self, c41, h1, h2, e, (vt288 kk hk).1, (vt288 kk hk).2]
    refine s10 ?_
    refine go 60 (by decide) ?_
    simp only [KX, KY, KZ, KW, KV, Nat.reduceAdd, Nat.reduceSub, Nat.reduceLeDiff, true_and, and_true, true_or, or_true, or_self, reduceCtorEq, if_true, if_false, not_false_eq_true, eq_self, c41, h1, h2, e, (vt288 kk hk).1, (vt288 kk hk).2]
    refine s11 ?_
    refine go 60 (by decide) ?_
    simp only [KX, KY, KZ, KW, KV, Nat.reduceAdd, Nat.reduceSub, Nat.reduceLeDiff, true_and, and_true, true_or, or_true, or_self, reduceCtorEq, if_true, if_false, not_false_eq_true, eq_self, c41, h1, h2, e, (vt288 kk hk).1, (vt288 kk hk).2]
    refine s21 h1 h2 hc ?_
    refine go 60 (by decide) ?_
    simp only [KX, KY, KZ, KW, KV, Nat.reduceAdd, Nat.reduceSub, Nat.reduceLeDiff, true_and, and_true, true_or, or_true, or_self, reduceCtorEq, if_true, if_false, not_false_eq_true, eq_self, c41, h1, h2, e, (vt288 kk hk).1, (vt288 kk hk).2]
    refine s20 h1 h2 hc ?_
    refine go 60 (by decide) ?_
    simp only [KX, KY, KZ, KW, KV, Nat.reduceAdd, Nat.reduceSub, Nat.reduceLeDiff, true_and, and_true, true_or, or_true, or_self, reduceCtorEq, if_true, if_false, not_false_eq_true, eq_self, c41, h1, h2, e, (vt288 kk hk).1, (vt288 kk hk).2]
    refine sfz hk e ?_
    show At 41 Q 22 (0, 0) [some (.ref rg), some (.ref f), some (.int (nI (ma_cell c))), some (.int (nI (ma_cell c) - nI (ma_cell c) / 13 * 13 - 6)), some (.int (nI (ma_cell c) / 13 - 6))] [.int (fzn kk a (m_q c) (m_r c) (su (fl_beside g c) 6) (fl_has g (fl_nb c 0) + fl_has g (fl_nb c 3)))] h
    rw [← d]
    rcases fz01 g kk a c with z | z
    · rw [z] at k ⊢
      refine go 60 (by decide) ?_
      simp only [KX, KY, KZ, KW, KV, Nat.reduceAdd, Nat.reduceSub, Nat.reduceLeDiff, true_and, and_true, true_or, or_true, or_self, reduceCtorEq, if_true, if_false, not_false_eq_true, eq_self, c41, h1, h2, e, (vt288 kk hk).1, (vt288 kk hk).2]
      exact k
    · rw [z] at k ⊢
      refine go 60 (by decide) ?_
      simp only [KX, KY, KZ, KW, KV, Nat.reduceAdd, Nat.reduceSub, Nat.reduceLeDiff, true_and, and_true, true_or, or_true, or_self, reduceCtorEq, if_true, if_false, not_false_eq_true, eq_self, c41, h1, h2, e, (vt288 kk hk).1, (vt288 kk hk).2]
      exact k
  · rw [if_neg q] at d
    rw [d] at k
    refine go 60 (by decide) ?_
    simp only [KX, KY, KZ, KW, KV, Nat.reduceAdd, Nat.reduceSub, Nat.reduceLeDiff, true_and, and_true, true_or, or_true, or_self, reduceCtorEq, if_true, if_false, not_false_eq_true, eq_self, c41, h1, h2, e, (vt288 kk hk).1, (vt288 kk hk).2]
    exact k
/-- the list of the CELLS that FREEZE, and how many -/
def lf (K : Nat → Int32) (l : Nat → Int32) : Nat → Nat × (Nat → Int32)
  | 0 => (0, l)
  | n + 1 => if K n = 0 then lf K l n else ((lf K l n).1 + 1, upd (lf K l n).2 (lf K l n).1 (nI (ma_cell n)))
theorem lf_le (K l : Nat → Int32) : ∀ n, (lf K l n).1 ≤ n
  | 0 => Nat.le_refl _
  | n + 1 => by
    have := lf_le K l n
    show (if K n = 0 then lf K l n else ((lf K l n).1 + 1, upd (lf K l n).2 (lf K l n).1 (nI (ma_cell n)))).1 ≤ n + 1
    split
    · omega
    · show (lf K l n).1 + 1 ≤ n + 1
      omega
theorem s42 {h : ma_H} {Q : ma_Q} {f rg kk c : Nat} {v0 v1 v3 : Value} {a : Int32} {s rc : Nat} {mn : Int32} {g : Nat → Int32} (h1 : h.2.1 f = .inr (2, [.int mn, .ref s, .ref rc])) (h2 : h.2.1 s = .inl (.int, 169, .inl g)) (hk : kk < 6) (e : h.2.1 rg = .inr (g_cls kk, [v0, v1, .int a, v3])) {li : Nat} {l0 : Nat → Int32} (hl : h.2.1 li = .inl (.int, 91, .inl l0)) (d1 : f ≠ li) (d2 : s ≠ li) (d3 : rg ≠ li) (k : Q (some (.int (nI (lf (fz g kk a) l0 91).1))) (ma_set h li (.inl (.int, 91, .inl (lf (fz g kk a) l0 91).2)))) : ma_X 42 [.ref rg, .ref f, .ref li] h Q := by
  have hE : ∀ c, (ma_set h li c).2.1 rg = _ := fun c => (ma_set_ne h c d3).trans e
  have hF : ∀ c, (ma_set h li c).2.1 f = _ := fun c => (ma_set_ne h c d1).trans h1
  have hS : ∀ c, (ma_set h li c).2.1 s = _ := fun c => (ma_set_ne h c d2).trans h2
  have hL : ∀ c, (ma_set h li c).2.1 li = c := fun c => ma_set_at h li c
  have lp : ∀ ni i, i + ni = 91 → At 42 Q 9 (0, 0) [some (.ref rg), some (.ref f), some (.ref li), some (.int (nI (lf (fz g kk a) l0 i).1)), some (.retAddr 0), some (.int (nI 91)), some (.int (nI i)), none] [] (ma_set h li (.inl (.int, 91, .inl (lf (fz g kk a) l0 i).2))) := by
    intro ni
    induction ni with
    | zero =>
      intro i e
      obtain rfl : i = 91 := by omega
      refine go 60 (by decide) ?_
      simp only [KX, KY, KZ, KW, KV, Nat.reduceAdd, Nat.reduceSub, Nat.reduceLeDiff, true_and, and_true, true_or, or_true, or_self, reduceCtorEq, if_true, if_false, not_false_eq_true, eq_self, c42, hE, hL, (vt289 kk hk).1, show mt_c 41 = (0, 0) from rfl]
      rw [if_neg (nI_nlt (Nat.le_refl _) (by omega))]
      exact k
    | succ ni ih =>
      intro i e
      have hi : i < 91 := by omega
      have e1i := nI_1 i
      refine go 60 (by decide) ?_
      simp only [KX, KY, KZ, KW, KV, Nat.reduceAdd, Nat.reduceSub, Nat.reduceLeDiff, true_and, and_true, true_or, or_true, or_self, reduceCtorEq, if_true, if_false, not_false_eq_true, eq_self, c42, hE, hL, (vt289 kk hk).1, show mt_c 41 = (0, 0) from rfl]
      rw [if_pos (nI_lt hi (by omega))]
      have hle := lf_le (fz g kk a) l0 i
      rw [nI_clamp (show i < 2 ^ 31 by omega)]
      refine ⟨nI_in hi (by decide), ?_⟩
      rw [if_pos (nI_lt (show (lf (fz g kk a) l0 i).1 < 91 by omega) (by decide))]
      refine s41 (hF _) (hS _) hk (hE _) hi ?_
      have d : lf (fz g kk a) l0 (i + 1) = if fz g kk a i = 0 then lf (fz g kk a) l0 i else ((lf (fz g kk a) l0 i).1 + 1, upd (lf (fz g kk a) l0 i).2 (lf (fz g kk a) l0 i).1 (nI (ma_cell i))) := rfl
      rcases fz01 g kk a i with z | z
      · rw [z] at d ⊢
        rw [if_pos rfl] at d
        refine go 60 (by decide) ?_
        simp only [KX, KY, KZ, KW, KV, Nat.reduceAdd, Nat.reduceSub, Nat.reduceLeDiff, true_and, and_true, true_or, or_true, or_self, reduceCtorEq, if_true, if_false, not_false_eq_true, eq_self, c42, hE, hL, (vt289 kk hk).1, show mt_c 41 = (0, 0) from rfl]
        rw [e1i, ← d]
        exact At_le (ih (i + 1) (by omega)) ⟨rfl, rfl, rfl, rfl, rfl, rfl, rfl, trivial⟩
      · rw [z] at d ⊢
        rw [if_neg (by decide)] at d
        refine go 60 (by decide) ?_
        simp only [KX, KY, KZ, KW, KV, Nat.reduceAdd, Nat.reduceSub, Nat.reduceLeDiff, true_and, and_true, true_or, or_true, or_self, reduceCtorEq, if_true, if_false, not_false_eq_true, eq_self, c42, hE, hL, (vt289 kk hk).1, show mt_c 41 = (0, 0) from rfl]
        rw [nI_clamp (show (lf (fz g kk a) l0 i).1 < 2 ^ 31 by omega)]
        refine ⟨nI_in (show (lf (fz g kk a) l0 i).1 < 91 by omega) (by decide), ?_⟩
        rw [ma_set_set, e1i, nI_1]
        have ih2 := ih (i + 1) (by omega)
        rw [d] at ih2
        exact At_le ih2 ⟨rfl, rfl, rfl, rfl, rfl, rfl, rfl, trivial⟩
  refine ma_enter (m := 42) (Or.inl (by decide)) (by show 3 ≤ mt_n 42; decide +kernel) ?_
  show At 42 Q 0 (mt_c 42) [some (.ref rg), some (.ref f), some (.ref li), none, none, none, none, none] [] h
  refine go 60 (by decide) ?_
  simp only [KX, KY, KZ, KW, KV, Nat.reduceAdd, Nat.reduceSub, Nat.reduceLeDiff, true_and, and_true, true_or, or_true, or_self, reduceCtorEq, if_true, if_false, not_false_eq_true, eq_self, c42, hE, hL, (vt289 kk hk).1, show mt_c 41 = (0, 0) from rfl]
  have l9 := lp 91 0 rfl
  rw [show (ma_set h li (.inl (.int, 91, .inl (lf (fz g kk a) l0 0).2))) = h from ma_set_id hl] at l9
  exact l9
