/-! calls: arm, breaks -/
def ar_k (k j : Nat) : Nat := cix (fl_arm k j)
theorem ar_ok : ∀ k, k < 6 → ∀ j, j < 6 → ar_k k j < 91 ∧ ma_cell (ar_k k j) = fl_arm k j ∧ ar_k k 0 = 45 ∧ (j < 5 → m_nb (ar_k k j) k = nI (ar_k k (j + 1))) ∧ m_nb (ar_k k 5) k = -1 := by decide +kernel
theorem num0 : (0 : Int32) = m_q 45 ∧ (0 : Int32) = m_r 45 := by decide +kernel
theorem ix6 {c k : Nat} (hc : c < 91) (hk : k < 6) : (6 : Int32) * nI c + nI k = nI (6 * c + k) := by rw [show (6 : Int32) * nI c = nI (6 * c) from nI_mul 6 c, nI_add]
theorem fl_has_arm {g g2 : Nat → Int32} {A : Nat} (e : ∀ i, i < 91 → g (ma_cell i) = g2 (A + i)) {k j : Nat} (hk : k < 6) (hj : j < 6) : fl_has g2 (A + ar_k k j) = fl_has g (fl_arm k j) := by
  obtain ⟨a1, a2, -⟩ := ar_ok k hk j hj
  unfold fl_has
  rw [← a2, e _ a1]
theorem s199 {h : ma_H} {Q : ma_Q} {x : Int32} {f kk : Nat} (H : Sh h) (R : Rt h) {g0 : Nat → Int32} (eg : ∀ i, i < 91 → g0 (ma_cell i) = ai h 88 (91 * f + i)) (hf : f < 4) (q : x = nI f) (hk : kk < 6) (k : Q (some (.int (nI (fl_len g0 kk)))) h) : ma_X 199 [.ref 80, .int x, .int (nI kk)] h Q := by
  have e91 := ix91n q
  have lp : ∀ n j, j + n = 5 → Q (some (.int (nI (fl_lenF g0 kk n j)))) h → At 199 Q 14 (0, 0) [some (.ref 80), some (.int x), some (.int (nI kk)), some (.int (nI j)), some (.int (m_nb (ar_k kk j) kk))] [] h := by
    intro n
    induction n with
    | zero =>
      intro j e k
      obtain rfl : j = 5 := by omega
      rw [(ar_ok kk hk 5 (by decide)).2.2.2.2]
      refine go 60 (by decide) ?_
      simp only [KX, KY, KZ, KW, KV, Nat.reduceAdd, Nat.reduceSub, Nat.reduceLeDiff, true_and, and_true, true_or, or_true, or_self, reduceCtorEq, if_true, if_false, not_false_eq_true, eq_self, c199, H.e80]
      exact k
    | succ n ih =>
      intro j e k
      obtain ⟨a1, a2, -⟩ := ar_ok kk hk (j + 1) (by omega)
      rw [(ar_ok kk hk j (by omega)).2.2.2.1 (by omega)]
      refine go 60 (by decide) ?_
      simp only [KX, KY, KZ, KW, KV, Nat.reduceAdd, Nat.reduceSub, Nat.reduceLeDiff, true_and, and_true, true_or, or_true, or_self, reduceCtorEq, if_true, if_false, not_false_eq_true, eq_self, c199, H.e80]
      rw [if_neg (nI_pos (by omega)), if_neg (nI_pos (by omega)), e91]
      refine go 60 (by decide) ?_
      simp only [KX, KY, KZ, KW, KV, Nat.reduceAdd, Nat.reduceSub, Nat.reduceLeDiff, true_and, and_true, true_or, or_true, or_self, reduceCtorEq, if_true, if_false, not_false_eq_true, eq_self, c199, H.e80]
      refine s172 (A := 91 * f) H.e80 rfl H.e88 (by omega) ?_
      rw [fl_has_arm eg hk (by omega)]
      by_cases z : g0 (fl_arm kk (j + 1)) < 0
      · rw [show fl_has g0 (fl_arm kk (j + 1)) = 0 from if_pos z]
        rw [show fl_lenF g0 kk (n + 1) j = j from if_pos z] at k
        refine go 60 (by decide) ?_
        simp only [KX, KY, KZ, KW, KV, Nat.reduceAdd, Nat.reduceSub, Nat.reduceLeDiff, true_and, and_true, true_or, or_true, or_self, reduceCtorEq, if_true, if_false, not_false_eq_true, eq_self, c199, H.e80]
        exact k
      · rw [show fl_has g0 (fl_arm kk (j + 1)) = 1 from if_neg z]
        rw [show fl_lenF g0 kk (n + 1) j = fl_lenF g0 kk n (j + 1) from if_neg z] at k
        refine go 60 (by decide) ?_
        simp only [KX, KY, KZ, KW, KV, Nat.reduceAdd, Nat.reduceSub, Nat.reduceLeDiff, true_and, and_true, true_or, or_true, or_self, reduceCtorEq, if_true, if_false, not_false_eq_true, eq_self, c199, H.e80, H.e86]
        rw [ix6 a1 hk, nI_clamp (by omega), R.2.1 _ a1 kk hk, nI_1]
        exact ⟨nI_in (by omega) (by decide), ih (j + 1) (by omega) k⟩
  refine ma_enter (m := 199) (Or.inl (by decide)) (by show 3 ≤ mt_n 199; decide +kernel) ?_
  show At 199 Q 0 (mt_c 199) [some (.ref 80), some (.int x), some (.int (nI kk)), none, none] [] h
  refine go 60 (by decide) ?_
  simp only [KX, KY, KZ, KW, KV, Nat.reduceAdd, Nat.reduceSub, Nat.reduceLeDiff, true_and, and_true, true_or, or_true, or_self, reduceCtorEq, if_true, if_false, not_false_eq_true, eq_self, c199, H.e80, H.e86]
  refine s168v H R (c := 45) (by decide) num0.1 num0.2 ?_
  refine go 60 (by decide) ?_
  simp only [KX, KY, KZ, KW, KV, Nat.reduceAdd, Nat.reduceSub, Nat.reduceLeDiff, true_and, and_true, true_or, or_true, or_self, reduceCtorEq, if_true, if_false, not_false_eq_true, eq_self, c199, H.e80, H.e86]
  rw [ix6 (by decide) hk, nI_clamp (by omega), R.2.1 45 (by decide) kk hk]
  refine ⟨nI_in (by omega) (by decide), ?_⟩
  have l0 := lp 5 0 rfl k
  rw [(ar_ok kk hk 0 (by decide)).2.2.1] at l0
  exact l0
theorem s109 {h : ma_H} {Q : ma_Q} {x y : Int32} {f kk : Nat} (H : Sh h) (R : Rr h) (hf : f < 4) (q : x = nI f) (hk : kk < 6) (q2 : y = nI kk) (k : Q (some (.int (nI (fl_len (ai h (37 + 3 * f)) kk)))) h) : ma_X 109 [.ref 0, .int x, .int y] h Q := by
  subst q2
  refine ma_enter (m := 109) (Or.inl (by decide)) (by show 3 ≤ mt_n 109; decide +kernel) ?_
  show At 109 Q 0 (mt_c 109) [some (.ref 0), some (.int x), some (.int (nI kk)), none] [] h
  refine go 60 (by decide) ?_
  simp only [KX, KY, KZ, KW, KV, Nat.reduceAdd, Nat.reduceSub, Nat.reduceLeDiff, true_and, and_true, true_or, or_true, or_self, reduceCtorEq, if_true, if_false, not_false_eq_true, eq_self, c109, H.e0]
  refine s145e H R hf q ?_
  refine go 60 (by decide) ?_
  simp only [KX, KY, KZ, KW, KV, Nat.reduceAdd, Nat.reduceSub, Nat.reduceLeDiff, true_and, and_true, true_or, or_true, or_self, reduceCtorEq, if_true, if_false, not_false_eq_true, eq_self, c109, H.e0, (H.fn hf).1]
  rw [if_neg (nI_pos (by omega)), if_pos (nI_lt hk (by decide))]
  refine s30 (H.fn hf).1 (H.fn hf).2.1 hk ?_
  refine go 60 (by decide) ?_
  simp only [KX, KY, KZ, KW, KV, Nat.reduceAdd, Nat.reduceSub, Nat.reduceLeDiff, true_and, and_true, true_or, or_true, or_self, reduceCtorEq, if_true, if_false, not_false_eq_true, eq_self, c109]
  exact k
theorem s200 {h : ma_H} {Q : ma_Q} {x y : Int32} {f kk : Nat} (H : Sh h) (R : Rt h) (N : Nf h) (hf : f < 4) (q : x = nI f) (hk : kk < 6) (q2 : y = nI kk) (k : Q (some (.int (nI (fl_len (ai h (37 + 3 * f)) kk)))) h) : ma_X 200 [.ref 80, .int x, .int y] h Q := by
  subst q2
  refine ma_enter (m := 200) (Or.inl (by decide)) (by show 3 ≤ mt_n 200; decide +kernel) ?_
  show At 200 Q 0 (mt_c 200) [some (.ref 80), some (.int x), some (.int (nI kk))] [] h
  refine go 60 (by decide) ?_
  simp only [KX, KY, KZ, KW, KV, Nat.reduceAdd, Nat.reduceSub, Nat.reduceLeDiff, true_and, and_true, true_or, or_true, or_self, reduceCtorEq, if_true, if_false, not_false_eq_true, eq_self, c200]
  refine s170y (by subst q; exact nI_pos (by omega)) (by subst q; exact nI_le (a := f) (b := 3) (by omega) (by decide)) ?_
  refine go 60 (by decide) ?_
  simp only [KX, KY, KZ, KW, KV, Nat.reduceAdd, Nat.reduceSub, Nat.reduceLeDiff, true_and, and_true, true_or, or_true, or_self, reduceCtorEq, if_true, if_false, not_false_eq_true, eq_self, c200]
  refine s162y (nI_pos (by omega)) (nI_le (a := kk) (b := 5) (by omega) (by decide)) ?_
  refine go 60 (by decide) ?_
  simp only [KX, KY, KZ, KW, KV, Nat.reduceAdd, Nat.reduceSub, Nat.reduceLeDiff, true_and, and_true, true_or, or_true, or_self, reduceCtorEq, if_true, if_false, not_false_eq_true, eq_self, c200, H.e80]
  refine s199 H R (fun i hi => N.eq hf hi) hf q hk ?_
  refine go 60 (by decide) ?_
  simp only [KX, KY, KZ, KW, KV, Nat.reduceAdd, Nat.reduceSub, Nat.reduceLeDiff, true_and, and_true, true_or, or_true, or_self, reduceCtorEq, if_true, if_false, not_false_eq_true, eq_self, c200]
  exact k
theorem s109n {h : ma_H} {Q : ma_Q} {x y : Int32} (H : Sh h) (R : Rr h) (o : (x < 0 ∨ ¬ x < 4) ∨ (∃ f, f < 4 ∧ x = nI f) ∧ (y < 0 ∨ ¬ y < 6)) (k : Q (some (.int (-1))) h) : ma_X 109 [.ref 0, .int x, .int y] h Q := by
  rcases o with o | ⟨⟨f, hf, q⟩, o⟩
  · refine ma_enter (m := 109) (Or.inl (by decide)) (by show 3 ≤ mt_n 109; decide +kernel) ?_
    show At 109 Q 0 (mt_c 109) [some (.ref 0), some (.int x), some (.int y), none] [] h
    refine go 60 (by decide) ?_
    simp only [KX, KY, KZ, KW, KV, Nat.reduceAdd, Nat.reduceSub, Nat.reduceLeDiff, true_and, and_true, true_or, or_true, or_self, reduceCtorEq, if_true, if_false, not_false_eq_true, eq_self, c109, H.e0]
    refine s145n H o ?_
    refine go 60 (by decide) ?_
    simp only [KX, KY, KZ, KW, KV, Nat.reduceAdd, Nat.reduceSub, Nat.reduceLeDiff, true_and, and_true, true_or, or_true, or_self, reduceCtorEq, if_true, if_false, not_false_eq_true, eq_self, c109, H.e0]
    exact k
  · refine ma_enter (m := 109) (Or.inl (by decide)) (by show 3 ≤ mt_n 109; decide +kernel) ?_
    show At 109 Q 0 (mt_c 109) [some (.ref 0), some (.int x), some (.int y), none] [] h
    refine go 60 (by decide) ?_
    simp only [KX, KY, KZ, KW, KV, Nat.reduceAdd, Nat.reduceSub, Nat.reduceLeDiff, true_and, and_true, true_or, or_true, or_self, reduceCtorEq, if_true, if_false, not_false_eq_true, eq_self, c109, H.e0]
    refine s145e H R hf q ?_
    refine go 60 (by decide) ?_
    simp only [KX, KY, KZ, KW, KV, Nat.reduceAdd, Nat.reduceSub, Nat.reduceLeDiff, true_and, and_true, true_or, or_true, or_self, reduceCtorEq, if_true, if_false, not_false_eq_true, eq_self, c109, H.e0]
    by_cases z : y < 0
    · rw [if_pos z]; exact k
    · rw [if_neg z, if_neg (show ¬ y < nI 6 from o.resolve_left z)]; exact k
theorem s200n {h : ma_H} {Q : ma_Q} {x y : Int32} (o : (x < 0 ∨ ¬ x ≤ 3) ∨ (y < 0 ∨ ¬ y ≤ 5)) (k : Q (some (.int (-1))) h) : ma_X 200 [.ref 80, .int x, .int y] h Q := by
  refine ma_enter (m := 200) (Or.inl (by decide)) (by show 3 ≤ mt_n 200; decide +kernel) ?_
  show At 200 Q 0 (mt_c 200) [some (.ref 80), some (.int x), some (.int y)] [] h
  refine go 60 (by decide) ?_
  simp only [KX, KY, KZ, KW, KV, Nat.reduceAdd, Nat.reduceSub, Nat.reduceLeDiff, true_and, and_true, true_or, or_true, or_self, reduceCtorEq, if_true, if_false, not_false_eq_true, eq_self, c200]
  by_cases e : i_in x 0 3 = 0
  · refine s170 ?_
    rw [e]
    refine go 60 (by decide) ?_
    simp only [KX, KY, KZ, KW, KV, Nat.reduceAdd, Nat.reduceSub, Nat.reduceLeDiff, true_and, and_true, true_or, or_true, or_self, reduceCtorEq, if_true, if_false, not_false_eq_true, eq_self, c200]
    exact k
  · refine s170 ?_
    have e1 : i_in x 0 3 = 1 := (i_in01n x 0 3).resolve_left e
    rw [e1]
    refine go 60 (by decide) ?_
    simp only [KX, KY, KZ, KW, KV, Nat.reduceAdd, Nat.reduceSub, Nat.reduceLeDiff, true_and, and_true, true_or, or_true, or_self, reduceCtorEq, if_true, if_false, not_false_eq_true, eq_self, c200]
    have ow : y < 0 ∨ ¬ y ≤ 5 := o.resolve_left (fun z => e (i_in_no z))
    refine s162n ow ?_
    refine go 60 (by decide) ?_
    simp only [KX, KY, KZ, KW, KV, Nat.reduceAdd, Nat.reduceSub, Nat.reduceLeDiff, true_and, and_true, true_or, or_true, or_self, reduceCtorEq, if_true, if_false, not_false_eq_true, eq_self, c200]
    exact k
theorem p109 {h : ma_H} {x y : Int32} (I : Inv h) : Pair h 109 200 [.int x, .int y] := by
  intro Q k
  rcases icasB x 3 (by decide) with ⟨f, l, q, -⟩ | ⟨o1, o2⟩
  · rcases icasB y 5 (by decide) with ⟨kk, l2, q2, -⟩ | ⟨o1, o2⟩
    · exact s109 I.sh I.rr l q l2 q2 (k _ _ (by repeat (first | exact e80_I I | exact e80_S (by assumption) | exact e80_I (by assumption) | exact e80_n I.sh | refine e80_s (by omega) ?_)) fun Q2 k2 => s200 I.sh I.rt I.nf l q l2 q2 (k2 _ I))
    · exact s109n I.sh I.rr (Or.inr ⟨⟨f, l, q⟩, o2⟩) (k _ _ (by repeat (first | exact e80_I I | exact e80_S (by assumption) | exact e80_I (by assumption) | exact e80_n I.sh | refine e80_s (by omega) ?_)) fun Q2 k2 => s200n (Or.inr o1) (k2 _ I))
  · exact s109n I.sh I.rr (Or.inl o2) (k _ _ (by repeat (first | exact e80_I I | exact e80_S (by assumption) | exact e80_I (by assumption) | exact e80_n I.sh | refine e80_s (by omega) ?_)) fun Q2 k2 => s200n (Or.inl o1) (k2 _ I))
/-- an arm of the Model broken as far as n -/
def ml_brk (g : Nat → Int32) (A k : Nat) : Nat → Nat → Int32
  | 0 => g
  | n + 1 => upd (ml_brk g A k n) (A + ar_k k (n + 1)) (-1)
theorem brk_eq {g g2 : Nat → Int32} {A k : Nat} (hk : k < 6) (e : ∀ i, i < 91 → g (ma_cell i) = g2 (A + i)) : ∀ n, n ≤ 5 → ∀ i, i < 91 → fl_brk g k n (ma_cell i) = ml_brk g2 A k n (A + i)
  | 0, _, i, hi => e i hi
  | n + 1, hn, i, hi => by
    obtain ⟨a1, a2, -⟩ := ar_ok k hk (n + 1) (by omega)
    show upd (fl_brk g k n) (fl_arm k (n + 1)) (-1) (ma_cell i) = upd (ml_brk g2 A k n) (A + ar_k k (n + 1)) (-1) (A + i)
    unfold upd
    rw [← a2]
    by_cases z : i = ar_k k (n + 1)
    · subst z
      rw [if_pos rfl, if_pos rfl]
    · rw [if_neg (fun x => z (cell_inj i hi _ a1 x)), if_neg (by omega)]
      exact brk_eq hk e n (by omega) i hi
theorem brk_ok {g : Nat → Int32} {k : Nat} (hk : k < 6) (ok : fl_ok g) : ∀ n, n ≤ 5 → fl_ok (fl_brk g k n)
  | 0, _ => ok
  | n + 1, hn => by
    obtain ⟨a1, a2, -⟩ := ar_ok k hk (n + 1) (by omega)
    show fl_ok (upd (fl_brk g k n) (fl_arm k (n + 1)) (-1))
    rw [← a2]
    exact fl_upd_ok (brk_ok hk ok n (by omega)) a1 (by decide)
theorem ml_brk_b {g : Nat → Int32} {A k j : Nat} (b : g j = -1 ∨ ¬ g j < 0) : ∀ n, ml_brk g A k n j = -1 ∨ ¬ ml_brk g A k n j < 0
  | 0 => b
  | n + 1 => by
    show upd (ml_brk g A k n) _ (-1) j = -1 ∨ ¬ upd (ml_brk g A k n) _ (-1) j < 0
    unfold upd
    split
    · exact Or.inl rfl
    · exact ml_brk_b b n
theorem ml_brk_ne {g : Nat → Int32} {A k j : Nat} (hk : k < 6) (w : ∀ i, i < 91 → j ≠ A + i) : ∀ n, n ≤ 5 → ml_brk g A k n j = g j
  | 0, _ => rfl
  | n + 1, hn => by
    obtain ⟨a1, a2, -⟩ := ar_ok k hk (n + 1) (by omega)
    show upd (ml_brk g A k n) _ (-1) j = _
    unfold upd
    rw [if_neg (w _ a1)]
    exact ml_brk_ne hk w n (by omega)
theorem s115 {h : ma_H} {Q : ma_Q} {x y : Int32} {f kk : Nat} (H : Sh h) (R : Rr h) (N : Nf h) (hf : f < 4) (q : x = nI f) (hk : kk < 6) (q2 : y = nI kk) (k : Q (some (.int (nI (fl_len (ai h (37 + 3 * f)) kk)))) (ma_set h (37 + 3 * f) (.inl (.int, 169, .inl (fl_brk (ai h (37 + 3 * f)) kk (fl_len (ai h (37 + 3 * f)) kk)))))) : ma_X 115 [.ref 0, .int x, .int y] h Q := by
  subst q2
  refine ma_enter (m := 115) (Or.inl (by decide)) (by show 3 ≤ mt_n 115; decide +kernel) ?_
  show At 115 Q 0 (mt_c 115) [some (.ref 0), some (.int x), some (.int (nI kk)), none] [] h
  refine go 60 (by decide) ?_
  simp only [KX, KY, KZ, KW, KV, Nat.reduceAdd, Nat.reduceSub, Nat.reduceLeDiff, true_and, and_true, true_or, or_true, or_self, reduceCtorEq, if_true, if_false, not_false_eq_true, eq_self, c115, H.e0]
  refine s145e H R hf q ?_
  refine go 60 (by decide) ?_
  simp only [KX, KY, KZ, KW, KV, Nat.reduceAdd, Nat.reduceSub, Nat.reduceLeDiff, true_and, and_true, true_or, or_true, or_self, reduceCtorEq, if_true, if_false, not_false_eq_true, eq_self, c115, H.e0, (H.fn hf).1]
  rw [if_neg (nI_pos (by omega)), if_pos (nI_lt hk (by decide))]
  refine s31 (H.fn hf).1 (H.fn hf).2.1 hk (by omega) (fun j hj => by obtain ⟨a1, a2, -⟩ := ar_ok kk hk j hj; rw [← a2]; exact (N.ok hf).1 _ a1) ?_
  refine go 60 (by decide) ?_
  simp only [KX, KY, KZ, KW, KV, Nat.reduceAdd, Nat.reduceSub, Nat.reduceLeDiff, true_and, and_true, true_or, or_true, or_self, reduceCtorEq, if_true, if_false, not_false_eq_true, eq_self, c115]
  exact k
theorem s209 {h : ma_H} {Q : ma_Q} {x y : Int32} {f kk l : Nat} (H : Sh h) (R : Rt h) (hl : l ≤ 5) (hf : f < 4) (q : x = nI f) (hk : kk < 6) (q2 : y = nI kk) (s199 : ∀ Q : ma_Q, Q (some (.int (nI l))) h → ma_X 199 [.ref 80, .int x, .int (nI kk)] h Q) (k : Q (some (.int (nI l))) (ma_set h 88 (.inl (.int, 910, .inl (ml_brk (ai h 88) (91 * f) kk l))))) : ma_X 209 [.ref 80, .int x, .int y] h Q := by
  subst q2
  have e91 := ix91n q
  have hs : ∀ g, Sh (ma_set h 88 (.inl (.int, 910, .inl g))) := fun g => sh_set H rfl
  have e6 : ∀ g, ai (ma_set h 88 (.inl (.int, 910, .inl g))) 86 = ai h 86 := fun g => ai_ne _ _ (by omega)
  have lp : ∀ ni i, i + ni = l → At 209 Q 22 (0, 0) [some (.ref 80), some (.int x), some (.int (nI kk)), some (.int (nI l)), some (.int (nI (ar_k kk i))), some (.int (nI i))] [] (ma_set h 88 (.inl (.int, 910, .inl (ml_brk (ai h 88) (91 * f) kk i)))) := by
    intro ni
    induction ni with
    | zero =>
      intro i e
      obtain rfl : i = l := by omega
      refine go 60 (by decide) ?_
      simp only [KX, KY, KZ, KW, KV, Nat.reduceAdd, Nat.reduceSub, Nat.reduceLeDiff, true_and, and_true, true_or, or_true, or_self, reduceCtorEq, if_true, if_false, not_false_eq_true, eq_self, c209, (hs _).e80, (hs _).e86, (hs _).e88]
      rw [if_neg (nI_nlt (Nat.le_refl _) (by omega))]
      exact k
    | succ ni ih =>
      intro i e
      have hi : i < l := by omega
      have e1i := nI_1 i
      refine go 60 (by decide) ?_
      simp only [KX, KY, KZ, KW, KV, Nat.reduceAdd, Nat.reduceSub, Nat.reduceLeDiff, true_and, and_true, true_or, or_true, or_self, reduceCtorEq, if_true, if_false, not_false_eq_true, eq_self, c209, (hs _).e80, (hs _).e86, (hs _).e88]
      rw [if_pos (nI_lt hi (by omega))]
      obtain ⟨a1, a2, -, a4, -⟩ := ar_ok kk hk i (by omega)
      obtain ⟨b1, b2, -⟩ := ar_ok kk hk (i + 1) (by omega)
      rw [ix6 a1 hk, nI_clamp (show 6 * ar_k kk i + kk < 2 ^ 31 by omega), e6, R.2.1 _ a1 kk hk, a4 (by omega), e91, nI_add, nI_clamp (show 91 * f + ar_k kk (i + 1) < 2 ^ 31 by omega)]
      refine ⟨nI_in (by omega) (by decide), nI_in (by omega) (by decide), ?_⟩
      rw [ma_set_set, e1i, ai_at]
      exact ih (i + 1) (by omega)
  refine ma_enter (m := 209) (Or.inl (by decide)) (by show 3 ≤ mt_n 209; decide +kernel) ?_
  show At 209 Q 0 (mt_c 209) [some (.ref 80), some (.int x), some (.int (nI kk)), none, none, none] [] h
  refine go 60 (by decide) ?_
  simp only [KX, KY, KZ, KW, KV, Nat.reduceAdd, Nat.reduceSub, Nat.reduceLeDiff, true_and, and_true, true_or, or_true, or_self, reduceCtorEq, if_true, if_false, not_false_eq_true, eq_self, c209]
  refine s170y (by subst q; exact nI_pos (by omega)) (by subst q; exact nI_le (a := f) (b := 3) (by omega) (by decide)) ?_
  refine go 60 (by decide) ?_
  simp only [KX, KY, KZ, KW, KV, Nat.reduceAdd, Nat.reduceSub, Nat.reduceLeDiff, true_and, and_true, true_or, or_true, or_self, reduceCtorEq, if_true, if_false, not_false_eq_true, eq_self, c209]
  refine s162y (nI_pos (by omega)) (nI_le (a := kk) (b := 5) (by omega) (by decide)) ?_
  refine go 60 (by decide) ?_
  simp only [KX, KY, KZ, KW, KV, Nat.reduceAdd, Nat.reduceSub, Nat.reduceLeDiff, true_and, and_true, true_or, or_true, or_self, reduceCtorEq, if_true, if_false, not_false_eq_true, eq_self, c209, H.e80]
  refine s199 _ ?_
  refine go 60 (by decide) ?_
  simp only [KX, KY, KZ, KW, KV, Nat.reduceAdd, Nat.reduceSub, Nat.reduceLeDiff, true_and, and_true, true_or, or_true, or_self, reduceCtorEq, if_true, if_false, not_false_eq_true, eq_self, c209, H.e80]
  refine s168v H R (c := 45) (by decide) num0.1 num0.2 ?_
  refine go 60 (by decide) ?_
  simp only [KX, KY, KZ, KW, KV, Nat.reduceAdd, Nat.reduceSub, Nat.reduceLeDiff, true_and, and_true, true_or, or_true, or_self, reduceCtorEq, if_true, if_false, not_false_eq_true, eq_self, c209]
  have l0 := lp l 0 (by omega)
  rw [show (ma_set h 88 (.inl (.int, 910, .inl (ml_brk (ai h 88) (91 * f) kk 0)))) = h from ma_set_id H.e88, (ar_ok kk hk 0 (by decide)).2.2.1] at l0
  exact l0
theorem s115n {h : ma_H} {Q : ma_Q} {x y : Int32} (H : Sh h) (R : Rr h) (o : (x < 0 ∨ ¬ x < 4) ∨ (∃ f, f < 4 ∧ x = nI f) ∧ (y < 0 ∨ ¬ y < 6)) (k : Q (some (.int (-1))) h) : ma_X 115 [.ref 0, .int x, .int y] h Q := by
  rcases o with o | ⟨⟨f, hf, q⟩, o⟩
  · refine ma_enter (m := 115) (Or.inl (by decide)) (by show 3 ≤ mt_n 115; decide +kernel) ?_
    show At 115 Q 0 (mt_c 115) [some (.ref 0), some (.int x), some (.int y), none] [] h
    refine go 60 (by decide) ?_
    simp only [KX, KY, KZ, KW, KV, Nat.reduceAdd, Nat.reduceSub, Nat.reduceLeDiff, true_and, and_true, true_or, or_true, or_self, reduceCtorEq, if_true, if_false, not_false_eq_true, eq_self, c115, H.e0]
    refine s145n H o ?_
    refine go 60 (by decide) ?_
    simp only [KX, KY, KZ, KW, KV, Nat.reduceAdd, Nat.reduceSub, Nat.reduceLeDiff, true_and, and_true, true_or, or_true, or_self, reduceCtorEq, if_true, if_false, not_false_eq_true, eq_self, c115, H.e0]
    exact k
  · refine ma_enter (m := 115) (Or.inl (by decide)) (by show 3 ≤ mt_n 115; decide +kernel) ?_
    show At 115 Q 0 (mt_c 115) [some (.ref 0), some (.int x), some (.int y), none] [] h
    refine go 60 (by decide) ?_
    simp only [KX, KY, KZ, KW, KV, Nat.reduceAdd, Nat.reduceSub, Nat.reduceLeDiff, true_and, and_true, true_or, or_true, or_self, reduceCtorEq, if_true, if_false, not_false_eq_true, eq_self, c115, H.e0]
    refine s145e H R hf q ?_
    refine go 60 (by decide) ?_
    simp only [KX, KY, KZ, KW, KV, Nat.reduceAdd, Nat.reduceSub, Nat.reduceLeDiff, true_and, and_true, true_or, or_true, or_self, reduceCtorEq, if_true, if_false, not_false_eq_true, eq_self, c115, H.e0]
    by_cases z : y < 0
    · rw [if_pos z]; exact k
    · rw [if_neg z, if_neg (show ¬ y < nI 6 from o.resolve_left z)]; exact k
theorem s209n {h : ma_H} {Q : ma_Q} {x y : Int32} (o : (x < 0 ∨ ¬ x ≤ 3) ∨ (y < 0 ∨ ¬ y ≤ 5)) (k : Q (some (.int (-1))) h) : ma_X 209 [.ref 80, .int x, .int y] h Q := by
  refine ma_enter (m := 209) (Or.inl (by decide)) (by show 3 ≤ mt_n 209; decide +kernel) ?_
  show At 209 Q 0 (mt_c 209) [some (.ref 80), some (.int x), some (.int y), none, none, none] [] h
  refine go 60 (by decide) ?_
  simp only [KX, KY, KZ, KW, KV, Nat.reduceAdd, Nat.reduceSub, Nat.reduceLeDiff, true_and, and_true, true_or, or_true, or_self, reduceCtorEq, if_true, if_false, not_false_eq_true, eq_self, c209]
  by_cases e : i_in x 0 3 = 0
  · refine s170 ?_
    rw [e]
    refine go 60 (by decide) ?_
    simp only [KX, KY, KZ, KW, KV, Nat.reduceAdd, Nat.reduceSub, Nat.reduceLeDiff, true_and, and_true, true_or, or_true, or_self, reduceCtorEq, if_true, if_false, not_false_eq_true, eq_self, c209]
    exact k
  · refine s170 ?_
    have e1 : i_in x 0 3 = 1 := (i_in01n x 0 3).resolve_left e
    rw [e1]
    refine go 60 (by decide) ?_
    simp only [KX, KY, KZ, KW, KV, Nat.reduceAdd, Nat.reduceSub, Nat.reduceLeDiff, true_and, and_true, true_or, or_true, or_self, reduceCtorEq, if_true, if_false, not_false_eq_true, eq_self, c209]
    have ow : y < 0 ∨ ¬ y ≤ 5 := o.resolve_left (fun z => e (i_in_no z))
    refine s162n ow ?_
    refine go 60 (by decide) ?_
    simp only [KX, KY, KZ, KW, KV, Nat.reduceAdd, Nat.reduceSub, Nat.reduceLeDiff, true_and, and_true, true_or, or_true, or_self, reduceCtorEq, if_true, if_false, not_false_eq_true, eq_self, c209]
    exact k
theorem p115 {h : ma_H} {x y : Int32} (I : Inv h) : Pair h 115 209 [.int x, .int y] := by
  intro Q k
  rcases icasB x 3 (by decide) with ⟨f, l, q, -⟩ | ⟨o1, o2⟩
  · rcases icasB y 5 (by decide) with ⟨kk, l2, q2, -⟩ | ⟨o1, o2⟩
    · have hl := fl_len_le (ai h (37 + 3 * f)) kk
      have eq := fun i hi => I.nf.eq (f := f) (i := i) l hi
      refine s115 I.sh I.rr I.nf l q l2 q2 (k _ _ (by repeat (first | exact e80_I I | exact e80_S (by assumption) | exact e80_I (by assumption) | exact e80_n I.sh | refine e80_s (by omega) ?_)) fun Q2 k2 => ?_)
      have H1 := sh_set I.sh (nf_s l (fl_brk (ai h (37 + 3 * f)) kk (fl_len (ai h (37 + 3 * f)) kk)))
      have R1 : Rt (ma_set h (37 + 3 * f) (.inl (.int, 169, .inl (fl_brk (ai h (37 + 3 * f)) kk (fl_len (ai h (37 + 3 * f)) kk))))) := I.rt.cong (fun a ha => by simp (disch := omega) only [ma_set_ne])
      have e8 : ai (ma_set h (37 + 3 * f) (.inl (.int, 169, .inl (fl_brk (ai h (37 + 3 * f)) kk (fl_len (ai h (37 + 3 * f)) kk))))) 88 = ai h 88 := ai_ne _ _ (by omega)
      refine s209 H1 R1 hl l q l2 q2 (fun Q3 k3 => s199 H1 R1 (g0 := ai h (37 + 3 * f)) (fun i hi => by rw [e8]; exact eq i hi) l q l2 k3) ?_
      rw [e8]
      refine k2 _ (I.flk l (sh_set H1 rfl) rfl (fun a a1 a2 a3 a4 => ?_) ?_ (fun i hi => ?_) (fun i hi => ?_) (fun j hj w => ?_) ?_ (fun j hj w => ?_)) <;> (try simp (disch := omega) only [ai_ne, ai_at, fi_ne])
      · unfold exf at a4
        rw [ma_set_ne _ _ (by omega), ma_set_ne _ _ (by omega)]
      · exact brk_ok l2 (I.nf.ok l) _ hl
      · exact brk_eq l2 eq _ hl i hi
      · exact ml_brk_b (I.nf.b l hi) _
      · exact ml_brk_ne l2 w _ hl
      · exact I.nf.mf l
    · exact s115n I.sh I.rr (Or.inr ⟨⟨f, l, q⟩, o2⟩) (k _ _ (by repeat (first | exact e80_I I | exact e80_S (by assumption) | exact e80_I (by assumption) | exact e80_n I.sh | refine e80_s (by omega) ?_)) fun Q2 k2 => s209n (Or.inr o1) (k2 _ I))
  · exact s115n I.sh I.rr (Or.inl o2) (k _ _ (by repeat (first | exact e80_I I | exact e80_S (by assumption) | exact e80_I (by assumption) | exact e80_n I.sh | refine e80_s (by omega) ?_)) fun Q2 k2 => s209n (Or.inl o1) (k2 _ I))
