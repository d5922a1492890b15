/-! law: the Model takes tokens -/
/-- the Model while it reads: sort, begins, ends, word, value, good, how many signs, how many pending, how many open; the signs, the pending ones -/
def MS (hm : ma_H) (s be en : Int32) (w : Int64) (v g m p o : Int32) (fr pe : Nat → Int32) : ma_H := ma_set (ma_set (ma_set hm 96 (.inl (.int, 200, .inl fr))) 97 (.inl (.int, 200, .inl pe))) 80 (.inr (12, [.ref 81, .ref 82, .ref 83, .ref 84, .ref 85, .ref 86, .ref 87, .ref 88, .ref 89, .int (fi hm 80 9), .ref 90, .int (fi hm 80 11), .int (fi hm 80 12), .ref 91, .int (fi hm 80 14), .ref 92, .ref 93, .ref 94, .int (fi hm 80 18), .int s, .int be, .int en, .long w, .int v, .int g, .ref 95, .ref 96, .ref 97, .int m, .int p, .int o, .ref 98, .ref 99, .ref 100, .ref 101, .long (fj hm 80 35), .long (fj hm 80 36), .ref 102, .ref 103, .ref 104, .ref 105, .int (fi hm 80 41), .int (fi hm 80 42), .ref 106, .ref 107, .ref 108, .ref 109, .ref 110, .ref 111, .int (fi hm 80 49), .int (fi hm 80 50), .int (fi hm 80 51), .ref 112, .int (fi hm 80 53), .int (fi hm 80 54), .int (fi hm 80 55), .ref 113, .int (fi hm 80 57), .ref 114]))
theorem ms80 {hm : ma_H} {s be en : Int32} {w : Int64} {v g m p o : Int32} {fr pe : Nat → Int32} : (MS hm s be en w v g m p o fr pe).2.1 80 = .inr (12, [.ref 81, .ref 82, .ref 83, .ref 84, .ref 85, .ref 86, .ref 87, .ref 88, .ref 89, .int (fi hm 80 9), .ref 90, .int (fi hm 80 11), .int (fi hm 80 12), .ref 91, .int (fi hm 80 14), .ref 92, .ref 93, .ref 94, .int (fi hm 80 18), .int s, .int be, .int en, .long w, .int v, .int g, .ref 95, .ref 96, .ref 97, .int m, .int p, .int o, .ref 98, .ref 99, .ref 100, .ref 101, .long (fj hm 80 35), .long (fj hm 80 36), .ref 102, .ref 103, .ref 104, .ref 105, .int (fi hm 80 41), .int (fi hm 80 42), .ref 106, .ref 107, .ref 108, .ref 109, .ref 110, .ref 111, .int (fi hm 80 49), .int (fi hm 80 50), .int (fi hm 80 51), .ref 112, .int (fi hm 80 53), .int (fi hm 80 54), .int (fi hm 80 55), .ref 113, .int (fi hm 80 57), .ref 114]) := ma_set_at _ _ _
theorem ms96 {hm : ma_H} {s be en : Int32} {w : Int64} {v g m p o : Int32} {fr pe : Nat → Int32} : (MS hm s be en w v g m p o fr pe).2.1 96 = .inl (.int, 200, .inl fr) := (ma_set_ne _ _ (by decide)).trans ((ma_set_ne _ _ (by decide)).trans (ma_set_at _ _ _))
theorem ms97 {hm : ma_H} {s be en : Int32} {w : Int64} {v g m p o : Int32} {fr pe : Nat → Int32} : (MS hm s be en w v g m p o fr pe).2.1 97 = .inl (.int, 200, .inl pe) := (ma_set_ne _ _ (by decide)).trans (ma_set_at _ _ _)
theorem ms_ne {hm : ma_H} {s be en : Int32} {w : Int64} {v g m p o : Int32} {fr pe : Nat → Int32} {a : Nat} (h0 : a ≠ 80) (h1 : a ≠ 96) (h2 : a ≠ 97) : (MS hm s be en w v g m p o fr pe).2.1 a = hm.2.1 a := (ma_set_ne _ _ h0).trans ((ma_set_ne _ _ h2).trans (ma_set_ne _ _ h1))
theorem ms94 {hm : ma_H} {s be en : Int32} {w : Int64} {v g m p o : Int32} {fr pe : Nat → Int32} (H : Sh hm) : (MS hm s be en w v g m p o fr pe).2.1 94 = .inl (.int, 200, .inl (ai hm 94)) := (ms_ne (by decide) (by decide) (by decide)).trans H.e94
theorem ms92 {hm : ma_H} {s be en : Int32} {w : Int64} {v g m p o : Int32} {fr pe : Nat → Int32} (H : Sh hm) : (MS hm s be en w v g m p o fr pe).2.1 99 = .inl (.int, 24, .inl (ai hm 99)) := (ms_ne (by decide) (by decide) (by decide)).trans H.e99
theorem msw {hm : ma_H} {s be en : Int32} {w : Int64} {v g m p o : Int32} {fr pe : Nat → Int32} {s2 be2 en2 : Int32} {w2 : Int64} {v2 g2 m2 p2 o2 : Int32} : ma_set (MS hm s be en w v g m p o fr pe) 80 (.inr (12, [.ref 81, .ref 82, .ref 83, .ref 84, .ref 85, .ref 86, .ref 87, .ref 88, .ref 89, .int (fi hm 80 9), .ref 90, .int (fi hm 80 11), .int (fi hm 80 12), .ref 91, .int (fi hm 80 14), .ref 92, .ref 93, .ref 94, .int (fi hm 80 18), .int s2, .int be2, .int en2, .long w2, .int v2, .int g2, .ref 95, .ref 96, .ref 97, .int m2, .int p2, .int o2, .ref 98, .ref 99, .ref 100, .ref 101, .long (fj hm 80 35), .long (fj hm 80 36), .ref 102, .ref 103, .ref 104, .ref 105, .int (fi hm 80 41), .int (fi hm 80 42), .ref 106, .ref 107, .ref 108, .ref 109, .ref 110, .ref 111, .int (fi hm 80 49), .int (fi hm 80 50), .int (fi hm 80 51), .ref 112, .int (fi hm 80 53), .int (fi hm 80 54), .int (fi hm 80 55), .ref 113, .int (fi hm 80 57), .ref 114])) = MS hm s2 be2 en2 w2 v2 g2 m2 p2 o2 fr pe := by
  unfold MS
  rw [ma_set_set]
theorem msf {hm : ma_H} {s be en : Int32} {w : Int64} {v g m p o : Int32} {fr pe : Nat → Int32} {f : Nat → Int32} : ma_set (MS hm s be en w v g m p o fr pe) 96 (.inl (.int, 200, .inl f)) = MS hm s be en w v g m p o f pe := by
  unfold MS
  rw [ma_set_swap _ (show 80 ≠ 96 by decide), ma_set_swap _ (show 97 ≠ 96 by decide), ma_set_set]
theorem msp {hm : ma_H} {s be en : Int32} {w : Int64} {v g m p o : Int32} {fr pe : Nat → Int32} {f : Nat → Int32} : ma_set (MS hm s be en w v g m p o fr pe) 97 (.inl (.int, 200, .inl f)) = MS hm s be en w v g m p o fr f := by
  unfold MS
  rw [ma_set_swap _ (show 80 ≠ 97 by decide), ma_set_set]
theorem ms_sh {hm : ma_H} {s be en : Int32} {w : Int64} {v g m p o : Int32} {fr pe : Nat → Int32} (H : Sh hm) : Sh (MS hm s be en w v g m p o fr pe) := sh_set (sh_set (sh_set H rfl) rfl) rfl
theorem ms_id {hm : ma_H} (H : Sh hm) : MS hm (fi hm 80 19) (fi hm 80 20) (fi hm 80 21) (fj hm 80 22) (fi hm 80 23) (fi hm 80 24) (fi hm 80 28) (fi hm 80 29) (fi hm 80 30) (ai hm 96) (ai hm 97) = hm := by
  unfold MS
  rw [ma_set_id H.e96, ma_set_id H.e97, ma_set_id H.e80]
/-- the TEXT that the Model reads -/
def MX (hm : ma_H) (b : Nat → Nat) (n : Nat) : Prop := Sh hm ∧ fi hm 80 18 = nI n ∧ n ≤ 200 ∧ (∀ i, i < n → ai hm 94 i = nI (b i)) ∧ ∀ i, b i < 256
def byv (b : Nat → Nat) (n i : Nat) : Int32 := if i < n then nI (b i) else -1
def isI (g : Nat → Bool) (b : Nat → Nat) (n i : Nat) : Int32 := if i < n ∧ g (b i) = true then 1 else 0
theorem s175 {hm : ma_H} {s be en : Int32} {w : Int64} {v g m p o : Int32} {fr pe : Nat → Int32} {Q : ma_Q} {b : Nat → Nat} {n : Nat} (X : MX hm b n) {i : Nat} (hi : i < 2 ^ 31) (k : Q (some (.int (byv b n i))) (MS hm s be en w v g m p o fr pe)) : ma_X 175 [.ref 80, .int (nI i)] (MS hm s be en w v g m p o fr pe) Q := by
  obtain ⟨H, e18, n2, ex, eb⟩ := id X
  refine ma_enter (m := 175) (Or.inl (by decide)) (by show 2 ≤ mt_n 175; decide +kernel) ?_
  show At 175 Q 0 (mt_c 175) [some (.ref 80), some (.int (nI i))] [] (MS hm s be en w v g m p o fr pe)
  refine go 60 (by decide) ?_
  simp only [KX, KY, KZ, KW, KV, Nat.reduceAdd, Nat.reduceSub, Nat.reduceLeDiff, true_and, and_true, true_or, or_true, or_self, reduceCtorEq, if_true, if_false, not_false_eq_true, eq_self, c175, e18, ms80, ms96, ms97, msw, msf, msp, ms94 X.1, List.set_cons_succ, List.set_cons_zero]
  unfold byv at k
  by_cases z : i < n
  · rw [if_pos z] at k
    rw [if_pos (nI_lt z (by omega)), nI_clamp (by omega), ex i z]
    exact ⟨nI_in (show i < 200 by omega) (by decide), k⟩
  · rw [if_neg z] at k
    rw [if_neg (nI_nlt (by omega) (by omega))]
    exact k
theorem s176 {h : ma_H} {Q : ma_Q} {b : Nat → Nat} {n i : Nat} (eb : ∀ i, b i < 256) (k : Q (some (.int (isI isL b n i))) h) : ma_X 176 [.int (byv b n i)] h Q := by
  refine ma_enter (m := 176) (Or.inl (by decide)) (by show 1 ≤ mt_n 176; decide +kernel) ?_
  show At 176 Q 0 (mt_c 176) [some (.int (byv b n i))] [] h
  refine go 60 (by decide) ?_
  simp only [KX, KY, KZ, KW, KV, Nat.reduceAdd, Nat.reduceSub, Nat.reduceLeDiff, true_and, and_true, true_or, or_true, or_self, reduceCtorEq, if_true, if_false, not_false_eq_true, eq_self, c176]
  unfold byv isI at *
  have bi := eb i
  by_cases z : i < n
  · rw [if_pos z]
    by_cases y : isL (b i) = true
    · rw [if_pos ⟨z, y⟩] at k
      have r : 97 ≤ b i ∧ b i ≤ 122 := isL_ok y
      refine s162y (show ¬ nI (b i) < nI 97 from nI_nlt (by omega) (by omega)) (show nI (b i) ≤ nI 122 from nI_le (by omega) (by decide)) ?_
      try (refine go 60 (by decide) ?_; simp only [KX, KY, KZ, KW, KV, Nat.reduceAdd, Nat.reduceSub, Nat.reduceLeDiff, true_and, and_true, true_or, or_true, or_self, reduceCtorEq, if_true, if_false, not_false_eq_true, eq_self, c176])
      exact k
    · rw [if_neg (fun w => y w.2)] at k
      have r : b i < 97 ∨ ¬ b i ≤ 122 := by
        unfold isL at y
        rcases Nat.lt_or_ge (b i) 97 with u | u
        · exact Or.inl u
        · rcases Nat.lt_or_ge 122 (b i) with u2 | u2
          · exact Or.inr (by omega)
          · exact absurd (by rw [decide_eq_true u, decide_eq_true u2]; rfl) y
      refine s162n (r.elim (fun r => Or.inl (show nI (b i) < nI 97 from nI_lt r (by decide))) (fun r => Or.inr (show ¬ nI (b i) ≤ nI 122 from Int32.not_le.mpr (nI_lt (by omega) (by omega))))) ?_
      try (refine go 60 (by decide) ?_; simp only [KX, KY, KZ, KW, KV, Nat.reduceAdd, Nat.reduceSub, Nat.reduceLeDiff, true_and, and_true, true_or, or_true, or_self, reduceCtorEq, if_true, if_false, not_false_eq_true, eq_self, c176])
      exact k
  · rw [if_neg z]
    rw [if_neg (fun w => z w.1)] at k
    refine s162n (Or.inl (by decide)) ?_
    try (refine go 60 (by decide) ?_; simp only [KX, KY, KZ, KW, KV, Nat.reduceAdd, Nat.reduceSub, Nat.reduceLeDiff, true_and, and_true, true_or, or_true, or_self, reduceCtorEq, if_true, if_false, not_false_eq_true, eq_self, c176])
    exact k
theorem s177 {h : ma_H} {Q : ma_Q} {b : Nat → Nat} {n i : Nat} (eb : ∀ i, b i < 256) (k : Q (some (.int (isI isD b n i))) h) : ma_X 177 [.int (byv b n i)] h Q := by
  refine ma_enter (m := 177) (Or.inl (by decide)) (by show 1 ≤ mt_n 177; decide +kernel) ?_
  show At 177 Q 0 (mt_c 177) [some (.int (byv b n i))] [] h
  refine go 60 (by decide) ?_
  simp only [KX, KY, KZ, KW, KV, Nat.reduceAdd, Nat.reduceSub, Nat.reduceLeDiff, true_and, and_true, true_or, or_true, or_self, reduceCtorEq, if_true, if_false, not_false_eq_true, eq_self, c177]
  unfold byv isI at *
  have bi := eb i
  by_cases z : i < n
  · rw [if_pos z]
    by_cases y : isD (b i) = true
    · rw [if_pos ⟨z, y⟩] at k
      have r : 48 ≤ b i ∧ b i ≤ 57 := isD_ok y
      refine s162y (show ¬ nI (b i) < nI 48 from nI_nlt (by omega) (by omega)) (show nI (b i) ≤ nI 57 from nI_le (by omega) (by decide)) ?_
      try (refine go 60 (by decide) ?_; simp only [KX, KY, KZ, KW, KV, Nat.reduceAdd, Nat.reduceSub, Nat.reduceLeDiff, true_and, and_true, true_or, or_true, or_self, reduceCtorEq, if_true, if_false, not_false_eq_true, eq_self, c177])
      exact k
    · rw [if_neg (fun w => y w.2)] at k
      have r : b i < 48 ∨ ¬ b i ≤ 57 := by
        unfold isD at y
        rcases Nat.lt_or_ge (b i) 48 with u | u
        · exact Or.inl u
        · rcases Nat.lt_or_ge 57 (b i) with u2 | u2
          · exact Or.inr (by omega)
          · exact absurd (by rw [decide_eq_true u, decide_eq_true u2]; rfl) y
      refine s162n (r.elim (fun r => Or.inl (show nI (b i) < nI 48 from nI_lt r (by decide))) (fun r => Or.inr (show ¬ nI (b i) ≤ nI 57 from Int32.not_le.mpr (nI_lt (by omega) (by omega))))) ?_
      try (refine go 60 (by decide) ?_; simp only [KX, KY, KZ, KW, KV, Nat.reduceAdd, Nat.reduceSub, Nat.reduceLeDiff, true_and, and_true, true_or, or_true, or_self, reduceCtorEq, if_true, if_false, not_false_eq_true, eq_self, c177])
      exact k
  · rw [if_neg z]
    rw [if_neg (fun w => z w.1)] at k
    refine s162n (Or.inl (by decide)) ?_
    try (refine go 60 (by decide) ?_; simp only [KX, KY, KZ, KW, KV, Nat.reduceAdd, Nat.reduceSub, Nat.reduceLeDiff, true_and, and_true, true_or, or_true, or_self, reduceCtorEq, if_true, if_false, not_false_eq_true, eq_self, c177])
    exact k
