/-! FLAKEARMS: its small methods -/
/-- the rows of references -/
def Rr (h : ma_H) : Prop := (∀ f, f < 4 → ar h 35 f = some (36 + 3 * f)) ∧ (∀ f, f < 4 → ar h 58 f = some (59 + 3 * f)) ∧ (∀ i, i < 6 → ar h 11 i = some (12 + i)) ∧ ∀ s, s < 4 → ar h 18 s = some (19 + s)
theorem rf_some (k : Nat) : va_rf (some k) = .ref k := rfl
theorem rf_none : va_rf none = .null := rfl
/-- an int is a number below n, or none -/
theorem icase (x : Int32) (n : Nat) (hn : n < 2 ^ 31) : (∃ f, f < n ∧ x = nI f) ∨ (x < 0 ∨ ¬ x < nI n) := by
  by_cases a : x < 0
  · exact Or.inr (Or.inl a)
  · by_cases b : x < nI n
    · obtain ⟨j, hj, rfl⟩ := nI_of a
      exact Or.inl ⟨j, (nI_ltI hj hn).mp b, rfl⟩
    · exact Or.inr (Or.inr b)
theorem s145 {h : ma_H} {Q : ma_Q} {f : Nat} (H : Sh h) (R : Rr h) (hf : f < 4) (k : Q (some (.ref (36 + 3 * f))) h) : ma_X 145 [.ref 0, .int (nI f)] h Q := by
  refine ma_enter (m := 145) (Or.inl (by decide)) (by show 2 ≤ mt_n 145; decide +kernel) ?_
  show At 145 Q 0 (mt_c 145) [some (.ref 0), some (.int (nI f))] [] h
  refine go 60 (by decide) ?_
  simp only [KX, KY, KZ, KW, KV, Nat.reduceAdd, Nat.reduceSub, Nat.reduceLeDiff, true_and, and_true, true_or, or_true, or_self, reduceCtorEq, if_true, if_false, not_false_eq_true, eq_self, c145, H.e0, H.e34, H.e35]
  rw [if_neg (nI_pos (by omega)), if_pos (nI_lt hf (by decide)), nI_clamp (by omega), R.1 f hf]
  simp only [rf_some]
  exact ⟨nI_in hf (by decide), k⟩
theorem s145n {h : ma_H} {Q : ma_Q} {x : Int32} (H : Sh h) (hx : x < 0 ∨ ¬ x < nI 4) (k : Q (some .null) h) : ma_X 145 [.ref 0, .int x] h Q := by
  refine ma_enter (m := 145) (Or.inl (by decide)) (by show 2 ≤ mt_n 145; decide +kernel) ?_
  show At 145 Q 0 (mt_c 145) [some (.ref 0), some (.int x)] [] h
  refine go 60 (by decide) ?_
  simp only [KX, KY, KZ, KW, KV, Nat.reduceAdd, Nat.reduceSub, Nat.reduceLeDiff, true_and, and_true, true_or, or_true, or_self, reduceCtorEq, if_true, if_false, not_false_eq_true, eq_self, c145, H.e0, H.e34, H.e35]
  by_cases a : x < 0
  · rw [if_pos a]; exact k
  · rw [if_neg a, if_neg (hx.resolve_left a)]; exact k
theorem s148 {h : ma_H} {Q : ma_Q} {x : Int32} (k : Q (some (.int (if x < 0 then 0 else if x < 4 then 1 else 0))) h) : ma_X 148 [.int x] h Q := by
  refine ma_enter (m := 148) (Or.inl (by decide)) (by show 1 ≤ mt_n 148; decide +kernel) ?_
  show At 148 Q 0 (mt_c 148) [some (.int x)] [] h
  refine go 60 (by decide) ?_
  simp only [KX, KY, KZ, KW, KV, Nat.reduceAdd, Nat.reduceSub, Nat.reduceLeDiff, true_and, and_true, true_or, or_true, or_self, reduceCtorEq, if_true, if_false, not_false_eq_true, eq_self, c148]
  repeat' split
  all_goals simpa [*] using k
theorem s149 {h : ma_H} {Q : ma_Q} {x : Int32} (k : Q (some (.int (if x < 0 then 0 else if x < 4 then 1 else 0))) h) : ma_X 149 [.int x] h Q := by
  refine ma_enter (m := 149) (Or.inl (by decide)) (by show 1 ≤ mt_n 149; decide +kernel) ?_
  show At 149 Q 0 (mt_c 149) [some (.int x)] [] h
  refine go 60 (by decide) ?_
  simp only [KX, KY, KZ, KW, KV, Nat.reduceAdd, Nat.reduceSub, Nat.reduceLeDiff, true_and, and_true, true_or, or_true, or_self, reduceCtorEq, if_true, if_false, not_false_eq_true, eq_self, c149]
  repeat' split
  all_goals simpa [*] using k
theorem s146 {h : ma_H} {Q : ma_Q} {x : Int32} (k : Q (some (.int (i_in x 0 5))) h) : ma_X 146 [.int x] h Q := by
  unfold i_in at k
  refine ma_enter (m := 146) (Or.inl (by decide)) (by show 1 ≤ mt_n 146; decide +kernel) ?_
  show At 146 Q 0 (mt_c 146) [some (.int x)] [] h
  refine go 60 (by decide) ?_
  simp only [KX, KY, KZ, KW, KV, Nat.reduceAdd, Nat.reduceSub, Nat.reduceLeDiff, true_and, and_true, true_or, or_true, or_self, reduceCtorEq, if_true, if_false, not_false_eq_true, eq_self, c146]
  repeat' split
  all_goals simpa [*] using k
theorem s147 {h : ma_H} {Q : ma_Q} {x y : Int32} (k : Q (some (.int (if x < 0 then 0 else if x ≤ 9 then if y < 0 then 0 else if y ≤ 9 then 1 else 0 else 0))) h) : ma_X 147 [.int x, .int y] h Q := by
  refine ma_enter (m := 147) (Or.inl (by decide)) (by show 2 ≤ mt_n 147; decide +kernel) ?_
  show At 147 Q 0 (mt_c 147) [some (.int x), some (.int y)] [] h
  refine go 60 (by decide) ?_
  simp only [KX, KY, KZ, KW, KV, Nat.reduceAdd, Nat.reduceSub, Nat.reduceLeDiff, true_and, and_true, true_or, or_true, or_self, reduceCtorEq, if_true, if_false, not_false_eq_true, eq_self, c147]
  repeat' split
  all_goals simpa [*] using k
theorem s150 {h : ma_H} {Q : ma_Q} {x y : Int32} (H : Sh h) (k : Q (some (.int (if x < 0 then 0 else if x < fi h 0 8 then if y < 0 then 0 else if y ≤ 1 then 1 else 0 else 0))) h) : ma_X 150 [.ref 0, .int x, .int y] h Q := by
  refine ma_enter (m := 150) (Or.inl (by decide)) (by show 3 ≤ mt_n 150; decide +kernel) ?_
  show At 150 Q 0 (mt_c 150) [some (.ref 0), some (.int x), some (.int y)] [] h
  refine go 60 (by decide) ?_
  simp only [KX, KY, KZ, KW, KV, Nat.reduceAdd, Nat.reduceSub, Nat.reduceLeDiff, true_and, and_true, true_or, or_true, or_self, reduceCtorEq, if_true, if_false, not_false_eq_true, eq_self, c150, H.e0]
  repeat' split
  all_goals simpa [*] using k
