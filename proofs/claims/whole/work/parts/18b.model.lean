/-! THE MODEL: cells, ice -/
theorem kf (fs : List Value) (k : Nat) (f : Value → Prop) : xf fs k f = yf fs[k]? f := rfl
theorem kfy (v : Value) (f : Value → Prop) : yf (some v) f = f v := rfl
def i_cell (q r : Int32) : Int32 := if i_in q (-5) 5 = 0 then 0 else if i_in r (-5) 5 = 0 then 0 else if i_in (q + r) (-5) 5 = 0 then 0 else 1
def i_qs (k : Int32) : Int32 := if k = 0 then 1 else if k = 5 then 1 else if k = 2 then -1 else if k = 3 then -1 else 0
def i_rs (k : Int32) : Int32 := if k = 1 then 1 else if k = 2 then 1 else if k = 4 then -1 else if k = 5 then -1 else 0
def i_mring (q r : Int32) : Int32 := if (if i_uns q ≤ i_uns r then i_uns r else i_uns q) ≤ i_uns (q + r) then i_uns (q + r) else (if i_uns q ≤ i_uns r then i_uns r else i_uns q)
theorem s165 {h : ma_H} {Q : ma_Q} {q r : Int32} (k : Q (some (.int (i_cell q r))) h) : ma_X 165 [.int q, .int r] h Q := by
  unfold i_cell at k
  refine ma_enter (m := 165) (Or.inl (by decide)) (by show 2 ≤ mt_n 165; decide +kernel) ?_
  show At 165 Q 0 (0, 0) [some (.int q), some (.int r)] [] h
  refine go 60 (by decide) ?_
  simp only [KX, KY, KZ, KW, KV, Nat.reduceAdd, Nat.reduceSub, Nat.reduceLeDiff, true_and, and_true, true_or, or_true, or_self, reduceCtorEq, if_true, if_false, not_false_eq_true, eq_self, c165]
  refine s162 ?_
  refine go 60 (by decide) ?_
  simp only [KX, KY, KZ, KW, KV, Nat.reduceAdd, Nat.reduceSub, Nat.reduceLeDiff, true_and, and_true, true_or, or_true, or_self, reduceCtorEq, if_true, if_false, not_false_eq_true, eq_self, c165]
  by_cases e1 : i_in q (-5) 5 = 0
  · rw [if_pos e1] at k ⊢
    exact k
  rw [if_neg e1] at k ⊢
  refine s162 ?_
  refine go 60 (by decide) ?_
  simp only [KX, KY, KZ, KW, KV, Nat.reduceAdd, Nat.reduceSub, Nat.reduceLeDiff, true_and, and_true, true_or, or_true, or_self, reduceCtorEq, if_true, if_false, not_false_eq_true, eq_self, c165]
  by_cases e2 : i_in r (-5) 5 = 0
  · rw [if_pos e2] at k ⊢
    exact k
  rw [if_neg e2] at k ⊢
  refine s162 ?_
  refine go 60 (by decide) ?_
  simp only [KX, KY, KZ, KW, KV, Nat.reduceAdd, Nat.reduceSub, Nat.reduceLeDiff, true_and, and_true, true_or, or_true, or_self, reduceCtorEq, if_true, if_false, not_false_eq_true, eq_self, c165]
  by_cases e3 : i_in (q + r) (-5) 5 = 0
  · rw [if_pos e3] at k ⊢
    exact k
  rw [if_neg e3] at k ⊢
  exact k
theorem s166 {h : ma_H} {Q : ma_Q} {v : Int32} (k : Q (some (.int (i_qs v))) h) : ma_X 166 [.int v] h Q := by
  unfold i_qs at k
  refine ma_enter (m := 166) (Or.inl (by decide)) (by show 1 ≤ mt_n 166; decide +kernel) ?_
  show At 166 Q 0 (0, 0) [some (.int v)] [] h
  refine go 60 (by decide) ?_
  simp only [KX, KY, KZ, KW, KV, Nat.reduceAdd, Nat.reduceSub, Nat.reduceLeDiff, true_and, and_true, true_or, or_true, or_self, reduceCtorEq, if_true, if_false, not_false_eq_true, eq_self, c166]
  repeat' split
  all_goals simpa [*] using k
theorem s167 {h : ma_H} {Q : ma_Q} {v : Int32} (k : Q (some (.int (i_rs v))) h) : ma_X 167 [.int v] h Q := by
  unfold i_rs at k
  refine ma_enter (m := 167) (Or.inl (by decide)) (by show 1 ≤ mt_n 167; decide +kernel) ?_
  show At 167 Q 0 (0, 0) [some (.int v)] [] h
  refine go 60 (by decide) ?_
  simp only [KX, KY, KZ, KW, KV, Nat.reduceAdd, Nat.reduceSub, Nat.reduceLeDiff, true_and, and_true, true_or, or_true, or_self, reduceCtorEq, if_true, if_false, not_false_eq_true, eq_self, c167]
  repeat' split
  all_goals simpa [*] using k
theorem s172 {h : ma_H} {Q : ma_Q} {mo ic A : Nat} {F : List Value} {g : Nat → Int32} (hM : h.2.1 mo = .inr (12, F)) (hI : F[7]? = some (.ref ic)) (hC : h.2.1 ic = .inl (.int, 910, .inl g)) {c : Nat} (hc : A + c < 910) (k : Q (some (.int (fl_has g (A + c)))) h) : ma_X 172 [.ref mo, .int (nI A), .int (nI c)] h Q := by
  refine ma_enter (m := 172) (Or.inl (by decide)) (by show 3 ≤ mt_n 172; decide +kernel) ?_
  show At 172 Q 0 (0, 0) [some (.ref mo), some (.int (nI A)), some (.int (nI c))] [] h
  refine go 60 (by decide) ?_
  simp only [KX, KY, KZ, KW, KV, Nat.reduceAdd, Nat.reduceSub, Nat.reduceLeDiff, true_and, and_true, true_or, or_true, or_self, reduceCtorEq, if_true, if_false, not_false_eq_true, eq_self, c172, hM, hI, hC, kf, kfy]
  rw [nI_add, nI_clamp (show A + c < 2 ^ 31 by omega)]
  refine ⟨nI_in hc (by decide), ?_⟩
  unfold fl_has at k
  repeat' split
  all_goals simpa [*] using k
def ml_ice (g : Nat → Int32) (A i : Nat) : Int32 := fl_has g (A + i)
theorem s173 {h : ma_H} {Q : ma_Q} {mo ic A : Nat} {F : List Value} {g : Nat → Int32} (hM : h.2.1 mo = .inr (12, F)) (hI : F[7]? = some (.ref ic)) (hC : h.2.1 ic = .inl (.int, 910, .inl g)) (hA : A + 91 ≤ 910) (k : Q (some (.int (su (ml_ice g A) 91))) h) : ma_X 173 [.ref mo, .int (nI A)] h Q := by
  refine ma_enter (m := 173) (Or.inl (by decide)) (by show 2 ≤ mt_n 173; decide +kernel) ?_
  show At 173 Q 0 (0, 0) [some (.ref mo), some (.int (nI A)), none, none] [] h
  have lp : ∀ n i, i + n = 91 → At 173 Q 4 (0, 0) [some (.ref mo), some (.int (nI A)), some (.int (su (ml_ice g A) i)), some (.int (nI i))] [] h := by
    intro n
    induction n with
    | zero =>
      intro i e
      obtain rfl : i = 91 := by omega
      refine go 60 (by decide) ?_
      simp only [KX, KY, KZ, KW, KV, Nat.reduceAdd, Nat.reduceSub, Nat.reduceLeDiff, true_and, and_true, true_or, or_true, or_self, reduceCtorEq, if_true, if_false, not_false_eq_true, eq_self, c173, hM, hI, hC, kf, kfy]
      rw [show (91 : Int32) = nI 91 from rfl, if_neg (nI_nlt (Nat.le_refl _) (by decide))]
      exact k
    | succ n ih =>
      intro i e
      have hi : i < 91 := by omega
      have e1 := nI_1 i
      refine go 60 (by decide) ?_
      simp only [KX, KY, KZ, KW, KV, Nat.reduceAdd, Nat.reduceSub, Nat.reduceLeDiff, true_and, and_true, true_or, or_true, or_self, reduceCtorEq, if_true, if_false, not_false_eq_true, eq_self, c173, hM, hI, hC, kf, kfy]
      rw [show (91 : Int32) = nI 91 from rfl, if_pos (nI_lt hi (by decide))]
      refine s172 hM hI hC (show A + i < 910 by omega) ?_
      have e2 : su (ml_ice g A) (i + 1) = su (ml_ice g A) i + fl_has g (A + i) := rfl
      rcases fl_01 g (A + i) with e3 | e3
      · rw [e3] at e2 ⊢
        refine go 60 (by decide) ?_
        simp only [KX, KY, KZ, KW, KV, Nat.reduceAdd, Nat.reduceSub, Nat.reduceLeDiff, true_and, and_true, true_or, or_true, or_self, reduceCtorEq, if_true, if_false, not_false_eq_true, eq_self, c173, hM, hI, hC, kf, kfy]
        refine go 60 (by decide) ?_
        simp only [KX, KY, KZ, KW, KV, Nat.reduceAdd, Nat.reduceSub, Nat.reduceLeDiff, true_and, and_true, true_or, or_true, or_self, reduceCtorEq, if_true, if_false, not_false_eq_true, eq_self, c173, hM, hI, hC, kf, kfy]
        rw [e1, ← e2]
        exact At_le (ih (i + 1) (by omega)) ⟨rfl, rfl, rfl, rfl, trivial⟩
      · rw [e3] at e2 ⊢
        refine go 60 (by decide) ?_
        simp only [KX, KY, KZ, KW, KV, Nat.reduceAdd, Nat.reduceSub, Nat.reduceLeDiff, true_and, and_true, true_or, or_true, or_self, reduceCtorEq, if_true, if_false, not_false_eq_true, eq_self, c173, hM, hI, hC, kf, kfy]
        refine go 60 (by decide) ?_
        simp only [KX, KY, KZ, KW, KV, Nat.reduceAdd, Nat.reduceSub, Nat.reduceLeDiff, true_and, and_true, true_or, or_true, or_self, reduceCtorEq, if_true, if_false, not_false_eq_true, eq_self, c173, hM, hI, hC, kf, kfy]
        rw [e1, ← e2]
        exact At_le (ih (i + 1) (by omega)) ⟨rfl, rfl, rfl, rfl, trivial⟩
  refine go 60 (by decide) ?_
  simp only [KX, KY, KZ, KW, KV, Nat.reduceAdd, Nat.reduceSub, Nat.reduceLeDiff, true_and, and_true, true_or, or_true, or_self, reduceCtorEq, if_true, if_false, not_false_eq_true, eq_self, c173, hM, hI, hC, kf, kfy]
  exact lp 91 0 rfl
