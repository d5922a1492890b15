/-! calls: apart -/
def mn2 (y x : Int32) : Int32 := if y < x then y else x
/-- the least of two FLAKES' differences, by n turns -/
def ap_n (g g2 : Nat → Int32) : Nat → Int32
  | 0 => 91
  | n + 1 => mn2 (su (fl_un g g2 n 1) 91) (mn2 (su (fl_un g g2 n 0) 91) (ap_n g g2 n))
theorem s112 {h : ma_H} {Q : ma_Q} {x y : Int32} {f f2 : Nat} (H : Sh h) (R : Rr h) (hf : f < 4) (hf2 : f2 < 4) (q : x = nI f) (q2 : y = nI f2) (k : Q (some (.int (ap_n (ai h (37 + 3 * f)) (ai h (37 + 3 * f2)) 6))) h) : ma_X 112 [.ref 0, .int x, .int y] h Q := by
  have lp : ∀ ni i, i + ni = 6 → At 112 Q 19 (0, 0) [some (.ref 0), some (.int x), some (.int y), some (.ref (36 + 3 * f)), some (.ref (36 + 3 * f2)), some (.int (ap_n (ai h (37 + 3 * f)) (ai h (37 + 3 * f2)) i)), some (.int (nI i))] [] h := by
    intro ni
    induction ni with
    | zero =>
      intro i e
      obtain rfl : i = 6 := by omega
      refine go 60 (by decide) ?_
      simp only [KX, KY, KZ, KW, KV, Nat.reduceAdd, Nat.reduceSub, Nat.reduceLeDiff, true_and, and_true, true_or, or_true, or_self, reduceCtorEq, if_true, if_false, not_false_eq_true, eq_self, c112, H.e0, (H.fn hf).1]
      rw [if_neg (show ¬ nI 6 < (6 : Int32) from nI_nlt (Nat.le_refl _) (by decide))]
      exact k
    | succ ni ih =>
      intro i e
      have hi : i < 6 := by omega
      have e1i := nI_1 i
      refine go 60 (by decide) ?_
      simp only [KX, KY, KZ, KW, KV, Nat.reduceAdd, Nat.reduceSub, Nat.reduceLeDiff, true_and, and_true, true_or, or_true, or_self, reduceCtorEq, if_true, if_false, not_false_eq_true, eq_self, c112, H.e0, (H.fn hf).1]
      rw [if_pos (show nI i < (6 : Int32) from nI_lt hi (by decide))]
      refine s33n H hf hf2 rfl hi ?_
      refine go 60 (by decide) ?_
      simp only [KX, KY, KZ, KW, KV, Nat.reduceAdd, Nat.reduceSub, Nat.reduceLeDiff, true_and, and_true, true_or, or_true, or_self, reduceCtorEq, if_true, if_false, not_false_eq_true, eq_self, c112, H.e0, (H.fn hf).1]
      refine s33n H hf hf2 rfl hi ?_
      refine go 60 (by decide) ?_
      simp only [KX, KY, KZ, KW, KV, Nat.reduceAdd, Nat.reduceSub, Nat.reduceLeDiff, true_and, and_true, true_or, or_true, or_self, reduceCtorEq, if_true, if_false, not_false_eq_true, eq_self, c112, H.e0, (H.fn hf).1]
      rw [e1i]
      exact ih (i + 1) (by omega)
  refine ma_enter (m := 112) (Or.inl (by decide)) (by show 3 ≤ mt_n 112; decide +kernel) ?_
  show At 112 Q 0 (mt_c 112) [some (.ref 0), some (.int x), some (.int y), none, none, none, none] [] h
  refine go 60 (by decide) ?_
  simp only [KX, KY, KZ, KW, KV, Nat.reduceAdd, Nat.reduceSub, Nat.reduceLeDiff, true_and, and_true, true_or, or_true, or_self, reduceCtorEq, if_true, if_false, not_false_eq_true, eq_self, c112, H.e0, (H.fn hf).1]
  refine s145e H R hf q ?_
  refine go 60 (by decide) ?_
  simp only [KX, KY, KZ, KW, KV, Nat.reduceAdd, Nat.reduceSub, Nat.reduceLeDiff, true_and, and_true, true_or, or_true, or_self, reduceCtorEq, if_true, if_false, not_false_eq_true, eq_self, c112, H.e0, (H.fn hf).1]
  refine s145e H R hf2 q2 ?_
  refine go 60 (by decide) ?_
  simp only [KX, KY, KZ, KW, KV, Nat.reduceAdd, Nat.reduceSub, Nat.reduceLeDiff, true_and, and_true, true_or, or_true, or_self, reduceCtorEq, if_true, if_false, not_false_eq_true, eq_self, c112, H.e0, (H.fn hf).1]
  exact lp 6 0 rfl
theorem s205 {h : ma_H} {Q : ma_Q} {x y : Int32} {f f2 : Nat} (H : Sh h) (R : Rt h) (N : Nf h) (hf : f < 4) (hf2 : f2 < 4) (q : x = nI f) (q2 : y = nI f2) (k : Q (some (.int (ap_n (ai h (37 + 3 * f)) (ai h (37 + 3 * f2)) 6))) h) : ma_X 205 [.ref 80, .int x, .int y] h Q := by
  have lp : ∀ ni i, i + ni = 6 → At 205 Q 12 (0, 0) [some (.ref 80), some (.int x), some (.int y), some (.int (ap_n (ai h (37 + 3 * f)) (ai h (37 + 3 * f2)) i)), some (.int (nI i)), none, none] [] h := by
    intro ni
    induction ni with
    | zero =>
      intro i e
      obtain rfl : i = 6 := by omega
      refine go 60 (by decide) ?_
      simp only [KX, KY, KZ, KW, KV, Nat.reduceAdd, Nat.reduceSub, Nat.reduceLeDiff, true_and, and_true, true_or, or_true, or_self, reduceCtorEq, if_true, if_false, not_false_eq_true, eq_self, c205, H.e80]
      rw [if_neg (show ¬ nI 6 < (6 : Int32) from nI_nlt (Nat.le_refl _) (by decide))]
      exact k
    | succ ni ih =>
      intro i e
      have hi : i < 6 := by omega
      have e1i := nI_1 i
      refine go 60 (by decide) ?_
      simp only [KX, KY, KZ, KW, KV, Nat.reduceAdd, Nat.reduceSub, Nat.reduceLeDiff, true_and, and_true, true_or, or_true, or_self, reduceCtorEq, if_true, if_false, not_false_eq_true, eq_self, c205, H.e80]
      rw [if_pos (show nI i < (6 : Int32) from nI_lt hi (by decide))]
      refine s203n H R N hf hf2 q q2 rfl hi (Or.inl rfl) ?_
      refine go 60 (by decide) ?_
      simp only [KX, KY, KZ, KW, KV, Nat.reduceAdd, Nat.reduceSub, Nat.reduceLeDiff, true_and, and_true, true_or, or_true, or_self, reduceCtorEq, if_true, if_false, not_false_eq_true, eq_self, c205, H.e80]
      refine s203n H R N hf hf2 q q2 rfl hi (Or.inr rfl) ?_
      refine go 60 (by decide) ?_
      simp only [KX, KY, KZ, KW, KV, Nat.reduceAdd, Nat.reduceSub, Nat.reduceLeDiff, true_and, and_true, true_or, or_true, or_self, reduceCtorEq, if_true, if_false, not_false_eq_true, eq_self, c205, H.e80]
      have f2e : ap_n (ai h (37 + 3 * f)) (ai h (37 + 3 * f2)) (i + 1) = mn2 (su (fl_un (ai h (37 + 3 * f)) (ai h (37 + 3 * f2)) i 1) 91) (mn2 (su (fl_un (ai h (37 + 3 * f)) (ai h (37 + 3 * f2)) i 0) 91) (ap_n (ai h (37 + 3 * f)) (ai h (37 + 3 * f2)) i)) := rfl
      unfold mn2 at f2e
      by_cases z : su (fl_un (ai h (37 + 3 * f)) (ai h (37 + 3 * f2)) i 0) 91 < (ap_n (ai h (37 + 3 * f)) (ai h (37 + 3 * f2)) i)
      · rw [if_pos z] at f2e ⊢
        refine go 60 (by decide) ?_
        simp only [KX, KY, KZ, KW, KV, Nat.reduceAdd, Nat.reduceSub, Nat.reduceLeDiff, true_and, and_true, true_or, or_true, or_self, reduceCtorEq, if_true, if_false, not_false_eq_true, eq_self, c205, H.e80]
        split
        · rename_i z2
          rw [if_pos z2] at f2e
          refine go 60 (by decide) ?_
          simp only [KX, KY, KZ, KW, KV, Nat.reduceAdd, Nat.reduceSub, Nat.reduceLeDiff, true_and, and_true, true_or, or_true, or_self, reduceCtorEq, if_true, if_false, not_false_eq_true, eq_self, c205, H.e80]
          rw [e1i, ← f2e]
          exact At_le (ih (i + 1) (by omega)) ⟨rfl, rfl, rfl, rfl, rfl, trivial⟩
        · rename_i z2
          rw [if_neg z2] at f2e
          refine go 60 (by decide) ?_
          simp only [KX, KY, KZ, KW, KV, Nat.reduceAdd, Nat.reduceSub, Nat.reduceLeDiff, true_and, and_true, true_or, or_true, or_self, reduceCtorEq, if_true, if_false, not_false_eq_true, eq_self, c205, H.e80]
          rw [e1i, ← f2e]
          exact At_le (ih (i + 1) (by omega)) ⟨rfl, rfl, rfl, rfl, rfl, trivial⟩
      · rw [if_neg z] at f2e ⊢
        refine go 60 (by decide) ?_
        simp only [KX, KY, KZ, KW, KV, Nat.reduceAdd, Nat.reduceSub, Nat.reduceLeDiff, true_and, and_true, true_or, or_true, or_self, reduceCtorEq, if_true, if_false, not_false_eq_true, eq_self, c205, H.e80]
        split
        · rename_i z2
          rw [if_pos z2] at f2e
          refine go 60 (by decide) ?_
          simp only [KX, KY, KZ, KW, KV, Nat.reduceAdd, Nat.reduceSub, Nat.reduceLeDiff, true_and, and_true, true_or, or_true, or_self, reduceCtorEq, if_true, if_false, not_false_eq_true, eq_self, c205, H.e80]
          rw [e1i, ← f2e]
          exact At_le (ih (i + 1) (by omega)) ⟨rfl, rfl, rfl, rfl, rfl, trivial⟩
        · rename_i z2
          rw [if_neg z2] at f2e
          refine go 60 (by decide) ?_
          simp only [KX, KY, KZ, KW, KV, Nat.reduceAdd, Nat.reduceSub, Nat.reduceLeDiff, true_and, and_true, true_or, or_true, or_self, reduceCtorEq, if_true, if_false, not_false_eq_true, eq_self, c205, H.e80]
          rw [e1i, ← f2e]
          exact At_le (ih (i + 1) (by omega)) ⟨rfl, rfl, rfl, rfl, rfl, trivial⟩
  refine ma_enter (m := 205) (Or.inl (by decide)) (by show 3 ≤ mt_n 205; decide +kernel) ?_
  show At 205 Q 0 (mt_c 205) [some (.ref 80), some (.int x), some (.int y), none, none, none, none] [] h
  refine go 60 (by decide) ?_
  simp only [KX, KY, KZ, KW, KV, Nat.reduceAdd, Nat.reduceSub, Nat.reduceLeDiff, true_and, and_true, true_or, or_true, or_self, reduceCtorEq, if_true, if_false, not_false_eq_true, eq_self, c205]
  refine s170y (by subst q; exact nI_pos (by omega)) (by subst q; exact nI_le (a := f) (b := 3) (by omega) (by decide)) ?_
  refine go 60 (by decide) ?_
  simp only [KX, KY, KZ, KW, KV, Nat.reduceAdd, Nat.reduceSub, Nat.reduceLeDiff, true_and, and_true, true_or, or_true, or_self, reduceCtorEq, if_true, if_false, not_false_eq_true, eq_self, c205]
  refine s170y (by subst q2; exact nI_pos (by omega)) (by subst q2; exact nI_le (a := f2) (b := 3) (by omega) (by decide)) ?_
  refine go 60 (by decide) ?_
  simp only [KX, KY, KZ, KW, KV, Nat.reduceAdd, Nat.reduceSub, Nat.reduceLeDiff, true_and, and_true, true_or, or_true, or_self, reduceCtorEq, if_true, if_false, not_false_eq_true, eq_self, c205]
  exact lp 6 0 rfl
theorem s112n {h : ma_H} {Q : ma_Q} {x y : Int32} (H : Sh h) (R : Rr h) (o : (x < 0 ∨ ¬ x < 4) ∨ (∃ f, f < 4 ∧ x = nI f) ∧ (y < 0 ∨ ¬ y < 4)) (k : Q (some (.int (-1))) h) : ma_X 112 [.ref 0, .int x, .int y] h Q := by
  rcases o with o | ⟨⟨f, hf, q⟩, o⟩
  · refine ma_enter (m := 112) (Or.inl (by decide)) (by show 3 ≤ mt_n 112; decide +kernel) ?_
    show At 112 Q 0 (mt_c 112) [some (.ref 0), some (.int x), some (.int y), none, none, none, none] [] h
    refine go 60 (by decide) ?_
    simp only [KX, KY, KZ, KW, KV, Nat.reduceAdd, Nat.reduceSub, Nat.reduceLeDiff, true_and, and_true, true_or, or_true, or_self, reduceCtorEq, if_true, if_false, not_false_eq_true, eq_self, c112, H.e0]
    refine s145n H o ?_
    refine go 60 (by decide) ?_
    simp only [KX, KY, KZ, KW, KV, Nat.reduceAdd, Nat.reduceSub, Nat.reduceLeDiff, true_and, and_true, true_or, or_true, or_self, reduceCtorEq, if_true, if_false, not_false_eq_true, eq_self, c112, H.e0]
    rcases icasB y 3 (by decide) with ⟨f2, l2, q2, -⟩ | ⟨-, o2⟩
    · refine s145e H R l2 q2 ?_
      refine go 60 (by decide) ?_
      simp only [KX, KY, KZ, KW, KV, Nat.reduceAdd, Nat.reduceSub, Nat.reduceLeDiff, true_and, and_true, true_or, or_true, or_self, reduceCtorEq, if_true, if_false, not_false_eq_true, eq_self, c112, H.e0]
      exact k
    · refine s145n H o2 ?_
      refine go 60 (by decide) ?_
      simp only [KX, KY, KZ, KW, KV, Nat.reduceAdd, Nat.reduceSub, Nat.reduceLeDiff, true_and, and_true, true_or, or_true, or_self, reduceCtorEq, if_true, if_false, not_false_eq_true, eq_self, c112, H.e0]
      exact k
  · refine ma_enter (m := 112) (Or.inl (by decide)) (by show 3 ≤ mt_n 112; decide +kernel) ?_
    show At 112 Q 0 (mt_c 112) [some (.ref 0), some (.int x), some (.int y), none, none, none, none] [] h
    refine go 60 (by decide) ?_
    simp only [KX, KY, KZ, KW, KV, Nat.reduceAdd, Nat.reduceSub, Nat.reduceLeDiff, true_and, and_true, true_or, or_true, or_self, reduceCtorEq, if_true, if_false, not_false_eq_true, eq_self, c112, H.e0]
    refine s145e H R hf q ?_
    refine go 60 (by decide) ?_
    simp only [KX, KY, KZ, KW, KV, Nat.reduceAdd, Nat.reduceSub, Nat.reduceLeDiff, true_and, and_true, true_or, or_true, or_self, reduceCtorEq, if_true, if_false, not_false_eq_true, eq_self, c112, H.e0]
    refine s145n H o ?_
    refine go 60 (by decide) ?_
    simp only [KX, KY, KZ, KW, KV, Nat.reduceAdd, Nat.reduceSub, Nat.reduceLeDiff, true_and, and_true, true_or, or_true, or_self, reduceCtorEq, if_true, if_false, not_false_eq_true, eq_self, c112, H.e0]
    try (refine go 60 (by decide) ?_; simp only [KX, KY, KZ, KW, KV, Nat.reduceAdd, Nat.reduceSub, Nat.reduceLeDiff, true_and, and_true, true_or, or_true, or_self, reduceCtorEq, if_true, if_false, not_false_eq_true, eq_self, c112, H.e0])
    exact k
theorem s205n {h : ma_H} {Q : ma_Q} {x y : Int32} (o : (x < 0 ∨ ¬ x ≤ 3) ∨ (y < 0 ∨ ¬ y ≤ 3)) (k : Q (some (.int (-1))) h) : ma_X 205 [.ref 80, .int x, .int y] h Q := by
  refine ma_enter (m := 205) (Or.inl (by decide)) (by show 3 ≤ mt_n 205; decide +kernel) ?_
  show At 205 Q 0 (mt_c 205) [some (.ref 80), some (.int x), some (.int y), none, none, none, none] [] h
  refine go 60 (by decide) ?_
  simp only [KX, KY, KZ, KW, KV, Nat.reduceAdd, Nat.reduceSub, Nat.reduceLeDiff, true_and, and_true, true_or, or_true, or_self, reduceCtorEq, if_true, if_false, not_false_eq_true, eq_self, c205]
  by_cases e : i_in x 0 3 = 0
  · refine s170 ?_
    rw [e]
    refine go 60 (by decide) ?_
    simp only [KX, KY, KZ, KW, KV, Nat.reduceAdd, Nat.reduceSub, Nat.reduceLeDiff, true_and, and_true, true_or, or_true, or_self, reduceCtorEq, if_true, if_false, not_false_eq_true, eq_self, c205]
    exact k
  · refine s170 ?_
    have e1 : i_in x 0 3 = 1 := (i_in01n x 0 3).resolve_left e
    rw [e1]
    refine go 60 (by decide) ?_
    simp only [KX, KY, KZ, KW, KV, Nat.reduceAdd, Nat.reduceSub, Nat.reduceLeDiff, true_and, and_true, true_or, or_true, or_self, reduceCtorEq, if_true, if_false, not_false_eq_true, eq_self, c205]
    have ow : y < 0 ∨ ¬ y ≤ 3 := o.resolve_left (fun z => e (i_in_no z))
    refine s170n ow ?_
    refine go 60 (by decide) ?_
    simp only [KX, KY, KZ, KW, KV, Nat.reduceAdd, Nat.reduceSub, Nat.reduceLeDiff, true_and, and_true, true_or, or_true, or_self, reduceCtorEq, if_true, if_false, not_false_eq_true, eq_self, c205]
    exact k
theorem p112 {h : ma_H} {x y : Int32} (I : Inv h) : Pair h 112 205 [.int x, .int y] := by
  intro Q k
  rcases icasB x 3 (by decide) with ⟨f, l, q, -⟩ | ⟨o1, o2⟩
  · rcases icasB y 3 (by decide) with ⟨f2, l2, q2, -⟩ | ⟨o1, o2⟩
    · exact s112 I.sh I.rr l l2 q q2 (k _ _ (by repeat (first | exact e80_I I | exact e80_S (by assumption) | exact e80_I (by assumption) | exact e80_n I.sh | refine e80_s (by omega) ?_)) fun Q2 k2 => s205 I.sh I.rt I.nf l l2 q q2 (k2 _ I))
    · exact s112n I.sh I.rr (Or.inr ⟨⟨f, l, q⟩, o2⟩) (k _ _ (by repeat (first | exact e80_I I | exact e80_S (by assumption) | exact e80_I (by assumption) | exact e80_n I.sh | refine e80_s (by omega) ?_)) fun Q2 k2 => s205n (Or.inr o1) (k2 _ I))
  · exact s112n I.sh I.rr (Or.inl o2) (k _ _ (by repeat (first | exact e80_I I | exact e80_S (by assumption) | exact e80_I (by assumption) | exact e80_n I.sh | refine e80_s (by omega) ?_)) fun Q2 k2 => s205n (Or.inl o1) (k2 _ I))
