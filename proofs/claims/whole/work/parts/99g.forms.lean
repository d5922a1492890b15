/-! forms answers alike -/
theorem s240n {h : ma_H} {Q : ma_Q} {x : Int32} (o : x < 0 ∨ ¬ x ≤ 3) (k : Q (some (.int (-1))) h) : ma_X 240 [.ref 80, .int x] h Q := by
  refine ma_enter (m := 240) (Or.inl (by decide)) (by show 2 ≤ mt_n 240; decide +kernel) ?_
  show At 240 Q 0 (mt_c 240) [some (.ref 80), some (.int x), none, none, none, none, none, none, none, none] [] h
  refine go 60 (by decide) ?_
  simp only [KX, KY, KZ, KW, KV, Nat.reduceAdd, Nat.reduceSub, Nat.reduceLeDiff, true_and, and_true, true_or, or_true, or_self, reduceCtorEq, if_true, if_false, not_false_eq_true, eq_self, c240]
  refine s162n o ?_
  refine go 60 (by decide) ?_
  simp only [KX, KY, KZ, KW, KV, Nat.reduceAdd, Nat.reduceSub, Nat.reduceLeDiff, true_and, and_true, true_or, or_true, or_self, reduceCtorEq, if_true, if_false, not_false_eq_true, eq_self, c240]
  exact k
theorem s240z {h : ma_H} {Q : ma_Q} {n : Nat} (H : Sh h) (hn : n < 4) (n0 : 0 < n) (e9 : fi h 80 9 = nI 0) (k : Q (some (.int (-3))) h) : ma_X 240 [.ref 80, .int (nI n)] h Q := by
  refine ma_enter (m := 240) (Or.inl (by decide)) (by show 2 ≤ mt_n 240; decide +kernel) ?_
  show At 240 Q 0 (mt_c 240) [some (.ref 80), some (.int (nI n)), none, none, none, none, none, none, none, none] [] h
  refine go 60 (by decide) ?_
  simp only [KX, KY, KZ, KW, KV, Nat.reduceAdd, Nat.reduceSub, Nat.reduceLeDiff, true_and, and_true, true_or, or_true, or_self, reduceCtorEq, if_true, if_false, not_false_eq_true, eq_self, c240]
  refine s162y (nI_pos (by omega)) (nI_le (b := 3) (by omega) (by decide)) ?_
  refine go 60 (by decide) ?_
  simp only [KX, KY, KZ, KW, KV, Nat.reduceAdd, Nat.reduceSub, Nat.reduceLeDiff, true_and, and_true, true_or, or_true, or_self, reduceCtorEq, if_true, if_false, not_false_eq_true, eq_self, c240, H.e80, e9]
  rw [if_neg (show ¬ nI n ≤ 0 from nI_ge (a := 0) (by omega) (by omega)), if_pos (show nI 0 = 0 from rfl)]
  exact k
theorem p129 {h : ma_H} {x : Int32} (I : Inv h) : Pair h 129 240 [.int x] := by
  intro Q k
  obtain ⟨gc, g6, e1, e2, G⟩ := I.ng.at
  rcases icasB x 3 (by decide) with ⟨n, hn, q, -⟩ | ⟨o1, o2⟩
  · subst q
    by_cases gn : 0 < n → 1 ≤ gc
    · refine s129 I.sh hn I.rc g6 gn e1 G (fun h1 m C => k _ _ (e80_S C.1) fun Q2 k2 => ?_)
      have C0 := C
      obtain ⟨c1, c2, c3, c4, -⟩ := C
      have M0 : ML h1 h1 := ⟨c1, rfl, fun _ _ _ _ => rfl, fun _ _ => rfl⟩
      refine s240 (h := h) (gc := gc) M0 (I.rt.cong fun a ha => c3 a (by omega) (by omega) (by omega) (by omega)) hn (ai_c (c3 90 (by decide) (by decide) (by decide) (by decide))) ?_ g6 gn G (fun h3 M => k2 _ (I.ways C0 M))
      show fiC (h1.2.1 80) 9 = _
      rw [c3 80 (by decide) (by decide) (by decide) (by decide)]
      exact e2
    · have n0 : 0 < n := Decidable.byContradiction fun z => gn fun y => absurd y z
      have g0 : gc = 0 := Decidable.byContradiction fun z => gn fun _ => by omega
      subst g0
      exact s129z I.sh hn n0 e1 (k _ _ (by repeat (first | exact e80_I I | exact e80_S (by assumption) | exact e80_I (by assumption) | exact e80_n I.sh | refine e80_s (by omega) ?_)) fun Q2 k2 => s240z I.sh hn n0 e2 (k2 _ I))
  · exact s129n I.sh o1 (k _ _ (by repeat (first | exact e80_I I | exact e80_S (by assumption) | exact e80_I (by assumption) | exact e80_n I.sh | refine e80_s (by omega) ?_)) fun Q2 k2 => s240n o1 (k2 _ I))
