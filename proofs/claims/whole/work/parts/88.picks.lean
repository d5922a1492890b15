/-! picks, picked -/
theorem LA.cong {h h1 : ma_H} {n : Nat} {R : (Nat → Int32) → Nat → Bool} (A : LA h n R) (e : ∀ a, a = 50 ∨ a = 51 ∨ a = 52 ∨ a = 92 ∨ a = 93 → h1.2.1 a = h.2.1 a) : LA h1 n R := by
  intro i hi
  have e50 := ai_c (e 50 (by omega))
  have e92 := ai_c (e 92 (by omega))
  rw [e50, e92]
  obtain ⟨a1, a2, a3, a4, a5⟩ := A i hi
  exact ⟨a1, a2, a3, fun h2 F Q H x1 x2 => a4 h2 F Q H (x1.trans (e 51 (by omega))) (x2.trans (e 52 (by omega))), fun h2 F Q H x1 => a5 h2 F Q H (x1.trans (e 93 (by omega)))⟩
theorem LA.in {h : ma_H} {n : Nat} {R : (Nat → Int32) → Nat → Bool} (A : LA h n R) (F : Nat → Int32) : ∃ u, u ≤ 5 ∧ lastU (ai h 50) (R F) n = nI u := lastU_in n fun i hi => (A i hi).2.1
theorem s124 {h : ma_H} {Q : ma_Q} {x y z : Int32} {f n : Nat} {R : (Nat → Int32) → Nat → Bool} (H : Sh h) (Rf : Rr h) (l : f < 4) (q : x = nI f) (e : fi h 49 0 = nI n) (n8 : n ≤ 8) (A : LA h n R) (y1 : ¬ y < 0) (y2 : y ≤ 9) (z1 : ¬ z < 0) (z2 : z ≤ 9) (k : Q (some (.int (lastU (ai h 50) (R (nmv (ai h 56) y z (su (fl_ice (ai h (37 + 3 * f))) 91) (fl_span (ai h (37 + 3 * f)) 91) (fl_edge (ai h (37 + 3 * f)) 91) (fi h (36 + 3 * f) 0))) n))) (ma_set h 56 (.inl (.int, 6, .inl (nmv (ai h 56) y z (su (fl_ice (ai h (37 + 3 * f))) 91) (fl_span (ai h (37 + 3 * f)) 91) (fl_edge (ai h (37 + 3 * f)) 91) (fi h (36 + 3 * f) 0)))))) : ma_X 124 [.ref 0, .int x, .int y, .int z] h Q := by
  refine ma_enter (m := 124) (Or.inl (by decide)) (by show 4 ≤ mt_n 124; decide +kernel) ?_
  show At 124 Q 0 (mt_c 124) [some (.ref 0), some (.int x), some (.int y), some (.int z), none] [] h
  refine go 60 (by decide) ?_
  simp only [KX, KY, KZ, KW, KV, Nat.reduceAdd, Nat.reduceSub, Nat.reduceLeDiff, true_and, and_true, true_or, or_true, or_self, reduceCtorEq, if_true, if_false, not_false_eq_true, eq_self, c124, H.e0]
  refine s145e H Rf l q ?_
  refine go 60 (by decide) ?_
  simp only [KX, KY, KZ, KW, KV, Nat.reduceAdd, Nat.reduceSub, Nat.reduceLeDiff, true_and, and_true, true_or, or_true, or_self, reduceCtorEq, if_true, if_false, not_false_eq_true, eq_self, c124, H.e0]
  refine s147y y1 y2 z1 z2 ?_
  refine go 60 (by decide) ?_
  simp only [KX, KY, KZ, KW, KV, Nat.reduceAdd, Nat.reduceSub, Nat.reduceLeDiff, true_and, and_true, true_or, or_true, or_self, reduceCtorEq, if_true, if_false, not_false_eq_true, eq_self, c124, H.e0, H.e34]
  refine s98 H l e n8 A ?_
  refine go 60 (by decide) ?_
  simp only [KX, KY, KZ, KW, KV, Nat.reduceAdd, Nat.reduceSub, Nat.reduceLeDiff, true_and, and_true, true_or, or_true, or_self, reduceCtorEq, if_true, if_false, not_false_eq_true, eq_self, c124]
  exact k
theorem s124n {h : ma_H} {Q : ma_Q} {x y z : Int32} (H : Sh h) (Rf : Rr h) (o : (x < 0 ∨ ¬ x < 4) ∨ ((∃ f, f < 4 ∧ x = nI f) ∧ (y < 0 ∨ ¬ y ≤ 9 ∨ z < 0 ∨ ¬ z ≤ 9))) (k : Q (some (.int (-1))) h) : ma_X 124 [.ref 0, .int x, .int y, .int z] h Q := by
  refine ma_enter (m := 124) (Or.inl (by decide)) (by show 4 ≤ mt_n 124; decide +kernel) ?_
  show At 124 Q 0 (mt_c 124) [some (.ref 0), some (.int x), some (.int y), some (.int z), none] [] h
  refine go 60 (by decide) ?_
  simp only [KX, KY, KZ, KW, KV, Nat.reduceAdd, Nat.reduceSub, Nat.reduceLeDiff, true_and, and_true, true_or, or_true, or_self, reduceCtorEq, if_true, if_false, not_false_eq_true, eq_self, c124, H.e0]
  rcases o with o | ⟨⟨f, l, q⟩, o⟩
  · refine s145n H o ?_
    refine go 60 (by decide) ?_
    simp only [KX, KY, KZ, KW, KV, Nat.reduceAdd, Nat.reduceSub, Nat.reduceLeDiff, true_and, and_true, true_or, or_true, or_self, reduceCtorEq, if_true, if_false, not_false_eq_true, eq_self, c124, H.e0]
    exact k
  · refine s145e H Rf l q ?_
    refine go 60 (by decide) ?_
    simp only [KX, KY, KZ, KW, KV, Nat.reduceAdd, Nat.reduceSub, Nat.reduceLeDiff, true_and, and_true, true_or, or_true, or_self, reduceCtorEq, if_true, if_false, not_false_eq_true, eq_self, c124, H.e0]
    refine s147n o ?_
    refine go 60 (by decide) ?_
    simp only [KX, KY, KZ, KW, KV, Nat.reduceAdd, Nat.reduceSub, Nat.reduceLeDiff, true_and, and_true, true_or, or_true, or_self, reduceCtorEq, if_true, if_false, not_false_eq_true, eq_self, c124]
    exact k
theorem s125 {h : ma_H} {Q : ma_Q} {x : Int32} {f n : Nat} {R : (Nat → Int32) → Nat → Bool} (H : Sh h) (Rf : Rr h) (l : f < 4) (q : x = nI f) (e : fi h 49 0 = nI n) (n8 : n ≤ 8) (A : LA h n R) (k : Q (some (.int (someP (ai h 50) (R (nmv (ai h 56) 0 0 (su (fl_ice (ai h (37 + 3 * f))) 91) (fl_span (ai h (37 + 3 * f)) 91) (fl_edge (ai h (37 + 3 * f)) 91) (fi h (36 + 3 * f) 0))) n))) (ma_set h 56 (.inl (.int, 6, .inl (nmv (ai h 56) 0 0 (su (fl_ice (ai h (37 + 3 * f))) 91) (fl_span (ai h (37 + 3 * f)) 91) (fl_edge (ai h (37 + 3 * f)) 91) (fi h (36 + 3 * f) 0)))))) : ma_X 125 [.ref 0, .int x] h Q := by
  refine ma_enter (m := 125) (Or.inl (by decide)) (by show 2 ≤ mt_n 125; decide +kernel) ?_
  show At 125 Q 0 (mt_c 125) [some (.ref 0), some (.int x), none] [] h
  refine go 60 (by decide) ?_
  simp only [KX, KY, KZ, KW, KV, Nat.reduceAdd, Nat.reduceSub, Nat.reduceLeDiff, true_and, and_true, true_or, or_true, or_self, reduceCtorEq, if_true, if_false, not_false_eq_true, eq_self, c125, H.e0]
  refine s145e H Rf l q ?_
  refine go 60 (by decide) ?_
  simp only [KX, KY, KZ, KW, KV, Nat.reduceAdd, Nat.reduceSub, Nat.reduceLeDiff, true_and, and_true, true_or, or_true, or_self, reduceCtorEq, if_true, if_false, not_false_eq_true, eq_self, c125, H.e0, H.e34]
  refine s99 H l e n8 A ?_
  rcases someP01 (ai h 50) (R (nmv (ai h 56) 0 0 (su (fl_ice (ai h (37 + 3 * f))) 91) (fl_span (ai h (37 + 3 * f)) 91) (fl_edge (ai h (37 + 3 * f)) 91) (fi h (36 + 3 * f) 0))) n with o | o
  · rw [o] at k ⊢
    refine go 60 (by decide) ?_
    simp only [KX, KY, KZ, KW, KV, Nat.reduceAdd, Nat.reduceSub, Nat.reduceLeDiff, true_and, and_true, true_or, or_true, or_self, reduceCtorEq, if_true, if_false, not_false_eq_true, eq_self, c125]
    exact k
  · rw [o] at k ⊢
    refine go 60 (by decide) ?_
    simp only [KX, KY, KZ, KW, KV, Nat.reduceAdd, Nat.reduceSub, Nat.reduceLeDiff, true_and, and_true, true_or, or_true, or_self, reduceCtorEq, if_true, if_false, not_false_eq_true, eq_self, c125]
    exact k
theorem s125n {h : ma_H} {Q : ma_Q} {x : Int32} (H : Sh h) (o : x < 0 ∨ ¬ x < 4) (k : Q (some (.int (-1))) h) : ma_X 125 [.ref 0, .int x] h Q := by
  refine ma_enter (m := 125) (Or.inl (by decide)) (by show 2 ≤ mt_n 125; decide +kernel) ?_
  show At 125 Q 0 (mt_c 125) [some (.ref 0), some (.int x), none] [] h
  refine go 60 (by decide) ?_
  simp only [KX, KY, KZ, KW, KV, Nat.reduceAdd, Nat.reduceSub, Nat.reduceLeDiff, true_and, and_true, true_or, or_true, or_self, reduceCtorEq, if_true, if_false, not_false_eq_true, eq_self, c125, H.e0]
  refine s145n H o ?_
  refine go 60 (by decide) ?_
  simp only [KX, KY, KZ, KW, KV, Nat.reduceAdd, Nat.reduceSub, Nat.reduceLeDiff, true_and, and_true, true_or, or_true, or_self, reduceCtorEq, if_true, if_false, not_false_eq_true, eq_self, c125, H.e0]
  exact k
theorem s225 {h : ma_H} {Q : ma_Q} {x y z : Int32} {f n : Nat} {R : (Nat → Int32) → Nat → Bool} (H : Sh h) (Rh : Rt h) (l : f < 4) (q : x = nI f) (e : fi h 80 14 = nI n) (n8 : n ≤ 8) (A : LA h n R) (y1 : ¬ y < 0) (y2 : y ≤ 9) (z1 : ¬ z < 0) (z2 : z ≤ 9) (k : ∀ g, Q (some (.int (lastU (ai h 50) (R (nmv (ai h 95) y z (su (ml_ice (ai h 88) (91 * f)) 91) (ml_span (fun i => ai h 88 (91 * f + i)) 91) (ml_edge (fun i => ai h 88 (91 * f + i)) 91) (ai h 89 f))) n))) (ma_set (ma_set h 95 (.inl (.int, 6, .inl (nmv (ai h 95) y z (su (ml_ice (ai h 88) (91 * f)) 91) (ml_span (fun i => ai h 88 (91 * f + i)) 91) (ml_edge (fun i => ai h 88 (91 * f + i)) 91) (ai h 89 f))))) 98 (.inl (.boolean, 100, .inl g)))) : ma_X 225 [.ref 80, .int x, .int y, .int z] h Q := by
  have x1 : ¬ x < 0 := by subst q; exact nI_pos (by omega)
  have x3 : x ≤ 3 := by subst q; exact nI_le (a := f) (b := 3) (by omega) (by decide)
  refine ma_enter (m := 225) (Or.inl (by decide)) (by show 4 ≤ mt_n 225; decide +kernel) ?_
  show At 225 Q 0 (mt_c 225) [some (.ref 80), some (.int x), some (.int y), some (.int z)] [] h
  refine go 60 (by decide) ?_
  simp only [KX, KY, KZ, KW, KV, Nat.reduceAdd, Nat.reduceSub, Nat.reduceLeDiff, true_and, and_true, true_or, or_true, or_self, reduceCtorEq, if_true, if_false, not_false_eq_true, eq_self, c225]
  refine s170y x1 x3 ?_
  refine go 60 (by decide) ?_
  simp only [KX, KY, KZ, KW, KV, Nat.reduceAdd, Nat.reduceSub, Nat.reduceLeDiff, true_and, and_true, true_or, or_true, or_self, reduceCtorEq, if_true, if_false, not_false_eq_true, eq_self, c225]
  refine s162y y1 y2 ?_
  refine go 60 (by decide) ?_
  simp only [KX, KY, KZ, KW, KV, Nat.reduceAdd, Nat.reduceSub, Nat.reduceLeDiff, true_and, and_true, true_or, or_true, or_self, reduceCtorEq, if_true, if_false, not_false_eq_true, eq_self, c225]
  refine s162y z1 z2 ?_
  refine go 60 (by decide) ?_
  simp only [KX, KY, KZ, KW, KV, Nat.reduceAdd, Nat.reduceSub, Nat.reduceLeDiff, true_and, and_true, true_or, or_true, or_self, reduceCtorEq, if_true, if_false, not_false_eq_true, eq_self, c225, H.e80]
  refine s224 H Rh l q e n8 A (fun g => ?_)
  refine go 60 (by decide) ?_
  simp only [KX, KY, KZ, KW, KV, Nat.reduceAdd, Nat.reduceSub, Nat.reduceLeDiff, true_and, and_true, true_or, or_true, or_self, reduceCtorEq, if_true, if_false, not_false_eq_true, eq_self, c225]
  exact k g
theorem s225n {h : ma_H} {Q : ma_Q} {x y z : Int32} (o : (x < 0 ∨ ¬ x ≤ 3) ∨ ((∃ f, f < 4 ∧ x = nI f) ∧ (y < 0 ∨ ¬ y ≤ 9 ∨ z < 0 ∨ ¬ z ≤ 9))) (k : Q (some (.int (-1))) h) : ma_X 225 [.ref 80, .int x, .int y, .int z] h Q := by
  refine ma_enter (m := 225) (Or.inl (by decide)) (by show 4 ≤ mt_n 225; decide +kernel) ?_
  show At 225 Q 0 (mt_c 225) [some (.ref 80), some (.int x), some (.int y), some (.int z)] [] h
  refine go 60 (by decide) ?_
  simp only [KX, KY, KZ, KW, KV, Nat.reduceAdd, Nat.reduceSub, Nat.reduceLeDiff, true_and, and_true, true_or, or_true, or_self, reduceCtorEq, if_true, if_false, not_false_eq_true, eq_self, c225]
  rcases o with o | ⟨⟨f, l, q⟩, o⟩
  · refine s170n o ?_
    refine go 60 (by decide) ?_
    simp only [KX, KY, KZ, KW, KV, Nat.reduceAdd, Nat.reduceSub, Nat.reduceLeDiff, true_and, and_true, true_or, or_true, or_self, reduceCtorEq, if_true, if_false, not_false_eq_true, eq_self, c225]
    exact k
  · refine s170y (by subst q; exact nI_pos (by omega)) (by subst q; exact nI_le (a := f) (b := 3) (by omega) (by decide)) ?_
    refine go 60 (by decide) ?_
    simp only [KX, KY, KZ, KW, KV, Nat.reduceAdd, Nat.reduceSub, Nat.reduceLeDiff, true_and, and_true, true_or, or_true, or_self, reduceCtorEq, if_true, if_false, not_false_eq_true, eq_self, c225]
    refine s162c (fun a b => ?_) (fun _ => ?_)
    · refine go 60 (by decide) ?_
      simp only [KX, KY, KZ, KW, KV, Nat.reduceAdd, Nat.reduceSub, Nat.reduceLeDiff, true_and, and_true, true_or, or_true, or_self, reduceCtorEq, if_true, if_false, not_false_eq_true, eq_self, c225]
      refine s162n ((o.resolve_left a).resolve_left (fun w => w b)) ?_
      refine go 60 (by decide) ?_
      simp only [KX, KY, KZ, KW, KV, Nat.reduceAdd, Nat.reduceSub, Nat.reduceLeDiff, true_and, and_true, true_or, or_true, or_self, reduceCtorEq, if_true, if_false, not_false_eq_true, eq_self, c225]
      exact k
    · refine go 60 (by decide) ?_
      simp only [KX, KY, KZ, KW, KV, Nat.reduceAdd, Nat.reduceSub, Nat.reduceLeDiff, true_and, and_true, true_or, or_true, or_self, reduceCtorEq, if_true, if_false, not_false_eq_true, eq_self, c225]
      exact k
theorem s226n {h : ma_H} {Q : ma_Q} {x : Int32} (o : x < 0 ∨ ¬ x ≤ 3) (k : Q (some (.int (-1))) h) : ma_X 226 [.ref 80, .int x] h Q := by
  refine ma_enter (m := 226) (Or.inl (by decide)) (by show 2 ≤ mt_n 226; decide +kernel) ?_
  show At 226 Q 0 (mt_c 226) [some (.ref 80), some (.int x), none, none] [] h
  refine go 60 (by decide) ?_
  simp only [KX, KY, KZ, KW, KV, Nat.reduceAdd, Nat.reduceSub, Nat.reduceLeDiff, true_and, and_true, true_or, or_true, or_self, reduceCtorEq, if_true, if_false, not_false_eq_true, eq_self, c226]
  refine s170n o ?_
  refine go 60 (by decide) ?_
  simp only [KX, KY, KZ, KW, KV, Nat.reduceAdd, Nat.reduceSub, Nat.reduceLeDiff, true_and, and_true, true_or, or_true, or_self, reduceCtorEq, if_true, if_false, not_false_eq_true, eq_self, c226]
  exact k
theorem p124 {h : ma_H} {x y z : Int32} (I : Inv h) : Pair h 124 225 [.int x, .int y, .int z] := by
  intro Q k
  obtain ⟨n, n8, e1, e2, R, A⟩ := I.nl.use
  rcases icasB x 3 (by decide) with ⟨f, l, q, -⟩ | ⟨o1, o2⟩
  · by_cases y1 : y < 0
    · exact s124n I.sh I.rr (Or.inr ⟨⟨f, l, q⟩, Or.inl y1⟩) (k _ _ (by repeat (first | exact e80_I I | exact e80_S (by assumption) | exact e80_I (by assumption) | exact e80_n I.sh | refine e80_s (by omega) ?_)) fun Q2 k2 => s225n (Or.inr ⟨⟨f, l, q⟩, Or.inl y1⟩) (k2 _ I))
    by_cases y2 : ¬ y ≤ 9
    · exact s124n I.sh I.rr (Or.inr ⟨⟨f, l, q⟩, Or.inr (Or.inl y2)⟩) (k _ _ (by repeat (first | exact e80_I I | exact e80_S (by assumption) | exact e80_I (by assumption) | exact e80_n I.sh | refine e80_s (by omega) ?_)) fun Q2 k2 => s225n (Or.inr ⟨⟨f, l, q⟩, Or.inr (Or.inl y2)⟩) (k2 _ I))
    have y2 := Decidable.not_not.mp y2
    by_cases z1 : z < 0
    · exact s124n I.sh I.rr (Or.inr ⟨⟨f, l, q⟩, Or.inr (Or.inr (Or.inl z1))⟩) (k _ _ (by repeat (first | exact e80_I I | exact e80_S (by assumption) | exact e80_I (by assumption) | exact e80_n I.sh | refine e80_s (by omega) ?_)) fun Q2 k2 => s225n (Or.inr ⟨⟨f, l, q⟩, Or.inr (Or.inr (Or.inl z1))⟩) (k2 _ I))
    by_cases z2 : ¬ z ≤ 9
    · exact s124n I.sh I.rr (Or.inr ⟨⟨f, l, q⟩, Or.inr (Or.inr (Or.inr z2))⟩) (k _ _ (by repeat (first | exact e80_I I | exact e80_S (by assumption) | exact e80_I (by assumption) | exact e80_n I.sh | refine e80_s (by omega) ?_)) fun Q2 k2 => s225n (Or.inr ⟨⟨f, l, q⟩, Or.inr (Or.inr (Or.inr z2))⟩) (k2 _ I))
    have z2 := Decidable.not_not.mp z2
    refine s124 I.sh I.rr l q e1 n8 A y1 y2 z1 z2 (k _ _ (by repeat (first | exact e80_I I | exact e80_S (by assumption) | exact e80_I (by assumption) | exact e80_n I.sh | refine e80_s (by omega) ?_)) fun Q2 k2 => ?_)
    have H1 : Sh (ma_set h 56 (.inl (.int, 6, .inl (nmv (ai h 56) y z (su (fl_ice (ai h (37 + 3 * f))) 91) (fl_span (ai h (37 + 3 * f)) 91) (fl_edge (ai h (37 + 3 * f)) 91) (fi h (36 + 3 * f) 0))))) := sh_set I.sh rfl
    have c50 : ai (ma_set h 56 (.inl (.int, 6, .inl (nmv (ai h 56) y z (su (fl_ice (ai h (37 + 3 * f))) 91) (fl_span (ai h (37 + 3 * f)) 91) (fl_edge (ai h (37 + 3 * f)) 91) (fi h (36 + 3 * f) 0))))) 50 = ai h 50 := ai_ne _ _ (by decide)
    have c88 : ai (ma_set h 56 (.inl (.int, 6, .inl (nmv (ai h 56) y z (su (fl_ice (ai h (37 + 3 * f))) 91) (fl_span (ai h (37 + 3 * f)) 91) (fl_edge (ai h (37 + 3 * f)) 91) (fi h (36 + 3 * f) 0))))) 88 = ai h 88 := ai_ne _ _ (by decide)
    have c89 : ai (ma_set h 56 (.inl (.int, 6, .inl (nmv (ai h 56) y z (su (fl_ice (ai h (37 + 3 * f))) 91) (fl_span (ai h (37 + 3 * f)) 91) (fl_edge (ai h (37 + 3 * f)) 91) (fi h (36 + 3 * f) 0))))) 89 = ai h 89 := ai_ne _ _ (by decide)
    have c95 : ai (ma_set h 56 (.inl (.int, 6, .inl (nmv (ai h 56) y z (su (fl_ice (ai h (37 + 3 * f))) 91) (fl_span (ai h (37 + 3 * f)) 91) (fl_edge (ai h (37 + 3 * f)) 91) (fi h (36 + 3 * f) 0))))) 95 = ai h 95 := ai_ne _ _ (by decide)
    refine s225 H1 (I.rt.cong fun a ha => ma_set_ne _ _ (by omega)) l q ((fi_ne _ _ _ (by decide)).trans e2) n8 (A.cong fun a ha => ma_set_ne _ _ (by omega)) y1 y2 z1 z2 (fun g => ?_)
    have ev : lastU (ai h 50) (R (nmv (ai h 56) y z (su (fl_ice (ai h (37 + 3 * f))) 91) (fl_span (ai h (37 + 3 * f)) 91) (fl_edge (ai h (37 + 3 * f)) 91) (fi h (36 + 3 * f) 0))) n = lastU (ai h 50) (R (nmv (ai h 95) y z (su (ml_ice (ai h 88) (91 * f)) 91) (ml_span (fun i => ai h 88 (91 * f + i)) 91) (ml_edge (fun i => ai h 88 (91 * f + i)) 91) (ai h 89 f))) n := lastU_c n fun i hi => (A i hi).2.2.1 _ _ (by
      intro j hj
      rw [su_ice I.nf l, span_eq (fun i hi => I.nf.eq l hi) 91 (Nat.le_refl _), edge_eq (G := fun i => ai h 88 (91 * f + i)) (I.nf.ok l) (fun i hi => I.nf.eq l hi) (fun i hi => I.nf.b l hi), I.nf.m l]
      exact nmv_c _ _ _ _ _ _ _ _ j hj)
    simp only [c50, c88, c89, c95]
    rw [← ev]
    have IA : ∀ a g, Inv (ma_set (ma_set (ma_set h 56 (.inl (.int, 6, .inl (nmv (ai h 56) y z (su (fl_ice (ai h (37 + 3 * f))) 91) (fl_span (ai h (37 + 3 * f)) 91) (fl_edge (ai h (37 + 3 * f)) 91) (fi h (36 + 3 * f) 0))))) 95 (.inl (.int, 6, .inl a)))  98 (.inl (.boolean, 100, .inl g))) := fun a g => ⟨(sh_set (sh_set (sh_set I.sh rfl) rfl) rfl), I.rr, I.rt, ⟨(I.nf.cong (fun a ha => by simp (disch := omega) only [ma_set_ne])), (I.ng.cong2 (Nat.le_refl _) rfl rfl (fun a ha => by simp (disch := omega) only [ma_set_ne])), I.nm, I.na, I.nl⟩, (I.rk.cong2 (Nat.le_refl _) rfl rfl (fun a ha => by simp (disch := omega) only [ma_set_ne])), I.rp, (I.rw.cong2 rfl rfl (fun a ha => by simp (disch := omega) only [ma_set_ne])), (I.rs.cong (fun a ha => by simp (disch := omega) only [ma_set_ne])), I.rv, I.ra, I.rc⟩
    exact k2 _ (IA _ g)
  · exact s124n I.sh I.rr (Or.inl o2) (k _ _ (by repeat (first | exact e80_I I | exact e80_S (by assumption) | exact e80_I (by assumption) | exact e80_n I.sh | refine e80_s (by omega) ?_)) fun Q2 k2 => s225n (Or.inl o1) (k2 _ I))
theorem p125 {h : ma_H} {x : Int32} (I : Inv h) : Pair h 125 226 [.int x] := by
  intro Q k
  obtain ⟨n, n8, e1, e2, R, A⟩ := I.nl.use
  rcases icasB x 3 (by decide) with ⟨f, l, q, -⟩ | ⟨o1, o2⟩
  · refine s125 I.sh I.rr l q e1 n8 A (k _ _ (by repeat (first | exact e80_I I | exact e80_S (by assumption) | exact e80_I (by assumption) | exact e80_n I.sh | refine e80_s (by omega) ?_)) fun Q2 k2 => ?_)
    have H1 : Sh (ma_set h 56 (.inl (.int, 6, .inl (nmv (ai h 56) 0 0 (su (fl_ice (ai h (37 + 3 * f))) 91) (fl_span (ai h (37 + 3 * f)) 91) (fl_edge (ai h (37 + 3 * f)) 91) (fi h (36 + 3 * f) 0))))) := sh_set I.sh rfl
    have c50 : ai (ma_set h 56 (.inl (.int, 6, .inl (nmv (ai h 56) 0 0 (su (fl_ice (ai h (37 + 3 * f))) 91) (fl_span (ai h (37 + 3 * f)) 91) (fl_edge (ai h (37 + 3 * f)) 91) (fi h (36 + 3 * f) 0))))) 50 = ai h 50 := ai_ne _ _ (by decide)
    have c88 : ai (ma_set h 56 (.inl (.int, 6, .inl (nmv (ai h 56) 0 0 (su (fl_ice (ai h (37 + 3 * f))) 91) (fl_span (ai h (37 + 3 * f)) 91) (fl_edge (ai h (37 + 3 * f)) 91) (fi h (36 + 3 * f) 0))))) 88 = ai h 88 := ai_ne _ _ (by decide)
    have c89 : ai (ma_set h 56 (.inl (.int, 6, .inl (nmv (ai h 56) 0 0 (su (fl_ice (ai h (37 + 3 * f))) 91) (fl_span (ai h (37 + 3 * f)) 91) (fl_edge (ai h (37 + 3 * f)) 91) (fi h (36 + 3 * f) 0))))) 89 = ai h 89 := ai_ne _ _ (by decide)
    have c95 : ai (ma_set h 56 (.inl (.int, 6, .inl (nmv (ai h 56) 0 0 (su (fl_ice (ai h (37 + 3 * f))) 91) (fl_span (ai h (37 + 3 * f)) 91) (fl_edge (ai h (37 + 3 * f)) 91) (fi h (36 + 3 * f) 0))))) 95 = ai h 95 := ai_ne _ _ (by decide)
    refine s226 H1 (I.rt.cong fun a ha => ma_set_ne _ _ (by omega)) l q ((fi_ne _ _ _ (by decide)).trans e2) n8 (A.cong fun a ha => ma_set_ne _ _ (by omega)) (fun g => ?_)
    have ev : someP (ai h 50) (R (nmv (ai h 56) 0 0 (su (fl_ice (ai h (37 + 3 * f))) 91) (fl_span (ai h (37 + 3 * f)) 91) (fl_edge (ai h (37 + 3 * f)) 91) (fi h (36 + 3 * f) 0))) n = someP (ai h 50) (R (nmv (ai h 95) 0 0 (su (ml_ice (ai h 88) (91 * f)) 91) (ml_span (fun i => ai h 88 (91 * f + i)) 91) (ml_edge (fun i => ai h 88 (91 * f + i)) 91) (ai h 89 f))) n := someP_c n fun i hi => (A i hi).2.2.1 _ _ (by
      intro j hj
      rw [su_ice I.nf l, span_eq (fun i hi => I.nf.eq l hi) 91 (Nat.le_refl _), edge_eq (G := fun i => ai h 88 (91 * f + i)) (I.nf.ok l) (fun i hi => I.nf.eq l hi) (fun i hi => I.nf.b l hi), I.nf.m l]
      exact nmv_c _ _ _ _ _ _ _ _ j hj)
    simp only [c50, c88, c89, c95]
    rw [← ev]
    have IA : ∀ a g, Inv (ma_set (ma_set (ma_set h 56 (.inl (.int, 6, .inl (nmv (ai h 56) 0 0 (su (fl_ice (ai h (37 + 3 * f))) 91) (fl_span (ai h (37 + 3 * f)) 91) (fl_edge (ai h (37 + 3 * f)) 91) (fi h (36 + 3 * f) 0))))) 95 (.inl (.int, 6, .inl a)))  98 (.inl (.boolean, 100, .inl g))) := fun a g => ⟨(sh_set (sh_set (sh_set I.sh rfl) rfl) rfl), I.rr, I.rt, ⟨(I.nf.cong (fun a ha => by simp (disch := omega) only [ma_set_ne])), (I.ng.cong2 (Nat.le_refl _) rfl rfl (fun a ha => by simp (disch := omega) only [ma_set_ne])), I.nm, I.na, I.nl⟩, (I.rk.cong2 (Nat.le_refl _) rfl rfl (fun a ha => by simp (disch := omega) only [ma_set_ne])), I.rp, (I.rw.cong2 rfl rfl (fun a ha => by simp (disch := omega) only [ma_set_ne])), (I.rs.cong (fun a ha => by simp (disch := omega) only [ma_set_ne])), I.rv, I.ra, I.rc⟩
    exact k2 _ (IA _ g)
  · exact s125n I.sh o2 (k _ _ (by repeat (first | exact e80_I I | exact e80_S (by assumption) | exact e80_I (by assumption) | exact e80_n I.sh | refine e80_s (by omega) ?_)) fun Q2 k2 => s226n o1 (k2 _ I))
