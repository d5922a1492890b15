/-! picks, picked: the Model, both alike -/
theorem s223 {h : ma_H} {Q : ma_Q} {x w wt : Int32} {f : Nat} (H : Sh h) (R : Rt h) (l : f < 4) (q : x = nI f) (k : Q none (ma_set h 95 (.inl (.int, 6, .inl (nmv (ai h 95) w wt (su (ml_ice (ai h 88) (91 * f)) 91) (ml_span (fun i => ai h 88 (91 * f + i)) 91) (ml_edge (fun i => ai h 88 (91 * f + i)) 91) (ai h 89 f)))))) : ma_X 223 [.ref 80, .int x, .int w, .int wt] h Q := by
  have hs : ∀ g, Sh (ma_set h 95 (.inl (.int, 6, .inl g))) := fun g => sh_set H rfl
  have hR : ∀ g, Rt (ma_set h 95 (.inl (.int, 6, .inl g))) := fun g => R.cong (fun a ha => by simp (disch := omega) only [ma_set_ne])
  have tx : x.toNatClampNeg = f := by subst q; exact nI_clamp (by omega)
  have vx : vp_in x 4 := by subst q; exact nI_in l (by decide)
  have x1 : ¬ x < 0 := by subst q; exact nI_pos (by omega)
  have x3 : x ≤ 3 := by subst q; exact nI_le (a := f) (b := 3) (by omega) (by decide)
  have e91 := ix91n q
  refine ma_enter (m := 223) (Or.inl (by decide)) (by show 4 ≤ mt_n 223; decide +kernel) ?_
  show At 223 Q 0 (mt_c 223) [some (.ref 80), some (.int x), some (.int w), some (.int wt)] [] h
  refine go 60 (by decide) ?_
  simp only [KX, KY, KZ, KW, KV, Nat.reduceAdd, Nat.reduceSub, Nat.reduceLeDiff, true_and, and_true, true_or, or_true, or_self, reduceCtorEq, if_true, if_false, not_false_eq_true, eq_self, c223, H.e80, H.e95, (hs _).e80, (hs _).e89, (hs _).e95, ai_at, ma_set_set, e91, tx, show Int32.toNatClampNeg 0 = 0 from rfl, show Int32.toNatClampNeg 1 = 1 from rfl, show Int32.toNatClampNeg 2 = 2 from rfl, show Int32.toNatClampNeg 3 = 3 from rfl, show Int32.toNatClampNeg 4 = 4 from rfl, show Int32.toNatClampNeg 5 = 5 from rfl]
  refine ⟨nI_in (c := 0) (by decide) (by decide), nI_in (c := 1) (by decide) (by decide), ?_⟩
  refine s173 (A := 91 * f) (hs _).e80 rfl (hs _).e88 (by omega) ?_
  rw [ai_ne _ _ (show 88 ≠ 95 by decide)]
  refine go 60 (by decide) ?_
  simp only [KX, KY, KZ, KW, KV, Nat.reduceAdd, Nat.reduceSub, Nat.reduceLeDiff, true_and, and_true, true_or, or_true, or_self, reduceCtorEq, if_true, if_false, not_false_eq_true, eq_self, c223, (hs _).e80, (hs _).e89, (hs _).e95, ai_at, ma_set_set, e91, tx, show Int32.toNatClampNeg 0 = 0 from rfl, show Int32.toNatClampNeg 1 = 1 from rfl, show Int32.toNatClampNeg 2 = 2 from rfl, show Int32.toNatClampNeg 3 = 3 from rfl, show Int32.toNatClampNeg 4 = 4 from rfl, show Int32.toNatClampNeg 5 = 5 from rfl]
  refine ⟨nI_in (c := 2) (by decide) (by decide), ?_⟩
  refine s195 (A := 91 * f) (hs _) (hR _) (by omega) ?_
  rw [ai_ne _ _ (show 88 ≠ 95 by decide)]
  refine go 60 (by decide) ?_
  simp only [KX, KY, KZ, KW, KV, Nat.reduceAdd, Nat.reduceSub, Nat.reduceLeDiff, true_and, and_true, true_or, or_true, or_self, reduceCtorEq, if_true, if_false, not_false_eq_true, eq_self, c223, (hs _).e80, (hs _).e89, (hs _).e95, ai_at, ma_set_set, e91, tx, show Int32.toNatClampNeg 0 = 0 from rfl, show Int32.toNatClampNeg 1 = 1 from rfl, show Int32.toNatClampNeg 2 = 2 from rfl, show Int32.toNatClampNeg 3 = 3 from rfl, show Int32.toNatClampNeg 4 = 4 from rfl, show Int32.toNatClampNeg 5 = 5 from rfl]
  refine ⟨nI_in (c := 3) (by decide) (by decide), ?_⟩
  refine s196 (A := 91 * f) (hs _) (hR _) (by omega) ?_
  rw [ai_ne _ _ (show 88 ≠ 95 by decide)]
  refine go 60 (by decide) ?_
  simp only [KX, KY, KZ, KW, KV, Nat.reduceAdd, Nat.reduceSub, Nat.reduceLeDiff, true_and, and_true, true_or, or_true, or_self, reduceCtorEq, if_true, if_false, not_false_eq_true, eq_self, c223, (hs _).e80, (hs _).e89, (hs _).e95, ai_at, ma_set_set, e91, tx, show Int32.toNatClampNeg 0 = 0 from rfl, show Int32.toNatClampNeg 1 = 1 from rfl, show Int32.toNatClampNeg 2 = 2 from rfl, show Int32.toNatClampNeg 3 = 3 from rfl, show Int32.toNatClampNeg 4 = 4 from rfl, show Int32.toNatClampNeg 5 = 5 from rfl]
  refine ⟨nI_in (c := 4) (by decide) (by decide), vx, nI_in (c := 5) (by decide) (by decide), ?_⟩
  rw [ai_ne _ _ (show 89 ≠ 95 by decide)]
  exact k
theorem s224 {h : ma_H} {Q : ma_Q} {x w wt : Int32} {f n : Nat} {R : (Nat → Int32) → Nat → Bool} (H : Sh h) (Rh : Rt h) (l : f < 4) (q : x = nI f) (e : fi h 80 14 = nI n) (n8 : n ≤ 8) (A : LA h n R) (k : ∀ g, Q (some (.int (lastU (ai h 50) (R (nmv (ai h 95) w wt (su (ml_ice (ai h 88) (91 * f)) 91) (ml_span (fun i => ai h 88 (91 * f + i)) 91) (ml_edge (fun i => ai h 88 (91 * f + i)) 91) (ai h 89 f))) n))) (ma_set (ma_set h 95 (.inl (.int, 6, .inl (nmv (ai h 95) w wt (su (ml_ice (ai h 88) (91 * f)) 91) (ml_span (fun i => ai h 88 (91 * f + i)) 91) (ml_edge (fun i => ai h 88 (91 * f + i)) 91) (ai h 89 f))))) 98 (.inl (.boolean, 100, .inl g)))) : ma_X 224 [.ref 80, .int x, .int w, .int wt] h Q := by
  have H1 : Sh (ma_set h 95 (.inl (.int, 6, .inl (nmv (ai h 95) w wt (su (ml_ice (ai h 88) (91 * f)) 91) (ml_span (fun i => ai h 88 (91 * f + i)) 91) (ml_edge (fun i => ai h 88 (91 * f + i)) 91) (ai h 89 f))))) := sh_set H rfl
  have hs : ∀ g, Sh (ma_set (ma_set h 95 (.inl (.int, 6, .inl (nmv (ai h 95) w wt (su (ml_ice (ai h 88) (91 * f)) 91) (ml_span (fun i => ai h 88 (91 * f + i)) 91) (ml_edge (fun i => ai h 88 (91 * f + i)) 91) (ai h 89 f))))) 98 (.inl (.boolean, 100, .inl g))) := fun g => sh_set H1 rfl
  have c92 : ∀ g, ai (ma_set (ma_set h 95 (.inl (.int, 6, .inl (nmv (ai h 95) w wt (su (ml_ice (ai h 88) (91 * f)) 91) (ml_span (fun i => ai h 88 (91 * f + i)) 91) (ml_edge (fun i => ai h 88 (91 * f + i)) 91) (ai h 89 f))))) 98 (.inl (.boolean, 100, .inl g))) 92 = ai h 92 := fun g => (ai_ne _ _ (by decide)).trans (ai_ne _ _ (by decide))
  have c14 : ∀ g, fi (ma_set (ma_set h 95 (.inl (.int, 6, .inl (nmv (ai h 95) w wt (su (ml_ice (ai h 88) (91 * f)) 91) (ml_span (fun i => ai h 88 (91 * f + i)) 91) (ml_edge (fun i => ai h 88 (91 * f + i)) 91) (ai h 89 f))))) 98 (.inl (.boolean, 100, .inl g))) 80 14 = nI n := fun g => ((fi_ne _ _ _ (by decide)).trans (fi_ne _ _ _ (by decide))).trans e
  have WM : ∀ i, i < n → ∀ (g : Nat → Int32) (Q : ma_Q), (∀ g2, Q (some (.int (bI ((R (nmv (ai h 95) w wt (su (ml_ice (ai h 88) (91 * f)) 91) (ml_span (fun i => ai h 88 (91 * f + i)) 91) (ml_edge (fun i => ai h 88 (91 * f + i)) 91) (ai h 89 f))) i)))) (ma_set (ma_set h 95 (.inl (.int, 6, .inl (nmv (ai h 95) w wt (su (ml_ice (ai h 88) (91 * f)) 91) (ml_span (fun i => ai h 88 (91 * f + i)) 91) (ml_edge (fun i => ai h 88 (91 * f + i)) 91) (ai h 89 f))))) 98 (.inl (.boolean, 100, .inl g2)))) → ma_X 189 [.ref 80, .ref 93, .int (ai h 92 (3 * i + 1)), .int (ai h 92 (3 * i + 2))] (ma_set (ma_set h 95 (.inl (.int, 6, .inl (nmv (ai h 95) w wt (su (ml_ice (ai h 88) (91 * f)) 91) (ml_span (fun i => ai h 88 (91 * f + i)) 91) (ml_edge (fun i => ai h 88 (91 * f + i)) 91) (ai h 89 f))))) 98 (.inl (.boolean, 100, .inl g))) Q := fun i hi g Q k => (A i hi).2.2.2.2 _ _ Q (hs g) ((ma_set_ne _ _ (by decide)).trans (ma_set_ne _ _ (by decide))) ((ma_set_ne _ _ (by decide)).trans (ma_set_at _ _ _)) (fun g2 => by rw [ma_set_set]; exact k g2)
  have lp : ∀ d i, i + d = n → ∀ g, At 224 Q 9 (0, 0) [some (.ref 80), some (.int x), some (.int w), some (.int wt), some (.int (lastU (ai h 50) (R (nmv (ai h 95) w wt (su (ml_ice (ai h 88) (91 * f)) 91) (ml_span (fun i => ai h 88 (91 * f + i)) 91) (ml_edge (fun i => ai h 88 (91 * f + i)) 91) (ai h 89 f))) i)), some (.int (nI i))] [] (ma_set (ma_set h 95 (.inl (.int, 6, .inl (nmv (ai h 95) w wt (su (ml_ice (ai h 88) (91 * f)) 91) (ml_span (fun i => ai h 88 (91 * f + i)) 91) (ml_edge (fun i => ai h 88 (91 * f + i)) 91) (ai h 89 f))))) 98 (.inl (.boolean, 100, .inl g))) := by
    intro d
    induction d with
    | zero =>
      intro i ei g
      obtain rfl : i = n := by omega
      refine go 60 (by decide) ?_
      simp only [KX, KY, KZ, KW, KV, Nat.reduceAdd, Nat.reduceSub, Nat.reduceLeDiff, true_and, and_true, true_or, or_true, or_self, reduceCtorEq, if_true, if_false, not_false_eq_true, eq_self, c224, (hs _).e80, c14]
      rw [if_neg (nI_nlt (Nat.le_refl _) (by omega))]
      exact k g
    | succ d ih =>
      intro i ei g
      have hi : i < n := by omega
      have e3 : (3 : Int32) * nI i = nI (3 * i) := nI_mul 3 i
      have i1 : nI (3 * i) + 1 = nI (3 * i + 1) := nI_add (3 * i) 1
      have i2 : nI (3 * i) + 2 = nI (3 * i + 2) := nI_add (3 * i) 2
      obtain ⟨u1, u2, -⟩ := A i hi
      refine go 60 (by decide) ?_
      simp only [KX, KY, KZ, KW, KV, Nat.reduceAdd, Nat.reduceSub, Nat.reduceLeDiff, true_and, and_true, true_or, or_true, or_self, reduceCtorEq, if_true, if_false, not_false_eq_true, eq_self, c224, (hs _).e80, (hs _).e92, e3, ai_at, c14]
      rw [if_pos (nI_lt hi (by omega)), nI_clamp (show 3 * i < 2 ^ 31 by omega), c92, ← u1]
      refine ⟨nI_in (show 3 * i < 24 by omega) (by decide), ?_⟩
      have un : ai h 50 i < 0 ↔ ai h 50 i = -1 := by
        rcases u2 with z | ⟨u, u5, z⟩
        · rw [z]; decide
        · rw [z]
          exact ⟨fun y => absurd y (nI_pos (by omega)), fun y => absurd (show nI u < 0 by rw [y]; decide) (nI_pos (by omega))⟩
      by_cases c : ai h 50 i = -1
      · rw [if_pos (un.mpr c)]
        have e2 : lastU (ai h 50) (R (nmv (ai h 95) w wt (su (ml_ice (ai h 88) (91 * f)) 91) (ml_span (fun i => ai h 88 (91 * f + i)) 91) (ml_edge (fun i => ai h 88 (91 * f + i)) 91) (ai h 89 f))) (i + 1) = lastU (ai h 50) (R (nmv (ai h 95) w wt (su (ml_ice (ai h 88) (91 * f)) 91) (ml_span (fun i => ai h 88 (91 * f + i)) 91) (ml_edge (fun i => ai h 88 (91 * f + i)) 91) (ai h 89 f))) i := if_pos c
        have ih2 := ih (i + 1) (by omega) g
        rw [e2] at ih2
        first
          | (with_reducible show At 224 _ 9 _ _ _ _)
          | (refine go 60 (by decide) ?_; simp only [KX, KY, KZ, KW, KV, Nat.reduceAdd, Nat.reduceSub, Nat.reduceLeDiff, true_and, and_true, true_or, or_true, or_self, reduceCtorEq, if_true, if_false, not_false_eq_true, eq_self, c224, (hs _).e80, (hs _).e92, e3, ai_at])
        first
          | (with_reducible show At 224 _ 9 _ _ _ _)
          | (refine go 60 (by decide) ?_; simp only [KX, KY, KZ, KW, KV, Nat.reduceAdd, Nat.reduceSub, Nat.reduceLeDiff, true_and, and_true, true_or, or_true, or_self, reduceCtorEq, if_true, if_false, not_false_eq_true, eq_self, c224, (hs _).e80, (hs _).e92, e3, ai_at])
        first
          | (with_reducible show At 224 _ 9 _ _ _ _)
          | (refine go 60 (by decide) ?_; simp only [KX, KY, KZ, KW, KV, Nat.reduceAdd, Nat.reduceSub, Nat.reduceLeDiff, true_and, and_true, true_or, or_true, or_self, reduceCtorEq, if_true, if_false, not_false_eq_true, eq_self, c224, (hs _).e80, (hs _).e92, e3, ai_at])
        rw [nI_1 i]
        exact At_le ih2 ⟨rfl, rfl, rfl, rfl, rfl, rfl, trivial⟩
      · rw [if_neg (fun z => c (un.mp z))]
        rw [i1, i2, nI_clamp (show 3 * i + 1 < 2 ^ 31 by omega), nI_clamp (show 3 * i + 2 < 2 ^ 31 by omega)]
        refine ⟨nI_in (show 3 * i + 1 < 24 by omega) (by decide), nI_in (show 3 * i + 2 < 24 by omega) (by decide), ?_⟩
        refine WM i hi g _ (fun g2 => ?_)
        cases b : (R (nmv (ai h 95) w wt (su (ml_ice (ai h 88) (91 * f)) 91) (ml_span (fun i => ai h 88 (91 * f + i)) 91) (ml_edge (fun i => ai h 88 (91 * f + i)) 91) (ai h 89 f))) i
        · rw [show bI false = 0 from rfl]
          have e2 : lastU (ai h 50) (R (nmv (ai h 95) w wt (su (ml_ice (ai h 88) (91 * f)) 91) (ml_span (fun i => ai h 88 (91 * f + i)) 91) (ml_edge (fun i => ai h 88 (91 * f + i)) 91) (ai h 89 f))) (i + 1) = lastU (ai h 50) (R (nmv (ai h 95) w wt (su (ml_ice (ai h 88) (91 * f)) 91) (ml_span (fun i => ai h 88 (91 * f + i)) 91) (ml_edge (fun i => ai h 88 (91 * f + i)) 91) (ai h 89 f))) i := (if_neg c).trans (if_neg (by rw [b]; decide))
          have ih2 := ih (i + 1) (by omega) g2
          rw [e2] at ih2
          first
            | (with_reducible show At 224 _ 9 _ _ _ _)
            | (refine go 60 (by decide) ?_; simp only [KX, KY, KZ, KW, KV, Nat.reduceAdd, Nat.reduceSub, Nat.reduceLeDiff, true_and, and_true, true_or, or_true, or_self, reduceCtorEq, if_true, if_false, not_false_eq_true, eq_self, c224, (hs _).e80, (hs _).e92, e3, ai_at])
          first
            | (with_reducible show At 224 _ 9 _ _ _ _)
            | (refine go 60 (by decide) ?_; simp only [KX, KY, KZ, KW, KV, Nat.reduceAdd, Nat.reduceSub, Nat.reduceLeDiff, true_and, and_true, true_or, or_true, or_self, reduceCtorEq, if_true, if_false, not_false_eq_true, eq_self, c224, (hs _).e80, (hs _).e92, e3, ai_at])
          first
            | (with_reducible show At 224 _ 9 _ _ _ _)
            | (refine go 60 (by decide) ?_; simp only [KX, KY, KZ, KW, KV, Nat.reduceAdd, Nat.reduceSub, Nat.reduceLeDiff, true_and, and_true, true_or, or_true, or_self, reduceCtorEq, if_true, if_false, not_false_eq_true, eq_self, c224, (hs _).e80, (hs _).e92, e3, ai_at])
          rw [nI_1 i]
          exact At_le ih2 ⟨rfl, rfl, rfl, rfl, rfl, rfl, trivial⟩
        · rw [show bI true = 1 from rfl]
          refine go 60 (by decide) ?_
          simp only [KX, KY, KZ, KW, KV, Nat.reduceAdd, Nat.reduceSub, Nat.reduceLeDiff, true_and, and_true, true_or, or_true, or_self, reduceCtorEq, if_true, if_false, not_false_eq_true, eq_self, c224, (hs _).e80, (hs _).e92, e3, ai_at]
          have e2 : lastU (ai h 50) (R (nmv (ai h 95) w wt (su (ml_ice (ai h 88) (91 * f)) 91) (ml_span (fun i => ai h 88 (91 * f + i)) 91) (ml_edge (fun i => ai h 88 (91 * f + i)) 91) (ai h 89 f))) (i + 1) = ai h 50 i := (if_neg c).trans (if_pos b)
          have ih2 := ih (i + 1) (by omega) g2
          rw [e2] at ih2
          rw [nI_clamp (show 3 * i < 2 ^ 31 by omega), c92, ← u1]
          refine ⟨nI_in (show 3 * i < 24 by omega) (by decide), ?_⟩
          first
            | (with_reducible show At 224 _ 9 _ _ _ _)
            | (refine go 60 (by decide) ?_; simp only [KX, KY, KZ, KW, KV, Nat.reduceAdd, Nat.reduceSub, Nat.reduceLeDiff, true_and, and_true, true_or, or_true, or_self, reduceCtorEq, if_true, if_false, not_false_eq_true, eq_self, c224, (hs _).e80, (hs _).e92, e3, ai_at])
          first
            | (with_reducible show At 224 _ 9 _ _ _ _)
            | (refine go 60 (by decide) ?_; simp only [KX, KY, KZ, KW, KV, Nat.reduceAdd, Nat.reduceSub, Nat.reduceLeDiff, true_and, and_true, true_or, or_true, or_self, reduceCtorEq, if_true, if_false, not_false_eq_true, eq_self, c224, (hs _).e80, (hs _).e92, e3, ai_at])
          first
            | (with_reducible show At 224 _ 9 _ _ _ _)
            | (refine go 60 (by decide) ?_; simp only [KX, KY, KZ, KW, KV, Nat.reduceAdd, Nat.reduceSub, Nat.reduceLeDiff, true_and, and_true, true_or, or_true, or_self, reduceCtorEq, if_true, if_false, not_false_eq_true, eq_self, c224, (hs _).e80, (hs _).e92, e3, ai_at])
          rw [nI_1 i]
          exact At_le ih2 ⟨rfl, rfl, rfl, rfl, rfl, rfl, trivial⟩
  refine ma_enter (m := 224) (Or.inl (by decide)) (by show 4 ≤ mt_n 224; decide +kernel) ?_
  show At 224 Q 0 (mt_c 224) [some (.ref 80), some (.int x), some (.int w), some (.int wt), none, none] [] h
  refine go 60 (by decide) ?_
  simp only [KX, KY, KZ, KW, KV, Nat.reduceAdd, Nat.reduceSub, Nat.reduceLeDiff, true_and, and_true, true_or, or_true, or_self, reduceCtorEq, if_true, if_false, not_false_eq_true, eq_self, c224, H.e80]
  refine s223 H Rh l q ?_
  refine go 60 (by decide) ?_
  simp only [KX, KY, KZ, KW, KV, Nat.reduceAdd, Nat.reduceSub, Nat.reduceLeDiff, true_and, and_true, true_or, or_true, or_self, reduceCtorEq, if_true, if_false, not_false_eq_true, eq_self, c224]
  have l0 := lp n 0 (by omega) (ai (ma_set h 95 (.inl (.int, 6, .inl (nmv (ai h 95) w wt (su (ml_ice (ai h 88) (91 * f)) 91) (ml_span (fun i => ai h 88 (91 * f + i)) 91) (ml_edge (fun i => ai h 88 (91 * f + i)) 91) (ai h 89 f))))) 98)
  rw [show (ma_set (ma_set h 95 (.inl (.int, 6, .inl (nmv (ai h 95) w wt (su (ml_ice (ai h 88) (91 * f)) 91) (ml_span (fun i => ai h 88 (91 * f + i)) 91) (ml_edge (fun i => ai h 88 (91 * f + i)) 91) (ai h 89 f))))) 98 (.inl (.boolean, 100, .inl (ai (ma_set h 95 (.inl (.int, 6, .inl (nmv (ai h 95) w wt (su (ml_ice (ai h 88) (91 * f)) 91) (ml_span (fun i => ai h 88 (91 * f + i)) 91) (ml_edge (fun i => ai h 88 (91 * f + i)) 91) (ai h 89 f))))) 98)))) = (ma_set h 95 (.inl (.int, 6, .inl (nmv (ai h 95) w wt (su (ml_ice (ai h 88) (91 * f)) 91) (ml_span (fun i => ai h 88 (91 * f + i)) 91) (ml_edge (fun i => ai h 88 (91 * f + i)) 91) (ai h 89 f))))) from ma_set_id H1.e98] at l0
  exact l0
theorem s226 {h : ma_H} {Q : ma_Q} {x : Int32} {f n : Nat} {R : (Nat → Int32) → Nat → Bool} (H : Sh h) (Rh : Rt h) (l : f < 4) (q : x = nI f) (e : fi h 80 14 = nI n) (n8 : n ≤ 8) (A : LA h n R) (k : ∀ g, Q (some (.int (someP (ai h 50) (R (nmv (ai h 95) 0 0 (su (ml_ice (ai h 88) (91 * f)) 91) (ml_span (fun i => ai h 88 (91 * f + i)) 91) (ml_edge (fun i => ai h 88 (91 * f + i)) 91) (ai h 89 f))) n))) (ma_set (ma_set h 95 (.inl (.int, 6, .inl (nmv (ai h 95) 0 0 (su (ml_ice (ai h 88) (91 * f)) 91) (ml_span (fun i => ai h 88 (91 * f + i)) 91) (ml_edge (fun i => ai h 88 (91 * f + i)) 91) (ai h 89 f))))) 98 (.inl (.boolean, 100, .inl g)))) : ma_X 226 [.ref 80, .int x] h Q := by
  have tx : x.toNatClampNeg = f := by subst q; exact nI_clamp (by omega)
  have vx : vp_in x 4 := by subst q; exact nI_in l (by decide)
  have x1 : ¬ x < 0 := by subst q; exact nI_pos (by omega)
  have x3 : x ≤ 3 := by subst q; exact nI_le (a := f) (b := 3) (by omega) (by decide)
  have e91 := ix91n q
  have H1 : Sh (ma_set h 95 (.inl (.int, 6, .inl (nmv (ai h 95) 0 0 (su (ml_ice (ai h 88) (91 * f)) 91) (ml_span (fun i => ai h 88 (91 * f + i)) 91) (ml_edge (fun i => ai h 88 (91 * f + i)) 91) (ai h 89 f))))) := sh_set H rfl
  have hs : ∀ g, Sh (ma_set (ma_set h 95 (.inl (.int, 6, .inl (nmv (ai h 95) 0 0 (su (ml_ice (ai h 88) (91 * f)) 91) (ml_span (fun i => ai h 88 (91 * f + i)) 91) (ml_edge (fun i => ai h 88 (91 * f + i)) 91) (ai h 89 f))))) 98 (.inl (.boolean, 100, .inl g))) := fun g => sh_set H1 rfl
  have c92 : ∀ g, ai (ma_set (ma_set h 95 (.inl (.int, 6, .inl (nmv (ai h 95) 0 0 (su (ml_ice (ai h 88) (91 * f)) 91) (ml_span (fun i => ai h 88 (91 * f + i)) 91) (ml_edge (fun i => ai h 88 (91 * f + i)) 91) (ai h 89 f))))) 98 (.inl (.boolean, 100, .inl g))) 92 = ai h 92 := fun g => (ai_ne _ _ (by decide)).trans (ai_ne _ _ (by decide))
  have c14 : ∀ g, fi (ma_set (ma_set h 95 (.inl (.int, 6, .inl (nmv (ai h 95) 0 0 (su (ml_ice (ai h 88) (91 * f)) 91) (ml_span (fun i => ai h 88 (91 * f + i)) 91) (ml_edge (fun i => ai h 88 (91 * f + i)) 91) (ai h 89 f))))) 98 (.inl (.boolean, 100, .inl g))) 80 14 = nI n := fun g => ((fi_ne _ _ _ (by decide)).trans (fi_ne _ _ _ (by decide))).trans e
  have WM : ∀ i, i < n → ∀ (g : Nat → Int32) (Q : ma_Q), (∀ g2, Q (some (.int (bI ((R (nmv (ai h 95) 0 0 (su (ml_ice (ai h 88) (91 * f)) 91) (ml_span (fun i => ai h 88 (91 * f + i)) 91) (ml_edge (fun i => ai h 88 (91 * f + i)) 91) (ai h 89 f))) i)))) (ma_set (ma_set h 95 (.inl (.int, 6, .inl (nmv (ai h 95) 0 0 (su (ml_ice (ai h 88) (91 * f)) 91) (ml_span (fun i => ai h 88 (91 * f + i)) 91) (ml_edge (fun i => ai h 88 (91 * f + i)) 91) (ai h 89 f))))) 98 (.inl (.boolean, 100, .inl g2)))) → ma_X 189 [.ref 80, .ref 93, .int (ai h 92 (3 * i + 1)), .int (ai h 92 (3 * i + 2))] (ma_set (ma_set h 95 (.inl (.int, 6, .inl (nmv (ai h 95) 0 0 (su (ml_ice (ai h 88) (91 * f)) 91) (ml_span (fun i => ai h 88 (91 * f + i)) 91) (ml_edge (fun i => ai h 88 (91 * f + i)) 91) (ai h 89 f))))) 98 (.inl (.boolean, 100, .inl g))) Q := fun i hi g Q k => (A i hi).2.2.2.2 _ _ Q (hs g) ((ma_set_ne _ _ (by decide)).trans (ma_set_ne _ _ (by decide))) ((ma_set_ne _ _ (by decide)).trans (ma_set_at _ _ _)) (fun g2 => by rw [ma_set_set]; exact k g2)
  have lp : ∀ d i, i + d = n → ∀ g, At 226 Q 14 (0, 0) [some (.ref 80), some (.int x), some (.int (someP (ai h 50) (R (nmv (ai h 95) 0 0 (su (ml_ice (ai h 88) (91 * f)) 91) (ml_span (fun i => ai h 88 (91 * f + i)) 91) (ml_edge (fun i => ai h 88 (91 * f + i)) 91) (ai h 89 f))) i)), some (.int (nI i))] [] (ma_set (ma_set h 95 (.inl (.int, 6, .inl (nmv (ai h 95) 0 0 (su (ml_ice (ai h 88) (91 * f)) 91) (ml_span (fun i => ai h 88 (91 * f + i)) 91) (ml_edge (fun i => ai h 88 (91 * f + i)) 91) (ai h 89 f))))) 98 (.inl (.boolean, 100, .inl g))) := by
    intro d
    induction d with
    | zero =>
      intro i ei g
      obtain rfl : i = n := by omega
      refine go 60 (by decide) ?_
      simp only [KX, KY, KZ, KW, KV, Nat.reduceAdd, Nat.reduceSub, Nat.reduceLeDiff, true_and, and_true, true_or, or_true, or_self, reduceCtorEq, if_true, if_false, not_false_eq_true, eq_self, c226, (hs _).e80, c14]
      rw [if_neg (nI_nlt (Nat.le_refl _) (by omega))]
      exact k g
    | succ d ih =>
      intro i ei g
      have hi : i < n := by omega
      have e3 : (3 : Int32) * nI i = nI (3 * i) := nI_mul 3 i
      have i1 : nI (3 * i) + 1 = nI (3 * i + 1) := nI_add (3 * i) 1
      have i2 : nI (3 * i) + 2 = nI (3 * i + 2) := nI_add (3 * i) 2
      obtain ⟨u1, u2, -⟩ := A i hi
      refine go 60 (by decide) ?_
      simp only [KX, KY, KZ, KW, KV, Nat.reduceAdd, Nat.reduceSub, Nat.reduceLeDiff, true_and, and_true, true_or, or_true, or_self, reduceCtorEq, if_true, if_false, not_false_eq_true, eq_self, c226, (hs _).e80, (hs _).e92, e3, ai_at, c14]
      rw [if_pos (nI_lt hi (by omega)), nI_clamp (show 3 * i < 2 ^ 31 by omega), c92, ← u1]
      refine ⟨nI_in (show 3 * i < 24 by omega) (by decide), ?_⟩
      have un : ai h 50 i < 0 ↔ ai h 50 i = -1 := by
        rcases u2 with z | ⟨u, u5, z⟩
        · rw [z]; decide
        · rw [z]
          exact ⟨fun y => absurd y (nI_pos (by omega)), fun y => absurd (show nI u < 0 by rw [y]; decide) (nI_pos (by omega))⟩
      have s01 := someP01 (ai h 50) (R (nmv (ai h 95) 0 0 (su (ml_ice (ai h 88) (91 * f)) 91) (ml_span (fun i => ai h 88 (91 * f + i)) 91) (ml_edge (fun i => ai h 88 (91 * f + i)) 91) (ai h 89 f))) i
      by_cases c : ai h 50 i = -1
      · rw [if_pos (un.mpr c)]
        rw [i1, i2, nI_clamp (show 3 * i + 1 < 2 ^ 31 by omega), nI_clamp (show 3 * i + 2 < 2 ^ 31 by omega)]
        refine ⟨nI_in (show 3 * i + 1 < 24 by omega) (by decide), nI_in (show 3 * i + 2 < 24 by omega) (by decide), ?_⟩
        refine WM i hi g _ (fun g2 => ?_)
        cases b : (R (nmv (ai h 95) 0 0 (su (ml_ice (ai h 88) (91 * f)) 91) (ml_span (fun i => ai h 88 (91 * f + i)) 91) (ml_edge (fun i => ai h 88 (91 * f + i)) 91) (ai h 89 f))) i
        · rw [show bI false = 0 from rfl]
          have e2 : someP (ai h 50) (R (nmv (ai h 95) 0 0 (su (ml_ice (ai h 88) (91 * f)) 91) (ml_span (fun i => ai h 88 (91 * f + i)) 91) (ml_edge (fun i => ai h 88 (91 * f + i)) 91) (ai h 89 f))) (i + 1) = someP (ai h 50) (R (nmv (ai h 95) 0 0 (su (ml_ice (ai h 88) (91 * f)) 91) (ml_span (fun i => ai h 88 (91 * f + i)) 91) (ml_edge (fun i => ai h 88 (91 * f + i)) 91) (ai h 89 f))) i := someP_f b
          have ih2 := ih (i + 1) (by omega) g2
          rw [e2] at ih2
          first
            | (with_reducible show At 226 _ 14 _ _ _ _)
            | (refine go 60 (by decide) ?_; simp only [KX, KY, KZ, KW, KV, Nat.reduceAdd, Nat.reduceSub, Nat.reduceLeDiff, true_and, and_true, true_or, or_true, or_self, reduceCtorEq, if_true, if_false, not_false_eq_true, eq_self, c226, (hs _).e80, (hs _).e92, e3, ai_at])
          first
            | (with_reducible show At 226 _ 14 _ _ _ _)
            | (refine go 60 (by decide) ?_; simp only [KX, KY, KZ, KW, KV, Nat.reduceAdd, Nat.reduceSub, Nat.reduceLeDiff, true_and, and_true, true_or, or_true, or_self, reduceCtorEq, if_true, if_false, not_false_eq_true, eq_self, c226, (hs _).e80, (hs _).e92, e3, ai_at])
          first
            | (with_reducible show At 226 _ 14 _ _ _ _)
            | (refine go 60 (by decide) ?_; simp only [KX, KY, KZ, KW, KV, Nat.reduceAdd, Nat.reduceSub, Nat.reduceLeDiff, true_and, and_true, true_or, or_true, or_self, reduceCtorEq, if_true, if_false, not_false_eq_true, eq_self, c226, (hs _).e80, (hs _).e92, e3, ai_at])
          rw [nI_1 i]
          exact At_le ih2 ⟨rfl, rfl, rfl, rfl, trivial⟩
        · rw [show bI true = 1 from rfl]
          have e2 : someP (ai h 50) (R (nmv (ai h 95) 0 0 (su (ml_ice (ai h 88) (91 * f)) 91) (ml_span (fun i => ai h 88 (91 * f + i)) 91) (ml_edge (fun i => ai h 88 (91 * f + i)) 91) (ai h 89 f))) (i + 1) = 1 := someP_y c b
          have ih2 := ih (i + 1) (by omega) g2
          rw [e2] at ih2
          first
            | (with_reducible show At 226 _ 14 _ _ _ _)
            | (refine go 60 (by decide) ?_; simp only [KX, KY, KZ, KW, KV, Nat.reduceAdd, Nat.reduceSub, Nat.reduceLeDiff, true_and, and_true, true_or, or_true, or_self, reduceCtorEq, if_true, if_false, not_false_eq_true, eq_self, c226, (hs _).e80, (hs _).e92, e3, ai_at])
          first
            | (with_reducible show At 226 _ 14 _ _ _ _)
            | (refine go 60 (by decide) ?_; simp only [KX, KY, KZ, KW, KV, Nat.reduceAdd, Nat.reduceSub, Nat.reduceLeDiff, true_and, and_true, true_or, or_true, or_self, reduceCtorEq, if_true, if_false, not_false_eq_true, eq_self, c226, (hs _).e80, (hs _).e92, e3, ai_at])
          first
            | (with_reducible show At 226 _ 14 _ _ _ _)
            | (refine go 60 (by decide) ?_; simp only [KX, KY, KZ, KW, KV, Nat.reduceAdd, Nat.reduceSub, Nat.reduceLeDiff, true_and, and_true, true_or, or_true, or_self, reduceCtorEq, if_true, if_false, not_false_eq_true, eq_self, c226, (hs _).e80, (hs _).e92, e3, ai_at])
          rw [nI_1 i]
          exact At_le ih2 ⟨rfl, rfl, rfl, rfl, trivial⟩
      · rw [if_neg (fun z => c (un.mp z))]
        have e2 : someP (ai h 50) (R (nmv (ai h 95) 0 0 (su (ml_ice (ai h 88) (91 * f)) 91) (ml_span (fun i => ai h 88 (91 * f + i)) 91) (ml_edge (fun i => ai h 88 (91 * f + i)) 91) (ai h 89 f))) (i + 1) = someP (ai h 50) (R (nmv (ai h 95) 0 0 (su (ml_ice (ai h 88) (91 * f)) 91) (ml_span (fun i => ai h 88 (91 * f + i)) 91) (ml_edge (fun i => ai h 88 (91 * f + i)) 91) (ai h 89 f))) i := someP_n c
        have ih2 := ih (i + 1) (by omega) g
        rw [e2] at ih2
        first
          | (with_reducible show At 226 _ 14 _ _ _ _)
          | (refine go 60 (by decide) ?_; simp only [KX, KY, KZ, KW, KV, Nat.reduceAdd, Nat.reduceSub, Nat.reduceLeDiff, true_and, and_true, true_or, or_true, or_self, reduceCtorEq, if_true, if_false, not_false_eq_true, eq_self, c226, (hs _).e80, (hs _).e92, e3, ai_at])
        first
          | (with_reducible show At 226 _ 14 _ _ _ _)
          | (refine go 60 (by decide) ?_; simp only [KX, KY, KZ, KW, KV, Nat.reduceAdd, Nat.reduceSub, Nat.reduceLeDiff, true_and, and_true, true_or, or_true, or_self, reduceCtorEq, if_true, if_false, not_false_eq_true, eq_self, c226, (hs _).e80, (hs _).e92, e3, ai_at])
        first
          | (with_reducible show At 226 _ 14 _ _ _ _)
          | (refine go 60 (by decide) ?_; simp only [KX, KY, KZ, KW, KV, Nat.reduceAdd, Nat.reduceSub, Nat.reduceLeDiff, true_and, and_true, true_or, or_true, or_self, reduceCtorEq, if_true, if_false, not_false_eq_true, eq_self, c226, (hs _).e80, (hs _).e92, e3, ai_at])
        rw [nI_1 i]
        exact At_le ih2 ⟨rfl, rfl, rfl, rfl, trivial⟩
  refine ma_enter (m := 226) (Or.inl (by decide)) (by show 2 ≤ mt_n 226; decide +kernel) ?_
  show At 226 Q 0 (mt_c 226) [some (.ref 80), some (.int x), none, none] [] h
  refine go 60 (by decide) ?_
  simp only [KX, KY, KZ, KW, KV, Nat.reduceAdd, Nat.reduceSub, Nat.reduceLeDiff, true_and, and_true, true_or, or_true, or_self, reduceCtorEq, if_true, if_false, not_false_eq_true, eq_self, c226]
  refine s170y x1 x3 ?_
  refine go 60 (by decide) ?_
  simp only [KX, KY, KZ, KW, KV, Nat.reduceAdd, Nat.reduceSub, Nat.reduceLeDiff, true_and, and_true, true_or, or_true, or_self, reduceCtorEq, if_true, if_false, not_false_eq_true, eq_self, c226, H.e80]
  refine s223 H Rh l q ?_
  refine go 60 (by decide) ?_
  simp only [KX, KY, KZ, KW, KV, Nat.reduceAdd, Nat.reduceSub, Nat.reduceLeDiff, true_and, and_true, true_or, or_true, or_self, reduceCtorEq, if_true, if_false, not_false_eq_true, eq_self, c226]
  have l0 := lp n 0 (by omega) (ai (ma_set h 95 (.inl (.int, 6, .inl (nmv (ai h 95) 0 0 (su (ml_ice (ai h 88) (91 * f)) 91) (ml_span (fun i => ai h 88 (91 * f + i)) 91) (ml_edge (fun i => ai h 88 (91 * f + i)) 91) (ai h 89 f))))) 98)
  rw [show (ma_set (ma_set h 95 (.inl (.int, 6, .inl (nmv (ai h 95) 0 0 (su (ml_ice (ai h 88) (91 * f)) 91) (ml_span (fun i => ai h 88 (91 * f + i)) 91) (ml_edge (fun i => ai h 88 (91 * f + i)) 91) (ai h 89 f))))) 98 (.inl (.boolean, 100, .inl (ai (ma_set h 95 (.inl (.int, 6, .inl (nmv (ai h 95) 0 0 (su (ml_ice (ai h 88) (91 * f)) 91) (ml_span (fun i => ai h 88 (91 * f + i)) 91) (ml_edge (fun i => ai h 88 (91 * f + i)) 91) (ai h 89 f))))) 98)))) = (ma_set h 95 (.inl (.int, 6, .inl (nmv (ai h 95) 0 0 (su (ml_ice (ai h 88) (91 * f)) 91) (ml_span (fun i => ai h 88 (91 * f + i)) 91) (ml_edge (fun i => ai h 88 (91 * f + i)) 91) (ai h 89 f))))) from ma_set_id H1.e98] at l0
  exact l0
