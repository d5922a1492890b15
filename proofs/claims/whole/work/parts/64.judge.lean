/-! judge answers alike, the Model -/
theorem jm_congr {n c : Nat} {a b r k a' b' r' k' : Nat → Int32} (ha : ∀ i, i < n → a i = a' i ∧ b i = b' i) (hr : ∀ i, i < c → r i = r' i ∧ k i = k' i) : ∀ f i, i + f ≤ n → jm n c a b r k f i = jm n c a' b' r' k' f i
  | 0, _, _ => rfl
  | f + 1, i, hi => by
    have ih := jm_congr ha hr f (i + 1) (by omega)
    show (if c ≤ i then nI (i + 1) else if a i = r i then (if b i = k i then jm n c a b r k f (i + 1) else nI (i + 1)) else nI (i + 1)) = (if c ≤ i then nI (i + 1) else if a' i = r' i then (if b' i = k' i then jm n c a' b' r' k' f (i + 1) else nI (i + 1)) else nI (i + 1))
    by_cases g : c ≤ i
    · rw [if_pos g, if_pos g]
    · rw [if_neg g, if_neg g, (ha i (by omega)).1, (ha i (by omega)).2, (hr i (by omega)).1, (hr i (by omega)).2, ih]
theorem s246 {h : ma_H} {Q : ma_Q} {x : Int32} {f n : Nat} {K : Nat → Int32} (H : Sh h) (R : Rt h) (l : f < 4) (q : x = nI f) (n6 : n ≤ 6) (e : fi h 80 41 = nI n) (hK : ∀ i, i < 6 → su (ml_ringIce (ai h 88) (nI i) (91 * f)) 91 = K i) (k : ∀ h1, PM h K 6 h1 → Q (some (.int (jm n (cnt K 6) (fun i => ai h1 104 (2 * i)) (fun i => ai h1 104 (2 * i + 1)) (fun i => ai h1 105 (2 * i)) (fun i => ai h1 105 (2 * i + 1)) n 0))) h1) : ma_X 246 [.ref 80, .int x] h Q := by
  have hc := cnt_le K 6
  have lp : ∀ h1, PM h K 6 h1 → ∀ m i, i + m = n → Q (some (.int (jm n (cnt K 6) (fun i => ai h1 104 (2 * i)) (fun i => ai h1 104 (2 * i + 1)) (fun i => ai h1 105 (2 * i)) (fun i => ai h1 105 (2 * i + 1)) m i))) h1 → At 246 Q 10 (0, 0) [some (.ref 80), some (.int x), some (.int (nI i))] [] h1 := by
    intro h1 P m
    have P1 := P.1
    have P4 := P.2.2.2.1
    induction m with
    | zero =>
      intro i em kk
      obtain rfl : i = n := by omega
      refine go 60 (by decide) ?_
      simp only [KX, KY, KZ, KW, KV, Nat.reduceAdd, Nat.reduceSub, Nat.reduceLeDiff, true_and, and_true, true_or, or_true, or_self, reduceCtorEq, if_true, if_false, not_false_eq_true, eq_self, c246, P4, e]
      rw [if_neg (nI_nlt (Nat.le_refl _) (by omega))]
      by_cases c2 : i < cnt K 6
      · rw [if_pos (nI_lt c2 (by omega))]
        rw [show jm i (cnt K 6) (fun i => ai h1 104 (2 * i)) (fun i => ai h1 104 (2 * i + 1)) (fun i => ai h1 105 (2 * i)) (fun i => ai h1 105 (2 * i + 1)) 0 i = 222 from if_pos c2] at kk
        exact kk
      · rw [if_neg (nI_nlt (by omega) (by omega))]
        rw [show jm i (cnt K 6) (fun i => ai h1 104 (2 * i)) (fun i => ai h1 104 (2 * i + 1)) (fun i => ai h1 105 (2 * i)) (fun i => ai h1 105 (2 * i + 1)) 0 i = 0 from if_neg c2] at kk
        exact kk
    | succ m ih =>
      intro i em kk
      have i1 := ix1 12 (by decide) (show nI i = nI i from rfl) (by omega)
      have i2 := ix2 1 12 (by decide) (show nI i = nI i from rfl) (by omega)
      have i2b : (2 * nI i + 1 : Int32).toNatClampNeg = 2 * i + 1 := i2.2
      have d : jm n (cnt K 6) (fun i => ai h1 104 (2 * i)) (fun i => ai h1 104 (2 * i + 1)) (fun i => ai h1 105 (2 * i)) (fun i => ai h1 105 (2 * i + 1)) (m + 1) i = if cnt K 6 ≤ i then nI (i + 1) else if ai h1 104 (2 * i) = ai h1 105 (2 * i) then (if ai h1 104 (2 * i + 1) = ai h1 105 (2 * i + 1) then jm n (cnt K 6) (fun i => ai h1 104 (2 * i)) (fun i => ai h1 104 (2 * i + 1)) (fun i => ai h1 105 (2 * i)) (fun i => ai h1 105 (2 * i + 1)) m (i + 1) else nI (i + 1)) else nI (i + 1) := rfl
      refine go 60 (by decide) ?_
      simp only [KX, KY, KZ, KW, KV, Nat.reduceAdd, Nat.reduceSub, Nat.reduceLeDiff, true_and, and_true, true_or, or_true, or_self, reduceCtorEq, if_true, if_false, not_false_eq_true, eq_self, c246, P4, e, P1.e104, P1.e105, i1.2, i2b]
      rw [if_pos (nI_lt (show i < n by omega) (by omega))]
      by_cases g : cnt K 6 ≤ i
      · rw [if_neg (nI_nlt g (by omega)), nI_1]
        rw [d, if_pos g] at kk
        exact kk
      · rw [if_pos (nI_lt (show i < cnt K 6 by omega) (by omega))]
        rw [if_neg g] at d
        refine ⟨i1.1, i1.1, ?_⟩
        by_cases g1 : ai h1 104 (2 * i) = ai h1 105 (2 * i)
        · rw [if_pos g1] at d ⊢
          refine ⟨i2.1, i2.1, ?_⟩
          by_cases g2 : ai h1 104 (2 * i + 1) = ai h1 105 (2 * i + 1)
          · rw [if_pos g2] at d ⊢
            rw [d] at kk
            rw [nI_1]
            exact ih (i + 1) (by omega) kk
          · rw [if_neg g2] at d ⊢
            rw [d] at kk
            rw [nI_1]
            exact kk
        · rw [if_neg g1] at d ⊢
          rw [d] at kk
          rw [nI_1]
          exact kk
  refine ma_enter (m := 246) (Or.inl (by decide)) (by show 2 ≤ mt_n 246; decide +kernel) ?_
  show At 246 Q 0 (mt_c 246) [some (.ref 80), some (.int x), none] [] h
  refine go 60 (by decide) ?_
  simp only [KX, KY, KZ, KW, KV, Nat.reduceAdd, Nat.reduceSub, Nat.reduceLeDiff, true_and, and_true, true_or, or_true, or_self, reduceCtorEq, if_true, if_false, not_false_eq_true, eq_self, c246]
  refine s170y (by subst q; exact nI_pos (by omega)) (by subst q; exact nI_le (a := f) (b := 3) (by omega) (by decide)) ?_
  refine go 60 (by decide) ?_
  simp only [KX, KY, KZ, KW, KV, Nat.reduceAdd, Nat.reduceSub, Nat.reduceLeDiff, true_and, and_true, true_or, or_true, or_self, reduceCtorEq, if_true, if_false, not_false_eq_true, eq_self, c246, H.e80]
  refine s241 H R l q hK (fun h1 P => ?_)
  refine go 60 (by decide) ?_
  simp only [KX, KY, KZ, KW, KV, Nat.reduceAdd, Nat.reduceSub, Nat.reduceLeDiff, true_and, and_true, true_or, or_true, or_self, reduceCtorEq, if_true, if_false, not_false_eq_true, eq_self, c246]
  exact lp h1 P n 0 (by omega) (k h1 P)
theorem s246n {h : ma_H} {Q : ma_Q} {x : Int32} (o : x < 0 ∨ ¬ x ≤ 3) (k : Q (some (.int (-1))) h) : ma_X 246 [.ref 80, .int x] h Q := by
  refine ma_enter (m := 246) (Or.inl (by decide)) (by show 2 ≤ mt_n 246; decide +kernel) ?_
  show At 246 Q 0 (mt_c 246) [some (.ref 80), some (.int x), none] [] h
  refine go 60 (by decide) ?_
  simp only [KX, KY, KZ, KW, KV, Nat.reduceAdd, Nat.reduceSub, Nat.reduceLeDiff, true_and, and_true, true_or, or_true, or_self, reduceCtorEq, if_true, if_false, not_false_eq_true, eq_self, c246]
  refine s170n o ?_
  refine go 60 (by decide) ?_
  simp only [KX, KY, KZ, KW, KV, Nat.reduceAdd, Nat.reduceSub, Nat.reduceLeDiff, true_and, and_true, true_or, or_true, or_self, reduceCtorEq, if_true, if_false, not_false_eq_true, eq_self, c246]
  exact k
theorem s133n {h : ma_H} {Q : ma_Q} {x : Int32} (H : Sh h) (o : x < 0 ∨ ¬ x < 4) (k : Q (some (.int (-1))) h) : ma_X 133 [.ref 0, .int x] h Q := by
  refine ma_enter (m := 133) (Or.inl (by decide)) (by show 2 ≤ mt_n 133; decide +kernel) ?_
  show At 133 Q 0 (mt_c 133) [some (.ref 0), some (.int x), none, none, none, none] [] h
  refine go 60 (by decide) ?_
  simp only [KX, KY, KZ, KW, KV, Nat.reduceAdd, Nat.reduceSub, Nat.reduceLeDiff, true_and, and_true, true_or, or_true, or_self, reduceCtorEq, if_true, if_false, not_false_eq_true, eq_self, c133, H.e0]
  refine s145n H o ?_
  refine go 60 (by decide) ?_
  simp only [KX, KY, KZ, KW, KV, Nat.reduceAdd, Nat.reduceSub, Nat.reduceLeDiff, true_and, and_true, true_or, or_true, or_self, reduceCtorEq, if_true, if_false, not_false_eq_true, eq_self, c133]
  exact k
theorem p133 {h : ma_H} {x : Int32} (I : Inv h) : Pair h 133 246 [.int x] := by
  intro Q k
  rcases icasB x 3 (by decide) with ⟨f, l, q, -⟩ | ⟨o1, o2⟩
  · obtain ⟨n, n6, w1, w2, w3⟩ := I.rw
    refine s133 (K := fun i => su (fl_ringIce (ai h (37 + 3 * f)) (nI i)) 91) I.sh I.rr l q n6 w1 (fun i _ => rfl) (k _ _ (by repeat (first | exact e80_I I | exact e80_S (by assumption) | exact e80_I (by assumption) | exact e80_n I.sh | refine e80_s (by omega) ?_)) fun Q2 k2 => ?_)
    refine s246 (K := fun i => su (fl_ringIce (ai h (37 + 3 * f)) (nI i)) 91) I.sh I.rt l q n6 w2 (fun i _ => su_ring I.nf l _) (fun h2 M => ?_)
    obtain ⟨M1, M2, M3, M4, M5⟩ := M
    have c104 : ai h2 104 = ai h 104 := by show aiC _ = aiC _; rw [M3 104 (by decide) (by decide)]
    rw [← jm_congr (n := n) (c := cnt (fun i => su (fl_ringIce (ai h (37 + 3 * f)) (nI i)) 91) 6) (a := fun i => ai h (12 + i) 0) (b := fun i => ai h (12 + i) 1) (r := rr (fun i => su (fl_ringIce (ai h (37 + 3 * f)) (nI i)) 91) 6) (k := rk (fun i => su (fl_ringIce (ai h (37 + 3 * f)) (nI i)) 91) 6) (fun i hi => ?_) (fun i hi => ?_) n 0 (by omega)]
    · refine k2 _ (I.rows M1 M2 (fun a a1 a2 a3 a4 a5 => M3 a a2 a5) (fun i hi => ?_) (fun i h41 h42 => ?_) ⟨n, n6, ?_, ?_, fun i hi j hj => ?_⟩)
      · show fiC (h2.2.1 0) i = fiC (h.2.1 0) i
        rw [M3 0 (by decide) (by decide)]
      · show fiC (h2.2.1 80) i = fiC (h.2.1 80) i
        rw [M4, I.sh.e80]
        exact fi_set (k := 12) (L := mO h) (j := 42) h42
      · show fiC (h2.2.1 0) 8 = _
        rw [M3 0 (by decide) (by decide)]
        exact w1
      · show fiC (h2.2.1 80) 41 = _
        rw [M4]
        exact w2
      · show aiC (h2.2.1 (12 + i)) j = _
        rw [M3 (12 + i) (by omega) (by omega), c104]
        exact w3 i hi j hj
    · show ai h (12 + i) 0 = ai h2 104 (2 * i) ∧ ai h (12 + i) 1 = ai h2 104 (2 * i + 1)
      rw [c104]
      exact ⟨w3 i hi 0 (by decide), w3 i hi 1 (by decide)⟩
    · exact ⟨(M5 i hi).1.symm, (M5 i hi).2.symm⟩
  · exact s133n I.sh o2 (k _ _ (by repeat (first | exact e80_I I | exact e80_S (by assumption) | exact e80_I (by assumption) | exact e80_n I.sh | refine e80_s (by omega) ?_)) fun Q2 k2 => s246n o1 (k2 _ I))
