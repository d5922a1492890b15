/-! calls: copy, arm, breaks -/
theorem s206 {h : ma_H} {Q : ma_Q} {A B : Nat} (H : Sh h) (hA : A + 91 ≤ 910) (hB : B + 91 ≤ 910) (ab : A = B ∨ A + 91 ≤ B ∨ B + 91 ≤ A) (k : Q none (ma_set h 88 (.inl (.int, 910, .inl (upN (ai h 88) (fun c => B + c) (fun c => ai h 88 (A + c)) 91))))) : ma_X 206 [.ref 80, .int (nI A), .int (nI B)] h Q := by
  have hs : ∀ g, Sh (ma_set h 88 (.inl (.int, 910, .inl g))) := fun g => sh_set H rfl
  have lp : ∀ ni i, i + ni = 91 → At 206 Q 2 (0, 0) [some (.ref 80), some (.int (nI A)), some (.int (nI B)), some (.int (nI i))] [] (ma_set h 88 (.inl (.int, 910, .inl (upN (ai h 88) (fun c => B + c) (fun c => ai h 88 (A + c)) i)))) := by
    intro ni
    induction ni with
    | zero =>
      intro i e
      obtain rfl : i = 91 := by omega
      refine go 60 (by decide) ?_
      simp only [KX, KY, KZ, KW, KV, Nat.reduceAdd, Nat.reduceSub, Nat.reduceLeDiff, true_and, and_true, true_or, or_true, or_self, reduceCtorEq, if_true, if_false, not_false_eq_true, eq_self, c206, (hs _).e80, (hs _).e88]
      rw [if_neg (show ¬ nI 91 < (91 : Int32) from nI_nlt (Nat.le_refl _) (by decide))]
      exact k
    | succ ni ih =>
      intro i e
      have hi : i < 91 := by omega
      have e1i := nI_1 i
      refine go 60 (by decide) ?_
      simp only [KX, KY, KZ, KW, KV, Nat.reduceAdd, Nat.reduceSub, Nat.reduceLeDiff, true_and, and_true, true_or, or_true, or_self, reduceCtorEq, if_true, if_false, not_false_eq_true, eq_self, c206, (hs _).e80, (hs _).e88]
      rw [if_pos (show nI i < (91 : Int32) from nI_lt hi (by decide))]
      rw [nI_add, nI_add, nI_clamp (show A + i < 2 ^ 31 by omega), nI_clamp (show B + i < 2 ^ 31 by omega)]
      refine ⟨nI_in (show A + i < 910 by omega) (by decide), nI_in (show B + i < 910 by omega) (by decide), ?_⟩
      rw [ma_set_set, e1i, ai_at]
      rw [upN_ne (j := A + i) i (fun j hj => by omega)]
      exact ih (i + 1) (by omega)
  refine ma_enter (m := 206) (Or.inl (by decide)) (by show 3 ≤ mt_n 206; decide +kernel) ?_
  show At 206 Q 0 (mt_c 206) [some (.ref 80), some (.int (nI A)), some (.int (nI B)), none] [] h
  refine go 60 (by decide) ?_
  simp only [KX, KY, KZ, KW, KV, Nat.reduceAdd, Nat.reduceSub, Nat.reduceLeDiff, true_and, and_true, true_or, or_true, or_self, reduceCtorEq, if_true, if_false, not_false_eq_true, eq_self, c206]
  have l0 := lp 91 0 rfl
  rw [show (ma_set h 88 (.inl (.int, 910, .inl (upN (ai h 88) (fun c => B + c) (fun c => ai h 88 (A + c)) 0)))) = h from ma_set_id H.e88] at l0
  exact l0
theorem s113 {h : ma_H} {Q : ma_Q} {x y : Int32} {f f2 : Nat} (H : Sh h) (R : Rr h) (hf : f < 4) (hf2 : f2 < 4) (q : x = nI f) (q2 : y = nI f2) (k : Q (some (.int (su (fl_ice (va_cpy (ai h (37 + 3 * f2)) (ai h (37 + 3 * f)) 0 0 169)) 91))) (ma_set (ma_set h (37 + 3 * f) (.inl (.int, 169, .inl (va_cpy (ai h (37 + 3 * f2)) (ai h (37 + 3 * f)) 0 0 169)))) (36 + 3 * f) (.inr (2, [.int (fi h (36 + 3 * f2) 0), .ref (37 + 3 * f), .ref (38 + 3 * f)])))) : ma_X 113 [.ref 0, .int x, .int y] h Q := by
  refine ma_enter (m := 113) (Or.inl (by decide)) (by show 3 ≤ mt_n 113; decide +kernel) ?_
  show At 113 Q 0 (mt_c 113) [some (.ref 0), some (.int x), some (.int y), none, none] [] h
  refine go 60 (by decide) ?_
  simp only [KX, KY, KZ, KW, KV, Nat.reduceAdd, Nat.reduceSub, Nat.reduceLeDiff, true_and, and_true, true_or, or_true, or_self, reduceCtorEq, if_true, if_false, not_false_eq_true, eq_self, c113, H.e0]
  refine s145e H R hf q ?_
  refine go 60 (by decide) ?_
  simp only [KX, KY, KZ, KW, KV, Nat.reduceAdd, Nat.reduceSub, Nat.reduceLeDiff, true_and, and_true, true_or, or_true, or_self, reduceCtorEq, if_true, if_false, not_false_eq_true, eq_self, c113, H.e0]
  refine s145e H R hf2 q2 ?_
  refine go 60 (by decide) ?_
  simp only [KX, KY, KZ, KW, KV, Nat.reduceAdd, Nat.reduceSub, Nat.reduceLeDiff, true_and, and_true, true_or, or_true, or_self, reduceCtorEq, if_true, if_false, not_false_eq_true, eq_self, c113, H.e0, (H.fn hf).1]
  refine s16 (H.fn hf).1 (H.fn hf).2.1 (H.fn hf2).1 (H.fn hf2).2.1 (by omega) (by omega) ?_
  refine go 60 (by decide) ?_
  simp only [KX, KY, KZ, KW, KV, Nat.reduceAdd, Nat.reduceSub, Nat.reduceLeDiff, true_and, and_true, true_or, or_true, or_self, reduceCtorEq, if_true, if_false, not_false_eq_true, eq_self, c113, ma_set_at]
  refine s22 (ma_set_at _ _ _) (by rw [ma_set_ne _ _ (by omega), ma_set_at]) ?_
  refine go 60 (by decide) ?_
  simp only [KX, KY, KZ, KW, KV, Nat.reduceAdd, Nat.reduceSub, Nat.reduceLeDiff, true_and, and_true, true_or, or_true, or_self, reduceCtorEq, if_true, if_false, not_false_eq_true, eq_self, c113]
  exact k
theorem s207 {h : ma_H} {Q : ma_Q} {x y : Int32} {f f2 : Nat} (H : Sh h) (hf : f < 4) (hf2 : f2 < 4) (q : x = nI f) (q2 : y = nI f2) (k : Q (some (.int (su (ml_ice (upN (ai h 88) (fun c => 91 * f + c) (fun c => ai h 88 (91 * f2 + c)) 91) (91 * f)) 91))) (ma_set (ma_set h 88 (.inl (.int, 910, .inl (upN (ai h 88) (fun c => 91 * f + c) (fun c => ai h 88 (91 * f2 + c)) 91)))) 89 (.inl (.int, 4, .inl (upd (ai h 89) f (ai h 89 f2)))))) : ma_X 207 [.ref 80, .int x, .int y] h Q := by
  have hs : ∀ g, Sh (ma_set h 88 (.inl (.int, 910, .inl g))) := fun g => sh_set H rfl
  have tx : x.toNatClampNeg = f := by subst q; exact nI_clamp (by omega)
  have ty : y.toNatClampNeg = f2 := by subst q2; exact nI_clamp (by omega)
  have e9 : ∀ g, ai (ma_set h 88 (.inl (.int, 910, .inl g))) 89 = ai h 89 := fun g => ai_ne _ _ (by omega)
  refine ma_enter (m := 207) (Or.inl (by decide)) (by show 3 ≤ mt_n 207; decide +kernel) ?_
  show At 207 Q 0 (mt_c 207) [some (.ref 80), some (.int x), some (.int y)] [] h
  refine go 60 (by decide) ?_
  simp only [KX, KY, KZ, KW, KV, Nat.reduceAdd, Nat.reduceSub, Nat.reduceLeDiff, true_and, and_true, true_or, or_true, or_self, reduceCtorEq, if_true, if_false, not_false_eq_true, eq_self, c207]
  refine s170y (by subst q; exact nI_pos (by omega)) (by subst q; exact nI_le (a := f) (b := 3) (by omega) (by decide)) ?_
  refine go 60 (by decide) ?_
  simp only [KX, KY, KZ, KW, KV, Nat.reduceAdd, Nat.reduceSub, Nat.reduceLeDiff, true_and, and_true, true_or, or_true, or_self, reduceCtorEq, if_true, if_false, not_false_eq_true, eq_self, c207]
  refine s170y (by subst q2; exact nI_pos (by omega)) (by subst q2; exact nI_le (a := f2) (b := 3) (by omega) (by decide)) ?_
  refine go 60 (by decide) ?_
  simp only [KX, KY, KZ, KW, KV, Nat.reduceAdd, Nat.reduceSub, Nat.reduceLeDiff, true_and, and_true, true_or, or_true, or_self, reduceCtorEq, if_true, if_false, not_false_eq_true, eq_self, c207, H.e80]
  rw [ix91n q, ix91n q2]
  refine s206 H (by omega) (by omega) (by omega) ?_
  refine go 60 (by decide) ?_
  simp only [KX, KY, KZ, KW, KV, Nat.reduceAdd, Nat.reduceSub, Nat.reduceLeDiff, true_and, and_true, true_or, or_true, or_self, reduceCtorEq, if_true, if_false, not_false_eq_true, eq_self, c207, (hs _).e80, (hs _).e89, e9]
  rw [tx, ty]
  refine ⟨by subst q2; exact nI_in (by omega) (by decide), by subst q; exact nI_in (by omega) (by decide), ?_⟩
  rw [ix91n q]
  have H2 := sh_set (hs (upN (ai h 88) (fun c => 91 * f + c) (fun c => ai h 88 (91 * f2 + c)) 91)) (a := 89) (c := .inl (.int, 4, .inl (upd (ai h 89) f (ai h 89 f2)))) rfl
  simp only [KX, KY, KZ, KW, KV, Nat.reduceAdd, Nat.reduceSub, Nat.reduceLeDiff, true_and, and_true, true_or, or_true, or_self, reduceCtorEq, if_true, if_false, not_false_eq_true, eq_self, H2.e80]
  refine s173 (A := 91 * f) H2.e80 rfl H2.e88 (by omega) ?_
  rw [ai_ne _ _ (by omega), ai_at]
  refine go 60 (by decide) ?_
  simp only [KX, KY, KZ, KW, KV, Nat.reduceAdd, Nat.reduceSub, Nat.reduceLeDiff, true_and, and_true, true_or, or_true, or_self, reduceCtorEq, if_true, if_false, not_false_eq_true, eq_self, c207]
  exact k
theorem s113n {h : ma_H} {Q : ma_Q} {x y : Int32} (H : Sh h) (R : Rr h) (o : (x < 0 ∨ ¬ x < 4) ∨ (∃ f, f < 4 ∧ x = nI f) ∧ (y < 0 ∨ ¬ y < 4)) (k : Q (some (.int (-1))) h) : ma_X 113 [.ref 0, .int x, .int y] h Q := by
  rcases o with o | ⟨⟨f, hf, q⟩, o⟩
  · refine ma_enter (m := 113) (Or.inl (by decide)) (by show 3 ≤ mt_n 113; decide +kernel) ?_
    show At 113 Q 0 (mt_c 113) [some (.ref 0), some (.int x), some (.int y), none, none] [] h
    refine go 60 (by decide) ?_
    simp only [KX, KY, KZ, KW, KV, Nat.reduceAdd, Nat.reduceSub, Nat.reduceLeDiff, true_and, and_true, true_or, or_true, or_self, reduceCtorEq, if_true, if_false, not_false_eq_true, eq_self, c113, H.e0]
    refine s145n H o ?_
    refine go 60 (by decide) ?_
    simp only [KX, KY, KZ, KW, KV, Nat.reduceAdd, Nat.reduceSub, Nat.reduceLeDiff, true_and, and_true, true_or, or_true, or_self, reduceCtorEq, if_true, if_false, not_false_eq_true, eq_self, c113, H.e0]
    rcases icasB y 3 (by decide) with ⟨f2, l2, q2, -⟩ | ⟨-, o2⟩
    · refine s145e H R l2 q2 ?_
      refine go 60 (by decide) ?_
      simp only [KX, KY, KZ, KW, KV, Nat.reduceAdd, Nat.reduceSub, Nat.reduceLeDiff, true_and, and_true, true_or, or_true, or_self, reduceCtorEq, if_true, if_false, not_false_eq_true, eq_self, c113, H.e0]
      exact k
    · refine s145n H o2 ?_
      refine go 60 (by decide) ?_
      simp only [KX, KY, KZ, KW, KV, Nat.reduceAdd, Nat.reduceSub, Nat.reduceLeDiff, true_and, and_true, true_or, or_true, or_self, reduceCtorEq, if_true, if_false, not_false_eq_true, eq_self, c113, H.e0]
      exact k
  · refine ma_enter (m := 113) (Or.inl (by decide)) (by show 3 ≤ mt_n 113; decide +kernel) ?_
    show At 113 Q 0 (mt_c 113) [some (.ref 0), some (.int x), some (.int y), none, none] [] h
    refine go 60 (by decide) ?_
    simp only [KX, KY, KZ, KW, KV, Nat.reduceAdd, Nat.reduceSub, Nat.reduceLeDiff, true_and, and_true, true_or, or_true, or_self, reduceCtorEq, if_true, if_false, not_false_eq_true, eq_self, c113, H.e0]
    refine s145e H R hf q ?_
    refine go 60 (by decide) ?_
    simp only [KX, KY, KZ, KW, KV, Nat.reduceAdd, Nat.reduceSub, Nat.reduceLeDiff, true_and, and_true, true_or, or_true, or_self, reduceCtorEq, if_true, if_false, not_false_eq_true, eq_self, c113, H.e0]
    refine s145n H o ?_
    refine go 60 (by decide) ?_
    simp only [KX, KY, KZ, KW, KV, Nat.reduceAdd, Nat.reduceSub, Nat.reduceLeDiff, true_and, and_true, true_or, or_true, or_self, reduceCtorEq, if_true, if_false, not_false_eq_true, eq_self, c113, H.e0]
    exact k
theorem s207n {h : ma_H} {Q : ma_Q} {x y : Int32} (o : (x < 0 ∨ ¬ x ≤ 3) ∨ (y < 0 ∨ ¬ y ≤ 3)) (k : Q (some (.int (-1))) h) : ma_X 207 [.ref 80, .int x, .int y] h Q := by
  refine ma_enter (m := 207) (Or.inl (by decide)) (by show 3 ≤ mt_n 207; decide +kernel) ?_
  show At 207 Q 0 (mt_c 207) [some (.ref 80), some (.int x), some (.int y)] [] h
  refine go 60 (by decide) ?_
  simp only [KX, KY, KZ, KW, KV, Nat.reduceAdd, Nat.reduceSub, Nat.reduceLeDiff, true_and, and_true, true_or, or_true, or_self, reduceCtorEq, if_true, if_false, not_false_eq_true, eq_self, c207]
  by_cases e : i_in x 0 3 = 0
  · refine s170 ?_
    rw [e]
    refine go 60 (by decide) ?_
    simp only [KX, KY, KZ, KW, KV, Nat.reduceAdd, Nat.reduceSub, Nat.reduceLeDiff, true_and, and_true, true_or, or_true, or_self, reduceCtorEq, if_true, if_false, not_false_eq_true, eq_self, c207]
    exact k
  · refine s170 ?_
    have e1 : i_in x 0 3 = 1 := (i_in01n x 0 3).resolve_left e
    rw [e1]
    refine go 60 (by decide) ?_
    simp only [KX, KY, KZ, KW, KV, Nat.reduceAdd, Nat.reduceSub, Nat.reduceLeDiff, true_and, and_true, true_or, or_true, or_self, reduceCtorEq, if_true, if_false, not_false_eq_true, eq_self, c207]
    have ow : y < 0 ∨ ¬ y ≤ 3 := o.resolve_left (fun z => e (i_in_no z))
    refine s170n ow ?_
    refine go 60 (by decide) ?_
    simp only [KX, KY, KZ, KW, KV, Nat.reduceAdd, Nat.reduceSub, Nat.reduceLeDiff, true_and, and_true, true_or, or_true, or_self, reduceCtorEq, if_true, if_false, not_false_eq_true, eq_self, c207]
    exact k
theorem cpy_at {g g2 : Nat → Int32} {q : Nat} (hq : q < 169) : va_cpy g2 g 0 0 169 q = g2 q := sb_cpy0 hq
theorem fl_cpy_ok {g g2 : Nat → Int32} (ok : fl_ok g2) : fl_ok (va_cpy g2 g 0 0 169) := ⟨fun i hi => by rw [cpy_at (cell_lt i hi).1]; exact ok.1 i hi, fun q hq w => by rw [cpy_at hq]; exact ok.2 q hq w⟩
theorem p113 {h : ma_H} {x y : Int32} (I : Inv h) : Pair h 113 207 [.int x, .int y] := by
  intro Q k
  rcases icasB x 3 (by decide) with ⟨f, l, q, -⟩ | ⟨o1, o2⟩
  · rcases icasB y 3 (by decide) with ⟨f2, l2, q2, -⟩ | ⟨o1, o2⟩
    · refine s113 I.sh I.rr l l2 q q2 (k _ _ (by repeat (first | exact e80_I I | exact e80_S (by assumption) | exact e80_I (by assumption) | exact e80_n I.sh | refine e80_s (by omega) ?_)) fun Q2 k2 => ?_)
      have H1 := sh_set (sh_set I.sh (nf_s l (va_cpy (ai h (37 + 3 * f2)) (ai h (37 + 3 * f)) 0 0 169))) (nf_o l (fi h (36 + 3 * f2) 0))
      refine s207 H1 l l2 q q2 ?_
      have ea : ai (ma_set (ma_set h (37 + 3 * f) (.inl (.int, 169, .inl (va_cpy (ai h (37 + 3 * f2)) (ai h (37 + 3 * f)) 0 0 169)))) (36 + 3 * f) (.inr (2, [.int (fi h (36 + 3 * f2) 0), .ref (37 + 3 * f), .ref (38 + 3 * f)]))) 88 = ai h 88 := by simp (disch := omega) only [ai_ne]
      have eb : ai (ma_set (ma_set h (37 + 3 * f) (.inl (.int, 169, .inl (va_cpy (ai h (37 + 3 * f2)) (ai h (37 + 3 * f)) 0 0 169)))) (36 + 3 * f) (.inr (2, [.int (fi h (36 + 3 * f2) 0), .ref (37 + 3 * f), .ref (38 + 3 * f)]))) 89 = ai h 89 := by simp (disch := omega) only [ai_ne]
      rw [ea, eb]
      have ev : ∀ i, i < 91 → va_cpy (ai h (37 + 3 * f2)) (ai h (37 + 3 * f)) 0 0 169 (ma_cell i) = upN (ai h 88) (fun c => 91 * f + c) (fun c => ai h 88 (91 * f2 + c)) 91 (91 * f + i) := fun i hi => by
        rw [cpy_at (cell_lt i hi).1, upN_at (p := fun c => 91 * f + c) 91 (fun i j _ _ e => by omega) i hi, I.nf.eq l2 hi]
      have es : su (fl_ice (va_cpy (ai h (37 + 3 * f2)) (ai h (37 + 3 * f)) 0 0 169)) 91 = su (ml_ice (upN (ai h 88) (fun c => 91 * f + c) (fun c => ai h 88 (91 * f2 + c)) 91) (91 * f)) 91 := su_congr 91 fun i hi => by
        unfold fl_ice ml_ice fl_has
        rw [ev i hi]
      rw [← es]
      obtain ⟨n, n6, m1, m2⟩ := I.nf.mf l2
      refine k2 _ (I.flk l (sh_set (sh_set H1 rfl) rfl) rfl (fun a a1 a2 a3 a4 => ?_) ?_ (fun i hi => ?_) (fun i hi => ?_) (fun j hj w => ?_) ⟨n, n6, ?_, ?_⟩ (fun j hj w => ?_)) <;> (try simp (disch := omega) only [ai_ne, ai_at, fi_ne, fi_at0])
      · unfold exf at a4
        rw [ma_set_ne _ _ (by omega), ma_set_ne _ _ (by omega), ma_set_ne _ _ (by omega), ma_set_ne _ _ (by omega)]
      · exact fl_cpy_ok (I.nf.ok l2)
      · exact ev i hi
      · rw [← ev i hi, cpy_at (cell_lt i hi).1, I.nf.eq l2 hi]
        exact I.nf.b l2 hi
      · exact upN_ne 91 w
      · exact m1
      · unfold upd
        rw [if_pos rfl]
        exact m2
      · exact if_neg w
    · exact s113n I.sh I.rr (Or.inr ⟨⟨f, l, q⟩, o2⟩) (k _ _ (by repeat (first | exact e80_I I | exact e80_S (by assumption) | exact e80_I (by assumption) | exact e80_n I.sh | refine e80_s (by omega) ?_)) fun Q2 k2 => s207n (Or.inr o1) (k2 _ I))
  · exact s113n I.sh I.rr (Or.inl o2) (k _ _ (by repeat (first | exact e80_I I | exact e80_S (by assumption) | exact e80_I (by assumption) | exact e80_n I.sh | refine e80_s (by omega) ?_)) fun Q2 k2 => s207n (Or.inl o1) (k2 _ I))
