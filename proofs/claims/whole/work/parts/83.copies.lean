/-! copies -/
theorem s134n {h : ma_H} {Q : ma_Q} {x y : Int32} (H : Sh h) (R : Rr h) (o : (x < 0 ∨ ¬ x < 4) ∨ (∃ f, f < 4 ∧ x = nI f) ∧ (y < 0 ∨ ¬ y < 4)) (k : Q (some (.int (-1))) h) : ma_X 134 [.ref 0, .int x, .int y] h Q := by
  refine ma_enter (m := 134) (Or.inl (by decide)) (by show 3 ≤ mt_n 134; decide +kernel) ?_
  show At 134 Q 0 (mt_c 134) [some (.ref 0), some (.int x), some (.int y), none] [] h
  refine go 60 (by decide) ?_
  simp only [KX, KY, KZ, KW, KV, Nat.reduceAdd, Nat.reduceSub, Nat.reduceLeDiff, true_and, and_true, true_or, or_true, or_self, reduceCtorEq, if_true, if_false, not_false_eq_true, eq_self, c134, H.e0]
  rcases o with o | ⟨⟨f, l, q⟩, o⟩
  · refine s145n H o ?_
    refine go 60 (by decide) ?_
    simp only [KX, KY, KZ, KW, KV, Nat.reduceAdd, Nat.reduceSub, Nat.reduceLeDiff, true_and, and_true, true_or, or_true, or_self, reduceCtorEq, if_true, if_false, not_false_eq_true, eq_self, c134, H.e0]
    exact k
  · refine s145e H R l q ?_
    refine go 60 (by decide) ?_
    simp only [KX, KY, KZ, KW, KV, Nat.reduceAdd, Nat.reduceSub, Nat.reduceLeDiff, true_and, and_true, true_or, or_true, or_self, reduceCtorEq, if_true, if_false, not_false_eq_true, eq_self, c134, H.e0]
    refine s148n o ?_
    refine go 60 (by decide) ?_
    simp only [KX, KY, KZ, KW, KV, Nat.reduceAdd, Nat.reduceSub, Nat.reduceLeDiff, true_and, and_true, true_or, or_true, or_self, reduceCtorEq, if_true, if_false, not_false_eq_true, eq_self, c134]
    exact k
theorem s134e {h : ma_H} {Q : ma_Q} {x y : Int32} {f s : Nat} (H : Sh h) (R : Rr h) (l : f < 4) (q : x = nI f) (ls : s < 4) (qs : y = nI s) (so : ai h 23 s < 0) (k : Q (some (.int (-11))) h) : ma_X 134 [.ref 0, .int x, .int y] h Q := by
  have ty : y.toNatClampNeg = s := by subst qs; exact nI_clamp (by omega)
  have vy : vp_in y 4 := by subst qs; exact nI_in ls (by decide)
  have y1 : ¬ y < 0 := by subst qs; exact nI_pos (by omega)
  have y2 : y < 4 := by subst qs; exact nI_lt (b := 4) ls (by decide)
  have y3 : y ≤ 3 := by subst qs; exact nI_le (a := s) (b := 3) (by omega) (by decide)
  refine ma_enter (m := 134) (Or.inl (by decide)) (by show 3 ≤ mt_n 134; decide +kernel) ?_
  show At 134 Q 0 (mt_c 134) [some (.ref 0), some (.int x), some (.int y), none] [] h
  refine go 60 (by decide) ?_
  simp only [KX, KY, KZ, KW, KV, Nat.reduceAdd, Nat.reduceSub, Nat.reduceLeDiff, true_and, and_true, true_or, or_true, or_self, reduceCtorEq, if_true, if_false, not_false_eq_true, eq_self, c134, H.e0]
  refine s145e H R l q ?_
  refine go 60 (by decide) ?_
  simp only [KX, KY, KZ, KW, KV, Nat.reduceAdd, Nat.reduceSub, Nat.reduceLeDiff, true_and, and_true, true_or, or_true, or_self, reduceCtorEq, if_true, if_false, not_false_eq_true, eq_self, c134, H.e0]
  refine s148y y1 y2 ?_
  refine go 60 (by decide) ?_
  simp only [KX, KY, KZ, KW, KV, Nat.reduceAdd, Nat.reduceSub, Nat.reduceLeDiff, true_and, and_true, true_or, or_true, or_self, reduceCtorEq, if_true, if_false, not_false_eq_true, eq_self, c134, H.e0, H.e23, ty]
  refine ⟨vy, ?_⟩
  rw [if_pos so]
  exact k
theorem s134o {h : ma_H} {Q : ma_Q} {x y : Int32} {f s : Nat} (H : Sh h) (R : Rr h) (l : f < 4) (q : x = nI f) (ls : s < 4) (qs : y = nI s) (s0 : ¬ ai h 23 s < 0) (s2 : ¬ ai h 23 s = 2) (k : Q (some (.int (-13))) h) : ma_X 134 [.ref 0, .int x, .int y] h Q := by
  have ty : y.toNatClampNeg = s := by subst qs; exact nI_clamp (by omega)
  have vy : vp_in y 4 := by subst qs; exact nI_in ls (by decide)
  have y1 : ¬ y < 0 := by subst qs; exact nI_pos (by omega)
  have y2 : y < 4 := by subst qs; exact nI_lt (b := 4) ls (by decide)
  have y3 : y ≤ 3 := by subst qs; exact nI_le (a := s) (b := 3) (by omega) (by decide)
  refine ma_enter (m := 134) (Or.inl (by decide)) (by show 3 ≤ mt_n 134; decide +kernel) ?_
  show At 134 Q 0 (mt_c 134) [some (.ref 0), some (.int x), some (.int y), none] [] h
  refine go 60 (by decide) ?_
  simp only [KX, KY, KZ, KW, KV, Nat.reduceAdd, Nat.reduceSub, Nat.reduceLeDiff, true_and, and_true, true_or, or_true, or_self, reduceCtorEq, if_true, if_false, not_false_eq_true, eq_self, c134, H.e0]
  refine s145e H R l q ?_
  refine go 60 (by decide) ?_
  simp only [KX, KY, KZ, KW, KV, Nat.reduceAdd, Nat.reduceSub, Nat.reduceLeDiff, true_and, and_true, true_or, or_true, or_self, reduceCtorEq, if_true, if_false, not_false_eq_true, eq_self, c134, H.e0]
  refine s148y y1 y2 ?_
  refine go 60 (by decide) ?_
  simp only [KX, KY, KZ, KW, KV, Nat.reduceAdd, Nat.reduceSub, Nat.reduceLeDiff, true_and, and_true, true_or, or_true, or_self, reduceCtorEq, if_true, if_false, not_false_eq_true, eq_self, c134, H.e0, H.e23, ty]
  refine ⟨vy, ?_⟩
  rw [if_neg s0]
  try (refine go 60 (by decide) ?_; simp only [KX, KY, KZ, KW, KV, Nat.reduceAdd, Nat.reduceSub, Nat.reduceLeDiff, true_and, and_true, true_or, or_true, or_self, reduceCtorEq, if_true, if_false, not_false_eq_true, eq_self, c134, H.e0, H.e23, ty])
  first
    | (refine ⟨vy, ?_⟩; rw [if_neg s2]; exact k)
    | (rw [if_neg s2]; exact k)
theorem s134 {h : ma_H} {Q : ma_Q} {x y : Int32} {f s : Nat} (H : Sh h) (R : Rr h) (l : f < 4) (q : x = nI f) (ls : s < 4) (qs : y = nI s) {nn : Nat} (s2 : ai h 23 s = 2) (sn : ai h 24 s = nI nn) (hn : nn ≤ 40) (hm : fi h (36 + 3 * f) 0 ≠ -2) (hg : fl_ok (ai h (37 + 3 * f))) (k : Q (some (.int (su (told (ai h (19 + s)) nn) 91))) (ma_set h (37 + 3 * f) (.inl (.int, 169, .inl (fl_tk (ai h (37 + 3 * f)) (ai h (19 + s)) nn (fi h (36 + 3 * f) 0) 91))))) : ma_X 134 [.ref 0, .int x, .int y] h Q := by
  have ty : y.toNatClampNeg = s := by subst qs; exact nI_clamp (by omega)
  have vy : vp_in y 4 := by subst qs; exact nI_in ls (by decide)
  have y1 : ¬ y < 0 := by subst qs; exact nI_pos (by omega)
  have y2 : y < 4 := by subst qs; exact nI_lt (b := 4) ls (by decide)
  have y3 : y ≤ 3 := by subst qs; exact nI_le (a := s) (b := 3) (by omega) (by decide)
  refine ma_enter (m := 134) (Or.inl (by decide)) (by show 3 ≤ mt_n 134; decide +kernel) ?_
  show At 134 Q 0 (mt_c 134) [some (.ref 0), some (.int x), some (.int y), none] [] h
  refine go 60 (by decide) ?_
  simp only [KX, KY, KZ, KW, KV, Nat.reduceAdd, Nat.reduceSub, Nat.reduceLeDiff, true_and, and_true, true_or, or_true, or_self, reduceCtorEq, if_true, if_false, not_false_eq_true, eq_self, c134, H.e0]
  refine s145e H R l q ?_
  refine go 60 (by decide) ?_
  simp only [KX, KY, KZ, KW, KV, Nat.reduceAdd, Nat.reduceSub, Nat.reduceLeDiff, true_and, and_true, true_or, or_true, or_self, reduceCtorEq, if_true, if_false, not_false_eq_true, eq_self, c134, H.e0]
  refine s148y y1 y2 ?_
  refine go 60 (by decide) ?_
  simp only [KX, KY, KZ, KW, KV, Nat.reduceAdd, Nat.reduceSub, Nat.reduceLeDiff, true_and, and_true, true_or, or_true, or_self, reduceCtorEq, if_true, if_false, not_false_eq_true, eq_self, c134, H.e0, H.e18, H.e23, H.e24, ty, s2, sn, (H.fn l).1, (R.2.2.2 s ls), rf_some, Int32.reduceLT, show ((2 : Int32) = 2) = True from by decide]
  repeat' first
    | refine ⟨vy, ?_⟩
    | (refine go 60 (by decide) ?_; simp only [KX, KY, KZ, KW, KV, Nat.reduceAdd, Nat.reduceSub, Nat.reduceLeDiff, true_and, and_true, true_or, or_true, or_self, reduceCtorEq, if_true, if_false, not_false_eq_true, eq_self, c134, H.e0, H.e18, H.e23, H.e24, ty, s2, sn, (H.fn l).1, (R.2.2.2 s ls), rf_some, Int32.reduceLT])
  refine s35 (H.fn l).1 (H.fn l).2.1 (H.si ls) (by omega) (by omega) hm hg hn ?_
  refine go 60 (by decide) ?_
  simp only [KX, KY, KZ, KW, KV, Nat.reduceAdd, Nat.reduceSub, Nat.reduceLeDiff, true_and, and_true, true_or, or_true, or_self, reduceCtorEq, if_true, if_false, not_false_eq_true, eq_self, c134]
  exact k
theorem s247n {h : ma_H} {Q : ma_Q} {x y : Int32} (o : (x < 0 ∨ ¬ x ≤ 3) ∨ (∃ f, f < 4 ∧ x = nI f) ∧ (y < 0 ∨ ¬ y ≤ 3)) (k : Q (some (.int (-1))) h) : ma_X 247 [.ref 80, .int x, .int y] h Q := by
  refine ma_enter (m := 247) (Or.inl (by decide)) (by show 3 ≤ mt_n 247; decide +kernel) ?_
  show At 247 Q 0 (mt_c 247) [some (.ref 80), some (.int x), some (.int y), none, none, none, none] [] h
  refine go 60 (by decide) ?_
  simp only [KX, KY, KZ, KW, KV, Nat.reduceAdd, Nat.reduceSub, Nat.reduceLeDiff, true_and, and_true, true_or, or_true, or_self, reduceCtorEq, if_true, if_false, not_false_eq_true, eq_self, c247]
  rcases o with o | ⟨⟨f, l, q⟩, o⟩
  · refine s170n o ?_
    refine go 60 (by decide) ?_
    simp only [KX, KY, KZ, KW, KV, Nat.reduceAdd, Nat.reduceSub, Nat.reduceLeDiff, true_and, and_true, true_or, or_true, or_self, reduceCtorEq, if_true, if_false, not_false_eq_true, eq_self, c247]
    exact k
  · refine s170y (by subst q; exact nI_pos (by omega)) (by subst q; exact nI_le (a := f) (b := 3) (by omega) (by decide)) ?_
    refine go 60 (by decide) ?_
    simp only [KX, KY, KZ, KW, KV, Nat.reduceAdd, Nat.reduceSub, Nat.reduceLeDiff, true_and, and_true, true_or, or_true, or_self, reduceCtorEq, if_true, if_false, not_false_eq_true, eq_self, c247]
    refine s248n o ?_
    refine go 60 (by decide) ?_
    simp only [KX, KY, KZ, KW, KV, Nat.reduceAdd, Nat.reduceSub, Nat.reduceLeDiff, true_and, and_true, true_or, or_true, or_self, reduceCtorEq, if_true, if_false, not_false_eq_true, eq_self, c247]
    exact k
theorem s247e {h : ma_H} {Q : ma_Q} {x y : Int32} {f s : Nat} (H : Sh h) (l : f < 4) (q : x = nI f) (ls : s < 4) (qs : y = nI s) (so : ai h 106 s < 0) (k : Q (some (.int (-11))) h) : ma_X 247 [.ref 80, .int x, .int y] h Q := by
  have tx : x.toNatClampNeg = f := by subst q; exact nI_clamp (by omega)
  have vx : vp_in x 4 := by subst q; exact nI_in l (by decide)
  have x1 : ¬ x < 0 := by subst q; exact nI_pos (by omega)
  have x3 : x ≤ 3 := by subst q; exact nI_le (a := f) (b := 3) (by omega) (by decide)
  have e91 := ix91n q
  have ty : y.toNatClampNeg = s := by subst qs; exact nI_clamp (by omega)
  have vy : vp_in y 4 := by subst qs; exact nI_in ls (by decide)
  have y1 : ¬ y < 0 := by subst qs; exact nI_pos (by omega)
  have y2 : y < 4 := by subst qs; exact nI_lt (b := 4) ls (by decide)
  have y3 : y ≤ 3 := by subst qs; exact nI_le (a := s) (b := 3) (by omega) (by decide)
  refine ma_enter (m := 247) (Or.inl (by decide)) (by show 3 ≤ mt_n 247; decide +kernel) ?_
  show At 247 Q 0 (mt_c 247) [some (.ref 80), some (.int x), some (.int y), none, none, none, none] [] h
  refine go 60 (by decide) ?_
  simp only [KX, KY, KZ, KW, KV, Nat.reduceAdd, Nat.reduceSub, Nat.reduceLeDiff, true_and, and_true, true_or, or_true, or_self, reduceCtorEq, if_true, if_false, not_false_eq_true, eq_self, c247]
  refine s170y x1 x3 ?_
  refine go 60 (by decide) ?_
  simp only [KX, KY, KZ, KW, KV, Nat.reduceAdd, Nat.reduceSub, Nat.reduceLeDiff, true_and, and_true, true_or, or_true, or_self, reduceCtorEq, if_true, if_false, not_false_eq_true, eq_self, c247]
  refine s248y y1 y3 ?_
  refine go 60 (by decide) ?_
  simp only [KX, KY, KZ, KW, KV, Nat.reduceAdd, Nat.reduceSub, Nat.reduceLeDiff, true_and, and_true, true_or, or_true, or_self, reduceCtorEq, if_true, if_false, not_false_eq_true, eq_self, c247, H.e80]
  refine s251c H ls qs (fun _ => ?_) (fun a _ => absurd so a) (fun a _ => absurd so a)
  refine go 60 (by decide) ?_
  simp only [KX, KY, KZ, KW, KV, Nat.reduceAdd, Nat.reduceSub, Nat.reduceLeDiff, true_and, and_true, true_or, or_true, or_self, reduceCtorEq, if_true, if_false, not_false_eq_true, eq_self, c247, show ((-11 : Int32) = 0) = False from by decide]
  exact k
theorem s247o {h : ma_H} {Q : ma_Q} {x y : Int32} {f s : Nat} (H : Sh h) (l : f < 4) (q : x = nI f) (ls : s < 4) (qs : y = nI s) (s0 : ¬ ai h 106 s < 0) (s2 : ¬ ai h 106 s = 2) (k : Q (some (.int (-13))) h) : ma_X 247 [.ref 80, .int x, .int y] h Q := by
  have tx : x.toNatClampNeg = f := by subst q; exact nI_clamp (by omega)
  have vx : vp_in x 4 := by subst q; exact nI_in l (by decide)
  have x1 : ¬ x < 0 := by subst q; exact nI_pos (by omega)
  have x3 : x ≤ 3 := by subst q; exact nI_le (a := f) (b := 3) (by omega) (by decide)
  have e91 := ix91n q
  have ty : y.toNatClampNeg = s := by subst qs; exact nI_clamp (by omega)
  have vy : vp_in y 4 := by subst qs; exact nI_in ls (by decide)
  have y1 : ¬ y < 0 := by subst qs; exact nI_pos (by omega)
  have y2 : y < 4 := by subst qs; exact nI_lt (b := 4) ls (by decide)
  have y3 : y ≤ 3 := by subst qs; exact nI_le (a := s) (b := 3) (by omega) (by decide)
  refine ma_enter (m := 247) (Or.inl (by decide)) (by show 3 ≤ mt_n 247; decide +kernel) ?_
  show At 247 Q 0 (mt_c 247) [some (.ref 80), some (.int x), some (.int y), none, none, none, none] [] h
  refine go 60 (by decide) ?_
  simp only [KX, KY, KZ, KW, KV, Nat.reduceAdd, Nat.reduceSub, Nat.reduceLeDiff, true_and, and_true, true_or, or_true, or_self, reduceCtorEq, if_true, if_false, not_false_eq_true, eq_self, c247]
  refine s170y x1 x3 ?_
  refine go 60 (by decide) ?_
  simp only [KX, KY, KZ, KW, KV, Nat.reduceAdd, Nat.reduceSub, Nat.reduceLeDiff, true_and, and_true, true_or, or_true, or_self, reduceCtorEq, if_true, if_false, not_false_eq_true, eq_self, c247]
  refine s248y y1 y3 ?_
  refine go 60 (by decide) ?_
  simp only [KX, KY, KZ, KW, KV, Nat.reduceAdd, Nat.reduceSub, Nat.reduceLeDiff, true_and, and_true, true_or, or_true, or_self, reduceCtorEq, if_true, if_false, not_false_eq_true, eq_self, c247, H.e80]
  refine s251c H ls qs (fun a => absurd a s0) (fun _ _ => ?_) (fun _ a => absurd a s2)
  refine go 60 (by decide) ?_
  simp only [KX, KY, KZ, KW, KV, Nat.reduceAdd, Nat.reduceSub, Nat.reduceLeDiff, true_and, and_true, true_or, or_true, or_self, reduceCtorEq, if_true, if_false, not_false_eq_true, eq_self, c247, show ((-13 : Int32) = 0) = False from by decide]
  exact k
def ml_tk (g : Nat → Int32) (A : Nat) (it : Nat → Int32) (nn : Nat) (mn : Int32) : Nat → Nat → Int32 := upN g (fun c => A + c) (fun c => if told it nn c = 0 then -1 else mn)
theorem s247 {h : ma_H} {Q : ma_Q} {x y : Int32} {f s : Nat} (H : Sh h) (l : f < 4) (q : x = nI f) (ls : s < 4) (qs : y = nI s) (R : Rt h) {nn : Nat} {it : Nat → Int32} (s2 : ai h 106 s = 2) (sn : ai h 107 s = nI nn) (hn : nn ≤ 40) (hit : ∀ i, i < 40 → al h 108 (40 * s + i) = (it i).toInt64) (k : Q (some (.int (su (ml_ice (ml_tk (ai h 88) (91 * f) it nn (ai h 89 f) 91) (91 * f)) 91))) (ma_set h 88 (.inl (.int, 910, .inl (ml_tk (ai h 88) (91 * f) it nn (ai h 89 f) 91))))) : ma_X 247 [.ref 80, .int x, .int y] h Q := by
  have hs : ∀ g, Sh (ma_set h 88 (.inl (.int, 910, .inl g))) := fun g => sh_set H rfl
  have e40 : (40 : Int32) * y = nI (40 * s) := by subst qs; exact nI_mul 40 s
  have tx : x.toNatClampNeg = f := by subst q; exact nI_clamp (by omega)
  have vx : vp_in x 4 := by subst q; exact nI_in l (by decide)
  have x1 : ¬ x < 0 := by subst q; exact nI_pos (by omega)
  have x3 : x ≤ 3 := by subst q; exact nI_le (a := f) (b := 3) (by omega) (by decide)
  have e91 := ix91n q
  have ty : y.toNatClampNeg = s := by subst qs; exact nI_clamp (by omega)
  have vy : vp_in y 4 := by subst qs; exact nI_in ls (by decide)
  have y1 : ¬ y < 0 := by subst qs; exact nI_pos (by omega)
  have y2 : y < 4 := by subst qs; exact nI_lt (b := 4) ls (by decide)
  have y3 : y ≤ 3 := by subst qs; exact nI_le (a := s) (b := 3) (by omega) (by decide)
  have lp : ∀ ni i, i + ni = 91 → At 247 Q 19 (0, 0) [some (.ref 80), some (.int x), some (.int y), some (.int 0), some (.int (nI i)), none, none] [] (ma_set h 88 (.inl (.int, 910, .inl (ml_tk (ai h 88) (91 * f) it nn (ai h 89 f) i)))) := by
    intro ni
    induction ni with
    | zero =>
      intro i e
      obtain rfl : i = 91 := by omega
      refine go 60 (by decide) ?_
      simp only [KX, KY, KZ, KW, KV, Nat.reduceAdd, Nat.reduceSub, Nat.reduceLeDiff, true_and, and_true, true_or, or_true, or_self, reduceCtorEq, if_true, if_false, not_false_eq_true, eq_self, c247, (hs _).e80, (hs _).e82, (hs _).e87, (hs _).e88, (hs _).e89, (hs _).e107, (hs _).e108, ty, tx, e91, e40, ai_at, show lN ((1 : Fin 2).val) = 1 from rfl]
      rw [if_neg (show ¬ nI 91 < (91 : Int32) from nI_nlt (Nat.le_refl _) (by decide))]
      refine s173 (A := 91 * f) (hs _).e80 rfl (hs _).e88 (by omega) ?_
      rw [ai_at]
      refine go 60 (by decide) ?_
      simp only [KX, KY, KZ, KW, KV, Nat.reduceAdd, Nat.reduceSub, Nat.reduceLeDiff, true_and, and_true, true_or, or_true, or_self, reduceCtorEq, if_true, if_false, not_false_eq_true, eq_self, c247]
      exact k
    | succ ni ih =>
      intro i e
      have hi : i < 91 := by omega
      have e1i := nI_1 i
      refine go 60 (by decide) ?_
      simp only [KX, KY, KZ, KW, KV, Nat.reduceAdd, Nat.reduceSub, Nat.reduceLeDiff, true_and, and_true, true_or, or_true, or_self, reduceCtorEq, if_true, if_false, not_false_eq_true, eq_self, c247, (hs _).e80, (hs _).e82, (hs _).e87, (hs _).e88, (hs _).e89, (hs _).e107, (hs _).e108, ty, tx, e91, e40, ai_at, show lN ((1 : Fin 2).val) = 1 from rfl]
      rw [if_pos (show nI i < (91 : Int32) from nI_lt hi (by decide))]
      obtain ⟨t1, t2, -, t4, t5⟩ := tkr_ok i hi
      have r1 : ai (ma_set h 88 (.inl (.int, 910, .inl (ml_tk (ai h 88) (91 * f) it nn (ai h 89 f) i)))) 82 i + 5 = nI (tkr i) := by
        rw [ai_ne _ _ (show 82 ≠ 88 by decide), (R.1 i hi).2.1]
        exact t1
      rw [nI_clamp (show i < 2 ^ 31 by omega), r1]
      refine ⟨nI_in hi (by decide), vy, ?_⟩
      rw [ai_ne _ _ (show 107 ≠ 88 by decide), sn]
      by_cases c : tkr i < nn
      · rw [if_pos (nI_lt c (by omega)), nI_add, nI_clamp (show 40 * s + tkr i < 2 ^ 31 by omega), nI_clamp (show tkr i < 2 ^ 31 by omega), al_ne _ _ (show 108 ≠ 88 by decide), hit _ (show tkr i < 40 by omega), ai_ne _ _ (show 87 ≠ 88 by decide), R.2.2 _ t2, t5]
        refine ⟨nI_in (show 40 * s + tkr i < 160 by omega) (by decide), nI_in (show tkr i < 12 by omega) (by decide), ?_⟩
        have be := bit_eq (it (tkr i)) t4
        by_cases d : ((it (tkr i)).toUInt32 >>> ((nI (tkb i)).toUInt32 &&& Int32.toUInt32 31)).toInt32 &&& 1 = 1
        · rw [if_pos ((lg_cmp_eq _ _).mpr (be.mpr d))]
          have tz : told it nn i = 1 := (if_pos c).trans (if_pos d)
          first
            | (with_reducible show At 247 _ 58 _ _ _ _)
            | (refine go 60 (by decide) ?_; simp only [KX, KY, KZ, KW, KV, Nat.reduceAdd, Nat.reduceSub, Nat.reduceLeDiff, true_and, and_true, true_or, or_true, or_self, reduceCtorEq, if_true, if_false, not_false_eq_true, eq_self, c247, (hs _).e80, (hs _).e82, (hs _).e87, (hs _).e88, (hs _).e89, (hs _).e107, (hs _).e108, ty, tx, e91, e40, ai_at, show lN ((1 : Fin 2).val) = 1 from rfl])
          first
            | (with_reducible show At 247 _ 58 _ _ _ _)
            | (refine go 60 (by decide) ?_; simp only [KX, KY, KZ, KW, KV, Nat.reduceAdd, Nat.reduceSub, Nat.reduceLeDiff, true_and, and_true, true_or, or_true, or_self, reduceCtorEq, if_true, if_false, not_false_eq_true, eq_self, c247, (hs _).e80, (hs _).e82, (hs _).e87, (hs _).e88, (hs _).e89, (hs _).e107, (hs _).e108, ty, tx, e91, e40, ai_at, show lN ((1 : Fin 2).val) = 1 from rfl])
          first
            | (with_reducible show At 247 _ 58 _ _ _ _)
            | (refine go 60 (by decide) ?_; simp only [KX, KY, KZ, KW, KV, Nat.reduceAdd, Nat.reduceSub, Nat.reduceLeDiff, true_and, and_true, true_or, or_true, or_self, reduceCtorEq, if_true, if_false, not_false_eq_true, eq_self, c247, (hs _).e80, (hs _).e82, (hs _).e87, (hs _).e88, (hs _).e89, (hs _).e107, (hs _).e108, ty, tx, e91, e40, ai_at, show lN ((1 : Fin 2).val) = 1 from rfl])
          refine go 60 (by decide) ?_
          simp only [KX, KY, KZ, KW, KV, Nat.reduceAdd, Nat.reduceSub, Nat.reduceLeDiff, true_and, and_true, true_or, or_true, or_self, reduceCtorEq, if_true, if_false, not_false_eq_true, eq_self, c247, (hs _).e80, (hs _).e82, (hs _).e87, (hs _).e88, (hs _).e89, (hs _).e107, (hs _).e108, ty, tx, e91, e40, ai_at, show lN ((1 : Fin 2).val) = 1 from rfl]
          first
            | refine ⟨vx, ?_⟩
            | skip
          first
            | (with_reducible show At 247 _ 74 _ _ _ _)
            | (refine go 60 (by decide) ?_; simp only [KX, KY, KZ, KW, KV, Nat.reduceAdd, Nat.reduceSub, Nat.reduceLeDiff, true_and, and_true, true_or, or_true, or_self, reduceCtorEq, if_true, if_false, not_false_eq_true, eq_self, c247, (hs _).e80, (hs _).e82, (hs _).e87, (hs _).e88, (hs _).e89, (hs _).e107, (hs _).e108, ty, tx, e91, e40, ai_at, show lN ((1 : Fin 2).val) = 1 from rfl])
          first
            | (with_reducible show At 247 _ 74 _ _ _ _)
            | (refine go 60 (by decide) ?_; simp only [KX, KY, KZ, KW, KV, Nat.reduceAdd, Nat.reduceSub, Nat.reduceLeDiff, true_and, and_true, true_or, or_true, or_self, reduceCtorEq, if_true, if_false, not_false_eq_true, eq_self, c247, (hs _).e80, (hs _).e82, (hs _).e87, (hs _).e88, (hs _).e89, (hs _).e107, (hs _).e108, ty, tx, e91, e40, ai_at, show lN ((1 : Fin 2).val) = 1 from rfl])
          first
            | (with_reducible show At 247 _ 74 _ _ _ _)
            | (refine go 60 (by decide) ?_; simp only [KX, KY, KZ, KW, KV, Nat.reduceAdd, Nat.reduceSub, Nat.reduceLeDiff, true_and, and_true, true_or, or_true, or_self, reduceCtorEq, if_true, if_false, not_false_eq_true, eq_self, c247, (hs _).e80, (hs _).e82, (hs _).e87, (hs _).e88, (hs _).e89, (hs _).e107, (hs _).e108, ty, tx, e91, e40, ai_at, show lN ((1 : Fin 2).val) = 1 from rfl])
          refine go 60 (by decide) ?_
          simp only [KX, KY, KZ, KW, KV, Nat.reduceAdd, Nat.reduceSub, Nat.reduceLeDiff, true_and, and_true, true_or, or_true, or_self, reduceCtorEq, if_true, if_false, not_false_eq_true, eq_self, c247, (hs _).e80, (hs _).e82, (hs _).e87, (hs _).e88, (hs _).e89, (hs _).e107, (hs _).e108, ty, tx, e91, e40, ai_at, show lN ((1 : Fin 2).val) = 1 from rfl]
          rw [nI_add, nI_clamp (show 91 * f + i < 2 ^ 31 by omega)]
          refine ⟨nI_in (show 91 * f + i < 910 by omega) (by decide), ?_⟩
          first
            | (with_reducible show At 247 _ 19 _ _ _ _)
            | (refine go 60 (by decide) ?_; simp only [KX, KY, KZ, KW, KV, Nat.reduceAdd, Nat.reduceSub, Nat.reduceLeDiff, true_and, and_true, true_or, or_true, or_self, reduceCtorEq, if_true, if_false, not_false_eq_true, eq_self, c247, (hs _).e80, (hs _).e82, (hs _).e87, (hs _).e88, (hs _).e89, (hs _).e107, (hs _).e108, ty, tx, e91, e40, ai_at, show lN ((1 : Fin 2).val) = 1 from rfl])
          first
            | (with_reducible show At 247 _ 19 _ _ _ _)
            | (refine go 60 (by decide) ?_; simp only [KX, KY, KZ, KW, KV, Nat.reduceAdd, Nat.reduceSub, Nat.reduceLeDiff, true_and, and_true, true_or, or_true, or_self, reduceCtorEq, if_true, if_false, not_false_eq_true, eq_self, c247, (hs _).e80, (hs _).e82, (hs _).e87, (hs _).e88, (hs _).e89, (hs _).e107, (hs _).e108, ty, tx, e91, e40, ai_at, show lN ((1 : Fin 2).val) = 1 from rfl])
          first
            | (with_reducible show At 247 _ 19 _ _ _ _)
            | (refine go 60 (by decide) ?_; simp only [KX, KY, KZ, KW, KV, Nat.reduceAdd, Nat.reduceSub, Nat.reduceLeDiff, true_and, and_true, true_or, or_true, or_self, reduceCtorEq, if_true, if_false, not_false_eq_true, eq_self, c247, (hs _).e80, (hs _).e82, (hs _).e87, (hs _).e88, (hs _).e89, (hs _).e107, (hs _).e108, ty, tx, e91, e40, ai_at, show lN ((1 : Fin 2).val) = 1 from rfl])
          rw [ma_set_set, e1i]
          rw [ai_ne _ _ (show 89 ≠ 88 by decide)]
          have ih2 := ih (i + 1) (by omega)
          rw [show ml_tk (ai h 88) (91 * f) it nn (ai h 89 f) (i + 1) = upd (ml_tk (ai h 88) (91 * f) it nn (ai h 89 f) i) (91 * f + i) (ai h 89 f) by
            show upd (ml_tk (ai h 88) (91 * f) it nn (ai h 89 f) i) (91 * f + i) (if told it nn i = 0 then -1 else ai h 89 f) = _
            rw [tz]
            rfl] at ih2
          exact At_le ih2 ⟨rfl, rfl, rfl, rfl, rfl, trivial⟩
        · rw [if_neg (fun z => d (be.mp ((lg_cmp_eq _ _).mp z)))]
          have tz : told it nn i = 0 := (if_pos c).trans (if_neg d)
          first
            | (with_reducible show At 247 _ 58 _ _ _ _)
            | (refine go 60 (by decide) ?_; simp only [KX, KY, KZ, KW, KV, Nat.reduceAdd, Nat.reduceSub, Nat.reduceLeDiff, true_and, and_true, true_or, or_true, or_self, reduceCtorEq, if_true, if_false, not_false_eq_true, eq_self, c247, (hs _).e80, (hs _).e82, (hs _).e87, (hs _).e88, (hs _).e89, (hs _).e107, (hs _).e108, ty, tx, e91, e40, ai_at, show lN ((1 : Fin 2).val) = 1 from rfl])
          first
            | (with_reducible show At 247 _ 58 _ _ _ _)
            | (refine go 60 (by decide) ?_; simp only [KX, KY, KZ, KW, KV, Nat.reduceAdd, Nat.reduceSub, Nat.reduceLeDiff, true_and, and_true, true_or, or_true, or_self, reduceCtorEq, if_true, if_false, not_false_eq_true, eq_self, c247, (hs _).e80, (hs _).e82, (hs _).e87, (hs _).e88, (hs _).e89, (hs _).e107, (hs _).e108, ty, tx, e91, e40, ai_at, show lN ((1 : Fin 2).val) = 1 from rfl])
          first
            | (with_reducible show At 247 _ 58 _ _ _ _)
            | (refine go 60 (by decide) ?_; simp only [KX, KY, KZ, KW, KV, Nat.reduceAdd, Nat.reduceSub, Nat.reduceLeDiff, true_and, and_true, true_or, or_true, or_self, reduceCtorEq, if_true, if_false, not_false_eq_true, eq_self, c247, (hs _).e80, (hs _).e82, (hs _).e87, (hs _).e88, (hs _).e89, (hs _).e107, (hs _).e108, ty, tx, e91, e40, ai_at, show lN ((1 : Fin 2).val) = 1 from rfl])
          refine go 60 (by decide) ?_
          simp only [KX, KY, KZ, KW, KV, Nat.reduceAdd, Nat.reduceSub, Nat.reduceLeDiff, true_and, and_true, true_or, or_true, or_self, reduceCtorEq, if_true, if_false, not_false_eq_true, eq_self, c247, (hs _).e80, (hs _).e82, (hs _).e87, (hs _).e88, (hs _).e89, (hs _).e107, (hs _).e108, ty, tx, e91, e40, ai_at, show lN ((1 : Fin 2).val) = 1 from rfl]
          first
            | refine ⟨vx, ?_⟩
            | skip
          first
            | (with_reducible show At 247 _ 74 _ _ _ _)
            | (refine go 60 (by decide) ?_; simp only [KX, KY, KZ, KW, KV, Nat.reduceAdd, Nat.reduceSub, Nat.reduceLeDiff, true_and, and_true, true_or, or_true, or_self, reduceCtorEq, if_true, if_false, not_false_eq_true, eq_self, c247, (hs _).e80, (hs _).e82, (hs _).e87, (hs _).e88, (hs _).e89, (hs _).e107, (hs _).e108, ty, tx, e91, e40, ai_at, show lN ((1 : Fin 2).val) = 1 from rfl])
          first
            | (with_reducible show At 247 _ 74 _ _ _ _)
            | (refine go 60 (by decide) ?_; simp only [KX, KY, KZ, KW, KV, Nat.reduceAdd, Nat.reduceSub, Nat.reduceLeDiff, true_and, and_true, true_or, or_true, or_self, reduceCtorEq, if_true, if_false, not_false_eq_true, eq_self, c247, (hs _).e80, (hs _).e82, (hs _).e87, (hs _).e88, (hs _).e89, (hs _).e107, (hs _).e108, ty, tx, e91, e40, ai_at, show lN ((1 : Fin 2).val) = 1 from rfl])
          first
            | (with_reducible show At 247 _ 74 _ _ _ _)
            | (refine go 60 (by decide) ?_; simp only [KX, KY, KZ, KW, KV, Nat.reduceAdd, Nat.reduceSub, Nat.reduceLeDiff, true_and, and_true, true_or, or_true, or_self, reduceCtorEq, if_true, if_false, not_false_eq_true, eq_self, c247, (hs _).e80, (hs _).e82, (hs _).e87, (hs _).e88, (hs _).e89, (hs _).e107, (hs _).e108, ty, tx, e91, e40, ai_at, show lN ((1 : Fin 2).val) = 1 from rfl])
          refine go 60 (by decide) ?_
          simp only [KX, KY, KZ, KW, KV, Nat.reduceAdd, Nat.reduceSub, Nat.reduceLeDiff, true_and, and_true, true_or, or_true, or_self, reduceCtorEq, if_true, if_false, not_false_eq_true, eq_self, c247, (hs _).e80, (hs _).e82, (hs _).e87, (hs _).e88, (hs _).e89, (hs _).e107, (hs _).e108, ty, tx, e91, e40, ai_at, show lN ((1 : Fin 2).val) = 1 from rfl]
          rw [nI_add, nI_clamp (show 91 * f + i < 2 ^ 31 by omega)]
          refine ⟨nI_in (show 91 * f + i < 910 by omega) (by decide), ?_⟩
          first
            | (with_reducible show At 247 _ 19 _ _ _ _)
            | (refine go 60 (by decide) ?_; simp only [KX, KY, KZ, KW, KV, Nat.reduceAdd, Nat.reduceSub, Nat.reduceLeDiff, true_and, and_true, true_or, or_true, or_self, reduceCtorEq, if_true, if_false, not_false_eq_true, eq_self, c247, (hs _).e80, (hs _).e82, (hs _).e87, (hs _).e88, (hs _).e89, (hs _).e107, (hs _).e108, ty, tx, e91, e40, ai_at, show lN ((1 : Fin 2).val) = 1 from rfl])
          first
            | (with_reducible show At 247 _ 19 _ _ _ _)
            | (refine go 60 (by decide) ?_; simp only [KX, KY, KZ, KW, KV, Nat.reduceAdd, Nat.reduceSub, Nat.reduceLeDiff, true_and, and_true, true_or, or_true, or_self, reduceCtorEq, if_true, if_false, not_false_eq_true, eq_self, c247, (hs _).e80, (hs _).e82, (hs _).e87, (hs _).e88, (hs _).e89, (hs _).e107, (hs _).e108, ty, tx, e91, e40, ai_at, show lN ((1 : Fin 2).val) = 1 from rfl])
          first
            | (with_reducible show At 247 _ 19 _ _ _ _)
            | (refine go 60 (by decide) ?_; simp only [KX, KY, KZ, KW, KV, Nat.reduceAdd, Nat.reduceSub, Nat.reduceLeDiff, true_and, and_true, true_or, or_true, or_self, reduceCtorEq, if_true, if_false, not_false_eq_true, eq_self, c247, (hs _).e80, (hs _).e82, (hs _).e87, (hs _).e88, (hs _).e89, (hs _).e107, (hs _).e108, ty, tx, e91, e40, ai_at, show lN ((1 : Fin 2).val) = 1 from rfl])
          rw [ma_set_set, e1i]
          have ih2 := ih (i + 1) (by omega)
          rw [show ml_tk (ai h 88) (91 * f) it nn (ai h 89 f) (i + 1) = upd (ml_tk (ai h 88) (91 * f) it nn (ai h 89 f) i) (91 * f + i) (-1) by
            show upd (ml_tk (ai h 88) (91 * f) it nn (ai h 89 f) i) (91 * f + i) (if told it nn i = 0 then -1 else ai h 89 f) = _
            rw [tz]
            rfl] at ih2
          exact At_le ih2 ⟨rfl, rfl, rfl, rfl, rfl, trivial⟩
      · rw [if_neg (nI_nlt (by omega) (by omega))]
        have tz : told it nn i = 0 := if_neg c
        first
          | (with_reducible show At 247 _ 58 _ _ _ _)
          | (refine go 60 (by decide) ?_; simp only [KX, KY, KZ, KW, KV, Nat.reduceAdd, Nat.reduceSub, Nat.reduceLeDiff, true_and, and_true, true_or, or_true, or_self, reduceCtorEq, if_true, if_false, not_false_eq_true, eq_self, c247, (hs _).e80, (hs _).e82, (hs _).e87, (hs _).e88, (hs _).e89, (hs _).e107, (hs _).e108, ty, tx, e91, e40, ai_at, show lN ((1 : Fin 2).val) = 1 from rfl])
        first
          | (with_reducible show At 247 _ 58 _ _ _ _)
          | (refine go 60 (by decide) ?_; simp only [KX, KY, KZ, KW, KV, Nat.reduceAdd, Nat.reduceSub, Nat.reduceLeDiff, true_and, and_true, true_or, or_true, or_self, reduceCtorEq, if_true, if_false, not_false_eq_true, eq_self, c247, (hs _).e80, (hs _).e82, (hs _).e87, (hs _).e88, (hs _).e89, (hs _).e107, (hs _).e108, ty, tx, e91, e40, ai_at, show lN ((1 : Fin 2).val) = 1 from rfl])
        first
          | (with_reducible show At 247 _ 58 _ _ _ _)
          | (refine go 60 (by decide) ?_; simp only [KX, KY, KZ, KW, KV, Nat.reduceAdd, Nat.reduceSub, Nat.reduceLeDiff, true_and, and_true, true_or, or_true, or_self, reduceCtorEq, if_true, if_false, not_false_eq_true, eq_self, c247, (hs _).e80, (hs _).e82, (hs _).e87, (hs _).e88, (hs _).e89, (hs _).e107, (hs _).e108, ty, tx, e91, e40, ai_at, show lN ((1 : Fin 2).val) = 1 from rfl])
        refine go 60 (by decide) ?_
        simp only [KX, KY, KZ, KW, KV, Nat.reduceAdd, Nat.reduceSub, Nat.reduceLeDiff, true_and, and_true, true_or, or_true, or_self, reduceCtorEq, if_true, if_false, not_false_eq_true, eq_self, c247, (hs _).e80, (hs _).e82, (hs _).e87, (hs _).e88, (hs _).e89, (hs _).e107, (hs _).e108, ty, tx, e91, e40, ai_at, show lN ((1 : Fin 2).val) = 1 from rfl]
        first
          | refine ⟨vx, ?_⟩
          | skip
        first
          | (with_reducible show At 247 _ 74 _ _ _ _)
          | (refine go 60 (by decide) ?_; simp only [KX, KY, KZ, KW, KV, Nat.reduceAdd, Nat.reduceSub, Nat.reduceLeDiff, true_and, and_true, true_or, or_true, or_self, reduceCtorEq, if_true, if_false, not_false_eq_true, eq_self, c247, (hs _).e80, (hs _).e82, (hs _).e87, (hs _).e88, (hs _).e89, (hs _).e107, (hs _).e108, ty, tx, e91, e40, ai_at, show lN ((1 : Fin 2).val) = 1 from rfl])
        first
          | (with_reducible show At 247 _ 74 _ _ _ _)
          | (refine go 60 (by decide) ?_; simp only [KX, KY, KZ, KW, KV, Nat.reduceAdd, Nat.reduceSub, Nat.reduceLeDiff, true_and, and_true, true_or, or_true, or_self, reduceCtorEq, if_true, if_false, not_false_eq_true, eq_self, c247, (hs _).e80, (hs _).e82, (hs _).e87, (hs _).e88, (hs _).e89, (hs _).e107, (hs _).e108, ty, tx, e91, e40, ai_at, show lN ((1 : Fin 2).val) = 1 from rfl])
        first
          | (with_reducible show At 247 _ 74 _ _ _ _)
          | (refine go 60 (by decide) ?_; simp only [KX, KY, KZ, KW, KV, Nat.reduceAdd, Nat.reduceSub, Nat.reduceLeDiff, true_and, and_true, true_or, or_true, or_self, reduceCtorEq, if_true, if_false, not_false_eq_true, eq_self, c247, (hs _).e80, (hs _).e82, (hs _).e87, (hs _).e88, (hs _).e89, (hs _).e107, (hs _).e108, ty, tx, e91, e40, ai_at, show lN ((1 : Fin 2).val) = 1 from rfl])
        refine go 60 (by decide) ?_
        simp only [KX, KY, KZ, KW, KV, Nat.reduceAdd, Nat.reduceSub, Nat.reduceLeDiff, true_and, and_true, true_or, or_true, or_self, reduceCtorEq, if_true, if_false, not_false_eq_true, eq_self, c247, (hs _).e80, (hs _).e82, (hs _).e87, (hs _).e88, (hs _).e89, (hs _).e107, (hs _).e108, ty, tx, e91, e40, ai_at, show lN ((1 : Fin 2).val) = 1 from rfl]
        rw [nI_add, nI_clamp (show 91 * f + i < 2 ^ 31 by omega)]
        refine ⟨nI_in (show 91 * f + i < 910 by omega) (by decide), ?_⟩
        first
          | (with_reducible show At 247 _ 19 _ _ _ _)
          | (refine go 60 (by decide) ?_; simp only [KX, KY, KZ, KW, KV, Nat.reduceAdd, Nat.reduceSub, Nat.reduceLeDiff, true_and, and_true, true_or, or_true, or_self, reduceCtorEq, if_true, if_false, not_false_eq_true, eq_self, c247, (hs _).e80, (hs _).e82, (hs _).e87, (hs _).e88, (hs _).e89, (hs _).e107, (hs _).e108, ty, tx, e91, e40, ai_at, show lN ((1 : Fin 2).val) = 1 from rfl])
        first
          | (with_reducible show At 247 _ 19 _ _ _ _)
          | (refine go 60 (by decide) ?_; simp only [KX, KY, KZ, KW, KV, Nat.reduceAdd, Nat.reduceSub, Nat.reduceLeDiff, true_and, and_true, true_or, or_true, or_self, reduceCtorEq, if_true, if_false, not_false_eq_true, eq_self, c247, (hs _).e80, (hs _).e82, (hs _).e87, (hs _).e88, (hs _).e89, (hs _).e107, (hs _).e108, ty, tx, e91, e40, ai_at, show lN ((1 : Fin 2).val) = 1 from rfl])
        first
          | (with_reducible show At 247 _ 19 _ _ _ _)
          | (refine go 60 (by decide) ?_; simp only [KX, KY, KZ, KW, KV, Nat.reduceAdd, Nat.reduceSub, Nat.reduceLeDiff, true_and, and_true, true_or, or_true, or_self, reduceCtorEq, if_true, if_false, not_false_eq_true, eq_self, c247, (hs _).e80, (hs _).e82, (hs _).e87, (hs _).e88, (hs _).e89, (hs _).e107, (hs _).e108, ty, tx, e91, e40, ai_at, show lN ((1 : Fin 2).val) = 1 from rfl])
        rw [ma_set_set, e1i]
        have ih2 := ih (i + 1) (by omega)
        rw [show ml_tk (ai h 88) (91 * f) it nn (ai h 89 f) (i + 1) = upd (ml_tk (ai h 88) (91 * f) it nn (ai h 89 f) i) (91 * f + i) (-1) by
          show upd (ml_tk (ai h 88) (91 * f) it nn (ai h 89 f) i) (91 * f + i) (if told it nn i = 0 then -1 else ai h 89 f) = _
          rw [tz]
          rfl] at ih2
        exact At_le ih2 ⟨rfl, rfl, rfl, rfl, rfl, trivial⟩
  refine ma_enter (m := 247) (Or.inl (by decide)) (by show 3 ≤ mt_n 247; decide +kernel) ?_
  show At 247 Q 0 (mt_c 247) [some (.ref 80), some (.int x), some (.int y), none, none, none, none] [] h
  refine go 60 (by decide) ?_
  simp only [KX, KY, KZ, KW, KV, Nat.reduceAdd, Nat.reduceSub, Nat.reduceLeDiff, true_and, and_true, true_or, or_true, or_self, reduceCtorEq, if_true, if_false, not_false_eq_true, eq_self, c247]
  refine s170y x1 x3 ?_
  refine go 60 (by decide) ?_
  simp only [KX, KY, KZ, KW, KV, Nat.reduceAdd, Nat.reduceSub, Nat.reduceLeDiff, true_and, and_true, true_or, or_true, or_self, reduceCtorEq, if_true, if_false, not_false_eq_true, eq_self, c247]
  refine s248y y1 y3 ?_
  refine go 60 (by decide) ?_
  simp only [KX, KY, KZ, KW, KV, Nat.reduceAdd, Nat.reduceSub, Nat.reduceLeDiff, true_and, and_true, true_or, or_true, or_self, reduceCtorEq, if_true, if_false, not_false_eq_true, eq_self, c247, H.e80]
  refine s251c H ls qs (fun a => absurd a (by rw [s2]; decide)) (fun _ a => absurd s2 a) (fun _ _ => ?_)
  refine go 60 (by decide) ?_
  simp only [KX, KY, KZ, KW, KV, Nat.reduceAdd, Nat.reduceSub, Nat.reduceLeDiff, true_and, and_true, true_or, or_true, or_self, reduceCtorEq, if_true, if_false, not_false_eq_true, eq_self, c247]
  have l0 := lp 91 0 rfl
  rw [show (ma_set h 88 (.inl (.int, 910, .inl (ml_tk (ai h 88) (91 * f) it nn (ai h 89 f) 0)))) = h from ma_set_id H.e88] at l0
  exact At_le l0 ⟨rfl, rfl, rfl, rfl, rfl, trivial⟩
theorem p134 {h : ma_H} {x y : Int32} (I : Inv h) : Pair h 134 247 [.int x, .int y] := by
  intro Q k
  rcases icasB x 3 (by decide) with ⟨f, l, q, -⟩ | ⟨o1, o2⟩
  · rcases icasB y 3 (by decide) with ⟨s, ls, qs, -⟩ | ⟨o1, o2⟩
    · obtain ⟨r1, r2, r3, ⟨nn, hn, r4⟩, r5⟩ := I.rs s ls
      by_cases c0 : ai h 23 s < 0
      · exact s134e I.sh I.rr l q ls qs c0 (k _ _ (by repeat (first | exact e80_I I | exact e80_S (by assumption) | exact e80_I (by assumption) | exact e80_n I.sh | refine e80_s (by omega) ?_)) fun Q2 k2 => s247e I.sh l q ls qs (by rw [← r1]; exact c0) (k2 _ I))
      · by_cases c2 : ai h 23 s = 2
        · obtain ⟨n, n6, m1, m2⟩ := I.nf.mf l
          have hm : fi h (36 + 3 * f) 0 ≠ -2 := by
            rw [m1]
            intro e
            exact nI_pos (show n < 2 ^ 31 by omega) (by rw [e]; decide)
          refine s134 I.sh I.rr l q ls qs c2 r4 hn hm (I.nf.ok l) (k _ _ (by repeat (first | exact e80_I I | exact e80_S (by assumption) | exact e80_I (by assumption) | exact e80_n I.sh | refine e80_s (by omega) ?_)) fun Q2 k2 => ?_)
          have H1 := sh_set I.sh (nf_s l (fl_tk (ai h (37 + 3 * f)) (ai h (19 + s)) nn (fi h (36 + 3 * f) 0) 91))
          refine s247 (it := ai h (19 + s)) H1 l q ls qs (I.rt.cong fun a ha => ma_set_ne _ _ (by omega)) (nn := nn) ?_ ?_ hn (fun i hi => ?_) ?_
          · rw [ai_ne _ _ (by omega), ← r1]
            exact c2
          · rw [ai_ne _ _ (by omega), ← r3]
            exact r4
          · rw [al_ne _ _ (by omega)]
            exact r5 i hi
          rw [ai_ne _ _ (show 88 ≠ 37 + 3 * f by omega), ai_ne _ _ (show 89 ≠ 37 + 3 * f by omega)]
          rw [I.nf.m l] at hm H1 ⊢
          have ev : ∀ i, i < 91 → fl_tk (ai h (37 + 3 * f)) (ai h (19 + s)) nn (ai h 89 f) 91 (ma_cell i) = ml_tk (ai h 88) (91 * f) (ai h (19 + s)) nn (ai h 89 f) 91 (91 * f + i) := fun i hi => by
            rw [fl_tk_lo hi 91 (Nat.le_refl _) hi]
            exact (upN_at (g := ai h 88) (p := fun c => 91 * f + c) (v := fun c => if told (ai h (19 + s)) nn c = 0 then -1 else ai h 89 f) 91 (fun i j _ _ e => by omega) i hi).symm
          have es : su (told (ai h (19 + s)) nn) 91 = su (ml_ice (ml_tk (ai h 88) (91 * f) (ai h (19 + s)) nn (ai h 89 f) 91) (91 * f)) 91 := su_congr 91 fun i hi => by
            unfold ml_ice fl_has
            rw [← ev i hi, fl_tk_lo hi 91 (Nat.le_refl _) hi]
            rcases told01 (ai h (19 + s)) nn i with z | z
            · rw [z]
              rfl
            · rw [z, if_neg (show ¬ (1 : Int32) = 0 by decide), if_neg (by rw [m2]; exact nI_pos (by omega))]
          rw [← es]
          refine k2 _ (I.flk l (sh_set H1 rfl) rfl (fun a a1 a2 a3 a4 => ?_) ?_ (fun i hi => ?_) (fun i hi => ?_) (fun j hj w => ?_) ?_ (fun j hj w => ?_)) <;> (try simp (disch := omega) only [ai_ne, ai_at, fi_ne])
          · unfold exf at a4
            rw [ma_set_ne _ _ (by omega), ma_set_ne _ _ (by omega)]
          · exact fl_tk_ok hm (I.nf.ok l) 91 (Nat.le_refl _)
          · exact ev i hi
          · rw [← ev i hi, fl_tk_lo hi 91 (Nat.le_refl _) hi]
            split
            · exact Or.inl rfl
            · exact Or.inr (by rw [m2]; exact nI_pos (by omega))
          · exact upN_ne (g := ai h 88) (p := fun c => 91 * f + c) 91 w
          · exact ⟨n, n6, m1, m2⟩
        · exact s134o I.sh I.rr l q ls qs c0 c2 (k _ _ (by repeat (first | exact e80_I I | exact e80_S (by assumption) | exact e80_I (by assumption) | exact e80_n I.sh | refine e80_s (by omega) ?_)) fun Q2 k2 => s247o I.sh l q ls qs (by rw [← r1]; exact c0) (by rw [← r1]; exact c2) (k2 _ I))
    · exact s134n I.sh I.rr (Or.inr ⟨⟨f, l, q⟩, o2⟩) (k _ _ (by repeat (first | exact e80_I I | exact e80_S (by assumption) | exact e80_I (by assumption) | exact e80_n I.sh | refine e80_s (by omega) ?_)) fun Q2 k2 => s247n (Or.inr ⟨⟨f, l, q⟩, o1⟩) (k2 _ I))
  · exact s134n I.sh I.rr (Or.inl o2) (k _ _ (by repeat (first | exact e80_I I | exact e80_S (by assumption) | exact e80_I (by assumption) | exact e80_n I.sh | refine e80_s (by omega) ?_)) fun Q2 k2 => s247n (Or.inl o1) (k2 _ I))
