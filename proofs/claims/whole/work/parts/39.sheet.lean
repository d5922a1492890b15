/-! SHEETS: sheet -/
theorem s135n {h : ma_H} {Q : ma_Q} {x y z : Int32} (o : x < 0 ∨ ¬ x < 4) (k : Q (some (.int (-1))) h) : ma_X 135 [.ref 0, .int x, .int y, .int z] h Q := by
  refine ma_enter (m := 135) (Or.inl (by decide)) (by show 4 ≤ mt_n 135; decide +kernel) ?_
  show At 135 Q 0 (mt_c 135) [some (.ref 0), some (.int x), some (.int y), some (.int z), none] [] h
  repeat' first
    | assumption
    | (refine go 60 (by decide) ?_; simp only [KX, KY, KZ, KW, KV, Nat.reduceAdd, Nat.reduceSub, Nat.reduceLeDiff, true_and, and_true, true_or, or_true, or_self, reduceCtorEq, if_true, if_false, not_false_eq_true, eq_self, c135])
    | refine s148n o ?_
    | split
theorem s249n {h : ma_H} {Q : ma_Q} {x y z : Int32} (o : x < 0 ∨ ¬ x ≤ 3) (k : Q (some (.int (-1))) h) : ma_X 249 [.ref 80, .int x, .int y, .int z] h Q := by
  refine ma_enter (m := 249) (Or.inl (by decide)) (by show 4 ≤ mt_n 249; decide +kernel) ?_
  show At 249 Q 0 (mt_c 249) [some (.ref 80), some (.int x), some (.int y), some (.int z), none] [] h
  repeat' first
    | assumption
    | (refine go 60 (by decide) ?_; simp only [KX, KY, KZ, KW, KV, Nat.reduceAdd, Nat.reduceSub, Nat.reduceLeDiff, true_and, and_true, true_or, or_true, or_self, reduceCtorEq, if_true, if_false, not_false_eq_true, eq_self, c249])
    | refine s248n o ?_
    | split
theorem s135m {h : ma_H} {Q : ma_Q} {x y z : Int32} {f : Nat} (H : Sh h) (l : f < 4) (q : x = nI f) (o : (y < -1 ∨ ¬ y ≤ 3) ∨ (¬ y < 0 ∧ ¬ z ≤ 40)) (k : Q (some (.int (-1))) h) : ma_X 135 [.ref 0, .int x, .int y, .int z] h Q := by
  have tx : x.toNatClampNeg = f := by subst q; exact nI_clamp (by omega)
  have vx : vp_in x 4 := by subst q; exact nI_in l (by decide)
  have x1 : ¬ x < 0 := by subst q; exact nI_pos (by omega)
  have x2 : x < 4 := by subst q; exact nI_lt (b := 4) l (by decide)
  have x3 : x ≤ 3 := by subst q; exact nI_le (a := f) (b := 3) (by omega) (by decide)
  refine ma_enter (m := 135) (Or.inl (by decide)) (by show 4 ≤ mt_n 135; decide +kernel) ?_
  show At 135 Q 0 (mt_c 135) [some (.ref 0), some (.int x), some (.int y), some (.int z), none] [] h
  refine go 60 (by decide) ?_
  simp only [KX, KY, KZ, KW, KV, Nat.reduceAdd, Nat.reduceSub, Nat.reduceLeDiff, true_and, and_true, true_or, or_true, or_self, reduceCtorEq, if_true, if_false, not_false_eq_true, eq_self, c135]
  refine s148y x1 x2 ?_
  refine go 60 (by decide) ?_
  simp only [KX, KY, KZ, KW, KV, Nat.reduceAdd, Nat.reduceSub, Nat.reduceLeDiff, true_and, and_true, true_or, or_true, or_self, reduceCtorEq, if_true, if_false, not_false_eq_true, eq_self, c135]
  repeat' split
  all_goals first
    | exact k
    | (exfalso; rcases o with (o | o) | ⟨o1, o2⟩ <;> contradiction)
theorem s249m {h : ma_H} {Q : ma_Q} {x y z : Int32} {f : Nat} (H : Sh h) (l : f < 4) (q : x = nI f) (o : (y < -1 ∨ ¬ y ≤ 3) ∨ (¬ y < 0 ∧ ¬ z ≤ 40)) (k : Q (some (.int (-1))) h) : ma_X 249 [.ref 80, .int x, .int y, .int z] h Q := by
  have tx : x.toNatClampNeg = f := by subst q; exact nI_clamp (by omega)
  have vx : vp_in x 4 := by subst q; exact nI_in l (by decide)
  have x1 : ¬ x < 0 := by subst q; exact nI_pos (by omega)
  have x2 : x < 4 := by subst q; exact nI_lt (b := 4) l (by decide)
  have x3 : x ≤ 3 := by subst q; exact nI_le (a := f) (b := 3) (by omega) (by decide)
  refine ma_enter (m := 249) (Or.inl (by decide)) (by show 4 ≤ mt_n 249; decide +kernel) ?_
  show At 249 Q 0 (mt_c 249) [some (.ref 80), some (.int x), some (.int y), some (.int z), none] [] h
  refine go 60 (by decide) ?_
  simp only [KX, KY, KZ, KW, KV, Nat.reduceAdd, Nat.reduceSub, Nat.reduceLeDiff, true_and, and_true, true_or, or_true, or_self, reduceCtorEq, if_true, if_false, not_false_eq_true, eq_self, c249]
  refine s248y x1 x3 ?_
  refine go 60 (by decide) ?_
  simp only [KX, KY, KZ, KW, KV, Nat.reduceAdd, Nat.reduceSub, Nat.reduceLeDiff, true_and, and_true, true_or, or_true, or_self, reduceCtorEq, if_true, if_false, not_false_eq_true, eq_self, c249]
  refine s162c (fun _ _ => ?_) (fun _ => ?_)
  · refine go 60 (by decide) ?_
    simp only [KX, KY, KZ, KW, KV, Nat.reduceAdd, Nat.reduceSub, Nat.reduceLeDiff, true_and, and_true, true_or, or_true, or_self, reduceCtorEq, if_true, if_false, not_false_eq_true, eq_self, c249]
    repeat' split
    all_goals first
      | exact k
      | (exfalso; rcases o with (o | o) | ⟨o1, o2⟩ <;> contradiction)
  · refine go 60 (by decide) ?_
    simp only [KX, KY, KZ, KW, KV, Nat.reduceAdd, Nat.reduceSub, Nat.reduceLeDiff, true_and, and_true, true_or, or_true, or_self, reduceCtorEq, if_true, if_false, not_false_eq_true, eq_self, c249]
    exact k
theorem s135z {h : ma_H} {Q : ma_Q} {x y z : Int32} {f : Nat} (H : Sh h) (l : f < 4) (q : x = nI f) (y0 : ¬ y < 0) (y1 : ¬ y < -1) (y3 : y ≤ 3) (z0 : z < 0) (z4 : z ≤ 40) (k : Q (some (.int (-14))) h) : ma_X 135 [.ref 0, .int x, .int y, .int z] h Q := by
  have tx : x.toNatClampNeg = f := by subst q; exact nI_clamp (by omega)
  have vx : vp_in x 4 := by subst q; exact nI_in l (by decide)
  have x1 : ¬ x < 0 := by subst q; exact nI_pos (by omega)
  have x2 : x < 4 := by subst q; exact nI_lt (b := 4) l (by decide)
  have x3 : x ≤ 3 := by subst q; exact nI_le (a := f) (b := 3) (by omega) (by decide)
  refine ma_enter (m := 135) (Or.inl (by decide)) (by show 4 ≤ mt_n 135; decide +kernel) ?_
  show At 135 Q 0 (mt_c 135) [some (.ref 0), some (.int x), some (.int y), some (.int z), none] [] h
  refine go 60 (by decide) ?_
  simp only [KX, KY, KZ, KW, KV, Nat.reduceAdd, Nat.reduceSub, Nat.reduceLeDiff, true_and, and_true, true_or, or_true, or_self, reduceCtorEq, if_true, if_false, not_false_eq_true, eq_self, c135]
  refine s148y x1 x2 ?_
  refine go 60 (by decide) ?_
  simp only [KX, KY, KZ, KW, KV, Nat.reduceAdd, Nat.reduceSub, Nat.reduceLeDiff, true_and, and_true, true_or, or_true, or_self, reduceCtorEq, if_true, if_false, not_false_eq_true, eq_self, c135]
  rw [if_neg y1, if_pos y3, if_neg y0, if_pos z4, if_pos z0, if_neg y0]
  exact k
theorem s249z {h : ma_H} {Q : ma_Q} {x y z : Int32} {f : Nat} (H : Sh h) (l : f < 4) (q : x = nI f) (y0 : ¬ y < 0) (y1 : ¬ y < -1) (y3 : y ≤ 3) (z0 : z < 0) (z4 : z ≤ 40) (k : Q (some (.int (-14))) h) : ma_X 249 [.ref 80, .int x, .int y, .int z] h Q := by
  have tx : x.toNatClampNeg = f := by subst q; exact nI_clamp (by omega)
  have vx : vp_in x 4 := by subst q; exact nI_in l (by decide)
  have x1 : ¬ x < 0 := by subst q; exact nI_pos (by omega)
  have x2 : x < 4 := by subst q; exact nI_lt (b := 4) l (by decide)
  have x3 : x ≤ 3 := by subst q; exact nI_le (a := f) (b := 3) (by omega) (by decide)
  refine ma_enter (m := 249) (Or.inl (by decide)) (by show 4 ≤ mt_n 249; decide +kernel) ?_
  show At 249 Q 0 (mt_c 249) [some (.ref 80), some (.int x), some (.int y), some (.int z), none] [] h
  refine go 60 (by decide) ?_
  simp only [KX, KY, KZ, KW, KV, Nat.reduceAdd, Nat.reduceSub, Nat.reduceLeDiff, true_and, and_true, true_or, or_true, or_self, reduceCtorEq, if_true, if_false, not_false_eq_true, eq_self, c249]
  refine s248y x1 x3 ?_
  refine go 60 (by decide) ?_
  simp only [KX, KY, KZ, KW, KV, Nat.reduceAdd, Nat.reduceSub, Nat.reduceLeDiff, true_and, and_true, true_or, or_true, or_self, reduceCtorEq, if_true, if_false, not_false_eq_true, eq_self, c249]
  refine s162y y1 y3 ?_
  refine go 60 (by decide) ?_
  simp only [KX, KY, KZ, KW, KV, Nat.reduceAdd, Nat.reduceSub, Nat.reduceLeDiff, true_and, and_true, true_or, or_true, or_self, reduceCtorEq, if_true, if_false, not_false_eq_true, eq_self, c249]
  rw [if_neg y0, if_pos z4, if_pos z0, if_neg y0]
  exact k
theorem ar_ne (h : ma_H) {a b : Nat} (c : ma_C) (e : b ≠ a) : ar (ma_set h a c) b = ar h b := by
  show arC ((ma_set h a _).2.1 b) = _
  rw [ma_set_ne _ _ e]
/-- long zeros -/
def upZ (g : Nat → Int64) (p : Nat → Nat) : Nat → Nat → Int64
  | 0 => g
  | n + 1 => vp_updL (upZ g p n) (p n) 0
theorem upZ_ne {g : Nat → Int64} {p : Nat → Nat} {j : Nat} : ∀ n, (∀ i, i < n → j ≠ p i) → upZ g p n j = g j
  | 0, _ => rfl
  | n + 1, w => by
    show vp_updL (upZ g p n) (p n) 0 j = g j
    unfold vp_updL
    rw [if_neg (w n (by omega))]
    exact upZ_ne n (fun i hi => w i (by omega))
theorem upZ_at {g : Nat → Int64} {p : Nat → Nat} : ∀ n, ∀ i, i < n → upZ g p n (p i) = 0
  | n + 1, i, hi => by
    show vp_updL (upZ g p n) (p n) 0 (p i) = 0
    unfold vp_updL
    by_cases e : p i = p n
    · rw [if_pos e]
    · rw [if_neg e]
      exact upZ_at n i (by rcases Nat.lt_or_ge i n with a | a; exact a; exact absurd (by rw [show i = n by omega]) e)
theorem l135 {h0 : ma_H} {Q : ma_Q} {x y z : Int32} {f : Nat} (H : Sh h0) (R : Rr h0) (l : f < 4) (q : x = nI f) (k : Q (some (.int 1)) (ma_set h0 (19 + f) (.inl (.int, 40, .inl (upN (ai h0 (19 + f)) (fun c => c) (fun _ => 0) 40))))) : At 135 Q 38 (0, 0) [some (.ref 0), some (.int x), some (.int y), some (.int z), some (.int 0)] [] h0 := by
  have tx : x.toNatClampNeg = f := by subst q; exact nI_clamp (by omega)
  have vx : vp_in x 4 := by subst q; exact nI_in l (by decide)
  have e0 : ∀ c, (ma_set h0 (19 + f) c).2.1 0 = _ := fun c => (ma_set_ne h0 c (by omega)).trans H.e0
  have e18 : ∀ c, (ma_set h0 (19 + f) c).2.1 18 = _ := fun c => (ma_set_ne h0 c (by omega)).trans H.e18
  have lp : ∀ ni i, i + ni = 40 → At 135 Q 38 (0, 0) [some (.ref 0), some (.int x), some (.int y), some (.int z), some (.int (nI i))] [] (ma_set h0 (19 + f) (.inl (.int, 40, .inl (upN (ai h0 (19 + f)) (fun c => c) (fun _ => 0) i)))) := by
    intro ni
    induction ni with
    | zero =>
      intro i e
      obtain rfl : i = 40 := by omega
      refine go 60 (by decide) ?_
      simp only [KX, KY, KZ, KW, KV, Nat.reduceAdd, Nat.reduceSub, Nat.reduceLeDiff, true_and, and_true, true_or, or_true, or_self, reduceCtorEq, if_true, if_false, not_false_eq_true, eq_self, c135, e0, e18, ma_set_at, tx, (R.2.2.2 f l), rf_some]
      rw [if_neg (show ¬ nI 40 < (40 : Int32) from nI_nlt (Nat.le_refl _) (by decide))]
      exact k
    | succ ni ih =>
      intro i e
      have hi : i < 40 := by omega
      have e1i := nI_1 i
      refine go 60 (by decide) ?_
      simp only [KX, KY, KZ, KW, KV, Nat.reduceAdd, Nat.reduceSub, Nat.reduceLeDiff, true_and, and_true, true_or, or_true, or_self, reduceCtorEq, if_true, if_false, not_false_eq_true, eq_self, c135, e0, e18, ma_set_at, tx, (R.2.2.2 f l), rf_some]
      rw [if_pos (show nI i < (40 : Int32) from nI_lt hi (by decide))]
      rw [nI_clamp (show i < 2 ^ 31 by omega)]
      refine ⟨vx, nI_in hi (by decide), ?_⟩
      rw [ma_set_set, e1i]
      exact ih (i + 1) (by omega)
  have l0 := lp 40 0 rfl
  rw [show (ma_set h0 (19 + f) (.inl (.int, 40, .inl (upN (ai h0 (19 + f)) (fun c => c) (fun _ => 0) 0)))) = h0 from ma_set_id (H.si l)] at l0
  exact l0
theorem l249 {h0 : ma_H} {Q : ma_Q} {x y z : Int32} {f : Nat} (H : Sh h0) (l : f < 4) (q : x = nI f) (k : Q (some (.int 1)) (ma_set h0 108 (.inl (.long, 160, .inr (.inl (upZ (al h0 108) (fun c => 40 * f + c) 40)))))) : At 249 Q 37 (0, 0) [some (.ref 80), some (.int x), some (.int y), some (.int z), some (.int 0)] [] h0 := by
  have hs : ∀ g, Sh (ma_set h0 108 (.inl (.long, 160, .inr (.inl g)))) := fun g => sh_set H rfl
  have e40 : (40 : Int32) * x = nI (40 * f) := by subst q; exact nI_mul 40 f
  have lp : ∀ ni i, i + ni = 40 → At 249 Q 37 (0, 0) [some (.ref 80), some (.int x), some (.int y), some (.int z), some (.int (nI i))] [] (ma_set h0 108 (.inl (.long, 160, .inr (.inl (upZ (al h0 108) (fun c => 40 * f + c) i))))) := by
    intro ni
    induction ni with
    | zero =>
      intro i e
      obtain rfl : i = 40 := by omega
      refine go 60 (by decide) ?_
      simp only [KX, KY, KZ, KW, KV, Nat.reduceAdd, Nat.reduceSub, Nat.reduceLeDiff, true_and, and_true, true_or, or_true, or_self, reduceCtorEq, if_true, if_false, not_false_eq_true, eq_self, c249, (hs _).e80, (hs _).e108]
      rw [if_neg (show ¬ nI 40 < (40 : Int32) from nI_nlt (Nat.le_refl _) (by decide))]
      exact k
    | succ ni ih =>
      intro i e
      have hi : i < 40 := by omega
      have e1i := nI_1 i
      refine go 60 (by decide) ?_
      simp only [KX, KY, KZ, KW, KV, Nat.reduceAdd, Nat.reduceSub, Nat.reduceLeDiff, true_and, and_true, true_or, or_true, or_self, reduceCtorEq, if_true, if_false, not_false_eq_true, eq_self, c249, (hs _).e80, (hs _).e108]
      rw [if_pos (show nI i < (40 : Int32) from nI_lt hi (by decide))]
      rw [e40, nI_add, nI_clamp (show 40 * f + i < 2 ^ 31 by omega), al_at]
      refine ⟨nI_in (show 40 * f + i < 160 by omega) (by decide), ?_⟩
      rw [ma_set_set, e1i]
      exact ih (i + 1) (by omega)
  have l0 := lp 40 0 rfl
  rw [show (ma_set h0 108 (.inl (.long, 160, .inr (.inl (upZ (al h0 108) (fun c => 40 * f + c) 0))))) = h0 from ma_set_id H.e108] at l0
  exact l0
theorem s135a {h : ma_H} {Q : ma_Q} {x y z : Int32} {f : Nat} (H : Sh h) (l : f < 4) (q : x = nI f) (R : Rr h) (y1 : ¬ y < -1) (y3 : y ≤ 3) (y0 : y < 0) (k : Q (some (.int 1)) (ma_set (ma_set (ma_set h 23 (.inl (.int, 4, .inl (upd (ai h 23) f y)))) 24 (.inl (.int, 4, .inl (upd (ai h 24) f 0)))) (19 + f) (.inl (.int, 40, .inl (upN (ai (ma_set (ma_set h 23 (.inl (.int, 4, .inl (upd (ai h 23) f y)))) 24 (.inl (.int, 4, .inl (upd (ai h 24) f 0)))) (19 + f)) (fun c => c) (fun _ => 0) 40))))) : ma_X 135 [.ref 0, .int x, .int y, .int z] h Q := by
  have tx : x.toNatClampNeg = f := by subst q; exact nI_clamp (by omega)
  have vx : vp_in x 4 := by subst q; exact nI_in l (by decide)
  have x1 : ¬ x < 0 := by subst q; exact nI_pos (by omega)
  have x2 : x < 4 := by subst q; exact nI_lt (b := 4) l (by decide)
  have x3 : x ≤ 3 := by subst q; exact nI_le (a := f) (b := 3) (by omega) (by decide)
  have H1 : Sh (ma_set h 23 (.inl (.int, 4, .inl (upd (ai h 23) f y)))) := sh_set H rfl
  have H2 : Sh (ma_set (ma_set h 23 (.inl (.int, 4, .inl (upd (ai h 23) f y)))) 24 (.inl (.int, 4, .inl (upd (ai h 24) f 0)))) := sh_set H1 rfl
  have R2 : Rr (ma_set (ma_set h 23 (.inl (.int, 4, .inl (upd (ai h 23) f y)))) 24 (.inl (.int, 4, .inl (upd (ai h 24) f 0)))) := R
  refine ma_enter (m := 135) (Or.inl (by decide)) (by show 4 ≤ mt_n 135; decide +kernel) ?_
  show At 135 Q 0 (mt_c 135) [some (.ref 0), some (.int x), some (.int y), some (.int z), none] [] h
  refine go 60 (by decide) ?_
  simp only [KX, KY, KZ, KW, KV, Nat.reduceAdd, Nat.reduceSub, Nat.reduceLeDiff, true_and, and_true, true_or, or_true, or_self, reduceCtorEq, if_true, if_false, not_false_eq_true, eq_self, c135]
  refine s148y x1 x2 ?_
  refine go 60 (by decide) ?_
  simp only [KX, KY, KZ, KW, KV, Nat.reduceAdd, Nat.reduceSub, Nat.reduceLeDiff, true_and, and_true, true_or, or_true, or_self, reduceCtorEq, if_true, if_false, not_false_eq_true, eq_self, c135, H.e0, H.e23, H1.e0, H1.e24, tx]
  repeat' first
    | exact l135 H2 R2 l q k
    | contradiction
    | refine ⟨vx, ?_⟩
    | (refine go 60 (by decide) ?_; simp only [KX, KY, KZ, KW, KV, Nat.reduceAdd, Nat.reduceSub, Nat.reduceLeDiff, true_and, and_true, true_or, or_true, or_self, reduceCtorEq, if_true, if_false, not_false_eq_true, eq_self, c135, H1.e0, H1.e24, tx])
    | split
theorem s249a {h : ma_H} {Q : ma_Q} {x y z : Int32} {f : Nat} (H : Sh h) (l : f < 4) (q : x = nI f) (y1 : ¬ y < -1) (y3 : y ≤ 3) (y0 : y < 0) (k : Q (some (.int 1)) (ma_set (ma_set (ma_set h 106 (.inl (.int, 4, .inl (upd (ai h 106) f y)))) 107 (.inl (.int, 4, .inl (upd (ai h 107) f 0)))) 108 (.inl (.long, 160, .inr (.inl (upZ (al (ma_set (ma_set h 106 (.inl (.int, 4, .inl (upd (ai h 106) f y)))) 107 (.inl (.int, 4, .inl (upd (ai h 107) f 0)))) 108) (fun c => 40 * f + c) 40)))))) : ma_X 249 [.ref 80, .int x, .int y, .int z] h Q := by
  have tx : x.toNatClampNeg = f := by subst q; exact nI_clamp (by omega)
  have vx : vp_in x 4 := by subst q; exact nI_in l (by decide)
  have x1 : ¬ x < 0 := by subst q; exact nI_pos (by omega)
  have x2 : x < 4 := by subst q; exact nI_lt (b := 4) l (by decide)
  have x3 : x ≤ 3 := by subst q; exact nI_le (a := f) (b := 3) (by omega) (by decide)
  have H1 : Sh (ma_set h 106 (.inl (.int, 4, .inl (upd (ai h 106) f y)))) := sh_set H rfl
  have H2 : Sh (ma_set (ma_set h 106 (.inl (.int, 4, .inl (upd (ai h 106) f y)))) 107 (.inl (.int, 4, .inl (upd (ai h 107) f 0)))) := sh_set H1 rfl
  refine ma_enter (m := 249) (Or.inl (by decide)) (by show 4 ≤ mt_n 249; decide +kernel) ?_
  show At 249 Q 0 (mt_c 249) [some (.ref 80), some (.int x), some (.int y), some (.int z), none] [] h
  refine go 60 (by decide) ?_
  simp only [KX, KY, KZ, KW, KV, Nat.reduceAdd, Nat.reduceSub, Nat.reduceLeDiff, true_and, and_true, true_or, or_true, or_self, reduceCtorEq, if_true, if_false, not_false_eq_true, eq_self, c249]
  refine s248y x1 x3 ?_
  refine go 60 (by decide) ?_
  simp only [KX, KY, KZ, KW, KV, Nat.reduceAdd, Nat.reduceSub, Nat.reduceLeDiff, true_and, and_true, true_or, or_true, or_self, reduceCtorEq, if_true, if_false, not_false_eq_true, eq_self, c249]
  refine s162y y1 y3 ?_
  refine go 60 (by decide) ?_
  simp only [KX, KY, KZ, KW, KV, Nat.reduceAdd, Nat.reduceSub, Nat.reduceLeDiff, true_and, and_true, true_or, or_true, or_self, reduceCtorEq, if_true, if_false, not_false_eq_true, eq_self, c249, H.e80, H.e106, H1.e80, H1.e107, tx]
  repeat' first
    | exact l249 H2 l q k
    | contradiction
    | refine ⟨vx, ?_⟩
    | (refine go 60 (by decide) ?_; simp only [KX, KY, KZ, KW, KV, Nat.reduceAdd, Nat.reduceSub, Nat.reduceLeDiff, true_and, and_true, true_or, or_true, or_self, reduceCtorEq, if_true, if_false, not_false_eq_true, eq_self, c249, H1.e80, H1.e107, tx])
    | split
theorem s135b {h : ma_H} {Q : ma_Q} {x y z : Int32} {f : Nat} (H : Sh h) (l : f < 4) (q : x = nI f) (R : Rr h) (y1 : ¬ y < -1) (y3 : y ≤ 3) (y0 : ¬ y < 0) (z0 : ¬ z < 0) (z4 : z ≤ 40) (k : Q (some (.int 1)) (ma_set (ma_set (ma_set h 23 (.inl (.int, 4, .inl (upd (ai h 23) f y)))) 24 (.inl (.int, 4, .inl (upd (ai h 24) f z)))) (19 + f) (.inl (.int, 40, .inl (upN (ai (ma_set (ma_set h 23 (.inl (.int, 4, .inl (upd (ai h 23) f y)))) 24 (.inl (.int, 4, .inl (upd (ai h 24) f z)))) (19 + f)) (fun c => c) (fun _ => 0) 40))))) : ma_X 135 [.ref 0, .int x, .int y, .int z] h Q := by
  have tx : x.toNatClampNeg = f := by subst q; exact nI_clamp (by omega)
  have vx : vp_in x 4 := by subst q; exact nI_in l (by decide)
  have x1 : ¬ x < 0 := by subst q; exact nI_pos (by omega)
  have x2 : x < 4 := by subst q; exact nI_lt (b := 4) l (by decide)
  have x3 : x ≤ 3 := by subst q; exact nI_le (a := f) (b := 3) (by omega) (by decide)
  have H1 : Sh (ma_set h 23 (.inl (.int, 4, .inl (upd (ai h 23) f y)))) := sh_set H rfl
  have H2 : Sh (ma_set (ma_set h 23 (.inl (.int, 4, .inl (upd (ai h 23) f y)))) 24 (.inl (.int, 4, .inl (upd (ai h 24) f z)))) := sh_set H1 rfl
  have R2 : Rr (ma_set (ma_set h 23 (.inl (.int, 4, .inl (upd (ai h 23) f y)))) 24 (.inl (.int, 4, .inl (upd (ai h 24) f z)))) := R
  refine ma_enter (m := 135) (Or.inl (by decide)) (by show 4 ≤ mt_n 135; decide +kernel) ?_
  show At 135 Q 0 (mt_c 135) [some (.ref 0), some (.int x), some (.int y), some (.int z), none] [] h
  refine go 60 (by decide) ?_
  simp only [KX, KY, KZ, KW, KV, Nat.reduceAdd, Nat.reduceSub, Nat.reduceLeDiff, true_and, and_true, true_or, or_true, or_self, reduceCtorEq, if_true, if_false, not_false_eq_true, eq_self, c135]
  refine s148y x1 x2 ?_
  refine go 60 (by decide) ?_
  simp only [KX, KY, KZ, KW, KV, Nat.reduceAdd, Nat.reduceSub, Nat.reduceLeDiff, true_and, and_true, true_or, or_true, or_self, reduceCtorEq, if_true, if_false, not_false_eq_true, eq_self, c135, H.e0, H.e23, H1.e0, H1.e24, tx]
  repeat' first
    | exact l135 H2 R2 l q k
    | contradiction
    | refine ⟨vx, ?_⟩
    | (refine go 60 (by decide) ?_; simp only [KX, KY, KZ, KW, KV, Nat.reduceAdd, Nat.reduceSub, Nat.reduceLeDiff, true_and, and_true, true_or, or_true, or_self, reduceCtorEq, if_true, if_false, not_false_eq_true, eq_self, c135, H1.e0, H1.e24, tx])
    | split
theorem s249b {h : ma_H} {Q : ma_Q} {x y z : Int32} {f : Nat} (H : Sh h) (l : f < 4) (q : x = nI f) (y1 : ¬ y < -1) (y3 : y ≤ 3) (y0 : ¬ y < 0) (z0 : ¬ z < 0) (z4 : z ≤ 40) (k : Q (some (.int 1)) (ma_set (ma_set (ma_set h 106 (.inl (.int, 4, .inl (upd (ai h 106) f y)))) 107 (.inl (.int, 4, .inl (upd (ai h 107) f z)))) 108 (.inl (.long, 160, .inr (.inl (upZ (al (ma_set (ma_set h 106 (.inl (.int, 4, .inl (upd (ai h 106) f y)))) 107 (.inl (.int, 4, .inl (upd (ai h 107) f z)))) 108) (fun c => 40 * f + c) 40)))))) : ma_X 249 [.ref 80, .int x, .int y, .int z] h Q := by
  have tx : x.toNatClampNeg = f := by subst q; exact nI_clamp (by omega)
  have vx : vp_in x 4 := by subst q; exact nI_in l (by decide)
  have x1 : ¬ x < 0 := by subst q; exact nI_pos (by omega)
  have x2 : x < 4 := by subst q; exact nI_lt (b := 4) l (by decide)
  have x3 : x ≤ 3 := by subst q; exact nI_le (a := f) (b := 3) (by omega) (by decide)
  have H1 : Sh (ma_set h 106 (.inl (.int, 4, .inl (upd (ai h 106) f y)))) := sh_set H rfl
  have H2 : Sh (ma_set (ma_set h 106 (.inl (.int, 4, .inl (upd (ai h 106) f y)))) 107 (.inl (.int, 4, .inl (upd (ai h 107) f z)))) := sh_set H1 rfl
  refine ma_enter (m := 249) (Or.inl (by decide)) (by show 4 ≤ mt_n 249; decide +kernel) ?_
  show At 249 Q 0 (mt_c 249) [some (.ref 80), some (.int x), some (.int y), some (.int z), none] [] h
  refine go 60 (by decide) ?_
  simp only [KX, KY, KZ, KW, KV, Nat.reduceAdd, Nat.reduceSub, Nat.reduceLeDiff, true_and, and_true, true_or, or_true, or_self, reduceCtorEq, if_true, if_false, not_false_eq_true, eq_self, c249]
  refine s248y x1 x3 ?_
  refine go 60 (by decide) ?_
  simp only [KX, KY, KZ, KW, KV, Nat.reduceAdd, Nat.reduceSub, Nat.reduceLeDiff, true_and, and_true, true_or, or_true, or_self, reduceCtorEq, if_true, if_false, not_false_eq_true, eq_self, c249]
  refine s162y y1 y3 ?_
  refine go 60 (by decide) ?_
  simp only [KX, KY, KZ, KW, KV, Nat.reduceAdd, Nat.reduceSub, Nat.reduceLeDiff, true_and, and_true, true_or, or_true, or_self, reduceCtorEq, if_true, if_false, not_false_eq_true, eq_self, c249, H.e80, H.e106, H1.e80, H1.e107, tx]
  repeat' first
    | exact l249 H2 l q k
    | contradiction
    | refine ⟨vx, ?_⟩
    | (refine go 60 (by decide) ?_; simp only [KX, KY, KZ, KW, KV, Nat.reduceAdd, Nat.reduceSub, Nat.reduceLeDiff, true_and, and_true, true_or, or_true, or_self, reduceCtorEq, if_true, if_false, not_false_eq_true, eq_self, c249, H1.e80, H1.e107, tx])
    | split
