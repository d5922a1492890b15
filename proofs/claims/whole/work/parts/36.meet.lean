/-! calls: meet -/
/-- the row and the count after n CELLS of a meeting -/
def ml_jn (g : Nat → Int32) (A B t : Nat) (mn : Int32) : Nat → (Nat → Int32) × Int32
  | 0 => (g, 0)
  | n + 1 => if g (B + n) < 0 then ml_jn g A B t mn n else if (ml_jn g A B t mn n).1 (A + m_im n t 0) < 0 then (upd (ml_jn g A B t mn n).1 (A + m_im n t 0) mn, (ml_jn g A B t mn n).2 + 1) else ml_jn g A B t mn n
theorem ml_jn_ne {g : Nat → Int32} {A B t : Nat} {mn : Int32} {j : Nat} (w : ∀ i, i < 91 → j ≠ A + i) : ∀ n, n ≤ 91 → (ml_jn g A B t mn n).1 j = g j
  | 0, _ => rfl
  | n + 1, hn => by
    have ih := ml_jn_ne (g := g) (A := A) (B := B) (t := t) (mn := mn) w n (by omega)
    show (if g (B + n) < 0 then ml_jn g A B t mn n else if (ml_jn g A B t mn n).1 (A + m_im n t 0) < 0 then (upd (ml_jn g A B t mn n).1 (A + m_im n t 0) mn, (ml_jn g A B t mn n).2 + 1) else ml_jn g A B t mn n).1 j = g j
    split
    · exact ih
    · split
      · show upd _ _ _ j = g j
        unfold upd
        rw [if_neg (w _ (m_im_lt (by omega) t 0))]
        exact ih
      · exact ih
theorem ml_jn_b {g : Nat → Int32} {A B t : Nat} {mn : Int32} (hm : ¬ mn < 0) {j : Nat} (b : g j = -1 ∨ ¬ g j < 0) : ∀ n, (ml_jn g A B t mn n).1 j = -1 ∨ ¬ (ml_jn g A B t mn n).1 j < 0
  | 0 => b
  | n + 1 => by
    have ih := ml_jn_b (g := g) (A := A) (B := B) (t := t) (mn := mn) hm b n
    show (if g (B + n) < 0 then ml_jn g A B t mn n else if (ml_jn g A B t mn n).1 (A + m_im n t 0) < 0 then (upd (ml_jn g A B t mn n).1 (A + m_im n t 0) mn, (ml_jn g A B t mn n).2 + 1) else ml_jn g A B t mn n).1 j = -1 ∨ ¬ (if g (B + n) < 0 then ml_jn g A B t mn n else if (ml_jn g A B t mn n).1 (A + m_im n t 0) < 0 then (upd (ml_jn g A B t mn n).1 (A + m_im n t 0) mn, (ml_jn g A B t mn n).2 + 1) else ml_jn g A B t mn n).1 j < 0
    split
    · exact ih
    · split
      · show upd _ _ _ j = -1 ∨ ¬ upd _ _ _ j < 0
        unfold upd
        split
        · exact Or.inr hm
        · exact ih
      · exact ih
theorem fl_bareX_cell {g : Nat → Int32} {i : Nat} (hi : i < 91) : fl_bareX g (nI (ma_cell i)) = if g (ma_cell i) = -1 then 1 else 0 := by
  have hc := (cell_lt i hi).1
  unfold fl_bareX
  rw [if_neg (nI_pos (by omega)), if_pos (nI_lt hc (by decide)), nI_clamp (by omega)]
/-- both meet alike -/
theorem jn_eq {g g2 : Nat → Int32} {m : Nat → Int32} {A B t : Nat} {mn : Int32} (ht : t < 6) (hm : ¬ mn < 0) (e : ∀ i, i < 91 → g (ma_cell i) = m (A + i)) (e2 : ∀ i, i < 91 → g2 (ma_cell i) = m (B + i)) (b : ∀ i, i < 91 → m (A + i) = -1 ∨ ¬ m (A + i) < 0) (ok : fl_ok g) : ∀ n, n ≤ 91 → (∀ i, i < 91 → (fl_jn g g2 t mn n).1 (ma_cell i) = (ml_jn m A B t mn n).1 (A + i)) ∧ (fl_jn g g2 t mn n).2 = (ml_jn m A B t mn n).2 ∧ fl_ok (fl_jn g g2 t mn n).1
  | 0, _ => ⟨e, rfl, ok⟩
  | n + 1, hn => by
    obtain ⟨i1, i2, i3⟩ := jn_eq (mn := mn) ht hm e e2 b ok n (by omega)
    have hn' : n < 91 := by omega
    have hl := m_im_lt hn' t 0
    have bb := ml_jn_b (g := m) (A := A) (B := B) (t := t) hm (b _ hl) n
    show (∀ i, i < 91 → (if g2 (ma_cell n) < 0 then fl_jn g g2 t mn n else if fl_bareX (fl_jn g g2 t mn n).1 (i_image (nI (ma_cell n)) t 0) = 0 then fl_jn g g2 t mn n else (upd (fl_jn g g2 t mn n).1 (i_image (nI (ma_cell n)) t 0).toNatClampNeg mn, (fl_jn g g2 t mn n).2 + 1)).1 (ma_cell i) = (if m (B + n) < 0 then ml_jn m A B t mn n else if (ml_jn m A B t mn n).1 (A + m_im n t 0) < 0 then (upd (ml_jn m A B t mn n).1 (A + m_im n t 0) mn, (ml_jn m A B t mn n).2 + 1) else ml_jn m A B t mn n).1 (A + i)) ∧ (if g2 (ma_cell n) < 0 then fl_jn g g2 t mn n else if fl_bareX (fl_jn g g2 t mn n).1 (i_image (nI (ma_cell n)) t 0) = 0 then fl_jn g g2 t mn n else (upd (fl_jn g g2 t mn n).1 (i_image (nI (ma_cell n)) t 0).toNatClampNeg mn, (fl_jn g g2 t mn n).2 + 1)).2 = (if m (B + n) < 0 then ml_jn m A B t mn n else if (ml_jn m A B t mn n).1 (A + m_im n t 0) < 0 then (upd (ml_jn m A B t mn n).1 (A + m_im n t 0) mn, (ml_jn m A B t mn n).2 + 1) else ml_jn m A B t mn n).2 ∧ fl_ok (if g2 (ma_cell n) < 0 then fl_jn g g2 t mn n else if fl_bareX (fl_jn g g2 t mn n).1 (i_image (nI (ma_cell n)) t 0) = 0 then fl_jn g g2 t mn n else (upd (fl_jn g g2 t mn n).1 (i_image (nI (ma_cell n)) t 0).toNatClampNeg mn, (fl_jn g g2 t mn n).2 + 1)).1
    rw [im_eq ht hn' (Or.inl rfl), e2 n hn', fl_bareX_cell hl, i1 _ hl, nI_clamp (by have := (cell_lt _ hl).1; omega)]
    by_cases c1 : m (B + n) < 0
    · rw [if_pos c1, if_pos c1]
      exact ⟨i1, i2, i3⟩
    · rw [if_neg c1, if_neg c1]
      by_cases c2 : (ml_jn m A B t mn n).1 (A + m_im n t 0) < 0
      · have c3 := bb.resolve_right (fun x => x c2)
        rw [c3]
        rw [if_pos rfl, if_neg (by decide), if_pos (by decide)]
        refine ⟨fun i hi => ?_, by rw [i2], fl_upd_ok i3 hl (by rintro rfl; exact hm (by decide))⟩
        show upd _ _ _ _ = upd _ _ _ _
        unfold upd
        by_cases z : i = m_im n t 0
        · subst z
          rw [if_pos rfl, if_pos rfl]
        · rw [if_neg (fun x => z (cell_inj i hi _ hl x)), if_neg (by omega)]
          exact i1 i hi
      · have c4 : (if (ml_jn m A B t mn n).1 (A + m_im n t 0) = -1 then (1 : Int32) else 0) = 0 := if_neg (fun x => c2 (by rw [x]; decide))
        rw [if_neg c2, if_pos c4]
        exact ⟨i1, i2, i3⟩
theorem s114 {h : ma_H} {Q : ma_Q} {x y z : Int32} {f f2 t : Nat} (H : Sh h) (R : Rr h) (hf : f < 4) (hf2 : f2 < 4) (q : x = nI f) (q2 : y = nI f2) (ne : f ≠ f2) (ht : t < 6) (qt : z = nI t) (k : Q (some (.int (fl_jn (ai h (37 + 3 * f)) (ai h (37 + 3 * f2)) t (fi h (36 + 3 * f) 0) 91).2)) (ma_set h (37 + 3 * f) (.inl (.int, 169, .inl (fl_jn (ai h (37 + 3 * f)) (ai h (37 + 3 * f2)) t (fi h (36 + 3 * f) 0) 91).1)))) : ma_X 114 [.ref 0, .int x, .int y, .int z] h Q := by
  subst q q2 qt
  refine ma_enter (m := 114) (Or.inl (by decide)) (by show 4 ≤ mt_n 114; decide +kernel) ?_
  show At 114 Q 0 (mt_c 114) [some (.ref 0), some (.int (nI f)), some (.int (nI f2)), some (.int (nI t)), none, none] [] h
  refine go 60 (by decide) ?_
  simp only [KX, KY, KZ, KW, KV, Nat.reduceAdd, Nat.reduceSub, Nat.reduceLeDiff, true_and, and_true, true_or, or_true, or_self, reduceCtorEq, if_true, if_false, not_false_eq_true, eq_self, c114, H.e0]
  refine s145 H R hf ?_
  refine go 60 (by decide) ?_
  simp only [KX, KY, KZ, KW, KV, Nat.reduceAdd, Nat.reduceSub, Nat.reduceLeDiff, true_and, and_true, true_or, or_true, or_self, reduceCtorEq, if_true, if_false, not_false_eq_true, eq_self, c114, H.e0]
  refine s145 H R hf2 ?_
  refine go 60 (by decide) ?_
  simp only [KX, KY, KZ, KW, KV, Nat.reduceAdd, Nat.reduceSub, Nat.reduceLeDiff, true_and, and_true, true_or, or_true, or_self, reduceCtorEq, if_true, if_false, not_false_eq_true, eq_self, c114, H.e0, (H.fn hf).1]
  rw [if_neg (fun e => ne ((nI_eq (by omega) (by omega)).mp e))]
  refine s146y (nI_pos (by omega)) (nI_le (a := t) (b := 5) (by omega) (by decide)) ?_
  refine go 60 (by decide) ?_
  simp only [KX, KY, KZ, KW, KV, Nat.reduceAdd, Nat.reduceSub, Nat.reduceLeDiff, true_and, and_true, true_or, or_true, or_self, reduceCtorEq, if_true, if_false, not_false_eq_true, eq_self, c114, (H.fn hf).1]
  refine s34 (H.fn hf).1 (H.fn hf).2.1 (H.fn hf2).1 (H.fn hf2).2.1 (by omega) (by omega) (by omega) (by omega) ?_
  refine go 60 (by decide) ?_
  simp only [KX, KY, KZ, KW, KV, Nat.reduceAdd, Nat.reduceSub, Nat.reduceLeDiff, true_and, and_true, true_or, or_true, or_self, reduceCtorEq, if_true, if_false, not_false_eq_true, eq_self, c114]
  exact k
theorem s114n {h : ma_H} {Q : ma_Q} {x y z : Int32} (H : Sh h) (R : Rr h) (o : (x < 0 ∨ ¬ x < 4) ∨ (y < 0 ∨ ¬ y < 4) ∨ x = y ∨ (z < 0 ∨ ¬ z ≤ 5)) (k : Q (some (.int (-1))) h) : ma_X 114 [.ref 0, .int x, .int y, .int z] h Q := by
  refine ma_enter (m := 114) (Or.inl (by decide)) (by show 4 ≤ mt_n 114; decide +kernel) ?_
  show At 114 Q 0 (mt_c 114) [some (.ref 0), some (.int x), some (.int y), some (.int z), none, none] [] h
  refine go 60 (by decide) ?_
  simp only [KX, KY, KZ, KW, KV, Nat.reduceAdd, Nat.reduceSub, Nat.reduceLeDiff, true_and, and_true, true_or, or_true, or_self, reduceCtorEq, if_true, if_false, not_false_eq_true, eq_self, c114, H.e0]
  rcases icasB x 3 (by decide) with ⟨f, l, q, -⟩ | ⟨-, ox⟩
  · refine s145e H R l q ?_
    refine go 60 (by decide) ?_
    simp only [KX, KY, KZ, KW, KV, Nat.reduceAdd, Nat.reduceSub, Nat.reduceLeDiff, true_and, and_true, true_or, or_true, or_self, reduceCtorEq, if_true, if_false, not_false_eq_true, eq_self, c114, H.e0]
    rcases icasB y 3 (by decide) with ⟨f2, l2, q2, a2, b2, -⟩ | ⟨-, oy⟩
    · refine s145e H R l2 q2 ?_
      refine go 60 (by decide) ?_
      simp only [KX, KY, KZ, KW, KV, Nat.reduceAdd, Nat.reduceSub, Nat.reduceLeDiff, true_and, and_true, true_or, or_true, or_self, reduceCtorEq, if_true, if_false, not_false_eq_true, eq_self, c114, H.e0]
      by_cases e : x = y
      · rw [if_pos e]; exact k
      rw [if_neg e]
      have hx := show ¬ (x < 0 ∨ ¬ x < 4) by subst q; rintro (w | w); exact nI_pos (by omega) w; exact w (nI_lt (b := 4) l (by decide))
      have oz := ((o.resolve_left hx).resolve_left (by rintro (w | w); exact a2 w; exact w b2)).resolve_left e
      refine s146n oz ?_
      refine go 60 (by decide) ?_
      simp only [KX, KY, KZ, KW, KV, Nat.reduceAdd, Nat.reduceSub, Nat.reduceLeDiff, true_and, and_true, true_or, or_true, or_self, reduceCtorEq, if_true, if_false, not_false_eq_true, eq_self, c114]
      exact k
    · refine s145n H oy ?_
      refine go 60 (by decide) ?_
      simp only [KX, KY, KZ, KW, KV, Nat.reduceAdd, Nat.reduceSub, Nat.reduceLeDiff, true_and, and_true, true_or, or_true, or_self, reduceCtorEq, if_true, if_false, not_false_eq_true, eq_self, c114, H.e0]
      exact k
  · refine s145n H ox ?_
    refine go 60 (by decide) ?_
    simp only [KX, KY, KZ, KW, KV, Nat.reduceAdd, Nat.reduceSub, Nat.reduceLeDiff, true_and, and_true, true_or, or_true, or_self, reduceCtorEq, if_true, if_false, not_false_eq_true, eq_self, c114, H.e0]
    rcases icasB y 3 (by decide) with ⟨f2, l2, q2, a2, b2, -⟩ | ⟨-, oy⟩
    · refine s145e H R l2 q2 ?_
      refine go 60 (by decide) ?_
      simp only [KX, KY, KZ, KW, KV, Nat.reduceAdd, Nat.reduceSub, Nat.reduceLeDiff, true_and, and_true, true_or, or_true, or_self, reduceCtorEq, if_true, if_false, not_false_eq_true, eq_self, c114, H.e0]
      exact k
    · refine s145n H oy ?_
      refine go 60 (by decide) ?_
      simp only [KX, KY, KZ, KW, KV, Nat.reduceAdd, Nat.reduceSub, Nat.reduceLeDiff, true_and, and_true, true_or, or_true, or_self, reduceCtorEq, if_true, if_false, not_false_eq_true, eq_self, c114, H.e0]
      exact k
theorem s208 {h : ma_H} {Q : ma_Q} {x y z : Int32} {f f2 t : Nat} (H : Sh h) (R : Rt h) (hf : f < 4) (hf2 : f2 < 4) (q : x = nI f) (q2 : y = nI f2) (ne : f ≠ f2) (ht : t < 6) (qt : z = nI t) (k : Q (some (.int (ml_jn (ai h 88) (91 * f) (91 * f2) t (ai h 89 f) 91).2)) (ma_set h 88 (.inl (.int, 910, .inl (ml_jn (ai h 88) (91 * f) (91 * f2) t (ai h 89 f) 91).1)))) : ma_X 208 [.ref 80, .int x, .int y, .int z] h Q := by
  have hs : ∀ g, Sh (ma_set h 88 (.inl (.int, 910, .inl g))) := fun g => sh_set H rfl
  have hR : ∀ g, Rt (ma_set h 88 (.inl (.int, 910, .inl g))) := fun g => R.cong (fun a ha => by simp (disch := omega) only [ma_set_ne])
  have tx : x.toNatClampNeg = f := by subst q; exact nI_clamp (by omega)
  have e91a := ix91n q
  have e91b := ix91n q2
  subst qt
  have lp : ∀ ni i, i + ni = 91 → At 208 Q 20 (0, 0) [some (.ref 80), some (.int x), some (.int y), some (.int (nI t)), some (.int (ml_jn (ai h 88) (91 * f) (91 * f2) t (ai h 89 f) i).2), some (.int (nI i)), none] [] (ma_set h 88 (.inl (.int, 910, .inl (ml_jn (ai h 88) (91 * f) (91 * f2) t (ai h 89 f) i).1))) := by
    intro ni
    induction ni with
    | zero =>
      intro i e
      obtain rfl : i = 91 := by omega
      refine go 60 (by decide) ?_
      simp only [KX, KY, KZ, KW, KV, Nat.reduceAdd, Nat.reduceSub, Nat.reduceLeDiff, true_and, and_true, true_or, or_true, or_self, reduceCtorEq, if_true, if_false, not_false_eq_true, eq_self, c208, (hs _).e80, (hs _).e88, (hs _).e89]
      rw [if_neg (show ¬ nI 91 < (91 : Int32) from nI_nlt (Nat.le_refl _) (by decide))]
      exact k
    | succ ni ih =>
      intro i e
      have hi : i < 91 := by omega
      have e1i := nI_1 i
      refine go 60 (by decide) ?_
      simp only [KX, KY, KZ, KW, KV, Nat.reduceAdd, Nat.reduceSub, Nat.reduceLeDiff, true_and, and_true, true_or, or_true, or_self, reduceCtorEq, if_true, if_false, not_false_eq_true, eq_self, c208, (hs _).e80, (hs _).e88, (hs _).e89]
      rw [if_pos (show nI i < (91 : Int32) from nI_lt hi (by decide))]
      have hl := m_im_lt hi t 0
      refine s202 (hs _) (hR _) hi ht ?_
      refine go 60 (by decide) ?_
      simp only [KX, KY, KZ, KW, KV, Nat.reduceAdd, Nat.reduceSub, Nat.reduceLeDiff, true_and, and_true, true_or, or_true, or_self, reduceCtorEq, if_true, if_false, not_false_eq_true, eq_self, c208, (hs _).e80, (hs _).e88, (hs _).e89]
      rw [e91a, e91b, nI_add]
      refine s172 (A := 91 * f2) (hs _).e80 rfl (hs _).e88 (by omega) ?_
      rw [ai_at, show fl_has (ml_jn (ai h 88) (91 * f) (91 * f2) t (ai h 89 f) i).1 (91 * f2 + i) = fl_has (ai h 88) (91 * f2 + i) from by unfold fl_has; rw [ml_jn_ne (fun j hj => by omega) i (by omega)]]
      by_cases c1 : ai h 88 (91 * f2 + i) < 0
      · rw [show fl_has (ai h 88) (91 * f2 + i) = 0 from if_pos c1]
        refine go 60 (by decide) ?_
        simp only [KX, KY, KZ, KW, KV, Nat.reduceAdd, Nat.reduceSub, Nat.reduceLeDiff, true_and, and_true, true_or, or_true, or_self, reduceCtorEq, if_true, if_false, not_false_eq_true, eq_self, c208, (hs _).e80, (hs _).e88, (hs _).e89]
        have e2 : ml_jn (ai h 88) (91 * f) (91 * f2) t (ai h 89 f) (i + 1) = ml_jn (ai h 88) (91 * f) (91 * f2) t (ai h 89 f) i := by
          show (if ai h 88 (91 * f2 + i) < 0 then _ else _) = _
          rw [if_pos c1]
        rw [e1i, ← e2]
        exact At_le (ih (i + 1) (by omega)) ⟨rfl, rfl, rfl, rfl, rfl, rfl, trivial⟩
      · rw [show fl_has (ai h 88) (91 * f2 + i) = 1 from if_neg c1]
        refine go 60 (by decide) ?_
        simp only [KX, KY, KZ, KW, KV, Nat.reduceAdd, Nat.reduceSub, Nat.reduceLeDiff, true_and, and_true, true_or, or_true, or_self, reduceCtorEq, if_true, if_false, not_false_eq_true, eq_self, c208, (hs _).e80, (hs _).e88, (hs _).e89]
        rw [nI_clamp (show 91 * f + m_im i t 0 < 2 ^ 31 by omega), ai_at]
        refine ⟨nI_in (show 91 * f + m_im i t 0 < 910 by omega) (by decide), ?_⟩
        by_cases c2 : (ml_jn (ai h 88) (91 * f) (91 * f2) t (ai h 89 f) i).1 (91 * f + m_im i t 0) < 0
        · rw [if_pos c2]
          have e2 : ml_jn (ai h 88) (91 * f) (91 * f2) t (ai h 89 f) (i + 1) = (upd (ml_jn (ai h 88) (91 * f) (91 * f2) t (ai h 89 f) i).1 (91 * f + m_im i t 0) (ai h 89 f), (ml_jn (ai h 88) (91 * f) (91 * f2) t (ai h 89 f) i).2 + 1) := by
            show (if ai h 88 (91 * f2 + i) < 0 then _ else if _ then _ else _) = _
            rw [if_neg c1, if_pos c2]
          rw [tx, ai_ne _ _ (by omega)]
          refine ⟨by subst q; exact nI_in (by omega) (by decide), nI_in (show 91 * f + m_im i t 0 < 910 by omega) (by decide), ?_⟩
          rw [ma_set_set, e1i]
          have ih2 := ih (i + 1) (by omega)
          rw [e2] at ih2
          exact At_le ih2 ⟨rfl, rfl, rfl, rfl, rfl, rfl, trivial⟩
        · rw [if_neg c2]
          have e2 : ml_jn (ai h 88) (91 * f) (91 * f2) t (ai h 89 f) (i + 1) = ml_jn (ai h 88) (91 * f) (91 * f2) t (ai h 89 f) i := by
            show (if ai h 88 (91 * f2 + i) < 0 then _ else if _ then _ else _) = _
            rw [if_neg c1, if_neg c2]
          rw [e1i, ← e2]
          exact At_le (ih (i + 1) (by omega)) ⟨rfl, rfl, rfl, rfl, rfl, rfl, trivial⟩
  refine ma_enter (m := 208) (Or.inl (by decide)) (by show 4 ≤ mt_n 208; decide +kernel) ?_
  show At 208 Q 0 (mt_c 208) [some (.ref 80), some (.int x), some (.int y), some (.int (nI t)), none, none, none] [] h
  refine go 60 (by decide) ?_
  simp only [KX, KY, KZ, KW, KV, Nat.reduceAdd, Nat.reduceSub, Nat.reduceLeDiff, true_and, and_true, true_or, or_true, or_self, reduceCtorEq, if_true, if_false, not_false_eq_true, eq_self, c208]
  refine s170y (by subst q; exact nI_pos (by omega)) (by subst q; exact nI_le (a := f) (b := 3) (by omega) (by decide)) ?_
  refine go 60 (by decide) ?_
  simp only [KX, KY, KZ, KW, KV, Nat.reduceAdd, Nat.reduceSub, Nat.reduceLeDiff, true_and, and_true, true_or, or_true, or_self, reduceCtorEq, if_true, if_false, not_false_eq_true, eq_self, c208]
  refine s170y (by subst q2; exact nI_pos (by omega)) (by subst q2; exact nI_le (a := f2) (b := 3) (by omega) (by decide)) ?_
  refine go 60 (by decide) ?_
  simp only [KX, KY, KZ, KW, KV, Nat.reduceAdd, Nat.reduceSub, Nat.reduceLeDiff, true_and, and_true, true_or, or_true, or_self, reduceCtorEq, if_true, if_false, not_false_eq_true, eq_self, c208]
  rw [if_neg (fun e => ne (by subst q q2; exact (nI_eq (by omega) (by omega)).mp e))]
  refine s162y (nI_pos (by omega)) (nI_le (a := t) (b := 5) (by omega) (by decide)) ?_
  refine go 60 (by decide) ?_
  simp only [KX, KY, KZ, KW, KV, Nat.reduceAdd, Nat.reduceSub, Nat.reduceLeDiff, true_and, and_true, true_or, or_true, or_self, reduceCtorEq, if_true, if_false, not_false_eq_true, eq_self, c208]
  have l0 := lp 91 0 rfl
  rw [show (ma_set h 88 (.inl (.int, 910, .inl (ml_jn (ai h 88) (91 * f) (91 * f2) t (ai h 89 f) 0).1))) = h from ma_set_id H.e88] at l0
  exact l0
theorem s208n {h : ma_H} {Q : ma_Q} {x y z : Int32} (o : (x < 0 ∨ ¬ x ≤ 3) ∨ (y < 0 ∨ ¬ y ≤ 3) ∨ x = y ∨ (z < 0 ∨ ¬ z ≤ 5)) (k : Q (some (.int (-1))) h) : ma_X 208 [.ref 80, .int x, .int y, .int z] h Q := by
  refine ma_enter (m := 208) (Or.inl (by decide)) (by show 4 ≤ mt_n 208; decide +kernel) ?_
  show At 208 Q 0 (mt_c 208) [some (.ref 80), some (.int x), some (.int y), some (.int z), none, none, none] [] h
  refine go 60 (by decide) ?_
  simp only [KX, KY, KZ, KW, KV, Nat.reduceAdd, Nat.reduceSub, Nat.reduceLeDiff, true_and, and_true, true_or, or_true, or_self, reduceCtorEq, if_true, if_false, not_false_eq_true, eq_self, c208]
  by_cases e : i_in x 0 3 = 0
  · refine s170 ?_
    rw [e]
    refine go 60 (by decide) ?_
    simp only [KX, KY, KZ, KW, KV, Nat.reduceAdd, Nat.reduceSub, Nat.reduceLeDiff, true_and, and_true, true_or, or_true, or_self, reduceCtorEq, if_true, if_false, not_false_eq_true, eq_self, c208]
    exact k
  refine s170 ?_
  rw [(i_in01n x 0 3).resolve_left e]
  refine go 60 (by decide) ?_
  simp only [KX, KY, KZ, KW, KV, Nat.reduceAdd, Nat.reduceSub, Nat.reduceLeDiff, true_and, and_true, true_or, or_true, or_self, reduceCtorEq, if_true, if_false, not_false_eq_true, eq_self, c208]
  have o1 := o.resolve_left (fun z => e (i_in_no z))
  by_cases e2 : i_in y 0 3 = 0
  · refine s170 ?_
    rw [e2]
    refine go 60 (by decide) ?_
    simp only [KX, KY, KZ, KW, KV, Nat.reduceAdd, Nat.reduceSub, Nat.reduceLeDiff, true_and, and_true, true_or, or_true, or_self, reduceCtorEq, if_true, if_false, not_false_eq_true, eq_self, c208]
    exact k
  refine s170 ?_
  rw [(i_in01n y 0 3).resolve_left e2]
  refine go 60 (by decide) ?_
  simp only [KX, KY, KZ, KW, KV, Nat.reduceAdd, Nat.reduceSub, Nat.reduceLeDiff, true_and, and_true, true_or, or_true, or_self, reduceCtorEq, if_true, if_false, not_false_eq_true, eq_self, c208]
  have o2 := o1.resolve_left (fun z => e2 (i_in_no z))
  by_cases e3 : x = y
  · rw [if_pos e3]; exact k
  rw [if_neg e3]
  refine s162n (o2.resolve_left e3) ?_
  refine go 60 (by decide) ?_
  simp only [KX, KY, KZ, KW, KV, Nat.reduceAdd, Nat.reduceSub, Nat.reduceLeDiff, true_and, and_true, true_or, or_true, or_self, reduceCtorEq, if_true, if_false, not_false_eq_true, eq_self, c208]
  exact k
theorem p114 {h : ma_H} {x y z : Int32} (I : Inv h) : Pair h 114 208 [.int x, .int y, .int z] := by
  intro Q k
  have bad : ((x < 0 ∨ ¬ x < 4) ∨ (y < 0 ∨ ¬ y < 4) ∨ x = y ∨ (z < 0 ∨ ¬ z ≤ 5)) → ((x < 0 ∨ ¬ x ≤ 3) ∨ (y < 0 ∨ ¬ y ≤ 3) ∨ x = y ∨ (z < 0 ∨ ¬ z ≤ 5)) → ma_X 114 [.ref 0, .int x, .int y, .int z] h Q := fun o1 o2 => s114n I.sh I.rr o1 (k _ _ (by repeat (first | exact e80_I I | exact e80_S (by assumption) | exact e80_I (by assumption) | exact e80_n I.sh | refine e80_s (by omega) ?_)) fun Q2 k2 => s208n o2 (k2 _ I))
  rcases icasB x 3 (by decide) with ⟨f, l, q, -⟩ | ⟨o1, o2⟩
  · rcases icasB y 3 (by decide) with ⟨f2, l2, q2, -⟩ | ⟨o1, o2⟩
    · by_cases e : f = f2
      · subst e
        exact bad (Or.inr (Or.inr (Or.inl (q.trans q2.symm)))) (Or.inr (Or.inr (Or.inl (q.trans q2.symm))))
      · rcases icasB z 5 (by decide) with ⟨t, ht, qt, -⟩ | ⟨o1, o2⟩
        · refine s114 I.sh I.rr l l2 q q2 e ht qt (k _ _ (by repeat (first | exact e80_I I | exact e80_S (by assumption) | exact e80_I (by assumption) | exact e80_n I.sh | refine e80_s (by omega) ?_)) fun Q2 k2 => ?_)
          have H1 := sh_set I.sh (nf_s l (fl_jn (ai h (37 + 3 * f)) (ai h (37 + 3 * f2)) t (fi h (36 + 3 * f) 0) 91).1)
          refine s208 H1 (I.rt.cong (fun a ha => by simp (disch := omega) only [ma_set_ne])) l l2 q q2 e ht qt ?_
          rw [ai_ne _ _ (show 88 ≠ 37 + 3 * f by omega), ai_ne _ _ (show 89 ≠ 37 + 3 * f by omega)]
          obtain ⟨n, n6, m1, m2⟩ := I.nf.mf l
          rw [I.nf.m l] at k2 ⊢
          have hmn : ¬ ai h 89 f < 0 := by rw [m2]; exact nI_pos (by omega)
          obtain ⟨j1, j2, j3⟩ := jn_eq (g := ai h (37 + 3 * f)) (g2 := ai h (37 + 3 * f2)) (m := ai h 88) (A := 91 * f) (B := 91 * f2) ht hmn (fun i hi => I.nf.eq l hi) (fun i hi => I.nf.eq l2 hi) (fun i hi => I.nf.b l hi) (I.nf.ok l) 91 (by omega)
          rw [← j2]
          refine k2 _ (I.flk l (sh_set (sh_set I.sh (nf_s l _)) rfl) rfl (fun a a1 a2 a3 a4 => ?_) ?_ (fun i hi => ?_) (fun i hi => ?_) (fun j hj w => ?_) ?_ (fun j hj w => ?_)) <;> (try simp (disch := omega) only [ai_ne, ai_at, fi_ne])
          · unfold exf at a4
            rw [ma_set_ne _ _ (by omega), ma_set_ne _ _ (by omega)]
          · exact j3
          · exact j1 i hi
          · exact ml_jn_b hmn (I.nf.b l hi) _
          · exact ml_jn_ne w _ (by omega)
          · exact ⟨n, n6, m1, m2⟩
        · exact bad (Or.inr (Or.inr (Or.inr o1))) (Or.inr (Or.inr (Or.inr o1)))
    · exact bad (Or.inr (Or.inl o2)) (Or.inr (Or.inl o1))
  · exact bad (Or.inl o2) (Or.inl o1)
