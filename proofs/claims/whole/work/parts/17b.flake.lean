/-! FLAKE, on -/
theorem ma_set_set (h : ma_H) (a : Nat) (c c2 : ma_C) : ma_set (ma_set h a c) a c2 = ma_set h a c2 := by
  unfold ma_set
  refine Prod.ext rfl (Prod.ext (funext fun q => ?_) rfl)
  show (if q = a then c2 else if q = a then c else h.2.1 q) = if q = a then c2 else h.2.1 q
  by_cases e : q = a
  · rw [if_pos e, if_pos e]
  · rw [if_neg e, if_neg e, if_neg e]
theorem ma_set_id {h : ma_H} {a : Nat} {c : ma_C} (e : h.2.1 a = c) : ma_set h a c = h := by
  unfold ma_set
  refine Prod.ext rfl (Prod.ext (funext fun q => ?_) rfl)
  show (if q = a then c else h.2.1 q) = h.2.1 q
  by_cases e1 : q = a
  · rw [if_pos e1, e1, e]
  · rw [if_neg e1]
theorem ma_set_at (h : ma_H) (a : Nat) (c : ma_C) : (ma_set h a c).2.1 a = c := if_pos rfl
theorem ma_set_ne (h : ma_H) {a q : Nat} (c : ma_C) (e : q ≠ a) : (ma_set h a c).2.1 q = h.2.1 q := if_neg e
/-- the first n CELLS set -/
def fl_set (g : Nat → Int32) (v : Int32) : Nat → Nat → Int32
  | 0 => g
  | n + 1 => upd (fl_set g v n) (ma_cell n) v
/-- minutes: ICE since w on CELL i; bare CELL i -/
def fl_since (g : Nat → Int32) (w : Int32) (i : Nat) : Int32 := if g (ma_cell i) = w then 1 else 0
/-- a FLAKE's places: only CELLS can be other than -2 -/
def fl_ok (g : Nat → Int32) : Prop := (∀ i, i < 91 → g (ma_cell i) ≠ -2) ∧ ∀ q, q < 169 → (∀ i, i < 91 → q ≠ ma_cell i) → g q = -2
theorem s18c {h : ma_H} {Q : ma_Q} {a s rc : Nat} {mn : Int32} {g : Nat → Int32} (h1 : h.2.1 a = .inr (2, [.int mn, .ref s, .ref rc])) (h2 : h.2.1 s = .inl (.int, 169, .inl g)) {i : Nat} (hi : i < 91) (k : Q (some (.int (g (ma_cell i)))) h) : ma_X 18 [.ref a, .int (nI (ma_cell i))] h Q := by
  have hc := (cell_lt i hi).1
  refine s18 h1 h2 ?_
  rw [if_neg (nI_pos (by omega)), if_pos (nI_lt hc (by decide)), nI_clamp (by omega)]
  exact k
theorem s27 {h : ma_H} {Q : ma_Q} {a s rc : Nat} {mn : Int32} {g : Nat → Int32} (h1 : h.2.1 a = .inr (2, [.int mn, .ref s, .ref rc])) (h2 : h.2.1 s = .inl (.int, 169, .inl g)) {x : Int32} (k : Q (some (.int (if (if x < 0 then -2 else if x < nI 169 then g x.toNatClampNeg else -2) = -1 then 1 else 0))) h) : ma_X 27 [.ref a, .int x] h Q := by
  refine ma_enter (m := 27) (Or.inl (by decide)) (by show 2 ≤ mt_n 27; decide +kernel) ?_
  show At 27 Q 0 (0, 0) [some (.ref a), some (.int x)] [] h
  refine go 60 (by decide) ?_
  simp only [KX, KY, KZ, KW, KV, Nat.reduceAdd, Nat.reduceSub, Nat.reduceLeDiff, true_and, and_true, true_or, or_true, or_self, reduceCtorEq, if_true, if_false, not_false_eq_true, eq_self, c27, h1, h2]
  refine s18 h1 h2 ?_
  refine go 60 (by decide) ?_
  simp only [KX, KY, KZ, KW, KV, Nat.reduceAdd, Nat.reduceSub, Nat.reduceLeDiff, true_and, and_true, true_or, or_true, or_self, reduceCtorEq, if_true, if_false, not_false_eq_true, eq_self, c27, h1, h2]
  by_cases q : (if x < 0 then -2 else if x < nI 169 then g x.toNatClampNeg else -2) = -1
  · rw [if_pos q] at k ⊢; exact k
  · rw [if_neg q] at k ⊢; exact k
theorem s27c {h : ma_H} {Q : ma_Q} {a s rc : Nat} {mn : Int32} {g : Nat → Int32} (h1 : h.2.1 a = .inr (2, [.int mn, .ref s, .ref rc])) (h2 : h.2.1 s = .inl (.int, 169, .inl g)) {i : Nat} (hi : i < 91) (k : Q (some (.int (fl_since g (-1) i))) h) : ma_X 27 [.ref a, .int (nI (ma_cell i))] h Q := by
  have hc := (cell_lt i hi).1
  refine s27 h1 h2 ?_
  rw [if_neg (nI_pos (by omega)), if_pos (nI_lt hc (by decide)), nI_clamp (by omega)]
  exact k
theorem s17 {h : ma_H} {Q : ma_Q} {a s rc : Nat} {mn : Int32} {g : Nat → Int32} (h1 : h.2.1 a = .inr (2, [.int mn, .ref s, .ref rc])) (h2 : h.2.1 s = .inl (.int, 169, .inl g)) {x v : Int32} (k1 : ¬ x < 0 → x < nI 169 → ¬ g x.toNatClampNeg = -2 → Q none (ma_set h s (.inl (.int, 169, .inl (upd g x.toNatClampNeg v))))) (k2 : x < 0 ∨ ¬ x < nI 169 ∨ g x.toNatClampNeg = -2 → Q none h) : ma_X 17 [.ref a, .int x, .int v] h Q := by
  refine ma_enter (m := 17) (Or.inl (by decide)) (by show 3 ≤ mt_n 17; decide +kernel) ?_
  show At 17 Q 0 (0, 0) [some (.ref a), some (.int x), some (.int v)] [] h
  refine go 60 (by decide) ?_
  simp only [KX, KY, KZ, KW, KV, Nat.reduceAdd, Nat.reduceSub, Nat.reduceLeDiff, true_and, and_true, true_or, or_true, or_self, reduceCtorEq, if_true, if_false, not_false_eq_true, eq_self, c17, h1, h2]
  split
  · exact k2 (Or.inl (by assumption))
  · split
    · have hv := in_vp (n := 169) (by decide) (by assumption) (by assumption)
      refine ⟨hv, ?_⟩
      split
      · exact k2 (Or.inr (Or.inr (by assumption)))
      · exact ⟨hv, k1 (by assumption) (by assumption) (by assumption)⟩
    · exact k2 (Or.inr (Or.inl (by assumption)))
theorem s17c {h : ma_H} {Q : ma_Q} {a s rc : Nat} {mn : Int32} {g : Nat → Int32} (h1 : h.2.1 a = .inr (2, [.int mn, .ref s, .ref rc])) (h2 : h.2.1 s = .inl (.int, 169, .inl g)) {i : Nat} {v : Int32} (hi : i < 91) (hg : g (ma_cell i) ≠ -2) (k : Q none (ma_set h s (.inl (.int, 169, .inl (upd g (ma_cell i) v))))) : ma_X 17 [.ref a, .int (nI (ma_cell i)), .int v] h Q := by
  have hc := (cell_lt i hi).1
  have e : (nI (ma_cell i)).toNatClampNeg = ma_cell i := nI_clamp (by omega)
  refine s17 h1 h2 (fun _ _ _ => by rw [e]; exact k) (fun q => ?_)
  rw [e] at q
  rcases q with q | q | q
  · exact absurd q (nI_pos (by omega))
  · exact absurd (nI_lt hc (by decide)) q
  · exact absurd q hg
theorem s23 {h : ma_H} {Q : ma_Q} {a s rc : Nat} {mn : Int32} {g : Nat → Int32} (h1 : h.2.1 a = .inr (2, [.int mn, .ref s, .ref rc])) (h2 : h.2.1 s = .inl (.int, 169, .inl g)) {w : Int32} (k : Q (some (.int (su (fl_since g w) 91))) h) : ma_X 23 [.ref a, .int w] h Q := by
  refine ma_enter (m := 23) (Or.inl (by decide)) (by show 2 ≤ mt_n 23; decide +kernel) ?_
  show At 23 Q 0 (0, 0) [some (.ref a), some (.int w), none, none, none, none, none] [] h
  have lp : ∀ n i, i + n = 91 → At 23 Q 9 (0, 0) [some (.ref a), some (.int w), some (.int (su (fl_since g w) i)), some (.retAddr 0), some (.int (nI 91)), some (.int (nI i)), none] [] h := by
    intro n
    induction n with
    | zero =>
      intro i e
      obtain rfl : i = 91 := by omega
      refine go 60 (by decide) ?_
      simp only [KX, KY, KZ, KW, KV, Nat.reduceAdd, Nat.reduceSub, Nat.reduceLeDiff, true_and, and_true, true_or, or_true, or_self, reduceCtorEq, if_true, if_false, not_false_eq_true, eq_self, c23, h1, h2]
      rw [if_neg (nI_nlt (Nat.le_refl _) (by decide))]
      exact k
    | succ n ih =>
      intro i e
      have hi : i < 91 := by omega
      refine go 60 (by decide) ?_
      simp only [KX, KY, KZ, KW, KV, Nat.reduceAdd, Nat.reduceSub, Nat.reduceLeDiff, true_and, and_true, true_or, or_true, or_self, reduceCtorEq, if_true, if_false, not_false_eq_true, eq_self, c23, h1, h2]
      rw [if_pos (nI_lt hi (by decide))]
      rw [nI_clamp (show i < 2 ^ 31 by omega)]
      refine ⟨nI_in hi (by decide), ?_⟩
      have e1 := nI_1 i
      refine s18c h1 h2 hi ?_
      refine go 60 (by decide) ?_
      simp only [KX, KY, KZ, KW, KV, Nat.reduceAdd, Nat.reduceSub, Nat.reduceLeDiff, true_and, and_true, true_or, or_true, or_self, reduceCtorEq, if_true, if_false, not_false_eq_true, eq_self, c23, h1, h2]
      split
      · rename_i q
        have e2 : su (fl_since g w) (i + 1) = su (fl_since g w) i + 1 := by
          show su (fl_since g w) i + fl_since g w i = _
          unfold fl_since
          rw [if_pos q]
        refine go 60 (by decide) ?_
        simp only [KX, KY, KZ, KW, KV, Nat.reduceAdd, Nat.reduceSub, Nat.reduceLeDiff, true_and, and_true, true_or, or_true, or_self, reduceCtorEq, if_true, if_false, not_false_eq_true, eq_self, c23, h1, h2]
        rw [e1, ← e2]
        exact At_le (ih (i + 1) (by omega)) ⟨rfl, rfl, rfl, rfl, rfl, rfl, trivial⟩
      · rename_i q
        have e2 : su (fl_since g w) (i + 1) = su (fl_since g w) i + 0 := by
          show su (fl_since g w) i + fl_since g w i = _
          unfold fl_since
          rw [if_neg q]
        refine go 60 (by decide) ?_
        simp only [KX, KY, KZ, KW, KV, Nat.reduceAdd, Nat.reduceSub, Nat.reduceLeDiff, true_and, and_true, true_or, or_true, or_self, reduceCtorEq, if_true, if_false, not_false_eq_true, eq_self, c23, h1, h2]
        rw [e1, ← e2]
        exact At_le (ih (i + 1) (by omega)) ⟨rfl, rfl, rfl, rfl, rfl, rfl, trivial⟩
  refine go 60 (by decide) ?_
  simp only [KX, KY, KZ, KW, KV, Nat.reduceAdd, Nat.reduceSub, Nat.reduceLeDiff, true_and, and_true, true_or, or_true, or_self, reduceCtorEq, if_true, if_false, not_false_eq_true, eq_self, c23, h1, h2]
  exact lp 91 0 rfl
theorem fl_set_ne {g : Nat → Int32} {v : Int32} (hv : v ≠ -2) {j : Nat} (h : g (ma_cell j) ≠ -2) : ∀ n, fl_set g v n (ma_cell j) ≠ -2
  | 0 => h
  | n + 1 => by
    show upd (fl_set g v n) (ma_cell n) v (ma_cell j) ≠ -2
    unfold upd
    split
    · exact hv
    · exact fl_set_ne hv h n
theorem s15 {h : ma_H} {Q : ma_Q} {a s rc : Nat} {mn : Int32} {g : Nat → Int32} (h1 : h.2.1 a = .inr (2, [.int mn, .ref s, .ref rc])) (h2 : h.2.1 s = .inl (.int, 169, .inl g)) (hs : a ≠ s) (hg : fl_ok g) (k : Q none (ma_set (ma_set h s (.inl (.int, 169, .inl (upd (fl_set g (-1) 91) 84 0)))) a (.inr (2, [.int 0, .ref s, .ref rc])))) : ma_X 15 [.ref a] h Q := by
  have hA : ∀ c, (ma_set h s c).2.1 a = .inr (2, [.int mn, .ref s, .ref rc]) := fun c => (ma_set_ne h c hs).trans h1
  refine ma_enter (m := 15) (Or.inl (by decide)) (by show 1 ≤ mt_n 15; decide +kernel) ?_
  show At 15 Q 0 (0, 0) [some (.ref a), none, none, none, none] [] h
  have lp : ∀ n i, i + n = 91 → At 15 Q 7 (0, 0) [some (.ref a), some (.retAddr 0), some (.int (nI 91)), some (.int (nI i)), none] [] (ma_set h s (.inl (.int, 169, .inl (fl_set g (-1) i)))) := by
    intro n
    induction n with
    | zero =>
      intro i e
      obtain rfl : i = 91 := by omega
      refine go 60 (by decide) ?_
      simp only [KX, KY, KZ, KW, KV, Nat.reduceAdd, Nat.reduceSub, Nat.reduceLeDiff, true_and, and_true, true_or, or_true, or_self, reduceCtorEq, if_true, if_false, not_false_eq_true, eq_self, c15, hA, ma_set_at]
      rw [if_neg (nI_nlt (Nat.le_refl _) (by decide))]
      have hc : ma_cell 45 = 84 := by decide +kernel
      have h84 : (84 : Int32) = nI (ma_cell 45) := by rw [hc]; rfl
      rw [h84]
      refine s17c (hA _) (ma_set_at _ _ _) (by decide) (fl_set_ne (by decide) (hg.1 45 (by decide)) 91) ?_
      rw [ma_set_set, hc]
      refine go 60 (by decide) ?_
      simp only [KX, KY, KZ, KW, KV, Nat.reduceAdd, Nat.reduceSub, Nat.reduceLeDiff, true_and, and_true, true_or, or_true, or_self, reduceCtorEq, if_true, if_false, not_false_eq_true, eq_self, c15, hA, ma_set_at]
      exact ⟨by show 0 < 3; decide, trivial, k⟩
    | succ n ih =>
      intro i e
      have hi : i < 91 := by omega
      refine go 60 (by decide) ?_
      simp only [KX, KY, KZ, KW, KV, Nat.reduceAdd, Nat.reduceSub, Nat.reduceLeDiff, true_and, and_true, true_or, or_true, or_self, reduceCtorEq, if_true, if_false, not_false_eq_true, eq_self, c15, hA, ma_set_at]
      rw [if_pos (nI_lt hi (by decide))]
      rw [nI_clamp (show i < 2 ^ 31 by omega)]
      refine ⟨nI_in hi (by decide), ?_⟩
      have e1 := nI_1 i
      refine s17c (hA _) (ma_set_at _ _ _) hi (fl_set_ne (by decide) (hg.1 i hi) i) ?_
      rw [ma_set_set]
      refine go 60 (by decide) ?_
      simp only [KX, KY, KZ, KW, KV, Nat.reduceAdd, Nat.reduceSub, Nat.reduceLeDiff, true_and, and_true, true_or, or_true, or_self, reduceCtorEq, if_true, if_false, not_false_eq_true, eq_self, c15, hA, ma_set_at]
      rw [e1]
      exact At_le (ih (i + 1) (by omega)) ⟨rfl, rfl, rfl, rfl, trivial⟩
  refine go 60 (by decide) ?_
  simp only [KX, KY, KZ, KW, KV, Nat.reduceAdd, Nat.reduceSub, Nat.reduceLeDiff, true_and, and_true, true_or, or_true, or_self, reduceCtorEq, if_true, if_false, not_false_eq_true, eq_self, c15, h1, h2]
  have e0 : ma_set h s (.inl (.int, 169, .inl (fl_set g (-1) 0))) = h := ma_set_id h2
  have lp0 := lp 91 0 rfl
  rw [e0] at lp0
  exact lp0
