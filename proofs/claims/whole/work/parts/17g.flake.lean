/-! FLAKE: joins -/
def fl_bareX (g : Nat → Int32) (x : Int32) : Int32 := if (if x < 0 then -2 else if x < nI 169 then g x.toNatClampNeg else -2) = -1 then 1 else 0
theorem fl_bareX01 (g : Nat → Int32) (x : Int32) : fl_bareX g x = 0 ∨ (fl_bareX g x = 1 ∧ ¬ x < 0 ∧ x < nI 169 ∧ g x.toNatClampNeg = -1) := by
  unfold fl_bareX
  by_cases a : x < 0
  · rw [if_pos a]
    exact Or.inl (if_neg (by decide))
  · rw [if_neg a]
    by_cases b : x < nI 169
    · rw [if_pos b]
      by_cases c : g x.toNatClampNeg = -1
      · exact Or.inr ⟨if_pos c, a, b, c⟩
      · exact Or.inl (if_neg c)
    · rw [if_neg b]
      exact Or.inl (if_neg (by decide))
/-- the places and the count after n CELLS of a meeting -/
def fl_jn (g g2 : Nat → Int32) (t : Nat) (mn : Int32) : Nat → (Nat → Int32) × Int32
  | 0 => (g, 0)
  | n + 1 => if g2 (ma_cell n) < 0 then fl_jn g g2 t mn n else if fl_bareX (fl_jn g g2 t mn n).1 (i_image (nI (ma_cell n)) t 0) = 0 then fl_jn g g2 t mn n else (upd (fl_jn g g2 t mn n).1 (i_image (nI (ma_cell n)) t 0).toNatClampNeg mn, (fl_jn g g2 t mn n).2 + 1)
theorem s27x {h : ma_H} {Q : ma_Q} {a s rc : Nat} {mn : Int32} {g : Nat → Int32} (h1 : h.2.1 a = .inr (2, [.int mn, .ref s, .ref rc])) (h2 : h.2.1 s = .inl (.int, 169, .inl g)) {x : Int32} (k : Q (some (.int (fl_bareX g x))) h) : ma_X 27 [.ref a, .int x] h Q := by
  exact s27 h1 h2 k
theorem s34 {h : ma_H} {Q : ma_Q} {a s rc : Nat} {mn : Int32} {g : Nat → Int32} (h1 : h.2.1 a = .inr (2, [.int mn, .ref s, .ref rc])) (h2 : h.2.1 s = .inl (.int, 169, .inl g)) {a2 s2 rc2 : Nat} {mn2 : Int32} {g2 : Nat → Int32} (h3 : h.2.1 a2 = .inr (2, [.int mn2, .ref s2, .ref rc2])) (h4 : h.2.1 s2 = .inl (.int, 169, .inl g2)) {t : Nat} (ht : t < 100) (hs : a ≠ s) (hs2 : a2 ≠ s) (hss : s2 ≠ s) (k : Q (some (.int (fl_jn g g2 t mn 91).2)) (ma_set h s (.inl (.int, 169, .inl (fl_jn g g2 t mn 91).1)))) : ma_X 34 [.ref a, .ref a2, .int (nI t)] h Q := by
  have hA : ∀ c, (ma_set h s c).2.1 a = .inr (2, [.int mn, .ref s, .ref rc]) := fun c => (ma_set_ne h c hs).trans h1
  have hA2 : ∀ c, (ma_set h s c).2.1 a2 = .inr (2, [.int mn2, .ref s2, .ref rc2]) := fun c => (ma_set_ne h c hs2).trans h3
  have hS2 : ∀ c, (ma_set h s c).2.1 s2 = .inl (.int, 169, .inl g2) := fun c => (ma_set_ne h c hss).trans h4
  refine ma_enter (m := 34) (Or.inl (by decide)) (by show 3 ≤ mt_n 34; decide +kernel) ?_
  show At 34 Q 0 (0, 0) [some (.ref a), some (.ref a2), some (.int (nI t)), none, none, none, none, none, none] [] h
  have lp : ∀ n i, i + n = 91 → At 34 Q 9 (0, 0) [some (.ref a), some (.ref a2), some (.int (nI t)), some (.int (fl_jn g g2 t mn i).2), some (.retAddr 0), some (.int (nI 91)), some (.int (nI i)), none, none] [] (ma_set h s (.inl (.int, 169, .inl (fl_jn g g2 t mn i).1))) := by
    intro n
    induction n with
    | zero =>
      intro i e
      obtain rfl : i = 91 := by omega
      refine go 60 (by decide) ?_
      simp only [KX, KY, KZ, KW, KV, Nat.reduceAdd, Nat.reduceSub, Nat.reduceLeDiff, true_and, and_true, true_or, or_true, or_self, reduceCtorEq, if_true, if_false, not_false_eq_true, eq_self, c34, hA, hA2, hS2, ma_set_at]
      rw [if_neg (nI_nlt (Nat.le_refl _) (by decide))]
      exact k
    | succ n ih =>
      intro i e
      have hi : i < 91 := by omega
      refine go 60 (by decide) ?_
      simp only [KX, KY, KZ, KW, KV, Nat.reduceAdd, Nat.reduceSub, Nat.reduceLeDiff, true_and, and_true, true_or, or_true, or_self, reduceCtorEq, if_true, if_false, not_false_eq_true, eq_self, c34, hA, hA2, hS2, ma_set_at]
      rw [if_pos (nI_lt hi (by decide))]
      rw [nI_clamp (show i < 2 ^ 31 by omega)]
      refine ⟨nI_in hi (by decide), ?_⟩
      have e1 := nI_1 i
      refine s14 ht ?_
      refine go 60 (by decide) ?_
      simp only [KX, KY, KZ, KW, KV, Nat.reduceAdd, Nat.reduceSub, Nat.reduceLeDiff, true_and, and_true, true_or, or_true, or_self, reduceCtorEq, if_true, if_false, not_false_eq_true, eq_self, c34, hA, hA2, hS2, ma_set_at]
      refine s19c (hA2 _) (hS2 _) hi (fun q => ?_) (fun q => ?_)
      · have e2 : fl_jn g g2 t mn (i + 1) = fl_jn g g2 t mn i := by
          show (if g2 (ma_cell i) < 0 then _ else _) = _
          rw [if_pos q]
        refine go 60 (by decide) ?_
        simp only [KX, KY, KZ, KW, KV, Nat.reduceAdd, Nat.reduceSub, Nat.reduceLeDiff, true_and, and_true, true_or, or_true, or_self, reduceCtorEq, if_true, if_false, not_false_eq_true, eq_self, c34, hA, hA2, hS2, ma_set_at]
        rw [e1, ← e2]
        exact At_le (ih (i + 1) (by omega)) ⟨rfl, rfl, rfl, rfl, rfl, rfl, rfl, trivial⟩
      · refine go 60 (by decide) ?_
        simp only [KX, KY, KZ, KW, KV, Nat.reduceAdd, Nat.reduceSub, Nat.reduceLeDiff, true_and, and_true, true_or, or_true, or_self, reduceCtorEq, if_true, if_false, not_false_eq_true, eq_self, c34, hA, hA2, hS2, ma_set_at]
        refine s27x (hA _) (ma_set_at _ _ _) ?_
        rcases fl_bareX01 (fl_jn g g2 t mn i).1 (i_image (nI (ma_cell i)) t 0) with w | ⟨w, w1, w2, w3⟩
        · have e2 : fl_jn g g2 t mn (i + 1) = fl_jn g g2 t mn i := by
            show (if g2 (ma_cell i) < 0 then _ else _) = _
            rw [if_neg q, if_pos w]
          rw [w]
          refine go 60 (by decide) ?_
          simp only [KX, KY, KZ, KW, KV, Nat.reduceAdd, Nat.reduceSub, Nat.reduceLeDiff, true_and, and_true, true_or, or_true, or_self, reduceCtorEq, if_true, if_false, not_false_eq_true, eq_self, c34, hA, hA2, hS2, ma_set_at]
          rw [e1, ← e2]
          exact At_le (ih (i + 1) (by omega)) ⟨rfl, rfl, rfl, rfl, rfl, rfl, rfl, trivial⟩
        · have e2 : fl_jn g g2 t mn (i + 1) = (upd (fl_jn g g2 t mn i).1 (i_image (nI (ma_cell i)) t 0).toNatClampNeg mn, (fl_jn g g2 t mn i).2 + 1) := by
            show (if g2 (ma_cell i) < 0 then _ else _) = _
            rw [if_neg q, if_neg (by rw [w]; decide)]
          rw [w]
          refine go 60 (by decide) ?_
          simp only [KX, KY, KZ, KW, KV, Nat.reduceAdd, Nat.reduceSub, Nat.reduceLeDiff, true_and, and_true, true_or, or_true, or_self, reduceCtorEq, if_true, if_false, not_false_eq_true, eq_self, c34, hA, hA2, hS2, ma_set_at]
          refine s17 (hA _) (ma_set_at _ _ _) (fun _ _ _ => ?_) (fun z => ?_)
          · rw [ma_set_set]
            refine go 60 (by decide) ?_
            simp only [KX, KY, KZ, KW, KV, Nat.reduceAdd, Nat.reduceSub, Nat.reduceLeDiff, true_and, and_true, true_or, or_true, or_self, reduceCtorEq, if_true, if_false, not_false_eq_true, eq_self, c34, hA, hA2, hS2, ma_set_at]
            have k2 := ih (i + 1) (by omega)
            rw [e2] at k2
            rw [e1]
            exact At_le k2 ⟨rfl, rfl, rfl, rfl, rfl, rfl, rfl, trivial⟩
          · rcases z with z | z | z
            · exact absurd z w1
            · exact absurd w2 z
            · rw [w3] at z
              exact absurd z (by decide)
  refine go 60 (by decide) ?_
  simp only [KX, KY, KZ, KW, KV, Nat.reduceAdd, Nat.reduceSub, Nat.reduceLeDiff, true_and, and_true, true_or, or_true, or_self, reduceCtorEq, if_true, if_false, not_false_eq_true, eq_self, c34, h1, h2, h3, h4]
  have e0 : ma_set h s (.inl (.int, 169, .inl (fl_jn g g2 t mn 0).1)) = h := ma_set_id h2
  have lp0 := lp 91 0 rfl
  rw [e0] at lp0
  exact lp0
