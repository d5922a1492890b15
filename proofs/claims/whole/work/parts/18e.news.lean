/-! a new FLAKE -/
def fl_v (p : Nat) : Int32 := if i_place (nI p - nI p / 13 * 13 - 6, nI p / 13 - 6) < 0 then -2 else -1
def fl_init : Nat → Nat → Int32
  | 0 => fun _ => 0
  | n + 1 => upd (fl_init n) n (fl_v n)
def fl_new (h : ma_H) (a : Nat) : ma_H := ma_set (ma_new (ma_set (ma_new h (.inl (.int, 169, .inl fun _ => 0))) a (.inr (2, [.int 0, .ref h.1, .null]))) (.inl (.byte, 169, .inl fun _ => 0))) a (.inr (2, [.int 0, .ref h.1, .ref (h.1 + 1)]))
theorem fl_new_a (h : ma_H) (a : Nat) : (fl_new h a).2.1 a = .inr (2, [.int 0, .ref h.1, .ref (h.1 + 1)]) := if_pos rfl
theorem fl_new_s (h : ma_H) {a : Nat} (ha : a < h.1) : (fl_new h a).2.1 h.1 = .inl (.int, 169, .inl (fl_init 0)) := by
  have e : h.1 ≠ a := Nat.ne_of_gt ha
  have e2 : h.1 ≠ h.1 + 1 := by omega
  exact (ma_set_ne _ _ e).trans ((ma_new_ne _ _ (by show h.1 ≠ h.1 + 1; exact e2)).trans ((ma_set_ne _ _ e).trans (ma_new_at h _)))
theorem s8 {h : ma_H} {Q : ma_Q} {a : Nat} (ha : a < h.1) (h1 : h.2.1 a = .inr (2, [.int 0, .null, .null])) (k : Q none (ma_set (fl_new h a) h.1 (.inl (.int, 169, .inl (upd (fl_init 169) 84 0))))) : ma_X 8 [.ref a] h Q := by
  have hne : a ≠ h.1 := Nat.ne_of_lt ha
  have hA : ∀ c, (ma_set (fl_new h a) h.1 c).2.1 a = .inr (2, [.int 0, .ref h.1, .ref (h.1 + 1)]) := fun c => (ma_set_ne _ c hne).trans (fl_new_a h a)
  have lp : ∀ n i, i + n = 169 → At 8 Q 12 (0, 0) [some (.ref a), some (.int (nI i))] [] (ma_set (fl_new h a) h.1 (.inl (.int, 169, .inl (fl_init i)))) := by
    intro n
    induction n with
    | zero =>
      intro i e
      obtain rfl : i = 169 := by omega
      refine go 60 (by decide) ?_
      simp only [KX, KY, KZ, KW, KV, Nat.reduceAdd, Nat.reduceSub, Nat.reduceLeDiff, true_and, and_true, true_or, or_true, or_self, reduceCtorEq, if_true, if_false, not_false_eq_true, eq_self, c8, hA, ma_set_at]
      rw [if_neg (nI_nlt (Nat.le_refl _) (by decide))]
      have hc : ma_cell 45 = 84 := by decide +kernel
      have h84 : (84 : Int32) = nI (ma_cell 45) := by rw [hc]; rfl
      rw [h84]
      refine s17c (hA _) (ma_set_at _ _ _) (by decide) (by decide +kernel) ?_
      rw [ma_set_set, hc]
      refine go 60 (by decide) ?_
      simp only [KX, KY, KZ, KW, KV, Nat.reduceAdd, Nat.reduceSub, Nat.reduceLeDiff, true_and, and_true, true_or, or_true, or_self, reduceCtorEq, if_true, if_false, not_false_eq_true, eq_self, c8, hA, ma_set_at]
      exact k
    | succ n ih =>
      intro i e
      have hi : i < 169 := by omega
      have e1 := nI_1 i
      refine go 60 (by decide) ?_
      simp only [KX, KY, KZ, KW, KV, Nat.reduceAdd, Nat.reduceSub, Nat.reduceLeDiff, true_and, and_true, true_or, or_true, or_self, reduceCtorEq, if_true, if_false, not_false_eq_true, eq_self, c8, hA, ma_set_at]
      rw [if_pos (nI_lt hi (by decide))]
      refine s10 ?_
      refine go 60 (by decide) ?_
      simp only [KX, KY, KZ, KW, KV, Nat.reduceAdd, Nat.reduceSub, Nat.reduceLeDiff, true_and, and_true, true_or, or_true, or_self, reduceCtorEq, if_true, if_false, not_false_eq_true, eq_self, c8, hA, ma_set_at]
      refine s11 ?_
      refine go 60 (by decide) ?_
      simp only [KX, KY, KZ, KW, KV, Nat.reduceAdd, Nat.reduceSub, Nat.reduceLeDiff, true_and, and_true, true_or, or_true, or_self, reduceCtorEq, if_true, if_false, not_false_eq_true, eq_self, c8, hA, ma_set_at]
      refine s9p ?_
      refine go 60 (by decide) ?_
      simp only [KX, KY, KZ, KW, KV, Nat.reduceAdd, Nat.reduceSub, Nat.reduceLeDiff, true_and, and_true, true_or, or_true, or_self, reduceCtorEq, if_true, if_false, not_false_eq_true, eq_self, c8, hA, ma_set_at]
      have e2 : fl_init (i + 1) = upd (fl_init i) i (fl_v i) := rfl
      by_cases q : i_place (nI i - nI i / 13 * 13 - 6, nI i / 13 - 6) < 0
      · rw [if_pos q]
        rw [show fl_v i = -2 from if_pos q] at e2
        refine go 60 (by decide) ?_
        simp only [KX, KY, KZ, KW, KV, Nat.reduceAdd, Nat.reduceSub, Nat.reduceLeDiff, true_and, and_true, true_or, or_true, or_self, reduceCtorEq, if_true, if_false, not_false_eq_true, eq_self, c8, hA, ma_set_at]
        refine ⟨nI_in hi (by decide), ?_⟩
        rw [ma_set_set, nI_clamp (show i < 2 ^ 31 by omega), ← e2, e1]
        exact ih (i + 1) (by omega)
      · rw [if_neg q]
        rw [show fl_v i = -1 from if_neg q] at e2
        refine go 60 (by decide) ?_
        simp only [KX, KY, KZ, KW, KV, Nat.reduceAdd, Nat.reduceSub, Nat.reduceLeDiff, true_and, and_true, true_or, or_true, or_self, reduceCtorEq, if_true, if_false, not_false_eq_true, eq_self, c8, hA, ma_set_at]
        refine ⟨nI_in hi (by decide), ?_⟩
        rw [ma_set_set, nI_clamp (show i < 2 ^ 31 by omega), ← e2, e1]
        exact ih (i + 1) (by omega)
  have hN : ∀ c, (ma_new h c).2.1 a = .inr (2, [.int 0, .null, .null]) := fun c => (ma_new_ne h c (Nat.ne_of_lt ha)).trans h1
  have hN2 : ∀ c c2 d, (ma_new (ma_set (ma_new h c) a c2) d).2.1 a = c2 := fun c c2 d => (ma_new_ne _ d (by show a ≠ h.1 + 1; omega)).trans (ma_set_at _ _ _)
  refine ma_enter (m := 8) (Or.inl (by decide)) (by show 1 ≤ mt_n 8; decide +kernel) ?_
  show At 8 Q 0 (2, 338) [some (.ref a), none] [] h
  refine go 60 (by decide) ?_
  simp only [KX, KY, KZ, KW, KV, Nat.reduceAdd, Nat.reduceSub, Nat.reduceLeDiff, true_and, and_true, true_or, or_true, or_self, reduceCtorEq, if_true, if_false, not_false_eq_true, eq_self, c8, h1, hN, hN2, kt169]
  have lp0 := lp 169 0 rfl
  rw [ma_set_id (fl_new_s h ha)] at lp0
  exact ⟨⟨rfl, by decide⟩, by show 1 < 3; decide, trivial, ⟨rfl, by decide⟩, by show 2 < 3; decide, trivial, lp0⟩
