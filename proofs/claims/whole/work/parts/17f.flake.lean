/-! FLAKE: arms, joins -/
/-- how long an arm is, from f on -/
def fl_lenF (g : Nat → Int32) (k : Nat) : Nat → Nat → Nat
  | 0, f => f
  | n + 1, f => if g (fl_arm k (f + 1)) < 0 then f else fl_lenF g k n (f + 1)
def fl_len (g : Nat → Int32) (k : Nat) : Nat := fl_lenF g k 5 0
theorem fl_lenF_le (g : Nat → Int32) (k : Nat) : ∀ n f, fl_lenF g k n f ≤ f + n
  | 0, f => Nat.le_refl _
  | n + 1, f => by
    show (if g (fl_arm k (f + 1)) < 0 then f else fl_lenF g k n (f + 1)) ≤ f + (n + 1)
    split
    · omega
    · have := fl_lenF_le g k n (f + 1)
      omega
theorem fl_len_le (g : Nat → Int32) (k : Nat) : fl_len g k ≤ 5 := fl_lenF_le g k 5 0
/-- an arm broken as far as n -/
def fl_brk (g : Nat → Int32) (k : Nat) : Nat → Nat → Int32
  | 0 => g
  | n + 1 => upd (fl_brk g k n) (fl_arm k (n + 1)) (-1)
theorem fl_brk_ne {g : Nat → Int32} {k q : Nat} (h : g q ≠ -2) : ∀ n, fl_brk g k n q ≠ -2
  | 0 => h
  | n + 1 => by
    show upd (fl_brk g k n) (fl_arm k (n + 1)) (-1) q ≠ -2
    unfold upd
    split
    · decide
    · exact fl_brk_ne h n
theorem s30 {h : ma_H} {Q : ma_Q} {a s rc : Nat} {mn : Int32} {g : Nat → Int32} (h1 : h.2.1 a = .inr (2, [.int mn, .ref s, .ref rc])) (h2 : h.2.1 s = .inl (.int, 169, .inl g)) {kk : Nat} (hk : kk < 6) (k : Q (some (.int (nI (fl_len g kk)))) h) : ma_X 30 [.ref a, .int (nI kk)] h Q := by
  have lp : ∀ n f, f + n = 5 → Q (some (.int (nI (fl_lenF g kk n f)))) h → At 30 Q 2 (0, 0) [some (.ref a), some (.int (nI kk)), some (.int (nI f))] [] h := by
    intro n
    induction n with
    | zero =>
      intro f e k
      obtain rfl : f = 5 := by omega
      refine go 60 (by decide) ?_
      simp only [KX, KY, KZ, KW, KV, Nat.reduceAdd, Nat.reduceSub, Nat.reduceLeDiff, true_and, and_true, true_or, or_true, or_self, reduceCtorEq, if_true, if_false, not_false_eq_true, eq_self, c30, h1, h2]
      rw [show (5 : Int32) = nI 5 from rfl, if_neg (nI_nlt (Nat.le_refl _) (by decide))]
      exact k
    | succ n ih =>
      intro f e k
      refine go 60 (by decide) ?_
      simp only [KX, KY, KZ, KW, KV, Nat.reduceAdd, Nat.reduceSub, Nat.reduceLeDiff, true_and, and_true, true_or, or_true, or_self, reduceCtorEq, if_true, if_false, not_false_eq_true, eq_self, c30, h1, h2]
      rw [show (5 : Int32) = nI 5 from rfl, if_pos (nI_lt (show f < 5 by omega) (by decide)), nI_1 f]
      refine s32 hk (show f + 1 < 6 by omega) ?_
      refine go 60 (by decide) ?_
      simp only [KX, KY, KZ, KW, KV, Nat.reduceAdd, Nat.reduceSub, Nat.reduceLeDiff, true_and, and_true, true_or, or_true, or_self, reduceCtorEq, if_true, if_false, not_false_eq_true, eq_self, c30, h1, h2]
      refine s19n h1 h2 (fl_arm_ok kk hk (f + 1) (by omega)).2 ?_
      by_cases q : g (fl_arm kk (f + 1)) < 0
      · rw [show fl_has g (fl_arm kk (f + 1)) = 0 from if_pos q]
        rw [show fl_lenF g kk (n + 1) f = f from if_pos q] at k
        refine go 60 (by decide) ?_
        simp only [KX, KY, KZ, KW, KV, Nat.reduceAdd, Nat.reduceSub, Nat.reduceLeDiff, true_and, and_true, true_or, or_true, or_self, reduceCtorEq, if_true, if_false, not_false_eq_true, eq_self, c30, h1, h2]
        exact k
      · rw [show fl_has g (fl_arm kk (f + 1)) = 1 from if_neg q]
        rw [show fl_lenF g kk (n + 1) f = fl_lenF g kk n (f + 1) from if_neg q] at k
        refine go 60 (by decide) ?_
        simp only [KX, KY, KZ, KW, KV, Nat.reduceAdd, Nat.reduceSub, Nat.reduceLeDiff, true_and, and_true, true_or, or_true, or_self, reduceCtorEq, if_true, if_false, not_false_eq_true, eq_self, c30, h1, h2]
        rw [nI_1 f]
        exact ih (f + 1) (by omega) k
  refine ma_enter (m := 30) (Or.inl (by decide)) (by show 2 ≤ mt_n 30; decide +kernel) ?_
  show At 30 Q 0 (0, 0) [some (.ref a), some (.int (nI kk)), none] [] h
  refine go 60 (by decide) ?_
  simp only [KX, KY, KZ, KW, KV, Nat.reduceAdd, Nat.reduceSub, Nat.reduceLeDiff, true_and, and_true, true_or, or_true, or_self, reduceCtorEq, if_true, if_false, not_false_eq_true, eq_self, c30, h1, h2]
  exact lp 5 0 rfl k
theorem s31 {h : ma_H} {Q : ma_Q} {a s rc : Nat} {mn : Int32} {g : Nat → Int32} (h1 : h.2.1 a = .inr (2, [.int mn, .ref s, .ref rc])) (h2 : h.2.1 s = .inl (.int, 169, .inl g)) {kk : Nat} (hk : kk < 6) (hs : a ≠ s) (hg : ∀ f, f < 6 → g (fl_arm kk f) ≠ -2) (k : Q (some (.int (nI (fl_len g kk)))) (ma_set h s (.inl (.int, 169, .inl (fl_brk g kk (fl_len g kk)))))) : ma_X 31 [.ref a, .int (nI kk)] h Q := by
  have hA : ∀ c, (ma_set h s c).2.1 a = .inr (2, [.int mn, .ref s, .ref rc]) := fun c => (ma_set_ne h c hs).trans h1
  have hl := fl_len_le g kk
  have lp : ∀ n i, i + n = fl_len g kk → At 31 Q 6 (0, 0) [some (.ref a), some (.int (nI kk)), some (.int (nI (fl_len g kk))), some (.int (nI (i + 1)))] [] (ma_set h s (.inl (.int, 169, .inl (fl_brk g kk i)))) := by
    intro n
    induction n with
    | zero =>
      intro i e
      have e0 : i = fl_len g kk := by omega
      refine go 60 (by decide) ?_
      simp only [KX, KY, KZ, KW, KV, Nat.reduceAdd, Nat.reduceSub, Nat.reduceLeDiff, true_and, and_true, true_or, or_true, or_self, reduceCtorEq, if_true, if_false, not_false_eq_true, eq_self, c31, hA, ma_set_at]
      rw [if_neg (nI_ge (show fl_len g kk < i + 1 by omega) (by omega)), e0]
      exact k
    | succ n ih =>
      intro i e
      refine go 60 (by decide) ?_
      simp only [KX, KY, KZ, KW, KV, Nat.reduceAdd, Nat.reduceSub, Nat.reduceLeDiff, true_and, and_true, true_or, or_true, or_self, reduceCtorEq, if_true, if_false, not_false_eq_true, eq_self, c31, hA, ma_set_at]
      rw [if_pos (nI_le (show i + 1 ≤ fl_len g kk by omega) (by omega))]
      refine s32 hk (show i + 1 < 6 by omega) ?_
      refine go 60 (by decide) ?_
      simp only [KX, KY, KZ, KW, KV, Nat.reduceAdd, Nat.reduceSub, Nat.reduceLeDiff, true_and, and_true, true_or, or_true, or_self, reduceCtorEq, if_true, if_false, not_false_eq_true, eq_self, c31, hA, ma_set_at]
      have hp := (fl_arm_ok kk hk (i + 1) (by omega)).2
      have ec : (nI (fl_arm kk (i + 1))).toNatClampNeg = fl_arm kk (i + 1) := nI_clamp (by omega)
      refine s17 (hA _) (ma_set_at _ _ _) (fun _ _ _ => ?_) (fun q => ?_)
      · rw [ec, ma_set_set]
        refine go 60 (by decide) ?_
        simp only [KX, KY, KZ, KW, KV, Nat.reduceAdd, Nat.reduceSub, Nat.reduceLeDiff, true_and, and_true, true_or, or_true, or_self, reduceCtorEq, if_true, if_false, not_false_eq_true, eq_self, c31, hA, ma_set_at]
        rw [nI_1 (i + 1)]
        exact ih (i + 1) (by omega)
      · rw [ec] at q
        rcases q with q | q | q
        · exact absurd q (nI_pos (by omega))
        · exact absurd (nI_lt hp (by decide)) q
        · exact absurd q (fl_brk_ne (hg (i + 1) (by omega)) i)
  refine ma_enter (m := 31) (Or.inl (by decide)) (by show 2 ≤ mt_n 31; decide +kernel) ?_
  show At 31 Q 0 (0, 0) [some (.ref a), some (.int (nI kk)), none, none] [] h
  refine go 60 (by decide) ?_
  simp only [KX, KY, KZ, KW, KV, Nat.reduceAdd, Nat.reduceSub, Nat.reduceLeDiff, true_and, and_true, true_or, or_true, or_self, reduceCtorEq, if_true, if_false, not_false_eq_true, eq_self, c31, h1, h2]
  refine s30 h1 h2 hk ?_
  refine go 60 (by decide) ?_
  simp only [KX, KY, KZ, KW, KV, Nat.reduceAdd, Nat.reduceSub, Nat.reduceLeDiff, true_and, and_true, true_or, or_true, or_self, reduceCtorEq, if_true, if_false, not_false_eq_true, eq_self, c31, h1, h2]
  have e0 : ma_set h s (.inl (.int, 169, .inl (fl_brk g kk 0))) = h := ma_set_id h2
  have lp0 := lp (fl_len g kk) 0 (by omega)
  rw [e0] at lp0
  exact lp0
