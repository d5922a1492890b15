/-! FLAKE: unlike, become, arms -/
def fl_hasX (g : Nat → Int32) (x : Int32) : Int32 := if x < 0 then 0 else if x < nI 169 then if g x.toNatClampNeg < 0 then 0 else 1 else 0
def fl_un (g g2 : Nat → Int32) (t : Nat) (mi : Int32) (i : Nat) : Int32 := if fl_hasX g (i_image (nI (ma_cell i)) t mi) = fl_has g2 (ma_cell i) then 0 else 1
theorem kj3 (m : Nat) (go : ma_K) (k : Nat) (b : Nat × Nat) (L : ma_L) (n dp sp : Int32) (a a0 : Nat) (r : List Value) (h : ma_H) : me_jdk m 3 go k b L (.int n :: .int dp :: .ref a :: .int sp :: .ref a0 :: r) h = (xI (h.2.1 a0) .int fun n0 f => xI (h.2.1 a) .int fun n1 g => (¬ sp < 0 ∧ ¬ dp < 0 ∧ ¬ n < 0 ∧ sp.toNatClampNeg + n.toNatClampNeg ≤ n0 ∧ dp.toNatClampNeg + n.toNatClampNeg ≤ n1) ∧ me_cs r ≤ 8 ∧ go (k + 1) b L r (ma_set h a (.inl (.int, n1, .inl (va_cpy f g sp.toNatClampNeg dp.toNatClampNeg n.toNatClampNeg))))) := rfl
theorem s19x {h : ma_H} {Q : ma_Q} {a s rc : Nat} {mn : Int32} {g : Nat → Int32} (h1 : h.2.1 a = .inr (2, [.int mn, .ref s, .ref rc])) (h2 : h.2.1 s = .inl (.int, 169, .inl g)) {x : Int32} (k : Q (some (.int (fl_hasX g x))) h) : ma_X 19 [.ref a, .int x] h Q := by
  exact s19 h1 h2 k
theorem s33 {h : ma_H} {Q : ma_Q} {a s rc : Nat} {mn : Int32} {g : Nat → Int32} (h1 : h.2.1 a = .inr (2, [.int mn, .ref s, .ref rc])) (h2 : h.2.1 s = .inl (.int, 169, .inl g)) {a2 s2 rc2 : Nat} {mn2 : Int32} {g2 : Nat → Int32} (h3 : h.2.1 a2 = .inr (2, [.int mn2, .ref s2, .ref rc2])) (h4 : h.2.1 s2 = .inl (.int, 169, .inl g2)) {t : Nat} {mi : Int32} (ht : t < 100) (k : Q (some (.int (su (fl_un g g2 t mi) 91))) h) : ma_X 33 [.ref a, .ref a2, .int (nI t), .int mi] h Q := by
  refine ma_enter (m := 33) (Or.inl (by decide)) (by show 4 ≤ mt_n 33; decide +kernel) ?_
  show At 33 Q 0 (0, 0) [some (.ref a), some (.ref a2), some (.int (nI t)), some (.int mi), none, none, none, none, none] [] h
  have lp : ∀ n i, i + n = 91 → At 33 Q 9 (0, 0) [some (.ref a), some (.ref a2), some (.int (nI t)), some (.int mi), some (.int (su (fl_un g g2 t mi) i)), some (.retAddr 0), some (.int (nI 91)), some (.int (nI i)), none] [] h := by
    intro n
    induction n with
    | zero =>
      intro i e
      obtain rfl : i = 91 := by omega
      refine go 60 (by decide) ?_
      simp only [KX, KY, KZ, KW, KV, Nat.reduceAdd, Nat.reduceSub, Nat.reduceLeDiff, true_and, and_true, true_or, or_true, or_self, reduceCtorEq, if_true, if_false, not_false_eq_true, eq_self, c33, h1, h2, h3, h4]
      rw [if_neg (nI_nlt (Nat.le_refl _) (by decide))]
      exact k
    | succ n ih =>
      intro i e
      have hi : i < 91 := by omega
      refine go 60 (by decide) ?_
      simp only [KX, KY, KZ, KW, KV, Nat.reduceAdd, Nat.reduceSub, Nat.reduceLeDiff, true_and, and_true, true_or, or_true, or_self, reduceCtorEq, if_true, if_false, not_false_eq_true, eq_self, c33, h1, h2, h3, h4]
      rw [if_pos (nI_lt hi (by decide))]
      rw [nI_clamp (show i < 2 ^ 31 by omega)]
      refine ⟨nI_in hi (by decide), ?_⟩
      have e1 := nI_1 i
      refine s14 ht ?_
      refine go 60 (by decide) ?_
      simp only [KX, KY, KZ, KW, KV, Nat.reduceAdd, Nat.reduceSub, Nat.reduceLeDiff, true_and, and_true, true_or, or_true, or_self, reduceCtorEq, if_true, if_false, not_false_eq_true, eq_self, c33, h1, h2, h3, h4]
      refine s19x h1 h2 ?_
      refine go 60 (by decide) ?_
      simp only [KX, KY, KZ, KW, KV, Nat.reduceAdd, Nat.reduceSub, Nat.reduceLeDiff, true_and, and_true, true_or, or_true, or_self, reduceCtorEq, if_true, if_false, not_false_eq_true, eq_self, c33, h1, h2, h3, h4]
      refine s19n h3 h4 (cell_lt i hi).1 ?_
      refine go 60 (by decide) ?_
      simp only [KX, KY, KZ, KW, KV, Nat.reduceAdd, Nat.reduceSub, Nat.reduceLeDiff, true_and, and_true, true_or, or_true, or_self, reduceCtorEq, if_true, if_false, not_false_eq_true, eq_self, c33, h1, h2, h3, h4]
      split
      · rename_i q
        have e2 : su (fl_un g g2 t mi) (i + 1) = su (fl_un g g2 t mi) i + 0 := by
          show su (fl_un g g2 t mi) i + fl_un g g2 t mi i = _
          unfold fl_un
          rw [if_pos q]
        refine go 60 (by decide) ?_
        simp only [KX, KY, KZ, KW, KV, Nat.reduceAdd, Nat.reduceSub, Nat.reduceLeDiff, true_and, and_true, true_or, or_true, or_self, reduceCtorEq, if_true, if_false, not_false_eq_true, eq_self, c33, h1, h2, h3, h4]
        rw [e1, ← e2]
        exact At_le (ih (i + 1) (by omega)) ⟨rfl, rfl, rfl, rfl, rfl, rfl, rfl, rfl, trivial⟩
      · rename_i q
        have e2 : su (fl_un g g2 t mi) (i + 1) = su (fl_un g g2 t mi) i + 1 := by
          show su (fl_un g g2 t mi) i + fl_un g g2 t mi i = _
          unfold fl_un
          rw [if_neg q]
        refine go 60 (by decide) ?_
        simp only [KX, KY, KZ, KW, KV, Nat.reduceAdd, Nat.reduceSub, Nat.reduceLeDiff, true_and, and_true, true_or, or_true, or_self, reduceCtorEq, if_true, if_false, not_false_eq_true, eq_self, c33, h1, h2, h3, h4]
        rw [e1, ← e2]
        exact At_le (ih (i + 1) (by omega)) ⟨rfl, rfl, rfl, rfl, rfl, rfl, rfl, rfl, trivial⟩
  refine go 60 (by decide) ?_
  simp only [KX, KY, KZ, KW, KV, Nat.reduceAdd, Nat.reduceSub, Nat.reduceLeDiff, true_and, and_true, true_or, or_true, or_self, reduceCtorEq, if_true, if_false, not_false_eq_true, eq_self, c33, h1, h2, h3, h4]
  exact lp 91 0 rfl
theorem s16 {h : ma_H} {Q : ma_Q} {a s rc : Nat} {mn : Int32} {g : Nat → Int32} (h1 : h.2.1 a = .inr (2, [.int mn, .ref s, .ref rc])) (h2 : h.2.1 s = .inl (.int, 169, .inl g)) {a2 s2 rc2 : Nat} {mn2 : Int32} {g2 : Nat → Int32} (h3 : h.2.1 a2 = .inr (2, [.int mn2, .ref s2, .ref rc2])) (h4 : h.2.1 s2 = .inl (.int, 169, .inl g2)) (hs : a ≠ s) (hs2 : a2 ≠ s) (k : Q none (ma_set (ma_set h s (.inl (.int, 169, .inl (va_cpy g2 g 0 0 169)))) a (.inr (2, [.int mn2, .ref s, .ref rc])))) : ma_X 16 [.ref a, .ref a2] h Q := by
  have hA : ∀ c, (ma_set h s c).2.1 a = .inr (2, [.int mn, .ref s, .ref rc]) := fun c => (ma_set_ne h c hs).trans h1
  have hA2 : ∀ c, (ma_set h s c).2.1 a2 = .inr (2, [.int mn2, .ref s2, .ref rc2]) := fun c => (ma_set_ne h c hs2).trans h3
  refine ma_enter (m := 16) (Or.inl (by decide)) (by show 2 ≤ mt_n 16; decide +kernel) ?_
  show At 16 Q 0 (0, 0) [some (.ref a), some (.ref a2)] [] h
  refine go 60 (by decide) ?_
  simp only [KX, KY, KZ, KW, KV, Nat.reduceAdd, Nat.reduceSub, Nat.reduceLeDiff, true_and, and_true, true_or, or_true, or_self, reduceCtorEq, if_true, if_false, not_false_eq_true, eq_self, c16, h1, h2, h3, h4, kj3, hA, hA2]
  refine ⟨by decide, by show 0 < 3; decide, trivial, k⟩
def fl_arm (k f : Nat) : Nat := (nI 84 + ma_TOW.getD k 0 * nI f).toNatClampNeg
theorem fl_arm_ok : ∀ k, k < 6 → ∀ f, f < 6 → 84 + ma_TOW.getD k 0 * nI f = nI (fl_arm k f) ∧ fl_arm k f < 169 := by decide +kernel
theorem s32 {h : ma_H} {Q : ma_Q} {kk f : Nat} (hk : kk < 6) (hf : f < 6) (k : Q (some (.int (nI (fl_arm kk f)))) h) : ma_X 32 [.int (nI kk), .int (nI f)] h Q := by
  refine ma_enter (m := 32) (Or.inl (by decide)) (by show 2 ≤ mt_n 32; decide +kernel) ?_
  show At 32 Q 0 (0, 0) [some (.int (nI kk)), some (.int (nI f))] [] h
  refine go 60 (by decide) ?_
  simp only [KX, KY, KZ, KW, KV, Nat.reduceAdd, Nat.reduceSub, Nat.reduceLeDiff, true_and, and_true, true_or, or_true, or_self, reduceCtorEq, if_true, if_false, not_false_eq_true, eq_self, c32, sv1]
  rw [if_neg (nI_pos (by omega)), if_pos (nI_lt hk (by decide)), nI_clamp (by omega)]
  refine ⟨nI_in hk (by decide), ?_⟩
  rw [(fl_arm_ok kk hk f hf).1]
  exact k
