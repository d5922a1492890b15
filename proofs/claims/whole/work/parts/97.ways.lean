/-! ways: bits that FREEZE; a FLAKE out of bits -/
def fzB (g : Nat → Int32) (kk : Nat) (a : Int32) : Bs := fun c => !decide (fz g kk a c = 0)
theorem s43_0 {h : ma_H} {Q : ma_Q} {f r kk : Nat} {v0 v1 v3 : Value} {a : Int32} {s rc : Nat} {mn : Int32} {g : Nat → Int32} (h1 : h.2.1 f = .inr (2, [.int mn, .ref s, .ref rc])) (h2 : h.2.1 s = .inl (.int, 169, .inl g)) (hk : kk < 6) (e : h.2.1 r = .inr (g_cls kk, [v0, v1, .int a, v3])) (k : Q (some (.long (bt (fzB g kk a) 0 64))) h) : ma_X 43 [.ref r, .ref f, .int 0] h Q := by
  have lp : ∀ d i, i + d = 64 → At 43 Q 6 (0, 0) [some (.ref r), some (.ref f), some (.int 0), some (.long (bt (fzB g kk a) 0 i)), none, some (.int (nI i))] [] h := by
    intro d
    induction d with
    | zero =>
      intro i ei
      obtain rfl : i = 64 := by omega
      refine go 60 (by decide) ?_
      simp only [KX, KY, KZ, KW, KV, Nat.reduceAdd, Nat.reduceSub, Nat.reduceLeDiff, true_and, and_true, true_or, or_true, or_self, reduceCtorEq, if_true, if_false, not_false_eq_true, eq_self, c43, e, (vt289 kk hk).1, show mt_c 41 = (0, 0) from rfl, show lN ((1 : Fin 2).val) = lN 1 from rfl, show lN ((0 : Fin 2).val) = lN 0 from rfl, show (0 : Int32) * 64 = 0 from by decide, show (1 : Int32) * 64 = 64 from by decide, show (0 : Int32) + 64 = 64 from by decide, show (64 : Int32) + 64 = 128 from by decide]
      rw [if_neg (nI_pos (show 64 < 2 ^ 31 by decide)), if_pos (nI_lt (a := 64) (b := 91) (by decide) (by decide)), if_neg (show ¬ nI 64 < (64 : Int32) from nI_nlt (Nat.le_refl _) (by decide))]
      exact k
    | succ d ih =>
      intro i ei
      have hi : i < 91 := by omega
      refine go 60 (by decide) ?_
      simp only [KX, KY, KZ, KW, KV, Nat.reduceAdd, Nat.reduceSub, Nat.reduceLeDiff, true_and, and_true, true_or, or_true, or_self, reduceCtorEq, if_true, if_false, not_false_eq_true, eq_self, c43, e, (vt289 kk hk).1, show mt_c 41 = (0, 0) from rfl, show lN ((1 : Fin 2).val) = lN 1 from rfl, show lN ((0 : Fin 2).val) = lN 0 from rfl, show (0 : Int32) * 64 = 0 from by decide, show (1 : Int32) * 64 = 64 from by decide, show (0 : Int32) + 64 = 64 from by decide, show (64 : Int32) + 64 = 128 from by decide]
      rw [if_neg (nI_pos (show i < 2 ^ 31 by omega)), if_pos (nI_lt (a := i) (b := 91) (by omega) (by decide)), if_pos (show nI i < (64 : Int32) from nI_lt (b := 64) (by omega) (by decide))]
      rw [nI_clamp (show i < 2 ^ 31 by omega)]
      refine ⟨nI_in hi (by decide), ?_⟩
      have ih2 := ih (i + 1) (by omega)
      refine s41 h1 h2 hk e hi ?_
      rcases fz01 g kk a i with z | z
      · rw [z]
        rw [show bt (fzB g kk a) 0 (i + 1) = bt (fzB g kk a) 0 i ||| lN 0 by
          show bt (fzB g kk a) 0 i ||| (if fzB g kk a (0 + i) then ob i else lN 0) = _
          rw [show fzB g kk a (0 + i) = false by unfold fzB; rw [show 0 + i = i by omega, z]; rfl]
          rfl] at ih2
        first
          | (with_reducible show At 43 _ 34 _ _ _ _)
          | (refine go 60 (by decide) ?_; simp only [KX, KY, KZ, KW, KV, Nat.reduceAdd, Nat.reduceSub, Nat.reduceLeDiff, true_and, and_true, true_or, or_true, or_self, reduceCtorEq, if_true, if_false, not_false_eq_true, eq_self, c43, e, (vt289 kk hk).1, show mt_c 41 = (0, 0) from rfl, show lN ((1 : Fin 2).val) = lN 1 from rfl, show lN ((0 : Fin 2).val) = lN 0 from rfl, show (0 : Int32) * 64 = 0 from by decide, show (1 : Int32) * 64 = 64 from by decide, show (0 : Int32) + 64 = 64 from by decide, show (64 : Int32) + 64 = 128 from by decide])
        first
          | (with_reducible show At 43 _ 34 _ _ _ _)
          | (refine go 60 (by decide) ?_; simp only [KX, KY, KZ, KW, KV, Nat.reduceAdd, Nat.reduceSub, Nat.reduceLeDiff, true_and, and_true, true_or, or_true, or_self, reduceCtorEq, if_true, if_false, not_false_eq_true, eq_self, c43, e, (vt289 kk hk).1, show mt_c 41 = (0, 0) from rfl, show lN ((1 : Fin 2).val) = lN 1 from rfl, show lN ((0 : Fin 2).val) = lN 0 from rfl, show (0 : Int32) * 64 = 0 from by decide, show (1 : Int32) * 64 = 64 from by decide, show (0 : Int32) + 64 = 64 from by decide, show (64 : Int32) + 64 = 128 from by decide])
        first
          | (with_reducible show At 43 _ 34 _ _ _ _)
          | (refine go 60 (by decide) ?_; simp only [KX, KY, KZ, KW, KV, Nat.reduceAdd, Nat.reduceSub, Nat.reduceLeDiff, true_and, and_true, true_or, or_true, or_self, reduceCtorEq, if_true, if_false, not_false_eq_true, eq_self, c43, e, (vt289 kk hk).1, show mt_c 41 = (0, 0) from rfl, show lN ((1 : Fin 2).val) = lN 1 from rfl, show lN ((0 : Fin 2).val) = lN 0 from rfl, show (0 : Int32) * 64 = 0 from by decide, show (1 : Int32) * 64 = 64 from by decide, show (0 : Int32) + 64 = 64 from by decide, show (64 : Int32) + 64 = 128 from by decide])
        refine go 60 (by decide) ?_
        simp only [KX, KY, KZ, KW, KV, Nat.reduceAdd, Nat.reduceSub, Nat.reduceLeDiff, true_and, and_true, true_or, or_true, or_self, reduceCtorEq, if_true, if_false, not_false_eq_true, eq_self, c43, e, (vt289 kk hk).1, show mt_c 41 = (0, 0) from rfl, show lN ((1 : Fin 2).val) = lN 1 from rfl, show lN ((0 : Fin 2).val) = lN 0 from rfl, show (0 : Int32) * 64 = 0 from by decide, show (1 : Int32) * 64 = 64 from by decide, show (0 : Int32) + 64 = 64 from by decide, show (64 : Int32) + 64 = 128 from by decide]
        rw [show nI i + 1 = nI (i + 1) from nI_1 _]
        exact At_le ih2 ⟨rfl, rfl, rfl, rfl, rfl, trivial⟩
      · rw [z]
        rw [show bt (fzB g kk a) 0 (i + 1) = bt (fzB g kk a) 0 i ||| ob i by
          show bt (fzB g kk a) 0 i ||| (if fzB g kk a (0 + i) then ob i else lN 0) = _
          rw [show fzB g kk a (0 + i) = true by unfold fzB; rw [show 0 + i = i by omega, z]; rfl]
          rfl] at ih2
        first
          | (with_reducible show At 43 _ 34 _ _ _ _)
          | (refine go 60 (by decide) ?_; simp only [KX, KY, KZ, KW, KV, Nat.reduceAdd, Nat.reduceSub, Nat.reduceLeDiff, true_and, and_true, true_or, or_true, or_self, reduceCtorEq, if_true, if_false, not_false_eq_true, eq_self, c43, e, (vt289 kk hk).1, show mt_c 41 = (0, 0) from rfl, show lN ((1 : Fin 2).val) = lN 1 from rfl, show lN ((0 : Fin 2).val) = lN 0 from rfl, show (0 : Int32) * 64 = 0 from by decide, show (1 : Int32) * 64 = 64 from by decide, show (0 : Int32) + 64 = 64 from by decide, show (64 : Int32) + 64 = 128 from by decide])
        first
          | (with_reducible show At 43 _ 34 _ _ _ _)
          | (refine go 60 (by decide) ?_; simp only [KX, KY, KZ, KW, KV, Nat.reduceAdd, Nat.reduceSub, Nat.reduceLeDiff, true_and, and_true, true_or, or_true, or_self, reduceCtorEq, if_true, if_false, not_false_eq_true, eq_self, c43, e, (vt289 kk hk).1, show mt_c 41 = (0, 0) from rfl, show lN ((1 : Fin 2).val) = lN 1 from rfl, show lN ((0 : Fin 2).val) = lN 0 from rfl, show (0 : Int32) * 64 = 0 from by decide, show (1 : Int32) * 64 = 64 from by decide, show (0 : Int32) + 64 = 64 from by decide, show (64 : Int32) + 64 = 128 from by decide])
        first
          | (with_reducible show At 43 _ 34 _ _ _ _)
          | (refine go 60 (by decide) ?_; simp only [KX, KY, KZ, KW, KV, Nat.reduceAdd, Nat.reduceSub, Nat.reduceLeDiff, true_and, and_true, true_or, or_true, or_self, reduceCtorEq, if_true, if_false, not_false_eq_true, eq_self, c43, e, (vt289 kk hk).1, show mt_c 41 = (0, 0) from rfl, show lN ((1 : Fin 2).val) = lN 1 from rfl, show lN ((0 : Fin 2).val) = lN 0 from rfl, show (0 : Int32) * 64 = 0 from by decide, show (1 : Int32) * 64 = 64 from by decide, show (0 : Int32) + 64 = 64 from by decide, show (64 : Int32) + 64 = 128 from by decide])
        rw [an63 i (by omega), show i % 64 = i by omega]
        refine go 60 (by decide) ?_
        simp only [KX, KY, KZ, KW, KV, Nat.reduceAdd, Nat.reduceSub, Nat.reduceLeDiff, true_and, and_true, true_or, or_true, or_self, reduceCtorEq, if_true, if_false, not_false_eq_true, eq_self, c43, e, (vt289 kk hk).1, show mt_c 41 = (0, 0) from rfl, show lN ((1 : Fin 2).val) = lN 1 from rfl, show lN ((0 : Fin 2).val) = lN 0 from rfl, show (0 : Int32) * 64 = 0 from by decide, show (1 : Int32) * 64 = 64 from by decide, show (0 : Int32) + 64 = 64 from by decide, show (64 : Int32) + 64 = 128 from by decide]
        rw [show nI i + 1 = nI (i + 1) from nI_1 _]
        exact At_le ih2 ⟨rfl, rfl, rfl, rfl, rfl, trivial⟩
  refine ma_enter (m := 43) (Or.inl (by decide)) (by show 3 ≤ mt_n 43; decide +kernel) ?_
  show At 43 Q 0 (mt_c 43) [some (.ref r), some (.ref f), some (.int 0), none, none, none] [] h
  refine go 60 (by decide) ?_
  simp only [KX, KY, KZ, KW, KV, Nat.reduceAdd, Nat.reduceSub, Nat.reduceLeDiff, true_and, and_true, true_or, or_true, or_self, reduceCtorEq, if_true, if_false, not_false_eq_true, eq_self, c43, e, (vt289 kk hk).1, show mt_c 41 = (0, 0) from rfl, show lN ((1 : Fin 2).val) = lN 1 from rfl, show lN ((0 : Fin 2).val) = lN 0 from rfl, show (0 : Int32) * 64 = 0 from by decide, show (1 : Int32) * 64 = 64 from by decide, show (0 : Int32) + 64 = 64 from by decide, show (64 : Int32) + 64 = 128 from by decide]
  exact At_le (lp 64 0 rfl) ⟨rfl, rfl, rfl, rfl, rfl, trivial⟩
theorem s43_1 {h : ma_H} {Q : ma_Q} {f r kk : Nat} {v0 v1 v3 : Value} {a : Int32} {s rc : Nat} {mn : Int32} {g : Nat → Int32} (h1 : h.2.1 f = .inr (2, [.int mn, .ref s, .ref rc])) (h2 : h.2.1 s = .inl (.int, 169, .inl g)) (hk : kk < 6) (e : h.2.1 r = .inr (g_cls kk, [v0, v1, .int a, v3])) (k : Q (some (.long (bt (fzB g kk a) 64 27))) h) : ma_X 43 [.ref r, .ref f, .int 1] h Q := by
  have lp : ∀ d i, i + d = 27 → At 43 Q 6 (0, 0) [some (.ref r), some (.ref f), some (.int 1), some (.long (bt (fzB g kk a) 64 i)), none, some (.int (nI (64 + i)))] [] h := by
    intro d
    induction d with
    | zero =>
      intro i ei
      obtain rfl : i = 27 := by omega
      refine go 60 (by decide) ?_
      simp only [KX, KY, KZ, KW, KV, Nat.reduceAdd, Nat.reduceSub, Nat.reduceLeDiff, true_and, and_true, true_or, or_true, or_self, reduceCtorEq, if_true, if_false, not_false_eq_true, eq_self, c43, e, (vt289 kk hk).1, show mt_c 41 = (0, 0) from rfl, show lN ((1 : Fin 2).val) = lN 1 from rfl, show lN ((0 : Fin 2).val) = lN 0 from rfl, show (0 : Int32) * 64 = 0 from by decide, show (1 : Int32) * 64 = 64 from by decide, show (0 : Int32) + 64 = 64 from by decide, show (64 : Int32) + 64 = 128 from by decide]
      rw [if_neg (nI_pos (show 91 < 2 ^ 31 by decide)), if_neg (nI_nlt (Nat.le_refl _) (by decide))]
      exact k
    | succ d ih =>
      intro i ei
      have hi : (64 + i) < 91 := by omega
      refine go 60 (by decide) ?_
      simp only [KX, KY, KZ, KW, KV, Nat.reduceAdd, Nat.reduceSub, Nat.reduceLeDiff, true_and, and_true, true_or, or_true, or_self, reduceCtorEq, if_true, if_false, not_false_eq_true, eq_self, c43, e, (vt289 kk hk).1, show mt_c 41 = (0, 0) from rfl, show lN ((1 : Fin 2).val) = lN 1 from rfl, show lN ((0 : Fin 2).val) = lN 0 from rfl, show (0 : Int32) * 64 = 0 from by decide, show (1 : Int32) * 64 = 64 from by decide, show (0 : Int32) + 64 = 64 from by decide, show (64 : Int32) + 64 = 128 from by decide]
      rw [if_neg (nI_pos (show 64 + i < 2 ^ 31 by omega)), if_pos (nI_lt (a := 64 + i) (b := 91) (by omega) (by decide)), if_pos (show nI (64 + i) < (128 : Int32) from nI_lt (b := 128) (by omega) (by decide))]
      rw [nI_clamp (show (64 + i) < 2 ^ 31 by omega)]
      refine ⟨nI_in hi (by decide), ?_⟩
      have ih2 := ih (i + 1) (by omega)
      refine s41 h1 h2 hk e hi ?_
      rcases fz01 g kk a (64 + i) with z | z
      · rw [z]
        rw [show bt (fzB g kk a) 64 (i + 1) = bt (fzB g kk a) 64 i ||| lN 0 by
          show bt (fzB g kk a) 64 i ||| (if fzB g kk a (64 + i) then ob i else lN 0) = _
          rw [show fzB g kk a (64 + i) = false by unfold fzB; rw [show 64 + i = (64 + i) by omega, z]; rfl]
          rfl] at ih2
        first
          | (with_reducible show At 43 _ 34 _ _ _ _)
          | (refine go 60 (by decide) ?_; simp only [KX, KY, KZ, KW, KV, Nat.reduceAdd, Nat.reduceSub, Nat.reduceLeDiff, true_and, and_true, true_or, or_true, or_self, reduceCtorEq, if_true, if_false, not_false_eq_true, eq_self, c43, e, (vt289 kk hk).1, show mt_c 41 = (0, 0) from rfl, show lN ((1 : Fin 2).val) = lN 1 from rfl, show lN ((0 : Fin 2).val) = lN 0 from rfl, show (0 : Int32) * 64 = 0 from by decide, show (1 : Int32) * 64 = 64 from by decide, show (0 : Int32) + 64 = 64 from by decide, show (64 : Int32) + 64 = 128 from by decide])
        first
          | (with_reducible show At 43 _ 34 _ _ _ _)
          | (refine go 60 (by decide) ?_; simp only [KX, KY, KZ, KW, KV, Nat.reduceAdd, Nat.reduceSub, Nat.reduceLeDiff, true_and, and_true, true_or, or_true, or_self, reduceCtorEq, if_true, if_false, not_false_eq_true, eq_self, c43, e, (vt289 kk hk).1, show mt_c 41 = (0, 0) from rfl, show lN ((1 : Fin 2).val) = lN 1 from rfl, show lN ((0 : Fin 2).val) = lN 0 from rfl, show (0 : Int32) * 64 = 0 from by decide, show (1 : Int32) * 64 = 64 from by decide, show (0 : Int32) + 64 = 64 from by decide, show (64 : Int32) + 64 = 128 from by decide])
        first
          | (with_reducible show At 43 _ 34 _ _ _ _)
          | (refine go 60 (by decide) ?_; simp only [KX, KY, KZ, KW, KV, Nat.reduceAdd, Nat.reduceSub, Nat.reduceLeDiff, true_and, and_true, true_or, or_true, or_self, reduceCtorEq, if_true, if_false, not_false_eq_true, eq_self, c43, e, (vt289 kk hk).1, show mt_c 41 = (0, 0) from rfl, show lN ((1 : Fin 2).val) = lN 1 from rfl, show lN ((0 : Fin 2).val) = lN 0 from rfl, show (0 : Int32) * 64 = 0 from by decide, show (1 : Int32) * 64 = 64 from by decide, show (0 : Int32) + 64 = 64 from by decide, show (64 : Int32) + 64 = 128 from by decide])
        refine go 60 (by decide) ?_
        simp only [KX, KY, KZ, KW, KV, Nat.reduceAdd, Nat.reduceSub, Nat.reduceLeDiff, true_and, and_true, true_or, or_true, or_self, reduceCtorEq, if_true, if_false, not_false_eq_true, eq_self, c43, e, (vt289 kk hk).1, show mt_c 41 = (0, 0) from rfl, show lN ((1 : Fin 2).val) = lN 1 from rfl, show lN ((0 : Fin 2).val) = lN 0 from rfl, show (0 : Int32) * 64 = 0 from by decide, show (1 : Int32) * 64 = 64 from by decide, show (0 : Int32) + 64 = 64 from by decide, show (64 : Int32) + 64 = 128 from by decide]
        rw [show nI (64 + i) + 1 = nI (64 + (i + 1)) from nI_1 _]
        exact At_le ih2 ⟨rfl, rfl, rfl, rfl, rfl, trivial⟩
      · rw [z]
        rw [show bt (fzB g kk a) 64 (i + 1) = bt (fzB g kk a) 64 i ||| ob i by
          show bt (fzB g kk a) 64 i ||| (if fzB g kk a (64 + i) then ob i else lN 0) = _
          rw [show fzB g kk a (64 + i) = true by unfold fzB; rw [show 64 + i = (64 + i) by omega, z]; rfl]
          rfl] at ih2
        first
          | (with_reducible show At 43 _ 34 _ _ _ _)
          | (refine go 60 (by decide) ?_; simp only [KX, KY, KZ, KW, KV, Nat.reduceAdd, Nat.reduceSub, Nat.reduceLeDiff, true_and, and_true, true_or, or_true, or_self, reduceCtorEq, if_true, if_false, not_false_eq_true, eq_self, c43, e, (vt289 kk hk).1, show mt_c 41 = (0, 0) from rfl, show lN ((1 : Fin 2).val) = lN 1 from rfl, show lN ((0 : Fin 2).val) = lN 0 from rfl, show (0 : Int32) * 64 = 0 from by decide, show (1 : Int32) * 64 = 64 from by decide, show (0 : Int32) + 64 = 64 from by decide, show (64 : Int32) + 64 = 128 from by decide])
        first
          | (with_reducible show At 43 _ 34 _ _ _ _)
          | (refine go 60 (by decide) ?_; simp only [KX, KY, KZ, KW, KV, Nat.reduceAdd, Nat.reduceSub, Nat.reduceLeDiff, true_and, and_true, true_or, or_true, or_self, reduceCtorEq, if_true, if_false, not_false_eq_true, eq_self, c43, e, (vt289 kk hk).1, show mt_c 41 = (0, 0) from rfl, show lN ((1 : Fin 2).val) = lN 1 from rfl, show lN ((0 : Fin 2).val) = lN 0 from rfl, show (0 : Int32) * 64 = 0 from by decide, show (1 : Int32) * 64 = 64 from by decide, show (0 : Int32) + 64 = 64 from by decide, show (64 : Int32) + 64 = 128 from by decide])
        first
          | (with_reducible show At 43 _ 34 _ _ _ _)
          | (refine go 60 (by decide) ?_; simp only [KX, KY, KZ, KW, KV, Nat.reduceAdd, Nat.reduceSub, Nat.reduceLeDiff, true_and, and_true, true_or, or_true, or_self, reduceCtorEq, if_true, if_false, not_false_eq_true, eq_self, c43, e, (vt289 kk hk).1, show mt_c 41 = (0, 0) from rfl, show lN ((1 : Fin 2).val) = lN 1 from rfl, show lN ((0 : Fin 2).val) = lN 0 from rfl, show (0 : Int32) * 64 = 0 from by decide, show (1 : Int32) * 64 = 64 from by decide, show (0 : Int32) + 64 = 64 from by decide, show (64 : Int32) + 64 = 128 from by decide])
        rw [an63 (64 + i) (by omega), show (64 + i) % 64 = i by omega]
        refine go 60 (by decide) ?_
        simp only [KX, KY, KZ, KW, KV, Nat.reduceAdd, Nat.reduceSub, Nat.reduceLeDiff, true_and, and_true, true_or, or_true, or_self, reduceCtorEq, if_true, if_false, not_false_eq_true, eq_self, c43, e, (vt289 kk hk).1, show mt_c 41 = (0, 0) from rfl, show lN ((1 : Fin 2).val) = lN 1 from rfl, show lN ((0 : Fin 2).val) = lN 0 from rfl, show (0 : Int32) * 64 = 0 from by decide, show (1 : Int32) * 64 = 64 from by decide, show (0 : Int32) + 64 = 64 from by decide, show (64 : Int32) + 64 = 128 from by decide]
        rw [show nI (64 + i) + 1 = nI (64 + (i + 1)) from nI_1 _]
        exact At_le ih2 ⟨rfl, rfl, rfl, rfl, rfl, trivial⟩
  refine ma_enter (m := 43) (Or.inl (by decide)) (by show 3 ≤ mt_n 43; decide +kernel) ?_
  show At 43 Q 0 (mt_c 43) [some (.ref r), some (.ref f), some (.int 1), none, none, none] [] h
  refine go 60 (by decide) ?_
  simp only [KX, KY, KZ, KW, KV, Nat.reduceAdd, Nat.reduceSub, Nat.reduceLeDiff, true_and, and_true, true_or, or_true, or_self, reduceCtorEq, if_true, if_false, not_false_eq_true, eq_self, c43, e, (vt289 kk hk).1, show mt_c 41 = (0, 0) from rfl, show lN ((1 : Fin 2).val) = lN 1 from rfl, show lN ((0 : Fin 2).val) = lN 0 from rfl, show (0 : Int32) * 64 = 0 from by decide, show (1 : Int32) * 64 = 64 from by decide, show (0 : Int32) + 64 = 64 from by decide, show (64 : Int32) + 64 = 128 from by decide]
  exact At_le (lp 27 0 rfl) ⟨rfl, rfl, rfl, rfl, rfl, trivial⟩
theorem s37 {h : ma_H} {Q : ma_Q} {a s rc : Nat} {mn : Int32} {g : Nat → Int32} (h1 : h.2.1 a = .inr (2, [.int mn, .ref s, .ref rc])) (h2 : h.2.1 s = .inl (.int, 169, .inl g)) {S : Bs} (hs : a ≠ s) (hg : fl_ok g) (k : Q none (ma_set h s (.inl (.int, 169, .inl (fl_tb g S 91))))) : ma_X 37 [.ref a, .long (bt S 0 64), .long (bt S 64 27)] h Q := by
  have hA : ∀ c, (ma_set h s c).2.1 a = .inr (2, [.int mn, .ref s, .ref rc]) := fun c => (ma_set_ne h c hs).trans h1
  have lp : ∀ n i, i + n = 91 → At 37 Q 2 (0, 0) [some (.ref a), some (.long (bt S 0 64)), none, some (.long (bt S 64 27)), none, some (.int (nI i)), none, none] [] (ma_set h s (.inl (.int, 169, .inl (fl_tb g S i)))) := by
    intro n
    induction n with
    | zero =>
      intro i ei
      obtain rfl : i = 91 := by omega
      refine go 60 (by decide) ?_
      simp only [KX, KY, KZ, KW, KV, Nat.reduceAdd, Nat.reduceSub, Nat.reduceLeDiff, true_and, and_true, true_or, or_true, or_self, reduceCtorEq, if_true, if_false, not_false_eq_true, eq_self, c37, hA, show lN ((1 : Fin 2).val) = lN 1 from rfl, show lN ((0 : Fin 2).val) = lN 0 from rfl]
      rw [if_neg (nI_nlt (Nat.le_refl _) (by decide))]
      exact k
    | succ n ih =>
      intro i ei
      have hi : i < 91 := by omega
      refine go 60 (by decide) ?_
      simp only [KX, KY, KZ, KW, KV, Nat.reduceAdd, Nat.reduceSub, Nat.reduceLeDiff, true_and, and_true, true_or, or_true, or_self, reduceCtorEq, if_true, if_false, not_false_eq_true, eq_self, c37, hA, show lN ((1 : Fin 2).val) = lN 1 from rfl, show lN ((0 : Fin 2).val) = lN 0 from rfl]
      rw [if_pos (nI_lt hi (by decide))]
      by_cases c : i < 64
      · rw [if_pos (show nI i < (64 : Int32) from nI_lt (b := 64) c (by decide))]
        have bb : (bt S 0 64).toBitVec.getLsbD (i % 64) = S i := by
          rw [bt_bit S 0 64 (by decide), decide_eq_true (show i % 64 < 64 by omega), Bool.true_and, show 0 + i % 64 = i by omega]
        first
          | (with_reducible show At 37 _ 12 _ _ _ _)
          | (refine go 60 (by decide) ?_; simp only [KX, KY, KZ, KW, KV, Nat.reduceAdd, Nat.reduceSub, Nat.reduceLeDiff, true_and, and_true, true_or, or_true, or_self, reduceCtorEq, if_true, if_false, not_false_eq_true, eq_self, c37, hA, show lN ((1 : Fin 2).val) = lN 1 from rfl, show lN ((0 : Fin 2).val) = lN 0 from rfl])
        first
          | (with_reducible show At 37 _ 12 _ _ _ _)
          | (refine go 60 (by decide) ?_; simp only [KX, KY, KZ, KW, KV, Nat.reduceAdd, Nat.reduceSub, Nat.reduceLeDiff, true_and, and_true, true_or, or_true, or_self, reduceCtorEq, if_true, if_false, not_false_eq_true, eq_self, c37, hA, show lN ((1 : Fin 2).val) = lN 1 from rfl, show lN ((0 : Fin 2).val) = lN 0 from rfl])
        first
          | (with_reducible show At 37 _ 12 _ _ _ _)
          | (refine go 60 (by decide) ?_; simp only [KX, KY, KZ, KW, KV, Nat.reduceAdd, Nat.reduceSub, Nat.reduceLeDiff, true_and, and_true, true_or, or_true, or_self, reduceCtorEq, if_true, if_false, not_false_eq_true, eq_self, c37, hA, show lN ((1 : Fin 2).val) = lN 1 from rfl, show lN ((0 : Fin 2).val) = lN 0 from rfl])
        refine go 60 (by decide) ?_
        simp only [KX, KY, KZ, KW, KV, Nat.reduceAdd, Nat.reduceSub, Nat.reduceLeDiff, true_and, and_true, true_or, or_true, or_self, reduceCtorEq, if_true, if_false, not_false_eq_true, eq_self, c37, hA, show lN ((1 : Fin 2).val) = lN 1 from rfl, show lN ((0 : Fin 2).val) = lN 0 from rfl]
        rw [nI_clamp (show i < 2 ^ 31 by omega)]
        refine ⟨nI_in hi (by decide), ?_⟩
        rw [an63 i hi]
        cases eS : S i
        · rw [if_neg (fun z => absurd ((lus_1 _ (show i % 64 < 64 by omega)).mp ((lg_cmp_eq _ _).mp z)) (by rw [bb, eS]; decide))]
          have e3 : fl_tb g S (i + 1) = upd (fl_tb g S i) (ma_cell i) (-1) := by
            show upd (fl_tb g S i) (ma_cell i) (if S i then 0 else -1) = _
            rw [eS]
            rfl
          have ih2 := ih (i + 1) (by omega)
          rw [e3] at ih2
          first
            | (with_reducible show At 37 _ 30 _ _ _ _)
            | (refine go 60 (by decide) ?_; simp only [KX, KY, KZ, KW, KV, Nat.reduceAdd, Nat.reduceSub, Nat.reduceLeDiff, true_and, and_true, true_or, or_true, or_self, reduceCtorEq, if_true, if_false, not_false_eq_true, eq_self, c37, hA, show lN ((1 : Fin 2).val) = lN 1 from rfl, show lN ((0 : Fin 2).val) = lN 0 from rfl])
          first
            | (with_reducible show At 37 _ 30 _ _ _ _)
            | (refine go 60 (by decide) ?_; simp only [KX, KY, KZ, KW, KV, Nat.reduceAdd, Nat.reduceSub, Nat.reduceLeDiff, true_and, and_true, true_or, or_true, or_self, reduceCtorEq, if_true, if_false, not_false_eq_true, eq_self, c37, hA, show lN ((1 : Fin 2).val) = lN 1 from rfl, show lN ((0 : Fin 2).val) = lN 0 from rfl])
          first
            | (with_reducible show At 37 _ 30 _ _ _ _)
            | (refine go 60 (by decide) ?_; simp only [KX, KY, KZ, KW, KV, Nat.reduceAdd, Nat.reduceSub, Nat.reduceLeDiff, true_and, and_true, true_or, or_true, or_self, reduceCtorEq, if_true, if_false, not_false_eq_true, eq_self, c37, hA, show lN ((1 : Fin 2).val) = lN 1 from rfl, show lN ((0 : Fin 2).val) = lN 0 from rfl])
          refine go 60 (by decide) ?_
          simp only [KX, KY, KZ, KW, KV, Nat.reduceAdd, Nat.reduceSub, Nat.reduceLeDiff, true_and, and_true, true_or, or_true, or_self, reduceCtorEq, if_true, if_false, not_false_eq_true, eq_self, c37, hA, show lN ((1 : Fin 2).val) = lN 1 from rfl, show lN ((0 : Fin 2).val) = lN 0 from rfl]
          refine s17c (hA _) (ma_set_at _ _ _) hi (fl_tb_ne (hg.1 i hi) i) ?_
          rw [ma_set_set]
          first
            | (with_reducible show At 37 _ 2 _ _ _ _)
            | (refine go 60 (by decide) ?_; simp only [KX, KY, KZ, KW, KV, Nat.reduceAdd, Nat.reduceSub, Nat.reduceLeDiff, true_and, and_true, true_or, or_true, or_self, reduceCtorEq, if_true, if_false, not_false_eq_true, eq_self, c37, hA, show lN ((1 : Fin 2).val) = lN 1 from rfl, show lN ((0 : Fin 2).val) = lN 0 from rfl])
          first
            | (with_reducible show At 37 _ 2 _ _ _ _)
            | (refine go 60 (by decide) ?_; simp only [KX, KY, KZ, KW, KV, Nat.reduceAdd, Nat.reduceSub, Nat.reduceLeDiff, true_and, and_true, true_or, or_true, or_self, reduceCtorEq, if_true, if_false, not_false_eq_true, eq_self, c37, hA, show lN ((1 : Fin 2).val) = lN 1 from rfl, show lN ((0 : Fin 2).val) = lN 0 from rfl])
          first
            | (with_reducible show At 37 _ 2 _ _ _ _)
            | (refine go 60 (by decide) ?_; simp only [KX, KY, KZ, KW, KV, Nat.reduceAdd, Nat.reduceSub, Nat.reduceLeDiff, true_and, and_true, true_or, or_true, or_self, reduceCtorEq, if_true, if_false, not_false_eq_true, eq_self, c37, hA, show lN ((1 : Fin 2).val) = lN 1 from rfl, show lN ((0 : Fin 2).val) = lN 0 from rfl])
          rw [nI_1 i]
          exact At_le ih2 ⟨rfl, rfl, rfl, rfl, trivial⟩
        · rw [if_pos ((lg_cmp_eq _ _).mpr ((lus_1 _ (show i % 64 < 64 by omega)).mpr (bb.trans eS)))]
          have e3 : fl_tb g S (i + 1) = upd (fl_tb g S i) (ma_cell i) 0 := by
            show upd (fl_tb g S i) (ma_cell i) (if S i then 0 else -1) = _
            rw [eS]
            rfl
          have ih2 := ih (i + 1) (by omega)
          rw [e3] at ih2
          first
            | (with_reducible show At 37 _ 30 _ _ _ _)
            | (refine go 60 (by decide) ?_; simp only [KX, KY, KZ, KW, KV, Nat.reduceAdd, Nat.reduceSub, Nat.reduceLeDiff, true_and, and_true, true_or, or_true, or_self, reduceCtorEq, if_true, if_false, not_false_eq_true, eq_self, c37, hA, show lN ((1 : Fin 2).val) = lN 1 from rfl, show lN ((0 : Fin 2).val) = lN 0 from rfl])
          first
            | (with_reducible show At 37 _ 30 _ _ _ _)
            | (refine go 60 (by decide) ?_; simp only [KX, KY, KZ, KW, KV, Nat.reduceAdd, Nat.reduceSub, Nat.reduceLeDiff, true_and, and_true, true_or, or_true, or_self, reduceCtorEq, if_true, if_false, not_false_eq_true, eq_self, c37, hA, show lN ((1 : Fin 2).val) = lN 1 from rfl, show lN ((0 : Fin 2).val) = lN 0 from rfl])
          first
            | (with_reducible show At 37 _ 30 _ _ _ _)
            | (refine go 60 (by decide) ?_; simp only [KX, KY, KZ, KW, KV, Nat.reduceAdd, Nat.reduceSub, Nat.reduceLeDiff, true_and, and_true, true_or, or_true, or_self, reduceCtorEq, if_true, if_false, not_false_eq_true, eq_self, c37, hA, show lN ((1 : Fin 2).val) = lN 1 from rfl, show lN ((0 : Fin 2).val) = lN 0 from rfl])
          refine go 60 (by decide) ?_
          simp only [KX, KY, KZ, KW, KV, Nat.reduceAdd, Nat.reduceSub, Nat.reduceLeDiff, true_and, and_true, true_or, or_true, or_self, reduceCtorEq, if_true, if_false, not_false_eq_true, eq_self, c37, hA, show lN ((1 : Fin 2).val) = lN 1 from rfl, show lN ((0 : Fin 2).val) = lN 0 from rfl]
          refine s17c (hA _) (ma_set_at _ _ _) hi (fl_tb_ne (hg.1 i hi) i) ?_
          rw [ma_set_set]
          first
            | (with_reducible show At 37 _ 2 _ _ _ _)
            | (refine go 60 (by decide) ?_; simp only [KX, KY, KZ, KW, KV, Nat.reduceAdd, Nat.reduceSub, Nat.reduceLeDiff, true_and, and_true, true_or, or_true, or_self, reduceCtorEq, if_true, if_false, not_false_eq_true, eq_self, c37, hA, show lN ((1 : Fin 2).val) = lN 1 from rfl, show lN ((0 : Fin 2).val) = lN 0 from rfl])
          first
            | (with_reducible show At 37 _ 2 _ _ _ _)
            | (refine go 60 (by decide) ?_; simp only [KX, KY, KZ, KW, KV, Nat.reduceAdd, Nat.reduceSub, Nat.reduceLeDiff, true_and, and_true, true_or, or_true, or_self, reduceCtorEq, if_true, if_false, not_false_eq_true, eq_self, c37, hA, show lN ((1 : Fin 2).val) = lN 1 from rfl, show lN ((0 : Fin 2).val) = lN 0 from rfl])
          first
            | (with_reducible show At 37 _ 2 _ _ _ _)
            | (refine go 60 (by decide) ?_; simp only [KX, KY, KZ, KW, KV, Nat.reduceAdd, Nat.reduceSub, Nat.reduceLeDiff, true_and, and_true, true_or, or_true, or_self, reduceCtorEq, if_true, if_false, not_false_eq_true, eq_self, c37, hA, show lN ((1 : Fin 2).val) = lN 1 from rfl, show lN ((0 : Fin 2).val) = lN 0 from rfl])
          rw [nI_1 i]
          exact At_le ih2 ⟨rfl, rfl, rfl, rfl, trivial⟩
      · rw [if_neg (show ¬ nI i < (64 : Int32) from nI_nlt (b := 64) (by omega) (by omega))]
        have bb : (bt S 64 27).toBitVec.getLsbD (i % 64) = S i := by
          rw [bt_bit S 64 27 (by decide), decide_eq_true (show i % 64 < 27 by omega), Bool.true_and, show 64 + i % 64 = i by omega]
        first
          | (with_reducible show At 37 _ 12 _ _ _ _)
          | (refine go 60 (by decide) ?_; simp only [KX, KY, KZ, KW, KV, Nat.reduceAdd, Nat.reduceSub, Nat.reduceLeDiff, true_and, and_true, true_or, or_true, or_self, reduceCtorEq, if_true, if_false, not_false_eq_true, eq_self, c37, hA, show lN ((1 : Fin 2).val) = lN 1 from rfl, show lN ((0 : Fin 2).val) = lN 0 from rfl])
        first
          | (with_reducible show At 37 _ 12 _ _ _ _)
          | (refine go 60 (by decide) ?_; simp only [KX, KY, KZ, KW, KV, Nat.reduceAdd, Nat.reduceSub, Nat.reduceLeDiff, true_and, and_true, true_or, or_true, or_self, reduceCtorEq, if_true, if_false, not_false_eq_true, eq_self, c37, hA, show lN ((1 : Fin 2).val) = lN 1 from rfl, show lN ((0 : Fin 2).val) = lN 0 from rfl])
        first
          | (with_reducible show At 37 _ 12 _ _ _ _)
          | (refine go 60 (by decide) ?_; simp only [KX, KY, KZ, KW, KV, Nat.reduceAdd, Nat.reduceSub, Nat.reduceLeDiff, true_and, and_true, true_or, or_true, or_self, reduceCtorEq, if_true, if_false, not_false_eq_true, eq_self, c37, hA, show lN ((1 : Fin 2).val) = lN 1 from rfl, show lN ((0 : Fin 2).val) = lN 0 from rfl])
        refine go 60 (by decide) ?_
        simp only [KX, KY, KZ, KW, KV, Nat.reduceAdd, Nat.reduceSub, Nat.reduceLeDiff, true_and, and_true, true_or, or_true, or_self, reduceCtorEq, if_true, if_false, not_false_eq_true, eq_self, c37, hA, show lN ((1 : Fin 2).val) = lN 1 from rfl, show lN ((0 : Fin 2).val) = lN 0 from rfl]
        rw [nI_clamp (show i < 2 ^ 31 by omega)]
        refine ⟨nI_in hi (by decide), ?_⟩
        rw [an63 i hi]
        cases eS : S i
        · rw [if_neg (fun z => absurd ((lus_1 _ (show i % 64 < 64 by omega)).mp ((lg_cmp_eq _ _).mp z)) (by rw [bb, eS]; decide))]
          have e3 : fl_tb g S (i + 1) = upd (fl_tb g S i) (ma_cell i) (-1) := by
            show upd (fl_tb g S i) (ma_cell i) (if S i then 0 else -1) = _
            rw [eS]
            rfl
          have ih2 := ih (i + 1) (by omega)
          rw [e3] at ih2
          first
            | (with_reducible show At 37 _ 30 _ _ _ _)
            | (refine go 60 (by decide) ?_; simp only [KX, KY, KZ, KW, KV, Nat.reduceAdd, Nat.reduceSub, Nat.reduceLeDiff, true_and, and_true, true_or, or_true, or_self, reduceCtorEq, if_true, if_false, not_false_eq_true, eq_self, c37, hA, show lN ((1 : Fin 2).val) = lN 1 from rfl, show lN ((0 : Fin 2).val) = lN 0 from rfl])
          first
            | (with_reducible show At 37 _ 30 _ _ _ _)
            | (refine go 60 (by decide) ?_; simp only [KX, KY, KZ, KW, KV, Nat.reduceAdd, Nat.reduceSub, Nat.reduceLeDiff, true_and, and_true, true_or, or_true, or_self, reduceCtorEq, if_true, if_false, not_false_eq_true, eq_self, c37, hA, show lN ((1 : Fin 2).val) = lN 1 from rfl, show lN ((0 : Fin 2).val) = lN 0 from rfl])
          first
            | (with_reducible show At 37 _ 30 _ _ _ _)
            | (refine go 60 (by decide) ?_; simp only [KX, KY, KZ, KW, KV, Nat.reduceAdd, Nat.reduceSub, Nat.reduceLeDiff, true_and, and_true, true_or, or_true, or_self, reduceCtorEq, if_true, if_false, not_false_eq_true, eq_self, c37, hA, show lN ((1 : Fin 2).val) = lN 1 from rfl, show lN ((0 : Fin 2).val) = lN 0 from rfl])
          refine go 60 (by decide) ?_
          simp only [KX, KY, KZ, KW, KV, Nat.reduceAdd, Nat.reduceSub, Nat.reduceLeDiff, true_and, and_true, true_or, or_true, or_self, reduceCtorEq, if_true, if_false, not_false_eq_true, eq_self, c37, hA, show lN ((1 : Fin 2).val) = lN 1 from rfl, show lN ((0 : Fin 2).val) = lN 0 from rfl]
          refine s17c (hA _) (ma_set_at _ _ _) hi (fl_tb_ne (hg.1 i hi) i) ?_
          rw [ma_set_set]
          first
            | (with_reducible show At 37 _ 2 _ _ _ _)
            | (refine go 60 (by decide) ?_; simp only [KX, KY, KZ, KW, KV, Nat.reduceAdd, Nat.reduceSub, Nat.reduceLeDiff, true_and, and_true, true_or, or_true, or_self, reduceCtorEq, if_true, if_false, not_false_eq_true, eq_self, c37, hA, show lN ((1 : Fin 2).val) = lN 1 from rfl, show lN ((0 : Fin 2).val) = lN 0 from rfl])
          first
            | (with_reducible show At 37 _ 2 _ _ _ _)
            | (refine go 60 (by decide) ?_; simp only [KX, KY, KZ, KW, KV, Nat.reduceAdd, Nat.reduceSub, Nat.reduceLeDiff, true_and, and_true, true_or, or_true, or_self, reduceCtorEq, if_true, if_false, not_false_eq_true, eq_self, c37, hA, show lN ((1 : Fin 2).val) = lN 1 from rfl, show lN ((0 : Fin 2).val) = lN 0 from rfl])
          first
            | (with_reducible show At 37 _ 2 _ _ _ _)
            | (refine go 60 (by decide) ?_; simp only [KX, KY, KZ, KW, KV, Nat.reduceAdd, Nat.reduceSub, Nat.reduceLeDiff, true_and, and_true, true_or, or_true, or_self, reduceCtorEq, if_true, if_false, not_false_eq_true, eq_self, c37, hA, show lN ((1 : Fin 2).val) = lN 1 from rfl, show lN ((0 : Fin 2).val) = lN 0 from rfl])
          rw [nI_1 i]
          exact At_le ih2 ⟨rfl, rfl, rfl, rfl, trivial⟩
        · rw [if_pos ((lg_cmp_eq _ _).mpr ((lus_1 _ (show i % 64 < 64 by omega)).mpr (bb.trans eS)))]
          have e3 : fl_tb g S (i + 1) = upd (fl_tb g S i) (ma_cell i) 0 := by
            show upd (fl_tb g S i) (ma_cell i) (if S i then 0 else -1) = _
            rw [eS]
            rfl
          have ih2 := ih (i + 1) (by omega)
          rw [e3] at ih2
          first
            | (with_reducible show At 37 _ 30 _ _ _ _)
            | (refine go 60 (by decide) ?_; simp only [KX, KY, KZ, KW, KV, Nat.reduceAdd, Nat.reduceSub, Nat.reduceLeDiff, true_and, and_true, true_or, or_true, or_self, reduceCtorEq, if_true, if_false, not_false_eq_true, eq_self, c37, hA, show lN ((1 : Fin 2).val) = lN 1 from rfl, show lN ((0 : Fin 2).val) = lN 0 from rfl])
          first
            | (with_reducible show At 37 _ 30 _ _ _ _)
            | (refine go 60 (by decide) ?_; simp only [KX, KY, KZ, KW, KV, Nat.reduceAdd, Nat.reduceSub, Nat.reduceLeDiff, true_and, and_true, true_or, or_true, or_self, reduceCtorEq, if_true, if_false, not_false_eq_true, eq_self, c37, hA, show lN ((1 : Fin 2).val) = lN 1 from rfl, show lN ((0 : Fin 2).val) = lN 0 from rfl])
          first
            | (with_reducible show At 37 _ 30 _ _ _ _)
            | (refine go 60 (by decide) ?_; simp only [KX, KY, KZ, KW, KV, Nat.reduceAdd, Nat.reduceSub, Nat.reduceLeDiff, true_and, and_true, true_or, or_true, or_self, reduceCtorEq, if_true, if_false, not_false_eq_true, eq_self, c37, hA, show lN ((1 : Fin 2).val) = lN 1 from rfl, show lN ((0 : Fin 2).val) = lN 0 from rfl])
          refine go 60 (by decide) ?_
          simp only [KX, KY, KZ, KW, KV, Nat.reduceAdd, Nat.reduceSub, Nat.reduceLeDiff, true_and, and_true, true_or, or_true, or_self, reduceCtorEq, if_true, if_false, not_false_eq_true, eq_self, c37, hA, show lN ((1 : Fin 2).val) = lN 1 from rfl, show lN ((0 : Fin 2).val) = lN 0 from rfl]
          refine s17c (hA _) (ma_set_at _ _ _) hi (fl_tb_ne (hg.1 i hi) i) ?_
          rw [ma_set_set]
          first
            | (with_reducible show At 37 _ 2 _ _ _ _)
            | (refine go 60 (by decide) ?_; simp only [KX, KY, KZ, KW, KV, Nat.reduceAdd, Nat.reduceSub, Nat.reduceLeDiff, true_and, and_true, true_or, or_true, or_self, reduceCtorEq, if_true, if_false, not_false_eq_true, eq_self, c37, hA, show lN ((1 : Fin 2).val) = lN 1 from rfl, show lN ((0 : Fin 2).val) = lN 0 from rfl])
          first
            | (with_reducible show At 37 _ 2 _ _ _ _)
            | (refine go 60 (by decide) ?_; simp only [KX, KY, KZ, KW, KV, Nat.reduceAdd, Nat.reduceSub, Nat.reduceLeDiff, true_and, and_true, true_or, or_true, or_self, reduceCtorEq, if_true, if_false, not_false_eq_true, eq_self, c37, hA, show lN ((1 : Fin 2).val) = lN 1 from rfl, show lN ((0 : Fin 2).val) = lN 0 from rfl])
          first
            | (with_reducible show At 37 _ 2 _ _ _ _)
            | (refine go 60 (by decide) ?_; simp only [KX, KY, KZ, KW, KV, Nat.reduceAdd, Nat.reduceSub, Nat.reduceLeDiff, true_and, and_true, true_or, or_true, or_self, reduceCtorEq, if_true, if_false, not_false_eq_true, eq_self, c37, hA, show lN ((1 : Fin 2).val) = lN 1 from rfl, show lN ((0 : Fin 2).val) = lN 0 from rfl])
          rw [nI_1 i]
          exact At_le ih2 ⟨rfl, rfl, rfl, rfl, trivial⟩
  refine ma_enter (m := 37) (Or.inl (by decide)) (by show 5 ≤ mt_n 37; decide +kernel) ?_
  show At 37 Q 0 (mt_c 37) [some (.ref a), some (.long (bt S 0 64)), none, some (.long (bt S 64 27)), none, none, none, none] [] h
  refine go 60 (by decide) ?_
  simp only [KX, KY, KZ, KW, KV, Nat.reduceAdd, Nat.reduceSub, Nat.reduceLeDiff, true_and, and_true, true_or, or_true, or_self, reduceCtorEq, if_true, if_false, not_false_eq_true, eq_self, c37, hA, show lN ((1 : Fin 2).val) = lN 1 from rfl, show lN ((0 : Fin 2).val) = lN 0 from rfl]
  have l0 := lp 91 0 rfl
  rw [show (ma_set h s (.inl (.int, 169, .inl (fl_tb g S 0)))) = h from ma_set_id h2] at l0
  exact At_le l0 ⟨rfl, rfl, rfl, rfl, trivial⟩
