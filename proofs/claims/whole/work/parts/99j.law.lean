/-! law: the class parts a TEXT, on -/
theorem TX.cong {h hh : ma_H} {b : Nat → Nat} {n : Nat} (X : TX h b n) (H : Sh hh) (e2 : hh.2.1 2 = h.2.1 2) (e3 : hh.2.1 3 = h.2.1 3) : TX hh b n := by
  obtain ⟨x1, x2, x3, x4, x5⟩ := X
  refine ⟨H, ?_, x3, fun i hi => ?_, x5⟩
  · show fiC _ _ = _
    rw [e2]
    exact x2
  · show aiC _ _ = _
    rw [e3]
    exact x4 i hi
theorem s66 {h : ma_H} {Q : ma_Q} {b : Nat → Nat} {n i k : Nat} (X : TX h b n) (hi : i < n) (hk : k ≤ 200) (k0 : Q none (ma_set (ma_set h 6 (.inl (.int, 201, .inl (upd (ai h 6) k (cv (qt b n i)))))) 4 (.inl (.int, 201, .inl (upd (ai h 4) k (nI (cs (qt b n i)))))))) : ma_X 66 [.ref 2, .int (nI k), .int (nI i), .int (nI (nL b n i)), .int (nI (nD b n i))] h Q := by
  have H := X.1
  have hs6 : ∀ g, Sh (ma_set h 6 (.inl (.int, 201, .inl g))) := fun g => sh_set H rfl
  have X6 : ∀ g, TX (ma_set h 6 (.inl (.int, 201, .inl g))) b n := fun g => X.cong (hs6 g) (ma_set_ne _ _ (by decide)) (ma_set_ne _ _ (by decide))
  have n2 := X.2.2.1
  have uu : ∀ (g : Nat → Int32) (x y : Int32), upd (upd g k x) k y = upd g k y := fun g x y => by
    funext z
    unfold upd
    by_cases c : z = k
    · rw [if_pos c, if_pos c]
    · rw [if_neg c, if_neg c, if_neg c]
  have ua : ∀ (g : Nat → Int32) (x : Int32), upd g k x k = x := fun g x => if_pos rfl
  have kc := nI_clamp (show k < 2 ^ 31 by omega)
  have i4 : ai (ma_set h 6 (.inl (.int, 201, .inl (upd (ai h 6) k (-1))))) 4 = ai h 4 := ai_ne _ _ (by decide)
  refine ma_enter (m := 66) (Or.inl (by decide)) (by show 5 ≤ mt_n 66; decide +kernel) ?_
  show At 66 Q 0 (mt_c 66) [some (.ref 2), some (.int (nI k)), some (.int (nI i)), some (.int (nI (nL b n i))), some (.int (nI (nD b n i)))] [] h
  refine go 60 (by decide) ?_
  simp only [KX, KY, KZ, KW, KV, Nat.reduceAdd, Nat.reduceSub, Nat.reduceLeDiff, true_and, and_true, true_or, or_true, or_self, reduceCtorEq, if_true, if_false, not_false_eq_true, eq_self, c66, H.e2, H.e6, (hs6 _).e2, (hs6 _).e3, (hs6 _).e4, (hs6 _).e6, ma_set_set, ai_at]
  rw [kc]
  refine ⟨nI_in (show k < 201 by omega) (by decide), ?_⟩
  by_cases l : 0 < nL b n i
  · rw [if_neg (show ¬ nI (nL b n i) ≤ 0 from nI_ge (a := 0) l (by have := run_le isL b n 201 i; unfold nL; omega))]
    have ll : i + nL b n i ≤ n := by have := run_le isL b n 201 i; unfold nL; omega
    refine s69 (X6 _) ll ?_
    by_cases c : fw6 b i (nL b n i) 6 < 6
    · have eq : qt b n i = 4000 + fw6 b i (nL b n i) 6 := by unfold qt; rw [if_pos hi, if_pos l, if_pos c]
      rw [if_pos c]
      refine go 60 (by decide) ?_
      simp only [KX, KY, KZ, KW, KV, Nat.reduceAdd, Nat.reduceSub, Nat.reduceLeDiff, true_and, and_true, true_or, or_true, or_self, reduceCtorEq, if_true, if_false, not_false_eq_true, eq_self, c66, H.e2, H.e6, (hs6 _).e2, (hs6 _).e3, (hs6 _).e4, (hs6 _).e6, ma_set_set, ai_at]
      rw [kc, uu]
      refine ⟨nI_in (show k < 201 by omega) (by decide), nI_in (show k < 201 by omega) (by decide), ?_⟩
      rw [ua, if_neg (nI_pos (show 1000 + fw6 b i (nL b n i) 6 < 2 ^ 31 by omega))]
      first
        | (with_reducible show At 66 _ 29 _ _ _ _)
        | (refine go 60 (by decide) ?_; simp only [KX, KY, KZ, KW, KV, Nat.reduceAdd, Nat.reduceSub, Nat.reduceLeDiff, true_and, and_true, true_or, or_true, or_self, reduceCtorEq, if_true, if_false, not_false_eq_true, eq_self, c66, H.e2, H.e6, (hs6 _).e2, (hs6 _).e3, (hs6 _).e4, (hs6 _).e6, ma_set_set, ai_at])
      first
        | (with_reducible show At 66 _ 29 _ _ _ _)
        | (refine go 60 (by decide) ?_; simp only [KX, KY, KZ, KW, KV, Nat.reduceAdd, Nat.reduceSub, Nat.reduceLeDiff, true_and, and_true, true_or, or_true, or_self, reduceCtorEq, if_true, if_false, not_false_eq_true, eq_self, c66, H.e2, H.e6, (hs6 _).e2, (hs6 _).e3, (hs6 _).e4, (hs6 _).e6, ma_set_set, ai_at])
      first
        | (with_reducible show At 66 _ 29 _ _ _ _)
        | (refine go 60 (by decide) ?_; simp only [KX, KY, KZ, KW, KV, Nat.reduceAdd, Nat.reduceSub, Nat.reduceLeDiff, true_and, and_true, true_or, or_true, or_self, reduceCtorEq, if_true, if_false, not_false_eq_true, eq_self, c66, H.e2, H.e6, (hs6 _).e2, (hs6 _).e3, (hs6 _).e4, (hs6 _).e6, ma_set_set, ai_at])
      refine go 60 (by decide) ?_
      simp only [KX, KY, KZ, KW, KV, Nat.reduceAdd, Nat.reduceSub, Nat.reduceLeDiff, true_and, and_true, true_or, or_true, or_self, reduceCtorEq, if_true, if_false, not_false_eq_true, eq_self, c66, H.e2, H.e6, (hs6 _).e2, (hs6 _).e3, (hs6 _).e4, (hs6 _).e6, ma_set_set, ai_at]
      rw [kc]
      refine ⟨nI_in (show k < 201 by omega) (by decide), ?_⟩
      rw [show cv (qt b n i) = nI (1000 + fw6 b i (nL b n i) 6) by rw [eq]; unfold cv; rw [if_pos (by omega), show 4000 + fw6 b i (nL b n i) 6 - 3000 = 1000 + fw6 b i (nL b n i) 6 by omega], show nI (cs (qt b n i)) = 263 by rw [eq]; unfold cs; rw [if_pos (by omega)]; rfl] at k0
      rw [ai_ne _ _ (show 4 ≠ 6 by decide)]
      exact k0
    · rw [if_neg c]
      refine go 60 (by decide) ?_
      simp only [KX, KY, KZ, KW, KV, Nat.reduceAdd, Nat.reduceSub, Nat.reduceLeDiff, true_and, and_true, true_or, or_true, or_self, reduceCtorEq, if_true, if_false, not_false_eq_true, eq_self, c66, H.e2, H.e6, (hs6 _).e2, (hs6 _).e3, (hs6 _).e4, (hs6 _).e6, ma_set_set, ai_at]
      rw [kc, uu]
      refine ⟨nI_in (show k < 201 by omega) (by decide), nI_in (show k < 201 by omega) (by decide), ?_⟩
      rw [ua, if_pos (show (-1 : Int32) < 0 by decide)]
      refine s68 (X6 _) ll ?_
      by_cases d : fw6 b i (nL b n i) 0 < 6
      · have eq : qt b n i = 257 + fw6 b i (nL b n i) 0 := by unfold qt; rw [if_pos hi, if_pos l, if_neg c, if_pos d]
        rw [if_pos d]
        first
          | (with_reducible show At 66 _ 29 _ _ _ _)
          | (refine go 60 (by decide) ?_; simp only [KX, KY, KZ, KW, KV, Nat.reduceAdd, Nat.reduceSub, Nat.reduceLeDiff, true_and, and_true, true_or, or_true, or_self, reduceCtorEq, if_true, if_false, not_false_eq_true, eq_self, c66, H.e2, H.e6, (hs6 _).e2, (hs6 _).e3, (hs6 _).e4, (hs6 _).e6, ma_set_set, ai_at])
        first
          | (with_reducible show At 66 _ 29 _ _ _ _)
          | (refine go 60 (by decide) ?_; simp only [KX, KY, KZ, KW, KV, Nat.reduceAdd, Nat.reduceSub, Nat.reduceLeDiff, true_and, and_true, true_or, or_true, or_self, reduceCtorEq, if_true, if_false, not_false_eq_true, eq_self, c66, H.e2, H.e6, (hs6 _).e2, (hs6 _).e3, (hs6 _).e4, (hs6 _).e6, ma_set_set, ai_at])
        first
          | (with_reducible show At 66 _ 29 _ _ _ _)
          | (refine go 60 (by decide) ?_; simp only [KX, KY, KZ, KW, KV, Nat.reduceAdd, Nat.reduceSub, Nat.reduceLeDiff, true_and, and_true, true_or, or_true, or_self, reduceCtorEq, if_true, if_false, not_false_eq_true, eq_self, c66, H.e2, H.e6, (hs6 _).e2, (hs6 _).e3, (hs6 _).e4, (hs6 _).e6, ma_set_set, ai_at])
        refine go 60 (by decide) ?_
        simp only [KX, KY, KZ, KW, KV, Nat.reduceAdd, Nat.reduceSub, Nat.reduceLeDiff, true_and, and_true, true_or, or_true, or_self, reduceCtorEq, if_true, if_false, not_false_eq_true, eq_self, c66, H.e2, H.e6, (hs6 _).e2, (hs6 _).e3, (hs6 _).e4, (hs6 _).e6, ma_set_set, ai_at]
        rw [kc]
        refine ⟨nI_in (show k < 201 by omega) (by decide), ?_⟩
        rw [show cv (qt b n i) = -1 by rw [eq]; exact if_neg (by omega), show nI (cs (qt b n i)) = nI (257 + fw6 b i (nL b n i) 0) by rw [eq]; unfold cs; rw [if_neg (by omega)]] at k0
        rw [ai_ne _ _ (show 4 ≠ 6 by decide)]
        exact k0
      · have eq : qt b n i = 264 := by unfold qt; rw [if_pos hi, if_pos l, if_neg c, if_neg d]
        rw [if_neg d]
        first
          | (with_reducible show At 66 _ 29 _ _ _ _)
          | (refine go 60 (by decide) ?_; simp only [KX, KY, KZ, KW, KV, Nat.reduceAdd, Nat.reduceSub, Nat.reduceLeDiff, true_and, and_true, true_or, or_true, or_self, reduceCtorEq, if_true, if_false, not_false_eq_true, eq_self, c66, H.e2, H.e6, (hs6 _).e2, (hs6 _).e3, (hs6 _).e4, (hs6 _).e6, ma_set_set, ai_at])
        first
          | (with_reducible show At 66 _ 29 _ _ _ _)
          | (refine go 60 (by decide) ?_; simp only [KX, KY, KZ, KW, KV, Nat.reduceAdd, Nat.reduceSub, Nat.reduceLeDiff, true_and, and_true, true_or, or_true, or_self, reduceCtorEq, if_true, if_false, not_false_eq_true, eq_self, c66, H.e2, H.e6, (hs6 _).e2, (hs6 _).e3, (hs6 _).e4, (hs6 _).e6, ma_set_set, ai_at])
        first
          | (with_reducible show At 66 _ 29 _ _ _ _)
          | (refine go 60 (by decide) ?_; simp only [KX, KY, KZ, KW, KV, Nat.reduceAdd, Nat.reduceSub, Nat.reduceLeDiff, true_and, and_true, true_or, or_true, or_self, reduceCtorEq, if_true, if_false, not_false_eq_true, eq_self, c66, H.e2, H.e6, (hs6 _).e2, (hs6 _).e3, (hs6 _).e4, (hs6 _).e6, ma_set_set, ai_at])
        refine go 60 (by decide) ?_
        simp only [KX, KY, KZ, KW, KV, Nat.reduceAdd, Nat.reduceSub, Nat.reduceLeDiff, true_and, and_true, true_or, or_true, or_self, reduceCtorEq, if_true, if_false, not_false_eq_true, eq_self, c66, H.e2, H.e6, (hs6 _).e2, (hs6 _).e3, (hs6 _).e4, (hs6 _).e6, ma_set_set, ai_at]
        rw [kc]
        refine ⟨nI_in (show k < 201 by omega) (by decide), ?_⟩
        rw [show cv (qt b n i) = -1 by rw [eq]; exact if_neg (by omega), show nI (cs (qt b n i)) = 264 by rw [eq]; unfold cs; rw [if_neg (by omega)]; rfl] at k0
        rw [ai_ne _ _ (show 4 ≠ 6 by decide)]
        exact k0
  · have l0 : nL b n i = 0 := by omega
    rw [if_pos (show nI (nL b n i) ≤ 0 by rw [l0]; decide)]
    have dn := run_le isD b n 201 i
    have dn : nD b n i ≤ n - i := dn
    by_cases d : 0 < nD b n i
    · rw [if_neg (show ¬ nI (nD b n i) ≤ 0 from nI_ge (a := 0) d (by omega))]
      by_cases e : nD b n i ≤ 3
      · have eq : qt b n i = 3000 + numF b i (nD b n i) := by unfold qt; rw [if_pos hi, if_neg l, if_pos d, if_pos e]
        have nf := numF_lt (b := b) (i := i) (nD b n i) (fun j hj => (isD_ok (run_all (n := n) _ _ _ hj)).2)
        have nf2 : 10 ^ nD b n i ≤ 10 ^ 3 := Nat.pow_le_pow_right (by decide) e
        rw [if_pos (show nI (nD b n i) ≤ (3 : Int32) from nI_le (b := 3) e (by decide))]
        refine s67 (X6 _) e (by omega) (fun j hj => isD_ok (run_all (n := n) _ _ _ hj)) ?_
        first
          | (with_reducible show At 66 _ 45 _ _ _ _)
          | (refine go 60 (by decide) ?_; simp only [KX, KY, KZ, KW, KV, Nat.reduceAdd, Nat.reduceSub, Nat.reduceLeDiff, true_and, and_true, true_or, or_true, or_self, reduceCtorEq, if_true, if_false, not_false_eq_true, eq_self, c66, H.e2, H.e6, (hs6 _).e2, (hs6 _).e3, (hs6 _).e4, (hs6 _).e6, ma_set_set, ai_at])
        first
          | (with_reducible show At 66 _ 45 _ _ _ _)
          | (refine go 60 (by decide) ?_; simp only [KX, KY, KZ, KW, KV, Nat.reduceAdd, Nat.reduceSub, Nat.reduceLeDiff, true_and, and_true, true_or, or_true, or_self, reduceCtorEq, if_true, if_false, not_false_eq_true, eq_self, c66, H.e2, H.e6, (hs6 _).e2, (hs6 _).e3, (hs6 _).e4, (hs6 _).e6, ma_set_set, ai_at])
        first
          | (with_reducible show At 66 _ 45 _ _ _ _)
          | (refine go 60 (by decide) ?_; simp only [KX, KY, KZ, KW, KV, Nat.reduceAdd, Nat.reduceSub, Nat.reduceLeDiff, true_and, and_true, true_or, or_true, or_self, reduceCtorEq, if_true, if_false, not_false_eq_true, eq_self, c66, H.e2, H.e6, (hs6 _).e2, (hs6 _).e3, (hs6 _).e4, (hs6 _).e6, ma_set_set, ai_at])
        refine go 60 (by decide) ?_
        simp only [KX, KY, KZ, KW, KV, Nat.reduceAdd, Nat.reduceSub, Nat.reduceLeDiff, true_and, and_true, true_or, or_true, or_self, reduceCtorEq, if_true, if_false, not_false_eq_true, eq_self, c66, H.e2, H.e6, (hs6 _).e2, (hs6 _).e3, (hs6 _).e4, (hs6 _).e6, ma_set_set, ai_at]
        rw [kc, uu]
        refine ⟨nI_in (show k < 201 by omega) (by decide), nI_in (show k < 201 by omega) (by decide), ?_⟩
        rw [ua, if_neg (nI_pos (show numF b i (nD b n i) < 2 ^ 31 by omega))]
        first
          | (with_reducible show At 66 _ 57 _ _ _ _)
          | (refine go 60 (by decide) ?_; simp only [KX, KY, KZ, KW, KV, Nat.reduceAdd, Nat.reduceSub, Nat.reduceLeDiff, true_and, and_true, true_or, or_true, or_self, reduceCtorEq, if_true, if_false, not_false_eq_true, eq_self, c66, H.e2, H.e6, (hs6 _).e2, (hs6 _).e3, (hs6 _).e4, (hs6 _).e6, ma_set_set, ai_at])
        first
          | (with_reducible show At 66 _ 57 _ _ _ _)
          | (refine go 60 (by decide) ?_; simp only [KX, KY, KZ, KW, KV, Nat.reduceAdd, Nat.reduceSub, Nat.reduceLeDiff, true_and, and_true, true_or, or_true, or_self, reduceCtorEq, if_true, if_false, not_false_eq_true, eq_self, c66, H.e2, H.e6, (hs6 _).e2, (hs6 _).e3, (hs6 _).e4, (hs6 _).e6, ma_set_set, ai_at])
        first
          | (with_reducible show At 66 _ 57 _ _ _ _)
          | (refine go 60 (by decide) ?_; simp only [KX, KY, KZ, KW, KV, Nat.reduceAdd, Nat.reduceSub, Nat.reduceLeDiff, true_and, and_true, true_or, or_true, or_self, reduceCtorEq, if_true, if_false, not_false_eq_true, eq_self, c66, H.e2, H.e6, (hs6 _).e2, (hs6 _).e3, (hs6 _).e4, (hs6 _).e6, ma_set_set, ai_at])
        refine go 60 (by decide) ?_
        simp only [KX, KY, KZ, KW, KV, Nat.reduceAdd, Nat.reduceSub, Nat.reduceLeDiff, true_and, and_true, true_or, or_true, or_self, reduceCtorEq, if_true, if_false, not_false_eq_true, eq_self, c66, H.e2, H.e6, (hs6 _).e2, (hs6 _).e3, (hs6 _).e4, (hs6 _).e6, ma_set_set, ai_at]
        rw [kc]
        refine ⟨nI_in (show k < 201 by omega) (by decide), ?_⟩
        rw [show cv (qt b n i) = nI (numF b i (nD b n i)) by rw [eq]; unfold cv; rw [if_pos (by omega), Nat.add_sub_cancel_left], show nI (cs (qt b n i)) = 263 by rw [eq]; unfold cs; rw [if_pos (by omega)]; rfl] at k0
        rw [ai_ne _ _ (show 4 ≠ 6 by decide)]
        exact k0
      · have eq : qt b n i = 264 := by unfold qt; rw [if_pos hi, if_neg l, if_pos d, if_neg e]
        rw [if_neg (show ¬ nI (nD b n i) ≤ (3 : Int32) from nI_ge (a := 3) (by omega) (by omega))]
        first
          | (with_reducible show At 66 _ 45 _ _ _ _)
          | (refine go 60 (by decide) ?_; simp only [KX, KY, KZ, KW, KV, Nat.reduceAdd, Nat.reduceSub, Nat.reduceLeDiff, true_and, and_true, true_or, or_true, or_self, reduceCtorEq, if_true, if_false, not_false_eq_true, eq_self, c66, H.e2, H.e6, (hs6 _).e2, (hs6 _).e3, (hs6 _).e4, (hs6 _).e6, ma_set_set, ai_at])
        first
          | (with_reducible show At 66 _ 45 _ _ _ _)
          | (refine go 60 (by decide) ?_; simp only [KX, KY, KZ, KW, KV, Nat.reduceAdd, Nat.reduceSub, Nat.reduceLeDiff, true_and, and_true, true_or, or_true, or_self, reduceCtorEq, if_true, if_false, not_false_eq_true, eq_self, c66, H.e2, H.e6, (hs6 _).e2, (hs6 _).e3, (hs6 _).e4, (hs6 _).e6, ma_set_set, ai_at])
        first
          | (with_reducible show At 66 _ 45 _ _ _ _)
          | (refine go 60 (by decide) ?_; simp only [KX, KY, KZ, KW, KV, Nat.reduceAdd, Nat.reduceSub, Nat.reduceLeDiff, true_and, and_true, true_or, or_true, or_self, reduceCtorEq, if_true, if_false, not_false_eq_true, eq_self, c66, H.e2, H.e6, (hs6 _).e2, (hs6 _).e3, (hs6 _).e4, (hs6 _).e6, ma_set_set, ai_at])
        refine go 60 (by decide) ?_
        simp only [KX, KY, KZ, KW, KV, Nat.reduceAdd, Nat.reduceSub, Nat.reduceLeDiff, true_and, and_true, true_or, or_true, or_self, reduceCtorEq, if_true, if_false, not_false_eq_true, eq_self, c66, H.e2, H.e6, (hs6 _).e2, (hs6 _).e3, (hs6 _).e4, (hs6 _).e6, ma_set_set, ai_at]
        rw [kc, uu]
        refine ⟨nI_in (show k < 201 by omega) (by decide), nI_in (show k < 201 by omega) (by decide), ?_⟩
        rw [ua, if_pos (show (-1 : Int32) < 0 by decide)]
        first
          | (with_reducible show At 66 _ 57 _ _ _ _)
          | (refine go 60 (by decide) ?_; simp only [KX, KY, KZ, KW, KV, Nat.reduceAdd, Nat.reduceSub, Nat.reduceLeDiff, true_and, and_true, true_or, or_true, or_self, reduceCtorEq, if_true, if_false, not_false_eq_true, eq_self, c66, H.e2, H.e6, (hs6 _).e2, (hs6 _).e3, (hs6 _).e4, (hs6 _).e6, ma_set_set, ai_at])
        first
          | (with_reducible show At 66 _ 57 _ _ _ _)
          | (refine go 60 (by decide) ?_; simp only [KX, KY, KZ, KW, KV, Nat.reduceAdd, Nat.reduceSub, Nat.reduceLeDiff, true_and, and_true, true_or, or_true, or_self, reduceCtorEq, if_true, if_false, not_false_eq_true, eq_self, c66, H.e2, H.e6, (hs6 _).e2, (hs6 _).e3, (hs6 _).e4, (hs6 _).e6, ma_set_set, ai_at])
        first
          | (with_reducible show At 66 _ 57 _ _ _ _)
          | (refine go 60 (by decide) ?_; simp only [KX, KY, KZ, KW, KV, Nat.reduceAdd, Nat.reduceSub, Nat.reduceLeDiff, true_and, and_true, true_or, or_true, or_self, reduceCtorEq, if_true, if_false, not_false_eq_true, eq_self, c66, H.e2, H.e6, (hs6 _).e2, (hs6 _).e3, (hs6 _).e4, (hs6 _).e6, ma_set_set, ai_at])
        refine go 60 (by decide) ?_
        simp only [KX, KY, KZ, KW, KV, Nat.reduceAdd, Nat.reduceSub, Nat.reduceLeDiff, true_and, and_true, true_or, or_true, or_self, reduceCtorEq, if_true, if_false, not_false_eq_true, eq_self, c66, H.e2, H.e6, (hs6 _).e2, (hs6 _).e3, (hs6 _).e4, (hs6 _).e6, ma_set_set, ai_at]
        rw [kc]
        refine ⟨nI_in (show k < 201 by omega) (by decide), ?_⟩
        rw [show cv (qt b n i) = -1 by rw [eq]; rfl, show nI (cs (qt b n i)) = 264 by rw [eq]; rfl] at k0
        rw [ai_ne _ _ (show 4 ≠ 6 by decide)]
        exact k0
    · have d0 : nD b n i = 0 := by omega
      have bi := X.2.2.2.2 i
      have eq : qt b n i = b i := by unfold qt; rw [if_pos hi, if_neg l, if_neg d]
      rw [if_pos (show nI (nD b n i) ≤ 0 by rw [d0]; decide)]
      rw [nI_clamp (show i < 2 ^ 31 by omega), ai_ne _ _ (show 3 ≠ 6 by decide), X.2.2.2.1 i hi, (sb_t (b i) bi).2.2.2.1]
      refine ⟨nI_in (show i < 200 by omega) (by decide), nI_in (show k < 201 by omega) (by decide), ?_⟩
      rw [show cv (qt b n i) = -1 by rw [eq]; exact if_neg (by omega), show nI (cs (qt b n i)) = nI (b i) by rw [eq]; unfold cs; rw [if_neg (by omega)]] at k0
      rw [ai_ne _ _ (show 4 ≠ 6 by decide)]
      exact k0
