/-! law: the Model keeps a LAW -/
theorem b191 {h : ma_H} {Q : ma_Q} (H : Sh h) {c m : Nat} (e28 : fi h 80 28 = nI m) (m2 : m ≤ 200) (e14 : fi h 80 14 = nI c) (k : Q (some (.int (nI c))) (ma_set h 93 (.inl (.int, 200, .inl (upN (ai h 93) (fun c => c) (ai h 96) m))))) : At 191 Q 55 (0, 0) [some (.ref 80), some (.int (nI c)), some (.int (nI 0))] [] h := by
  have hs : ∀ g, Sh (ma_set h 93 (.inl (.int, 200, .inl g))) := fun g => sh_set H rfl
  have lp : ∀ ni i, i + ni = m → At 191 Q 55 (0, 0) [some (.ref 80), some (.int (nI c)), some (.int (nI i))] [] (ma_set h 93 (.inl (.int, 200, .inl (upN (ai h 93) (fun c => c) (ai h 96) i)))) := by
    intro ni
    induction ni with
    | zero =>
      intro i e
      obtain rfl : i = m := by omega
      refine go 60 (by decide) ?_
      simp only [KX, KY, KZ, KW, KV, Nat.reduceAdd, Nat.reduceSub, Nat.reduceLeDiff, true_and, and_true, true_or, or_true, or_self, reduceCtorEq, if_true, if_false, not_false_eq_true, eq_self, c191, (hs _).e80, (hs _).e92, (hs _).e93, (hs _).e96, (hs _).e99, List.set_cons_succ, List.set_cons_zero]
      rw [show fi (ma_set h 93 (.inl (.int, 200, .inl (upN (ai h 93) (fun c => c) (ai h 96) i)))) 80 28 = nI i from e28, if_neg (nI_nlt (Nat.le_refl _) (by omega))]
      try (refine go 60 (by decide) ?_; simp only [KX, KY, KZ, KW, KV, Nat.reduceAdd, Nat.reduceSub, Nat.reduceLeDiff, true_and, and_true, true_or, or_true, or_self, reduceCtorEq, if_true, if_false, not_false_eq_true, eq_self, c191, (hs _).e80, (hs _).e92, (hs _).e93, (hs _).e96, (hs _).e99, List.set_cons_succ, List.set_cons_zero])
      rw [show fi (ma_set h 93 (.inl (.int, 200, .inl (upN (ai h 93) (fun c => c) (ai h 96) i)))) 80 14 = nI c from e14]
      exact k
    | succ ni ih =>
      intro i e
      have hi : i < m := by omega
      have e1i := nI_1 i
      refine go 60 (by decide) ?_
      simp only [KX, KY, KZ, KW, KV, Nat.reduceAdd, Nat.reduceSub, Nat.reduceLeDiff, true_and, and_true, true_or, or_true, or_self, reduceCtorEq, if_true, if_false, not_false_eq_true, eq_self, c191, (hs _).e80, (hs _).e92, (hs _).e93, (hs _).e96, (hs _).e99, List.set_cons_succ, List.set_cons_zero]
      rw [show fi (ma_set h 93 (.inl (.int, 200, .inl (upN (ai h 93) (fun c => c) (ai h 96) i)))) 80 28 = nI m from e28, if_pos (nI_lt hi (by omega)), nI_clamp (show i < 2 ^ 31 by omega)]
      try (refine go 60 (by decide) ?_; simp only [KX, KY, KZ, KW, KV, Nat.reduceAdd, Nat.reduceSub, Nat.reduceLeDiff, true_and, and_true, true_or, or_true, or_self, reduceCtorEq, if_true, if_false, not_false_eq_true, eq_self, c191, (hs _).e80, (hs _).e92, (hs _).e93, (hs _).e96, (hs _).e99, List.set_cons_succ, List.set_cons_zero])
      try rw [nI_clamp (show i < 2 ^ 31 by omega)]
      rw [ma_set_set, e1i]
      refine ⟨nI_in (show i < 200 by omega) (by decide), nI_in (show i < 200 by omega) (by decide), ?_⟩
      exact ih (i + 1) (by omega)
  have l0 := lp m 0 (Nat.zero_add _)
  rw [show ma_set h 93 (.inl (.int, 200, .inl (upN (ai h 93) (fun c => c) (ai h 96) 0))) = h from ma_set_id H.e93] at l0
  exact l0
theorem d191 {h : ma_H} {Q : ma_Q} (H : Sh h) {c m : Nat} (e28 : fi h 80 28 = nI m) (m2 : m ≤ 200) (e14 : fi h 80 14 = nI c) (k : Q (some (.int (nI c))) (ma_set (ma_set h 92 (.inl (.int, 24, .inl (upN (ai h 92) (fun c => c) (ai h 99) 24)))) 93 (.inl (.int, 200, .inl (upN (ai h 93) (fun c => c) (ai h 96) m))))) : At 191 Q 40 (0, 0) [some (.ref 80), some (.int (nI c)), some (.int 0)] [] h := by
  have hs : ∀ g, Sh (ma_set h 92 (.inl (.int, 24, .inl g))) := fun g => sh_set H rfl
  have lp : ∀ ni i, i + ni = 24 → At 191 Q 40 (0, 0) [some (.ref 80), some (.int (nI c)), some (.int (nI i))] [] (ma_set h 92 (.inl (.int, 24, .inl (upN (ai h 92) (fun c => c) (ai h 99) i)))) := by
    intro ni
    induction ni with
    | zero =>
      intro i e
      obtain rfl : i = 24 := by omega
      refine go 60 (by decide) ?_
      simp only [KX, KY, KZ, KW, KV, Nat.reduceAdd, Nat.reduceSub, Nat.reduceLeDiff, true_and, and_true, true_or, or_true, or_self, reduceCtorEq, if_true, if_false, not_false_eq_true, eq_self, c191, (hs _).e80, (hs _).e92, (hs _).e93, (hs _).e96, (hs _).e99, List.set_cons_succ, List.set_cons_zero]
      rw [if_neg (show ¬ nI 24 < (24 : Int32) by decide)]
      first
        | (with_reducible show At 191 _ 55 _ _ _ _)
        | (refine go 60 (by decide) ?_; simp only [KX, KY, KZ, KW, KV, Nat.reduceAdd, Nat.reduceSub, Nat.reduceLeDiff, true_and, and_true, true_or, or_true, or_self, reduceCtorEq, if_true, if_false, not_false_eq_true, eq_self, c191, (hs _).e80, (hs _).e92, (hs _).e93, (hs _).e96, (hs _).e99, List.set_cons_succ, List.set_cons_zero])
      first
        | (with_reducible show At 191 _ 55 _ _ _ _)
        | (refine go 60 (by decide) ?_; simp only [KX, KY, KZ, KW, KV, Nat.reduceAdd, Nat.reduceSub, Nat.reduceLeDiff, true_and, and_true, true_or, or_true, or_self, reduceCtorEq, if_true, if_false, not_false_eq_true, eq_self, c191, (hs _).e80, (hs _).e92, (hs _).e93, (hs _).e96, (hs _).e99, List.set_cons_succ, List.set_cons_zero])
      exact b191 (hs _) (c := c) (m := m) e28 m2 e14 k
    | succ ni ih =>
      intro i e
      have hi : i < 24 := by omega
      have e1i := nI_1 i
      refine go 60 (by decide) ?_
      simp only [KX, KY, KZ, KW, KV, Nat.reduceAdd, Nat.reduceSub, Nat.reduceLeDiff, true_and, and_true, true_or, or_true, or_self, reduceCtorEq, if_true, if_false, not_false_eq_true, eq_self, c191, (hs _).e80, (hs _).e92, (hs _).e93, (hs _).e96, (hs _).e99, List.set_cons_succ, List.set_cons_zero]
      rw [if_pos (show nI i < (24 : Int32) from nI_lt (b := 24) hi (by decide)), nI_clamp (show i < 2 ^ 31 by omega)]
      try (refine go 60 (by decide) ?_; simp only [KX, KY, KZ, KW, KV, Nat.reduceAdd, Nat.reduceSub, Nat.reduceLeDiff, true_and, and_true, true_or, or_true, or_self, reduceCtorEq, if_true, if_false, not_false_eq_true, eq_self, c191, (hs _).e80, (hs _).e92, (hs _).e93, (hs _).e96, (hs _).e99, List.set_cons_succ, List.set_cons_zero])
      try rw [nI_clamp (show i < 2 ^ 31 by omega)]
      rw [ma_set_set, e1i]
      refine ⟨nI_in hi (by decide), nI_in hi (by decide), ?_⟩
      exact ih (i + 1) (by omega)
  have l0 := lp 24 0 rfl
  rw [show ma_set h 92 (.inl (.int, 24, .inl (upN (ai h 92) (fun c => c) (ai h 99) 0))) = h from ma_set_id H.e92] at l0
  exact l0
