/-! odds: the Model -/
theorem s230 {h : ma_H} {Q : ma_Q} {g K : Nat → Int32} {A c ms : Nat} (H : Sh h) (R : Rt h) (hA : A + 91 ≤ 910) (hc : c < 91) (eg : ∀ i, i < 91 → g (ma_cell i) = ai h 88 (A + i)) (kw : ∀ i, i < 91 → ai h 101 i = K i) (k01 : ∀ i, K i = 0 ∨ K i = 1) (em : fi h 80 11 = nI ms) (m4 : ms ≤ 4) (k : Q (some (.long (lN (Ao g K ms c)))) h) : ma_X 230 [.ref 80, .int (nI A), .int (nI c)] h Q := by
  have lp : ∀ n t, t + n = 6 → At 230 Q 8 (0, 0) [some (.ref 80), some (.int (nI A)), some (.int (nI c)), some (.int (nI (sn (fun t => hbn g (m_imN c t)) t))), some (.int (nI (sn (fun t => kbn K (m_imN c t)) t))), some (.int (nI (m_imN c t))), some (.int (nI t)), none] [] h := by
    intro n
    induction n with
    | zero =>
      intro t et
      obtain rfl : t = 6 := by omega
      have h6 : sx (hbn g) c ≤ 6 := sx6 (hbn1 g) c
      have c6 : sx (kbn K) c ≤ 6 := sx6 (kbn1 K) c
      show At 230 Q 8 (0, 0) [some (.ref 80), some (.int (nI A)), some (.int (nI c)), some (.int (nI (sx (hbn g) c))), some (.int (nI (sx (kbn K) c))), some (.int (nI (m_imN c 6))), some (.int (nI 6)), none] [] h
      unfold Ao AL at k
      generalize sx (hbn g) c = hh at h6 k ⊢
      generalize sx (kbn K) c = cc at c6 k ⊢
      refine go 60 (by decide) ?_
      simp only [KX, KY, KZ, KW, KV, Nat.reduceAdd, Nat.reduceSub, Nat.reduceLeDiff, true_and, and_true, true_or, or_true, or_self, reduceCtorEq, if_true, if_false, not_false_eq_true, eq_self, c230, H.e80, H.e84, H.e101, em, show lN ((1 : Fin 2).val) = lN 1 from rfl, show lN ((0 : Fin 2).val) = lN 0 from rfl]
      rw [if_neg (show ¬ nI 6 < (6 : Int32) from nI_nlt (Nat.le_refl _) (by decide)), nI_add]
      by_cases d : hh + cc = 6
      · rw [if_pos d] at k
        rw [if_pos (show nI (hh + cc) = 6 by rw [d]; rfl), four_sub ms (by omega), nI_i64 (show 4 - ms < 2 ^ 31 by omega)]
        refine s229 (show cc < 100 by omega) ?_
        first
          | (with_reducible show At 230 _ 54 _ _ _ _)
          | (refine go 60 (by decide) ?_; simp only [KX, KY, KZ, KW, KV, Nat.reduceAdd, Nat.reduceSub, Nat.reduceLeDiff, true_and, and_true, true_or, or_true, or_self, reduceCtorEq, if_true, if_false, not_false_eq_true, eq_self, c230, H.e80, H.e84, H.e101, em, show lN ((1 : Fin 2).val) = lN 1 from rfl, show lN ((0 : Fin 2).val) = lN 0 from rfl])
        first
          | (with_reducible show At 230 _ 54 _ _ _ _)
          | (refine go 60 (by decide) ?_; simp only [KX, KY, KZ, KW, KV, Nat.reduceAdd, Nat.reduceSub, Nat.reduceLeDiff, true_and, and_true, true_or, or_true, or_self, reduceCtorEq, if_true, if_false, not_false_eq_true, eq_self, c230, H.e80, H.e84, H.e101, em, show lN ((1 : Fin 2).val) = lN 1 from rfl, show lN ((0 : Fin 2).val) = lN 0 from rfl])
        first
          | (with_reducible show At 230 _ 54 _ _ _ _)
          | (refine go 60 (by decide) ?_; simp only [KX, KY, KZ, KW, KV, Nat.reduceAdd, Nat.reduceSub, Nat.reduceLeDiff, true_and, and_true, true_or, or_true, or_self, reduceCtorEq, if_true, if_false, not_false_eq_true, eq_self, c230, H.e80, H.e84, H.e101, em, show lN ((1 : Fin 2).val) = lN 1 from rfl, show lN ((0 : Fin 2).val) = lN 0 from rfl])
        refine go 60 (by decide) ?_
        simp only [KX, KY, KZ, KW, KV, Nat.reduceAdd, Nat.reduceSub, Nat.reduceLeDiff, true_and, and_true, true_or, or_true, or_self, reduceCtorEq, if_true, if_false, not_false_eq_true, eq_self, c230, H.e80, H.e84, H.e101, em, show lN ((1 : Fin 2).val) = lN 1 from rfl, show lN ((0 : Fin 2).val) = lN 0 from rfl]
        by_cases e : hh = 0
        · rw [if_pos e] at k
          rw [if_pos (show nI hh ≤ 0 by rw [e]; decide), nI_i64 (show ms < 2 ^ 31 by omega)]
          refine s229 (show cc < 100 by omega) ?_
          refine go 60 (by decide) ?_
          simp only [KX, KY, KZ, KW, KV, Nat.reduceAdd, Nat.reduceSub, Nat.reduceLeDiff, true_and, and_true, true_or, or_true, or_self, reduceCtorEq, if_true, if_false, not_false_eq_true, eq_self, c230, H.e80, H.e84, H.e101, em, show lN ((1 : Fin 2).val) = lN 1 from rfl, show lN ((0 : Fin 2).val) = lN 0 from rfl]
          rw [lN_add, Nat.add_comm]
          exact k
        · rw [if_neg e] at k
          rw [if_neg (show ¬ nI hh ≤ 0 from nI_ge (a := 0) (by omega) (by omega))]
          rw [Nat.zero_add] at k
          exact k
      · rw [if_neg d] at k
        rw [if_neg (show ¬ nI (hh + cc) = 6 from fun z => d ((nI_eq (by omega) (by decide)).mp (show nI (hh + cc) = nI 6 from z)))]
        first
          | (with_reducible show At 230 _ 54 _ _ _ _)
          | (refine go 60 (by decide) ?_; simp only [KX, KY, KZ, KW, KV, Nat.reduceAdd, Nat.reduceSub, Nat.reduceLeDiff, true_and, and_true, true_or, or_true, or_self, reduceCtorEq, if_true, if_false, not_false_eq_true, eq_self, c230, H.e80, H.e84, H.e101, em, show lN ((1 : Fin 2).val) = lN 1 from rfl, show lN ((0 : Fin 2).val) = lN 0 from rfl])
        first
          | (with_reducible show At 230 _ 54 _ _ _ _)
          | (refine go 60 (by decide) ?_; simp only [KX, KY, KZ, KW, KV, Nat.reduceAdd, Nat.reduceSub, Nat.reduceLeDiff, true_and, and_true, true_or, or_true, or_self, reduceCtorEq, if_true, if_false, not_false_eq_true, eq_self, c230, H.e80, H.e84, H.e101, em, show lN ((1 : Fin 2).val) = lN 1 from rfl, show lN ((0 : Fin 2).val) = lN 0 from rfl])
        first
          | (with_reducible show At 230 _ 54 _ _ _ _)
          | (refine go 60 (by decide) ?_; simp only [KX, KY, KZ, KW, KV, Nat.reduceAdd, Nat.reduceSub, Nat.reduceLeDiff, true_and, and_true, true_or, or_true, or_self, reduceCtorEq, if_true, if_false, not_false_eq_true, eq_self, c230, H.e80, H.e84, H.e101, em, show lN ((1 : Fin 2).val) = lN 1 from rfl, show lN ((0 : Fin 2).val) = lN 0 from rfl])
        refine go 60 (by decide) ?_
        simp only [KX, KY, KZ, KW, KV, Nat.reduceAdd, Nat.reduceSub, Nat.reduceLeDiff, true_and, and_true, true_or, or_true, or_self, reduceCtorEq, if_true, if_false, not_false_eq_true, eq_self, c230, H.e80, H.e84, H.e101, em, show lN ((1 : Fin 2).val) = lN 1 from rfl, show lN ((0 : Fin 2).val) = lN 0 from rfl]
        by_cases e : hh = 0
        · rw [if_pos e] at k
          rw [if_pos (show nI hh ≤ 0 by rw [e]; decide), nI_i64 (show ms < 2 ^ 31 by omega)]
          refine s229 (show cc < 100 by omega) ?_
          refine go 60 (by decide) ?_
          simp only [KX, KY, KZ, KW, KV, Nat.reduceAdd, Nat.reduceSub, Nat.reduceLeDiff, true_and, and_true, true_or, or_true, or_self, reduceCtorEq, if_true, if_false, not_false_eq_true, eq_self, c230, H.e80, H.e84, H.e101, em, show lN ((1 : Fin 2).val) = lN 1 from rfl, show lN ((0 : Fin 2).val) = lN 0 from rfl]
          rw [lN_add, Nat.add_comm]
          exact k
        · rw [if_neg e] at k
          rw [if_neg (show ¬ nI hh ≤ 0 from nI_ge (a := 0) (by omega) (by omega))]
          rw [Nat.zero_add] at k
          exact k
    | succ n jh =>
      intro t et
      have ht : t < 6 := by omega
      have hm : m_imN c t < 91 := m_imN_lt hc t
      have e84 : ai h 84 (m_imN c t) = nI (m_imN c (t + 1)) := (R.1 _ hm).2.2.2.1
      refine go 60 (by decide) ?_
      simp only [KX, KY, KZ, KW, KV, Nat.reduceAdd, Nat.reduceSub, Nat.reduceLeDiff, true_and, and_true, true_or, or_true, or_self, reduceCtorEq, if_true, if_false, not_false_eq_true, eq_self, c230, H.e80, H.e84, H.e101, em, show lN ((1 : Fin 2).val) = lN 1 from rfl, show lN ((0 : Fin 2).val) = lN 0 from rfl]
      rw [if_pos (show nI t < (6 : Int32) from nI_lt ht (by decide))]
      refine s172 (A := A) H.e80 rfl H.e88 (by omega) ?_
      by_cases z : ai h 88 (A + m_imN c t) < 0
      · rw [show fl_has (ai h 88) (A + m_imN c t) = 0 from if_pos z]
        have eh : nI (sn (fun t => hbn g (m_imN c t)) (t + 1)) = nI (sn (fun t => hbn g (m_imN c t)) t) + 0 := by
          show nI (sn (fun t => hbn g (m_imN c t)) t + hbn g (m_imN c t)) = _
          rw [show hbn g (m_imN c t) = 0 from if_pos (by rw [eg _ hm]; exact z), ← nI_add]
          rfl
        first
          | (with_reducible show At 230 _ 20 _ _ _ _)
          | (refine go 60 (by decide) ?_; simp only [KX, KY, KZ, KW, KV, Nat.reduceAdd, Nat.reduceSub, Nat.reduceLeDiff, true_and, and_true, true_or, or_true, or_self, reduceCtorEq, if_true, if_false, not_false_eq_true, eq_self, c230, H.e80, H.e84, H.e101, em, show lN ((1 : Fin 2).val) = lN 1 from rfl, show lN ((0 : Fin 2).val) = lN 0 from rfl])
        first
          | (with_reducible show At 230 _ 20 _ _ _ _)
          | (refine go 60 (by decide) ?_; simp only [KX, KY, KZ, KW, KV, Nat.reduceAdd, Nat.reduceSub, Nat.reduceLeDiff, true_and, and_true, true_or, or_true, or_self, reduceCtorEq, if_true, if_false, not_false_eq_true, eq_self, c230, H.e80, H.e84, H.e101, em, show lN ((1 : Fin 2).val) = lN 1 from rfl, show lN ((0 : Fin 2).val) = lN 0 from rfl])
        first
          | (with_reducible show At 230 _ 20 _ _ _ _)
          | (refine go 60 (by decide) ?_; simp only [KX, KY, KZ, KW, KV, Nat.reduceAdd, Nat.reduceSub, Nat.reduceLeDiff, true_and, and_true, true_or, or_true, or_self, reduceCtorEq, if_true, if_false, not_false_eq_true, eq_self, c230, H.e80, H.e84, H.e101, em, show lN ((1 : Fin 2).val) = lN 1 from rfl, show lN ((0 : Fin 2).val) = lN 0 from rfl])
        refine go 60 (by decide) ?_
        simp only [KX, KY, KZ, KW, KV, Nat.reduceAdd, Nat.reduceSub, Nat.reduceLeDiff, true_and, and_true, true_or, or_true, or_self, reduceCtorEq, if_true, if_false, not_false_eq_true, eq_self, c230, H.e80, H.e84, H.e101, em, show lN ((1 : Fin 2).val) = lN 1 from rfl, show lN ((0 : Fin 2).val) = lN 0 from rfl]
        rw [nI_clamp (show m_imN c t < 2 ^ 31 by omega), kw _ hm]
        refine ⟨nI_in hm (by decide), ?_⟩
        rcases k01 (m_imN c t) with y | y
        · rw [if_pos y]
          have ek : nI (sn (fun t => kbn K (m_imN c t)) (t + 1)) = nI (sn (fun t => kbn K (m_imN c t)) t) + 0 := by
            show nI (sn (fun t => kbn K (m_imN c t)) t + kbn K (m_imN c t)) = _
            rw [show kbn K (m_imN c t) = 0 from if_pos y, ← nI_add]
            rfl
          first
            | (with_reducible show At 230 _ 31 _ _ _ _)
            | (refine go 60 (by decide) ?_; simp only [KX, KY, KZ, KW, KV, Nat.reduceAdd, Nat.reduceSub, Nat.reduceLeDiff, true_and, and_true, true_or, or_true, or_self, reduceCtorEq, if_true, if_false, not_false_eq_true, eq_self, c230, H.e80, H.e84, H.e101, em, show lN ((1 : Fin 2).val) = lN 1 from rfl, show lN ((0 : Fin 2).val) = lN 0 from rfl])
          first
            | (with_reducible show At 230 _ 31 _ _ _ _)
            | (refine go 60 (by decide) ?_; simp only [KX, KY, KZ, KW, KV, Nat.reduceAdd, Nat.reduceSub, Nat.reduceLeDiff, true_and, and_true, true_or, or_true, or_self, reduceCtorEq, if_true, if_false, not_false_eq_true, eq_self, c230, H.e80, H.e84, H.e101, em, show lN ((1 : Fin 2).val) = lN 1 from rfl, show lN ((0 : Fin 2).val) = lN 0 from rfl])
          first
            | (with_reducible show At 230 _ 31 _ _ _ _)
            | (refine go 60 (by decide) ?_; simp only [KX, KY, KZ, KW, KV, Nat.reduceAdd, Nat.reduceSub, Nat.reduceLeDiff, true_and, and_true, true_or, or_true, or_self, reduceCtorEq, if_true, if_false, not_false_eq_true, eq_self, c230, H.e80, H.e84, H.e101, em, show lN ((1 : Fin 2).val) = lN 1 from rfl, show lN ((0 : Fin 2).val) = lN 0 from rfl])
          refine go 60 (by decide) ?_
          simp only [KX, KY, KZ, KW, KV, Nat.reduceAdd, Nat.reduceSub, Nat.reduceLeDiff, true_and, and_true, true_or, or_true, or_self, reduceCtorEq, if_true, if_false, not_false_eq_true, eq_self, c230, H.e80, H.e84, H.e101, em, show lN ((1 : Fin 2).val) = lN 1 from rfl, show lN ((0 : Fin 2).val) = lN 0 from rfl]
          rw [nI_clamp (show m_imN c t < 2 ^ 31 by omega), e84, nI_1 t]
          refine ⟨nI_in hm (by decide), ?_⟩
          have jh2 := jh (t + 1) (by omega)
          rw [eh, ek] at jh2
          exact At_le jh2 ⟨rfl, rfl, rfl, rfl, rfl, rfl, rfl, trivial⟩
        · rw [if_neg (show ¬ K (m_imN c t) = 0 by rw [y]; decide)]
          have ek : nI (sn (fun t => kbn K (m_imN c t)) (t + 1)) = nI (sn (fun t => kbn K (m_imN c t)) t) + 1 := by
            show nI (sn (fun t => kbn K (m_imN c t)) t + kbn K (m_imN c t)) = _
            rw [show kbn K (m_imN c t) = 1 from if_neg (by rw [y]; decide), ← nI_add]
            rfl
          first
            | (with_reducible show At 230 _ 31 _ _ _ _)
            | (refine go 60 (by decide) ?_; simp only [KX, KY, KZ, KW, KV, Nat.reduceAdd, Nat.reduceSub, Nat.reduceLeDiff, true_and, and_true, true_or, or_true, or_self, reduceCtorEq, if_true, if_false, not_false_eq_true, eq_self, c230, H.e80, H.e84, H.e101, em, show lN ((1 : Fin 2).val) = lN 1 from rfl, show lN ((0 : Fin 2).val) = lN 0 from rfl])
          first
            | (with_reducible show At 230 _ 31 _ _ _ _)
            | (refine go 60 (by decide) ?_; simp only [KX, KY, KZ, KW, KV, Nat.reduceAdd, Nat.reduceSub, Nat.reduceLeDiff, true_and, and_true, true_or, or_true, or_self, reduceCtorEq, if_true, if_false, not_false_eq_true, eq_self, c230, H.e80, H.e84, H.e101, em, show lN ((1 : Fin 2).val) = lN 1 from rfl, show lN ((0 : Fin 2).val) = lN 0 from rfl])
          first
            | (with_reducible show At 230 _ 31 _ _ _ _)
            | (refine go 60 (by decide) ?_; simp only [KX, KY, KZ, KW, KV, Nat.reduceAdd, Nat.reduceSub, Nat.reduceLeDiff, true_and, and_true, true_or, or_true, or_self, reduceCtorEq, if_true, if_false, not_false_eq_true, eq_self, c230, H.e80, H.e84, H.e101, em, show lN ((1 : Fin 2).val) = lN 1 from rfl, show lN ((0 : Fin 2).val) = lN 0 from rfl])
          refine go 60 (by decide) ?_
          simp only [KX, KY, KZ, KW, KV, Nat.reduceAdd, Nat.reduceSub, Nat.reduceLeDiff, true_and, and_true, true_or, or_true, or_self, reduceCtorEq, if_true, if_false, not_false_eq_true, eq_self, c230, H.e80, H.e84, H.e101, em, show lN ((1 : Fin 2).val) = lN 1 from rfl, show lN ((0 : Fin 2).val) = lN 0 from rfl]
          rw [nI_clamp (show m_imN c t < 2 ^ 31 by omega), e84, nI_1 t]
          refine ⟨nI_in hm (by decide), ?_⟩
          have jh2 := jh (t + 1) (by omega)
          rw [eh, ek] at jh2
          exact At_le jh2 ⟨rfl, rfl, rfl, rfl, rfl, rfl, rfl, trivial⟩
      · rw [show fl_has (ai h 88) (A + m_imN c t) = 1 from if_neg z]
        have eh : nI (sn (fun t => hbn g (m_imN c t)) (t + 1)) = nI (sn (fun t => hbn g (m_imN c t)) t) + 1 := by
          show nI (sn (fun t => hbn g (m_imN c t)) t + hbn g (m_imN c t)) = _
          rw [show hbn g (m_imN c t) = 1 from if_neg (by rw [eg _ hm]; exact z), ← nI_add]
          rfl
        first
          | (with_reducible show At 230 _ 20 _ _ _ _)
          | (refine go 60 (by decide) ?_; simp only [KX, KY, KZ, KW, KV, Nat.reduceAdd, Nat.reduceSub, Nat.reduceLeDiff, true_and, and_true, true_or, or_true, or_self, reduceCtorEq, if_true, if_false, not_false_eq_true, eq_self, c230, H.e80, H.e84, H.e101, em, show lN ((1 : Fin 2).val) = lN 1 from rfl, show lN ((0 : Fin 2).val) = lN 0 from rfl])
        first
          | (with_reducible show At 230 _ 20 _ _ _ _)
          | (refine go 60 (by decide) ?_; simp only [KX, KY, KZ, KW, KV, Nat.reduceAdd, Nat.reduceSub, Nat.reduceLeDiff, true_and, and_true, true_or, or_true, or_self, reduceCtorEq, if_true, if_false, not_false_eq_true, eq_self, c230, H.e80, H.e84, H.e101, em, show lN ((1 : Fin 2).val) = lN 1 from rfl, show lN ((0 : Fin 2).val) = lN 0 from rfl])
        first
          | (with_reducible show At 230 _ 20 _ _ _ _)
          | (refine go 60 (by decide) ?_; simp only [KX, KY, KZ, KW, KV, Nat.reduceAdd, Nat.reduceSub, Nat.reduceLeDiff, true_and, and_true, true_or, or_true, or_self, reduceCtorEq, if_true, if_false, not_false_eq_true, eq_self, c230, H.e80, H.e84, H.e101, em, show lN ((1 : Fin 2).val) = lN 1 from rfl, show lN ((0 : Fin 2).val) = lN 0 from rfl])
        refine go 60 (by decide) ?_
        simp only [KX, KY, KZ, KW, KV, Nat.reduceAdd, Nat.reduceSub, Nat.reduceLeDiff, true_and, and_true, true_or, or_true, or_self, reduceCtorEq, if_true, if_false, not_false_eq_true, eq_self, c230, H.e80, H.e84, H.e101, em, show lN ((1 : Fin 2).val) = lN 1 from rfl, show lN ((0 : Fin 2).val) = lN 0 from rfl]
        rw [nI_clamp (show m_imN c t < 2 ^ 31 by omega), kw _ hm]
        refine ⟨nI_in hm (by decide), ?_⟩
        rcases k01 (m_imN c t) with y | y
        · rw [if_pos y]
          have ek : nI (sn (fun t => kbn K (m_imN c t)) (t + 1)) = nI (sn (fun t => kbn K (m_imN c t)) t) + 0 := by
            show nI (sn (fun t => kbn K (m_imN c t)) t + kbn K (m_imN c t)) = _
            rw [show kbn K (m_imN c t) = 0 from if_pos y, ← nI_add]
            rfl
          first
            | (with_reducible show At 230 _ 31 _ _ _ _)
            | (refine go 60 (by decide) ?_; simp only [KX, KY, KZ, KW, KV, Nat.reduceAdd, Nat.reduceSub, Nat.reduceLeDiff, true_and, and_true, true_or, or_true, or_self, reduceCtorEq, if_true, if_false, not_false_eq_true, eq_self, c230, H.e80, H.e84, H.e101, em, show lN ((1 : Fin 2).val) = lN 1 from rfl, show lN ((0 : Fin 2).val) = lN 0 from rfl])
          first
            | (with_reducible show At 230 _ 31 _ _ _ _)
            | (refine go 60 (by decide) ?_; simp only [KX, KY, KZ, KW, KV, Nat.reduceAdd, Nat.reduceSub, Nat.reduceLeDiff, true_and, and_true, true_or, or_true, or_self, reduceCtorEq, if_true, if_false, not_false_eq_true, eq_self, c230, H.e80, H.e84, H.e101, em, show lN ((1 : Fin 2).val) = lN 1 from rfl, show lN ((0 : Fin 2).val) = lN 0 from rfl])
          first
            | (with_reducible show At 230 _ 31 _ _ _ _)
            | (refine go 60 (by decide) ?_; simp only [KX, KY, KZ, KW, KV, Nat.reduceAdd, Nat.reduceSub, Nat.reduceLeDiff, true_and, and_true, true_or, or_true, or_self, reduceCtorEq, if_true, if_false, not_false_eq_true, eq_self, c230, H.e80, H.e84, H.e101, em, show lN ((1 : Fin 2).val) = lN 1 from rfl, show lN ((0 : Fin 2).val) = lN 0 from rfl])
          refine go 60 (by decide) ?_
          simp only [KX, KY, KZ, KW, KV, Nat.reduceAdd, Nat.reduceSub, Nat.reduceLeDiff, true_and, and_true, true_or, or_true, or_self, reduceCtorEq, if_true, if_false, not_false_eq_true, eq_self, c230, H.e80, H.e84, H.e101, em, show lN ((1 : Fin 2).val) = lN 1 from rfl, show lN ((0 : Fin 2).val) = lN 0 from rfl]
          rw [nI_clamp (show m_imN c t < 2 ^ 31 by omega), e84, nI_1 t]
          refine ⟨nI_in hm (by decide), ?_⟩
          have jh2 := jh (t + 1) (by omega)
          rw [eh, ek] at jh2
          exact At_le jh2 ⟨rfl, rfl, rfl, rfl, rfl, rfl, rfl, trivial⟩
        · rw [if_neg (show ¬ K (m_imN c t) = 0 by rw [y]; decide)]
          have ek : nI (sn (fun t => kbn K (m_imN c t)) (t + 1)) = nI (sn (fun t => kbn K (m_imN c t)) t) + 1 := by
            show nI (sn (fun t => kbn K (m_imN c t)) t + kbn K (m_imN c t)) = _
            rw [show kbn K (m_imN c t) = 1 from if_neg (by rw [y]; decide), ← nI_add]
            rfl
          first
            | (with_reducible show At 230 _ 31 _ _ _ _)
            | (refine go 60 (by decide) ?_; simp only [KX, KY, KZ, KW, KV, Nat.reduceAdd, Nat.reduceSub, Nat.reduceLeDiff, true_and, and_true, true_or, or_true, or_self, reduceCtorEq, if_true, if_false, not_false_eq_true, eq_self, c230, H.e80, H.e84, H.e101, em, show lN ((1 : Fin 2).val) = lN 1 from rfl, show lN ((0 : Fin 2).val) = lN 0 from rfl])
          first
            | (with_reducible show At 230 _ 31 _ _ _ _)
            | (refine go 60 (by decide) ?_; simp only [KX, KY, KZ, KW, KV, Nat.reduceAdd, Nat.reduceSub, Nat.reduceLeDiff, true_and, and_true, true_or, or_true, or_self, reduceCtorEq, if_true, if_false, not_false_eq_true, eq_self, c230, H.e80, H.e84, H.e101, em, show lN ((1 : Fin 2).val) = lN 1 from rfl, show lN ((0 : Fin 2).val) = lN 0 from rfl])
          first
            | (with_reducible show At 230 _ 31 _ _ _ _)
            | (refine go 60 (by decide) ?_; simp only [KX, KY, KZ, KW, KV, Nat.reduceAdd, Nat.reduceSub, Nat.reduceLeDiff, true_and, and_true, true_or, or_true, or_self, reduceCtorEq, if_true, if_false, not_false_eq_true, eq_self, c230, H.e80, H.e84, H.e101, em, show lN ((1 : Fin 2).val) = lN 1 from rfl, show lN ((0 : Fin 2).val) = lN 0 from rfl])
          refine go 60 (by decide) ?_
          simp only [KX, KY, KZ, KW, KV, Nat.reduceAdd, Nat.reduceSub, Nat.reduceLeDiff, true_and, and_true, true_or, or_true, or_self, reduceCtorEq, if_true, if_false, not_false_eq_true, eq_self, c230, H.e80, H.e84, H.e101, em, show lN ((1 : Fin 2).val) = lN 1 from rfl, show lN ((0 : Fin 2).val) = lN 0 from rfl]
          rw [nI_clamp (show m_imN c t < 2 ^ 31 by omega), e84, nI_1 t]
          refine ⟨nI_in hm (by decide), ?_⟩
          have jh2 := jh (t + 1) (by omega)
          rw [eh, ek] at jh2
          exact At_le jh2 ⟨rfl, rfl, rfl, rfl, rfl, rfl, rfl, trivial⟩
  refine ma_enter (m := 230) (Or.inl (by decide)) (by show 3 ≤ mt_n 230; decide +kernel) ?_
  show At 230 Q 0 (mt_c 230) [some (.ref 80), some (.int (nI A)), some (.int (nI c)), none, none, none, none, none] [] h
  refine go 60 (by decide) ?_
  simp only [KX, KY, KZ, KW, KV, Nat.reduceAdd, Nat.reduceSub, Nat.reduceLeDiff, true_and, and_true, true_or, or_true, or_self, reduceCtorEq, if_true, if_false, not_false_eq_true, eq_self, c230]
  exact At_le (lp 6 0 rfl) ⟨rfl, rfl, rfl, rfl, rfl, rfl, rfl, trivial⟩
theorem s228 {h : ma_H} {Q : ma_Q} {a b : Nat} (H : Sh h) (ha : a < 2 ^ 63) (hb : b < 2 ^ 63) (b0 : 0 < b) (k : Q none (ma_set h 80 (.inr (12, [.ref 81, .ref 82, .ref 83, .ref 84, .ref 85, .ref 86, .ref 87, .ref 88, .ref 89, .int (fi h 80 9), .ref 90, .int (fi h 80 11), .int (fi h 80 12), .ref 91, .int (fi h 80 14), .ref 92, .ref 93, .ref 94, .int (fi h 80 18), .int (fi h 80 19), .int (fi h 80 20), .int (fi h 80 21), .long (fj h 80 22), .int (fi h 80 23), .int (fi h 80 24), .ref 95, .ref 96, .ref 97, .int (fi h 80 28), .int (fi h 80 29), .int (fi h 80 30), .ref 98, .ref 99, .ref 100, .ref 101, .long (lN (a / (Nat.gcd a b))), .long (lN (b / (Nat.gcd a b))), .ref 102, .ref 103, .ref 104, .ref 105, .int (fi h 80 41), .int (fi h 80 42), .ref 106, .ref 107, .ref 108, .ref 109, .ref 110, .ref 111, .int (fi h 80 49), .int (fi h 80 50), .int (fi h 80 51), .ref 112, .int (fi h 80 53), .int (fi h 80 54), .int (fi h 80 55), .ref 113, .int (fi h 80 57), .ref 114])))) : ma_X 228 [.ref 80, .long (lN a), .long (lN b)] h Q := by
  have lp : ∀ n x y, y ≤ n → x < 2 ^ 63 → y < 2 ^ 63 → Nat.gcd x y = Nat.gcd a b → At 228 Q 4 (0, 0) [some (.ref 80), some (.long (lN a)), none, some (.long (lN b)), none, some (.long (lN x)), none, some (.long (lN y)), none, none, none] [] h := by
    intro n
    induction n with
    | zero =>
      intro x y en hx hy eg
      obtain rfl : y = 0 := Nat.le_zero.mp en
      rw [Nat.gcd_zero_right] at eg
      have g0 : 0 < x := by rw [eg]; exact Nat.gcd_pos_of_pos_right a b0
      subst eg
      refine go 60 (by decide) ?_
      simp only [KX, KY, KZ, KW, KV, Nat.reduceAdd, Nat.reduceSub, Nat.reduceLeDiff, true_and, and_true, true_or, or_true, or_self, reduceCtorEq, if_true, if_false, not_false_eq_true, eq_self, c228, H.e80, ma_set_at, ma_set_set, List.set_cons_succ, List.set_cons_zero, show lN ((1 : Fin 2).val) = lN 1 from rfl, show lN ((0 : Fin 2).val) = lN 0 from rfl]
      rw [if_pos ((lg_cmp_eq _ _).mpr rfl), lN_div ha hx, lN_div hb hx]
      refine ⟨fun z => absurd ((lN_eqB hx (by decide)).mp (show lN _ = lN 0 from z)) (by omega), by simp only [List.length_cons, List.length_nil]; omega, trivial, fun z => absurd ((lN_eqB hx (by decide)).mp (show lN _ = lN 0 from z)) (by omega), by simp only [List.length_cons, List.length_nil]; omega, trivial, ?_⟩
      exact k
    | succ n ih =>
      intro x y en hx hy eg
      by_cases c : y = 0
      · subst c
        exact ih x 0 (Nat.zero_le _) hx hy eg
      · refine go 60 (by decide) ?_
        simp only [KX, KY, KZ, KW, KV, Nat.reduceAdd, Nat.reduceSub, Nat.reduceLeDiff, true_and, and_true, true_or, or_true, or_self, reduceCtorEq, if_true, if_false, not_false_eq_true, eq_self, c228, H.e80, ma_set_at, ma_set_set, List.set_cons_succ, List.set_cons_zero, show lN ((1 : Fin 2).val) = lN 1 from rfl, show lN ((0 : Fin 2).val) = lN 0 from rfl]
        rw [if_neg (fun z => c ((lN_eqB hy (by decide)).mp ((lg_cmp_eq _ _).mp z))), lN_rem hx hy]
        refine ⟨fun z => c ((lN_eqB hy (by decide)).mp (show lN _ = lN 0 from z)), ?_⟩
        have lt := Nat.mod_lt x (show y > 0 by omega)
        refine At_le (ih y (x % y) (by omega) hy (by omega) ?_) ⟨rfl, rfl, rfl, rfl, rfl, trivial⟩
        rw [Nat.gcd_comm, ← Nat.gcd_rec, Nat.gcd_comm]
        exact eg
  refine ma_enter (m := 228) (Or.inl (by decide)) (by show 5 ≤ mt_n 228; decide +kernel) ?_
  show At 228 Q 0 (mt_c 228) [some (.ref 80), some (.long (lN a)), none, some (.long (lN b)), none, none, none, none, none, none, none] [] h
  refine go 60 (by decide) ?_
  simp only [KX, KY, KZ, KW, KV, Nat.reduceAdd, Nat.reduceSub, Nat.reduceLeDiff, true_and, and_true, true_or, or_true, or_self, reduceCtorEq, if_true, if_false, not_false_eq_true, eq_self, c228, H.e80, ma_set_at, ma_set_set, List.set_cons_succ, List.set_cons_zero, show lN ((1 : Fin 2).val) = lN 1 from rfl, show lN ((0 : Fin 2).val) = lN 0 from rfl]
  exact At_le (lp b a b (Nat.le_refl _) ha hb rfl) ⟨rfl, rfl, rfl, rfl, rfl, trivial⟩
