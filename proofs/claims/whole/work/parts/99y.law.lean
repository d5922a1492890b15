/-! law: the Model reads a comparison -/
theorem TN.end_ {b : Nat → Nat} {n K : Nat} (N : TN b n K) : tq b n K = 256 := by
  show qt b n (Ps b n K) = 256
  rw [N.2.1]
  unfold qt
  rw [if_neg (Nat.lt_irrefl n)]
theorem TN.lt {b : Nat → Nat} {n K k : Nat} (N : TN b n K) (hk : k ≤ K) (h : tq b n k ≠ 256) : k + 1 ≤ K := by
  rcases Nat.lt_or_ge k K with c | c
  · exact c
  · obtain rfl : k = K := by omega
    exact absurd N.end_ h
theorem y186 {hm : ma_H} {b : Nat → Nat} {n k : Nat} {o : Int32} {F S : List Int32} {h : ma_H} {Q : ma_Q} (X : MX hm b n) (Y : MY hm b n k 1 o F S h)  (l : F.length < 200) (k1 : 3000 ≤ tq b n k → ∀ h2, MY hm b n (k + 1) 1 o (F ++ [tmv (tq b n k - 3000)]) S h2 → Q none h2) (k2 : ¬ 3000 ≤ tq b n k → ∀ h2, MY hm b n k 0 o F S h2 → Q none h2) : ma_X 186 [.ref 80] h Q := by
  obtain ⟨fr, pe, rfl, s1, s2, f2, p2⟩ := id Y
  refine ma_enter (m := 186) (Or.inl (by decide)) (by show 1 ≤ mt_n 186; decide +kernel) ?_
  show At 186 Q 0 (mt_c 186) [some (.ref 80), none] [] (MT hm b n k 1 (nI F.length) (nI S.length) o fr pe)
  refine go 60 (by decide) ?_
  simp only [KX, KY, KZ, KW, KV, Nat.reduceAdd, Nat.reduceSub, Nat.reduceLeDiff, true_and, and_true, true_or, or_true, or_self, reduceCtorEq, if_true, if_false, not_false_eq_true, eq_self, c186, mt80, mt96, mt97, mtw, mtf, mtp, List.set_cons_succ, List.set_cons_zero, MFT, List.length_cons, List.length_nil, Nat.reduceLT, Nat.zero_add]
  refine y181 Y X ?_
  refine go 60 (by decide) ?_
  simp only [KX, KY, KZ, KW, KV, Nat.reduceAdd, Nat.reduceSub, Nat.reduceLeDiff, true_and, and_true, true_or, or_true, or_self, reduceCtorEq, if_true, if_false, not_false_eq_true, eq_self, c186, mt80, mt96, mt97, mtw, mtf, mtp, List.set_cons_succ, List.set_cons_zero, MFT, List.length_cons, List.length_nil, Nat.reduceLT, Nat.zero_add]
  have ql := qt_lt X.2.2.2.2 n (Ps b n k)
  have ql : tq b n k < 4006 := ql
  obtain ⟨n1, n2⟩ := q_num (n := n) (i := Ps b n k) X.2.2.2.2
  by_cases a : 4000 ≤ tq b n k
  · rw [if_pos a, if_neg (nI_pos (by omega))]
    refine go 60 (by decide) ?_
    simp only [KX, KY, KZ, KW, KV, Nat.reduceAdd, Nat.reduceSub, Nat.reduceLeDiff, true_and, and_true, true_or, or_true, or_self, reduceCtorEq, if_true, if_false, not_false_eq_true, eq_self, c186, mt80, mt96, mt97, mtw, mtf, mtp, List.set_cons_succ, List.set_cons_zero, MFT, List.length_cons, List.length_nil, Nat.reduceLT, Nat.zero_add]
    refine go 60 (by decide) ?_
    simp only [KX, KY, KZ, KW, KV, Nat.reduceAdd, Nat.reduceSub, Nat.reduceLeDiff, true_and, and_true, true_or, or_true, or_self, reduceCtorEq, if_true, if_false, not_false_eq_true, eq_self, c186, mt80, mt96, mt97, mtw, mtf, mtp, List.set_cons_succ, List.set_cons_zero, MFT, List.length_cons, List.length_nil, Nat.reduceLT, Nat.zero_add]
    rw [if_neg (nI_pos (by omega))]
    refine go 60 (by decide) ?_
    simp only [KX, KY, KZ, KW, KV, Nat.reduceAdd, Nat.reduceSub, Nat.reduceLeDiff, true_and, and_true, true_or, or_true, or_self, reduceCtorEq, if_true, if_false, not_false_eq_true, eq_self, c186, mt80, mt96, mt97, mtw, mtf, mtp, List.set_cons_succ, List.set_cons_zero, MFT, List.length_cons, List.length_nil, Nat.reduceLT, Nat.zero_add]
    rw [show 20000 + nI (tq b n k - 4000) = tmv (tq b n k - 3000) by unfold tmv; rw [if_neg (by omega), show (20000 : Int32) = nI 20000 from rfl, nI_add, show 19000 + (tq b n k - 3000) = 20000 + (tq b n k - 4000) by omega]]
    refine y182 Y l (fun h2 Y2 => ?_)
    have Y2b := Y2
    obtain ⟨fr2, pe2, rfl, -⟩ := Y2
    refine go 60 (by decide) ?_
    simp only [KX, KY, KZ, KW, KV, Nat.reduceAdd, Nat.reduceSub, Nat.reduceLeDiff, true_and, and_true, true_or, or_true, or_self, reduceCtorEq, if_true, if_false, not_false_eq_true, eq_self, c186, mt80, mt96, mt97, mtw, mtf, mtp, List.set_cons_succ, List.set_cons_zero, MFT, List.length_cons, List.length_nil, Nat.reduceLT, Nat.zero_add]
    refine y178 Y2b X (fun h3 Y3 => ?_)
    try (refine go 60 (by decide) ?_; simp only [KX, KY, KZ, KW, KV, Nat.reduceAdd, Nat.reduceSub, Nat.reduceLeDiff, true_and, and_true, true_or, or_true, or_self, reduceCtorEq, if_true, if_false, not_false_eq_true, eq_self, c186, mt80, mt96, mt97, mtw, mtf, mtp, List.set_cons_succ, List.set_cons_zero, MFT, List.length_cons, List.length_nil, Nat.reduceLT, Nat.zero_add])
    exact k1 (by omega) h3 Y3
  · rw [if_neg a, if_pos (show (-1 : Int32) < 0 by decide)]
    by_cases c : 3000 ≤ tq b n k
    · obtain ⟨m1, m2⟩ := n2 c (by show qt b n (Ps b n k) < 4000; unfold tq at a; omega)
      rw [if_pos m1, if_neg m2]
      refine go 60 (by decide) ?_
      simp only [KX, KY, KZ, KW, KV, Nat.reduceAdd, Nat.reduceSub, Nat.reduceLeDiff, true_and, and_true, true_or, or_true, or_self, reduceCtorEq, if_true, if_false, not_false_eq_true, eq_self, c186, mt80, mt96, mt97, mtw, mtf, mtp, List.set_cons_succ, List.set_cons_zero, MFT, List.length_cons, List.length_nil, Nat.reduceLT, Nat.zero_add]
      refine go 60 (by decide) ?_
      simp only [KX, KY, KZ, KW, KV, Nat.reduceAdd, Nat.reduceSub, Nat.reduceLeDiff, true_and, and_true, true_or, or_true, or_self, reduceCtorEq, if_true, if_false, not_false_eq_true, eq_self, c186, mt80, mt96, mt97, mtw, mtf, mtp, List.set_cons_succ, List.set_cons_zero, MFT, List.length_cons, List.length_nil, Nat.reduceLT, Nat.zero_add]
      rw [if_pos (show (-1 : Int32) < 0 by decide)]
      refine go 60 (by decide) ?_
      simp only [KX, KY, KZ, KW, KV, Nat.reduceAdd, Nat.reduceSub, Nat.reduceLeDiff, true_and, and_true, true_or, or_true, or_self, reduceCtorEq, if_true, if_false, not_false_eq_true, eq_self, c186, mt80, mt96, mt97, mtw, mtf, mtp, List.set_cons_succ, List.set_cons_zero, MFT, List.length_cons, List.length_nil, Nat.reduceLT, Nat.zero_add]
      rw [show mV b n (Ps b n k) = tmv (tq b n k - 3000) by rw [(n1 ⟨m1, m2⟩).2.2]; unfold tmv; rw [if_pos (by omega)]; rfl]
      refine y182 Y l (fun h2 Y2 => ?_)
      have Y2b := Y2
      obtain ⟨fr2, pe2, rfl, -⟩ := Y2
      refine go 60 (by decide) ?_
      simp only [KX, KY, KZ, KW, KV, Nat.reduceAdd, Nat.reduceSub, Nat.reduceLeDiff, true_and, and_true, true_or, or_true, or_self, reduceCtorEq, if_true, if_false, not_false_eq_true, eq_self, c186, mt80, mt96, mt97, mtw, mtf, mtp, List.set_cons_succ, List.set_cons_zero, MFT, List.length_cons, List.length_nil, Nat.reduceLT, Nat.zero_add]
      refine y178 Y2b X (fun h3 Y3 => ?_)
      try (refine go 60 (by decide) ?_; simp only [KX, KY, KZ, KW, KV, Nat.reduceAdd, Nat.reduceSub, Nat.reduceLeDiff, true_and, and_true, true_or, or_true, or_self, reduceCtorEq, if_true, if_false, not_false_eq_true, eq_self, c186, mt80, mt96, mt97, mtw, mtf, mtp, List.set_cons_succ, List.set_cons_zero, MFT, List.length_cons, List.length_nil, Nat.reduceLT, Nat.zero_add])
      exact k1 (by omega) h3 Y3
    · by_cases u : mS b n (Ps b n k) = 2
      · rw [if_pos u]
        by_cases v : mV b n (Ps b n k) < 0
        · rw [if_pos v]
          refine go 60 (by decide) ?_
          simp only [KX, KY, KZ, KW, KV, Nat.reduceAdd, Nat.reduceSub, Nat.reduceLeDiff, true_and, and_true, true_or, or_true, or_self, reduceCtorEq, if_true, if_false, not_false_eq_true, eq_self, c186, mt80, mt96, mt97, mtw, mtf, mtp, List.set_cons_succ, List.set_cons_zero, MFT, List.length_cons, List.length_nil, Nat.reduceLT, Nat.zero_add]
          refine go 60 (by decide) ?_
          simp only [KX, KY, KZ, KW, KV, Nat.reduceAdd, Nat.reduceSub, Nat.reduceLeDiff, true_and, and_true, true_or, or_true, or_self, reduceCtorEq, if_true, if_false, not_false_eq_true, eq_self, c186, mt80, mt96, mt97, mtw, mtf, mtp, List.set_cons_succ, List.set_cons_zero, MFT, List.length_cons, List.length_nil, Nat.reduceLT, Nat.zero_add]
          exact k2 c _ ⟨fr, pe, rfl, s1, s2, f2, p2⟩
        · exact absurd (n1 ⟨u, v⟩).1 c
      · rw [if_neg u]
        refine go 60 (by decide) ?_
        simp only [KX, KY, KZ, KW, KV, Nat.reduceAdd, Nat.reduceSub, Nat.reduceLeDiff, true_and, and_true, true_or, or_true, or_self, reduceCtorEq, if_true, if_false, not_false_eq_true, eq_self, c186, mt80, mt96, mt97, mtw, mtf, mtp, List.set_cons_succ, List.set_cons_zero, MFT, List.length_cons, List.length_nil, Nat.reduceLT, Nat.zero_add]
        refine go 60 (by decide) ?_
        simp only [KX, KY, KZ, KW, KV, Nat.reduceAdd, Nat.reduceSub, Nat.reduceLeDiff, true_and, and_true, true_or, or_true, or_self, reduceCtorEq, if_true, if_false, not_false_eq_true, eq_self, c186, mt80, mt96, mt97, mtw, mtf, mtp, List.set_cons_succ, List.set_cons_zero, MFT, List.length_cons, List.length_nil, Nat.reduceLT, Nat.zero_add]
        exact k2 c _ ⟨fr, pe, rfl, s1, s2, f2, p2⟩
theorem y186z {hm : ma_H} {b : Nat → Nat} {n k : Nat} {o : Int32} {F S : List Int32} {h : ma_H} {Q : ma_Q} (X : MX hm b n) (Y : MY hm b n k 0 o F S h)  (k2 : ∀ h2, MY hm b n k 0 o F S h2 → Q none h2) : ma_X 186 [.ref 80] h Q := by
  obtain ⟨fr, pe, rfl, s1, s2, f2, p2⟩ := id Y
  refine ma_enter (m := 186) (Or.inl (by decide)) (by show 1 ≤ mt_n 186; decide +kernel) ?_
  show At 186 Q 0 (mt_c 186) [some (.ref 80), none] [] (MT hm b n k 0 (nI F.length) (nI S.length) o fr pe)
  refine go 60 (by decide) ?_
  simp only [KX, KY, KZ, KW, KV, Nat.reduceAdd, Nat.reduceSub, Nat.reduceLeDiff, true_and, and_true, true_or, or_true, or_self, reduceCtorEq, if_true, if_false, not_false_eq_true, eq_self, c186, mt80, mt96, mt97, mtw, mtf, mtp, List.set_cons_succ, List.set_cons_zero, MFT, List.length_cons, List.length_nil, Nat.reduceLT, Nat.zero_add]
  refine y181 Y X ?_
  refine go 60 (by decide) ?_
  simp only [KX, KY, KZ, KW, KV, Nat.reduceAdd, Nat.reduceSub, Nat.reduceLeDiff, true_and, and_true, true_or, or_true, or_self, reduceCtorEq, if_true, if_false, not_false_eq_true, eq_self, c186, mt80, mt96, mt97, mtw, mtf, mtp, List.set_cons_succ, List.set_cons_zero, MFT, List.length_cons, List.length_nil, Nat.reduceLT, Nat.zero_add]
  refine go 60 (by decide) ?_
  simp only [KX, KY, KZ, KW, KV, Nat.reduceAdd, Nat.reduceSub, Nat.reduceLeDiff, true_and, and_true, true_or, or_true, or_self, reduceCtorEq, if_true, if_false, not_false_eq_true, eq_self, c186, mt80, mt96, mt97, mtw, mtf, mtp, List.set_cons_succ, List.set_cons_zero, MFT, List.length_cons, List.length_nil, Nat.reduceLT, Nat.zero_add]
  refine go 60 (by decide) ?_
  simp only [KX, KY, KZ, KW, KV, Nat.reduceAdd, Nat.reduceSub, Nat.reduceLeDiff, true_and, and_true, true_or, or_true, or_self, reduceCtorEq, if_true, if_false, not_false_eq_true, eq_self, c186, mt80, mt96, mt97, mtw, mtf, mtp, List.set_cons_succ, List.set_cons_zero, MFT, List.length_cons, List.length_nil, Nat.reduceLT, Nat.zero_add]
  exact k2 _ Y
