/-! the law: calls 0 to 13 -/
theorem k285_0 {h : ma_H} {Q : ma_Q} {B1 B2 i n : Nat} {g : Nat → Int32} (I : Inv h) (hsc : h.2.2 = (n, g)) (hn : n ≤ 320) (hi : i + 5 ≤ n) (b1 : 6 ≤ B1) (b2 : 24 ≤ B2) (ev : g i &&& 63 = 0) (K : ∀ h2, Inv h2 → h2.2.2 = (n, g) → At 285 Q 10 (B1 - 6, B2 - 24) [some (.retAddr 1000), some (.ref 0), some (.ref 80), some (.int (nI (i + 5)))] [] h2) : At 285 Q 10 (B1, B2) [some (.retAddr 1000), some (.ref 0), some (.ref 80), some (.int (nI i))] [] h := by
  have hle : nI i ≤ nI n - 5 := by rw [show (5 : Int32) = nI 5 from rfl, nI_sub (by omega)]; exact nI_le (by omega) (by omega)
  have v0 : vp_in (nI (i)) n := nI_in (by omega) (by omega)
  have x0 : (nI (i)).toNatClampNeg = i := nI_clamp (by omega)
  have v1 : vp_in (nI (i + 1)) n := nI_in (by omega) (by omega)
  have x1 : (nI (i + 1)).toNatClampNeg = i + 1 := nI_clamp (by omega)
  have a1 : nI i + 1 = nI (i + 1) := nI_add i 1
  have v2 : vp_in (nI (i + 2)) n := nI_in (by omega) (by omega)
  have x2 : (nI (i + 2)).toNatClampNeg = i + 2 := nI_clamp (by omega)
  have a2 : nI i + 2 = nI (i + 2) := nI_add i 2
  have v3 : vp_in (nI (i + 3)) n := nI_in (by omega) (by omega)
  have x3 : (nI (i + 3)).toNatClampNeg = i + 3 := nI_clamp (by omega)
  have a3 : nI i + 3 = nI (i + 3) := nI_add i 3
  have v4 : vp_in (nI (i + 4)) n := nI_in (by omega) (by omega)
  have x4 : (nI (i + 4)).toNatClampNeg = i + 4 := nI_clamp (by omega)
  have a4 : nI i + 4 = nI (i + 4) := nI_add i 4
  have a5 : nI i + 5 = nI (i + 5) := nI_add i 5
  refine go 60 (by decide) ?_
  simp only [KX, KY, KZ, KW, KV, Nat.reduceAdd, Nat.reduceSub, Nat.reduceLeDiff, true_and, and_true, true_or, or_true, or_self, reduceCtorEq, if_true, if_false, not_false_eq_true, eq_self, c285h, c285_0, ts_0_41_0, tz_0_41_0, I.sh.e0, hsc, hle, ev, v0, v1, v2, v3, v4, x0, x1, x2, x3, x4, a1, a2, a3, a4, Nat.zero_le, Nat.sub_zero, b1, b2, List.getD_cons_zero, List.getD_cons_succ]
  refine sc_pair (p103 I) (fun w h1 F eF e1 k1 => ?_)
  have hs1 : h1.2.2 = (n, g) := e1.trans hsc
  refine go 60 (by decide) ?_
  simp only [KX, KY, KZ, KW, KV, Nat.reduceAdd, Nat.reduceSub, Nat.reduceLeDiff, true_and, and_true, true_or, or_true, or_self, reduceCtorEq, if_true, if_false, not_false_eq_true, eq_self, c285h, c285_0, ts_0_41_0, tz_0_41_0, hs1, eF, v0, v1, v2, v3, v4, x0, x1, x2, x3, x4, a1, a2, a3, a4, Nat.zero_le, Nat.sub_zero, b1, b2]
  refine k1 _ (fun h2 I2 e2 => ?_)
  refine go 60 (by decide) ?_
  simp only [KX, KY, KZ, KW, KV, Nat.reduceAdd, Nat.reduceSub, Nat.reduceLeDiff, true_and, and_true, true_or, or_true, or_self, reduceCtorEq, if_true, if_false, not_false_eq_true, eq_self, c285h, c285_0, ts_0_41_0, tz_0_41_0, Nat.sub_zero]
  rw [a5]
  exact At_b (K h2 I2 (e2.trans hsc)) (Nat.sub_le _ _) (Nat.sub_le _ _)
theorem k285_1 {h : ma_H} {Q : ma_Q} {B1 B2 i n : Nat} {g : Nat → Int32} (I : Inv h) (hsc : h.2.2 = (n, g)) (hn : n ≤ 320) (hi : i + 5 ≤ n) (b1 : 6 ≤ B1) (b2 : 24 ≤ B2) (ev : g i &&& 63 = 1) (K : ∀ h2, Inv h2 → h2.2.2 = (n, g) → At 285 Q 10 (B1 - 6, B2 - 24) [some (.retAddr 1000), some (.ref 0), some (.ref 80), some (.int (nI (i + 5)))] [] h2) : At 285 Q 10 (B1, B2) [some (.retAddr 1000), some (.ref 0), some (.ref 80), some (.int (nI i))] [] h := by
  have hle : nI i ≤ nI n - 5 := by rw [show (5 : Int32) = nI 5 from rfl, nI_sub (by omega)]; exact nI_le (by omega) (by omega)
  have v0 : vp_in (nI (i)) n := nI_in (by omega) (by omega)
  have x0 : (nI (i)).toNatClampNeg = i := nI_clamp (by omega)
  have v1 : vp_in (nI (i + 1)) n := nI_in (by omega) (by omega)
  have x1 : (nI (i + 1)).toNatClampNeg = i + 1 := nI_clamp (by omega)
  have a1 : nI i + 1 = nI (i + 1) := nI_add i 1
  have v2 : vp_in (nI (i + 2)) n := nI_in (by omega) (by omega)
  have x2 : (nI (i + 2)).toNatClampNeg = i + 2 := nI_clamp (by omega)
  have a2 : nI i + 2 = nI (i + 2) := nI_add i 2
  have v3 : vp_in (nI (i + 3)) n := nI_in (by omega) (by omega)
  have x3 : (nI (i + 3)).toNatClampNeg = i + 3 := nI_clamp (by omega)
  have a3 : nI i + 3 = nI (i + 3) := nI_add i 3
  have v4 : vp_in (nI (i + 4)) n := nI_in (by omega) (by omega)
  have x4 : (nI (i + 4)).toNatClampNeg = i + 4 := nI_clamp (by omega)
  have a4 : nI i + 4 = nI (i + 4) := nI_add i 4
  have a5 : nI i + 5 = nI (i + 5) := nI_add i 5
  refine go 60 (by decide) ?_
  simp only [KX, KY, KZ, KW, KV, Nat.reduceAdd, Nat.reduceSub, Nat.reduceLeDiff, true_and, and_true, true_or, or_true, or_self, reduceCtorEq, if_true, if_false, not_false_eq_true, eq_self, c285h, c285_1, ts_0_41_1, tz_0_41_1, I.sh.e0, hsc, hle, ev, v0, v1, v2, v3, v4, x0, x1, x2, x3, x4, a1, a2, a3, a4, Nat.zero_le, Nat.sub_zero, b1, b2, List.getD_cons_zero, List.getD_cons_succ]
  refine sc_pair (p104 I) (fun w h1 F eF e1 k1 => ?_)
  have hs1 : h1.2.2 = (n, g) := e1.trans hsc
  refine go 60 (by decide) ?_
  simp only [KX, KY, KZ, KW, KV, Nat.reduceAdd, Nat.reduceSub, Nat.reduceLeDiff, true_and, and_true, true_or, or_true, or_self, reduceCtorEq, if_true, if_false, not_false_eq_true, eq_self, c285h, c285_1, ts_0_41_1, tz_0_41_1, hs1, eF, v0, v1, v2, v3, v4, x0, x1, x2, x3, x4, a1, a2, a3, a4, Nat.zero_le, Nat.sub_zero, b1, b2]
  refine k1 _ (fun h2 I2 e2 => ?_)
  refine go 60 (by decide) ?_
  simp only [KX, KY, KZ, KW, KV, Nat.reduceAdd, Nat.reduceSub, Nat.reduceLeDiff, true_and, and_true, true_or, or_true, or_self, reduceCtorEq, if_true, if_false, not_false_eq_true, eq_self, c285h, c285_1, ts_0_41_1, tz_0_41_1, Nat.sub_zero]
  rw [a5]
  exact At_b (K h2 I2 (e2.trans hsc)) (Nat.sub_le _ _) (Nat.sub_le _ _)
theorem k285_2 {h : ma_H} {Q : ma_Q} {B1 B2 i n : Nat} {g : Nat → Int32} (I : Inv h) (hsc : h.2.2 = (n, g)) (hn : n ≤ 320) (hi : i + 5 ≤ n) (b1 : 6 ≤ B1) (b2 : 24 ≤ B2) (ev : g i &&& 63 = 2) (K : ∀ h2, Inv h2 → h2.2.2 = (n, g) → At 285 Q 10 (B1 - 6, B2 - 24) [some (.retAddr 1000), some (.ref 0), some (.ref 80), some (.int (nI (i + 5)))] [] h2) : At 285 Q 10 (B1, B2) [some (.retAddr 1000), some (.ref 0), some (.ref 80), some (.int (nI i))] [] h := by
  have hle : nI i ≤ nI n - 5 := by rw [show (5 : Int32) = nI 5 from rfl, nI_sub (by omega)]; exact nI_le (by omega) (by omega)
  have v0 : vp_in (nI (i)) n := nI_in (by omega) (by omega)
  have x0 : (nI (i)).toNatClampNeg = i := nI_clamp (by omega)
  have v1 : vp_in (nI (i + 1)) n := nI_in (by omega) (by omega)
  have x1 : (nI (i + 1)).toNatClampNeg = i + 1 := nI_clamp (by omega)
  have a1 : nI i + 1 = nI (i + 1) := nI_add i 1
  have v2 : vp_in (nI (i + 2)) n := nI_in (by omega) (by omega)
  have x2 : (nI (i + 2)).toNatClampNeg = i + 2 := nI_clamp (by omega)
  have a2 : nI i + 2 = nI (i + 2) := nI_add i 2
  have v3 : vp_in (nI (i + 3)) n := nI_in (by omega) (by omega)
  have x3 : (nI (i + 3)).toNatClampNeg = i + 3 := nI_clamp (by omega)
  have a3 : nI i + 3 = nI (i + 3) := nI_add i 3
  have v4 : vp_in (nI (i + 4)) n := nI_in (by omega) (by omega)
  have x4 : (nI (i + 4)).toNatClampNeg = i + 4 := nI_clamp (by omega)
  have a4 : nI i + 4 = nI (i + 4) := nI_add i 4
  have a5 : nI i + 5 = nI (i + 5) := nI_add i 5
  refine go 60 (by decide) ?_
  simp only [KX, KY, KZ, KW, KV, Nat.reduceAdd, Nat.reduceSub, Nat.reduceLeDiff, true_and, and_true, true_or, or_true, or_self, reduceCtorEq, if_true, if_false, not_false_eq_true, eq_self, c285h, c285_2, ts_0_41_2, tz_0_41_2, I.sh.e0, hsc, hle, ev, v0, v1, v2, v3, v4, x0, x1, x2, x3, x4, a1, a2, a3, a4, Nat.zero_le, Nat.sub_zero, b1, b2, List.getD_cons_zero, List.getD_cons_succ]
  refine sc_pair (p105 I) (fun w h1 F eF e1 k1 => ?_)
  have hs1 : h1.2.2 = (n, g) := e1.trans hsc
  refine go 60 (by decide) ?_
  simp only [KX, KY, KZ, KW, KV, Nat.reduceAdd, Nat.reduceSub, Nat.reduceLeDiff, true_and, and_true, true_or, or_true, or_self, reduceCtorEq, if_true, if_false, not_false_eq_true, eq_self, c285h, c285_2, ts_0_41_2, tz_0_41_2, hs1, eF, v0, v1, v2, v3, v4, x0, x1, x2, x3, x4, a1, a2, a3, a4, Nat.zero_le, Nat.sub_zero, b1, b2]
  refine k1 _ (fun h2 I2 e2 => ?_)
  refine go 60 (by decide) ?_
  simp only [KX, KY, KZ, KW, KV, Nat.reduceAdd, Nat.reduceSub, Nat.reduceLeDiff, true_and, and_true, true_or, or_true, or_self, reduceCtorEq, if_true, if_false, not_false_eq_true, eq_self, c285h, c285_2, ts_0_41_2, tz_0_41_2, Nat.sub_zero]
  rw [a5]
  exact At_b (K h2 I2 (e2.trans hsc)) (Nat.sub_le _ _) (Nat.sub_le _ _)
theorem k285_3 {h : ma_H} {Q : ma_Q} {B1 B2 i n : Nat} {g : Nat → Int32} (I : Inv h) (hsc : h.2.2 = (n, g)) (hn : n ≤ 320) (hi : i + 5 ≤ n) (b1 : 6 ≤ B1) (b2 : 24 ≤ B2) (ev : g i &&& 63 = 3) (K : ∀ h2, Inv h2 → h2.2.2 = (n, g) → At 285 Q 10 (B1 - 6, B2 - 24) [some (.retAddr 1000), some (.ref 0), some (.ref 80), some (.int (nI (i + 5)))] [] h2) : At 285 Q 10 (B1, B2) [some (.retAddr 1000), some (.ref 0), some (.ref 80), some (.int (nI i))] [] h := by
  have hle : nI i ≤ nI n - 5 := by rw [show (5 : Int32) = nI 5 from rfl, nI_sub (by omega)]; exact nI_le (by omega) (by omega)
  have v0 : vp_in (nI (i)) n := nI_in (by omega) (by omega)
  have x0 : (nI (i)).toNatClampNeg = i := nI_clamp (by omega)
  have v1 : vp_in (nI (i + 1)) n := nI_in (by omega) (by omega)
  have x1 : (nI (i + 1)).toNatClampNeg = i + 1 := nI_clamp (by omega)
  have a1 : nI i + 1 = nI (i + 1) := nI_add i 1
  have v2 : vp_in (nI (i + 2)) n := nI_in (by omega) (by omega)
  have x2 : (nI (i + 2)).toNatClampNeg = i + 2 := nI_clamp (by omega)
  have a2 : nI i + 2 = nI (i + 2) := nI_add i 2
  have v3 : vp_in (nI (i + 3)) n := nI_in (by omega) (by omega)
  have x3 : (nI (i + 3)).toNatClampNeg = i + 3 := nI_clamp (by omega)
  have a3 : nI i + 3 = nI (i + 3) := nI_add i 3
  have v4 : vp_in (nI (i + 4)) n := nI_in (by omega) (by omega)
  have x4 : (nI (i + 4)).toNatClampNeg = i + 4 := nI_clamp (by omega)
  have a4 : nI i + 4 = nI (i + 4) := nI_add i 4
  have a5 : nI i + 5 = nI (i + 5) := nI_add i 5
  refine go 60 (by decide) ?_
  simp only [KX, KY, KZ, KW, KV, Nat.reduceAdd, Nat.reduceSub, Nat.reduceLeDiff, true_and, and_true, true_or, or_true, or_self, reduceCtorEq, if_true, if_false, not_false_eq_true, eq_self, c285h, c285_3, ts_0_41_3, tz_0_41_3, I.sh.e0, hsc, hle, ev, v0, v1, v2, v3, v4, x0, x1, x2, x3, x4, a1, a2, a3, a4, Nat.zero_le, Nat.sub_zero, b1, b2, List.getD_cons_zero, List.getD_cons_succ]
  refine sc_pair (p106 I) (fun w h1 F eF e1 k1 => ?_)
  have hs1 : h1.2.2 = (n, g) := e1.trans hsc
  refine go 60 (by decide) ?_
  simp only [KX, KY, KZ, KW, KV, Nat.reduceAdd, Nat.reduceSub, Nat.reduceLeDiff, true_and, and_true, true_or, or_true, or_self, reduceCtorEq, if_true, if_false, not_false_eq_true, eq_self, c285h, c285_3, ts_0_41_3, tz_0_41_3, hs1, eF, v0, v1, v2, v3, v4, x0, x1, x2, x3, x4, a1, a2, a3, a4, Nat.zero_le, Nat.sub_zero, b1, b2]
  refine k1 _ (fun h2 I2 e2 => ?_)
  refine go 60 (by decide) ?_
  simp only [KX, KY, KZ, KW, KV, Nat.reduceAdd, Nat.reduceSub, Nat.reduceLeDiff, true_and, and_true, true_or, or_true, or_self, reduceCtorEq, if_true, if_false, not_false_eq_true, eq_self, c285h, c285_3, ts_0_41_3, tz_0_41_3, Nat.sub_zero]
  rw [a5]
  exact At_b (K h2 I2 (e2.trans hsc)) (Nat.sub_le _ _) (Nat.sub_le _ _)
theorem k285_4 {h : ma_H} {Q : ma_Q} {B1 B2 i n : Nat} {g : Nat → Int32} (I : Inv h) (hsc : h.2.2 = (n, g)) (hn : n ≤ 320) (hi : i + 5 ≤ n) (b1 : 6 ≤ B1) (b2 : 24 ≤ B2) (ev : g i &&& 63 = 4) (K : ∀ h2, Inv h2 → h2.2.2 = (n, g) → At 285 Q 10 (B1 - 6, B2 - 24) [some (.retAddr 1000), some (.ref 0), some (.ref 80), some (.int (nI (i + 5)))] [] h2) : At 285 Q 10 (B1, B2) [some (.retAddr 1000), some (.ref 0), some (.ref 80), some (.int (nI i))] [] h := by
  have hle : nI i ≤ nI n - 5 := by rw [show (5 : Int32) = nI 5 from rfl, nI_sub (by omega)]; exact nI_le (by omega) (by omega)
  have v0 : vp_in (nI (i)) n := nI_in (by omega) (by omega)
  have x0 : (nI (i)).toNatClampNeg = i := nI_clamp (by omega)
  have v1 : vp_in (nI (i + 1)) n := nI_in (by omega) (by omega)
  have x1 : (nI (i + 1)).toNatClampNeg = i + 1 := nI_clamp (by omega)
  have a1 : nI i + 1 = nI (i + 1) := nI_add i 1
  have v2 : vp_in (nI (i + 2)) n := nI_in (by omega) (by omega)
  have x2 : (nI (i + 2)).toNatClampNeg = i + 2 := nI_clamp (by omega)
  have a2 : nI i + 2 = nI (i + 2) := nI_add i 2
  have v3 : vp_in (nI (i + 3)) n := nI_in (by omega) (by omega)
  have x3 : (nI (i + 3)).toNatClampNeg = i + 3 := nI_clamp (by omega)
  have a3 : nI i + 3 = nI (i + 3) := nI_add i 3
  have v4 : vp_in (nI (i + 4)) n := nI_in (by omega) (by omega)
  have x4 : (nI (i + 4)).toNatClampNeg = i + 4 := nI_clamp (by omega)
  have a4 : nI i + 4 = nI (i + 4) := nI_add i 4
  have a5 : nI i + 5 = nI (i + 5) := nI_add i 5
  by_cases z : g (i + 4) = 0
  · refine go 60 (by decide) ?_
    simp only [KX, KY, KZ, KW, KV, Nat.reduceAdd, Nat.reduceSub, Nat.reduceLeDiff, true_and, and_true, true_or, or_true, or_self, reduceCtorEq, if_true, if_false, not_false_eq_true, eq_self, c285h, c285_4, ts_0_41_4, tz_0_41_4, I.sh.e0, hsc, hle, ev, v0, v1, v2, v3, v4, x0, x1, x2, x3, x4, a1, a2, a3, a4, Nat.zero_le, Nat.sub_zero, b1, b2, List.getD_cons_zero, List.getD_cons_succ, z]
    refine go 60 (by decide) ?_
    simp only [KX, KY, KZ, KW, KV, Nat.reduceAdd, Nat.reduceSub, Nat.reduceLeDiff, true_and, and_true, true_or, or_true, or_self, reduceCtorEq, if_true, if_false, not_false_eq_true, eq_self, c285h, c285_4, ts_0_41_4, tz_0_41_4, I.sh.e0, hsc, hle, ev, v0, v1, v2, v3, v4, x0, x1, x2, x3, x4, a1, a2, a3, a4, Nat.zero_le, Nat.sub_zero, b1, b2, List.getD_cons_zero, List.getD_cons_succ, z]
    refine sc_pair (p107_0 I) (fun w h1 F eF e1 k1 => ?_)
    have hs1 : h1.2.2 = (n, g) := e1.trans hsc
    refine go 60 (by decide) ?_
    simp only [KX, KY, KZ, KW, KV, Nat.reduceAdd, Nat.reduceSub, Nat.reduceLeDiff, true_and, and_true, true_or, or_true, or_self, reduceCtorEq, if_true, if_false, not_false_eq_true, eq_self, c285h, c285_4, ts_0_41_4, tz_0_41_4, hs1, eF, v0, v1, v2, v3, v4, x0, x1, x2, x3, x4, a1, a2, a3, a4, Nat.zero_le, Nat.sub_zero, b1, b2, z]
    refine go 60 (by decide) ?_
    simp only [KX, KY, KZ, KW, KV, Nat.reduceAdd, Nat.reduceSub, Nat.reduceLeDiff, true_and, and_true, true_or, or_true, or_self, reduceCtorEq, if_true, if_false, not_false_eq_true, eq_self, c285h, c285_4, ts_0_41_4, tz_0_41_4, hs1, eF, v0, v1, v2, v3, v4, x0, x1, x2, x3, x4, a1, a2, a3, a4, Nat.zero_le, Nat.sub_zero, b1, b2, z]
    refine k1 _ (fun h2 I2 e2 => ?_)
    refine go 60 (by decide) ?_
    simp only [KX, KY, KZ, KW, KV, Nat.reduceAdd, Nat.reduceSub, Nat.reduceLeDiff, true_and, and_true, true_or, or_true, or_self, reduceCtorEq, if_true, if_false, not_false_eq_true, eq_self, c285h, c285_4, ts_0_41_4, tz_0_41_4, Nat.sub_zero]
    rw [a5]
    exact At_b (K h2 I2 (e2.trans hsc)) (Nat.sub_le _ _) (Nat.sub_le _ _)
  · refine go 60 (by decide) ?_
    simp only [KX, KY, KZ, KW, KV, Nat.reduceAdd, Nat.reduceSub, Nat.reduceLeDiff, true_and, and_true, true_or, or_true, or_self, reduceCtorEq, if_true, if_false, not_false_eq_true, eq_self, c285h, c285_4, ts_0_41_4, tz_0_41_4, I.sh.e0, hsc, hle, ev, v0, v1, v2, v3, v4, x0, x1, x2, x3, x4, a1, a2, a3, a4, Nat.zero_le, Nat.sub_zero, b1, b2, List.getD_cons_zero, List.getD_cons_succ, z]
    refine go 60 (by decide) ?_
    simp only [KX, KY, KZ, KW, KV, Nat.reduceAdd, Nat.reduceSub, Nat.reduceLeDiff, true_and, and_true, true_or, or_true, or_self, reduceCtorEq, if_true, if_false, not_false_eq_true, eq_self, c285h, c285_4, ts_0_41_4, tz_0_41_4, I.sh.e0, hsc, hle, ev, v0, v1, v2, v3, v4, x0, x1, x2, x3, x4, a1, a2, a3, a4, Nat.zero_le, Nat.sub_zero, b1, b2, List.getD_cons_zero, List.getD_cons_succ, z]
    refine sc_pair (p107_1 I) (fun w h1 F eF e1 k1 => ?_)
    have hs1 : h1.2.2 = (n, g) := e1.trans hsc
    refine go 60 (by decide) ?_
    simp only [KX, KY, KZ, KW, KV, Nat.reduceAdd, Nat.reduceSub, Nat.reduceLeDiff, true_and, and_true, true_or, or_true, or_self, reduceCtorEq, if_true, if_false, not_false_eq_true, eq_self, c285h, c285_4, ts_0_41_4, tz_0_41_4, hs1, eF, v0, v1, v2, v3, v4, x0, x1, x2, x3, x4, a1, a2, a3, a4, Nat.zero_le, Nat.sub_zero, b1, b2, z]
    refine go 60 (by decide) ?_
    simp only [KX, KY, KZ, KW, KV, Nat.reduceAdd, Nat.reduceSub, Nat.reduceLeDiff, true_and, and_true, true_or, or_true, or_self, reduceCtorEq, if_true, if_false, not_false_eq_true, eq_self, c285h, c285_4, ts_0_41_4, tz_0_41_4, hs1, eF, v0, v1, v2, v3, v4, x0, x1, x2, x3, x4, a1, a2, a3, a4, Nat.zero_le, Nat.sub_zero, b1, b2, z]
    refine k1 _ (fun h2 I2 e2 => ?_)
    refine go 60 (by decide) ?_
    simp only [KX, KY, KZ, KW, KV, Nat.reduceAdd, Nat.reduceSub, Nat.reduceLeDiff, true_and, and_true, true_or, or_true, or_self, reduceCtorEq, if_true, if_false, not_false_eq_true, eq_self, c285h, c285_4, ts_0_41_4, tz_0_41_4, Nat.sub_zero]
    rw [a5]
    exact At_b (K h2 I2 (e2.trans hsc)) (Nat.sub_le _ _) (Nat.sub_le _ _)
theorem k285_5 {h : ma_H} {Q : ma_Q} {B1 B2 i n : Nat} {g : Nat → Int32} (I : Inv h) (hsc : h.2.2 = (n, g)) (hn : n ≤ 320) (hi : i + 5 ≤ n) (b1 : 6 ≤ B1) (b2 : 24 ≤ B2) (ev : g i &&& 63 = 5) (K : ∀ h2, Inv h2 → h2.2.2 = (n, g) → At 285 Q 10 (B1 - 6, B2 - 24) [some (.retAddr 1000), some (.ref 0), some (.ref 80), some (.int (nI (i + 5)))] [] h2) : At 285 Q 10 (B1, B2) [some (.retAddr 1000), some (.ref 0), some (.ref 80), some (.int (nI i))] [] h := by
  have hle : nI i ≤ nI n - 5 := by rw [show (5 : Int32) = nI 5 from rfl, nI_sub (by omega)]; exact nI_le (by omega) (by omega)
  have v0 : vp_in (nI (i)) n := nI_in (by omega) (by omega)
  have x0 : (nI (i)).toNatClampNeg = i := nI_clamp (by omega)
  have v1 : vp_in (nI (i + 1)) n := nI_in (by omega) (by omega)
  have x1 : (nI (i + 1)).toNatClampNeg = i + 1 := nI_clamp (by omega)
  have a1 : nI i + 1 = nI (i + 1) := nI_add i 1
  have v2 : vp_in (nI (i + 2)) n := nI_in (by omega) (by omega)
  have x2 : (nI (i + 2)).toNatClampNeg = i + 2 := nI_clamp (by omega)
  have a2 : nI i + 2 = nI (i + 2) := nI_add i 2
  have v3 : vp_in (nI (i + 3)) n := nI_in (by omega) (by omega)
  have x3 : (nI (i + 3)).toNatClampNeg = i + 3 := nI_clamp (by omega)
  have a3 : nI i + 3 = nI (i + 3) := nI_add i 3
  have v4 : vp_in (nI (i + 4)) n := nI_in (by omega) (by omega)
  have x4 : (nI (i + 4)).toNatClampNeg = i + 4 := nI_clamp (by omega)
  have a4 : nI i + 4 = nI (i + 4) := nI_add i 4
  have a5 : nI i + 5 = nI (i + 5) := nI_add i 5
  refine go 60 (by decide) ?_
  simp only [KX, KY, KZ, KW, KV, Nat.reduceAdd, Nat.reduceSub, Nat.reduceLeDiff, true_and, and_true, true_or, or_true, or_self, reduceCtorEq, if_true, if_false, not_false_eq_true, eq_self, c285h, c285_5, ts_0_41_5, tz_0_41_5, I.sh.e0, hsc, hle, ev, v0, v1, v2, v3, v4, x0, x1, x2, x3, x4, a1, a2, a3, a4, Nat.zero_le, Nat.sub_zero, b1, b2, List.getD_cons_zero, List.getD_cons_succ]
  refine sc_pair (p108 I) (fun w h1 F eF e1 k1 => ?_)
  have hs1 : h1.2.2 = (n, g) := e1.trans hsc
  refine go 60 (by decide) ?_
  simp only [KX, KY, KZ, KW, KV, Nat.reduceAdd, Nat.reduceSub, Nat.reduceLeDiff, true_and, and_true, true_or, or_true, or_self, reduceCtorEq, if_true, if_false, not_false_eq_true, eq_self, c285h, c285_5, ts_0_41_5, tz_0_41_5, hs1, eF, v0, v1, v2, v3, v4, x0, x1, x2, x3, x4, a1, a2, a3, a4, Nat.zero_le, Nat.sub_zero, b1, b2]
  refine k1 _ (fun h2 I2 e2 => ?_)
  refine go 60 (by decide) ?_
  simp only [KX, KY, KZ, KW, KV, Nat.reduceAdd, Nat.reduceSub, Nat.reduceLeDiff, true_and, and_true, true_or, or_true, or_self, reduceCtorEq, if_true, if_false, not_false_eq_true, eq_self, c285h, c285_5, ts_0_41_5, tz_0_41_5, Nat.sub_zero]
  rw [a5]
  exact At_b (K h2 I2 (e2.trans hsc)) (Nat.sub_le _ _) (Nat.sub_le _ _)
theorem k285_6 {h : ma_H} {Q : ma_Q} {B1 B2 i n : Nat} {g : Nat → Int32} (I : Inv h) (hsc : h.2.2 = (n, g)) (hn : n ≤ 320) (hi : i + 5 ≤ n) (b1 : 6 ≤ B1) (b2 : 24 ≤ B2) (ev : g i &&& 63 = 6) (K : ∀ h2, Inv h2 → h2.2.2 = (n, g) → At 285 Q 10 (B1 - 6, B2 - 24) [some (.retAddr 1000), some (.ref 0), some (.ref 80), some (.int (nI (i + 5)))] [] h2) : At 285 Q 10 (B1, B2) [some (.retAddr 1000), some (.ref 0), some (.ref 80), some (.int (nI i))] [] h := by
  have hle : nI i ≤ nI n - 5 := by rw [show (5 : Int32) = nI 5 from rfl, nI_sub (by omega)]; exact nI_le (by omega) (by omega)
  have v0 : vp_in (nI (i)) n := nI_in (by omega) (by omega)
  have x0 : (nI (i)).toNatClampNeg = i := nI_clamp (by omega)
  have v1 : vp_in (nI (i + 1)) n := nI_in (by omega) (by omega)
  have x1 : (nI (i + 1)).toNatClampNeg = i + 1 := nI_clamp (by omega)
  have a1 : nI i + 1 = nI (i + 1) := nI_add i 1
  have v2 : vp_in (nI (i + 2)) n := nI_in (by omega) (by omega)
  have x2 : (nI (i + 2)).toNatClampNeg = i + 2 := nI_clamp (by omega)
  have a2 : nI i + 2 = nI (i + 2) := nI_add i 2
  have v3 : vp_in (nI (i + 3)) n := nI_in (by omega) (by omega)
  have x3 : (nI (i + 3)).toNatClampNeg = i + 3 := nI_clamp (by omega)
  have a3 : nI i + 3 = nI (i + 3) := nI_add i 3
  have v4 : vp_in (nI (i + 4)) n := nI_in (by omega) (by omega)
  have x4 : (nI (i + 4)).toNatClampNeg = i + 4 := nI_clamp (by omega)
  have a4 : nI i + 4 = nI (i + 4) := nI_add i 4
  have a5 : nI i + 5 = nI (i + 5) := nI_add i 5
  refine go 60 (by decide) ?_
  simp only [KX, KY, KZ, KW, KV, Nat.reduceAdd, Nat.reduceSub, Nat.reduceLeDiff, true_and, and_true, true_or, or_true, or_self, reduceCtorEq, if_true, if_false, not_false_eq_true, eq_self, c285h, c285_6, ts_0_41_6, tz_0_41_6, I.sh.e0, hsc, hle, ev, v0, v1, v2, v3, v4, x0, x1, x2, x3, x4, a1, a2, a3, a4, Nat.zero_le, Nat.sub_zero, b1, b2, List.getD_cons_zero, List.getD_cons_succ]
  refine sc_pair (p109 I) (fun w h1 F eF e1 k1 => ?_)
  have hs1 : h1.2.2 = (n, g) := e1.trans hsc
  refine go 60 (by decide) ?_
  simp only [KX, KY, KZ, KW, KV, Nat.reduceAdd, Nat.reduceSub, Nat.reduceLeDiff, true_and, and_true, true_or, or_true, or_self, reduceCtorEq, if_true, if_false, not_false_eq_true, eq_self, c285h, c285_6, ts_0_41_6, tz_0_41_6, hs1, eF, v0, v1, v2, v3, v4, x0, x1, x2, x3, x4, a1, a2, a3, a4, Nat.zero_le, Nat.sub_zero, b1, b2]
  refine k1 _ (fun h2 I2 e2 => ?_)
  refine go 60 (by decide) ?_
  simp only [KX, KY, KZ, KW, KV, Nat.reduceAdd, Nat.reduceSub, Nat.reduceLeDiff, true_and, and_true, true_or, or_true, or_self, reduceCtorEq, if_true, if_false, not_false_eq_true, eq_self, c285h, c285_6, ts_0_41_6, tz_0_41_6, Nat.sub_zero]
  rw [a5]
  exact At_b (K h2 I2 (e2.trans hsc)) (Nat.sub_le _ _) (Nat.sub_le _ _)
theorem k285_7 {h : ma_H} {Q : ma_Q} {B1 B2 i n : Nat} {g : Nat → Int32} (I : Inv h) (hsc : h.2.2 = (n, g)) (hn : n ≤ 320) (hi : i + 5 ≤ n) (b1 : 6 ≤ B1) (b2 : 24 ≤ B2) (ev : g i &&& 63 = 7) (K : ∀ h2, Inv h2 → h2.2.2 = (n, g) → At 285 Q 10 (B1 - 6, B2 - 24) [some (.retAddr 1000), some (.ref 0), some (.ref 80), some (.int (nI (i + 5)))] [] h2) : At 285 Q 10 (B1, B2) [some (.retAddr 1000), some (.ref 0), some (.ref 80), some (.int (nI i))] [] h := by
  have hle : nI i ≤ nI n - 5 := by rw [show (5 : Int32) = nI 5 from rfl, nI_sub (by omega)]; exact nI_le (by omega) (by omega)
  have v0 : vp_in (nI (i)) n := nI_in (by omega) (by omega)
  have x0 : (nI (i)).toNatClampNeg = i := nI_clamp (by omega)
  have v1 : vp_in (nI (i + 1)) n := nI_in (by omega) (by omega)
  have x1 : (nI (i + 1)).toNatClampNeg = i + 1 := nI_clamp (by omega)
  have a1 : nI i + 1 = nI (i + 1) := nI_add i 1
  have v2 : vp_in (nI (i + 2)) n := nI_in (by omega) (by omega)
  have x2 : (nI (i + 2)).toNatClampNeg = i + 2 := nI_clamp (by omega)
  have a2 : nI i + 2 = nI (i + 2) := nI_add i 2
  have v3 : vp_in (nI (i + 3)) n := nI_in (by omega) (by omega)
  have x3 : (nI (i + 3)).toNatClampNeg = i + 3 := nI_clamp (by omega)
  have a3 : nI i + 3 = nI (i + 3) := nI_add i 3
  have v4 : vp_in (nI (i + 4)) n := nI_in (by omega) (by omega)
  have x4 : (nI (i + 4)).toNatClampNeg = i + 4 := nI_clamp (by omega)
  have a4 : nI i + 4 = nI (i + 4) := nI_add i 4
  have a5 : nI i + 5 = nI (i + 5) := nI_add i 5
  refine go 60 (by decide) ?_
  simp only [KX, KY, KZ, KW, KV, Nat.reduceAdd, Nat.reduceSub, Nat.reduceLeDiff, true_and, and_true, true_or, or_true, or_self, reduceCtorEq, if_true, if_false, not_false_eq_true, eq_self, c285h, c285_7, ts_0_41_7, tz_0_41_7, I.sh.e0, hsc, hle, ev, v0, v1, v2, v3, v4, x0, x1, x2, x3, x4, a1, a2, a3, a4, Nat.zero_le, Nat.sub_zero, b1, b2, List.getD_cons_zero, List.getD_cons_succ]
  refine sc_pair (p110 I) (fun w h1 F eF e1 k1 => ?_)
  have hs1 : h1.2.2 = (n, g) := e1.trans hsc
  refine go 60 (by decide) ?_
  simp only [KX, KY, KZ, KW, KV, Nat.reduceAdd, Nat.reduceSub, Nat.reduceLeDiff, true_and, and_true, true_or, or_true, or_self, reduceCtorEq, if_true, if_false, not_false_eq_true, eq_self, c285h, c285_7, ts_0_41_7, tz_0_41_7, hs1, eF, v0, v1, v2, v3, v4, x0, x1, x2, x3, x4, a1, a2, a3, a4, Nat.zero_le, Nat.sub_zero, b1, b2]
  refine k1 _ (fun h2 I2 e2 => ?_)
  refine go 60 (by decide) ?_
  simp only [KX, KY, KZ, KW, KV, Nat.reduceAdd, Nat.reduceSub, Nat.reduceLeDiff, true_and, and_true, true_or, or_true, or_self, reduceCtorEq, if_true, if_false, not_false_eq_true, eq_self, c285h, c285_7, ts_0_41_7, tz_0_41_7, Nat.sub_zero]
  rw [a5]
  exact At_b (K h2 I2 (e2.trans hsc)) (Nat.sub_le _ _) (Nat.sub_le _ _)
theorem k285_8 {h : ma_H} {Q : ma_Q} {B1 B2 i n : Nat} {g : Nat → Int32} (I : Inv h) (hsc : h.2.2 = (n, g)) (hn : n ≤ 320) (hi : i + 5 ≤ n) (b1 : 6 ≤ B1) (b2 : 24 ≤ B2) (ev : g i &&& 63 = 8) (K : ∀ h2, Inv h2 → h2.2.2 = (n, g) → At 285 Q 10 (B1 - 6, B2 - 24) [some (.retAddr 1000), some (.ref 0), some (.ref 80), some (.int (nI (i + 5)))] [] h2) : At 285 Q 10 (B1, B2) [some (.retAddr 1000), some (.ref 0), some (.ref 80), some (.int (nI i))] [] h := by
  have hle : nI i ≤ nI n - 5 := by rw [show (5 : Int32) = nI 5 from rfl, nI_sub (by omega)]; exact nI_le (by omega) (by omega)
  have v0 : vp_in (nI (i)) n := nI_in (by omega) (by omega)
  have x0 : (nI (i)).toNatClampNeg = i := nI_clamp (by omega)
  have v1 : vp_in (nI (i + 1)) n := nI_in (by omega) (by omega)
  have x1 : (nI (i + 1)).toNatClampNeg = i + 1 := nI_clamp (by omega)
  have a1 : nI i + 1 = nI (i + 1) := nI_add i 1
  have v2 : vp_in (nI (i + 2)) n := nI_in (by omega) (by omega)
  have x2 : (nI (i + 2)).toNatClampNeg = i + 2 := nI_clamp (by omega)
  have a2 : nI i + 2 = nI (i + 2) := nI_add i 2
  have v3 : vp_in (nI (i + 3)) n := nI_in (by omega) (by omega)
  have x3 : (nI (i + 3)).toNatClampNeg = i + 3 := nI_clamp (by omega)
  have a3 : nI i + 3 = nI (i + 3) := nI_add i 3
  have v4 : vp_in (nI (i + 4)) n := nI_in (by omega) (by omega)
  have x4 : (nI (i + 4)).toNatClampNeg = i + 4 := nI_clamp (by omega)
  have a4 : nI i + 4 = nI (i + 4) := nI_add i 4
  have a5 : nI i + 5 = nI (i + 5) := nI_add i 5
  by_cases z : g (i + 3) = 0
  · refine go 60 (by decide) ?_
    simp only [KX, KY, KZ, KW, KV, Nat.reduceAdd, Nat.reduceSub, Nat.reduceLeDiff, true_and, and_true, true_or, or_true, or_self, reduceCtorEq, if_true, if_false, not_false_eq_true, eq_self, c285h, c285_8, ts_0_41_8, tz_0_41_8, I.sh.e0, hsc, hle, ev, v0, v1, v2, v3, v4, x0, x1, x2, x3, x4, a1, a2, a3, a4, Nat.zero_le, Nat.sub_zero, b1, b2, List.getD_cons_zero, List.getD_cons_succ, z]
    refine go 60 (by decide) ?_
    simp only [KX, KY, KZ, KW, KV, Nat.reduceAdd, Nat.reduceSub, Nat.reduceLeDiff, true_and, and_true, true_or, or_true, or_self, reduceCtorEq, if_true, if_false, not_false_eq_true, eq_self, c285h, c285_8, ts_0_41_8, tz_0_41_8, I.sh.e0, hsc, hle, ev, v0, v1, v2, v3, v4, x0, x1, x2, x3, x4, a1, a2, a3, a4, Nat.zero_le, Nat.sub_zero, b1, b2, List.getD_cons_zero, List.getD_cons_succ, z]
    refine sc_pair (p111_0 I) (fun w h1 F eF e1 k1 => ?_)
    have hs1 : h1.2.2 = (n, g) := e1.trans hsc
    refine go 60 (by decide) ?_
    simp only [KX, KY, KZ, KW, KV, Nat.reduceAdd, Nat.reduceSub, Nat.reduceLeDiff, true_and, and_true, true_or, or_true, or_self, reduceCtorEq, if_true, if_false, not_false_eq_true, eq_self, c285h, c285_8, ts_0_41_8, tz_0_41_8, hs1, eF, v0, v1, v2, v3, v4, x0, x1, x2, x3, x4, a1, a2, a3, a4, Nat.zero_le, Nat.sub_zero, b1, b2, z]
    refine go 60 (by decide) ?_
    simp only [KX, KY, KZ, KW, KV, Nat.reduceAdd, Nat.reduceSub, Nat.reduceLeDiff, true_and, and_true, true_or, or_true, or_self, reduceCtorEq, if_true, if_false, not_false_eq_true, eq_self, c285h, c285_8, ts_0_41_8, tz_0_41_8, hs1, eF, v0, v1, v2, v3, v4, x0, x1, x2, x3, x4, a1, a2, a3, a4, Nat.zero_le, Nat.sub_zero, b1, b2, z]
    refine k1 _ (fun h2 I2 e2 => ?_)
    refine go 60 (by decide) ?_
    simp only [KX, KY, KZ, KW, KV, Nat.reduceAdd, Nat.reduceSub, Nat.reduceLeDiff, true_and, and_true, true_or, or_true, or_self, reduceCtorEq, if_true, if_false, not_false_eq_true, eq_self, c285h, c285_8, ts_0_41_8, tz_0_41_8, Nat.sub_zero]
    rw [a5]
    exact At_b (K h2 I2 (e2.trans hsc)) (Nat.sub_le _ _) (Nat.sub_le _ _)
  · refine go 60 (by decide) ?_
    simp only [KX, KY, KZ, KW, KV, Nat.reduceAdd, Nat.reduceSub, Nat.reduceLeDiff, true_and, and_true, true_or, or_true, or_self, reduceCtorEq, if_true, if_false, not_false_eq_true, eq_self, c285h, c285_8, ts_0_41_8, tz_0_41_8, I.sh.e0, hsc, hle, ev, v0, v1, v2, v3, v4, x0, x1, x2, x3, x4, a1, a2, a3, a4, Nat.zero_le, Nat.sub_zero, b1, b2, List.getD_cons_zero, List.getD_cons_succ, z]
    refine go 60 (by decide) ?_
    simp only [KX, KY, KZ, KW, KV, Nat.reduceAdd, Nat.reduceSub, Nat.reduceLeDiff, true_and, and_true, true_or, or_true, or_self, reduceCtorEq, if_true, if_false, not_false_eq_true, eq_self, c285h, c285_8, ts_0_41_8, tz_0_41_8, I.sh.e0, hsc, hle, ev, v0, v1, v2, v3, v4, x0, x1, x2, x3, x4, a1, a2, a3, a4, Nat.zero_le, Nat.sub_zero, b1, b2, List.getD_cons_zero, List.getD_cons_succ, z]
    refine sc_pair (p111_1 I) (fun w h1 F eF e1 k1 => ?_)
    have hs1 : h1.2.2 = (n, g) := e1.trans hsc
    refine go 60 (by decide) ?_
    simp only [KX, KY, KZ, KW, KV, Nat.reduceAdd, Nat.reduceSub, Nat.reduceLeDiff, true_and, and_true, true_or, or_true, or_self, reduceCtorEq, if_true, if_false, not_false_eq_true, eq_self, c285h, c285_8, ts_0_41_8, tz_0_41_8, hs1, eF, v0, v1, v2, v3, v4, x0, x1, x2, x3, x4, a1, a2, a3, a4, Nat.zero_le, Nat.sub_zero, b1, b2, z]
    refine go 60 (by decide) ?_
    simp only [KX, KY, KZ, KW, KV, Nat.reduceAdd, Nat.reduceSub, Nat.reduceLeDiff, true_and, and_true, true_or, or_true, or_self, reduceCtorEq, if_true, if_false, not_false_eq_true, eq_self, c285h, c285_8, ts_0_41_8, tz_0_41_8, hs1, eF, v0, v1, v2, v3, v4, x0, x1, x2, x3, x4, a1, a2, a3, a4, Nat.zero_le, Nat.sub_zero, b1, b2, z]
    refine k1 _ (fun h2 I2 e2 => ?_)
    refine go 60 (by decide) ?_
    simp only [KX, KY, KZ, KW, KV, Nat.reduceAdd, Nat.reduceSub, Nat.reduceLeDiff, true_and, and_true, true_or, or_true, or_self, reduceCtorEq, if_true, if_false, not_false_eq_true, eq_self, c285h, c285_8, ts_0_41_8, tz_0_41_8, Nat.sub_zero]
    rw [a5]
    exact At_b (K h2 I2 (e2.trans hsc)) (Nat.sub_le _ _) (Nat.sub_le _ _)
theorem k285_9 {h : ma_H} {Q : ma_Q} {B1 B2 i n : Nat} {g : Nat → Int32} (I : Inv h) (hsc : h.2.2 = (n, g)) (hn : n ≤ 320) (hi : i + 5 ≤ n) (b1 : 6 ≤ B1) (b2 : 24 ≤ B2) (ev : g i &&& 63 = 9) (K : ∀ h2, Inv h2 → h2.2.2 = (n, g) → At 285 Q 10 (B1 - 6, B2 - 24) [some (.retAddr 1000), some (.ref 0), some (.ref 80), some (.int (nI (i + 5)))] [] h2) : At 285 Q 10 (B1, B2) [some (.retAddr 1000), some (.ref 0), some (.ref 80), some (.int (nI i))] [] h := by
  have hle : nI i ≤ nI n - 5 := by rw [show (5 : Int32) = nI 5 from rfl, nI_sub (by omega)]; exact nI_le (by omega) (by omega)
  have v0 : vp_in (nI (i)) n := nI_in (by omega) (by omega)
  have x0 : (nI (i)).toNatClampNeg = i := nI_clamp (by omega)
  have v1 : vp_in (nI (i + 1)) n := nI_in (by omega) (by omega)
  have x1 : (nI (i + 1)).toNatClampNeg = i + 1 := nI_clamp (by omega)
  have a1 : nI i + 1 = nI (i + 1) := nI_add i 1
  have v2 : vp_in (nI (i + 2)) n := nI_in (by omega) (by omega)
  have x2 : (nI (i + 2)).toNatClampNeg = i + 2 := nI_clamp (by omega)
  have a2 : nI i + 2 = nI (i + 2) := nI_add i 2
  have v3 : vp_in (nI (i + 3)) n := nI_in (by omega) (by omega)
  have x3 : (nI (i + 3)).toNatClampNeg = i + 3 := nI_clamp (by omega)
  have a3 : nI i + 3 = nI (i + 3) := nI_add i 3
  have v4 : vp_in (nI (i + 4)) n := nI_in (by omega) (by omega)
  have x4 : (nI (i + 4)).toNatClampNeg = i + 4 := nI_clamp (by omega)
  have a4 : nI i + 4 = nI (i + 4) := nI_add i 4
  have a5 : nI i + 5 = nI (i + 5) := nI_add i 5
  refine go 60 (by decide) ?_
  simp only [KX, KY, KZ, KW, KV, Nat.reduceAdd, Nat.reduceSub, Nat.reduceLeDiff, true_and, and_true, true_or, or_true, or_self, reduceCtorEq, if_true, if_false, not_false_eq_true, eq_self, c285h, c285_9, ts_0_41_9, tz_0_41_9, I.sh.e0, hsc, hle, ev, v0, v1, v2, v3, v4, x0, x1, x2, x3, x4, a1, a2, a3, a4, Nat.zero_le, Nat.sub_zero, b1, b2, List.getD_cons_zero, List.getD_cons_succ]
  refine sc_pair (p112 I) (fun w h1 F eF e1 k1 => ?_)
  have hs1 : h1.2.2 = (n, g) := e1.trans hsc
  refine go 60 (by decide) ?_
  simp only [KX, KY, KZ, KW, KV, Nat.reduceAdd, Nat.reduceSub, Nat.reduceLeDiff, true_and, and_true, true_or, or_true, or_self, reduceCtorEq, if_true, if_false, not_false_eq_true, eq_self, c285h, c285_9, ts_0_41_9, tz_0_41_9, hs1, eF, v0, v1, v2, v3, v4, x0, x1, x2, x3, x4, a1, a2, a3, a4, Nat.zero_le, Nat.sub_zero, b1, b2]
  refine k1 _ (fun h2 I2 e2 => ?_)
  refine go 60 (by decide) ?_
  simp only [KX, KY, KZ, KW, KV, Nat.reduceAdd, Nat.reduceSub, Nat.reduceLeDiff, true_and, and_true, true_or, or_true, or_self, reduceCtorEq, if_true, if_false, not_false_eq_true, eq_self, c285h, c285_9, ts_0_41_9, tz_0_41_9, Nat.sub_zero]
  rw [a5]
  exact At_b (K h2 I2 (e2.trans hsc)) (Nat.sub_le _ _) (Nat.sub_le _ _)
theorem k285_10 {h : ma_H} {Q : ma_Q} {B1 B2 i n : Nat} {g : Nat → Int32} (I : Inv h) (hsc : h.2.2 = (n, g)) (hn : n ≤ 320) (hi : i + 5 ≤ n) (b1 : 6 ≤ B1) (b2 : 24 ≤ B2) (ev : g i &&& 63 = 10) (K : ∀ h2, Inv h2 → h2.2.2 = (n, g) → At 285 Q 10 (B1 - 6, B2 - 24) [some (.retAddr 1000), some (.ref 0), some (.ref 80), some (.int (nI (i + 5)))] [] h2) : At 285 Q 10 (B1, B2) [some (.retAddr 1000), some (.ref 0), some (.ref 80), some (.int (nI i))] [] h := by
  have hle : nI i ≤ nI n - 5 := by rw [show (5 : Int32) = nI 5 from rfl, nI_sub (by omega)]; exact nI_le (by omega) (by omega)
  have v0 : vp_in (nI (i)) n := nI_in (by omega) (by omega)
  have x0 : (nI (i)).toNatClampNeg = i := nI_clamp (by omega)
  have v1 : vp_in (nI (i + 1)) n := nI_in (by omega) (by omega)
  have x1 : (nI (i + 1)).toNatClampNeg = i + 1 := nI_clamp (by omega)
  have a1 : nI i + 1 = nI (i + 1) := nI_add i 1
  have v2 : vp_in (nI (i + 2)) n := nI_in (by omega) (by omega)
  have x2 : (nI (i + 2)).toNatClampNeg = i + 2 := nI_clamp (by omega)
  have a2 : nI i + 2 = nI (i + 2) := nI_add i 2
  have v3 : vp_in (nI (i + 3)) n := nI_in (by omega) (by omega)
  have x3 : (nI (i + 3)).toNatClampNeg = i + 3 := nI_clamp (by omega)
  have a3 : nI i + 3 = nI (i + 3) := nI_add i 3
  have v4 : vp_in (nI (i + 4)) n := nI_in (by omega) (by omega)
  have x4 : (nI (i + 4)).toNatClampNeg = i + 4 := nI_clamp (by omega)
  have a4 : nI i + 4 = nI (i + 4) := nI_add i 4
  have a5 : nI i + 5 = nI (i + 5) := nI_add i 5
  refine go 60 (by decide) ?_
  simp only [KX, KY, KZ, KW, KV, Nat.reduceAdd, Nat.reduceSub, Nat.reduceLeDiff, true_and, and_true, true_or, or_true, or_self, reduceCtorEq, if_true, if_false, not_false_eq_true, eq_self, c285h, c285_10, ts_0_41_10, tz_0_41_10, I.sh.e0, hsc, hle, ev, v0, v1, v2, v3, v4, x0, x1, x2, x3, x4, a1, a2, a3, a4, Nat.zero_le, Nat.sub_zero, b1, b2, List.getD_cons_zero, List.getD_cons_succ]
  refine sc_pair (p113 I) (fun w h1 F eF e1 k1 => ?_)
  have hs1 : h1.2.2 = (n, g) := e1.trans hsc
  refine go 60 (by decide) ?_
  simp only [KX, KY, KZ, KW, KV, Nat.reduceAdd, Nat.reduceSub, Nat.reduceLeDiff, true_and, and_true, true_or, or_true, or_self, reduceCtorEq, if_true, if_false, not_false_eq_true, eq_self, c285h, c285_10, ts_0_41_10, tz_0_41_10, hs1, eF, v0, v1, v2, v3, v4, x0, x1, x2, x3, x4, a1, a2, a3, a4, Nat.zero_le, Nat.sub_zero, b1, b2]
  refine k1 _ (fun h2 I2 e2 => ?_)
  refine go 60 (by decide) ?_
  simp only [KX, KY, KZ, KW, KV, Nat.reduceAdd, Nat.reduceSub, Nat.reduceLeDiff, true_and, and_true, true_or, or_true, or_self, reduceCtorEq, if_true, if_false, not_false_eq_true, eq_self, c285h, c285_10, ts_0_41_10, tz_0_41_10, Nat.sub_zero]
  rw [a5]
  exact At_b (K h2 I2 (e2.trans hsc)) (Nat.sub_le _ _) (Nat.sub_le _ _)
theorem k285_11 {h : ma_H} {Q : ma_Q} {B1 B2 i n : Nat} {g : Nat → Int32} (I : Inv h) (hsc : h.2.2 = (n, g)) (hn : n ≤ 320) (hi : i + 5 ≤ n) (b1 : 6 ≤ B1) (b2 : 24 ≤ B2) (ev : g i &&& 63 = 11) (K : ∀ h2, Inv h2 → h2.2.2 = (n, g) → At 285 Q 10 (B1 - 6, B2 - 24) [some (.retAddr 1000), some (.ref 0), some (.ref 80), some (.int (nI (i + 5)))] [] h2) : At 285 Q 10 (B1, B2) [some (.retAddr 1000), some (.ref 0), some (.ref 80), some (.int (nI i))] [] h := by
  have hle : nI i ≤ nI n - 5 := by rw [show (5 : Int32) = nI 5 from rfl, nI_sub (by omega)]; exact nI_le (by omega) (by omega)
  have v0 : vp_in (nI (i)) n := nI_in (by omega) (by omega)
  have x0 : (nI (i)).toNatClampNeg = i := nI_clamp (by omega)
  have v1 : vp_in (nI (i + 1)) n := nI_in (by omega) (by omega)
  have x1 : (nI (i + 1)).toNatClampNeg = i + 1 := nI_clamp (by omega)
  have a1 : nI i + 1 = nI (i + 1) := nI_add i 1
  have v2 : vp_in (nI (i + 2)) n := nI_in (by omega) (by omega)
  have x2 : (nI (i + 2)).toNatClampNeg = i + 2 := nI_clamp (by omega)
  have a2 : nI i + 2 = nI (i + 2) := nI_add i 2
  have v3 : vp_in (nI (i + 3)) n := nI_in (by omega) (by omega)
  have x3 : (nI (i + 3)).toNatClampNeg = i + 3 := nI_clamp (by omega)
  have a3 : nI i + 3 = nI (i + 3) := nI_add i 3
  have v4 : vp_in (nI (i + 4)) n := nI_in (by omega) (by omega)
  have x4 : (nI (i + 4)).toNatClampNeg = i + 4 := nI_clamp (by omega)
  have a4 : nI i + 4 = nI (i + 4) := nI_add i 4
  have a5 : nI i + 5 = nI (i + 5) := nI_add i 5
  refine go 60 (by decide) ?_
  simp only [KX, KY, KZ, KW, KV, Nat.reduceAdd, Nat.reduceSub, Nat.reduceLeDiff, true_and, and_true, true_or, or_true, or_self, reduceCtorEq, if_true, if_false, not_false_eq_true, eq_self, c285h, c285_11, ts_0_41_11, tz_0_41_11, I.sh.e0, hsc, hle, ev, v0, v1, v2, v3, v4, x0, x1, x2, x3, x4, a1, a2, a3, a4, Nat.zero_le, Nat.sub_zero, b1, b2, List.getD_cons_zero, List.getD_cons_succ]
  refine sc_pair (p114 I) (fun w h1 F eF e1 k1 => ?_)
  have hs1 : h1.2.2 = (n, g) := e1.trans hsc
  refine go 60 (by decide) ?_
  simp only [KX, KY, KZ, KW, KV, Nat.reduceAdd, Nat.reduceSub, Nat.reduceLeDiff, true_and, and_true, true_or, or_true, or_self, reduceCtorEq, if_true, if_false, not_false_eq_true, eq_self, c285h, c285_11, ts_0_41_11, tz_0_41_11, hs1, eF, v0, v1, v2, v3, v4, x0, x1, x2, x3, x4, a1, a2, a3, a4, Nat.zero_le, Nat.sub_zero, b1, b2]
  refine k1 _ (fun h2 I2 e2 => ?_)
  refine go 60 (by decide) ?_
  simp only [KX, KY, KZ, KW, KV, Nat.reduceAdd, Nat.reduceSub, Nat.reduceLeDiff, true_and, and_true, true_or, or_true, or_self, reduceCtorEq, if_true, if_false, not_false_eq_true, eq_self, c285h, c285_11, ts_0_41_11, tz_0_41_11, Nat.sub_zero]
  rw [a5]
  exact At_b (K h2 I2 (e2.trans hsc)) (Nat.sub_le _ _) (Nat.sub_le _ _)
theorem k285_12 {h : ma_H} {Q : ma_Q} {B1 B2 i n : Nat} {g : Nat → Int32} (I : Inv h) (hsc : h.2.2 = (n, g)) (hn : n ≤ 320) (hi : i + 5 ≤ n) (b1 : 6 ≤ B1) (b2 : 24 ≤ B2) (ev : g i &&& 63 = 12) (K : ∀ h2, Inv h2 → h2.2.2 = (n, g) → At 285 Q 10 (B1 - 6, B2 - 24) [some (.retAddr 1000), some (.ref 0), some (.ref 80), some (.int (nI (i + 5)))] [] h2) : At 285 Q 10 (B1, B2) [some (.retAddr 1000), some (.ref 0), some (.ref 80), some (.int (nI i))] [] h := by
  have hle : nI i ≤ nI n - 5 := by rw [show (5 : Int32) = nI 5 from rfl, nI_sub (by omega)]; exact nI_le (by omega) (by omega)
  have v0 : vp_in (nI (i)) n := nI_in (by omega) (by omega)
  have x0 : (nI (i)).toNatClampNeg = i := nI_clamp (by omega)
  have v1 : vp_in (nI (i + 1)) n := nI_in (by omega) (by omega)
  have x1 : (nI (i + 1)).toNatClampNeg = i + 1 := nI_clamp (by omega)
  have a1 : nI i + 1 = nI (i + 1) := nI_add i 1
  have v2 : vp_in (nI (i + 2)) n := nI_in (by omega) (by omega)
  have x2 : (nI (i + 2)).toNatClampNeg = i + 2 := nI_clamp (by omega)
  have a2 : nI i + 2 = nI (i + 2) := nI_add i 2
  have v3 : vp_in (nI (i + 3)) n := nI_in (by omega) (by omega)
  have x3 : (nI (i + 3)).toNatClampNeg = i + 3 := nI_clamp (by omega)
  have a3 : nI i + 3 = nI (i + 3) := nI_add i 3
  have v4 : vp_in (nI (i + 4)) n := nI_in (by omega) (by omega)
  have x4 : (nI (i + 4)).toNatClampNeg = i + 4 := nI_clamp (by omega)
  have a4 : nI i + 4 = nI (i + 4) := nI_add i 4
  have a5 : nI i + 5 = nI (i + 5) := nI_add i 5
  refine go 60 (by decide) ?_
  simp only [KX, KY, KZ, KW, KV, Nat.reduceAdd, Nat.reduceSub, Nat.reduceLeDiff, true_and, and_true, true_or, or_true, or_self, reduceCtorEq, if_true, if_false, not_false_eq_true, eq_self, c285h, c285_12, ts_0_41_12, tz_0_41_12, I.sh.e0, hsc, hle, ev, v0, v1, v2, v3, v4, x0, x1, x2, x3, x4, a1, a2, a3, a4, Nat.zero_le, Nat.sub_zero, b1, b2, List.getD_cons_zero, List.getD_cons_succ]
  refine sc_pair (p115 I) (fun w h1 F eF e1 k1 => ?_)
  have hs1 : h1.2.2 = (n, g) := e1.trans hsc
  refine go 60 (by decide) ?_
  simp only [KX, KY, KZ, KW, KV, Nat.reduceAdd, Nat.reduceSub, Nat.reduceLeDiff, true_and, and_true, true_or, or_true, or_self, reduceCtorEq, if_true, if_false, not_false_eq_true, eq_self, c285h, c285_12, ts_0_41_12, tz_0_41_12, hs1, eF, v0, v1, v2, v3, v4, x0, x1, x2, x3, x4, a1, a2, a3, a4, Nat.zero_le, Nat.sub_zero, b1, b2]
  refine k1 _ (fun h2 I2 e2 => ?_)
  refine go 60 (by decide) ?_
  simp only [KX, KY, KZ, KW, KV, Nat.reduceAdd, Nat.reduceSub, Nat.reduceLeDiff, true_and, and_true, true_or, or_true, or_self, reduceCtorEq, if_true, if_false, not_false_eq_true, eq_self, c285h, c285_12, ts_0_41_12, tz_0_41_12, Nat.sub_zero]
  rw [a5]
  exact At_b (K h2 I2 (e2.trans hsc)) (Nat.sub_le _ _) (Nat.sub_le _ _)
theorem k285_13 {h : ma_H} {Q : ma_Q} {B1 B2 i n : Nat} {g : Nat → Int32} (I : Inv h) (hsc : h.2.2 = (n, g)) (hn : n ≤ 320) (hi : i + 5 ≤ n) (b1 : 6 ≤ B1) (b2 : 24 ≤ B2) (ev : g i &&& 63 = 13) (K : ∀ h2, Inv h2 → h2.2.2 = (n, g) → At 285 Q 10 (B1 - 6, B2 - 24) [some (.retAddr 1000), some (.ref 0), some (.ref 80), some (.int (nI (i + 5)))] [] h2) : At 285 Q 10 (B1, B2) [some (.retAddr 1000), some (.ref 0), some (.ref 80), some (.int (nI i))] [] h := by
  have hle : nI i ≤ nI n - 5 := by rw [show (5 : Int32) = nI 5 from rfl, nI_sub (by omega)]; exact nI_le (by omega) (by omega)
  have v0 : vp_in (nI (i)) n := nI_in (by omega) (by omega)
  have x0 : (nI (i)).toNatClampNeg = i := nI_clamp (by omega)
  have v1 : vp_in (nI (i + 1)) n := nI_in (by omega) (by omega)
  have x1 : (nI (i + 1)).toNatClampNeg = i + 1 := nI_clamp (by omega)
  have a1 : nI i + 1 = nI (i + 1) := nI_add i 1
  have v2 : vp_in (nI (i + 2)) n := nI_in (by omega) (by omega)
  have x2 : (nI (i + 2)).toNatClampNeg = i + 2 := nI_clamp (by omega)
  have a2 : nI i + 2 = nI (i + 2) := nI_add i 2
  have v3 : vp_in (nI (i + 3)) n := nI_in (by omega) (by omega)
  have x3 : (nI (i + 3)).toNatClampNeg = i + 3 := nI_clamp (by omega)
  have a3 : nI i + 3 = nI (i + 3) := nI_add i 3
  have v4 : vp_in (nI (i + 4)) n := nI_in (by omega) (by omega)
  have x4 : (nI (i + 4)).toNatClampNeg = i + 4 := nI_clamp (by omega)
  have a4 : nI i + 4 = nI (i + 4) := nI_add i 4
  have a5 : nI i + 5 = nI (i + 5) := nI_add i 5
  refine go 60 (by decide) ?_
  simp only [KX, KY, KZ, KW, KV, Nat.reduceAdd, Nat.reduceSub, Nat.reduceLeDiff, true_and, and_true, true_or, or_true, or_self, reduceCtorEq, if_true, if_false, not_false_eq_true, eq_self, c285h, c285_13, ts_0_41_13, tz_0_41_13, I.sh.e0, hsc, hle, ev, v0, v1, v2, v3, v4, x0, x1, x2, x3, x4, a1, a2, a3, a4, Nat.zero_le, Nat.sub_zero, b1, b2, List.getD_cons_zero, List.getD_cons_succ]
  refine sc_pair (p116 I) (fun w h1 F eF e1 k1 => ?_)
  have hs1 : h1.2.2 = (n, g) := e1.trans hsc
  refine go 60 (by decide) ?_
  simp only [KX, KY, KZ, KW, KV, Nat.reduceAdd, Nat.reduceSub, Nat.reduceLeDiff, true_and, and_true, true_or, or_true, or_self, reduceCtorEq, if_true, if_false, not_false_eq_true, eq_self, c285h, c285_13, ts_0_41_13, tz_0_41_13, hs1, eF, v0, v1, v2, v3, v4, x0, x1, x2, x3, x4, a1, a2, a3, a4, Nat.zero_le, Nat.sub_zero, b1, b2]
  refine k1 _ (fun h2 I2 e2 => ?_)
  refine go 60 (by decide) ?_
  simp only [KX, KY, KZ, KW, KV, Nat.reduceAdd, Nat.reduceSub, Nat.reduceLeDiff, true_and, and_true, true_or, or_true, or_self, reduceCtorEq, if_true, if_false, not_false_eq_true, eq_self, c285h, c285_13, ts_0_41_13, tz_0_41_13, Nat.sub_zero]
  rw [a5]
  exact K h2 I2 (e2.trans hsc)
