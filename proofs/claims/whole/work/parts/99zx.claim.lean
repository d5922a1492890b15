/-! the law: calls 28 to 41 -/
theorem k285_28 {h : ma_H} {Q : ma_Q} {B1 B2 i n : Nat} {g : Nat → Int32} (I : Inv h) (hsc : h.2.2 = (n, g)) (hn : n ≤ 320) (hi : i + 5 ≤ n) (b1 : 6 ≤ B1) (b2 : 24 ≤ B2) (ev : g i &&& 63 = 28) (K : ∀ h2, Inv h2 → h2.2.2 = (n, g) → At 285 Q 10 (B1 - 6, B2 - 24) [some (.retAddr 1000), some (.ref 0), some (.ref 80), some (.int (nI (i + 5)))] [] h2) : At 285 Q 10 (B1, B2) [some (.retAddr 1000), some (.ref 0), some (.ref 80), some (.int (nI i))] [] h := by
  have hle : nI i ≤ nI n - 5 := by rw [show (5 : Int32) = nI 5 from rfl, nI_sub (by omega)]; exact nI_le (by omega) (by omega)
  have v0 : vp_in (nI (i)) n := nI_in (by omega) (by omega)
  have x0 : (nI (i)).toNatClampNeg = i := nI_clamp (by omega)
  have v1 : vp_in (nI (i + 1)) n := nI_in (by omega) (by omega)
  have x1 : (nI (i + 1)).toNatClampNeg = i + 1 := nI_clamp (by omega)
  have a1 : nI i + 1 = nI (i + 1) := nI_add i 1
  have v2 : vp_in (nI (i + 2)) n := nI_in (by omega) (by omega)
  have x2 : (nI (i + 2)).toNatClampNeg = i + 2 := nI_clamp (by omega)
  have a2 : nI i + 2 = nI (i + 2) := nI_add i 2
  have v3 : vp_in (nI (i + 3)) n := nI_in (by omega) (by omega)
  have x3 : (nI (i + 3)).toNatClampNeg = i + 3 := nI_clamp (by omega)
  have a3 : nI i + 3 = nI (i + 3) := nI_add i 3
  have v4 : vp_in (nI (i + 4)) n := nI_in (by omega) (by omega)
  have x4 : (nI (i + 4)).toNatClampNeg = i + 4 := nI_clamp (by omega)
  have a4 : nI i + 4 = nI (i + 4) := nI_add i 4
  have a5 : nI i + 5 = nI (i + 5) := nI_add i 5
  refine go 60 (by decide) ?_
  simp only [KX, KY, KZ, KW, KV, Nat.reduceAdd, Nat.reduceSub, Nat.reduceLeDiff, true_and, and_true, true_or, or_true, or_self, reduceCtorEq, if_true, if_false, not_false_eq_true, eq_self, c285h, c285_28, ts_0_41_28, tz_0_41_28, I.sh.e0, hsc, hle, ev, v0, v1, v2, v3, v4, x0, x1, x2, x3, x4, a1, a2, a3, a4, Nat.zero_le, Nat.sub_zero, b1, b2, List.getD_cons_zero, List.getD_cons_succ]
  refine sc_pair (p131 I) (fun w h1 F eF e1 k1 => ?_)
  have hs1 : h1.2.2 = (n, g) := e1.trans hsc
  refine go 60 (by decide) ?_
  simp only [KX, KY, KZ, KW, KV, Nat.reduceAdd, Nat.reduceSub, Nat.reduceLeDiff, true_and, and_true, true_or, or_true, or_self, reduceCtorEq, if_true, if_false, not_false_eq_true, eq_self, c285h, c285_28, ts_0_41_28, tz_0_41_28, hs1, eF, v0, v1, v2, v3, v4, x0, x1, x2, x3, x4, a1, a2, a3, a4, Nat.zero_le, Nat.sub_zero, b1, b2]
  refine k1 _ (fun h2 I2 e2 => ?_)
  refine go 60 (by decide) ?_
  simp only [KX, KY, KZ, KW, KV, Nat.reduceAdd, Nat.reduceSub, Nat.reduceLeDiff, true_and, and_true, true_or, or_true, or_self, reduceCtorEq, if_true, if_false, not_false_eq_true, eq_self, c285h, c285_28, ts_0_41_28, tz_0_41_28, Nat.sub_zero]
  rw [a5]
  exact At_b (K h2 I2 (e2.trans hsc)) (Nat.sub_le _ _) (Nat.sub_le _ _)
theorem k285_29 {h : ma_H} {Q : ma_Q} {B1 B2 i n : Nat} {g : Nat → Int32} (I : Inv h) (hsc : h.2.2 = (n, g)) (hn : n ≤ 320) (hi : i + 5 ≤ n) (b1 : 6 ≤ B1) (b2 : 24 ≤ B2) (ev : g i &&& 63 = 29) (K : ∀ h2, Inv h2 → h2.2.2 = (n, g) → At 285 Q 10 (B1 - 6, B2 - 24) [some (.retAddr 1000), some (.ref 0), some (.ref 80), some (.int (nI (i + 5)))] [] h2) : At 285 Q 10 (B1, B2) [some (.retAddr 1000), some (.ref 0), some (.ref 80), some (.int (nI i))] [] h := by
  have hle : nI i ≤ nI n - 5 := by rw [show (5 : Int32) = nI 5 from rfl, nI_sub (by omega)]; exact nI_le (by omega) (by omega)
  have v0 : vp_in (nI (i)) n := nI_in (by omega) (by omega)
  have x0 : (nI (i)).toNatClampNeg = i := nI_clamp (by omega)
  have v1 : vp_in (nI (i + 1)) n := nI_in (by omega) (by omega)
  have x1 : (nI (i + 1)).toNatClampNeg = i + 1 := nI_clamp (by omega)
  have a1 : nI i + 1 = nI (i + 1) := nI_add i 1
  have v2 : vp_in (nI (i + 2)) n := nI_in (by omega) (by omega)
  have x2 : (nI (i + 2)).toNatClampNeg = i + 2 := nI_clamp (by omega)
  have a2 : nI i + 2 = nI (i + 2) := nI_add i 2
  have v3 : vp_in (nI (i + 3)) n := nI_in (by omega) (by omega)
  have x3 : (nI (i + 3)).toNatClampNeg = i + 3 := nI_clamp (by omega)
  have a3 : nI i + 3 = nI (i + 3) := nI_add i 3
  have v4 : vp_in (nI (i + 4)) n := nI_in (by omega) (by omega)
  have x4 : (nI (i + 4)).toNatClampNeg = i + 4 := nI_clamp (by omega)
  have a4 : nI i + 4 = nI (i + 4) := nI_add i 4
  have a5 : nI i + 5 = nI (i + 5) := nI_add i 5
  refine go 60 (by decide) ?_
  simp only [KX, KY, KZ, KW, KV, Nat.reduceAdd, Nat.reduceSub, Nat.reduceLeDiff, true_and, and_true, true_or, or_true, or_self, reduceCtorEq, if_true, if_false, not_false_eq_true, eq_self, c285h, c285_29, ts_0_41_29, tz_0_41_29, I.sh.e0, hsc, hle, ev, v0, v1, v2, v3, v4, x0, x1, x2, x3, x4, a1, a2, a3, a4, Nat.zero_le, Nat.sub_zero, b1, b2, List.getD_cons_zero, List.getD_cons_succ]
  refine sc_pair (p132 I) (fun w h1 F eF e1 k1 => ?_)
  have hs1 : h1.2.2 = (n, g) := e1.trans hsc
  refine go 60 (by decide) ?_
  simp only [KX, KY, KZ, KW, KV, Nat.reduceAdd, Nat.reduceSub, Nat.reduceLeDiff, true_and, and_true, true_or, or_true, or_self, reduceCtorEq, if_true, if_false, not_false_eq_true, eq_self, c285h, c285_29, ts_0_41_29, tz_0_41_29, hs1, eF, v0, v1, v2, v3, v4, x0, x1, x2, x3, x4, a1, a2, a3, a4, Nat.zero_le, Nat.sub_zero, b1, b2]
  refine k1 _ (fun h2 I2 e2 => ?_)
  refine go 60 (by decide) ?_
  simp only [KX, KY, KZ, KW, KV, Nat.reduceAdd, Nat.reduceSub, Nat.reduceLeDiff, true_and, and_true, true_or, or_true, or_self, reduceCtorEq, if_true, if_false, not_false_eq_true, eq_self, c285h, c285_29, ts_0_41_29, tz_0_41_29, Nat.sub_zero]
  rw [a5]
  exact At_b (K h2 I2 (e2.trans hsc)) (Nat.sub_le _ _) (Nat.sub_le _ _)
theorem k285_30 {h : ma_H} {Q : ma_Q} {B1 B2 i n : Nat} {g : Nat → Int32} (I : Inv h) (hsc : h.2.2 = (n, g)) (hn : n ≤ 320) (hi : i + 5 ≤ n) (b1 : 6 ≤ B1) (b2 : 24 ≤ B2) (ev : g i &&& 63 = 30) (K : ∀ h2, Inv h2 → h2.2.2 = (n, g) → At 285 Q 10 (B1 - 6, B2 - 24) [some (.retAddr 1000), some (.ref 0), some (.ref 80), some (.int (nI (i + 5)))] [] h2) : At 285 Q 10 (B1, B2) [some (.retAddr 1000), some (.ref 0), some (.ref 80), some (.int (nI i))] [] h := by
  have hle : nI i ≤ nI n - 5 := by rw [show (5 : Int32) = nI 5 from rfl, nI_sub (by omega)]; exact nI_le (by omega) (by omega)
  have v0 : vp_in (nI (i)) n := nI_in (by omega) (by omega)
  have x0 : (nI (i)).toNatClampNeg = i := nI_clamp (by omega)
  have v1 : vp_in (nI (i + 1)) n := nI_in (by omega) (by omega)
  have x1 : (nI (i + 1)).toNatClampNeg = i + 1 := nI_clamp (by omega)
  have a1 : nI i + 1 = nI (i + 1) := nI_add i 1
  have v2 : vp_in (nI (i + 2)) n := nI_in (by omega) (by omega)
  have x2 : (nI (i + 2)).toNatClampNeg = i + 2 := nI_clamp (by omega)
  have a2 : nI i + 2 = nI (i + 2) := nI_add i 2
  have v3 : vp_in (nI (i + 3)) n := nI_in (by omega) (by omega)
  have x3 : (nI (i + 3)).toNatClampNeg = i + 3 := nI_clamp (by omega)
  have a3 : nI i + 3 = nI (i + 3) := nI_add i 3
  have v4 : vp_in (nI (i + 4)) n := nI_in (by omega) (by omega)
  have x4 : (nI (i + 4)).toNatClampNeg = i + 4 := nI_clamp (by omega)
  have a4 : nI i + 4 = nI (i + 4) := nI_add i 4
  have a5 : nI i + 5 = nI (i + 5) := nI_add i 5
  refine go 60 (by decide) ?_
  simp only [KX, KY, KZ, KW, KV, Nat.reduceAdd, Nat.reduceSub, Nat.reduceLeDiff, true_and, and_true, true_or, or_true, or_self, reduceCtorEq, if_true, if_false, not_false_eq_true, eq_self, c285h, c285_30, ts_0_41_30, tz_0_41_30, I.sh.e0, hsc, hle, ev, v0, v1, v2, v3, v4, x0, x1, x2, x3, x4, a1, a2, a3, a4, Nat.zero_le, Nat.sub_zero, b1, b2, List.getD_cons_zero, List.getD_cons_succ]
  refine sc_pair (p133 I) (fun w h1 F eF e1 k1 => ?_)
  have hs1 : h1.2.2 = (n, g) := e1.trans hsc
  refine go 60 (by decide) ?_
  simp only [KX, KY, KZ, KW, KV, Nat.reduceAdd, Nat.reduceSub, Nat.reduceLeDiff, true_and, and_true, true_or, or_true, or_self, reduceCtorEq, if_true, if_false, not_false_eq_true, eq_self, c285h, c285_30, ts_0_41_30, tz_0_41_30, hs1, eF, v0, v1, v2, v3, v4, x0, x1, x2, x3, x4, a1, a2, a3, a4, Nat.zero_le, Nat.sub_zero, b1, b2]
  refine k1 _ (fun h2 I2 e2 => ?_)
  refine go 60 (by decide) ?_
  simp only [KX, KY, KZ, KW, KV, Nat.reduceAdd, Nat.reduceSub, Nat.reduceLeDiff, true_and, and_true, true_or, or_true, or_self, reduceCtorEq, if_true, if_false, not_false_eq_true, eq_self, c285h, c285_30, ts_0_41_30, tz_0_41_30, Nat.sub_zero]
  rw [a5]
  exact At_b (K h2 I2 (e2.trans hsc)) (Nat.sub_le _ _) (Nat.sub_le _ _)
theorem k285_31 {h : ma_H} {Q : ma_Q} {B1 B2 i n : Nat} {g : Nat → Int32} (I : Inv h) (hsc : h.2.2 = (n, g)) (hn : n ≤ 320) (hi : i + 5 ≤ n) (b1 : 6 ≤ B1) (b2 : 24 ≤ B2) (ev : g i &&& 63 = 31) (K : ∀ h2, Inv h2 → h2.2.2 = (n, g) → At 285 Q 10 (B1 - 6, B2 - 24) [some (.retAddr 1000), some (.ref 0), some (.ref 80), some (.int (nI (i + 5)))] [] h2) : At 285 Q 10 (B1, B2) [some (.retAddr 1000), some (.ref 0), some (.ref 80), some (.int (nI i))] [] h := by
  have hle : nI i ≤ nI n - 5 := by rw [show (5 : Int32) = nI 5 from rfl, nI_sub (by omega)]; exact nI_le (by omega) (by omega)
  have v0 : vp_in (nI (i)) n := nI_in (by omega) (by omega)
  have x0 : (nI (i)).toNatClampNeg = i := nI_clamp (by omega)
  have v1 : vp_in (nI (i + 1)) n := nI_in (by omega) (by omega)
  have x1 : (nI (i + 1)).toNatClampNeg = i + 1 := nI_clamp (by omega)
  have a1 : nI i + 1 = nI (i + 1) := nI_add i 1
  have v2 : vp_in (nI (i + 2)) n := nI_in (by omega) (by omega)
  have x2 : (nI (i + 2)).toNatClampNeg = i + 2 := nI_clamp (by omega)
  have a2 : nI i + 2 = nI (i + 2) := nI_add i 2
  have v3 : vp_in (nI (i + 3)) n := nI_in (by omega) (by omega)
  have x3 : (nI (i + 3)).toNatClampNeg = i + 3 := nI_clamp (by omega)
  have a3 : nI i + 3 = nI (i + 3) := nI_add i 3
  have v4 : vp_in (nI (i + 4)) n := nI_in (by omega) (by omega)
  have x4 : (nI (i + 4)).toNatClampNeg = i + 4 := nI_clamp (by omega)
  have a4 : nI i + 4 = nI (i + 4) := nI_add i 4
  have a5 : nI i + 5 = nI (i + 5) := nI_add i 5
  refine go 60 (by decide) ?_
  simp only [KX, KY, KZ, KW, KV, Nat.reduceAdd, Nat.reduceSub, Nat.reduceLeDiff, true_and, and_true, true_or, or_true, or_self, reduceCtorEq, if_true, if_false, not_false_eq_true, eq_self, c285h, c285_31, ts_0_41_31, tz_0_41_31, I.sh.e0, hsc, hle, ev, v0, v1, v2, v3, v4, x0, x1, x2, x3, x4, a1, a2, a3, a4, Nat.zero_le, Nat.sub_zero, b1, b2, List.getD_cons_zero, List.getD_cons_succ]
  refine sc_pair (p134 I) (fun w h1 F eF e1 k1 => ?_)
  have hs1 : h1.2.2 = (n, g) := e1.trans hsc
  refine go 60 (by decide) ?_
  simp only [KX, KY, KZ, KW, KV, Nat.reduceAdd, Nat.reduceSub, Nat.reduceLeDiff, true_and, and_true, true_or, or_true, or_self, reduceCtorEq, if_true, if_false, not_false_eq_true, eq_self, c285h, c285_31, ts_0_41_31, tz_0_41_31, hs1, eF, v0, v1, v2, v3, v4, x0, x1, x2, x3, x4, a1, a2, a3, a4, Nat.zero_le, Nat.sub_zero, b1, b2]
  refine k1 _ (fun h2 I2 e2 => ?_)
  refine go 60 (by decide) ?_
  simp only [KX, KY, KZ, KW, KV, Nat.reduceAdd, Nat.reduceSub, Nat.reduceLeDiff, true_and, and_true, true_or, or_true, or_self, reduceCtorEq, if_true, if_false, not_false_eq_true, eq_self, c285h, c285_31, ts_0_41_31, tz_0_41_31, Nat.sub_zero]
  rw [a5]
  exact At_b (K h2 I2 (e2.trans hsc)) (Nat.sub_le _ _) (Nat.sub_le _ _)
theorem k285_32 {h : ma_H} {Q : ma_Q} {B1 B2 i n : Nat} {g : Nat → Int32} (I : Inv h) (hsc : h.2.2 = (n, g)) (hn : n ≤ 320) (hi : i + 5 ≤ n) (b1 : 6 ≤ B1) (b2 : 24 ≤ B2) (ev : g i &&& 63 = 32) (K : ∀ h2, Inv h2 → h2.2.2 = (n, g) → At 285 Q 10 (B1 - 6, B2 - 24) [some (.retAddr 1000), some (.ref 0), some (.ref 80), some (.int (nI (i + 5)))] [] h2) : At 285 Q 10 (B1, B2) [some (.retAddr 1000), some (.ref 0), some (.ref 80), some (.int (nI i))] [] h := by
  have hle : nI i ≤ nI n - 5 := by rw [show (5 : Int32) = nI 5 from rfl, nI_sub (by omega)]; exact nI_le (by omega) (by omega)
  have v0 : vp_in (nI (i)) n := nI_in (by omega) (by omega)
  have x0 : (nI (i)).toNatClampNeg = i := nI_clamp (by omega)
  have v1 : vp_in (nI (i + 1)) n := nI_in (by omega) (by omega)
  have x1 : (nI (i + 1)).toNatClampNeg = i + 1 := nI_clamp (by omega)
  have a1 : nI i + 1 = nI (i + 1) := nI_add i 1
  have v2 : vp_in (nI (i + 2)) n := nI_in (by omega) (by omega)
  have x2 : (nI (i + 2)).toNatClampNeg = i + 2 := nI_clamp (by omega)
  have a2 : nI i + 2 = nI (i + 2) := nI_add i 2
  have v3 : vp_in (nI (i + 3)) n := nI_in (by omega) (by omega)
  have x3 : (nI (i + 3)).toNatClampNeg = i + 3 := nI_clamp (by omega)
  have a3 : nI i + 3 = nI (i + 3) := nI_add i 3
  have v4 : vp_in (nI (i + 4)) n := nI_in (by omega) (by omega)
  have x4 : (nI (i + 4)).toNatClampNeg = i + 4 := nI_clamp (by omega)
  have a4 : nI i + 4 = nI (i + 4) := nI_add i 4
  have a5 : nI i + 5 = nI (i + 5) := nI_add i 5
  refine go 60 (by decide) ?_
  simp only [KX, KY, KZ, KW, KV, Nat.reduceAdd, Nat.reduceSub, Nat.reduceLeDiff, true_and, and_true, true_or, or_true, or_self, reduceCtorEq, if_true, if_false, not_false_eq_true, eq_self, c285h, c285_32, ts_0_41_32, tz_0_41_32, I.sh.e0, hsc, hle, ev, v0, v1, v2, v3, v4, x0, x1, x2, x3, x4, a1, a2, a3, a4, Nat.zero_le, Nat.sub_zero, b1, b2, List.getD_cons_zero, List.getD_cons_succ]
  refine sc_pair (p135 I) (fun w h1 F eF e1 k1 => ?_)
  have hs1 : h1.2.2 = (n, g) := e1.trans hsc
  refine go 60 (by decide) ?_
  simp only [KX, KY, KZ, KW, KV, Nat.reduceAdd, Nat.reduceSub, Nat.reduceLeDiff, true_and, and_true, true_or, or_true, or_self, reduceCtorEq, if_true, if_false, not_false_eq_true, eq_self, c285h, c285_32, ts_0_41_32, tz_0_41_32, hs1, eF, v0, v1, v2, v3, v4, x0, x1, x2, x3, x4, a1, a2, a3, a4, Nat.zero_le, Nat.sub_zero, b1, b2]
  refine k1 _ (fun h2 I2 e2 => ?_)
  refine go 60 (by decide) ?_
  simp only [KX, KY, KZ, KW, KV, Nat.reduceAdd, Nat.reduceSub, Nat.reduceLeDiff, true_and, and_true, true_or, or_true, or_self, reduceCtorEq, if_true, if_false, not_false_eq_true, eq_self, c285h, c285_32, ts_0_41_32, tz_0_41_32, Nat.sub_zero]
  rw [a5]
  exact At_b (K h2 I2 (e2.trans hsc)) (Nat.sub_le _ _) (Nat.sub_le _ _)
theorem k285_33 {h : ma_H} {Q : ma_Q} {B1 B2 i n : Nat} {g : Nat → Int32} (I : Inv h) (hsc : h.2.2 = (n, g)) (hn : n ≤ 320) (hi : i + 5 ≤ n) (b1 : 6 ≤ B1) (b2 : 24 ≤ B2) (ev : g i &&& 63 = 33) (K : ∀ h2, Inv h2 → h2.2.2 = (n, g) → At 285 Q 10 (B1 - 6, B2 - 24) [some (.retAddr 1000), some (.ref 0), some (.ref 80), some (.int (nI (i + 5)))] [] h2) : At 285 Q 10 (B1, B2) [some (.retAddr 1000), some (.ref 0), some (.ref 80), some (.int (nI i))] [] h := by
  have hle : nI i ≤ nI n - 5 := by rw [show (5 : Int32) = nI 5 from rfl, nI_sub (by omega)]; exact nI_le (by omega) (by omega)
  have v0 : vp_in (nI (i)) n := nI_in (by omega) (by omega)
  have x0 : (nI (i)).toNatClampNeg = i := nI_clamp (by omega)
  have v1 : vp_in (nI (i + 1)) n := nI_in (by omega) (by omega)
  have x1 : (nI (i + 1)).toNatClampNeg = i + 1 := nI_clamp (by omega)
  have a1 : nI i + 1 = nI (i + 1) := nI_add i 1
  have v2 : vp_in (nI (i + 2)) n := nI_in (by omega) (by omega)
  have x2 : (nI (i + 2)).toNatClampNeg = i + 2 := nI_clamp (by omega)
  have a2 : nI i + 2 = nI (i + 2) := nI_add i 2
  have v3 : vp_in (nI (i + 3)) n := nI_in (by omega) (by omega)
  have x3 : (nI (i + 3)).toNatClampNeg = i + 3 := nI_clamp (by omega)
  have a3 : nI i + 3 = nI (i + 3) := nI_add i 3
  have v4 : vp_in (nI (i + 4)) n := nI_in (by omega) (by omega)
  have x4 : (nI (i + 4)).toNatClampNeg = i + 4 := nI_clamp (by omega)
  have a4 : nI i + 4 = nI (i + 4) := nI_add i 4
  have a5 : nI i + 5 = nI (i + 5) := nI_add i 5
  refine go 60 (by decide) ?_
  simp only [KX, KY, KZ, KW, KV, Nat.reduceAdd, Nat.reduceSub, Nat.reduceLeDiff, true_and, and_true, true_or, or_true, or_self, reduceCtorEq, if_true, if_false, not_false_eq_true, eq_self, c285h, c285_33, ts_0_41_33, tz_0_41_33, I.sh.e0, hsc, hle, ev, v0, v1, v2, v3, v4, x0, x1, x2, x3, x4, a1, a2, a3, a4, Nat.zero_le, Nat.sub_zero, b1, b2, List.getD_cons_zero, List.getD_cons_succ]
  refine sc_pair (p136 I) (fun w h1 F eF e1 k1 => ?_)
  have hs1 : h1.2.2 = (n, g) := e1.trans hsc
  refine go 60 (by decide) ?_
  simp only [KX, KY, KZ, KW, KV, Nat.reduceAdd, Nat.reduceSub, Nat.reduceLeDiff, true_and, and_true, true_or, or_true, or_self, reduceCtorEq, if_true, if_false, not_false_eq_true, eq_self, c285h, c285_33, ts_0_41_33, tz_0_41_33, hs1, eF, v0, v1, v2, v3, v4, x0, x1, x2, x3, x4, a1, a2, a3, a4, Nat.zero_le, Nat.sub_zero, b1, b2]
  refine k1 _ (fun h2 I2 e2 => ?_)
  refine go 60 (by decide) ?_
  simp only [KX, KY, KZ, KW, KV, Nat.reduceAdd, Nat.reduceSub, Nat.reduceLeDiff, true_and, and_true, true_or, or_true, or_self, reduceCtorEq, if_true, if_false, not_false_eq_true, eq_self, c285h, c285_33, ts_0_41_33, tz_0_41_33, Nat.sub_zero]
  rw [a5]
  exact At_b (K h2 I2 (e2.trans hsc)) (Nat.sub_le _ _) (Nat.sub_le _ _)
theorem k285_34 {h : ma_H} {Q : ma_Q} {B1 B2 i n : Nat} {g : Nat → Int32} (I : Inv h) (hsc : h.2.2 = (n, g)) (hn : n ≤ 320) (hi : i + 5 ≤ n) (b1 : 6 ≤ B1) (b2 : 24 ≤ B2) (ev : g i &&& 63 = 34) (K : ∀ h2, Inv h2 → h2.2.2 = (n, g) → At 285 Q 10 (B1 - 6, B2 - 24) [some (.retAddr 1000), some (.ref 0), some (.ref 80), some (.int (nI (i + 5)))] [] h2) : At 285 Q 10 (B1, B2) [some (.retAddr 1000), some (.ref 0), some (.ref 80), some (.int (nI i))] [] h := by
  have hle : nI i ≤ nI n - 5 := by rw [show (5 : Int32) = nI 5 from rfl, nI_sub (by omega)]; exact nI_le (by omega) (by omega)
  have v0 : vp_in (nI (i)) n := nI_in (by omega) (by omega)
  have x0 : (nI (i)).toNatClampNeg = i := nI_clamp (by omega)
  have v1 : vp_in (nI (i + 1)) n := nI_in (by omega) (by omega)
  have x1 : (nI (i + 1)).toNatClampNeg = i + 1 := nI_clamp (by omega)
  have a1 : nI i + 1 = nI (i + 1) := nI_add i 1
  have v2 : vp_in (nI (i + 2)) n := nI_in (by omega) (by omega)
  have x2 : (nI (i + 2)).toNatClampNeg = i + 2 := nI_clamp (by omega)
  have a2 : nI i + 2 = nI (i + 2) := nI_add i 2
  have v3 : vp_in (nI (i + 3)) n := nI_in (by omega) (by omega)
  have x3 : (nI (i + 3)).toNatClampNeg = i + 3 := nI_clamp (by omega)
  have a3 : nI i + 3 = nI (i + 3) := nI_add i 3
  have v4 : vp_in (nI (i + 4)) n := nI_in (by omega) (by omega)
  have x4 : (nI (i + 4)).toNatClampNeg = i + 4 := nI_clamp (by omega)
  have a4 : nI i + 4 = nI (i + 4) := nI_add i 4
  have a5 : nI i + 5 = nI (i + 5) := nI_add i 5
  refine go 60 (by decide) ?_
  simp only [KX, KY, KZ, KW, KV, Nat.reduceAdd, Nat.reduceSub, Nat.reduceLeDiff, true_and, and_true, true_or, or_true, or_self, reduceCtorEq, if_true, if_false, not_false_eq_true, eq_self, c285h, c285_34, ts_0_41_34, tz_0_41_34, I.sh.e0, hsc, hle, ev, v0, v1, v2, v3, v4, x0, x1, x2, x3, x4, a1, a2, a3, a4, Nat.zero_le, Nat.sub_zero, b1, b2, List.getD_cons_zero, List.getD_cons_succ]
  refine sc_pair (p137 I) (fun w h1 F eF e1 k1 => ?_)
  have hs1 : h1.2.2 = (n, g) := e1.trans hsc
  refine go 60 (by decide) ?_
  simp only [KX, KY, KZ, KW, KV, Nat.reduceAdd, Nat.reduceSub, Nat.reduceLeDiff, true_and, and_true, true_or, or_true, or_self, reduceCtorEq, if_true, if_false, not_false_eq_true, eq_self, c285h, c285_34, ts_0_41_34, tz_0_41_34, hs1, eF, v0, v1, v2, v3, v4, x0, x1, x2, x3, x4, a1, a2, a3, a4, Nat.zero_le, Nat.sub_zero, b1, b2]
  refine k1 _ (fun h2 I2 e2 => ?_)
  refine go 60 (by decide) ?_
  simp only [KX, KY, KZ, KW, KV, Nat.reduceAdd, Nat.reduceSub, Nat.reduceLeDiff, true_and, and_true, true_or, or_true, or_self, reduceCtorEq, if_true, if_false, not_false_eq_true, eq_self, c285h, c285_34, ts_0_41_34, tz_0_41_34, Nat.sub_zero]
  rw [a5]
  exact At_b (K h2 I2 (e2.trans hsc)) (Nat.sub_le _ _) (Nat.sub_le _ _)
theorem k285_35 {h : ma_H} {Q : ma_Q} {B1 B2 i n : Nat} {g : Nat → Int32} (I : Inv h) (hsc : h.2.2 = (n, g)) (hn : n ≤ 320) (hi : i + 5 ≤ n) (b1 : 6 ≤ B1) (b2 : 24 ≤ B2) (ev : g i &&& 63 = 35) (K : ∀ h2, Inv h2 → h2.2.2 = (n, g) → At 285 Q 10 (B1 - 6, B2 - 24) [some (.retAddr 1000), some (.ref 0), some (.ref 80), some (.int (nI (i + 5)))] [] h2) : At 285 Q 10 (B1, B2) [some (.retAddr 1000), some (.ref 0), some (.ref 80), some (.int (nI i))] [] h := by
  have hle : nI i ≤ nI n - 5 := by rw [show (5 : Int32) = nI 5 from rfl, nI_sub (by omega)]; exact nI_le (by omega) (by omega)
  have v0 : vp_in (nI (i)) n := nI_in (by omega) (by omega)
  have x0 : (nI (i)).toNatClampNeg = i := nI_clamp (by omega)
  have v1 : vp_in (nI (i + 1)) n := nI_in (by omega) (by omega)
  have x1 : (nI (i + 1)).toNatClampNeg = i + 1 := nI_clamp (by omega)
  have a1 : nI i + 1 = nI (i + 1) := nI_add i 1
  have v2 : vp_in (nI (i + 2)) n := nI_in (by omega) (by omega)
  have x2 : (nI (i + 2)).toNatClampNeg = i + 2 := nI_clamp (by omega)
  have a2 : nI i + 2 = nI (i + 2) := nI_add i 2
  have v3 : vp_in (nI (i + 3)) n := nI_in (by omega) (by omega)
  have x3 : (nI (i + 3)).toNatClampNeg = i + 3 := nI_clamp (by omega)
  have a3 : nI i + 3 = nI (i + 3) := nI_add i 3
  have v4 : vp_in (nI (i + 4)) n := nI_in (by omega) (by omega)
  have x4 : (nI (i + 4)).toNatClampNeg = i + 4 := nI_clamp (by omega)
  have a4 : nI i + 4 = nI (i + 4) := nI_add i 4
  have a5 : nI i + 5 = nI (i + 5) := nI_add i 5
  refine go 60 (by decide) ?_
  simp only [KX, KY, KZ, KW, KV, Nat.reduceAdd, Nat.reduceSub, Nat.reduceLeDiff, true_and, and_true, true_or, or_true, or_self, reduceCtorEq, if_true, if_false, not_false_eq_true, eq_self, c285h, c285_35, ts_0_41_35, tz_0_41_35, I.sh.e0, hsc, hle, ev, v0, v1, v2, v3, v4, x0, x1, x2, x3, x4, a1, a2, a3, a4, Nat.zero_le, Nat.sub_zero, b1, b2, List.getD_cons_zero, List.getD_cons_succ]
  refine sc_pair (p138 I) (fun w h1 F eF e1 k1 => ?_)
  have hs1 : h1.2.2 = (n, g) := e1.trans hsc
  refine go 60 (by decide) ?_
  simp only [KX, KY, KZ, KW, KV, Nat.reduceAdd, Nat.reduceSub, Nat.reduceLeDiff, true_and, and_true, true_or, or_true, or_self, reduceCtorEq, if_true, if_false, not_false_eq_true, eq_self, c285h, c285_35, ts_0_41_35, tz_0_41_35, hs1, eF, v0, v1, v2, v3, v4, x0, x1, x2, x3, x4, a1, a2, a3, a4, Nat.zero_le, Nat.sub_zero, b1, b2]
  refine k1 _ (fun h2 I2 e2 => ?_)
  refine go 60 (by decide) ?_
  simp only [KX, KY, KZ, KW, KV, Nat.reduceAdd, Nat.reduceSub, Nat.reduceLeDiff, true_and, and_true, true_or, or_true, or_self, reduceCtorEq, if_true, if_false, not_false_eq_true, eq_self, c285h, c285_35, ts_0_41_35, tz_0_41_35, Nat.sub_zero]
  rw [a5]
  exact At_b (K h2 I2 (e2.trans hsc)) (Nat.sub_le _ _) (Nat.sub_le _ _)
theorem k285_36 {h : ma_H} {Q : ma_Q} {B1 B2 i n : Nat} {g : Nat → Int32} (I : Inv h) (hsc : h.2.2 = (n, g)) (hn : n ≤ 320) (hi : i + 5 ≤ n) (b1 : 6 ≤ B1) (b2 : 24 ≤ B2) (ev : g i &&& 63 = 36) (K : ∀ h2, Inv h2 → h2.2.2 = (n, g) → At 285 Q 10 (B1 - 6, B2 - 24) [some (.retAddr 1000), some (.ref 0), some (.ref 80), some (.int (nI (i + 5)))] [] h2) : At 285 Q 10 (B1, B2) [some (.retAddr 1000), some (.ref 0), some (.ref 80), some (.int (nI i))] [] h := by
  have hle : nI i ≤ nI n - 5 := by rw [show (5 : Int32) = nI 5 from rfl, nI_sub (by omega)]; exact nI_le (by omega) (by omega)
  have v0 : vp_in (nI (i)) n := nI_in (by omega) (by omega)
  have x0 : (nI (i)).toNatClampNeg = i := nI_clamp (by omega)
  have v1 : vp_in (nI (i + 1)) n := nI_in (by omega) (by omega)
  have x1 : (nI (i + 1)).toNatClampNeg = i + 1 := nI_clamp (by omega)
  have a1 : nI i + 1 = nI (i + 1) := nI_add i 1
  have v2 : vp_in (nI (i + 2)) n := nI_in (by omega) (by omega)
  have x2 : (nI (i + 2)).toNatClampNeg = i + 2 := nI_clamp (by omega)
  have a2 : nI i + 2 = nI (i + 2) := nI_add i 2
  have v3 : vp_in (nI (i + 3)) n := nI_in (by omega) (by omega)
  have x3 : (nI (i + 3)).toNatClampNeg = i + 3 := nI_clamp (by omega)
  have a3 : nI i + 3 = nI (i + 3) := nI_add i 3
  have v4 : vp_in (nI (i + 4)) n := nI_in (by omega) (by omega)
  have x4 : (nI (i + 4)).toNatClampNeg = i + 4 := nI_clamp (by omega)
  have a4 : nI i + 4 = nI (i + 4) := nI_add i 4
  have a5 : nI i + 5 = nI (i + 5) := nI_add i 5
  refine go 60 (by decide) ?_
  simp only [KX, KY, KZ, KW, KV, Nat.reduceAdd, Nat.reduceSub, Nat.reduceLeDiff, true_and, and_true, true_or, or_true, or_self, reduceCtorEq, if_true, if_false, not_false_eq_true, eq_self, c285h, c285_36, ts_0_41_36, tz_0_41_36, I.sh.e0, hsc, hle, ev, v0, v1, v2, v3, v4, x0, x1, x2, x3, x4, a1, a2, a3, a4, Nat.zero_le, Nat.sub_zero, b1, b2, List.getD_cons_zero, List.getD_cons_succ]
  refine sc_pair (p139 I) (fun w h1 F eF e1 k1 => ?_)
  have hs1 : h1.2.2 = (n, g) := e1.trans hsc
  refine go 60 (by decide) ?_
  simp only [KX, KY, KZ, KW, KV, Nat.reduceAdd, Nat.reduceSub, Nat.reduceLeDiff, true_and, and_true, true_or, or_true, or_self, reduceCtorEq, if_true, if_false, not_false_eq_true, eq_self, c285h, c285_36, ts_0_41_36, tz_0_41_36, hs1, eF, v0, v1, v2, v3, v4, x0, x1, x2, x3, x4, a1, a2, a3, a4, Nat.zero_le, Nat.sub_zero, b1, b2]
  refine k1 _ (fun h2 I2 e2 => ?_)
  refine go 60 (by decide) ?_
  simp only [KX, KY, KZ, KW, KV, Nat.reduceAdd, Nat.reduceSub, Nat.reduceLeDiff, true_and, and_true, true_or, or_true, or_self, reduceCtorEq, if_true, if_false, not_false_eq_true, eq_self, c285h, c285_36, ts_0_41_36, tz_0_41_36, Nat.sub_zero]
  rw [a5]
  exact At_b (K h2 I2 (e2.trans hsc)) (Nat.sub_le _ _) (Nat.sub_le _ _)
theorem k285_37 {h : ma_H} {Q : ma_Q} {B1 B2 i n : Nat} {g : Nat → Int32} (I : Inv h) (hsc : h.2.2 = (n, g)) (hn : n ≤ 320) (hi : i + 5 ≤ n) (b1 : 6 ≤ B1) (b2 : 24 ≤ B2) (ev : g i &&& 63 = 37) (K : ∀ h2, Inv h2 → h2.2.2 = (n, g) → At 285 Q 10 (B1 - 6, B2 - 24) [some (.retAddr 1000), some (.ref 0), some (.ref 80), some (.int (nI (i + 5)))] [] h2) : At 285 Q 10 (B1, B2) [some (.retAddr 1000), some (.ref 0), some (.ref 80), some (.int (nI i))] [] h := by
  have hle : nI i ≤ nI n - 5 := by rw [show (5 : Int32) = nI 5 from rfl, nI_sub (by omega)]; exact nI_le (by omega) (by omega)
  have v0 : vp_in (nI (i)) n := nI_in (by omega) (by omega)
  have x0 : (nI (i)).toNatClampNeg = i := nI_clamp (by omega)
  have v1 : vp_in (nI (i + 1)) n := nI_in (by omega) (by omega)
  have x1 : (nI (i + 1)).toNatClampNeg = i + 1 := nI_clamp (by omega)
  have a1 : nI i + 1 = nI (i + 1) := nI_add i 1
  have v2 : vp_in (nI (i + 2)) n := nI_in (by omega) (by omega)
  have x2 : (nI (i + 2)).toNatClampNeg = i + 2 := nI_clamp (by omega)
  have a2 : nI i + 2 = nI (i + 2) := nI_add i 2
  have v3 : vp_in (nI (i + 3)) n := nI_in (by omega) (by omega)
  have x3 : (nI (i + 3)).toNatClampNeg = i + 3 := nI_clamp (by omega)
  have a3 : nI i + 3 = nI (i + 3) := nI_add i 3
  have v4 : vp_in (nI (i + 4)) n := nI_in (by omega) (by omega)
  have x4 : (nI (i + 4)).toNatClampNeg = i + 4 := nI_clamp (by omega)
  have a4 : nI i + 4 = nI (i + 4) := nI_add i 4
  have a5 : nI i + 5 = nI (i + 5) := nI_add i 5
  refine go 60 (by decide) ?_
  simp only [KX, KY, KZ, KW, KV, Nat.reduceAdd, Nat.reduceSub, Nat.reduceLeDiff, true_and, and_true, true_or, or_true, or_self, reduceCtorEq, if_true, if_false, not_false_eq_true, eq_self, c285h, c285_37, ts_0_41_37, tz_0_41_37, I.sh.e0, hsc, hle, ev, v0, v1, v2, v3, v4, x0, x1, x2, x3, x4, a1, a2, a3, a4, Nat.zero_le, Nat.sub_zero, b1, b2, List.getD_cons_zero, List.getD_cons_succ]
  refine sc_pair (p140 I) (fun w h1 F eF e1 k1 => ?_)
  have hs1 : h1.2.2 = (n, g) := e1.trans hsc
  refine go 60 (by decide) ?_
  simp only [KX, KY, KZ, KW, KV, Nat.reduceAdd, Nat.reduceSub, Nat.reduceLeDiff, true_and, and_true, true_or, or_true, or_self, reduceCtorEq, if_true, if_false, not_false_eq_true, eq_self, c285h, c285_37, ts_0_41_37, tz_0_41_37, hs1, eF, v0, v1, v2, v3, v4, x0, x1, x2, x3, x4, a1, a2, a3, a4, Nat.zero_le, Nat.sub_zero, b1, b2]
  refine k1 _ (fun h2 I2 e2 => ?_)
  refine go 60 (by decide) ?_
  simp only [KX, KY, KZ, KW, KV, Nat.reduceAdd, Nat.reduceSub, Nat.reduceLeDiff, true_and, and_true, true_or, or_true, or_self, reduceCtorEq, if_true, if_false, not_false_eq_true, eq_self, c285h, c285_37, ts_0_41_37, tz_0_41_37, Nat.sub_zero]
  rw [a5]
  exact At_b (K h2 I2 (e2.trans hsc)) (Nat.sub_le _ _) (Nat.sub_le _ _)
theorem k285_38 {h : ma_H} {Q : ma_Q} {B1 B2 i n : Nat} {g : Nat → Int32} (I : Inv h) (hsc : h.2.2 = (n, g)) (hn : n ≤ 320) (hi : i + 5 ≤ n) (b1 : 6 ≤ B1) (b2 : 24 ≤ B2) (ev : g i &&& 63 = 38) (K : ∀ h2, Inv h2 → h2.2.2 = (n, g) → At 285 Q 10 (B1 - 6, B2 - 24) [some (.retAddr 1000), some (.ref 0), some (.ref 80), some (.int (nI (i + 5)))] [] h2) : At 285 Q 10 (B1, B2) [some (.retAddr 1000), some (.ref 0), some (.ref 80), some (.int (nI i))] [] h := by
  have hle : nI i ≤ nI n - 5 := by rw [show (5 : Int32) = nI 5 from rfl, nI_sub (by omega)]; exact nI_le (by omega) (by omega)
  have v0 : vp_in (nI (i)) n := nI_in (by omega) (by omega)
  have x0 : (nI (i)).toNatClampNeg = i := nI_clamp (by omega)
  have v1 : vp_in (nI (i + 1)) n := nI_in (by omega) (by omega)
  have x1 : (nI (i + 1)).toNatClampNeg = i + 1 := nI_clamp (by omega)
  have a1 : nI i + 1 = nI (i + 1) := nI_add i 1
  have v2 : vp_in (nI (i + 2)) n := nI_in (by omega) (by omega)
  have x2 : (nI (i + 2)).toNatClampNeg = i + 2 := nI_clamp (by omega)
  have a2 : nI i + 2 = nI (i + 2) := nI_add i 2
  have v3 : vp_in (nI (i + 3)) n := nI_in (by omega) (by omega)
  have x3 : (nI (i + 3)).toNatClampNeg = i + 3 := nI_clamp (by omega)
  have a3 : nI i + 3 = nI (i + 3) := nI_add i 3
  have v4 : vp_in (nI (i + 4)) n := nI_in (by omega) (by omega)
  have x4 : (nI (i + 4)).toNatClampNeg = i + 4 := nI_clamp (by omega)
  have a4 : nI i + 4 = nI (i + 4) := nI_add i 4
  have a5 : nI i + 5 = nI (i + 5) := nI_add i 5
  refine go 60 (by decide) ?_
  simp only [KX, KY, KZ, KW, KV, Nat.reduceAdd, Nat.reduceSub, Nat.reduceLeDiff, true_and, and_true, true_or, or_true, or_self, reduceCtorEq, if_true, if_false, not_false_eq_true, eq_self, c285h, c285_38, ts_0_41_38, tz_0_41_38, I.sh.e0, hsc, hle, ev, v0, v1, v2, v3, v4, x0, x1, x2, x3, x4, a1, a2, a3, a4, Nat.zero_le, Nat.sub_zero, b1, b2, List.getD_cons_zero, List.getD_cons_succ]
  refine sc_pair (p141 I) (fun w h1 F eF e1 k1 => ?_)
  have hs1 : h1.2.2 = (n, g) := e1.trans hsc
  refine go 60 (by decide) ?_
  simp only [KX, KY, KZ, KW, KV, Nat.reduceAdd, Nat.reduceSub, Nat.reduceLeDiff, true_and, and_true, true_or, or_true, or_self, reduceCtorEq, if_true, if_false, not_false_eq_true, eq_self, c285h, c285_38, ts_0_41_38, tz_0_41_38, hs1, eF, v0, v1, v2, v3, v4, x0, x1, x2, x3, x4, a1, a2, a3, a4, Nat.zero_le, Nat.sub_zero, b1, b2]
  refine k1 _ (fun h2 I2 e2 => ?_)
  refine go 60 (by decide) ?_
  simp only [KX, KY, KZ, KW, KV, Nat.reduceAdd, Nat.reduceSub, Nat.reduceLeDiff, true_and, and_true, true_or, or_true, or_self, reduceCtorEq, if_true, if_false, not_false_eq_true, eq_self, c285h, c285_38, ts_0_41_38, tz_0_41_38, Nat.sub_zero]
  rw [a5]
  exact At_b (K h2 I2 (e2.trans hsc)) (Nat.sub_le _ _) (Nat.sub_le _ _)
theorem k285_39 {h : ma_H} {Q : ma_Q} {B1 B2 i n : Nat} {g : Nat → Int32} (I : Inv h) (hsc : h.2.2 = (n, g)) (hn : n ≤ 320) (hi : i + 5 ≤ n) (b1 : 6 ≤ B1) (b2 : 24 ≤ B2) (ev : g i &&& 63 = 39) (K : ∀ h2, Inv h2 → h2.2.2 = (n, g) → At 285 Q 10 (B1 - 6, B2 - 24) [some (.retAddr 1000), some (.ref 0), some (.ref 80), some (.int (nI (i + 5)))] [] h2) : At 285 Q 10 (B1, B2) [some (.retAddr 1000), some (.ref 0), some (.ref 80), some (.int (nI i))] [] h := by
  have hle : nI i ≤ nI n - 5 := by rw [show (5 : Int32) = nI 5 from rfl, nI_sub (by omega)]; exact nI_le (by omega) (by omega)
  have v0 : vp_in (nI (i)) n := nI_in (by omega) (by omega)
  have x0 : (nI (i)).toNatClampNeg = i := nI_clamp (by omega)
  have v1 : vp_in (nI (i + 1)) n := nI_in (by omega) (by omega)
  have x1 : (nI (i + 1)).toNatClampNeg = i + 1 := nI_clamp (by omega)
  have a1 : nI i + 1 = nI (i + 1) := nI_add i 1
  have v2 : vp_in (nI (i + 2)) n := nI_in (by omega) (by omega)
  have x2 : (nI (i + 2)).toNatClampNeg = i + 2 := nI_clamp (by omega)
  have a2 : nI i + 2 = nI (i + 2) := nI_add i 2
  have v3 : vp_in (nI (i + 3)) n := nI_in (by omega) (by omega)
  have x3 : (nI (i + 3)).toNatClampNeg = i + 3 := nI_clamp (by omega)
  have a3 : nI i + 3 = nI (i + 3) := nI_add i 3
  have v4 : vp_in (nI (i + 4)) n := nI_in (by omega) (by omega)
  have x4 : (nI (i + 4)).toNatClampNeg = i + 4 := nI_clamp (by omega)
  have a4 : nI i + 4 = nI (i + 4) := nI_add i 4
  have a5 : nI i + 5 = nI (i + 5) := nI_add i 5
  refine go 60 (by decide) ?_
  simp only [KX, KY, KZ, KW, KV, Nat.reduceAdd, Nat.reduceSub, Nat.reduceLeDiff, true_and, and_true, true_or, or_true, or_self, reduceCtorEq, if_true, if_false, not_false_eq_true, eq_self, c285h, c285_39, ts_0_41_39, tz_0_41_39, I.sh.e0, hsc, hle, ev, v0, v1, v2, v3, v4, x0, x1, x2, x3, x4, a1, a2, a3, a4, Nat.zero_le, Nat.sub_zero, b1, b2, List.getD_cons_zero, List.getD_cons_succ]
  refine sc_pair (p142 I) (fun w h1 F eF e1 k1 => ?_)
  have hs1 : h1.2.2 = (n, g) := e1.trans hsc
  refine go 60 (by decide) ?_
  simp only [KX, KY, KZ, KW, KV, Nat.reduceAdd, Nat.reduceSub, Nat.reduceLeDiff, true_and, and_true, true_or, or_true, or_self, reduceCtorEq, if_true, if_false, not_false_eq_true, eq_self, c285h, c285_39, ts_0_41_39, tz_0_41_39, hs1, eF, v0, v1, v2, v3, v4, x0, x1, x2, x3, x4, a1, a2, a3, a4, Nat.zero_le, Nat.sub_zero, b1, b2]
  refine k1 _ (fun h2 I2 e2 => ?_)
  refine go 60 (by decide) ?_
  simp only [KX, KY, KZ, KW, KV, Nat.reduceAdd, Nat.reduceSub, Nat.reduceLeDiff, true_and, and_true, true_or, or_true, or_self, reduceCtorEq, if_true, if_false, not_false_eq_true, eq_self, c285h, c285_39, ts_0_41_39, tz_0_41_39, Nat.sub_zero]
  rw [a5]
  exact At_b (K h2 I2 (e2.trans hsc)) (Nat.sub_le _ _) (Nat.sub_le _ _)
theorem k285_40 {h : ma_H} {Q : ma_Q} {B1 B2 i n : Nat} {g : Nat → Int32} (I : Inv h) (hsc : h.2.2 = (n, g)) (hn : n ≤ 320) (hi : i + 5 ≤ n) (b1 : 6 ≤ B1) (b2 : 24 ≤ B2) (ev : g i &&& 63 = 40) (K : ∀ h2, Inv h2 → h2.2.2 = (n, g) → At 285 Q 10 (B1 - 6, B2 - 24) [some (.retAddr 1000), some (.ref 0), some (.ref 80), some (.int (nI (i + 5)))] [] h2) : At 285 Q 10 (B1, B2) [some (.retAddr 1000), some (.ref 0), some (.ref 80), some (.int (nI i))] [] h := by
  have hle : nI i ≤ nI n - 5 := by rw [show (5 : Int32) = nI 5 from rfl, nI_sub (by omega)]; exact nI_le (by omega) (by omega)
  have v0 : vp_in (nI (i)) n := nI_in (by omega) (by omega)
  have x0 : (nI (i)).toNatClampNeg = i := nI_clamp (by omega)
  have v1 : vp_in (nI (i + 1)) n := nI_in (by omega) (by omega)
  have x1 : (nI (i + 1)).toNatClampNeg = i + 1 := nI_clamp (by omega)
  have a1 : nI i + 1 = nI (i + 1) := nI_add i 1
  have v2 : vp_in (nI (i + 2)) n := nI_in (by omega) (by omega)
  have x2 : (nI (i + 2)).toNatClampNeg = i + 2 := nI_clamp (by omega)
  have a2 : nI i + 2 = nI (i + 2) := nI_add i 2
  have v3 : vp_in (nI (i + 3)) n := nI_in (by omega) (by omega)
  have x3 : (nI (i + 3)).toNatClampNeg = i + 3 := nI_clamp (by omega)
  have a3 : nI i + 3 = nI (i + 3) := nI_add i 3
  have v4 : vp_in (nI (i + 4)) n := nI_in (by omega) (by omega)
  have x4 : (nI (i + 4)).toNatClampNeg = i + 4 := nI_clamp (by omega)
  have a4 : nI i + 4 = nI (i + 4) := nI_add i 4
  have a5 : nI i + 5 = nI (i + 5) := nI_add i 5
  refine go 60 (by decide) ?_
  simp only [KX, KY, KZ, KW, KV, Nat.reduceAdd, Nat.reduceSub, Nat.reduceLeDiff, true_and, and_true, true_or, or_true, or_self, reduceCtorEq, if_true, if_false, not_false_eq_true, eq_self, c285h, c285_40, ts_0_41_40, tz_0_41_40, I.sh.e0, hsc, hle, ev, v0, v1, v2, v3, v4, x0, x1, x2, x3, x4, a1, a2, a3, a4, Nat.zero_le, Nat.sub_zero, b1, b2, List.getD_cons_zero, List.getD_cons_succ]
  refine sc_pair (p143 I) (fun w h1 F eF e1 k1 => ?_)
  have hs1 : h1.2.2 = (n, g) := e1.trans hsc
  refine go 60 (by decide) ?_
  simp only [KX, KY, KZ, KW, KV, Nat.reduceAdd, Nat.reduceSub, Nat.reduceLeDiff, true_and, and_true, true_or, or_true, or_self, reduceCtorEq, if_true, if_false, not_false_eq_true, eq_self, c285h, c285_40, ts_0_41_40, tz_0_41_40, hs1, eF, v0, v1, v2, v3, v4, x0, x1, x2, x3, x4, a1, a2, a3, a4, Nat.zero_le, Nat.sub_zero, b1, b2]
  refine k1 _ (fun h2 I2 e2 => ?_)
  refine go 60 (by decide) ?_
  simp only [KX, KY, KZ, KW, KV, Nat.reduceAdd, Nat.reduceSub, Nat.reduceLeDiff, true_and, and_true, true_or, or_true, or_self, reduceCtorEq, if_true, if_false, not_false_eq_true, eq_self, c285h, c285_40, ts_0_41_40, tz_0_41_40, Nat.sub_zero]
  rw [a5]
  exact At_b (K h2 I2 (e2.trans hsc)) (Nat.sub_le _ _) (Nat.sub_le _ _)
theorem k285_41 {h : ma_H} {Q : ma_Q} {B1 B2 i n : Nat} {g : Nat → Int32} (I : Inv h) (hsc : h.2.2 = (n, g)) (hn : n ≤ 320) (hi : i + 5 ≤ n) (b1 : 6 ≤ B1) (b2 : 24 ≤ B2) (ev : g i &&& 63 = 41) (K : ∀ h2, Inv h2 → h2.2.2 = (n, g) → At 285 Q 10 (B1 - 6, B2 - 24) [some (.retAddr 1000), some (.ref 0), some (.ref 80), some (.int (nI (i + 5)))] [] h2) : At 285 Q 10 (B1, B2) [some (.retAddr 1000), some (.ref 0), some (.ref 80), some (.int (nI i))] [] h := by
  have hle : nI i ≤ nI n - 5 := by rw [show (5 : Int32) = nI 5 from rfl, nI_sub (by omega)]; exact nI_le (by omega) (by omega)
  have v0 : vp_in (nI (i)) n := nI_in (by omega) (by omega)
  have x0 : (nI (i)).toNatClampNeg = i := nI_clamp (by omega)
  have v1 : vp_in (nI (i + 1)) n := nI_in (by omega) (by omega)
  have x1 : (nI (i + 1)).toNatClampNeg = i + 1 := nI_clamp (by omega)
  have a1 : nI i + 1 = nI (i + 1) := nI_add i 1
  have v2 : vp_in (nI (i + 2)) n := nI_in (by omega) (by omega)
  have x2 : (nI (i + 2)).toNatClampNeg = i + 2 := nI_clamp (by omega)
  have a2 : nI i + 2 = nI (i + 2) := nI_add i 2
  have v3 : vp_in (nI (i + 3)) n := nI_in (by omega) (by omega)
  have x3 : (nI (i + 3)).toNatClampNeg = i + 3 := nI_clamp (by omega)
  have a3 : nI i + 3 = nI (i + 3) := nI_add i 3
  have v4 : vp_in (nI (i + 4)) n := nI_in (by omega) (by omega)
  have x4 : (nI (i + 4)).toNatClampNeg = i + 4 := nI_clamp (by omega)
  have a4 : nI i + 4 = nI (i + 4) := nI_add i 4
  have a5 : nI i + 5 = nI (i + 5) := nI_add i 5
  refine go 60 (by decide) ?_
  simp only [KX, KY, KZ, KW, KV, Nat.reduceAdd, Nat.reduceSub, Nat.reduceLeDiff, true_and, and_true, true_or, or_true, or_self, reduceCtorEq, if_true, if_false, not_false_eq_true, eq_self, c285h, c285_41, ts_0_41_41, tz_0_41_41, I.sh.e0, hsc, hle, ev, v0, v1, v2, v3, v4, x0, x1, x2, x3, x4, a1, a2, a3, a4, Nat.zero_le, Nat.sub_zero, b1, b2, List.getD_cons_zero, List.getD_cons_succ]
  refine sc_pair (p144 I) (fun w h1 F eF e1 k1 => ?_)
  have hs1 : h1.2.2 = (n, g) := e1.trans hsc
  refine go 60 (by decide) ?_
  simp only [KX, KY, KZ, KW, KV, Nat.reduceAdd, Nat.reduceSub, Nat.reduceLeDiff, true_and, and_true, true_or, or_true, or_self, reduceCtorEq, if_true, if_false, not_false_eq_true, eq_self, c285h, c285_41, ts_0_41_41, tz_0_41_41, hs1, eF, v0, v1, v2, v3, v4, x0, x1, x2, x3, x4, a1, a2, a3, a4, Nat.zero_le, Nat.sub_zero, b1, b2]
  refine k1 _ (fun h2 I2 e2 => ?_)
  refine go 60 (by decide) ?_
  simp only [KX, KY, KZ, KW, KV, Nat.reduceAdd, Nat.reduceSub, Nat.reduceLeDiff, true_and, and_true, true_or, or_true, or_self, reduceCtorEq, if_true, if_false, not_false_eq_true, eq_self, c285h, c285_41, ts_0_41_41, tz_0_41_41, Nat.sub_zero]
  rw [a5]
  exact At_b (K h2 I2 (e2.trans hsc)) (Nat.sub_le _ _) (Nat.sub_le _ _)
