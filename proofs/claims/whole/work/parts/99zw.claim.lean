/-! the law: calls 14 to 27 -/
theorem lg_self (w : Int64) : lg_cmp w w = 0 := by
  unfold lg_cmp
  rw [if_neg (show ¬ w > w from Int64.lt_irrefl), if_pos rfl]
theorem k285_14 {h : ma_H} {Q : ma_Q} {B1 B2 i n : Nat} {g : Nat → Int32} (I : Inv h) (hsc : h.2.2 = (n, g)) (hn : n ≤ 320) (hi : i + 5 ≤ n) (b1 : 6 ≤ B1) (b2 : 24 ≤ B2) (ev : g i &&& 63 = 14) (K : ∀ h2, Inv h2 → h2.2.2 = (n, g) → At 285 Q 10 (B1 - 6, B2 - 24) [some (.retAddr 1000), some (.ref 0), some (.ref 80), some (.int (nI (i + 5)))] [] h2) : At 285 Q 10 (B1, B2) [some (.retAddr 1000), some (.ref 0), some (.ref 80), some (.int (nI i))] [] h := by
  have hle : nI i ≤ nI n - 5 := by rw [show (5 : Int32) = nI 5 from rfl, nI_sub (by omega)]; exact nI_le (by omega) (by omega)
  have v0 : vp_in (nI (i)) n := nI_in (by omega) (by omega)
  have x0 : (nI (i)).toNatClampNeg = i := nI_clamp (by omega)
  have v1 : vp_in (nI (i + 1)) n := nI_in (by omega) (by omega)
  have x1 : (nI (i + 1)).toNatClampNeg = i + 1 := nI_clamp (by omega)
  have a1 : nI i + 1 = nI (i + 1) := nI_add i 1
  have v2 : vp_in (nI (i + 2)) n := nI_in (by omega) (by omega)
  have x2 : (nI (i + 2)).toNatClampNeg = i + 2 := nI_clamp (by omega)
  have a2 : nI i + 2 = nI (i + 2) := nI_add i 2
  have v3 : vp_in (nI (i + 3)) n := nI_in (by omega) (by omega)
  have x3 : (nI (i + 3)).toNatClampNeg = i + 3 := nI_clamp (by omega)
  have a3 : nI i + 3 = nI (i + 3) := nI_add i 3
  have v4 : vp_in (nI (i + 4)) n := nI_in (by omega) (by omega)
  have x4 : (nI (i + 4)).toNatClampNeg = i + 4 := nI_clamp (by omega)
  have a4 : nI i + 4 = nI (i + 4) := nI_add i 4
  have a5 : nI i + 5 = nI (i + 5) := nI_add i 5
  refine go 60 (by decide) ?_
  simp only [KX, KY, KZ, KW, KV, Nat.reduceAdd, Nat.reduceSub, Nat.reduceLeDiff, true_and, and_true, true_or, or_true, or_self, reduceCtorEq, if_true, if_false, not_false_eq_true, eq_self, c285h, c285_14, ts_0_41_14, tz_0_41_14, I.sh.e0, hsc, hle, ev, v0, v1, v2, v3, v4, x0, x1, x2, x3, x4, a1, a2, a3, a4, Nat.zero_le, Nat.sub_zero, b1, b2, List.getD_cons_zero, List.getD_cons_succ]
  refine sc_pair (p117 I) (fun w h1 F eF e1 k1 => ?_)
  have hs1 : h1.2.2 = (n, g) := e1.trans hsc
  refine go 60 (by decide) ?_
  simp only [KX, KY, KZ, KW, KV, Nat.reduceAdd, Nat.reduceSub, Nat.reduceLeDiff, true_and, and_true, true_or, or_true, or_self, reduceCtorEq, if_true, if_false, not_false_eq_true, eq_self, c285h, c285_14, ts_0_41_14, tz_0_41_14, hs1, eF, v0, v1, v2, v3, v4, x0, x1, x2, x3, x4, a1, a2, a3, a4, Nat.zero_le, Nat.sub_zero, b1, b2]
  refine k1 _ (fun h2 I2 e2 => ?_)
  refine go 60 (by decide) ?_
  simp only [KX, KY, KZ, KW, KV, Nat.reduceAdd, Nat.reduceSub, Nat.reduceLeDiff, true_and, and_true, true_or, or_true, or_self, reduceCtorEq, if_true, if_false, not_false_eq_true, eq_self, c285h, c285_14, ts_0_41_14, tz_0_41_14, Nat.sub_zero]
  rw [a5]
  exact At_b (K h2 I2 (e2.trans hsc)) (Nat.sub_le _ _) (Nat.sub_le _ _)
theorem k285_15 {h : ma_H} {Q : ma_Q} {B1 B2 i n : Nat} {g : Nat → Int32} (I : Inv h) (hsc : h.2.2 = (n, g)) (hn : n ≤ 320) (hi : i + 5 ≤ n) (b1 : 6 ≤ B1) (b2 : 24 ≤ B2) (ev : g i &&& 63 = 15) (K : ∀ h2, Inv h2 → h2.2.2 = (n, g) → At 285 Q 10 (B1 - 6, B2 - 24) [some (.retAddr 1000), some (.ref 0), some (.ref 80), some (.int (nI (i + 5)))] [] h2) : At 285 Q 10 (B1, B2) [some (.retAddr 1000), some (.ref 0), some (.ref 80), some (.int (nI i))] [] h := by
  have hle : nI i ≤ nI n - 5 := by rw [show (5 : Int32) = nI 5 from rfl, nI_sub (by omega)]; exact nI_le (by omega) (by omega)
  have v0 : vp_in (nI (i)) n := nI_in (by omega) (by omega)
  have x0 : (nI (i)).toNatClampNeg = i := nI_clamp (by omega)
  have v1 : vp_in (nI (i + 1)) n := nI_in (by omega) (by omega)
  have x1 : (nI (i + 1)).toNatClampNeg = i + 1 := nI_clamp (by omega)
  have a1 : nI i + 1 = nI (i + 1) := nI_add i 1
  have v2 : vp_in (nI (i + 2)) n := nI_in (by omega) (by omega)
  have x2 : (nI (i + 2)).toNatClampNeg = i + 2 := nI_clamp (by omega)
  have a2 : nI i + 2 = nI (i + 2) := nI_add i 2
  have v3 : vp_in (nI (i + 3)) n := nI_in (by omega) (by omega)
  have x3 : (nI (i + 3)).toNatClampNeg = i + 3 := nI_clamp (by omega)
  have a3 : nI i + 3 = nI (i + 3) := nI_add i 3
  have v4 : vp_in (nI (i + 4)) n := nI_in (by omega) (by omega)
  have x4 : (nI (i + 4)).toNatClampNeg = i + 4 := nI_clamp (by omega)
  have a4 : nI i + 4 = nI (i + 4) := nI_add i 4
  have a5 : nI i + 5 = nI (i + 5) := nI_add i 5
  refine go 60 (by decide) ?_
  simp only [KX, KY, KZ, KW, KV, Nat.reduceAdd, Nat.reduceSub, Nat.reduceLeDiff, true_and, and_true, true_or, or_true, or_self, reduceCtorEq, if_true, if_false, not_false_eq_true, eq_self, c285h, c285_15, ts_0_41_15, tz_0_41_15, I.sh.e0, hsc, hle, ev, v0, v1, v2, v3, v4, x0, x1, x2, x3, x4, a1, a2, a3, a4, Nat.zero_le, Nat.sub_zero, b1, b2, List.getD_cons_zero, List.getD_cons_succ]
  refine sc_pair (p118 I) (fun w h1 F eF e1 k1 => ?_)
  have hs1 : h1.2.2 = (n, g) := e1.trans hsc
  refine go 60 (by decide) ?_
  simp only [KX, KY, KZ, KW, KV, Nat.reduceAdd, Nat.reduceSub, Nat.reduceLeDiff, true_and, and_true, true_or, or_true, or_self, reduceCtorEq, if_true, if_false, not_false_eq_true, eq_self, c285h, c285_15, ts_0_41_15, tz_0_41_15, hs1, eF, v0, v1, v2, v3, v4, x0, x1, x2, x3, x4, a1, a2, a3, a4, Nat.zero_le, Nat.sub_zero, b1, b2]
  refine k1 _ (fun h2 I2 e2 => ?_)
  refine go 60 (by decide) ?_
  simp only [KX, KY, KZ, KW, KV, Nat.reduceAdd, Nat.reduceSub, Nat.reduceLeDiff, true_and, and_true, true_or, or_true, or_self, reduceCtorEq, if_true, if_false, not_false_eq_true, eq_self, c285h, c285_15, ts_0_41_15, tz_0_41_15, Nat.sub_zero]
  rw [a5]
  exact At_b (K h2 I2 (e2.trans hsc)) (Nat.sub_le _ _) (Nat.sub_le _ _)
theorem k285_16 {h : ma_H} {Q : ma_Q} {B1 B2 i n : Nat} {g : Nat → Int32} (I : Inv h) (hsc : h.2.2 = (n, g)) (hn : n ≤ 320) (hi : i + 5 ≤ n) (b1 : 6 ≤ B1) (b2 : 24 ≤ B2) (ev : g i &&& 63 = 16) (K : ∀ h2, Inv h2 → h2.2.2 = (n, g) → At 285 Q 10 (B1 - 6, B2 - 24) [some (.retAddr 1000), some (.ref 0), some (.ref 80), some (.int (nI (i + 5)))] [] h2) : At 285 Q 10 (B1, B2) [some (.retAddr 1000), some (.ref 0), some (.ref 80), some (.int (nI i))] [] h := by
  have hle : nI i ≤ nI n - 5 := by rw [show (5 : Int32) = nI 5 from rfl, nI_sub (by omega)]; exact nI_le (by omega) (by omega)
  have v0 : vp_in (nI (i)) n := nI_in (by omega) (by omega)
  have x0 : (nI (i)).toNatClampNeg = i := nI_clamp (by omega)
  have v1 : vp_in (nI (i + 1)) n := nI_in (by omega) (by omega)
  have x1 : (nI (i + 1)).toNatClampNeg = i + 1 := nI_clamp (by omega)
  have a1 : nI i + 1 = nI (i + 1) := nI_add i 1
  have v2 : vp_in (nI (i + 2)) n := nI_in (by omega) (by omega)
  have x2 : (nI (i + 2)).toNatClampNeg = i + 2 := nI_clamp (by omega)
  have a2 : nI i + 2 = nI (i + 2) := nI_add i 2
  have v3 : vp_in (nI (i + 3)) n := nI_in (by omega) (by omega)
  have x3 : (nI (i + 3)).toNatClampNeg = i + 3 := nI_clamp (by omega)
  have a3 : nI i + 3 = nI (i + 3) := nI_add i 3
  have v4 : vp_in (nI (i + 4)) n := nI_in (by omega) (by omega)
  have x4 : (nI (i + 4)).toNatClampNeg = i + 4 := nI_clamp (by omega)
  have a4 : nI i + 4 = nI (i + 4) := nI_add i 4
  have a5 : nI i + 5 = nI (i + 5) := nI_add i 5
  refine go 60 (by decide) ?_
  simp only [KX, KY, KZ, KW, KV, Nat.reduceAdd, Nat.reduceSub, Nat.reduceLeDiff, true_and, and_true, true_or, or_true, or_self, reduceCtorEq, if_true, if_false, not_false_eq_true, eq_self, c285h, c285_16, ts_0_41_16, tz_0_41_16, I.sh.e0, hsc, hle, ev, v0, v1, v2, v3, v4, x0, x1, x2, x3, x4, a1, a2, a3, a4, Nat.zero_le, Nat.sub_zero, b1, b2, List.getD_cons_zero, List.getD_cons_succ]
  refine sc_pair (p119 I) (fun w h1 F eF e1 k1 => ?_)
  have hs1 : h1.2.2 = (n, g) := e1.trans hsc
  refine go 60 (by decide) ?_
  simp only [KX, KY, KZ, KW, KV, Nat.reduceAdd, Nat.reduceSub, Nat.reduceLeDiff, true_and, and_true, true_or, or_true, or_self, reduceCtorEq, if_true, if_false, not_false_eq_true, eq_self, c285h, c285_16, ts_0_41_16, tz_0_41_16, hs1, eF, v0, v1, v2, v3, v4, x0, x1, x2, x3, x4, a1, a2, a3, a4, Nat.zero_le, Nat.sub_zero, b1, b2]
  refine k1 _ (fun h2 I2 e2 => ?_)
  refine go 60 (by decide) ?_
  simp only [KX, KY, KZ, KW, KV, Nat.reduceAdd, Nat.reduceSub, Nat.reduceLeDiff, true_and, and_true, true_or, or_true, or_self, reduceCtorEq, if_true, if_false, not_false_eq_true, eq_self, c285h, c285_16, ts_0_41_16, tz_0_41_16, Nat.sub_zero]
  rw [a5]
  exact At_b (K h2 I2 (e2.trans hsc)) (Nat.sub_le _ _) (Nat.sub_le _ _)
theorem k285_17 {h : ma_H} {Q : ma_Q} {B1 B2 i n : Nat} {g : Nat → Int32} (I : Inv h) (hsc : h.2.2 = (n, g)) (hn : n ≤ 320) (hi : i + 5 ≤ n) (b1 : 6 ≤ B1) (b2 : 24 ≤ B2) (ev : g i &&& 63 = 17) (K : ∀ h2, Inv h2 → h2.2.2 = (n, g) → At 285 Q 10 (B1 - 6, B2 - 24) [some (.retAddr 1000), some (.ref 0), some (.ref 80), some (.int (nI (i + 5)))] [] h2) : At 285 Q 10 (B1, B2) [some (.retAddr 1000), some (.ref 0), some (.ref 80), some (.int (nI i))] [] h := by
  have hle : nI i ≤ nI n - 5 := by rw [show (5 : Int32) = nI 5 from rfl, nI_sub (by omega)]; exact nI_le (by omega) (by omega)
  have v0 : vp_in (nI (i)) n := nI_in (by omega) (by omega)
  have x0 : (nI (i)).toNatClampNeg = i := nI_clamp (by omega)
  have v1 : vp_in (nI (i + 1)) n := nI_in (by omega) (by omega)
  have x1 : (nI (i + 1)).toNatClampNeg = i + 1 := nI_clamp (by omega)
  have a1 : nI i + 1 = nI (i + 1) := nI_add i 1
  have v2 : vp_in (nI (i + 2)) n := nI_in (by omega) (by omega)
  have x2 : (nI (i + 2)).toNatClampNeg = i + 2 := nI_clamp (by omega)
  have a2 : nI i + 2 = nI (i + 2) := nI_add i 2
  have v3 : vp_in (nI (i + 3)) n := nI_in (by omega) (by omega)
  have x3 : (nI (i + 3)).toNatClampNeg = i + 3 := nI_clamp (by omega)
  have a3 : nI i + 3 = nI (i + 3) := nI_add i 3
  have v4 : vp_in (nI (i + 4)) n := nI_in (by omega) (by omega)
  have x4 : (nI (i + 4)).toNatClampNeg = i + 4 := nI_clamp (by omega)
  have a4 : nI i + 4 = nI (i + 4) := nI_add i 4
  have a5 : nI i + 5 = nI (i + 5) := nI_add i 5
  refine go 60 (by decide) ?_
  simp only [KX, KY, KZ, KW, KV, Nat.reduceAdd, Nat.reduceSub, Nat.reduceLeDiff, true_and, and_true, true_or, or_true, or_self, reduceCtorEq, if_true, if_false, not_false_eq_true, eq_self, c285h, c285_17, ts_0_41_17, tz_0_41_17, I.sh.e0, hsc, hle, ev, v0, v1, v2, v3, v4, x0, x1, x2, x3, x4, a1, a2, a3, a4, Nat.zero_le, Nat.sub_zero, b1, b2, List.getD_cons_zero, List.getD_cons_succ]
  refine sc_pair (p120 I) (fun w h1 F eF e1 k1 => ?_)
  have hs1 : h1.2.2 = (n, g) := e1.trans hsc
  refine go 60 (by decide) ?_
  simp only [KX, KY, KZ, KW, KV, Nat.reduceAdd, Nat.reduceSub, Nat.reduceLeDiff, true_and, and_true, true_or, or_true, or_self, reduceCtorEq, if_true, if_false, not_false_eq_true, eq_self, c285h, c285_17, ts_0_41_17, tz_0_41_17, hs1, eF, v0, v1, v2, v3, v4, x0, x1, x2, x3, x4, a1, a2, a3, a4, Nat.zero_le, Nat.sub_zero, b1, b2]
  refine k1 _ (fun h2 I2 e2 => ?_)
  refine go 60 (by decide) ?_
  simp only [KX, KY, KZ, KW, KV, Nat.reduceAdd, Nat.reduceSub, Nat.reduceLeDiff, true_and, and_true, true_or, or_true, or_self, reduceCtorEq, if_true, if_false, not_false_eq_true, eq_self, c285h, c285_17, ts_0_41_17, tz_0_41_17, Nat.sub_zero]
  rw [a5]
  exact At_b (K h2 I2 (e2.trans hsc)) (Nat.sub_le _ _) (Nat.sub_le _ _)
theorem k285_18 {h : ma_H} {Q : ma_Q} {B1 B2 i n : Nat} {g : Nat → Int32} (I : Inv h) (hsc : h.2.2 = (n, g)) (hn : n ≤ 320) (hi : i + 5 ≤ n) (b1 : 6 ≤ B1) (b2 : 24 ≤ B2) (ev : g i &&& 63 = 18) (K : ∀ h2, Inv h2 → h2.2.2 = (n, g) → At 285 Q 10 (B1 - 6, B2 - 24) [some (.retAddr 1000), some (.ref 0), some (.ref 80), some (.int (nI (i + 5)))] [] h2) : At 285 Q 10 (B1, B2) [some (.retAddr 1000), some (.ref 0), some (.ref 80), some (.int (nI i))] [] h := by
  have hle : nI i ≤ nI n - 5 := by rw [show (5 : Int32) = nI 5 from rfl, nI_sub (by omega)]; exact nI_le (by omega) (by omega)
  have v0 : vp_in (nI (i)) n := nI_in (by omega) (by omega)
  have x0 : (nI (i)).toNatClampNeg = i := nI_clamp (by omega)
  have v1 : vp_in (nI (i + 1)) n := nI_in (by omega) (by omega)
  have x1 : (nI (i + 1)).toNatClampNeg = i + 1 := nI_clamp (by omega)
  have a1 : nI i + 1 = nI (i + 1) := nI_add i 1
  have v2 : vp_in (nI (i + 2)) n := nI_in (by omega) (by omega)
  have x2 : (nI (i + 2)).toNatClampNeg = i + 2 := nI_clamp (by omega)
  have a2 : nI i + 2 = nI (i + 2) := nI_add i 2
  have v3 : vp_in (nI (i + 3)) n := nI_in (by omega) (by omega)
  have x3 : (nI (i + 3)).toNatClampNeg = i + 3 := nI_clamp (by omega)
  have a3 : nI i + 3 = nI (i + 3) := nI_add i 3
  have v4 : vp_in (nI (i + 4)) n := nI_in (by omega) (by omega)
  have x4 : (nI (i + 4)).toNatClampNeg = i + 4 := nI_clamp (by omega)
  have a4 : nI i + 4 = nI (i + 4) := nI_add i 4
  have a5 : nI i + 5 = nI (i + 5) := nI_add i 5
  refine go 60 (by decide) ?_
  simp only [KX, KY, KZ, KW, KV, Nat.reduceAdd, Nat.reduceSub, Nat.reduceLeDiff, true_and, and_true, true_or, or_true, or_self, reduceCtorEq, if_true, if_false, not_false_eq_true, eq_self, c285h, c285_18, ts_0_41_18, tz_0_41_18, I.sh.e0, hsc, hle, ev, v0, v1, v2, v3, v4, x0, x1, x2, x3, x4, a1, a2, a3, a4, Nat.zero_le, Nat.sub_zero, b1, b2, List.getD_cons_zero, List.getD_cons_succ]
  refine sc_pair (p121 I) (fun w h1 F eF e1 k1 => ?_)
  have hs1 : h1.2.2 = (n, g) := e1.trans hsc
  refine go 60 (by decide) ?_
  simp only [KX, KY, KZ, KW, KV, Nat.reduceAdd, Nat.reduceSub, Nat.reduceLeDiff, true_and, and_true, true_or, or_true, or_self, reduceCtorEq, if_true, if_false, not_false_eq_true, eq_self, c285h, c285_18, ts_0_41_18, tz_0_41_18, hs1, eF, v0, v1, v2, v3, v4, x0, x1, x2, x3, x4, a1, a2, a3, a4, Nat.zero_le, Nat.sub_zero, b1, b2]
  refine k1 _ (fun h2 I2 e2 => ?_)
  refine go 60 (by decide) ?_
  simp only [KX, KY, KZ, KW, KV, Nat.reduceAdd, Nat.reduceSub, Nat.reduceLeDiff, true_and, and_true, true_or, or_true, or_self, reduceCtorEq, if_true, if_false, not_false_eq_true, eq_self, c285h, c285_18, ts_0_41_18, tz_0_41_18, Nat.sub_zero]
  rw [a5]
  exact At_b (K h2 I2 (e2.trans hsc)) (Nat.sub_le _ _) (Nat.sub_le _ _)
theorem k285_19 {h : ma_H} {Q : ma_Q} {B1 B2 i n : Nat} {g : Nat → Int32} (I : Inv h) (hsc : h.2.2 = (n, g)) (hn : n ≤ 320) (hi : i + 5 ≤ n) (b1 : 6 ≤ B1) (b2 : 24 ≤ B2) (ev : g i &&& 63 = 19) (K : ∀ h2, Inv h2 → h2.2.2 = (n, g) → At 285 Q 10 (B1 - 6, B2 - 24) [some (.retAddr 1000), some (.ref 0), some (.ref 80), some (.int (nI (i + 5)))] [] h2) : At 285 Q 10 (B1, B2) [some (.retAddr 1000), some (.ref 0), some (.ref 80), some (.int (nI i))] [] h := by
  have hle : nI i ≤ nI n - 5 := by rw [show (5 : Int32) = nI 5 from rfl, nI_sub (by omega)]; exact nI_le (by omega) (by omega)
  have v0 : vp_in (nI (i)) n := nI_in (by omega) (by omega)
  have x0 : (nI (i)).toNatClampNeg = i := nI_clamp (by omega)
  have v1 : vp_in (nI (i + 1)) n := nI_in (by omega) (by omega)
  have x1 : (nI (i + 1)).toNatClampNeg = i + 1 := nI_clamp (by omega)
  have a1 : nI i + 1 = nI (i + 1) := nI_add i 1
  have v2 : vp_in (nI (i + 2)) n := nI_in (by omega) (by omega)
  have x2 : (nI (i + 2)).toNatClampNeg = i + 2 := nI_clamp (by omega)
  have a2 : nI i + 2 = nI (i + 2) := nI_add i 2
  have v3 : vp_in (nI (i + 3)) n := nI_in (by omega) (by omega)
  have x3 : (nI (i + 3)).toNatClampNeg = i + 3 := nI_clamp (by omega)
  have a3 : nI i + 3 = nI (i + 3) := nI_add i 3
  have v4 : vp_in (nI (i + 4)) n := nI_in (by omega) (by omega)
  have x4 : (nI (i + 4)).toNatClampNeg = i + 4 := nI_clamp (by omega)
  have a4 : nI i + 4 = nI (i + 4) := nI_add i 4
  have a5 : nI i + 5 = nI (i + 5) := nI_add i 5
  refine go 60 (by decide) ?_
  simp only [KX, KY, KZ, KW, KV, Nat.reduceAdd, Nat.reduceSub, Nat.reduceLeDiff, true_and, and_true, true_or, or_true, or_self, reduceCtorEq, if_true, if_false, not_false_eq_true, eq_self, c285h, c285_19, ts_0_41_19, tz_0_41_19, I.sh.e0, hsc, hle, ev, v0, v1, v2, v3, v4, x0, x1, x2, x3, x4, a1, a2, a3, a4, Nat.zero_le, Nat.sub_zero, b1, b2, List.getD_cons_zero, List.getD_cons_succ]
  refine sc_pair (p122 I) (fun w h1 F eF e1 k1 => ?_)
  have hs1 : h1.2.2 = (n, g) := e1.trans hsc
  refine go 60 (by decide) ?_
  simp only [KX, KY, KZ, KW, KV, Nat.reduceAdd, Nat.reduceSub, Nat.reduceLeDiff, true_and, and_true, true_or, or_true, or_self, reduceCtorEq, if_true, if_false, not_false_eq_true, eq_self, c285h, c285_19, ts_0_41_19, tz_0_41_19, hs1, eF, v0, v1, v2, v3, v4, x0, x1, x2, x3, x4, a1, a2, a3, a4, Nat.zero_le, Nat.sub_zero, b1, b2]
  refine k1 _ (fun h2 I2 e2 => ?_)
  refine go 60 (by decide) ?_
  simp only [KX, KY, KZ, KW, KV, Nat.reduceAdd, Nat.reduceSub, Nat.reduceLeDiff, true_and, and_true, true_or, or_true, or_self, reduceCtorEq, if_true, if_false, not_false_eq_true, eq_self, c285h, c285_19, ts_0_41_19, tz_0_41_19, Nat.sub_zero]
  rw [a5]
  exact At_b (K h2 I2 (e2.trans hsc)) (Nat.sub_le _ _) (Nat.sub_le _ _)
theorem k285_20 {h : ma_H} {Q : ma_Q} {B1 B2 i n : Nat} {g : Nat → Int32} (I : Inv h) (hsc : h.2.2 = (n, g)) (hn : n ≤ 320) (hi : i + 5 ≤ n) (b1 : 6 ≤ B1) (b2 : 24 ≤ B2) (ev : g i &&& 63 = 20) (K : ∀ h2, Inv h2 → h2.2.2 = (n, g) → At 285 Q 10 (B1 - 6, B2 - 24) [some (.retAddr 1000), some (.ref 0), some (.ref 80), some (.int (nI (i + 5)))] [] h2) : At 285 Q 10 (B1, B2) [some (.retAddr 1000), some (.ref 0), some (.ref 80), some (.int (nI i))] [] h := by
  have hle : nI i ≤ nI n - 5 := by rw [show (5 : Int32) = nI 5 from rfl, nI_sub (by omega)]; exact nI_le (by omega) (by omega)
  have v0 : vp_in (nI (i)) n := nI_in (by omega) (by omega)
  have x0 : (nI (i)).toNatClampNeg = i := nI_clamp (by omega)
  have v1 : vp_in (nI (i + 1)) n := nI_in (by omega) (by omega)
  have x1 : (nI (i + 1)).toNatClampNeg = i + 1 := nI_clamp (by omega)
  have a1 : nI i + 1 = nI (i + 1) := nI_add i 1
  have v2 : vp_in (nI (i + 2)) n := nI_in (by omega) (by omega)
  have x2 : (nI (i + 2)).toNatClampNeg = i + 2 := nI_clamp (by omega)
  have a2 : nI i + 2 = nI (i + 2) := nI_add i 2
  have v3 : vp_in (nI (i + 3)) n := nI_in (by omega) (by omega)
  have x3 : (nI (i + 3)).toNatClampNeg = i + 3 := nI_clamp (by omega)
  have a3 : nI i + 3 = nI (i + 3) := nI_add i 3
  have v4 : vp_in (nI (i + 4)) n := nI_in (by omega) (by omega)
  have x4 : (nI (i + 4)).toNatClampNeg = i + 4 := nI_clamp (by omega)
  have a4 : nI i + 4 = nI (i + 4) := nI_add i 4
  have a5 : nI i + 5 = nI (i + 5) := nI_add i 5
  refine go 60 (by decide) ?_
  simp only [KX, KY, KZ, KW, KV, Nat.reduceAdd, Nat.reduceSub, Nat.reduceLeDiff, true_and, and_true, true_or, or_true, or_self, reduceCtorEq, if_true, if_false, not_false_eq_true, eq_self, c285h, c285_20, ts_0_41_20, tz_0_41_20, I.sh.e0, hsc, hle, ev, v0, v1, v2, v3, v4, x0, x1, x2, x3, x4, a1, a2, a3, a4, Nat.zero_le, Nat.sub_zero, b1, b2, List.getD_cons_zero, List.getD_cons_succ]
  refine sc_pair (p123 I) (fun w h1 F eF e1 k1 => ?_)
  have hs1 : h1.2.2 = (n, g) := e1.trans hsc
  refine go 60 (by decide) ?_
  simp only [KX, KY, KZ, KW, KV, Nat.reduceAdd, Nat.reduceSub, Nat.reduceLeDiff, true_and, and_true, true_or, or_true, or_self, reduceCtorEq, if_true, if_false, not_false_eq_true, eq_self, c285h, c285_20, ts_0_41_20, tz_0_41_20, hs1, eF, v0, v1, v2, v3, v4, x0, x1, x2, x3, x4, a1, a2, a3, a4, Nat.zero_le, Nat.sub_zero, b1, b2]
  refine k1 _ (fun h2 I2 e2 => ?_)
  refine go 60 (by decide) ?_
  simp only [KX, KY, KZ, KW, KV, Nat.reduceAdd, Nat.reduceSub, Nat.reduceLeDiff, true_and, and_true, true_or, or_true, or_self, reduceCtorEq, if_true, if_false, not_false_eq_true, eq_self, c285h, c285_20, ts_0_41_20, tz_0_41_20, Nat.sub_zero]
  rw [a5]
  exact At_b (K h2 I2 (e2.trans hsc)) (Nat.sub_le _ _) (Nat.sub_le _ _)
theorem k285_21 {h : ma_H} {Q : ma_Q} {B1 B2 i n : Nat} {g : Nat → Int32} (I : Inv h) (hsc : h.2.2 = (n, g)) (hn : n ≤ 320) (hi : i + 5 ≤ n) (b1 : 6 ≤ B1) (b2 : 24 ≤ B2) (ev : g i &&& 63 = 21) (K : ∀ h2, Inv h2 → h2.2.2 = (n, g) → At 285 Q 10 (B1 - 6, B2 - 24) [some (.retAddr 1000), some (.ref 0), some (.ref 80), some (.int (nI (i + 5)))] [] h2) : At 285 Q 10 (B1, B2) [some (.retAddr 1000), some (.ref 0), some (.ref 80), some (.int (nI i))] [] h := by
  have hle : nI i ≤ nI n - 5 := by rw [show (5 : Int32) = nI 5 from rfl, nI_sub (by omega)]; exact nI_le (by omega) (by omega)
  have v0 : vp_in (nI (i)) n := nI_in (by omega) (by omega)
  have x0 : (nI (i)).toNatClampNeg = i := nI_clamp (by omega)
  have v1 : vp_in (nI (i + 1)) n := nI_in (by omega) (by omega)
  have x1 : (nI (i + 1)).toNatClampNeg = i + 1 := nI_clamp (by omega)
  have a1 : nI i + 1 = nI (i + 1) := nI_add i 1
  have v2 : vp_in (nI (i + 2)) n := nI_in (by omega) (by omega)
  have x2 : (nI (i + 2)).toNatClampNeg = i + 2 := nI_clamp (by omega)
  have a2 : nI i + 2 = nI (i + 2) := nI_add i 2
  have v3 : vp_in (nI (i + 3)) n := nI_in (by omega) (by omega)
  have x3 : (nI (i + 3)).toNatClampNeg = i + 3 := nI_clamp (by omega)
  have a3 : nI i + 3 = nI (i + 3) := nI_add i 3
  have v4 : vp_in (nI (i + 4)) n := nI_in (by omega) (by omega)
  have x4 : (nI (i + 4)).toNatClampNeg = i + 4 := nI_clamp (by omega)
  have a4 : nI i + 4 = nI (i + 4) := nI_add i 4
  have a5 : nI i + 5 = nI (i + 5) := nI_add i 5
  refine go 60 (by decide) ?_
  simp only [KX, KY, KZ, KW, KV, Nat.reduceAdd, Nat.reduceSub, Nat.reduceLeDiff, true_and, and_true, true_or, or_true, or_self, reduceCtorEq, if_true, if_false, not_false_eq_true, eq_self, c285h, c285_21, ts_0_41_21, tz_0_41_21, I.sh.e0, hsc, hle, ev, v0, v1, v2, v3, v4, x0, x1, x2, x3, x4, a1, a2, a3, a4, Nat.zero_le, Nat.sub_zero, b1, b2, List.getD_cons_zero, List.getD_cons_succ]
  refine sc_pair (p124 I) (fun w h1 F eF e1 k1 => ?_)
  have hs1 : h1.2.2 = (n, g) := e1.trans hsc
  refine go 60 (by decide) ?_
  simp only [KX, KY, KZ, KW, KV, Nat.reduceAdd, Nat.reduceSub, Nat.reduceLeDiff, true_and, and_true, true_or, or_true, or_self, reduceCtorEq, if_true, if_false, not_false_eq_true, eq_self, c285h, c285_21, ts_0_41_21, tz_0_41_21, hs1, eF, v0, v1, v2, v3, v4, x0, x1, x2, x3, x4, a1, a2, a3, a4, Nat.zero_le, Nat.sub_zero, b1, b2]
  refine k1 _ (fun h2 I2 e2 => ?_)
  refine go 60 (by decide) ?_
  simp only [KX, KY, KZ, KW, KV, Nat.reduceAdd, Nat.reduceSub, Nat.reduceLeDiff, true_and, and_true, true_or, or_true, or_self, reduceCtorEq, if_true, if_false, not_false_eq_true, eq_self, c285h, c285_21, ts_0_41_21, tz_0_41_21, Nat.sub_zero]
  rw [a5]
  exact At_b (K h2 I2 (e2.trans hsc)) (Nat.sub_le _ _) (Nat.sub_le _ _)
theorem k285_22 {h : ma_H} {Q : ma_Q} {B1 B2 i n : Nat} {g : Nat → Int32} (I : Inv h) (hsc : h.2.2 = (n, g)) (hn : n ≤ 320) (hi : i + 5 ≤ n) (b1 : 6 ≤ B1) (b2 : 24 ≤ B2) (ev : g i &&& 63 = 22) (K : ∀ h2, Inv h2 → h2.2.2 = (n, g) → At 285 Q 10 (B1 - 6, B2 - 24) [some (.retAddr 1000), some (.ref 0), some (.ref 80), some (.int (nI (i + 5)))] [] h2) : At 285 Q 10 (B1, B2) [some (.retAddr 1000), some (.ref 0), some (.ref 80), some (.int (nI i))] [] h := by
  have hle : nI i ≤ nI n - 5 := by rw [show (5 : Int32) = nI 5 from rfl, nI_sub (by omega)]; exact nI_le (by omega) (by omega)
  have v0 : vp_in (nI (i)) n := nI_in (by omega) (by omega)
  have x0 : (nI (i)).toNatClampNeg = i := nI_clamp (by omega)
  have v1 : vp_in (nI (i + 1)) n := nI_in (by omega) (by omega)
  have x1 : (nI (i + 1)).toNatClampNeg = i + 1 := nI_clamp (by omega)
  have a1 : nI i + 1 = nI (i + 1) := nI_add i 1
  have v2 : vp_in (nI (i + 2)) n := nI_in (by omega) (by omega)
  have x2 : (nI (i + 2)).toNatClampNeg = i + 2 := nI_clamp (by omega)
  have a2 : nI i + 2 = nI (i + 2) := nI_add i 2
  have v3 : vp_in (nI (i + 3)) n := nI_in (by omega) (by omega)
  have x3 : (nI (i + 3)).toNatClampNeg = i + 3 := nI_clamp (by omega)
  have a3 : nI i + 3 = nI (i + 3) := nI_add i 3
  have v4 : vp_in (nI (i + 4)) n := nI_in (by omega) (by omega)
  have x4 : (nI (i + 4)).toNatClampNeg = i + 4 := nI_clamp (by omega)
  have a4 : nI i + 4 = nI (i + 4) := nI_add i 4
  have a5 : nI i + 5 = nI (i + 5) := nI_add i 5
  refine go 60 (by decide) ?_
  simp only [KX, KY, KZ, KW, KV, Nat.reduceAdd, Nat.reduceSub, Nat.reduceLeDiff, true_and, and_true, true_or, or_true, or_self, reduceCtorEq, if_true, if_false, not_false_eq_true, eq_self, c285h, c285_22, ts_0_41_22, tz_0_41_22, I.sh.e0, hsc, hle, ev, v0, v1, v2, v3, v4, x0, x1, x2, x3, x4, a1, a2, a3, a4, Nat.zero_le, Nat.sub_zero, b1, b2, List.getD_cons_zero, List.getD_cons_succ]
  refine sc_pair (p125 I) (fun w h1 F eF e1 k1 => ?_)
  have hs1 : h1.2.2 = (n, g) := e1.trans hsc
  refine go 60 (by decide) ?_
  simp only [KX, KY, KZ, KW, KV, Nat.reduceAdd, Nat.reduceSub, Nat.reduceLeDiff, true_and, and_true, true_or, or_true, or_self, reduceCtorEq, if_true, if_false, not_false_eq_true, eq_self, c285h, c285_22, ts_0_41_22, tz_0_41_22, hs1, eF, v0, v1, v2, v3, v4, x0, x1, x2, x3, x4, a1, a2, a3, a4, Nat.zero_le, Nat.sub_zero, b1, b2]
  refine k1 _ (fun h2 I2 e2 => ?_)
  refine go 60 (by decide) ?_
  simp only [KX, KY, KZ, KW, KV, Nat.reduceAdd, Nat.reduceSub, Nat.reduceLeDiff, true_and, and_true, true_or, or_true, or_self, reduceCtorEq, if_true, if_false, not_false_eq_true, eq_self, c285h, c285_22, ts_0_41_22, tz_0_41_22, Nat.sub_zero]
  rw [a5]
  exact At_b (K h2 I2 (e2.trans hsc)) (Nat.sub_le _ _) (Nat.sub_le _ _)
theorem k285_23 {h : ma_H} {Q : ma_Q} {B1 B2 i n : Nat} {g : Nat → Int32} (I : Inv h) (hsc : h.2.2 = (n, g)) (hn : n ≤ 320) (hi : i + 5 ≤ n) (b1 : 6 ≤ B1) (b2 : 24 ≤ B2) (ev : g i &&& 63 = 23) (K : ∀ h2, Inv h2 → h2.2.2 = (n, g) → At 285 Q 10 (B1 - 6, B2 - 24) [some (.retAddr 1000), some (.ref 0), some (.ref 80), some (.int (nI (i + 5)))] [] h2) : At 285 Q 10 (B1, B2) [some (.retAddr 1000), some (.ref 0), some (.ref 80), some (.int (nI i))] [] h := by
  have hle : nI i ≤ nI n - 5 := by rw [show (5 : Int32) = nI 5 from rfl, nI_sub (by omega)]; exact nI_le (by omega) (by omega)
  have v0 : vp_in (nI (i)) n := nI_in (by omega) (by omega)
  have x0 : (nI (i)).toNatClampNeg = i := nI_clamp (by omega)
  have v1 : vp_in (nI (i + 1)) n := nI_in (by omega) (by omega)
  have x1 : (nI (i + 1)).toNatClampNeg = i + 1 := nI_clamp (by omega)
  have a1 : nI i + 1 = nI (i + 1) := nI_add i 1
  have v2 : vp_in (nI (i + 2)) n := nI_in (by omega) (by omega)
  have x2 : (nI (i + 2)).toNatClampNeg = i + 2 := nI_clamp (by omega)
  have a2 : nI i + 2 = nI (i + 2) := nI_add i 2
  have v3 : vp_in (nI (i + 3)) n := nI_in (by omega) (by omega)
  have x3 : (nI (i + 3)).toNatClampNeg = i + 3 := nI_clamp (by omega)
  have a3 : nI i + 3 = nI (i + 3) := nI_add i 3
  have v4 : vp_in (nI (i + 4)) n := nI_in (by omega) (by omega)
  have x4 : (nI (i + 4)).toNatClampNeg = i + 4 := nI_clamp (by omega)
  have a4 : nI i + 4 = nI (i + 4) := nI_add i 4
  have a5 : nI i + 5 = nI (i + 5) := nI_add i 5
  refine go 60 (by decide) ?_
  simp only [KX, KY, KZ, KW, KV, Nat.reduceAdd, Nat.reduceSub, Nat.reduceLeDiff, true_and, and_true, true_or, or_true, or_self, reduceCtorEq, if_true, if_false, not_false_eq_true, eq_self, c285h, c285_23, ts_0_41_23, tz_0_41_23, I.sh.e0, hsc, hle, ev, v0, v1, v2, v3, v4, x0, x1, x2, x3, x4, a1, a2, a3, a4, Nat.zero_le, Nat.sub_zero, b1, b2, List.getD_cons_zero, List.getD_cons_succ]
  refine sc_pair (p126 I) (fun w h1 F eF e1 k1 => ?_)
  have hs1 : h1.2.2 = (n, g) := e1.trans hsc
  refine go 60 (by decide) ?_
  simp only [KX, KY, KZ, KW, KV, Nat.reduceAdd, Nat.reduceSub, Nat.reduceLeDiff, true_and, and_true, true_or, or_true, or_self, reduceCtorEq, if_true, if_false, not_false_eq_true, eq_self, c285h, c285_23, ts_0_41_23, tz_0_41_23, hs1, eF, v0, v1, v2, v3, v4, x0, x1, x2, x3, x4, a1, a2, a3, a4, Nat.zero_le, Nat.sub_zero, b1, b2]
  refine k1 _ (fun h2 I2 e2 => ?_)
  refine go 60 (by decide) ?_
  simp only [KX, KY, KZ, KW, KV, Nat.reduceAdd, Nat.reduceSub, Nat.reduceLeDiff, true_and, and_true, true_or, or_true, or_self, reduceCtorEq, if_true, if_false, not_false_eq_true, eq_self, c285h, c285_23, ts_0_41_23, tz_0_41_23, Nat.sub_zero]
  rw [a5]
  exact At_b (K h2 I2 (e2.trans hsc)) (Nat.sub_le _ _) (Nat.sub_le _ _)
theorem k285_24 {h : ma_H} {Q : ma_Q} {B1 B2 i n : Nat} {g : Nat → Int32} (I : Inv h) (hsc : h.2.2 = (n, g)) (hn : n ≤ 320) (hi : i + 5 ≤ n) (b1 : 6 ≤ B1) (b2 : 24 ≤ B2) (ev : g i &&& 63 = 24) (K : ∀ h2, Inv h2 → h2.2.2 = (n, g) → At 285 Q 10 (B1 - 6, B2 - 24) [some (.retAddr 1000), some (.ref 0), some (.ref 80), some (.int (nI (i + 5)))] [] h2) : At 285 Q 10 (B1, B2) [some (.retAddr 1000), some (.ref 0), some (.ref 80), some (.int (nI i))] [] h := by
  have hle : nI i ≤ nI n - 5 := by rw [show (5 : Int32) = nI 5 from rfl, nI_sub (by omega)]; exact nI_le (by omega) (by omega)
  have v0 : vp_in (nI (i)) n := nI_in (by omega) (by omega)
  have x0 : (nI (i)).toNatClampNeg = i := nI_clamp (by omega)
  have v1 : vp_in (nI (i + 1)) n := nI_in (by omega) (by omega)
  have x1 : (nI (i + 1)).toNatClampNeg = i + 1 := nI_clamp (by omega)
  have a1 : nI i + 1 = nI (i + 1) := nI_add i 1
  have v2 : vp_in (nI (i + 2)) n := nI_in (by omega) (by omega)
  have x2 : (nI (i + 2)).toNatClampNeg = i + 2 := nI_clamp (by omega)
  have a2 : nI i + 2 = nI (i + 2) := nI_add i 2
  have v3 : vp_in (nI (i + 3)) n := nI_in (by omega) (by omega)
  have x3 : (nI (i + 3)).toNatClampNeg = i + 3 := nI_clamp (by omega)
  have a3 : nI i + 3 = nI (i + 3) := nI_add i 3
  have v4 : vp_in (nI (i + 4)) n := nI_in (by omega) (by omega)
  have x4 : (nI (i + 4)).toNatClampNeg = i + 4 := nI_clamp (by omega)
  have a4 : nI i + 4 = nI (i + 4) := nI_add i 4
  have a5 : nI i + 5 = nI (i + 5) := nI_add i 5
  refine go 60 (by decide) ?_
  simp only [KX, KY, KZ, KW, KV, Nat.reduceAdd, Nat.reduceSub, Nat.reduceLeDiff, true_and, and_true, true_or, or_true, or_self, reduceCtorEq, if_true, if_false, not_false_eq_true, eq_self, c285h, c285_24, ts_0_41_24, tz_0_41_24, I.sh.e0, hsc, hle, ev, v0, v1, v2, v3, v4, x0, x1, x2, x3, x4, a1, a2, a3, a4, Nat.zero_le, Nat.sub_zero, b1, b2, List.getD_cons_zero, List.getD_cons_succ]
  refine sc_pairL (p127 I) (fun w h1 F eF e1 k1 => ?_)
  have hs1 : h1.2.2 = (n, g) := e1.trans hsc
  refine go 60 (by decide) ?_
  simp only [KX, KY, KZ, KW, KV, Nat.reduceAdd, Nat.reduceSub, Nat.reduceLeDiff, true_and, and_true, true_or, or_true, or_self, reduceCtorEq, if_true, if_false, not_false_eq_true, eq_self, c285h, c285_24, ts_0_41_24, tz_0_41_24, hs1, eF, v0, v1, v2, v3, v4, x0, x1, x2, x3, x4, a1, a2, a3, a4, Nat.zero_le, Nat.sub_zero, b1, b2]
  refine k1 _ (fun h2 I2 e2 => ?_)
  refine go 60 (by decide) ?_
  simp only [KX, KY, KZ, KW, KV, Nat.reduceAdd, Nat.reduceSub, Nat.reduceLeDiff, true_and, and_true, true_or, or_true, or_self, reduceCtorEq, if_true, if_false, not_false_eq_true, eq_self, c285h, c285_24, ts_0_41_24, tz_0_41_24, Nat.sub_zero, lg_self]
  rw [a5]
  exact At_b (K h2 I2 (e2.trans hsc)) (Nat.sub_le _ _) (Nat.sub_le _ _)
theorem k285_25 {h : ma_H} {Q : ma_Q} {B1 B2 i n : Nat} {g : Nat → Int32} (I : Inv h) (hsc : h.2.2 = (n, g)) (hn : n ≤ 320) (hi : i + 5 ≤ n) (b1 : 6 ≤ B1) (b2 : 24 ≤ B2) (ev : g i &&& 63 = 25) (K : ∀ h2, Inv h2 → h2.2.2 = (n, g) → At 285 Q 10 (B1 - 6, B2 - 24) [some (.retAddr 1000), some (.ref 0), some (.ref 80), some (.int (nI (i + 5)))] [] h2) : At 285 Q 10 (B1, B2) [some (.retAddr 1000), some (.ref 0), some (.ref 80), some (.int (nI i))] [] h := by
  have hle : nI i ≤ nI n - 5 := by rw [show (5 : Int32) = nI 5 from rfl, nI_sub (by omega)]; exact nI_le (by omega) (by omega)
  have v0 : vp_in (nI (i)) n := nI_in (by omega) (by omega)
  have x0 : (nI (i)).toNatClampNeg = i := nI_clamp (by omega)
  have v1 : vp_in (nI (i + 1)) n := nI_in (by omega) (by omega)
  have x1 : (nI (i + 1)).toNatClampNeg = i + 1 := nI_clamp (by omega)
  have a1 : nI i + 1 = nI (i + 1) := nI_add i 1
  have v2 : vp_in (nI (i + 2)) n := nI_in (by omega) (by omega)
  have x2 : (nI (i + 2)).toNatClampNeg = i + 2 := nI_clamp (by omega)
  have a2 : nI i + 2 = nI (i + 2) := nI_add i 2
  have v3 : vp_in (nI (i + 3)) n := nI_in (by omega) (by omega)
  have x3 : (nI (i + 3)).toNatClampNeg = i + 3 := nI_clamp (by omega)
  have a3 : nI i + 3 = nI (i + 3) := nI_add i 3
  have v4 : vp_in (nI (i + 4)) n := nI_in (by omega) (by omega)
  have x4 : (nI (i + 4)).toNatClampNeg = i + 4 := nI_clamp (by omega)
  have a4 : nI i + 4 = nI (i + 4) := nI_add i 4
  have a5 : nI i + 5 = nI (i + 5) := nI_add i 5
  refine go 60 (by decide) ?_
  simp only [KX, KY, KZ, KW, KV, Nat.reduceAdd, Nat.reduceSub, Nat.reduceLeDiff, true_and, and_true, true_or, or_true, or_self, reduceCtorEq, if_true, if_false, not_false_eq_true, eq_self, c285h, c285_25, ts_0_41_25, tz_0_41_25, I.sh.e0, hsc, hle, ev, v0, v1, v2, v3, v4, x0, x1, x2, x3, x4, a1, a2, a3, a4, Nat.zero_le, Nat.sub_zero, b1, b2, List.getD_cons_zero, List.getD_cons_succ]
  refine sc_pair (p128 I) (fun w h1 F eF e1 k1 => ?_)
  have hs1 : h1.2.2 = (n, g) := e1.trans hsc
  refine go 60 (by decide) ?_
  simp only [KX, KY, KZ, KW, KV, Nat.reduceAdd, Nat.reduceSub, Nat.reduceLeDiff, true_and, and_true, true_or, or_true, or_self, reduceCtorEq, if_true, if_false, not_false_eq_true, eq_self, c285h, c285_25, ts_0_41_25, tz_0_41_25, hs1, eF, v0, v1, v2, v3, v4, x0, x1, x2, x3, x4, a1, a2, a3, a4, Nat.zero_le, Nat.sub_zero, b1, b2]
  refine k1 _ (fun h2 I2 e2 => ?_)
  refine go 60 (by decide) ?_
  simp only [KX, KY, KZ, KW, KV, Nat.reduceAdd, Nat.reduceSub, Nat.reduceLeDiff, true_and, and_true, true_or, or_true, or_self, reduceCtorEq, if_true, if_false, not_false_eq_true, eq_self, c285h, c285_25, ts_0_41_25, tz_0_41_25, Nat.sub_zero]
  rw [a5]
  exact At_b (K h2 I2 (e2.trans hsc)) (Nat.sub_le _ _) (Nat.sub_le _ _)
theorem k285_26 {h : ma_H} {Q : ma_Q} {B1 B2 i n : Nat} {g : Nat → Int32} (I : Inv h) (hsc : h.2.2 = (n, g)) (hn : n ≤ 320) (hi : i + 5 ≤ n) (b1 : 6 ≤ B1) (b2 : 24 ≤ B2) (ev : g i &&& 63 = 26) (K : ∀ h2, Inv h2 → h2.2.2 = (n, g) → At 285 Q 10 (B1 - 6, B2 - 24) [some (.retAddr 1000), some (.ref 0), some (.ref 80), some (.int (nI (i + 5)))] [] h2) : At 285 Q 10 (B1, B2) [some (.retAddr 1000), some (.ref 0), some (.ref 80), some (.int (nI i))] [] h := by
  have hle : nI i ≤ nI n - 5 := by rw [show (5 : Int32) = nI 5 from rfl, nI_sub (by omega)]; exact nI_le (by omega) (by omega)
  have v0 : vp_in (nI (i)) n := nI_in (by omega) (by omega)
  have x0 : (nI (i)).toNatClampNeg = i := nI_clamp (by omega)
  have v1 : vp_in (nI (i + 1)) n := nI_in (by omega) (by omega)
  have x1 : (nI (i + 1)).toNatClampNeg = i + 1 := nI_clamp (by omega)
  have a1 : nI i + 1 = nI (i + 1) := nI_add i 1
  have v2 : vp_in (nI (i + 2)) n := nI_in (by omega) (by omega)
  have x2 : (nI (i + 2)).toNatClampNeg = i + 2 := nI_clamp (by omega)
  have a2 : nI i + 2 = nI (i + 2) := nI_add i 2
  have v3 : vp_in (nI (i + 3)) n := nI_in (by omega) (by omega)
  have x3 : (nI (i + 3)).toNatClampNeg = i + 3 := nI_clamp (by omega)
  have a3 : nI i + 3 = nI (i + 3) := nI_add i 3
  have v4 : vp_in (nI (i + 4)) n := nI_in (by omega) (by omega)
  have x4 : (nI (i + 4)).toNatClampNeg = i + 4 := nI_clamp (by omega)
  have a4 : nI i + 4 = nI (i + 4) := nI_add i 4
  have a5 : nI i + 5 = nI (i + 5) := nI_add i 5
  refine go 60 (by decide) ?_
  simp only [KX, KY, KZ, KW, KV, Nat.reduceAdd, Nat.reduceSub, Nat.reduceLeDiff, true_and, and_true, true_or, or_true, or_self, reduceCtorEq, if_true, if_false, not_false_eq_true, eq_self, c285h, c285_26, ts_0_41_26, tz_0_41_26, I.sh.e0, hsc, hle, ev, v0, v1, v2, v3, v4, x0, x1, x2, x3, x4, a1, a2, a3, a4, Nat.zero_le, Nat.sub_zero, b1, b2, List.getD_cons_zero, List.getD_cons_succ]
  refine sc_pair (p129 I) (fun w h1 F eF e1 k1 => ?_)
  have hs1 : h1.2.2 = (n, g) := e1.trans hsc
  refine go 60 (by decide) ?_
  simp only [KX, KY, KZ, KW, KV, Nat.reduceAdd, Nat.reduceSub, Nat.reduceLeDiff, true_and, and_true, true_or, or_true, or_self, reduceCtorEq, if_true, if_false, not_false_eq_true, eq_self, c285h, c285_26, ts_0_41_26, tz_0_41_26, hs1, eF, v0, v1, v2, v3, v4, x0, x1, x2, x3, x4, a1, a2, a3, a4, Nat.zero_le, Nat.sub_zero, b1, b2]
  refine k1 _ (fun h2 I2 e2 => ?_)
  refine go 60 (by decide) ?_
  simp only [KX, KY, KZ, KW, KV, Nat.reduceAdd, Nat.reduceSub, Nat.reduceLeDiff, true_and, and_true, true_or, or_true, or_self, reduceCtorEq, if_true, if_false, not_false_eq_true, eq_self, c285h, c285_26, ts_0_41_26, tz_0_41_26, Nat.sub_zero]
  rw [a5]
  exact At_b (K h2 I2 (e2.trans hsc)) (Nat.sub_le _ _) (Nat.sub_le _ _)
theorem k285_27 {h : ma_H} {Q : ma_Q} {B1 B2 i n : Nat} {g : Nat → Int32} (I : Inv h) (hsc : h.2.2 = (n, g)) (hn : n ≤ 320) (hi : i + 5 ≤ n) (b1 : 6 ≤ B1) (b2 : 24 ≤ B2) (ev : g i &&& 63 = 27) (K : ∀ h2, Inv h2 → h2.2.2 = (n, g) → At 285 Q 10 (B1 - 6, B2 - 24) [some (.retAddr 1000), some (.ref 0), some (.ref 80), some (.int (nI (i + 5)))] [] h2) : At 285 Q 10 (B1, B2) [some (.retAddr 1000), some (.ref 0), some (.ref 80), some (.int (nI i))] [] h := by
  have hle : nI i ≤ nI n - 5 := by rw [show (5 : Int32) = nI 5 from rfl, nI_sub (by omega)]; exact nI_le (by omega) (by omega)
  have v0 : vp_in (nI (i)) n := nI_in (by omega) (by omega)
  have x0 : (nI (i)).toNatClampNeg = i := nI_clamp (by omega)
  have v1 : vp_in (nI (i + 1)) n := nI_in (by omega) (by omega)
  have x1 : (nI (i + 1)).toNatClampNeg = i + 1 := nI_clamp (by omega)
  have a1 : nI i + 1 = nI (i + 1) := nI_add i 1
  have v2 : vp_in (nI (i + 2)) n := nI_in (by omega) (by omega)
  have x2 : (nI (i + 2)).toNatClampNeg = i + 2 := nI_clamp (by omega)
  have a2 : nI i + 2 = nI (i + 2) := nI_add i 2
  have v3 : vp_in (nI (i + 3)) n := nI_in (by omega) (by omega)
  have x3 : (nI (i + 3)).toNatClampNeg = i + 3 := nI_clamp (by omega)
  have a3 : nI i + 3 = nI (i + 3) := nI_add i 3
  have v4 : vp_in (nI (i + 4)) n := nI_in (by omega) (by omega)
  have x4 : (nI (i + 4)).toNatClampNeg = i + 4 := nI_clamp (by omega)
  have a4 : nI i + 4 = nI (i + 4) := nI_add i 4
  have a5 : nI i + 5 = nI (i + 5) := nI_add i 5
  refine go 60 (by decide) ?_
  simp only [KX, KY, KZ, KW, KV, Nat.reduceAdd, Nat.reduceSub, Nat.reduceLeDiff, true_and, and_true, true_or, or_true, or_self, reduceCtorEq, if_true, if_false, not_false_eq_true, eq_self, c285h, c285_27, ts_0_41_27, tz_0_41_27, I.sh.e0, hsc, hle, ev, v0, v1, v2, v3, v4, x0, x1, x2, x3, x4, a1, a2, a3, a4, Nat.zero_le, Nat.sub_zero, b1, b2, List.getD_cons_zero, List.getD_cons_succ]
  refine sc_pair (p130 I) (fun w h1 F eF e1 k1 => ?_)
  have hs1 : h1.2.2 = (n, g) := e1.trans hsc
  refine go 60 (by decide) ?_
  simp only [KX, KY, KZ, KW, KV, Nat.reduceAdd, Nat.reduceSub, Nat.reduceLeDiff, true_and, and_true, true_or, or_true, or_self, reduceCtorEq, if_true, if_false, not_false_eq_true, eq_self, c285h, c285_27, ts_0_41_27, tz_0_41_27, hs1, eF, v0, v1, v2, v3, v4, x0, x1, x2, x3, x4, a1, a2, a3, a4, Nat.zero_le, Nat.sub_zero, b1, b2]
  refine k1 _ (fun h2 I2 e2 => ?_)
  refine go 60 (by decide) ?_
  simp only [KX, KY, KZ, KW, KV, Nat.reduceAdd, Nat.reduceSub, Nat.reduceLeDiff, true_and, and_true, true_or, or_true, or_self, reduceCtorEq, if_true, if_false, not_false_eq_true, eq_self, c285h, c285_27, ts_0_41_27, tz_0_41_27, Nat.sub_zero]
  rw [a5]
  exact At_b (K h2 I2 (e2.trans hsc)) (Nat.sub_le _ _) (Nat.sub_le _ _)
