/-! law: the Model reads a CLAUSE: the end -/
theorem mt99s {hm : ma_H} {b : Nat → Nat} {n k : Nat} {g m p o : Int32} {fr pe : Nat → Int32} {c : ma_C} : (MT (ma_set hm 99 c) b n k g m p o fr pe).2.1 99 = c := (ms_ne (by decide) (by decide) (by decide)).trans (ma_set_at _ _ _)
/-- the table of CLAUSES behind one more -/
def u99 (f0 : Nat → Int32) (i u f g : Nat) : Nat → Int32 := upd (upd (upd f0 (3 * i) (kd u)) (3 * i + 1) (nI f)) (3 * i + 2) (nI g)
theorem nI_3 (i : Nat) : (3 : Int32) * nI i = nI (3 * i) := nI_mul 3 i
theorem nI_p2 (i : Nat) : nI i + 2 = nI (i + 2) := nI_add i 2
theorem y190F {hm : ma_H} {b : Nat → Nat} {n : Nat} {i kk : Nat} {Q : ma_Q} {g u w f : Int32} {F : List Int32} {hh : ma_H} (Y : MZ hm b n kk g F hh) (kF : ∀ h2 F2, MZ hm b n kk 0 F2 h2 → Q none h2) : At 190 Q 90 (0, 0) [some (.ref 80), some (.int (nI i)), some (.int u), some (.int w), some (.int f)] [.int 0, .ref 80] hh := by
  obtain ⟨fr0, pe0, p0, o0, rfl, W0⟩ := Y.at
  refine go 60 (by decide) ?_
  simp only [KX, KY, KZ, KW, KV, Nat.reduceAdd, Nat.reduceSub, Nat.reduceLeDiff, true_and, and_true, true_or, or_true, or_self, reduceCtorEq, if_true, if_false, not_false_eq_true, eq_self, c190, mt80, mt96, mt97, mtw, mtf, mtp, List.set_cons_succ, List.set_cons_zero, MFT, List.length_cons, List.length_nil, Nat.reduceLT, Nat.zero_add]
  exact kF _ _ (W0 0 p0 o0)
theorem y190U {hm : ma_H} {b : Nat → Nat} {n : Nat} (X : MX hm b n) {i : Nat} (hi : i < 8) {Q : ma_Q} {kk U F0 : Nat} {w : Int32} {F : List Int32} {hh : ma_H} (Y : MZ hm b n kk 1 F hh) (hw : w = kd U) (kT : ∀ h2, MZ (ma_set hm 99 (.inl (.int, 24, .inl (u99 (ai hm 99) i U F0 F.length)))) b n (kk + 1) 1 F h2 → Q none h2) : At 190 Q 90 (0, 0) [some (.ref 80), some (.int (nI i)), some (.int 1), some (.int w), some (.int (nI F0))] [.int 1, .ref 80] hh := by
  have c30 : (nI (3 * i)).toNatClampNeg = 3 * i := nI_clamp (by omega)
  have c31 : (nI (3 * i + 1)).toNatClampNeg = 3 * i + 1 := nI_clamp (by omega)
  have c32 : (nI (3 * i + 2)).toNatClampNeg = 3 * i + 2 := nI_clamp (by omega)
  have i30 : vp_in (nI (3 * i)) 24 := nI_in (by omega) (by decide)
  have i31 : vp_in (nI (3 * i + 1)) 24 := nI_in (by omega) (by decide)
  have i32 : vp_in (nI (3 * i + 2)) 24 := nI_in (by omega) (by decide)
  unfold u99 at kT
  subst hw
  obtain ⟨fr0, pe0, p0, o0, rfl, W0⟩ := Y.at
  refine go 60 (by decide) ?_
  simp only [KX, KY, KZ, KW, KV, Nat.reduceAdd, Nat.reduceSub, Nat.reduceLeDiff, true_and, and_true, true_or, or_true, or_self, reduceCtorEq, if_true, if_false, not_false_eq_true, eq_self, c190, mt80, mt96, mt97, mtw, mtf, mtp, List.set_cons_succ, List.set_cons_zero, MFT, List.length_cons, List.length_nil, Nat.reduceLT, Nat.zero_add]
  refine z178 (W0 1 p0 o0) X (fun h2 Y2 => ?_)
  obtain ⟨fr3, pe3, p3, o3, rfl, s1, f2⟩ := Y2
  refine go 60 (by decide) ?_
  simp only [KX, KY, KZ, KW, KV, Nat.reduceAdd, Nat.reduceSub, Nat.reduceLeDiff, true_and, and_true, true_or, or_true, or_self, reduceCtorEq, if_true, if_false, not_false_eq_true, eq_self, c190, mt80, mt96, mt97, mtw, mtf, mtp, List.set_cons_succ, List.set_cons_zero, MFT, List.length_cons, List.length_nil, Nat.reduceLT, Nat.zero_add]
  refine go 60 (by decide) ?_
  simp only [KX, KY, KZ, KW, KV, Nat.reduceAdd, Nat.reduceSub, Nat.reduceLeDiff, true_and, and_true, true_or, or_true, or_self, reduceCtorEq, if_true, if_false, not_false_eq_true, eq_self, c190, mt80, mt96, mt97, mtw, mtf, mtp, List.set_cons_succ, List.set_cons_zero, MFT, List.length_cons, List.length_nil, Nat.reduceLT, Nat.zero_add, mt99, mt99r X.1, mt99s, ma_set_set, ai_at, nI_3, nI_1, nI_p2, c30, c31, c32]
  refine ⟨i30, i31, i32, ?_⟩
  exact kT _ ⟨fr3, pe3, p3, o3, rfl, s1, f2⟩
theorem y190P {hm : ma_H} {b : Nat → Nat} {n : Nat} (X : MX hm b n) {i : Nat} (hi : i < 8) {Q : ma_Q} {kk U F0 : Nat} {w : Int32} {F : List Int32} {hh : ma_H} (Y : MZ hm b n kk 1 F hh) (hw : U = 6) (kT : ∀ h2, MZ (ma_set hm 99 (.inl (.int, 24, .inl (u99 (ai hm 99) i U F0 F.length)))) b n (kk + 1) 1 F h2 → Q none h2) : At 190 Q 90 (0, 0) [some (.ref 80), some (.int (nI i)), some (.int 0), some (.int w), some (.int (nI F0))] [.int 1, .ref 80] hh := by
  have c30 : (nI (3 * i)).toNatClampNeg = 3 * i := nI_clamp (by omega)
  have c31 : (nI (3 * i + 1)).toNatClampNeg = 3 * i + 1 := nI_clamp (by omega)
  have c32 : (nI (3 * i + 2)).toNatClampNeg = 3 * i + 2 := nI_clamp (by omega)
  have i30 : vp_in (nI (3 * i)) 24 := nI_in (by omega) (by decide)
  have i31 : vp_in (nI (3 * i + 1)) 24 := nI_in (by omega) (by decide)
  have i32 : vp_in (nI (3 * i + 2)) 24 := nI_in (by omega) (by decide)
  unfold u99 at kT
  subst hw
  obtain ⟨fr0, pe0, p0, o0, rfl, W0⟩ := Y.at
  refine go 60 (by decide) ?_
  simp only [KX, KY, KZ, KW, KV, Nat.reduceAdd, Nat.reduceSub, Nat.reduceLeDiff, true_and, and_true, true_or, or_true, or_self, reduceCtorEq, if_true, if_false, not_false_eq_true, eq_self, c190, mt80, mt96, mt97, mtw, mtf, mtp, List.set_cons_succ, List.set_cons_zero, MFT, List.length_cons, List.length_nil, Nat.reduceLT, Nat.zero_add]
  refine z178 (W0 1 p0 o0) X (fun h2 Y2 => ?_)
  obtain ⟨fr3, pe3, p3, o3, rfl, s1, f2⟩ := Y2
  refine go 60 (by decide) ?_
  simp only [KX, KY, KZ, KW, KV, Nat.reduceAdd, Nat.reduceSub, Nat.reduceLeDiff, true_and, and_true, true_or, or_true, or_self, reduceCtorEq, if_true, if_false, not_false_eq_true, eq_self, c190, mt80, mt96, mt97, mtw, mtf, mtp, List.set_cons_succ, List.set_cons_zero, MFT, List.length_cons, List.length_nil, Nat.reduceLT, Nat.zero_add]
  refine go 60 (by decide) ?_
  simp only [KX, KY, KZ, KW, KV, Nat.reduceAdd, Nat.reduceSub, Nat.reduceLeDiff, true_and, and_true, true_or, or_true, or_self, reduceCtorEq, if_true, if_false, not_false_eq_true, eq_self, c190, mt80, mt96, mt97, mtw, mtf, mtp, List.set_cons_succ, List.set_cons_zero, MFT, List.length_cons, List.length_nil, Nat.reduceLT, Nat.zero_add, mt99, mt99r X.1, mt99s, ma_set_set, ai_at, nI_3, nI_1, nI_p2, c30, c31, c32]
  refine ⟨i30, i31, i32, ?_⟩
  exact kT _ ⟨fr3, pe3, p3, o3, rfl, s1, f2⟩
